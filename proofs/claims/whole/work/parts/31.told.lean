/-! told, paper, paint, lines -/
section tw_s31
variable {L : Nat} {xs : Nat → Int32} {σ : tw_Mem} {x y w : Int32} {n r i c k h q a b e : Nat}
/-- g over i, i + 1, .. (f of them) -/
def tw_fo {α : Type} (g : Nat → α → α) : Nat → Nat → α → α
  | _, 0, a => a
  | i, f + 1, a => tw_fo g (i + 1) f (g i a)
def tw_absI (x : Int32) : Int32 := if nI 0 ≤ x then x else -x
def tw_maxI (x y : Int32) : Int32 := if x < y then y else x
def tw_minI (x y : Int32) : Int32 := if y < x then y else x
def tw_gSum (σ : tw_Mem) : Nat → Int32 → Int32 := fun i a => a + tw_absI (σ 94 i)
def tw_gFl (σ : tw_Mem) (c : Nat) : Nat → Int32 × Int32 → Int32 × Int32 := fun i p => if σ 98 (10 * i + c) = nI 0 then (tw_maxI p.1 (p.2 + nI 1), p.2 + nI 1) else (tw_maxI p.1 (nI 0), nI 0)
def tw_gFm (σ : tw_Mem) (r : Nat) : Nat → Int32 → Int32 := fun c a => tw_maxI a (tw_fo (tw_gFl σ c) 0 r (nI 0, nI 0)).1
theorem tw_e_absI {x : Int32} : tw_E L xs 0 261 [.int x] σ (fun v σ1 => v = some (.int (tw_absI x)) ∧ σ = σ1) := tw_e_abs
theorem tw_e_maxI {x y : Int32} : tw_E L xs 0 262 [.int x, .int y] σ (fun v σ1 => v = some (.int (tw_maxI x y)) ∧ σ = σ1) := tw_e_max
theorem tw_e_minI {x y : Int32} : tw_E L xs 0 263 [.int x, .int y] σ (fun v σ1 => v = some (.int (tw_minI x y)) ∧ σ = σ1) := tw_e_min
set_option maxHeartbeats 4000000 in
set_option maxRecDepth 100000 in
theorem tw_l_sum {L : Nat} {xs : Nat → Int32} {Q : Option Value → tw_Mem → Prop} {σ : tw_Mem} {n : Nat} (hn6 : σ 6 4 = nI n) (hn10 : n ≤ 10) (hCa : ∀ c, c < n → σ (2 * c + 18) 3 = σ 94 c) : ∀ (f i : Nat) (a : Int32), i + f = n → tw_P L xs 2 101 17 [.ref 6, .int (tw_fo (tw_gSum σ) i f a), .int (nI n)] [] σ Q → tw_P L xs 2 101 4 [.ref 6, .int a, .int (nI i)] [] σ Q := by
  intro f
  induction f with
  | zero =>
    intro i a  hf hQ
    have hf : n = i := Eq.symm hf
    subst hf
    refine tw_sgn 3 (i1 := 7) (ls0 := [.ref 6, .int a, .int (nI n)]) (st0 := [.int (σ 6 4), .int (nI n)]) (σ0 := σ) (ls1 := [.ref 6, .int a, .int (nI n)]) (st1 := [.int (nI n), .int (nI n)]) (σ1 := σ) rfl (rfl) (by simp only [hn6, tw_nadd, tw_nmul]) (rfl) ?_
    refine tw_biT (c := .ge) rfl (by rw [tw_cge, tw_nle (by omega) (by omega)] <;> omega) ?_
    show tw_P L xs _ 101 17 [.ref 6, .int a, .int (nI n)] [] σ _
    exact hQ
  | succ f ih =>
    intro i a  hf hQ
    refine tw_sgn 3 (i1 := 7) (ls0 := [.ref 6, .int a, .int (nI i)]) (st0 := [.int (σ 6 4), .int (nI i)]) (σ0 := σ) (ls1 := [.ref 6, .int a, .int (nI i)]) (st1 := [.int (nI n), .int (nI i)]) (σ1 := σ) rfl (rfl) (by simp only [hn6, tw_nadd, tw_nmul]) (rfl) ?_
    refine tw_biF (c := .ge) rfl (by rw [tw_cge', tw_nle (by omega) (by omega)] <;> omega) ?_
    show tw_P L xs _ 101 8 [.ref 6, .int a, .int (nI i)] [] σ _
    refine tw_sg 3 (i1 := 11) (ls1 := [.ref 6, .int a, .int (nI i)]) (st1 := [.int (nI i), .ref 6, .int a]) (σ1 := σ) rfl ?_
    refine tw_cl0 1 rfl (rfl) (by decide) ?_
    show tw_P L xs _ 100 0 [.ref 6, .int (nI i), tw_U] [] σ _
    refine tw_sg 2 (i1 := 2) (ls1 := [.ref 6, .int (nI i), tw_U]) (st1 := [.int (nI i), .ref 6]) (σ1 := σ) rfl ?_
    refine tw_cl1 rfl (rfl) (by decide) (tw_e_cardAt1 hn6 hn10 (by omega)) ?_
    rintro _ _ ⟨rfl, rfl⟩
    show tw_P L xs _ 100 3 [.ref 6, .int (nI i), tw_U] [.ref (2 * i + 18)] σ _
    refine tw_sg 4 (i1 := 9) (ls1 := [.ref 6, .int (nI i), .ref (2 * i + 18)]) (st1 := [.ref (2 * i + 18)]) (σ1 := σ) rfl ?_
    refine tw_cl0 0 rfl (tw_inv_ok (y := 7) (b := 0) (st := [.ref (2 * i + 18)]) (k := (2 * i + 18)) (r := []) rfl rfl (tw_cdO (by omega))) (by decide) ?_
    show tw_P L xs _ 7 0 [.ref (2 * i + 18)] [] σ _
    refine tw_sg 1 (i1 := 1) (ls1 := [.ref (2 * i + 18)]) (st1 := [.ref (2 * i + 18)]) (σ1 := σ) rfl ?_
    refine tw_gf rfl (tw_cdO (by omega)) (tw_cdB (by omega) (by decide)) (v := .int (σ (2 * i + 18) 3)) (tw_cdV3 (by omega)) ?_
    rw [(hCa i (by omega))]
    refine tw_ri rfl (rfl) ?_
    show tw_P L xs _ 100 10 [.ref 6, .int (nI i), .ref (2 * i + 18)] [.int (σ 94 i)] σ _
    refine tw_ri rfl (rfl) ?_
    show tw_P L xs _ 101 12 [.ref 6, .int a, .int (nI i)] [.int (σ 94 i), .int a] σ _
    refine tw_cl1 rfl (rfl) (by decide) (tw_e_absI) ?_
    rintro _ _ ⟨rfl, rfl⟩
    show tw_P L xs _ 101 13 [.ref 6, .int a, .int (nI i)] [.int (tw_absI (σ 94 i)), .int a] σ _
    refine tw_sgn 4 (i1 := 4) (ls0 := [.ref 6, .int (a + (tw_absI (σ 94 i))), .int (nI i + nI 1)]) (st0 := []) (σ0 := σ) (ls1 := [.ref 6, .int (a + (tw_absI (σ 94 i))), .int (nI (i + 1))]) (st1 := []) (σ1 := σ) rfl (by simp only [tw_nadd, tw_nmul]) (rfl) (rfl) ?_
    exact ih (i + 1) _ (by omega) hQ
set_option maxHeartbeats 4000000 in
set_option maxRecDepth 100000 in
theorem tw_e_sum (hn6 : σ 6 4 = nI n) (hn10 : n ≤ 10) (hCa : ∀ c, c < n → σ (2 * c + 18) 3 = σ 94 c) : tw_E L xs 2 101 [.ref 6] σ (fun v σ1 => v = some (.int (tw_fo (tw_gSum σ) 0 n (nI 0))) ∧ σ = σ1) := by
  show tw_P L xs _ 101 0 [.ref 6, tw_U, tw_U] [] σ _
  refine tw_sg 4 (i1 := 4) (ls1 := [.ref 6, .int (nI 0), .int (nI 0)]) (st1 := []) (σ1 := σ) rfl ?_
  refine tw_l_sum hn6 hn10 hCa n 0 _ (by omega) ?_
  show tw_P L xs _ 101 17 [.ref 6, .int (tw_fo (tw_gSum σ) 0 n (nI 0)), .int (nI n)] [] σ _
  refine tw_sg 1 (i1 := 18) (ls1 := [.ref 6, .int (tw_fo (tw_gSum σ) 0 n (nI 0)), .int (nI n)]) (st1 := [.int (tw_fo (tw_gSum σ) 0 n (nI 0))]) (σ1 := σ) rfl ?_
  exact tw_ri rfl rfl ⟨rfl, rfl⟩
set_option maxHeartbeats 4000000 in
set_option maxRecDepth 100000 in
theorem tw_l_long {L : Nat} {xs : Nat → Int32} {Q : Option Value → tw_Mem → Prop} {σ : tw_Mem} {r n c : Nat} (hr9 : σ 9 3 = nI r) (hw9 : σ 9 4 = nI n) (h50 : r ≤ 50) (h10 : n ≤ 10) (hc : c < n) (hRo : ∀ i, i < r → σ 10 ((i * 10 + c) * 4 + 3) = σ 98 (10 * i + c)) : ∀ (f i : Nat) (a b : Int32), i + f = r → tw_P L xs 3 25 29 [.ref 9, .int (nI c), .int (nI 3), .int (nI 0), .int ((tw_fo (tw_gFl σ c) i f (a, b)).1), .int ((tw_fo (tw_gFl σ c) i f (a, b)).2), .int (nI r)] [] σ Q → tw_P L xs 3 25 6 [.ref 9, .int (nI c), .int (nI 3), .int (nI 0), .int a, .int b, .int (nI i)] [] σ Q := by
  intro f
  induction f with
  | zero =>
    intro i a b  hf hQ
    have hf : r = i := Eq.symm hf
    subst hf
    refine tw_sgn 3 (i1 := 9) (ls0 := [.ref 9, .int (nI c), .int (nI 3), .int (nI 0), .int a, .int b, .int (nI r)]) (st0 := [.int (σ 9 3), .int (nI r)]) (σ0 := σ) (ls1 := [.ref 9, .int (nI c), .int (nI 3), .int (nI 0), .int a, .int b, .int (nI r)]) (st1 := [.int (nI r), .int (nI r)]) (σ1 := σ) rfl (rfl) (by simp only [hr9, tw_nadd, tw_nmul]) (rfl) ?_
    refine tw_biT (c := .ge) rfl (by rw [tw_cge, tw_nle (by omega) (by omega)] <;> omega) ?_
    show tw_P L xs _ 25 29 [.ref 9, .int (nI c), .int (nI 3), .int (nI 0), .int a, .int b, .int (nI r)] [] σ _
    exact hQ
  | succ f ih =>
    intro i a b  hf hQ
    refine tw_sgn 3 (i1 := 9) (ls0 := [.ref 9, .int (nI c), .int (nI 3), .int (nI 0), .int a, .int b, .int (nI i)]) (st0 := [.int (σ 9 3), .int (nI i)]) (σ0 := σ) (ls1 := [.ref 9, .int (nI c), .int (nI 3), .int (nI 0), .int a, .int b, .int (nI i)]) (st1 := [.int (nI r), .int (nI i)]) (σ1 := σ) rfl (rfl) (by simp only [hr9, tw_nadd, tw_nmul]) (rfl) ?_
    refine tw_biF (c := .ge) rfl (by rw [tw_cge', tw_nle (by omega) (by omega)] <;> omega) ?_
    show tw_P L xs _ 25 10 [.ref 9, .int (nI c), .int (nI 3), .int (nI 0), .int a, .int b, .int (nI i)] [] σ _
    refine tw_sg 4 (i1 := 14) (ls1 := [.ref 9, .int (nI c), .int (nI 3), .int (nI 0), .int a, .int b, .int (nI i)]) (st1 := [.int (nI 3), .int (nI c), .int (nI i), .ref 9]) (σ1 := σ) rfl ?_
    refine tw_cl1 rfl (rfl) (by decide) (tw_E_mono (tw_e_cell1 hr9 hw9 h50 h10 (by omega) hc (by decide)) (fun v σ1 h => (⟨by rw [h.1, hRo i (by omega)], h.2⟩ : v = some (.int (σ 98 (10 * i + c))) ∧ σ = σ1))) ?_
    rintro _ _ ⟨rfl, rfl⟩
    show tw_P L xs _ 25 15 [.ref 9, .int (nI c), .int (nI 3), .int (nI 0), .int a, .int b, .int (nI i)] [.int (σ 98 (10 * i + c))] σ _
    refine tw_sg 1 (i1 := 16) (ls1 := [.ref 9, .int (nI c), .int (nI 3), .int (nI 0), .int a, .int b, .int (nI i)]) (st1 := [.int (nI 0), .int (σ 98 (10 * i + c))]) (σ1 := σ) rfl ?_
    refine tw_bi (c := .ne) rfl (fun h1 => ?_) (fun h1 => ?_)
    · rw [tw_cne] at h1
      refine tw_sg 4 (i1 := 25) (ls1 := [.ref 9, .int (nI c), .int (nI 3), .int (nI 0), .int a, .int (nI 0), .int (nI i)]) (st1 := [.int (nI 0), .int a]) (σ1 := σ) rfl ?_
      refine tw_cl1 rfl (rfl) (by decide) (tw_e_maxI) ?_
      rintro _ _ ⟨rfl, rfl⟩
      show tw_P L xs _ 25 26 [.ref 9, .int (nI c), .int (nI 3), .int (nI 0), .int a, .int (nI 0), .int (nI i)] [.int (tw_maxI a (nI 0))] σ _
      refine tw_sgn 3 (i1 := 6) (ls0 := [.ref 9, .int (nI c), .int (nI 3), .int (nI 0), .int (tw_maxI a (nI 0)), .int (nI 0), .int (nI i + nI 1)]) (st0 := []) (σ0 := σ) (ls1 := [.ref 9, .int (nI c), .int (nI 3), .int (nI 0), .int (tw_maxI a (nI 0)), .int (nI 0), .int (nI (i + 1))]) (st1 := []) (σ1 := σ) rfl (by simp only [tw_nadd, tw_nmul]) (rfl) (rfl) ?_
      have e : (tw_gFl σ c) i (a, b) = (tw_maxI a (nI 0), nI 0) := by
        unfold tw_gFl
        first | rw [if_pos (by assumption)] | rw [if_neg (by assumption)]
      rw [tw_fo, e] at hQ
      exact ih (i + 1) _ _ (by omega) hQ
    · rw [tw_cne'] at h1
      refine tw_sg 7 (i1 := 25) (ls1 := [.ref 9, .int (nI c), .int (nI 3), .int (nI 0), .int a, .int (b + nI 1), .int (nI i)]) (st1 := [.int (b + nI 1), .int a]) (σ1 := σ) rfl ?_
      refine tw_cl1 rfl (rfl) (by decide) (tw_e_maxI) ?_
      rintro _ _ ⟨rfl, rfl⟩
      show tw_P L xs _ 25 26 [.ref 9, .int (nI c), .int (nI 3), .int (nI 0), .int a, .int (b + nI 1), .int (nI i)] [.int (tw_maxI a (b + nI 1))] σ _
      refine tw_sgn 3 (i1 := 6) (ls0 := [.ref 9, .int (nI c), .int (nI 3), .int (nI 0), .int (tw_maxI a (b + nI 1)), .int (b + nI 1), .int (nI i + nI 1)]) (st0 := []) (σ0 := σ) (ls1 := [.ref 9, .int (nI c), .int (nI 3), .int (nI 0), .int (tw_maxI a (b + nI 1)), .int (b + nI 1), .int (nI (i + 1))]) (st1 := []) (σ1 := σ) rfl (by simp only [tw_nadd, tw_nmul]) (rfl) (rfl) ?_
      have e : (tw_gFl σ c) i (a, b) = (tw_maxI a (b + nI 1), b + nI 1) := by
        unfold tw_gFl
        first | rw [if_pos (by assumption)] | rw [if_neg (by assumption)]
      rw [tw_fo, e] at hQ
      exact ih (i + 1) _ _ (by omega) hQ
set_option maxHeartbeats 4000000 in
set_option maxRecDepth 100000 in
theorem tw_e_long (hr9 : σ 9 3 = nI r) (hw9 : σ 9 4 = nI n) (h50 : r ≤ 50) (h10 : n ≤ 10) (hc : c < n) (hRo : ∀ i, i < r → σ 10 ((i * 10 + c) * 4 + 3) = σ 98 (10 * i + c)) : tw_E L xs 3 25 [.ref 9, .int (nI c), .int (nI 3), .int (nI 0)] σ (fun v σ1 => v = some (.int (tw_fo (tw_gFl σ c) 0 r (nI 0, nI 0)).1) ∧ σ = σ1) := by
  show tw_P L xs _ 25 0 [.ref 9, .int (nI c), .int (nI 3), .int (nI 0), tw_U, tw_U, tw_U] [] σ _
  refine tw_sg 6 (i1 := 6) (ls1 := [.ref 9, .int (nI c), .int (nI 3), .int (nI 0), .int (nI 0), .int (nI 0), .int (nI 0)]) (st1 := []) (σ1 := σ) rfl ?_
  refine tw_l_long hr9 hw9 h50 h10 hc hRo r 0 _ _ (by omega) ?_
  refine tw_sg 1 (i1 := 30) (ls1 := _) (st1 := [.int (tw_fo (tw_gFl σ c) 0 r (nI 0, nI 0)).1]) (σ1 := σ) rfl ?_
  exact tw_ri rfl rfl ⟨rfl, rfl⟩
set_option maxHeartbeats 4000000 in
set_option maxRecDepth 100000 in
theorem tw_l_floats {L : Nat} {xs : Nat → Int32} {Q : Option Value → tw_Mem → Prop} {σ : tw_Mem} {r n : Nat} (hn6 : σ 6 4 = nI n) (hr9 : σ 9 3 = nI r) (hw9 : σ 9 4 = nI n) (h50 : r ≤ 50) (h10 : n ≤ 10) (hRo : ∀ i, i < r → ∀ c, c < n → σ 10 ((i * 10 + c) * 4 + 3) = σ 98 (10 * i + c)) : ∀ (f i : Nat) (a : Int32), i + f = n → tw_P L xs 4 102 19 [.ref 6, .int (tw_fo (tw_gFm σ r) i f a), .int (nI n)] [] σ Q → tw_P L xs 4 102 4 [.ref 6, .int a, .int (nI i)] [] σ Q := by
  intro f
  induction f with
  | zero =>
    intro i a  hf hQ
    have hf : n = i := Eq.symm hf
    subst hf
    refine tw_sgn 3 (i1 := 7) (ls0 := [.ref 6, .int a, .int (nI n)]) (st0 := [.int (σ 6 4), .int (nI n)]) (σ0 := σ) (ls1 := [.ref 6, .int a, .int (nI n)]) (st1 := [.int (nI n), .int (nI n)]) (σ1 := σ) rfl (rfl) (by simp only [hn6, tw_nadd, tw_nmul]) (rfl) ?_
    refine tw_biT (c := .ge) rfl (by rw [tw_cge, tw_nle (by omega) (by omega)] <;> omega) ?_
    show tw_P L xs _ 102 19 [.ref 6, .int a, .int (nI n)] [] σ _
    exact hQ
  | succ f ih =>
    intro i a  hf hQ
    refine tw_sgn 3 (i1 := 7) (ls0 := [.ref 6, .int a, .int (nI i)]) (st0 := [.int (σ 6 4), .int (nI i)]) (σ0 := σ) (ls1 := [.ref 6, .int a, .int (nI i)]) (st1 := [.int (nI n), .int (nI i)]) (σ1 := σ) rfl (rfl) (by simp only [hn6, tw_nadd, tw_nmul]) (rfl) ?_
    refine tw_biF (c := .ge) rfl (by rw [tw_cge', tw_nle (by omega) (by omega)] <;> omega) ?_
    show tw_P L xs _ 102 8 [.ref 6, .int a, .int (nI i)] [] σ _
    refine tw_sg 6 (i1 := 14) (ls1 := [.ref 6, .int a, .int (nI i)]) (st1 := [.int (nI 0), .int (nI 3), .int (nI i), .ref 9, .int a]) (σ1 := σ) rfl ?_
    refine tw_cl1 rfl (rfl) (by decide) (tw_e_long hr9 hw9 h50 h10 (by omega) (fun q hq => hRo q hq i (by omega))) ?_
    rintro _ _ ⟨rfl, rfl⟩
    show tw_P L xs _ 102 15 [.ref 6, .int a, .int (nI i)] [.int ((tw_fo (tw_gFl σ i) 0 r (nI 0, nI 0)).1), .int a] σ _
    refine tw_cl1 rfl (rfl) (by decide) (tw_e_maxI) ?_
    rintro _ _ ⟨rfl, rfl⟩
    show tw_P L xs _ 102 16 [.ref 6, .int a, .int (nI i)] [.int (tw_maxI a ((tw_fo (tw_gFl σ i) 0 r (nI 0, nI 0)).1))] σ _
    refine tw_sgn 3 (i1 := 4) (ls0 := [.ref 6, .int (tw_maxI a ((tw_fo (tw_gFl σ i) 0 r (nI 0, nI 0)).1)), .int (nI i + nI 1)]) (st0 := []) (σ0 := σ) (ls1 := [.ref 6, .int (tw_maxI a ((tw_fo (tw_gFl σ i) 0 r (nI 0, nI 0)).1)), .int (nI (i + 1))]) (st1 := []) (σ1 := σ) rfl (by simp only [tw_nadd, tw_nmul]) (rfl) (rfl) ?_
    exact ih (i + 1) _ (by omega) hQ
set_option maxHeartbeats 4000000 in
set_option maxRecDepth 100000 in
theorem tw_e_floats (hn6 : σ 6 4 = nI n) (hr9 : σ 9 3 = nI r) (hw9 : σ 9 4 = nI n) (h50 : r ≤ 50) (h10 : n ≤ 10) (hRo : ∀ i, i < r → ∀ c, c < n → σ 10 ((i * 10 + c) * 4 + 3) = σ 98 (10 * i + c)) : tw_E L xs 4 102 [.ref 6] σ (fun v σ1 => v = some (.int (tw_fo (tw_gFm σ r) 0 n (nI 0))) ∧ σ = σ1) := by
  show tw_P L xs _ 102 0 [.ref 6, tw_U, tw_U] [] σ _
  refine tw_sg 4 (i1 := 4) (ls1 := [.ref 6, .int (nI 0), .int (nI 0)]) (st1 := []) (σ1 := σ) rfl ?_
  refine tw_l_floats hn6 hr9 hw9 h50 h10 hRo n 0 _ (by omega) ?_
  refine tw_sg 1 (i1 := 20) (ls1 := _) (st1 := [.int (tw_fo (tw_gFm σ r) 0 n (nI 0))]) (σ1 := σ) rfl ?_
  exact tw_ri rfl rfl ⟨rfl, rfl⟩
set_option maxHeartbeats 4000000 in
set_option maxRecDepth 100000 in
theorem tw_l_floatOf {L : Nat} {xs : Nat → Int32} {Q : Option Value → tw_Mem → Prop} {σ : tw_Mem} {r n c : Nat} (hr90 : σ 90 0 = nI r) (h50 : r ≤ 50) (h10 : n ≤ 10) (hc : c < n) : ∀ (f i : Nat) (a b : Int32), i + f = r → tw_P L xs 1 198 33 [.ref 88, .int (nI c), .int ((tw_fo (tw_gFl σ c) i f (a, b)).1), .int ((tw_fo (tw_gFl σ c) i f (a, b)).2), .int (nI r)] [] σ Q → tw_P L xs 1 198 6 [.ref 88, .int (nI c), .int a, .int b, .int (nI i)] [] σ Q := by
  intro f
  induction f with
  | zero =>
    intro i a b  hf hQ
    have hf : r = i := Eq.symm hf
    subst hf
    refine tw_sg 4 (i1 := 10) (ls1 := [.ref 88, .int (nI c), .int a, .int b, .int (nI r)]) (st1 := [.int (nI 0), .ref 90, .int (nI r)]) (σ1 := σ) rfl ?_
    refine tw_al (k := 90) (j := 0) (len := 2) rfl rfl rfl rfl (rfl) (by omega) (by decide) ?_
    rw [hr90]
    refine tw_biT (c := .ge) rfl (by rw [tw_cge, tw_nle (by omega) (by omega)] <;> omega) ?_
    show tw_P L xs _ 198 33 [.ref 88, .int (nI c), .int a, .int b, .int (nI r)] [] σ _
    exact hQ
  | succ f ih =>
    intro i a b  hf hQ
    refine tw_sg 4 (i1 := 10) (ls1 := [.ref 88, .int (nI c), .int a, .int b, .int (nI i)]) (st1 := [.int (nI 0), .ref 90, .int (nI i)]) (σ1 := σ) rfl ?_
    refine tw_al (k := 90) (j := 0) (len := 2) rfl rfl rfl rfl (rfl) (by omega) (by decide) ?_
    rw [hr90]
    refine tw_biF (c := .ge) rfl (by rw [tw_cge', tw_nle (by omega) (by omega)] <;> omega) ?_
    show tw_P L xs _ 198 12 [.ref 88, .int (nI c), .int a, .int b, .int (nI i)] [] σ _
    refine tw_sgn 7 (i1 := 19) (ls0 := [.ref 88, .int (nI c), .int a, .int b, .int (nI i)]) (st0 := [.int ((nI 10 * nI i) + nI c), .ref 98]) (σ0 := σ) (ls1 := [.ref 88, .int (nI c), .int a, .int b, .int (nI i)]) (st1 := [.int (nI ((10 * i) + c)), .ref 98]) (σ1 := σ) rfl (rfl) (by simp only [tw_nadd, tw_nmul]) (rfl) ?_
    refine tw_al (k := 98) (j := ((10 * i) + c)) (len := 1000) rfl rfl rfl rfl (rfl) (by omega) (by decide) ?_
    refine tw_bz (c := .ne) rfl (fun h1 => ?_) (fun h1 => ?_)
    · rw [tw_cne] at h1
      refine tw_sg 4 (i1 := 29) (ls1 := [.ref 88, .int (nI c), .int a, .int (nI 0), .int (nI i)]) (st1 := [.int (nI 0), .int a]) (σ1 := σ) rfl ?_
      refine tw_cl1 rfl (rfl) (by decide) (tw_e_maxI) ?_
      rintro _ _ ⟨rfl, rfl⟩
      show tw_P L xs _ 198 30 [.ref 88, .int (nI c), .int a, .int (nI 0), .int (nI i)] [.int (tw_maxI a (nI 0))] σ _
      refine tw_sgn 3 (i1 := 6) (ls0 := [.ref 88, .int (nI c), .int (tw_maxI a (nI 0)), .int (nI 0), .int (nI i + nI 1)]) (st0 := []) (σ0 := σ) (ls1 := [.ref 88, .int (nI c), .int (tw_maxI a (nI 0)), .int (nI 0), .int (nI (i + 1))]) (st1 := []) (σ1 := σ) rfl (by simp only [tw_nadd, tw_nmul]) (rfl) (rfl) ?_
      have e : (tw_gFl σ c) i (a, b) = (tw_maxI a (nI 0), nI 0) := by
        unfold tw_gFl
        first | rw [if_pos (by assumption)] | rw [if_neg (by assumption)]
      rw [tw_fo, e] at hQ
      exact ih (i + 1) _ _ (by omega) hQ
    · rw [tw_cne'] at h1
      refine tw_sg 7 (i1 := 29) (ls1 := [.ref 88, .int (nI c), .int a, .int (b + nI 1), .int (nI i)]) (st1 := [.int (b + nI 1), .int a]) (σ1 := σ) rfl ?_
      refine tw_cl1 rfl (rfl) (by decide) (tw_e_maxI) ?_
      rintro _ _ ⟨rfl, rfl⟩
      show tw_P L xs _ 198 30 [.ref 88, .int (nI c), .int a, .int (b + nI 1), .int (nI i)] [.int (tw_maxI a (b + nI 1))] σ _
      refine tw_sgn 3 (i1 := 6) (ls0 := [.ref 88, .int (nI c), .int (tw_maxI a (b + nI 1)), .int (b + nI 1), .int (nI i + nI 1)]) (st0 := []) (σ0 := σ) (ls1 := [.ref 88, .int (nI c), .int (tw_maxI a (b + nI 1)), .int (b + nI 1), .int (nI (i + 1))]) (st1 := []) (σ1 := σ) rfl (by simp only [tw_nadd, tw_nmul]) (rfl) (rfl) ?_
      have e : (tw_gFl σ c) i (a, b) = (tw_maxI a (b + nI 1), b + nI 1) := by
        unfold tw_gFl
        first | rw [if_pos (by assumption)] | rw [if_neg (by assumption)]
      rw [tw_fo, e] at hQ
      exact ih (i + 1) _ _ (by omega) hQ
set_option maxHeartbeats 4000000 in
set_option maxRecDepth 100000 in
theorem tw_e_floatOf {n : Nat} (hr90 : σ 90 0 = nI r) (h50 : r ≤ 50) (h10 : n ≤ 10) (hc : c < n) : tw_E L xs 1 198 [.ref 88, .int (nI c)] σ (fun v σ1 => v = some (.int (tw_fo (tw_gFl σ c) 0 r (nI 0, nI 0)).1) ∧ σ = σ1) := by
  show tw_P L xs _ 198 0 [.ref 88, .int (nI c), tw_U, tw_U, tw_U] [] σ _
  refine tw_sg 6 (i1 := 6) (ls1 := [.ref 88, .int (nI c), .int (nI 0), .int (nI 0), .int (nI 0)]) (st1 := []) (σ1 := σ) rfl ?_
  refine tw_l_floatOf hr90 h50 h10 hc r 0 _ _ (by omega) ?_
  refine tw_sg 1 (i1 := 34) (ls1 := _) (st1 := [.int (tw_fo (tw_gFl σ c) 0 r (nI 0, nI 0)).1]) (σ1 := σ) rfl ?_
  exact tw_ri rfl rfl ⟨rfl, rfl⟩
set_option maxHeartbeats 4000000 in
set_option maxRecDepth 100000 in
theorem tw_l_msum {L : Nat} {xs : Nat → Int32} {Q : Option Value → tw_Mem → Prop} {σ : tw_Mem} {x : Int32} {n : Nat} (hn89 : σ 89 0 = nI n) (hn10 : n ≤ 10) : ∀ (f i : Nat) (a : Int32), i + f = n → tw_P L xs 1 249 32 [.ref 88, .int x, .int (tw_fo (tw_gSum σ) i f a), .int (nI n)] [] σ Q → tw_P L xs 1 249 16 [.ref 88, .int x, .int a, .int (nI i)] [] σ Q := by
  intro f
  induction f with
  | zero =>
    intro i a  hf hQ
    have hf : n = i := Eq.symm hf
    subst hf
    refine tw_sg 4 (i1 := 20) (ls1 := [.ref 88, .int x, .int a, .int (nI n)]) (st1 := [.int (nI 0), .ref 89, .int (nI n)]) (σ1 := σ) rfl ?_
    refine tw_al (k := 89) (j := 0) (len := 2) rfl rfl rfl rfl (rfl) (by omega) (by decide) ?_
    rw [hn89]
    refine tw_biT (c := .ge) rfl (by rw [tw_cge, tw_nle (by omega) (by omega)] <;> omega) ?_
    show tw_P L xs _ 249 32 [.ref 88, .int x, .int a, .int (nI n)] [] σ _
    exact hQ
  | succ f ih =>
    intro i a  hf hQ
    refine tw_sg 4 (i1 := 20) (ls1 := [.ref 88, .int x, .int a, .int (nI i)]) (st1 := [.int (nI 0), .ref 89, .int (nI i)]) (σ1 := σ) rfl ?_
    refine tw_al (k := 89) (j := 0) (len := 2) rfl rfl rfl rfl (rfl) (by omega) (by decide) ?_
    rw [hn89]
    refine tw_biF (c := .ge) rfl (by rw [tw_cge', tw_nle (by omega) (by omega)] <;> omega) ?_
    show tw_P L xs _ 249 22 [.ref 88, .int x, .int a, .int (nI i)] [] σ _
    refine tw_sg 4 (i1 := 26) (ls1 := [.ref 88, .int x, .int a, .int (nI i)]) (st1 := [.int (nI i), .ref 94, .int a]) (σ1 := σ) rfl ?_
    refine tw_al (k := 94) (j := i) (len := 20) rfl rfl rfl rfl (rfl) (by omega) (by decide) ?_
    refine tw_cl1 rfl (rfl) (by decide) (tw_e_absI) ?_
    rintro _ _ ⟨rfl, rfl⟩
    show tw_P L xs _ 249 28 [.ref 88, .int x, .int a, .int (nI i)] [.int (tw_absI (σ 94 i)), .int a] σ _
    refine tw_sgn 4 (i1 := 16) (ls0 := [.ref 88, .int x, .int (a + (tw_absI (σ 94 i))), .int (nI i + nI 1)]) (st0 := []) (σ0 := σ) (ls1 := [.ref 88, .int x, .int (a + (tw_absI (σ 94 i))), .int (nI (i + 1))]) (st1 := []) (σ1 := σ) rfl (by simp only [tw_nadd, tw_nmul]) (rfl) (rfl) ?_
    exact ih (i + 1) _ (by omega) hQ
set_option maxHeartbeats 4000000 in
set_option maxRecDepth 100000 in
theorem tw_l_mfl {L : Nat} {xs : Nat → Int32} {Q : Option Value → tw_Mem → Prop} {σ : tw_Mem} {x : Int32} {r n : Nat} (hn89 : σ 89 0 = nI n) (hr90 : σ 90 0 = nI r) (h50 : r ≤ 50) (h10 : n ≤ 10) : ∀ (f i : Nat) (a : Int32), i + f = n → tw_P L xs 2 249 53 [.ref 88, .int x, .int (tw_fo (tw_gFm σ r) i f a), .int (nI n)] [] σ Q → tw_P L xs 2 249 39 [.ref 88, .int x, .int a, .int (nI i)] [] σ Q := by
  intro f
  induction f with
  | zero =>
    intro i a  hf hQ
    have hf : n = i := Eq.symm hf
    subst hf
    refine tw_sg 4 (i1 := 43) (ls1 := [.ref 88, .int x, .int a, .int (nI n)]) (st1 := [.int (nI 0), .ref 89, .int (nI n)]) (σ1 := σ) rfl ?_
    refine tw_al (k := 89) (j := 0) (len := 2) rfl rfl rfl rfl (rfl) (by omega) (by decide) ?_
    rw [hn89]
    refine tw_biT (c := .ge) rfl (by rw [tw_cge, tw_nle (by omega) (by omega)] <;> omega) ?_
    show tw_P L xs _ 249 53 [.ref 88, .int x, .int a, .int (nI n)] [] σ _
    exact hQ
  | succ f ih =>
    intro i a  hf hQ
    refine tw_sg 4 (i1 := 43) (ls1 := [.ref 88, .int x, .int a, .int (nI i)]) (st1 := [.int (nI 0), .ref 89, .int (nI i)]) (σ1 := σ) rfl ?_
    refine tw_al (k := 89) (j := 0) (len := 2) rfl rfl rfl rfl (rfl) (by omega) (by decide) ?_
    rw [hn89]
    refine tw_biF (c := .ge) rfl (by rw [tw_cge', tw_nle (by omega) (by omega)] <;> omega) ?_
    show tw_P L xs _ 249 45 [.ref 88, .int x, .int a, .int (nI i)] [] σ _
    refine tw_sg 3 (i1 := 48) (ls1 := [.ref 88, .int x, .int a, .int (nI i)]) (st1 := [.int (nI i), .ref 88, .int a]) (σ1 := σ) rfl ?_
    refine tw_cl1 rfl (rfl) (by decide) (tw_e_floatOf hr90 h50 h10 (by omega)) ?_
    rintro _ _ ⟨rfl, rfl⟩
    show tw_P L xs _ 249 49 [.ref 88, .int x, .int a, .int (nI i)] [.int ((tw_fo (tw_gFl σ i) 0 r (nI 0, nI 0)).1), .int a] σ _
    refine tw_cl1 rfl (rfl) (by decide) (tw_e_maxI) ?_
    rintro _ _ ⟨rfl, rfl⟩
    show tw_P L xs _ 249 50 [.ref 88, .int x, .int a, .int (nI i)] [.int (tw_maxI a ((tw_fo (tw_gFl σ i) 0 r (nI 0, nI 0)).1))] σ _
    refine tw_sgn 3 (i1 := 39) (ls0 := [.ref 88, .int x, .int (tw_maxI a ((tw_fo (tw_gFl σ i) 0 r (nI 0, nI 0)).1)), .int (nI i + nI 1)]) (st0 := []) (σ0 := σ) (ls1 := [.ref 88, .int x, .int (tw_maxI a ((tw_fo (tw_gFl σ i) 0 r (nI 0, nI 0)).1)), .int (nI (i + 1))]) (st1 := []) (σ1 := σ) rfl (by simp only [tw_nadd, tw_nmul]) (rfl) (rfl) ?_
    exact ih (i + 1) _ (by omega) hQ
set_option maxHeartbeats 4000000 in
set_option maxRecDepth 100000 in
theorem tw_o_told {L : Nat} {xs : Nat → Int32} (x : Int32) : tw_op L xs 169 249 [.int x] := by
  intro σ hI
  obtain ⟨⟨n, r, hL⟩, hT, hPp, hPc, hLs, hIm, hC14, hC46, hC72⟩ := id hI
  obtain ⟨⟨hn10, hr50⟩, ⟨hn6, hn89⟩, ⟨hr9, hw9, hr90⟩, hCa, hRo, hLa⟩ := hL
  have hn6 : σ 6 4 = nI n := hn6
  have hn89 : σ 89 0 = nI n := hn89
  have hr9 : σ 9 3 = nI r := hr9
  have hw9 : σ 9 4 = nI n := hw9
  have hr90 : σ 90 0 = nI r := hr90
  obtain ⟨k, hk80, hk2, hk88, hTj⟩ := id hT
  obtain ⟨k5, hk59, hk4, hk37, hPj⟩ := id hPp
  obtain ⟨h, h8, h79, h32, hPi⟩ := id hPc
  rcases tw_within x 8 (by decide) with ⟨e, he, rfl⟩ | hx
  · rcases (show e = 0 ∨ e = 1 ∨ e = 2 ∨ e = 3 ∨ e = 4 ∨ e = 5 ∨ e = 6 ∨ e = 7 by omega) with rfl | rfl | rfl | rfl | rfl | rfl | rfl | rfl
    · skip
      show tw_P L xs _ 169 0 [.ref 1, .int (nI 0)] [] σ _
      refine tw_sg 1 (i1 := 1) (ls1 := [.ref 1, .int (nI 0)]) (st1 := [.int (nI 0)]) (σ1 := σ) rfl ?_
      refine tw_sw (j := 0) rfl (rfl) (by decide) (by decide) rfl ?_
      show tw_P L xs _ 169 2 [.ref 1, .int (nI 0)] [] σ _
      refine tw_sg 2 (i1 := 4) (ls1 := [.ref 1, .int (nI 0)]) (st1 := [.ref 6]) (σ1 := σ) rfl ?_
      refine tw_cl0 59 rfl (rfl) (by decide) ?_
      show tw_P L xs _ 82 0 [.ref 6] [] σ _
      refine tw_sgn 2 (i1 := 2) (ls0 := [.ref 6]) (st0 := [.int (σ 6 4)]) (σ0 := σ) (ls1 := [.ref 6]) (st1 := [.int (nI n)]) (σ1 := σ) rfl (rfl) (by simp only [hn6, tw_nadd, tw_nmul]) (rfl) ?_
      refine tw_ri rfl (rfl) ?_
      show tw_P L xs _ 169 5 [.ref 1, .int (nI 0)] [.int (nI n)] σ _
      refine tw_ri rfl (rfl) ?_
      refine ⟨_, rfl, ?_⟩
      show tw_P L xs _ 249 0 [.ref 88, .int (nI 0), tw_U, tw_U] [] σ _
      refine tw_sg 3 (i1 := 3) (ls1 := [.ref 88, .int (nI 0), .int (nI 0), tw_U]) (st1 := [.int (nI 0)]) (σ1 := σ) rfl ?_
      refine tw_sw (j := 0) rfl (rfl) (by decide) (by decide) rfl ?_
      show tw_P L xs _ 249 4 [.ref 88, .int (nI 0), .int (nI 0), tw_U] [] σ _
      refine tw_sg 3 (i1 := 7) (ls1 := [.ref 88, .int (nI 0), .int (nI 0), tw_U]) (st1 := [.int (nI 0), .ref 89]) (σ1 := σ) rfl ?_
      refine tw_al (k := 89) (j := 0) (len := 2) rfl rfl rfl rfl (rfl) (by omega) (by decide) ?_
      rw [hn89]
      refine tw_ri rfl (rfl) ?_
      exact ⟨rfl, hI⟩
    · skip
      show tw_P L xs _ 169 0 [.ref 1, .int (nI 1)] [] σ _
      refine tw_sg 1 (i1 := 1) (ls1 := [.ref 1, .int (nI 1)]) (st1 := [.int (nI 1)]) (σ1 := σ) rfl ?_
      refine tw_sw (j := 1) rfl (rfl) (by decide) (by decide) rfl ?_
      show tw_P L xs _ 169 6 [.ref 1, .int (nI 1)] [] σ _
      refine tw_sg 2 (i1 := 8) (ls1 := [.ref 1, .int (nI 1)]) (st1 := [.ref 6]) (σ1 := σ) rfl ?_
      refine tw_cl0 59 rfl (rfl) (by decide) ?_
      show tw_P L xs _ 83 0 [.ref 6] [] σ _
      refine tw_sg 2 (i1 := 2) (ls1 := [.ref 6]) (st1 := [.ref 9]) (σ1 := σ) rfl ?_
      refine tw_ra rfl ?_
      show tw_P L xs _ 169 9 [.ref 1, .int (nI 1)] [.ref 9] σ _
      refine tw_cl0 59 rfl (rfl) (by decide) ?_
      show tw_P L xs _ 17 0 [.ref 9] [] σ _
      refine tw_sgn 2 (i1 := 2) (ls0 := [.ref 9]) (st0 := [.int (σ 9 3)]) (σ0 := σ) (ls1 := [.ref 9]) (st1 := [.int (nI r)]) (σ1 := σ) rfl (rfl) (by simp only [hr9, tw_nadd, tw_nmul]) (rfl) ?_
      refine tw_ri rfl (rfl) ?_
      show tw_P L xs _ 169 10 [.ref 1, .int (nI 1)] [.int (nI r)] σ _
      refine tw_ri rfl (rfl) ?_
      refine ⟨_, rfl, ?_⟩
      show tw_P L xs _ 249 0 [.ref 88, .int (nI 1), tw_U, tw_U] [] σ _
      refine tw_sg 3 (i1 := 3) (ls1 := [.ref 88, .int (nI 1), .int (nI 0), tw_U]) (st1 := [.int (nI 1)]) (σ1 := σ) rfl ?_
      refine tw_sw (j := 1) rfl (rfl) (by decide) (by decide) rfl ?_
      show tw_P L xs _ 249 9 [.ref 88, .int (nI 1), .int (nI 0), tw_U] [] σ _
      refine tw_sg 3 (i1 := 12) (ls1 := [.ref 88, .int (nI 1), .int (nI 0), tw_U]) (st1 := [.int (nI 0), .ref 90]) (σ1 := σ) rfl ?_
      refine tw_al (k := 90) (j := 0) (len := 2) rfl rfl rfl rfl (rfl) (by omega) (by decide) ?_
      rw [hr90]
      refine tw_ri rfl (rfl) ?_
      exact ⟨rfl, hI⟩
    · skip
      show tw_P L xs _ 169 0 [.ref 1, .int (nI 2)] [] σ _
      refine tw_sg 1 (i1 := 1) (ls1 := [.ref 1, .int (nI 2)]) (st1 := [.int (nI 2)]) (σ1 := σ) rfl ?_
      refine tw_sw (j := 2) rfl (rfl) (by decide) (by decide) rfl ?_
      show tw_P L xs _ 169 11 [.ref 1, .int (nI 2)] [] σ _
      refine tw_sg 2 (i1 := 13) (ls1 := [.ref 1, .int (nI 2)]) (st1 := [.ref 6]) (σ1 := σ) rfl ?_
      refine tw_cl0 59 rfl (rfl) (by decide) ?_
      show tw_P L xs _ 84 0 [.ref 6] [] σ _
      refine tw_sg 2 (i1 := 2) (ls1 := [.ref 6]) (st1 := [.ref 9]) (σ1 := σ) rfl ?_
      refine tw_cl0 58 rfl (rfl) (by decide) ?_
      show tw_P L xs _ 17 0 [.ref 9] [] σ _
      refine tw_sgn 2 (i1 := 2) (ls0 := [.ref 9]) (st0 := [.int (σ 9 3)]) (σ0 := σ) (ls1 := [.ref 9]) (st1 := [.int (nI r)]) (σ1 := σ) rfl (rfl) (by simp only [hr9, tw_nadd, tw_nmul]) (rfl) ?_
      refine tw_ri rfl (rfl) ?_
      show tw_P L xs _ 84 3 [.ref 6] [.int (nI r)] σ _
      refine tw_ri rfl (rfl) ?_
      show tw_P L xs _ 169 14 [.ref 1, .int (nI 2)] [.int (nI r)] σ _
      refine tw_ri rfl (rfl) ?_
      refine ⟨_, rfl, ?_⟩
      show tw_P L xs _ 249 0 [.ref 88, .int (nI 2), tw_U, tw_U] [] σ _
      refine tw_sg 3 (i1 := 3) (ls1 := [.ref 88, .int (nI 2), .int (nI 0), tw_U]) (st1 := [.int (nI 2)]) (σ1 := σ) rfl ?_
      refine tw_sw (j := 2) rfl (rfl) (by decide) (by decide) rfl ?_
      show tw_P L xs _ 249 9 [.ref 88, .int (nI 2), .int (nI 0), tw_U] [] σ _
      refine tw_sg 3 (i1 := 12) (ls1 := [.ref 88, .int (nI 2), .int (nI 0), tw_U]) (st1 := [.int (nI 0), .ref 90]) (σ1 := σ) rfl ?_
      refine tw_al (k := 90) (j := 0) (len := 2) rfl rfl rfl rfl (rfl) (by omega) (by decide) ?_
      rw [hr90]
      refine tw_ri rfl (rfl) ?_
      exact ⟨rfl, hI⟩
    · skip
      show tw_P L xs _ 169 0 [.ref 1, .int (nI 3)] [] σ _
      refine tw_sg 1 (i1 := 1) (ls1 := [.ref 1, .int (nI 3)]) (st1 := [.int (nI 3)]) (σ1 := σ) rfl ?_
      refine tw_sw (j := 3) rfl (rfl) (by decide) (by decide) rfl ?_
      show tw_P L xs _ 169 15 [.ref 1, .int (nI 3)] [] σ _
      refine tw_sg 2 (i1 := 17) (ls1 := [.ref 1, .int (nI 3)]) (st1 := [.ref 6]) (σ1 := σ) rfl ?_
      refine tw_cl1 rfl (rfl) (by decide) (tw_e_sum hn6 hn10 (fun c hc => (hCa c hc).2.2.2)) ?_
      rintro _ _ ⟨rfl, rfl⟩
      show tw_P L xs _ 169 18 [.ref 1, .int (nI 3)] [.int (tw_fo (tw_gSum σ) 0 n (nI 0))] σ _
      refine tw_ri rfl (rfl) ?_
      refine ⟨_, rfl, ?_⟩
      show tw_P L xs _ 249 0 [.ref 88, .int (nI 3), tw_U, tw_U] [] σ _
      refine tw_sg 3 (i1 := 3) (ls1 := [.ref 88, .int (nI 3), .int (nI 0), tw_U]) (st1 := [.int (nI 3)]) (σ1 := σ) rfl ?_
      refine tw_sw (j := 3) rfl (rfl) (by decide) (by decide) rfl ?_
      show tw_P L xs _ 249 14 [.ref 88, .int (nI 3), .int (nI 0), tw_U] [] σ _
      refine tw_sg 2 (i1 := 16) (ls1 := [.ref 88, .int (nI 3), .int (nI 0), .int (nI 0)]) (st1 := []) (σ1 := σ) rfl ?_
      refine tw_P_le (tw_l_msum hn89 hn10 n 0 _ (by omega) ?_) (by decide)
      refine tw_sg 1 (i1 := 33) (ls1 := _) (st1 := [.int (tw_fo (tw_gSum σ) 0 n (nI 0))]) (σ1 := σ) rfl ?_
      exact tw_ri rfl rfl ⟨rfl, hI⟩
    · skip
      show tw_P L xs _ 169 0 [.ref 1, .int (nI 4)] [] σ _
      refine tw_sg 1 (i1 := 1) (ls1 := [.ref 1, .int (nI 4)]) (st1 := [.int (nI 4)]) (σ1 := σ) rfl ?_
      refine tw_sw (j := 4) rfl (rfl) (by decide) (by decide) rfl ?_
      show tw_P L xs _ 169 19 [.ref 1, .int (nI 4)] [] σ _
      refine tw_sg 2 (i1 := 21) (ls1 := [.ref 1, .int (nI 4)]) (st1 := [.ref 79]) (σ1 := σ) rfl ?_
      refine tw_cl0 59 rfl (rfl) (by decide) ?_
      show tw_P L xs _ 114 0 [.ref 79] [] σ _
      refine tw_sgn 2 (i1 := 2) (ls0 := [.ref 79]) (st0 := [.int (σ 79 1)]) (σ0 := σ) (ls1 := [.ref 79]) (st1 := [.int (nI h)]) (σ1 := σ) rfl (rfl) (by simp only [h79, tw_nadd, tw_nmul]) (rfl) ?_
      refine tw_ri rfl (rfl) ?_
      show tw_P L xs _ 169 22 [.ref 1, .int (nI 4)] [.int (nI h)] σ _
      refine tw_ri rfl (rfl) ?_
      refine ⟨_, rfl, ?_⟩
      show tw_P L xs _ 249 0 [.ref 88, .int (nI 4), tw_U, tw_U] [] σ _
      refine tw_sg 3 (i1 := 3) (ls1 := [.ref 88, .int (nI 4), .int (nI 0), tw_U]) (st1 := [.int (nI 4)]) (σ1 := σ) rfl ?_
      refine tw_sw (j := 4) rfl (rfl) (by decide) (by decide) rfl ?_
      show tw_P L xs _ 249 34 [.ref 88, .int (nI 4), .int (nI 0), tw_U] [] σ _
      refine tw_sgn 2 (i1 := 36) (ls0 := [.ref 88, .int (nI 4), .int (nI 0), tw_U]) (st0 := [.int (σ 88 32)]) (σ0 := σ) (ls1 := [.ref 88, .int (nI 4), .int (nI 0), tw_U]) (st1 := [.int (nI h)]) (σ1 := σ) rfl (rfl) (by simp only [h32, tw_nadd, tw_nmul]) (rfl) ?_
      refine tw_ri rfl (rfl) ?_
      exact ⟨rfl, hI⟩
    · skip
      show tw_P L xs _ 169 0 [.ref 1, .int (nI 5)] [] σ _
      refine tw_sg 1 (i1 := 1) (ls1 := [.ref 1, .int (nI 5)]) (st1 := [.int (nI 5)]) (σ1 := σ) rfl ?_
      refine tw_sw (j := 5) rfl (rfl) (by decide) (by decide) rfl ?_
      show tw_P L xs _ 169 23 [.ref 1, .int (nI 5)] [] σ _
      refine tw_sg 2 (i1 := 25) (ls1 := [.ref 1, .int (nI 5)]) (st1 := [.ref 6]) (σ1 := σ) rfl ?_
      refine tw_cl1 rfl (rfl) (by decide) (tw_e_floats hn6 hr9 hw9 hr50 hn10 (fun i hi c hc => (hRo i hi c hc).2.2.2.1)) ?_
      rintro _ _ ⟨rfl, rfl⟩
      show tw_P L xs _ 169 26 [.ref 1, .int (nI 5)] [.int (tw_fo (tw_gFm σ r) 0 n (nI 0))] σ _
      refine tw_ri rfl (rfl) ?_
      refine ⟨_, rfl, ?_⟩
      show tw_P L xs _ 249 0 [.ref 88, .int (nI 5), tw_U, tw_U] [] σ _
      refine tw_sg 3 (i1 := 3) (ls1 := [.ref 88, .int (nI 5), .int (nI 0), tw_U]) (st1 := [.int (nI 5)]) (σ1 := σ) rfl ?_
      refine tw_sw (j := 5) rfl (rfl) (by decide) (by decide) rfl ?_
      show tw_P L xs _ 249 37 [.ref 88, .int (nI 5), .int (nI 0), tw_U] [] σ _
      refine tw_sg 2 (i1 := 39) (ls1 := [.ref 88, .int (nI 5), .int (nI 0), .int (nI 0)]) (st1 := []) (σ1 := σ) rfl ?_
      refine tw_P_le (tw_l_mfl hn89 hr90 hr50 hn10 n 0 _ (by omega) ?_) (by decide)
      refine tw_sg 1 (i1 := 54) (ls1 := _) (st1 := [.int (tw_fo (tw_gFm σ r) 0 n (nI 0))]) (σ1 := σ) rfl ?_
      exact tw_ri rfl rfl ⟨rfl, hI⟩
    · skip
      show tw_P L xs _ 169 0 [.ref 1, .int (nI 6)] [] σ _
      refine tw_sg 1 (i1 := 1) (ls1 := [.ref 1, .int (nI 6)]) (st1 := [.int (nI 6)]) (σ1 := σ) rfl ?_
      refine tw_sw (j := 6) rfl (rfl) (by decide) (by decide) rfl ?_
      show tw_P L xs _ 169 27 [.ref 1, .int (nI 6)] [] σ _
      refine tw_sg 2 (i1 := 29) (ls1 := [.ref 1, .int (nI 6)]) (st1 := [.ref 2]) (σ1 := σ) rfl ?_
      refine tw_cl0 59 rfl (rfl) (by decide) ?_
      show tw_P L xs _ 121 0 [.ref 2] [] σ _
      refine tw_sgn 2 (i1 := 2) (ls0 := [.ref 2]) (st0 := [.int (σ 2 1)]) (σ0 := σ) (ls1 := [.ref 2]) (st1 := [.int (nI k)]) (σ1 := σ) rfl (rfl) (by simp only [hk2, tw_nadd, tw_nmul]) (rfl) ?_
      refine tw_ri rfl (rfl) ?_
      show tw_P L xs _ 169 30 [.ref 1, .int (nI 6)] [.int (nI k)] σ _
      refine tw_ri rfl (rfl) ?_
      refine ⟨_, rfl, ?_⟩
      show tw_P L xs _ 249 0 [.ref 88, .int (nI 6), tw_U, tw_U] [] σ _
      refine tw_sg 3 (i1 := 3) (ls1 := [.ref 88, .int (nI 6), .int (nI 0), tw_U]) (st1 := [.int (nI 6)]) (σ1 := σ) rfl ?_
      refine tw_sw (j := 6) rfl (rfl) (by decide) (by decide) rfl ?_
      show tw_P L xs _ 249 55 [.ref 88, .int (nI 6), .int (nI 0), tw_U] [] σ _
      refine tw_sgn 2 (i1 := 57) (ls0 := [.ref 88, .int (nI 6), .int (nI 0), tw_U]) (st0 := [.int (σ 88 17)]) (σ0 := σ) (ls1 := [.ref 88, .int (nI 6), .int (nI 0), tw_U]) (st1 := [.int (nI k)]) (σ1 := σ) rfl (rfl) (by simp only [hk88, tw_nadd, tw_nmul]) (rfl) ?_
      refine tw_ri rfl (rfl) ?_
      exact ⟨rfl, hI⟩
    · skip
      show tw_P L xs _ 169 0 [.ref 1, .int (nI 7)] [] σ _
      refine tw_sg 1 (i1 := 1) (ls1 := [.ref 1, .int (nI 7)]) (st1 := [.int (nI 7)]) (σ1 := σ) rfl ?_
      refine tw_sw (j := 7) rfl (rfl) (by decide) (by decide) rfl ?_
      show tw_P L xs _ 169 31 [.ref 1, .int (nI 7)] [] σ _
      refine tw_sg 2 (i1 := 33) (ls1 := [.ref 1, .int (nI 7)]) (st1 := [.ref 4]) (σ1 := σ) rfl ?_
      refine tw_cl0 59 rfl (rfl) (by decide) ?_
      show tw_P L xs _ 121 0 [.ref 4] [] σ _
      refine tw_sgn 2 (i1 := 2) (ls0 := [.ref 4]) (st0 := [.int (σ 4 1)]) (σ0 := σ) (ls1 := [.ref 4]) (st1 := [.int (nI k5)]) (σ1 := σ) rfl (rfl) (by simp only [hk4, tw_nadd, tw_nmul]) (rfl) ?_
      refine tw_ri rfl (rfl) ?_
      show tw_P L xs _ 169 34 [.ref 1, .int (nI 7)] [.int (nI k5)] σ _
      refine tw_ri rfl (rfl) ?_
      refine ⟨_, rfl, ?_⟩
      show tw_P L xs _ 249 0 [.ref 88, .int (nI 7), tw_U, tw_U] [] σ _
      refine tw_sg 3 (i1 := 3) (ls1 := [.ref 88, .int (nI 7), .int (nI 0), tw_U]) (st1 := [.int (nI 7)]) (σ1 := σ) rfl ?_
      refine tw_sw (j := 7) rfl (rfl) (by decide) (by decide) rfl ?_
      show tw_P L xs _ 249 58 [.ref 88, .int (nI 7), .int (nI 0), tw_U] [] σ _
      refine tw_sgn 2 (i1 := 60) (ls0 := [.ref 88, .int (nI 7), .int (nI 0), tw_U]) (st0 := [.int (σ 88 37)]) (σ0 := σ) (ls1 := [.ref 88, .int (nI 7), .int (nI 0), tw_U]) (st1 := [.int (nI k5)]) (σ1 := σ) rfl (rfl) (by simp only [hk37, tw_nadd, tw_nmul]) (rfl) ?_
      refine tw_ri rfl (rfl) ?_
      exact ⟨rfl, hI⟩
  · skip
    show tw_P L xs _ 169 0 [.ref 1, .int x] [] σ _
    refine tw_sg 1 (i1 := 1) (ls1 := [.ref 1, .int x]) (st1 := [.int x]) (σ1 := σ) rfl ?_
    refine tw_swo rfl (hx.imp id (fun h => tw_lt_le1 (n := 7) (by decide) h.2)) (by decide) ?_
    show tw_P L xs _ 169 35 [.ref 1, .int x] [] σ _
    refine tw_sg 1 (i1 := 36) (ls1 := [.ref 1, .int x]) (st1 := [.int (-1)]) (σ1 := σ) rfl ?_
    refine tw_ri rfl (rfl) ?_
    refine ⟨_, rfl, ?_⟩
    show tw_P L xs _ 249 0 [.ref 88, .int x, tw_U, tw_U] [] σ _
    refine tw_sg 3 (i1 := 3) (ls1 := [.ref 88, .int x, .int (nI 0), tw_U]) (st1 := [.int x]) (σ1 := σ) rfl ?_
    refine tw_swo rfl (hx.imp id (fun h => tw_lt_le1 (n := 7) (by decide) h.2)) (by decide) ?_
    show tw_P L xs _ 249 61 [.ref 88, .int x, .int (nI 0), tw_U] [] σ _
    refine tw_sg 1 (i1 := 62) (ls1 := [.ref 88, .int x, .int (nI 0), tw_U]) (st1 := [.int (-1)]) (σ1 := σ) rfl ?_
    refine tw_ri rfl (rfl) ?_
    exact ⟨rfl, hI⟩
set_option maxHeartbeats 4000000 in
set_option maxRecDepth 100000 in
theorem tw_o_paper {L : Nat} {xs : Nat → Int32} (x : Int32) : tw_op L xs 168 248 [.int x] := by
  intro σ hI
  obtain ⟨⟨n, r, hL⟩, hT, hPp, hPc, hLs, hIm, hC14, hC46, hC72⟩ := id hI
  obtain ⟨⟨hn10, hr50⟩, ⟨hn6, hn89⟩, ⟨hr9, hw9, hr90⟩, hCa, hRo, hLa⟩ := hL
  have hn6 : σ 6 4 = nI n := hn6
  have hn89 : σ 89 0 = nI n := hn89
  have hr9 : σ 9 3 = nI r := hr9
  have hw9 : σ 9 4 = nI n := hw9
  have hr90 : σ 90 0 = nI r := hr90
  obtain ⟨k5, hk59, hk4, hk37, hPj⟩ := id hPp
  rcases tw_within x k5 (by omega) with ⟨i, hi, rfl⟩ | hx
  · skip
    show tw_P L xs _ 168 0 [.ref 1, .int (nI i)] [] σ _
    refine tw_sg 3 (i1 := 3) (ls1 := [.ref 1, .int (nI i)]) (st1 := [.int (nI i), .ref 4]) (σ1 := σ) rfl ?_
    refine tw_cl0 59 rfl (rfl) (by decide) ?_
    show tw_P L xs _ 125 0 [.ref 4, .int (nI i)] [] σ _
    refine tw_sg 1 (i1 := 1) (ls1 := [.ref 4, .int (nI i)]) (st1 := [.int (nI i)]) (σ1 := σ) rfl ?_
    refine tw_bzF (c := .lt) rfl (by rw [tw_clt', tw_nlt (by omega) (by omega)] <;> omega) ?_
    show tw_P L xs _ 125 2 [.ref 4, .int (nI i)] [] σ _
    refine tw_sgn 3 (i1 := 5) (ls0 := [.ref 4, .int (nI i)]) (st0 := [.int (σ 4 1), .int (nI i)]) (σ0 := σ) (ls1 := [.ref 4, .int (nI i)]) (st1 := [.int (nI k5), .int (nI i)]) (σ1 := σ) rfl (rfl) (by simp only [hk4, tw_nadd, tw_nmul]) (rfl) ?_
    refine tw_biF (c := .ge) rfl (by rw [tw_cge', tw_nle (by omega) (by omega)] <;> omega) ?_
    show tw_P L xs _ 125 6 [.ref 4, .int (nI i)] [] σ _
    refine tw_sg 4 (i1 := 10) (ls1 := [.ref 4, .int (nI i)]) (st1 := [.int (nI 80), .int (nI i)]) (σ1 := σ) rfl ?_
    refine tw_biF (c := .ge) rfl (by rw [tw_cge', tw_nle (by omega) (by omega)] <;> omega) ?_
    show tw_P L xs _ 125 11 [.ref 4, .int (nI i)] [] σ _
    refine tw_sg 3 (i1 := 14) (ls1 := [.ref 4, .int (nI i)]) (st1 := [.int (nI i), .ref 5]) (σ1 := σ) rfl ?_
    refine tw_alb (k := 5) (j := i) (len := 80) rfl rfl (by decide) rfl (rfl) (by omega) (by decide) ?_
    refine tw_sg 1 (i1 := 17) (ls1 := [.ref 4, .int (nI i)]) (st1 := [.int (σ 5 i)]) (σ1 := σ) rfl ?_
    refine tw_ri rfl (rfl) ?_
    show tw_P L xs _ 168 4 [.ref 1, .int (nI i)] [.int (σ 5 i)] σ _
    refine tw_ri rfl (rfl) ?_
    refine ⟨_, rfl, ?_⟩
    show tw_P L xs _ 248 0 [.ref 88, .int (nI i)] [] σ _
    refine tw_sgn 6 (i1 := 6) (ls0 := [.ref 88, .int (nI i)]) (st0 := [.int ((σ 88 37) - nI 1), .int (nI 0), .int (nI i)]) (σ0 := σ) (ls1 := [.ref 88, .int (nI i)]) (st1 := [.int (nI k5 - nI 1), .int (nI 0), .int (nI i)]) (σ1 := σ) rfl (rfl) (by simp only [hk37, tw_nadd, tw_nmul]) (rfl) ?_
    refine tw_cl1 rfl (rfl) (by decide) (tw_e_inN1 hi (by omega)) ?_
    rintro _ _ ⟨rfl, rfl⟩
    show tw_P L xs _ 248 7 [.ref 88, .int (nI i)] [.int (nI 1)] σ _
    refine tw_bzF (c := .eq) rfl (by rw [tw_ceq', tw_neq (by omega) (by omega)] <;> omega) ?_
    show tw_P L xs _ 248 8 [.ref 88, .int (nI i)] [] σ _
    refine tw_sg 3 (i1 := 11) (ls1 := [.ref 88, .int (nI i)]) (st1 := [.int (nI i), .ref 116]) (σ1 := σ) rfl ?_
    refine tw_al (k := 116) (j := i) (len := 60) rfl rfl rfl rfl (rfl) (by omega) (by decide) ?_
    refine tw_sg 1 (i1 := 14) (ls1 := [.ref 88, .int (nI i)]) (st1 := [.int (σ 116 i)]) (σ1 := σ) rfl ?_
    refine tw_ri rfl (rfl) ?_
    exact ⟨by rw [hPj i hi], hI⟩
  · have hx0 := hx
    rcases hx with hx | ⟨hx, hx2⟩
    · skip
      show tw_P L xs _ 168 0 [.ref 1, .int x] [] σ _
      refine tw_sg 3 (i1 := 3) (ls1 := [.ref 1, .int x]) (st1 := [.int x, .ref 4]) (σ1 := σ) rfl ?_
      refine tw_cl0 59 rfl (rfl) (by decide) ?_
      show tw_P L xs _ 125 0 [.ref 4, .int x] [] σ _
      refine tw_sg 1 (i1 := 1) (ls1 := [.ref 4, .int x]) (st1 := [.int x]) (σ1 := σ) rfl ?_
      refine tw_bzT (c := .lt) rfl (by rw [tw_clt] <;> (exact hx)) ?_
      show tw_P L xs _ 125 16 [.ref 4, .int x] [] σ _
      refine tw_sg 1 (i1 := 17) (ls1 := [.ref 4, .int x]) (st1 := [.int (-1)]) (σ1 := σ) rfl ?_
      refine tw_ri rfl (rfl) ?_
      show tw_P L xs _ 168 4 [.ref 1, .int x] [.int (-1)] σ _
      refine tw_ri rfl (rfl) ?_
      refine ⟨_, rfl, ?_⟩
      show tw_P L xs _ 248 0 [.ref 88, .int x] [] σ _
      refine tw_sgn 6 (i1 := 6) (ls0 := [.ref 88, .int x]) (st0 := [.int ((σ 88 37) - nI 1), .int (nI 0), .int x]) (σ0 := σ) (ls1 := [.ref 88, .int x]) (st1 := [.int (nI k5 - nI 1), .int (nI 0), .int x]) (σ1 := σ) rfl (rfl) (by simp only [hk37, tw_nadd, tw_nmul]) (rfl) ?_
      refine tw_cl1 rfl (rfl) (by decide) (tw_e_inN0 (by omega) hx0) ?_
      rintro _ _ ⟨rfl, rfl⟩
      show tw_P L xs _ 248 7 [.ref 88, .int x] [.int (nI 0)] σ _
      refine tw_bzT (c := .eq) rfl (by rw [tw_ceq, tw_neq (by omega) (by omega)] <;> omega) ?_
      show tw_P L xs _ 248 13 [.ref 88, .int x] [] σ _
      refine tw_sg 1 (i1 := 14) (ls1 := [.ref 88, .int x]) (st1 := [.int (-1)]) (σ1 := σ) rfl ?_
      refine tw_ri rfl (rfl) ?_
      exact ⟨rfl, hI⟩
    · skip
      show tw_P L xs _ 168 0 [.ref 1, .int x] [] σ _
      refine tw_sg 3 (i1 := 3) (ls1 := [.ref 1, .int x]) (st1 := [.int x, .ref 4]) (σ1 := σ) rfl ?_
      refine tw_cl0 59 rfl (rfl) (by decide) ?_
      show tw_P L xs _ 125 0 [.ref 4, .int x] [] σ _
      refine tw_sg 1 (i1 := 1) (ls1 := [.ref 4, .int x]) (st1 := [.int x]) (σ1 := σ) rfl ?_
      refine tw_bzF (c := .lt) rfl (by rw [tw_clt'] <;> (exact hx)) ?_
      show tw_P L xs _ 125 2 [.ref 4, .int x] [] σ _
      refine tw_sgn 3 (i1 := 5) (ls0 := [.ref 4, .int x]) (st0 := [.int (σ 4 1), .int x]) (σ0 := σ) (ls1 := [.ref 4, .int x]) (st1 := [.int (nI k5), .int x]) (σ1 := σ) rfl (rfl) (by simp only [hk4, tw_nadd, tw_nmul]) (rfl) ?_
      refine tw_biT (c := .ge) rfl (by rw [tw_cge] <;> (exact tw_not_lt.mp (tw_not_lt.mpr hx2))) ?_
      show tw_P L xs _ 125 16 [.ref 4, .int x] [] σ _
      refine tw_sg 1 (i1 := 17) (ls1 := [.ref 4, .int x]) (st1 := [.int (-1)]) (σ1 := σ) rfl ?_
      refine tw_ri rfl (rfl) ?_
      show tw_P L xs _ 168 4 [.ref 1, .int x] [.int (-1)] σ _
      refine tw_ri rfl (rfl) ?_
      refine ⟨_, rfl, ?_⟩
      show tw_P L xs _ 248 0 [.ref 88, .int x] [] σ _
      refine tw_sgn 6 (i1 := 6) (ls0 := [.ref 88, .int x]) (st0 := [.int ((σ 88 37) - nI 1), .int (nI 0), .int x]) (σ0 := σ) (ls1 := [.ref 88, .int x]) (st1 := [.int (nI k5 - nI 1), .int (nI 0), .int x]) (σ1 := σ) rfl (rfl) (by simp only [hk37, tw_nadd, tw_nmul]) (rfl) ?_
      refine tw_cl1 rfl (rfl) (by decide) (tw_e_inN0 (by omega) hx0) ?_
      rintro _ _ ⟨rfl, rfl⟩
      show tw_P L xs _ 248 7 [.ref 88, .int x] [.int (nI 0)] σ _
      refine tw_bzT (c := .eq) rfl (by rw [tw_ceq, tw_neq (by omega) (by omega)] <;> omega) ?_
      show tw_P L xs _ 248 13 [.ref 88, .int x] [] σ _
      refine tw_sg 1 (i1 := 14) (ls1 := [.ref 88, .int x]) (st1 := [.int (-1)]) (σ1 := σ) rfl ?_
      refine tw_ri rfl (rfl) ?_
      exact ⟨rfl, hI⟩
set_option maxHeartbeats 4000000 in
set_option maxRecDepth 100000 in
theorem tw_o_paint {L : Nat} {xs : Nat → Int32} (x : Int32) (y : Int32) (w : Int32) : tw_op L xs 153 228 [.int x, .int y, .int w] := by
  intro σ hI
  obtain ⟨⟨n, r, hL⟩, hT, hPp, hPc, hLs, hIm, hC14, hC46, hC72⟩ := id hI
  obtain ⟨⟨hn10, hr50⟩, ⟨hn6, hn89⟩, ⟨hr9, hw9, hr90⟩, hCa, hRo, hLa⟩ := hL
  have hn6 : σ 6 4 = nI n := hn6
  have hn89 : σ 89 0 = nI n := hn89
  have hr9 : σ 9 3 = nI r := hr9
  have hw9 : σ 9 4 = nI n := hw9
  have hr90 : σ 90 0 = nI r := hr90
  obtain ⟨h, h8, h79, h32, hPi, hPz⟩ := id hPc
  rcases tw_within x h (by omega) with ⟨i, hi, rfl⟩ | hx
  · rcases tw_within y 10 (by decide) with ⟨c, hc, rfl⟩ | hy
    · rcases tw_within w 10 (by decide) with ⟨q, hq, rfl⟩ | hw
      · skip
        show tw_P L xs _ 153 0 [.ref 1, .int (nI i), .int (nI c), .int (nI q)] [] σ _
        refine tw_sg 4 (i1 := 4) (ls1 := [.ref 1, .int (nI i), .int (nI c), .int (nI q)]) (st1 := [.int (nI c), .int (nI i), .ref 79]) (σ1 := σ) rfl ?_
        refine tw_cl0 59 rfl (rfl) (by decide) ?_
        show tw_P L xs _ 115 0 [.ref 79, .int (nI i), .int (nI c)] [] σ _
        refine tw_sg 1 (i1 := 1) (ls1 := [.ref 79, .int (nI i), .int (nI c)]) (st1 := [.int (nI i)]) (σ1 := σ) rfl ?_
        refine tw_bzF (c := .lt) rfl (by rw [tw_clt', tw_nlt (by omega) (by omega)] <;> omega) ?_
        show tw_P L xs _ 115 2 [.ref 79, .int (nI i), .int (nI c)] [] σ _
        refine tw_sgn 3 (i1 := 5) (ls0 := [.ref 79, .int (nI i), .int (nI c)]) (st0 := [.int (σ 79 1), .int (nI i)]) (σ0 := σ) (ls1 := [.ref 79, .int (nI i), .int (nI c)]) (st1 := [.int (nI h), .int (nI i)]) (σ1 := σ) rfl (rfl) (by simp only [h79, tw_nadd, tw_nmul]) (rfl) ?_
        refine tw_biF (c := .ge) rfl (by rw [tw_cge', tw_nle (by omega) (by omega)] <;> omega) ?_
        show tw_P L xs _ 115 6 [.ref 79, .int (nI i), .int (nI c)] [] σ _
        refine tw_sg 1 (i1 := 7) (ls1 := [.ref 79, .int (nI i), .int (nI c)]) (st1 := [.int (nI c)]) (σ1 := σ) rfl ?_
        refine tw_bzF (c := .lt) rfl (by rw [tw_clt', tw_nlt (by omega) (by omega)] <;> omega) ?_
        show tw_P L xs _ 115 8 [.ref 79, .int (nI i), .int (nI c)] [] σ _
        refine tw_sg 2 (i1 := 10) (ls1 := [.ref 79, .int (nI i), .int (nI c)]) (st1 := [.int (nI 10), .int (nI c)]) (σ1 := σ) rfl ?_
        refine tw_biF (c := .ge) rfl (by rw [tw_cge', tw_nle (by omega) (by omega)] <;> omega) ?_
        show tw_P L xs _ 115 11 [.ref 79, .int (nI i), .int (nI c)] [] σ _
        refine tw_sg 2 (i1 := 14) (ls1 := [.ref 79, .int (nI i), .int (nI c)]) (st1 := [.int (nI 1)]) (σ1 := σ) rfl ?_
        refine tw_ri rfl (rfl) ?_
        show tw_P L xs _ 153 5 [.ref 1, .int (nI i), .int (nI c), .int (nI q)] [.int (nI 1)] σ _
        refine tw_bzT (c := .ne) rfl (by rw [tw_cne, tw_neq (by omega) (by omega)] <;> omega) ?_
        show tw_P L xs _ 153 8 [.ref 1, .int (nI i), .int (nI c), .int (nI q)] [] σ _
        refine tw_sg 1 (i1 := 9) (ls1 := [.ref 1, .int (nI i), .int (nI c), .int (nI q)]) (st1 := [.int (nI q)]) (σ1 := σ) rfl ?_
        refine tw_cl1 rfl (rfl) (by decide) (tw_e_isColour1 hq) ?_
        rintro _ _ ⟨rfl, rfl⟩
        show tw_P L xs _ 153 10 [.ref 1, .int (nI i), .int (nI c), .int (nI q)] [.int (nI 1)] σ _
        refine tw_bzF (c := .eq) rfl (by rw [tw_ceq', tw_neq (by omega) (by omega)] <;> omega) ?_
        show tw_P L xs _ 153 11 [.ref 1, .int (nI i), .int (nI c), .int (nI q)] [] σ _
        refine tw_sg 5 (i1 := 16) (ls1 := [.ref 1, .int (nI i), .int (nI c), .int (nI q)]) (st1 := [.int (nI q), .int (nI c), .int (nI i), .ref 79]) (σ1 := σ) rfl ?_
        refine tw_cl0 59 rfl (rfl) (by decide) ?_
        show tw_P L xs _ 117 0 [.ref 79, .int (nI i), .int (nI c), .int (nI q), tw_U, tw_U] [] σ _
        refine tw_sg 3 (i1 := 3) (ls1 := [.ref 79, .int (nI i), .int (nI c), .int (nI q), tw_U, tw_U]) (st1 := [.int (nI c), .int (nI i), .ref 79]) (σ1 := σ) rfl ?_
        refine tw_cl0 58 rfl (rfl) (by decide) ?_
        show tw_P L xs _ 116 0 [.ref 79, .int (nI i), .int (nI c), tw_U] [] σ _
        refine tw_sgn 9 (i1 := 9) (ls0 := [.ref 79, .int (nI i), .int (nI c), .int ((nI i * nI 10) + nI c)]) (st0 := [.int (nI c), .int (nI i), .ref 79]) (σ0 := σ) (ls1 := [.ref 79, .int (nI i), .int (nI c), .int (nI ((i * 10) + c))]) (st1 := [.int (nI c), .int (nI i), .ref 79]) (σ1 := σ) rfl (by simp only [tw_nadd, tw_nmul]) (rfl) (rfl) ?_
        refine tw_cl0 57 rfl (rfl) (by decide) ?_
        show tw_P L xs _ 115 0 [.ref 79, .int (nI i), .int (nI c)] [] σ _
        refine tw_sg 1 (i1 := 1) (ls1 := [.ref 79, .int (nI i), .int (nI c)]) (st1 := [.int (nI i)]) (σ1 := σ) rfl ?_
        refine tw_bzF (c := .lt) rfl (by rw [tw_clt', tw_nlt (by omega) (by omega)] <;> omega) ?_
        show tw_P L xs _ 115 2 [.ref 79, .int (nI i), .int (nI c)] [] σ _
        refine tw_sgn 3 (i1 := 5) (ls0 := [.ref 79, .int (nI i), .int (nI c)]) (st0 := [.int (σ 79 1), .int (nI i)]) (σ0 := σ) (ls1 := [.ref 79, .int (nI i), .int (nI c)]) (st1 := [.int (nI h), .int (nI i)]) (σ1 := σ) rfl (rfl) (by simp only [h79, tw_nadd, tw_nmul]) (rfl) ?_
        refine tw_biF (c := .ge) rfl (by rw [tw_cge', tw_nle (by omega) (by omega)] <;> omega) ?_
        show tw_P L xs _ 115 6 [.ref 79, .int (nI i), .int (nI c)] [] σ _
        refine tw_sg 1 (i1 := 7) (ls1 := [.ref 79, .int (nI i), .int (nI c)]) (st1 := [.int (nI c)]) (σ1 := σ) rfl ?_
        refine tw_bzF (c := .lt) rfl (by rw [tw_clt', tw_nlt (by omega) (by omega)] <;> omega) ?_
        show tw_P L xs _ 115 8 [.ref 79, .int (nI i), .int (nI c)] [] σ _
        refine tw_sg 2 (i1 := 10) (ls1 := [.ref 79, .int (nI i), .int (nI c)]) (st1 := [.int (nI 10), .int (nI c)]) (σ1 := σ) rfl ?_
        refine tw_biF (c := .ge) rfl (by rw [tw_cge', tw_nle (by omega) (by omega)] <;> omega) ?_
        show tw_P L xs _ 115 11 [.ref 79, .int (nI i), .int (nI c)] [] σ _
        refine tw_sg 2 (i1 := 14) (ls1 := [.ref 79, .int (nI i), .int (nI c)]) (st1 := [.int (nI 1)]) (σ1 := σ) rfl ?_
        refine tw_ri rfl (rfl) ?_
        show tw_P L xs _ 116 10 [.ref 79, .int (nI i), .int (nI c), .int (nI ((i * 10) + c))] [.int (nI 1)] σ _
        refine tw_bzF (c := .eq) rfl (by rw [tw_ceq', tw_neq (by omega) (by omega)] <;> omega) ?_
        show tw_P L xs _ 116 11 [.ref 79, .int (nI i), .int (nI c), .int (nI ((i * 10) + c))] [] σ _
        refine tw_sg 4 (i1 := 15) (ls1 := [.ref 79, .int (nI i), .int (nI c), .int (nI ((i * 10) + c))]) (st1 := [.int (nI 80), .int (nI ((i * 10) + c))]) (σ1 := σ) rfl ?_
        refine tw_biF (c := .ge) rfl (by rw [tw_cge', tw_nle (by omega) (by omega)] <;> omega) ?_
        show tw_P L xs _ 116 16 [.ref 79, .int (nI i), .int (nI c), .int (nI ((i * 10) + c))] [] σ _
        refine tw_sg 3 (i1 := 19) (ls1 := [.ref 79, .int (nI i), .int (nI c), .int (nI ((i * 10) + c))]) (st1 := [.int (nI ((i * 10) + c)), .ref 80]) (σ1 := σ) rfl ?_
        refine tw_al (k := 80) (j := ((i * 10) + c)) (len := 80) rfl rfl rfl rfl (rfl) (by omega) (by decide) ?_
        refine tw_sg 1 (i1 := 22) (ls1 := [.ref 79, .int (nI i), .int (nI c), .int (nI ((i * 10) + c))]) (st1 := [.int (σ 80 ((i * 10) + c))]) (σ1 := σ) rfl ?_
        refine tw_ri rfl (rfl) ?_
        show tw_P L xs _ 117 4 [.ref 79, .int (nI i), .int (nI c), .int (nI q), tw_U, tw_U] [.int (σ 80 ((i * 10) + c))] σ _
        refine tw_sgn 10 (i1 := 14) (ls0 := [.ref 79, .int (nI i), .int (nI c), .int (nI q), .int (σ 80 ((i * 10) + c)), .int ((nI i * nI 10) + nI c)]) (st0 := [.int (nI c), .int (nI i), .ref 79]) (σ0 := σ) (ls1 := [.ref 79, .int (nI i), .int (nI c), .int (nI q), .int (σ 80 ((i * 10) + c)), .int (nI ((i * 10) + c))]) (st1 := [.int (nI c), .int (nI i), .ref 79]) (σ1 := σ) rfl (by simp only [tw_nadd, tw_nmul]) (rfl) (rfl) ?_
        refine tw_cl0 58 rfl (rfl) (by decide) ?_
        show tw_P L xs _ 115 0 [.ref 79, .int (nI i), .int (nI c)] [] σ _
        refine tw_sg 1 (i1 := 1) (ls1 := [.ref 79, .int (nI i), .int (nI c)]) (st1 := [.int (nI i)]) (σ1 := σ) rfl ?_
        refine tw_bzF (c := .lt) rfl (by rw [tw_clt', tw_nlt (by omega) (by omega)] <;> omega) ?_
        show tw_P L xs _ 115 2 [.ref 79, .int (nI i), .int (nI c)] [] σ _
        refine tw_sgn 3 (i1 := 5) (ls0 := [.ref 79, .int (nI i), .int (nI c)]) (st0 := [.int (σ 79 1), .int (nI i)]) (σ0 := σ) (ls1 := [.ref 79, .int (nI i), .int (nI c)]) (st1 := [.int (nI h), .int (nI i)]) (σ1 := σ) rfl (rfl) (by simp only [h79, tw_nadd, tw_nmul]) (rfl) ?_
        refine tw_biF (c := .ge) rfl (by rw [tw_cge', tw_nle (by omega) (by omega)] <;> omega) ?_
        show tw_P L xs _ 115 6 [.ref 79, .int (nI i), .int (nI c)] [] σ _
        refine tw_sg 1 (i1 := 7) (ls1 := [.ref 79, .int (nI i), .int (nI c)]) (st1 := [.int (nI c)]) (σ1 := σ) rfl ?_
        refine tw_bzF (c := .lt) rfl (by rw [tw_clt', tw_nlt (by omega) (by omega)] <;> omega) ?_
        show tw_P L xs _ 115 8 [.ref 79, .int (nI i), .int (nI c)] [] σ _
        refine tw_sg 2 (i1 := 10) (ls1 := [.ref 79, .int (nI i), .int (nI c)]) (st1 := [.int (nI 10), .int (nI c)]) (σ1 := σ) rfl ?_
        refine tw_biF (c := .ge) rfl (by rw [tw_cge', tw_nle (by omega) (by omega)] <;> omega) ?_
        show tw_P L xs _ 115 11 [.ref 79, .int (nI i), .int (nI c)] [] σ _
        refine tw_sg 2 (i1 := 14) (ls1 := [.ref 79, .int (nI i), .int (nI c)]) (st1 := [.int (nI 1)]) (σ1 := σ) rfl ?_
        refine tw_ri rfl (rfl) ?_
        show tw_P L xs _ 117 15 [.ref 79, .int (nI i), .int (nI c), .int (nI q), .int (σ 80 ((i * 10) + c)), .int (nI ((i * 10) + c))] [.int (nI 1)] σ _
        refine tw_bzF (c := .eq) rfl (by rw [tw_ceq', tw_neq (by omega) (by omega)] <;> omega) ?_
        show tw_P L xs _ 117 16 [.ref 79, .int (nI i), .int (nI c), .int (nI q), .int (σ 80 ((i * 10) + c)), .int (nI ((i * 10) + c))] [] σ _
        refine tw_sg 4 (i1 := 20) (ls1 := [.ref 79, .int (nI i), .int (nI c), .int (nI q), .int (σ 80 ((i * 10) + c)), .int (nI ((i * 10) + c))]) (st1 := [.int (nI 80), .int (nI ((i * 10) + c))]) (σ1 := σ) rfl ?_
        refine tw_biF (c := .ge) rfl (by rw [tw_cge', tw_nle (by omega) (by omega)] <;> omega) ?_
        show tw_P L xs _ 117 21 [.ref 79, .int (nI i), .int (nI c), .int (nI q), .int (σ 80 ((i * 10) + c)), .int (nI ((i * 10) + c))] [] σ _
        refine tw_sg 4 (i1 := 25) (ls1 := [.ref 79, .int (nI i), .int (nI c), .int (nI q), .int (σ 80 ((i * 10) + c)), .int (nI ((i * 10) + c))]) (st1 := [.int (nI q), .int (nI ((i * 10) + c)), .ref 80]) (σ1 := σ) rfl ?_
        refine tw_as (k := 80) (j := ((i * 10) + c)) (len := 80) rfl rfl rfl (rfl) (by omega) (by decide) ?_
        refine tw_sg 1 (i1 := 27) (ls1 := [.ref 79, .int (nI i), .int (nI c), .int (nI q), .int (σ 80 ((i * 10) + c)), .int (nI ((i * 10) + c))]) (st1 := [.int (σ 80 ((i * 10) + c))]) (σ1 := (tw_upd σ 80 ((i * 10) + c) (nI q))) rfl ?_
        refine tw_ri rfl (rfl) ?_
        show tw_P L xs _ 153 17 [.ref 1, .int (nI i), .int (nI c), .int (nI q)] [.int (σ 80 ((i * 10) + c))] (tw_upd σ 80 ((i * 10) + c) (nI q)) _
        refine tw_sg 1 (i1 := 19) (ls1 := [.ref 1, .int (nI i), .int (nI c), .int (nI q)]) (st1 := [.int (σ 80 ((i * 10) + c))]) (σ1 := (tw_upd σ 80 ((i * 10) + c) (nI q))) rfl ?_
        refine tw_ri rfl (rfl) ?_
        refine ⟨_, rfl, ?_⟩
        show tw_P L xs _ 228 0 [.ref 88, .int (nI i), .int (nI c), .int (nI q), tw_U] [] (tw_upd σ 80 ((i * 10) + c) (nI q)) _
        refine tw_sgn 6 (i1 := 6) (ls0 := [.ref 88, .int (nI i), .int (nI c), .int (nI q), tw_U]) (st0 := [.int ((σ 88 32) - nI 1), .int (nI 0), .int (nI i)]) (σ0 := (tw_upd σ 80 ((i * 10) + c) (nI q))) (ls1 := [.ref 88, .int (nI i), .int (nI c), .int (nI q), tw_U]) (st1 := [.int (nI h - nI 1), .int (nI 0), .int (nI i)]) (σ1 := (tw_upd σ 80 ((i * 10) + c) (nI q))) rfl (rfl) (by simp only [h32, tw_nadd, tw_nmul]) (rfl) ?_
        refine tw_cl1 rfl (rfl) (by decide) (tw_e_inN1 hi (by omega)) ?_
        rintro _ _ ⟨rfl, rfl⟩
        show tw_P L xs _ 228 7 [.ref 88, .int (nI i), .int (nI c), .int (nI q), tw_U] [.int (nI 1)] (tw_upd σ 80 ((i * 10) + c) (nI q)) _
        refine tw_bzF (c := .eq) rfl (by rw [tw_ceq', tw_neq (by omega) (by omega)] <;> omega) ?_
        show tw_P L xs _ 228 8 [.ref 88, .int (nI i), .int (nI c), .int (nI q), tw_U] [] (tw_upd σ 80 ((i * 10) + c) (nI q)) _
        refine tw_sg 3 (i1 := 11) (ls1 := [.ref 88, .int (nI i), .int (nI c), .int (nI q), tw_U]) (st1 := [.int (nI 9), .int (nI 0), .int (nI c)]) (σ1 := (tw_upd σ 80 ((i * 10) + c) (nI q))) rfl ?_
        refine tw_cl0 59 rfl (rfl) (by decide) ?_
        show tw_P L xs _ 182 0 [.int (nI c), .int (nI 0), .int (nI 9)] [] (tw_upd σ 80 ((i * 10) + c) (nI q)) _
        refine tw_sg 2 (i1 := 2) (ls1 := [.int (nI c), .int (nI 0), .int (nI 9)]) (st1 := [.int (nI 0), .int (nI c)]) (σ1 := (tw_upd σ 80 ((i * 10) + c) (nI q))) rfl ?_
        refine tw_biF (c := .lt) rfl (by rw [tw_clt', tw_nlt (by omega) (by omega)] <;> omega) ?_
        show tw_P L xs _ 182 3 [.int (nI c), .int (nI 0), .int (nI 9)] [] (tw_upd σ 80 ((i * 10) + c) (nI q)) _
        refine tw_sg 2 (i1 := 5) (ls1 := [.int (nI c), .int (nI 0), .int (nI 9)]) (st1 := [.int (nI 9), .int (nI c)]) (σ1 := (tw_upd σ 80 ((i * 10) + c) (nI q))) rfl ?_
        refine tw_biF (c := .gt) rfl (by rw [tw_cgt', tw_nlt (by omega) (by omega)] <;> omega) ?_
        show tw_P L xs _ 182 6 [.int (nI c), .int (nI 0), .int (nI 9)] [] (tw_upd σ 80 ((i * 10) + c) (nI q)) _
        refine tw_sg 2 (i1 := 9) (ls1 := [.int (nI c), .int (nI 0), .int (nI 9)]) (st1 := [.int (nI 1)]) (σ1 := (tw_upd σ 80 ((i * 10) + c) (nI q))) rfl ?_
        refine tw_ri rfl (rfl) ?_
        show tw_P L xs _ 228 12 [.ref 88, .int (nI i), .int (nI c), .int (nI q), tw_U] [.int (nI 1)] (tw_upd σ 80 ((i * 10) + c) (nI q)) _
        refine tw_bzT (c := .ne) rfl (by rw [tw_cne, tw_neq (by omega) (by omega)] <;> omega) ?_
        show tw_P L xs _ 228 15 [.ref 88, .int (nI i), .int (nI c), .int (nI q), tw_U] [] (tw_upd σ 80 ((i * 10) + c) (nI q)) _
        refine tw_sg 1 (i1 := 16) (ls1 := [.ref 88, .int (nI i), .int (nI c), .int (nI q), tw_U]) (st1 := [.int (nI q)]) (σ1 := (tw_upd σ 80 ((i * 10) + c) (nI q))) rfl ?_
        refine tw_cl1 rfl (rfl) (by decide) (tw_e_mIsColour1 hq) ?_
        rintro _ _ ⟨rfl, rfl⟩
        show tw_P L xs _ 228 17 [.ref 88, .int (nI i), .int (nI c), .int (nI q), tw_U] [.int (nI 1)] (tw_upd σ 80 ((i * 10) + c) (nI q)) _
        refine tw_bzT (c := .ne) rfl (by rw [tw_cne, tw_neq (by omega) (by omega)] <;> omega) ?_
        show tw_P L xs _ 228 20 [.ref 88, .int (nI i), .int (nI c), .int (nI q), tw_U] [] (tw_upd σ 80 ((i * 10) + c) (nI q)) _
        refine tw_sgn 7 (i1 := 27) (ls0 := [.ref 88, .int (nI i), .int (nI c), .int (nI q), tw_U]) (st0 := [.int ((nI 10 * nI i) + nI c), .ref 113]) (σ0 := (tw_upd σ 80 ((i * 10) + c) (nI q))) (ls1 := [.ref 88, .int (nI i), .int (nI c), .int (nI q), tw_U]) (st1 := [.int (nI ((10 * i) + c)), .ref 113]) (σ1 := (tw_upd σ 80 ((i * 10) + c) (nI q))) rfl (rfl) (by simp only [tw_nadd, tw_nmul]) (rfl) ?_
        refine tw_al (k := 113) (j := ((10 * i) + c)) (len := 80) rfl rfl rfl rfl (rfl) (by omega) (by decide) ?_
        rw [show (tw_upd σ 80 ((i * 10) + c) (nI q)) 113 ((10 * i) + c) = σ 113 ((10 * i) + c) from by repeat (first | exact rfl | exact tw_upd_at | rw [tw_upd_off (by omega)])]
        refine tw_sgn 9 (i1 := 37) (ls0 := [.ref 88, .int (nI i), .int (nI c), .int (nI q), .int (σ 113 ((10 * i) + c))]) (st0 := [.int (nI q), .int ((nI 10 * nI i) + nI c), .ref 113]) (σ0 := (tw_upd σ 80 ((i * 10) + c) (nI q))) (ls1 := [.ref 88, .int (nI i), .int (nI c), .int (nI q), .int (σ 113 ((10 * i) + c))]) (st1 := [.int (nI q), .int (nI ((10 * i) + c)), .ref 113]) (σ1 := (tw_upd σ 80 ((i * 10) + c) (nI q))) rfl (rfl) (by simp only [tw_nadd, tw_nmul]) (rfl) ?_
        refine tw_as (k := 113) (j := ((10 * i) + c)) (len := 80) rfl rfl rfl (rfl) (by omega) (by decide) ?_
        refine tw_sg 1 (i1 := 39) (ls1 := [.ref 88, .int (nI i), .int (nI c), .int (nI q), .int (σ 113 ((10 * i) + c))]) (st1 := [.int (σ 113 ((10 * i) + c))]) (σ1 := (tw_upd (tw_upd σ 80 ((i * 10) + c) (nI q)) 113 ((10 * i) + c) (nI q))) rfl ?_
        refine tw_ri rfl (rfl) ?_
        refine ⟨by rw [show i * 10 + c = 10 * i + c by omega, hPi (10 * i + c) (by omega)], hI.pic ⟨h, h8, ?_, ?_, fun j hj => ?_, fun j hj hj2 => ?_⟩ (fun k1 j h => by rw [tw_upd_off (fun g => h (by unfold tw_fPic; omega)), tw_upd_off (fun g => h (by unfold tw_fPic; omega))])⟩
        · rw [tw_upd_off (by omega), tw_upd_off (by omega)]; exact h79
        · rw [tw_upd_off (by omega), tw_upd_off (by omega)]; exact h32
        · by_cases hz : j = 10 * i + c
          · subst hz; rw [tw_upd_at, tw_upd_off (by omega), show 10 * i + c = i * 10 + c by omega, tw_upd_at]
          · rw [tw_upd_off (by omega), tw_upd_off (by omega), tw_upd_off (by omega), tw_upd_off (by omega)]; exact hPi j hj
        · rw [tw_upd_off (by omega), tw_upd_off (by omega)]; exact hPz j hj hj2
      · skip
        show tw_P L xs _ 153 0 [.ref 1, .int (nI i), .int (nI c), .int w] [] σ _
        refine tw_sg 4 (i1 := 4) (ls1 := [.ref 1, .int (nI i), .int (nI c), .int w]) (st1 := [.int (nI c), .int (nI i), .ref 79]) (σ1 := σ) rfl ?_
        refine tw_cl0 59 rfl (rfl) (by decide) ?_
        show tw_P L xs _ 115 0 [.ref 79, .int (nI i), .int (nI c)] [] σ _
        refine tw_sg 1 (i1 := 1) (ls1 := [.ref 79, .int (nI i), .int (nI c)]) (st1 := [.int (nI i)]) (σ1 := σ) rfl ?_
        refine tw_bzF (c := .lt) rfl (by rw [tw_clt', tw_nlt (by omega) (by omega)] <;> omega) ?_
        show tw_P L xs _ 115 2 [.ref 79, .int (nI i), .int (nI c)] [] σ _
        refine tw_sgn 3 (i1 := 5) (ls0 := [.ref 79, .int (nI i), .int (nI c)]) (st0 := [.int (σ 79 1), .int (nI i)]) (σ0 := σ) (ls1 := [.ref 79, .int (nI i), .int (nI c)]) (st1 := [.int (nI h), .int (nI i)]) (σ1 := σ) rfl (rfl) (by simp only [h79, tw_nadd, tw_nmul]) (rfl) ?_
        refine tw_biF (c := .ge) rfl (by rw [tw_cge', tw_nle (by omega) (by omega)] <;> omega) ?_
        show tw_P L xs _ 115 6 [.ref 79, .int (nI i), .int (nI c)] [] σ _
        refine tw_sg 1 (i1 := 7) (ls1 := [.ref 79, .int (nI i), .int (nI c)]) (st1 := [.int (nI c)]) (σ1 := σ) rfl ?_
        refine tw_bzF (c := .lt) rfl (by rw [tw_clt', tw_nlt (by omega) (by omega)] <;> omega) ?_
        show tw_P L xs _ 115 8 [.ref 79, .int (nI i), .int (nI c)] [] σ _
        refine tw_sg 2 (i1 := 10) (ls1 := [.ref 79, .int (nI i), .int (nI c)]) (st1 := [.int (nI 10), .int (nI c)]) (σ1 := σ) rfl ?_
        refine tw_biF (c := .ge) rfl (by rw [tw_cge', tw_nle (by omega) (by omega)] <;> omega) ?_
        show tw_P L xs _ 115 11 [.ref 79, .int (nI i), .int (nI c)] [] σ _
        refine tw_sg 2 (i1 := 14) (ls1 := [.ref 79, .int (nI i), .int (nI c)]) (st1 := [.int (nI 1)]) (σ1 := σ) rfl ?_
        refine tw_ri rfl (rfl) ?_
        show tw_P L xs _ 153 5 [.ref 1, .int (nI i), .int (nI c), .int w] [.int (nI 1)] σ _
        refine tw_bzT (c := .ne) rfl (by rw [tw_cne, tw_neq (by omega) (by omega)] <;> omega) ?_
        show tw_P L xs _ 153 8 [.ref 1, .int (nI i), .int (nI c), .int w] [] σ _
        refine tw_sg 1 (i1 := 9) (ls1 := [.ref 1, .int (nI i), .int (nI c), .int w]) (st1 := [.int w]) (σ1 := σ) rfl ?_
        refine tw_cl1 rfl (rfl) (by decide) (tw_e_isColour0 hw) ?_
        rintro _ _ ⟨rfl, rfl⟩
        show tw_P L xs _ 153 10 [.ref 1, .int (nI i), .int (nI c), .int w] [.int (nI 0)] σ _
        refine tw_bzT (c := .eq) rfl (by rw [tw_ceq, tw_neq (by omega) (by omega)] <;> omega) ?_
        show tw_P L xs _ 153 18 [.ref 1, .int (nI i), .int (nI c), .int w] [] σ _
        refine tw_sg 1 (i1 := 19) (ls1 := [.ref 1, .int (nI i), .int (nI c), .int w]) (st1 := [.int (-2)]) (σ1 := σ) rfl ?_
        refine tw_ri rfl (rfl) ?_
        refine ⟨_, rfl, ?_⟩
        show tw_P L xs _ 228 0 [.ref 88, .int (nI i), .int (nI c), .int w, tw_U] [] σ _
        refine tw_sgn 6 (i1 := 6) (ls0 := [.ref 88, .int (nI i), .int (nI c), .int w, tw_U]) (st0 := [.int ((σ 88 32) - nI 1), .int (nI 0), .int (nI i)]) (σ0 := σ) (ls1 := [.ref 88, .int (nI i), .int (nI c), .int w, tw_U]) (st1 := [.int (nI h - nI 1), .int (nI 0), .int (nI i)]) (σ1 := σ) rfl (rfl) (by simp only [h32, tw_nadd, tw_nmul]) (rfl) ?_
        refine tw_cl1 rfl (rfl) (by decide) (tw_e_inN1 hi (by omega)) ?_
        rintro _ _ ⟨rfl, rfl⟩
        show tw_P L xs _ 228 7 [.ref 88, .int (nI i), .int (nI c), .int w, tw_U] [.int (nI 1)] σ _
        refine tw_bzF (c := .eq) rfl (by rw [tw_ceq', tw_neq (by omega) (by omega)] <;> omega) ?_
        show tw_P L xs _ 228 8 [.ref 88, .int (nI i), .int (nI c), .int w, tw_U] [] σ _
        refine tw_sg 3 (i1 := 11) (ls1 := [.ref 88, .int (nI i), .int (nI c), .int w, tw_U]) (st1 := [.int (nI 9), .int (nI 0), .int (nI c)]) (σ1 := σ) rfl ?_
        refine tw_cl0 59 rfl (rfl) (by decide) ?_
        show tw_P L xs _ 182 0 [.int (nI c), .int (nI 0), .int (nI 9)] [] σ _
        refine tw_sg 2 (i1 := 2) (ls1 := [.int (nI c), .int (nI 0), .int (nI 9)]) (st1 := [.int (nI 0), .int (nI c)]) (σ1 := σ) rfl ?_
        refine tw_biF (c := .lt) rfl (by rw [tw_clt', tw_nlt (by omega) (by omega)] <;> omega) ?_
        show tw_P L xs _ 182 3 [.int (nI c), .int (nI 0), .int (nI 9)] [] σ _
        refine tw_sg 2 (i1 := 5) (ls1 := [.int (nI c), .int (nI 0), .int (nI 9)]) (st1 := [.int (nI 9), .int (nI c)]) (σ1 := σ) rfl ?_
        refine tw_biF (c := .gt) rfl (by rw [tw_cgt', tw_nlt (by omega) (by omega)] <;> omega) ?_
        show tw_P L xs _ 182 6 [.int (nI c), .int (nI 0), .int (nI 9)] [] σ _
        refine tw_sg 2 (i1 := 9) (ls1 := [.int (nI c), .int (nI 0), .int (nI 9)]) (st1 := [.int (nI 1)]) (σ1 := σ) rfl ?_
        refine tw_ri rfl (rfl) ?_
        show tw_P L xs _ 228 12 [.ref 88, .int (nI i), .int (nI c), .int w, tw_U] [.int (nI 1)] σ _
        refine tw_bzT (c := .ne) rfl (by rw [tw_cne, tw_neq (by omega) (by omega)] <;> omega) ?_
        show tw_P L xs _ 228 15 [.ref 88, .int (nI i), .int (nI c), .int w, tw_U] [] σ _
        refine tw_sg 1 (i1 := 16) (ls1 := [.ref 88, .int (nI i), .int (nI c), .int w, tw_U]) (st1 := [.int w]) (σ1 := σ) rfl ?_
        refine tw_cl1 rfl (rfl) (by decide) (tw_e_mIsColour0 hw) ?_
        rintro _ _ ⟨rfl, rfl⟩
        show tw_P L xs _ 228 17 [.ref 88, .int (nI i), .int (nI c), .int w, tw_U] [.int (nI 0)] σ _
        refine tw_bzF (c := .ne) rfl (by rw [tw_cne', tw_neq (by omega) (by omega)] <;> omega) ?_
        show tw_P L xs _ 228 18 [.ref 88, .int (nI i), .int (nI c), .int w, tw_U] [] σ _
        refine tw_sg 1 (i1 := 19) (ls1 := [.ref 88, .int (nI i), .int (nI c), .int w, tw_U]) (st1 := [.int (-2)]) (σ1 := σ) rfl ?_
        refine tw_ri rfl (rfl) ?_
        exact ⟨rfl, hI⟩
    · rcases hy with hy | ⟨hy, hy2⟩
      · skip
        show tw_P L xs _ 153 0 [.ref 1, .int (nI i), .int y, .int w] [] σ _
        refine tw_sg 4 (i1 := 4) (ls1 := [.ref 1, .int (nI i), .int y, .int w]) (st1 := [.int y, .int (nI i), .ref 79]) (σ1 := σ) rfl ?_
        refine tw_cl0 59 rfl (rfl) (by decide) ?_
        show tw_P L xs _ 115 0 [.ref 79, .int (nI i), .int y] [] σ _
        refine tw_sg 1 (i1 := 1) (ls1 := [.ref 79, .int (nI i), .int y]) (st1 := [.int (nI i)]) (σ1 := σ) rfl ?_
        refine tw_bzF (c := .lt) rfl (by rw [tw_clt', tw_nlt (by omega) (by omega)] <;> omega) ?_
        show tw_P L xs _ 115 2 [.ref 79, .int (nI i), .int y] [] σ _
        refine tw_sgn 3 (i1 := 5) (ls0 := [.ref 79, .int (nI i), .int y]) (st0 := [.int (σ 79 1), .int (nI i)]) (σ0 := σ) (ls1 := [.ref 79, .int (nI i), .int y]) (st1 := [.int (nI h), .int (nI i)]) (σ1 := σ) rfl (rfl) (by simp only [h79, tw_nadd, tw_nmul]) (rfl) ?_
        refine tw_biF (c := .ge) rfl (by rw [tw_cge', tw_nle (by omega) (by omega)] <;> omega) ?_
        show tw_P L xs _ 115 6 [.ref 79, .int (nI i), .int y] [] σ _
        refine tw_sg 1 (i1 := 7) (ls1 := [.ref 79, .int (nI i), .int y]) (st1 := [.int y]) (σ1 := σ) rfl ?_
        refine tw_bzT (c := .lt) rfl (by rw [tw_clt] <;> (exact hy)) ?_
        show tw_P L xs _ 115 13 [.ref 79, .int (nI i), .int y] [] σ _
        refine tw_sg 1 (i1 := 14) (ls1 := [.ref 79, .int (nI i), .int y]) (st1 := [.int (nI 0)]) (σ1 := σ) rfl ?_
        refine tw_ri rfl (rfl) ?_
        show tw_P L xs _ 153 5 [.ref 1, .int (nI i), .int y, .int w] [.int (nI 0)] σ _
        refine tw_bzF (c := .ne) rfl (by rw [tw_cne', tw_neq (by omega) (by omega)] <;> omega) ?_
        show tw_P L xs _ 153 6 [.ref 1, .int (nI i), .int y, .int w] [] σ _
        refine tw_sg 1 (i1 := 7) (ls1 := [.ref 1, .int (nI i), .int y, .int w]) (st1 := [.int (-1)]) (σ1 := σ) rfl ?_
        refine tw_ri rfl (rfl) ?_
        refine ⟨_, rfl, ?_⟩
        show tw_P L xs _ 228 0 [.ref 88, .int (nI i), .int y, .int w, tw_U] [] σ _
        refine tw_sgn 6 (i1 := 6) (ls0 := [.ref 88, .int (nI i), .int y, .int w, tw_U]) (st0 := [.int ((σ 88 32) - nI 1), .int (nI 0), .int (nI i)]) (σ0 := σ) (ls1 := [.ref 88, .int (nI i), .int y, .int w, tw_U]) (st1 := [.int (nI h - nI 1), .int (nI 0), .int (nI i)]) (σ1 := σ) rfl (rfl) (by simp only [h32, tw_nadd, tw_nmul]) (rfl) ?_
        refine tw_cl1 rfl (rfl) (by decide) (tw_e_inN1 hi (by omega)) ?_
        rintro _ _ ⟨rfl, rfl⟩
        show tw_P L xs _ 228 7 [.ref 88, .int (nI i), .int y, .int w, tw_U] [.int (nI 1)] σ _
        refine tw_bzF (c := .eq) rfl (by rw [tw_ceq', tw_neq (by omega) (by omega)] <;> omega) ?_
        show tw_P L xs _ 228 8 [.ref 88, .int (nI i), .int y, .int w, tw_U] [] σ _
        refine tw_sg 3 (i1 := 11) (ls1 := [.ref 88, .int (nI i), .int y, .int w, tw_U]) (st1 := [.int (nI 9), .int (nI 0), .int y]) (σ1 := σ) rfl ?_
        refine tw_cl0 59 rfl (rfl) (by decide) ?_
        show tw_P L xs _ 182 0 [.int y, .int (nI 0), .int (nI 9)] [] σ _
        refine tw_sg 2 (i1 := 2) (ls1 := [.int y, .int (nI 0), .int (nI 9)]) (st1 := [.int (nI 0), .int y]) (σ1 := σ) rfl ?_
        refine tw_biT (c := .lt) rfl (by rw [tw_clt] <;> (exact hy)) ?_
        show tw_P L xs _ 182 8 [.int y, .int (nI 0), .int (nI 9)] [] σ _
        refine tw_sg 1 (i1 := 9) (ls1 := [.int y, .int (nI 0), .int (nI 9)]) (st1 := [.int (nI 0)]) (σ1 := σ) rfl ?_
        refine tw_ri rfl (rfl) ?_
        show tw_P L xs _ 228 12 [.ref 88, .int (nI i), .int y, .int w, tw_U] [.int (nI 0)] σ _
        refine tw_bzF (c := .ne) rfl (by rw [tw_cne', tw_neq (by omega) (by omega)] <;> omega) ?_
        show tw_P L xs _ 228 13 [.ref 88, .int (nI i), .int y, .int w, tw_U] [] σ _
        refine tw_sg 1 (i1 := 14) (ls1 := [.ref 88, .int (nI i), .int y, .int w, tw_U]) (st1 := [.int (-1)]) (σ1 := σ) rfl ?_
        refine tw_ri rfl (rfl) ?_
        exact ⟨rfl, hI⟩
      · skip
        show tw_P L xs _ 153 0 [.ref 1, .int (nI i), .int y, .int w] [] σ _
        refine tw_sg 4 (i1 := 4) (ls1 := [.ref 1, .int (nI i), .int y, .int w]) (st1 := [.int y, .int (nI i), .ref 79]) (σ1 := σ) rfl ?_
        refine tw_cl0 59 rfl (rfl) (by decide) ?_
        show tw_P L xs _ 115 0 [.ref 79, .int (nI i), .int y] [] σ _
        refine tw_sg 1 (i1 := 1) (ls1 := [.ref 79, .int (nI i), .int y]) (st1 := [.int (nI i)]) (σ1 := σ) rfl ?_
        refine tw_bzF (c := .lt) rfl (by rw [tw_clt', tw_nlt (by omega) (by omega)] <;> omega) ?_
        show tw_P L xs _ 115 2 [.ref 79, .int (nI i), .int y] [] σ _
        refine tw_sgn 3 (i1 := 5) (ls0 := [.ref 79, .int (nI i), .int y]) (st0 := [.int (σ 79 1), .int (nI i)]) (σ0 := σ) (ls1 := [.ref 79, .int (nI i), .int y]) (st1 := [.int (nI h), .int (nI i)]) (σ1 := σ) rfl (rfl) (by simp only [h79, tw_nadd, tw_nmul]) (rfl) ?_
        refine tw_biF (c := .ge) rfl (by rw [tw_cge', tw_nle (by omega) (by omega)] <;> omega) ?_
        show tw_P L xs _ 115 6 [.ref 79, .int (nI i), .int y] [] σ _
        refine tw_sg 1 (i1 := 7) (ls1 := [.ref 79, .int (nI i), .int y]) (st1 := [.int y]) (σ1 := σ) rfl ?_
        refine tw_bzF (c := .lt) rfl (by rw [tw_clt'] <;> (exact hy)) ?_
        show tw_P L xs _ 115 8 [.ref 79, .int (nI i), .int y] [] σ _
        refine tw_sg 2 (i1 := 10) (ls1 := [.ref 79, .int (nI i), .int y]) (st1 := [.int (nI 10), .int y]) (σ1 := σ) rfl ?_
        refine tw_biT (c := .ge) rfl (by rw [tw_cge] <;> (exact tw_not_lt.mp (tw_not_lt.mpr hy2))) ?_
        show tw_P L xs _ 115 13 [.ref 79, .int (nI i), .int y] [] σ _
        refine tw_sg 1 (i1 := 14) (ls1 := [.ref 79, .int (nI i), .int y]) (st1 := [.int (nI 0)]) (σ1 := σ) rfl ?_
        refine tw_ri rfl (rfl) ?_
        show tw_P L xs _ 153 5 [.ref 1, .int (nI i), .int y, .int w] [.int (nI 0)] σ _
        refine tw_bzF (c := .ne) rfl (by rw [tw_cne', tw_neq (by omega) (by omega)] <;> omega) ?_
        show tw_P L xs _ 153 6 [.ref 1, .int (nI i), .int y, .int w] [] σ _
        refine tw_sg 1 (i1 := 7) (ls1 := [.ref 1, .int (nI i), .int y, .int w]) (st1 := [.int (-1)]) (σ1 := σ) rfl ?_
        refine tw_ri rfl (rfl) ?_
        refine ⟨_, rfl, ?_⟩
        show tw_P L xs _ 228 0 [.ref 88, .int (nI i), .int y, .int w, tw_U] [] σ _
        refine tw_sgn 6 (i1 := 6) (ls0 := [.ref 88, .int (nI i), .int y, .int w, tw_U]) (st0 := [.int ((σ 88 32) - nI 1), .int (nI 0), .int (nI i)]) (σ0 := σ) (ls1 := [.ref 88, .int (nI i), .int y, .int w, tw_U]) (st1 := [.int (nI h - nI 1), .int (nI 0), .int (nI i)]) (σ1 := σ) rfl (rfl) (by simp only [h32, tw_nadd, tw_nmul]) (rfl) ?_
        refine tw_cl1 rfl (rfl) (by decide) (tw_e_inN1 hi (by omega)) ?_
        rintro _ _ ⟨rfl, rfl⟩
        show tw_P L xs _ 228 7 [.ref 88, .int (nI i), .int y, .int w, tw_U] [.int (nI 1)] σ _
        refine tw_bzF (c := .eq) rfl (by rw [tw_ceq', tw_neq (by omega) (by omega)] <;> omega) ?_
        show tw_P L xs _ 228 8 [.ref 88, .int (nI i), .int y, .int w, tw_U] [] σ _
        refine tw_sg 3 (i1 := 11) (ls1 := [.ref 88, .int (nI i), .int y, .int w, tw_U]) (st1 := [.int (nI 9), .int (nI 0), .int y]) (σ1 := σ) rfl ?_
        refine tw_cl0 59 rfl (rfl) (by decide) ?_
        show tw_P L xs _ 182 0 [.int y, .int (nI 0), .int (nI 9)] [] σ _
        refine tw_sg 2 (i1 := 2) (ls1 := [.int y, .int (nI 0), .int (nI 9)]) (st1 := [.int (nI 0), .int y]) (σ1 := σ) rfl ?_
        refine tw_biF (c := .lt) rfl (by rw [tw_clt'] <;> (exact hy)) ?_
        show tw_P L xs _ 182 3 [.int y, .int (nI 0), .int (nI 9)] [] σ _
        refine tw_sg 2 (i1 := 5) (ls1 := [.int y, .int (nI 0), .int (nI 9)]) (st1 := [.int (nI 9), .int y]) (σ1 := σ) rfl ?_
        refine tw_biT (c := .gt) rfl (by rw [tw_cgt] <;> (exact (tw_lt_le1 (n := 9) (by decide) hy2))) ?_
        show tw_P L xs _ 182 8 [.int y, .int (nI 0), .int (nI 9)] [] σ _
        refine tw_sg 1 (i1 := 9) (ls1 := [.int y, .int (nI 0), .int (nI 9)]) (st1 := [.int (nI 0)]) (σ1 := σ) rfl ?_
        refine tw_ri rfl (rfl) ?_
        show tw_P L xs _ 228 12 [.ref 88, .int (nI i), .int y, .int w, tw_U] [.int (nI 0)] σ _
        refine tw_bzF (c := .ne) rfl (by rw [tw_cne', tw_neq (by omega) (by omega)] <;> omega) ?_
        show tw_P L xs _ 228 13 [.ref 88, .int (nI i), .int y, .int w, tw_U] [] σ _
        refine tw_sg 1 (i1 := 14) (ls1 := [.ref 88, .int (nI i), .int y, .int w, tw_U]) (st1 := [.int (-1)]) (σ1 := σ) rfl ?_
        refine tw_ri rfl (rfl) ?_
        exact ⟨rfl, hI⟩
  · have hx0 := hx
    rcases hx with hx | ⟨hx, hx2⟩
    · skip
      show tw_P L xs _ 153 0 [.ref 1, .int x, .int y, .int w] [] σ _
      refine tw_sg 4 (i1 := 4) (ls1 := [.ref 1, .int x, .int y, .int w]) (st1 := [.int y, .int x, .ref 79]) (σ1 := σ) rfl ?_
      refine tw_cl0 59 rfl (rfl) (by decide) ?_
      show tw_P L xs _ 115 0 [.ref 79, .int x, .int y] [] σ _
      refine tw_sg 1 (i1 := 1) (ls1 := [.ref 79, .int x, .int y]) (st1 := [.int x]) (σ1 := σ) rfl ?_
      refine tw_bzT (c := .lt) rfl (by rw [tw_clt] <;> (exact hx)) ?_
      show tw_P L xs _ 115 13 [.ref 79, .int x, .int y] [] σ _
      refine tw_sg 1 (i1 := 14) (ls1 := [.ref 79, .int x, .int y]) (st1 := [.int (nI 0)]) (σ1 := σ) rfl ?_
      refine tw_ri rfl (rfl) ?_
      show tw_P L xs _ 153 5 [.ref 1, .int x, .int y, .int w] [.int (nI 0)] σ _
      refine tw_bzF (c := .ne) rfl (by rw [tw_cne', tw_neq (by omega) (by omega)] <;> omega) ?_
      show tw_P L xs _ 153 6 [.ref 1, .int x, .int y, .int w] [] σ _
      refine tw_sg 1 (i1 := 7) (ls1 := [.ref 1, .int x, .int y, .int w]) (st1 := [.int (-1)]) (σ1 := σ) rfl ?_
      refine tw_ri rfl (rfl) ?_
      refine ⟨_, rfl, ?_⟩
      show tw_P L xs _ 228 0 [.ref 88, .int x, .int y, .int w, tw_U] [] σ _
      refine tw_sgn 6 (i1 := 6) (ls0 := [.ref 88, .int x, .int y, .int w, tw_U]) (st0 := [.int ((σ 88 32) - nI 1), .int (nI 0), .int x]) (σ0 := σ) (ls1 := [.ref 88, .int x, .int y, .int w, tw_U]) (st1 := [.int (nI h - nI 1), .int (nI 0), .int x]) (σ1 := σ) rfl (rfl) (by simp only [h32, tw_nadd, tw_nmul]) (rfl) ?_
      refine tw_cl1 rfl (rfl) (by decide) (tw_e_inN0 (by omega) hx0) ?_
      rintro _ _ ⟨rfl, rfl⟩
      show tw_P L xs _ 228 7 [.ref 88, .int x, .int y, .int w, tw_U] [.int (nI 0)] σ _
      refine tw_bzT (c := .eq) rfl (by rw [tw_ceq, tw_neq (by omega) (by omega)] <;> omega) ?_
      show tw_P L xs _ 228 13 [.ref 88, .int x, .int y, .int w, tw_U] [] σ _
      refine tw_sg 1 (i1 := 14) (ls1 := [.ref 88, .int x, .int y, .int w, tw_U]) (st1 := [.int (-1)]) (σ1 := σ) rfl ?_
      refine tw_ri rfl (rfl) ?_
      exact ⟨rfl, hI⟩
    · skip
      show tw_P L xs _ 153 0 [.ref 1, .int x, .int y, .int w] [] σ _
      refine tw_sg 4 (i1 := 4) (ls1 := [.ref 1, .int x, .int y, .int w]) (st1 := [.int y, .int x, .ref 79]) (σ1 := σ) rfl ?_
      refine tw_cl0 59 rfl (rfl) (by decide) ?_
      show tw_P L xs _ 115 0 [.ref 79, .int x, .int y] [] σ _
      refine tw_sg 1 (i1 := 1) (ls1 := [.ref 79, .int x, .int y]) (st1 := [.int x]) (σ1 := σ) rfl ?_
      refine tw_bzF (c := .lt) rfl (by rw [tw_clt'] <;> (exact hx)) ?_
      show tw_P L xs _ 115 2 [.ref 79, .int x, .int y] [] σ _
      refine tw_sgn 3 (i1 := 5) (ls0 := [.ref 79, .int x, .int y]) (st0 := [.int (σ 79 1), .int x]) (σ0 := σ) (ls1 := [.ref 79, .int x, .int y]) (st1 := [.int (nI h), .int x]) (σ1 := σ) rfl (rfl) (by simp only [h79, tw_nadd, tw_nmul]) (rfl) ?_
      refine tw_biT (c := .ge) rfl (by rw [tw_cge] <;> (exact tw_not_lt.mp (tw_not_lt.mpr hx2))) ?_
      show tw_P L xs _ 115 13 [.ref 79, .int x, .int y] [] σ _
      refine tw_sg 1 (i1 := 14) (ls1 := [.ref 79, .int x, .int y]) (st1 := [.int (nI 0)]) (σ1 := σ) rfl ?_
      refine tw_ri rfl (rfl) ?_
      show tw_P L xs _ 153 5 [.ref 1, .int x, .int y, .int w] [.int (nI 0)] σ _
      refine tw_bzF (c := .ne) rfl (by rw [tw_cne', tw_neq (by omega) (by omega)] <;> omega) ?_
      show tw_P L xs _ 153 6 [.ref 1, .int x, .int y, .int w] [] σ _
      refine tw_sg 1 (i1 := 7) (ls1 := [.ref 1, .int x, .int y, .int w]) (st1 := [.int (-1)]) (σ1 := σ) rfl ?_
      refine tw_ri rfl (rfl) ?_
      refine ⟨_, rfl, ?_⟩
      show tw_P L xs _ 228 0 [.ref 88, .int x, .int y, .int w, tw_U] [] σ _
      refine tw_sgn 6 (i1 := 6) (ls0 := [.ref 88, .int x, .int y, .int w, tw_U]) (st0 := [.int ((σ 88 32) - nI 1), .int (nI 0), .int x]) (σ0 := σ) (ls1 := [.ref 88, .int x, .int y, .int w, tw_U]) (st1 := [.int (nI h - nI 1), .int (nI 0), .int x]) (σ1 := σ) rfl (rfl) (by simp only [h32, tw_nadd, tw_nmul]) (rfl) ?_
      refine tw_cl1 rfl (rfl) (by decide) (tw_e_inN0 (by omega) hx0) ?_
      rintro _ _ ⟨rfl, rfl⟩
      show tw_P L xs _ 228 7 [.ref 88, .int x, .int y, .int w, tw_U] [.int (nI 0)] σ _
      refine tw_bzT (c := .eq) rfl (by rw [tw_ceq, tw_neq (by omega) (by omega)] <;> omega) ?_
      show tw_P L xs _ 228 13 [.ref 88, .int x, .int y, .int w, tw_U] [] σ _
      refine tw_sg 1 (i1 := 14) (ls1 := [.ref 88, .int x, .int y, .int w, tw_U]) (st1 := [.int (-1)]) (σ1 := σ) rfl ?_
      refine tw_ri rfl (rfl) ?_
      exact ⟨rfl, hI⟩
theorem tw_fin_lines {σ τ : tw_Mem} {h q : Nat} (hI : tw_Inv σ) (hh : h ≤ 8) (hq : q ≤ 8) (hPi : ∀ j, j < 10 * h → σ 80 j = σ 113 j) (hPz : ∀ j, 10 * h ≤ j → j < 80 → σ 113 j = nI 0) (t1 : τ 79 1 = nI q) (t2 : τ 88 32 = nI q) (t3 : ∀ k j, ¬ tw_fPic k j → τ k j = σ k j) (t4 : ∀ j, 10 * h ≤ j → j < 10 * q → τ 80 j = nI 0) (t5 : ∀ j, j < 10 * h → τ 80 j = σ 80 j) (t6 : ∀ j, j < 10 * q → τ 113 j = σ 113 j) (t7 : ∀ j, 10 * q ≤ j → j < 80 → τ 113 j = nI 0) : tw_Inv τ := by
  refine hI.pic ⟨q, hq, t1, t2, fun j hj => ?_, t7⟩ t3
  rw [t6 j hj]
  by_cases hz : j < 10 * h
  · rw [t5 j hz, hPi j hz]
  · rw [t4 j (by omega) hj, hPz j (by omega) (by omega)]
set_option maxHeartbeats 4000000 in
set_option maxRecDepth 100000 in
theorem tw_l_resize {L : Nat} {xs : Nat → Int32} {Q : Option Value → tw_Mem → Prop} {h q : Nat} (hq : q ≤ 8) : ∀ (f : Nat) (j : Nat) (σ : tw_Mem), (j + f = q * 10 ∨ (q * 10 ≤ j ∧ f = 0)) → j ≤ 80 → (∀ τ : tw_Mem, (∀ k i, ¬ (k = 80 ∧ j ≤ i ∧ i < q * 10) → τ k i = σ k i) → (∀ i, j ≤ i → i < q * 10 → τ 80 i = nI 0) → Q (some (.int (nI h))) (tw_upd τ 79 1 (nI q))) → tw_P L xs 0 118 7 [.ref 79, .int (nI q), .int (nI h), .int (nI j)] [] σ Q := by
  intro f
  induction f with
  | zero =>
    intro j σ hf hj80 hQ
    refine tw_sgn 4 (i1 := 11) (ls0 := [.ref 79, .int (nI q), .int (nI h), .int (nI j)]) (st0 := [.int (nI q * nI 10), .int (nI j)]) (σ0 := σ) (ls1 := [.ref 79, .int (nI q), .int (nI h), .int (nI j)]) (st1 := [.int (nI (q * 10)), .int (nI j)]) (σ1 := σ) rfl (rfl) (by simp only [tw_nadd, tw_nmul]) (rfl) ?_
    refine tw_biT (c := .ge) rfl (by rw [tw_cge, tw_nle (by omega) (by omega)] <;> omega) ?_
    show tw_P L xs _ 118 24 [.ref 79, .int (nI q), .int (nI h), .int (nI j)] [] σ _
    refine tw_sg 4 (i1 := 28) (ls1 := [.ref 79, .int (nI q), .int (nI h), .int (nI j)]) (st1 := [.int (nI h)]) (σ1 := (tw_upd σ 79 1 (nI q))) rfl ?_
    refine tw_ri rfl (rfl) ?_
    exact hQ σ (fun _ _ _ => rfl) (fun i h1 h2 => by omega)
  | succ f ih =>
    intro j σ hf hj80 hQ
    refine tw_sgn 4 (i1 := 11) (ls0 := [.ref 79, .int (nI q), .int (nI h), .int (nI j)]) (st0 := [.int (nI q * nI 10), .int (nI j)]) (σ0 := σ) (ls1 := [.ref 79, .int (nI q), .int (nI h), .int (nI j)]) (st1 := [.int (nI (q * 10)), .int (nI j)]) (σ1 := σ) rfl (rfl) (by simp only [tw_nadd, tw_nmul]) (rfl) ?_
    refine tw_biF (c := .ge) rfl (by rw [tw_cge', tw_nle (by omega) (by omega)] <;> omega) ?_
    show tw_P L xs _ 118 12 [.ref 79, .int (nI q), .int (nI h), .int (nI j)] [] σ _
    refine tw_sg 4 (i1 := 16) (ls1 := [.ref 79, .int (nI q), .int (nI h), .int (nI j)]) (st1 := [.int (nI 80), .int (nI j)]) (σ1 := σ) rfl ?_
    refine tw_biF (c := .ge) rfl (by rw [tw_cge', tw_nle (by omega) (by omega)] <;> omega) ?_
    show tw_P L xs _ 118 17 [.ref 79, .int (nI q), .int (nI h), .int (nI j)] [] σ _
    refine tw_sg 4 (i1 := 21) (ls1 := [.ref 79, .int (nI q), .int (nI h), .int (nI j)]) (st1 := [.int (nI 0), .int (nI j), .ref 80]) (σ1 := σ) rfl ?_
    refine tw_as (k := 80) (j := j) (len := 80) rfl rfl rfl (rfl) (by omega) (by decide) ?_
    refine tw_sgn 2 (i1 := 7) (ls0 := [.ref 79, .int (nI q), .int (nI h), .int (nI j + nI 1)]) (st0 := []) (σ0 := (tw_upd σ 80 j (nI 0))) (ls1 := [.ref 79, .int (nI q), .int (nI h), .int (nI (j + 1))]) (st1 := []) (σ1 := (tw_upd σ 80 j (nI 0))) rfl (by simp only [tw_nadd, tw_nmul]) (rfl) (rfl) ?_
    refine ih (j + 1) _ (by omega) (by omega) (fun τ h1 h2 => hQ τ (fun k i h => ?_) (fun i h3 h4 => ?_))
    · rw [h1 k i (by omega), tw_upd_off (by omega)]
    · by_cases hij : i = j
      · subst hij; rw [h1 _ _ (by omega)]; exact tw_upd_at
      · exact h2 i (by omega) h4
set_option maxHeartbeats 4000000 in
set_option maxRecDepth 100000 in
theorem tw_l_lines {L : Nat} {xs : Nat → Int32} {Q : Option Value → tw_Mem → Prop} {h q : Nat} : ∀ (f : Nat) (j : Nat) (σ : tw_Mem), j + f = 80 → (∀ τ : tw_Mem, (∀ k i, ¬ (k = 113 ∧ j ≤ i ∧ i < 80) → τ k i = σ k i) → (∀ i, j ≤ i → i < 80 → τ 113 i = nI 0) → Q (some (.int (nI h))) τ) → tw_P L xs 0 229 17 [.ref 88, .int (nI q), .int (nI h), .int (nI j)] [] σ Q := by
  intro f
  induction f with
  | zero =>
    intro j σ hf hQ
    refine tw_sg 2 (i1 := 19) (ls1 := [.ref 88, .int (nI q), .int (nI h), .int (nI j)]) (st1 := [.int (nI 80), .int (nI j)]) (σ1 := σ) rfl ?_
    refine tw_biT (c := .ge) rfl (by rw [tw_cge, tw_nle (by omega) (by omega)] <;> omega) ?_
    show tw_P L xs _ 229 27 [.ref 88, .int (nI q), .int (nI h), .int (nI j)] [] σ _
    refine tw_sg 1 (i1 := 28) (ls1 := [.ref 88, .int (nI q), .int (nI h), .int (nI j)]) (st1 := [.int (nI h)]) (σ1 := σ) rfl ?_
    refine tw_ri rfl (rfl) ?_
    exact hQ σ (fun _ _ _ => rfl) (fun i h1 h2 => by omega)
  | succ f ih =>
    intro j σ hf hQ
    refine tw_sg 2 (i1 := 19) (ls1 := [.ref 88, .int (nI q), .int (nI h), .int (nI j)]) (st1 := [.int (nI 80), .int (nI j)]) (σ1 := σ) rfl ?_
    refine tw_biF (c := .ge) rfl (by rw [tw_cge', tw_nle (by omega) (by omega)] <;> omega) ?_
    show tw_P L xs _ 229 20 [.ref 88, .int (nI q), .int (nI h), .int (nI j)] [] σ _
    refine tw_sg 4 (i1 := 24) (ls1 := [.ref 88, .int (nI q), .int (nI h), .int (nI j)]) (st1 := [.int (nI 0), .int (nI j), .ref 113]) (σ1 := σ) rfl ?_
    refine tw_as (k := 113) (j := j) (len := 80) rfl rfl rfl (rfl) (by omega) (by decide) ?_
    refine tw_sgn 2 (i1 := 17) (ls0 := [.ref 88, .int (nI q), .int (nI h), .int (nI j + nI 1)]) (st0 := []) (σ0 := (tw_upd σ 113 j (nI 0))) (ls1 := [.ref 88, .int (nI q), .int (nI h), .int (nI (j + 1))]) (st1 := []) (σ1 := (tw_upd σ 113 j (nI 0))) rfl (by simp only [tw_nadd, tw_nmul]) (rfl) (rfl) ?_
    refine ih (j + 1) _ (by omega) (fun τ h1 h2 => hQ τ (fun k i h => ?_) (fun i h3 h4 => ?_))
    · rw [h1 k i (by omega), tw_upd_off (by omega)]
    · by_cases hij : i = j
      · subst hij; rw [h1 _ _ (by omega)]; exact tw_upd_at
      · exact h2 i (by omega) h4
set_option maxHeartbeats 4000000 in
set_option maxRecDepth 100000 in
theorem tw_e_resize (hh : h ≤ 8) (hq : q ≤ 8) (h79 : σ 79 1 = nI h) : tw_E L xs 0 118 [.ref 79, .int (nI q)] σ (fun v τ => v = some (.int (nI h)) ∧ τ 79 1 = nI q ∧ (∀ k j, ¬ (k = 79 ∧ j = 1) → ¬ (k = 80 ∧ 10 * h ≤ j ∧ j < 10 * q) → τ k j = σ k j) ∧ ∀ j, 10 * h ≤ j → j < 10 * q → τ 80 j = nI 0) := by
  show tw_P L xs _ 118 0 [.ref 79, .int (nI q), tw_U, tw_U] [] σ _
  refine tw_sgn 7 (i1 := 7) (ls0 := [.ref 79, .int (nI q), .int (σ 79 1), .int ((σ 79 1) * nI 10)]) (st0 := []) (σ0 := σ) (ls1 := [.ref 79, .int (nI q), .int (nI h), .int (nI (h * 10))]) (st1 := []) (σ1 := σ) rfl (by simp only [h79, tw_nadd, tw_nmul]) (rfl) (rfl) ?_
  refine tw_l_resize hq (q * 10 - h * 10) (h * 10) σ (by omega) (by omega) (fun τ h1 h2 => ⟨rfl, tw_upd_at, fun k j h3 h4 => by rw [tw_upd_off h3]; exact h1 k j (by omega), fun j h3 h4 => by rw [tw_upd_off (by omega)]; exact h2 j (by omega) (by omega)⟩)
set_option maxHeartbeats 4000000 in
set_option maxRecDepth 100000 in
theorem tw_o_lines {L : Nat} {xs : Nat → Int32} (x : Int32) : tw_op L xs 154 229 [.int x] := by
  intro σ hI
  obtain ⟨⟨n, r, hL⟩, hT, hPp, hPc, hLs, hIm, hC14, hC46, hC72⟩ := id hI
  obtain ⟨⟨hn10, hr50⟩, ⟨hn6, hn89⟩, ⟨hr9, hw9, hr90⟩, hCa, hRo, hLa⟩ := hL
  have hn6 : σ 6 4 = nI n := hn6
  have hn89 : σ 89 0 = nI n := hn89
  have hr9 : σ 9 3 = nI r := hr9
  have hw9 : σ 9 4 = nI n := hw9
  have hr90 : σ 90 0 = nI r := hr90
  obtain ⟨h, h8, h79, h32, hPi, hPz⟩ := id hPc
  rcases tw_within x 9 (by decide) with ⟨q, hq, rfl⟩ | hx
  · skip
    show tw_P L xs _ 154 0 [.ref 1, .int (nI q)] [] σ _
    refine tw_sg 1 (i1 := 1) (ls1 := [.ref 1, .int (nI q)]) (st1 := [.int (nI q)]) (σ1 := σ) rfl ?_
    refine tw_bzF (c := .lt) rfl (by rw [tw_clt', tw_nlt (by omega) (by omega)] <;> omega) ?_
    show tw_P L xs _ 154 2 [.ref 1, .int (nI q)] [] σ _
    refine tw_sg 2 (i1 := 4) (ls1 := [.ref 1, .int (nI q)]) (st1 := [.int (nI 8), .int (nI q)]) (σ1 := σ) rfl ?_
    refine tw_biT (c := .le) rfl (by rw [tw_cle, tw_nle (by omega) (by omega)] <;> omega) ?_
    show tw_P L xs _ 154 7 [.ref 1, .int (nI q)] [] σ _
    refine tw_sg 3 (i1 := 10) (ls1 := [.ref 1, .int (nI q)]) (st1 := [.int (nI q), .ref 79]) (σ1 := σ) rfl ?_
    refine tw_cl1 rfl (rfl) (by decide) (tw_e_resize h8 (by omega) h79) ?_
    rintro _ τ ⟨rfl, t1, t2, t3⟩
    show tw_P L xs _ 154 11 [.ref 1, .int (nI q)] [.int (nI h)] τ _
    refine tw_ri rfl (rfl) ?_
    refine ⟨_, rfl, ?_⟩
    show tw_P L xs _ 229 0 [.ref 88, .int (nI q), tw_U, tw_U] [] τ _
    refine tw_sg 3 (i1 := 3) (ls1 := [.ref 88, .int (nI q), tw_U, tw_U]) (st1 := [.int (nI 8), .int (nI 0), .int (nI q)]) (σ1 := τ) rfl ?_
    refine tw_cl0 59 rfl (rfl) (by decide) ?_
    show tw_P L xs _ 182 0 [.int (nI q), .int (nI 0), .int (nI 8)] [] τ _
    refine tw_sg 2 (i1 := 2) (ls1 := [.int (nI q), .int (nI 0), .int (nI 8)]) (st1 := [.int (nI 0), .int (nI q)]) (σ1 := τ) rfl ?_
    refine tw_biF (c := .lt) rfl (by rw [tw_clt', tw_nlt (by omega) (by omega)] <;> omega) ?_
    show tw_P L xs _ 182 3 [.int (nI q), .int (nI 0), .int (nI 8)] [] τ _
    refine tw_sg 2 (i1 := 5) (ls1 := [.int (nI q), .int (nI 0), .int (nI 8)]) (st1 := [.int (nI 8), .int (nI q)]) (σ1 := τ) rfl ?_
    refine tw_biF (c := .gt) rfl (by rw [tw_cgt', tw_nlt (by omega) (by omega)] <;> omega) ?_
    show tw_P L xs _ 182 6 [.int (nI q), .int (nI 0), .int (nI 8)] [] τ _
    refine tw_sg 2 (i1 := 9) (ls1 := [.int (nI q), .int (nI 0), .int (nI 8)]) (st1 := [.int (nI 1)]) (σ1 := τ) rfl ?_
    refine tw_ri rfl (rfl) ?_
    show tw_P L xs _ 229 4 [.ref 88, .int (nI q), tw_U, tw_U] [.int (nI 1)] τ _
    refine tw_bzT (c := .ne) rfl (by rw [tw_cne, tw_neq (by omega) (by omega)] <;> omega) ?_
    show tw_P L xs _ 229 7 [.ref 88, .int (nI q), tw_U, tw_U] [] τ _
    refine tw_sgn 10 (i1 := 17) (ls0 := [.ref 88, .int (nI q), .int (τ 88 32), .int (nI 10 * nI q)]) (st0 := []) (σ0 := (tw_upd τ 88 32 (nI q))) (ls1 := [.ref 88, .int (nI q), .int (nI h), .int (nI (10 * q))]) (st1 := []) (σ1 := (tw_upd τ 88 32 (nI q))) rfl (by simp only [(show τ 88 32 = nI h from by rw [t2 88 32 (by omega) (by omega)]; exact h32), tw_nadd, tw_nmul]) (rfl) (rfl) ?_
    refine tw_P_le (d := 0) (tw_l_lines (80 - 10 * q) (10 * q) _ (by omega) (fun υ g1 g2 => ⟨rfl, tw_fin_lines hI h8 (by omega) hPi hPz ?_ ?_ (fun k j hn => ?_) (fun j g3 g4 => ?_) (fun j g3 => ?_) (fun j g3 => ?_) g2⟩)) (by decide)
    · rw [g1 _ _ (by omega), tw_upd_off (by omega)]; exact t1
    · rw [g1 _ _ (by omega)]; exact tw_upd_at
    · unfold tw_fPic at hn; rw [g1 _ _ (by omega), tw_upd_off (by omega)]; exact t2 k j (by omega) (by omega)
    · rw [g1 _ _ (by omega), tw_upd_off (by omega)]; exact t3 j g3 g4
    · rw [g1 _ _ (by omega), tw_upd_off (by omega)]; exact t2 80 j (by omega) (by omega)
    · rw [g1 _ _ (by omega), tw_upd_off (by omega)]; exact t2 113 j (by omega) (by omega)
  · rcases hx with hx | ⟨hx, hx2⟩
    · skip
      show tw_P L xs _ 154 0 [.ref 1, .int x] [] σ _
      refine tw_sg 1 (i1 := 1) (ls1 := [.ref 1, .int x]) (st1 := [.int x]) (σ1 := σ) rfl ?_
      refine tw_bzT (c := .lt) rfl (by rw [tw_clt] <;> (exact hx)) ?_
      show tw_P L xs _ 154 5 [.ref 1, .int x] [] σ _
      refine tw_sg 2 (i1 := 11) (ls1 := [.ref 1, .int x]) (st1 := [.int (-2)]) (σ1 := σ) rfl ?_
      refine tw_ri rfl (rfl) ?_
      refine ⟨_, rfl, ?_⟩
      show tw_P L xs _ 229 0 [.ref 88, .int x, tw_U, tw_U] [] σ _
      refine tw_sg 3 (i1 := 3) (ls1 := [.ref 88, .int x, tw_U, tw_U]) (st1 := [.int (nI 8), .int (nI 0), .int x]) (σ1 := σ) rfl ?_
      refine tw_cl0 59 rfl (rfl) (by decide) ?_
      show tw_P L xs _ 182 0 [.int x, .int (nI 0), .int (nI 8)] [] σ _
      refine tw_sg 2 (i1 := 2) (ls1 := [.int x, .int (nI 0), .int (nI 8)]) (st1 := [.int (nI 0), .int x]) (σ1 := σ) rfl ?_
      refine tw_biT (c := .lt) rfl (by rw [tw_clt] <;> (exact hx)) ?_
      show tw_P L xs _ 182 8 [.int x, .int (nI 0), .int (nI 8)] [] σ _
      refine tw_sg 1 (i1 := 9) (ls1 := [.int x, .int (nI 0), .int (nI 8)]) (st1 := [.int (nI 0)]) (σ1 := σ) rfl ?_
      refine tw_ri rfl (rfl) ?_
      show tw_P L xs _ 229 4 [.ref 88, .int x, tw_U, tw_U] [.int (nI 0)] σ _
      refine tw_bzF (c := .ne) rfl (by rw [tw_cne', tw_neq (by omega) (by omega)] <;> omega) ?_
      show tw_P L xs _ 229 5 [.ref 88, .int x, tw_U, tw_U] [] σ _
      refine tw_sg 1 (i1 := 6) (ls1 := [.ref 88, .int x, tw_U, tw_U]) (st1 := [.int (-2)]) (σ1 := σ) rfl ?_
      refine tw_ri rfl (rfl) ?_
      exact ⟨rfl, hI⟩
    · skip
      show tw_P L xs _ 154 0 [.ref 1, .int x] [] σ _
      refine tw_sg 1 (i1 := 1) (ls1 := [.ref 1, .int x]) (st1 := [.int x]) (σ1 := σ) rfl ?_
      refine tw_bzF (c := .lt) rfl (by rw [tw_clt'] <;> (exact hx)) ?_
      show tw_P L xs _ 154 2 [.ref 1, .int x] [] σ _
      refine tw_sg 2 (i1 := 4) (ls1 := [.ref 1, .int x]) (st1 := [.int (nI 8), .int x]) (σ1 := σ) rfl ?_
      refine tw_biF (c := .le) rfl (by rw [tw_cle'] <;> (exact tw_not_le.mpr (tw_lt_le1 (n := 8) (by decide) hx2))) ?_
      show tw_P L xs _ 154 5 [.ref 1, .int x] [] σ _
      refine tw_sg 2 (i1 := 11) (ls1 := [.ref 1, .int x]) (st1 := [.int (-2)]) (σ1 := σ) rfl ?_
      refine tw_ri rfl (rfl) ?_
      refine ⟨_, rfl, ?_⟩
      show tw_P L xs _ 229 0 [.ref 88, .int x, tw_U, tw_U] [] σ _
      refine tw_sg 3 (i1 := 3) (ls1 := [.ref 88, .int x, tw_U, tw_U]) (st1 := [.int (nI 8), .int (nI 0), .int x]) (σ1 := σ) rfl ?_
      refine tw_cl0 59 rfl (rfl) (by decide) ?_
      show tw_P L xs _ 182 0 [.int x, .int (nI 0), .int (nI 8)] [] σ _
      refine tw_sg 2 (i1 := 2) (ls1 := [.int x, .int (nI 0), .int (nI 8)]) (st1 := [.int (nI 0), .int x]) (σ1 := σ) rfl ?_
      refine tw_biF (c := .lt) rfl (by rw [tw_clt'] <;> (exact hx)) ?_
      show tw_P L xs _ 182 3 [.int x, .int (nI 0), .int (nI 8)] [] σ _
      refine tw_sg 2 (i1 := 5) (ls1 := [.int x, .int (nI 0), .int (nI 8)]) (st1 := [.int (nI 8), .int x]) (σ1 := σ) rfl ?_
      refine tw_biT (c := .gt) rfl (by rw [tw_cgt] <;> (exact (tw_lt_le1 (n := 8) (by decide) hx2))) ?_
      show tw_P L xs _ 182 8 [.int x, .int (nI 0), .int (nI 8)] [] σ _
      refine tw_sg 1 (i1 := 9) (ls1 := [.int x, .int (nI 0), .int (nI 8)]) (st1 := [.int (nI 0)]) (σ1 := σ) rfl ?_
      refine tw_ri rfl (rfl) ?_
      show tw_P L xs _ 229 4 [.ref 88, .int x, tw_U, tw_U] [.int (nI 0)] σ _
      refine tw_bzF (c := .ne) rfl (by rw [tw_cne', tw_neq (by omega) (by omega)] <;> omega) ?_
      show tw_P L xs _ 229 5 [.ref 88, .int x, tw_U, tw_U] [] σ _
      refine tw_sg 1 (i1 := 6) (ls1 := [.ref 88, .int x, tw_U, tw_U]) (st1 := [.int (-2)]) (σ1 := σ) rfl ?_
      refine tw_ri rfl (rfl) ?_
      exact ⟨rfl, hI⟩
end tw_s31
