/-! run, colours -/
section tw_s34
variable {L : Nat} {xs : Nat → Int32} {σ : tw_Mem} {x y w : Int32} {n r i c k h q a b e : Nat}
theorem tw_max_toI {x y : Int32} : (tw_maxI x y).toInt = max x.toInt y.toInt := by
  unfold tw_maxI
  split <;> rename_i h <;> rw [Int32.lt_iff_toInt_lt] at h <;> omega
theorem tw_maxA {x y z : Int32} : tw_maxI x (tw_maxI y z) = tw_maxI (tw_maxI x y) z := by
  apply Int32.toInt_inj.mp
  rw [tw_max_toI, tw_max_toI, tw_max_toI, tw_max_toI]
  omega
theorem tw_maxR {x y : Int32} (h : y ≤ x) : tw_maxI x y = x := by unfold tw_maxI; rw [if_neg (tw_not_lt.mpr h)]
theorem tw_maxL {x y : Int32} : x ≤ tw_maxI x y := by
  unfold tw_maxI
  split
  · rename_i h; exact Int32.le_iff_toInt_le.mpr (by rw [Int32.lt_iff_toInt_lt] at h; omega)
  · exact Int32.le_iff_toInt_le.mpr (by omega)
theorem tw_le_tr {x y z : Int32} (h1 : x ≤ y) (h2 : y ≤ z) : x ≤ z := by
  rw [Int32.le_iff_toInt_le] at *
  omega
theorem tw_run_mx {w : Nat → Int32} {x : Int32} {c : Nat} : ∀ (f i : Nat) (a b s : Int32), (tw_fo (tw_gRun w x c) i f (tw_maxI a b, s)).1 = tw_maxI a (tw_fo (tw_gRun w x c) i f (b, s)).1
  | 0, _, _, _, _ => rfl
  | f + 1, i, a, b, s => by
    rw [tw_fo, tw_fo]
    unfold tw_gRun
    by_cases h : w (10 * i + c) = x
    · rw [if_pos h, if_pos h]
      show (tw_fo (tw_gRun w x c) (i + 1) f (tw_maxI (tw_maxI a b) (s + nI 1), s + nI 1)).1 = tw_maxI a (tw_fo (tw_gRun w x c) (i + 1) f (tw_maxI b (s + nI 1), s + nI 1)).1
      rw [← tw_maxA, tw_run_mx f (i + 1) a]
    · rw [if_neg h, if_neg h]
      show (tw_fo (tw_gRun w x c) (i + 1) f (tw_maxI (tw_maxI a b) (nI 0), nI 0)).1 = tw_maxI a (tw_fo (tw_gRun w x c) (i + 1) f (tw_maxI b (nI 0), nI 0)).1
      rw [← tw_maxA, tw_run_mx f (i + 1) a]
def tw_gRk (w : Nat → Int32) (x : Int32) (r : Nat) : Nat → Int32 → Int32 := fun c a => (tw_fo (tw_gRun w x c) 0 r (a, nI 0)).1
theorem tw_gRm_nn {w : Nat → Int32} {x : Int32} {r : Nat} : ∀ (f i : Nat) (a : Int32), nI 0 ≤ a → tw_fo (tw_gRk w x r) i f a = tw_fo (tw_gRm w x r) i f a
  | 0, _, _, _ => rfl
  | f + 1, i, a, h => by
    have e : tw_gRk w x r i a = tw_gRm w x r i a := by
      unfold tw_gRk tw_gRm
      rw [← tw_run_mx, tw_maxR h]
    rw [tw_fo, tw_fo, e]
    exact tw_gRm_nn f (i + 1) _ (tw_le_tr h tw_maxL)
set_option maxHeartbeats 4000000 in
set_option maxRecDepth 100000 in
theorem tw_l_longW {L : Nat} {xs : Nat → Int32} {Q : Option Value → tw_Mem → Prop} {σ : tw_Mem} {r n : Nat} (hr9 : σ 9 3 = nI r) (hw9 : σ 9 4 = nI n) (h50 : r ≤ 50) (h10 : n ≤ 10) {w : Nat → Int32} (hF : tw_isF σ 0 r n w) {x : Int32} {c : Nat} (hc : c < n) : ∀ (f i : Nat) (a b : Int32), i + f = r → tw_P L xs 3 25 29 [.ref 9, .int (nI c), .int (nI 0), .int x, .int ((tw_fo (tw_gRun w x c) i f (a, b)).1), .int ((tw_fo (tw_gRun w x c) i f (a, b)).2), .int (nI r)] [] σ Q → tw_P L xs 3 25 6 [.ref 9, .int (nI c), .int (nI 0), .int x, .int a, .int b, .int (nI i)] [] σ Q := by
  intro f
  induction f with
  | zero =>
    intro i a b  hf hQ
    have hf : r = i := Eq.symm hf
    subst hf
    refine tw_sgn 3 (i1 := 9) (ls0 := [.ref 9, .int (nI c), .int (nI 0), .int x, .int a, .int b, .int (nI r)]) (st0 := [.int (σ 9 3), .int (nI r)]) (σ0 := σ) (ls1 := [.ref 9, .int (nI c), .int (nI 0), .int x, .int a, .int b, .int (nI r)]) (st1 := [.int (nI r), .int (nI r)]) (σ1 := σ) rfl (rfl) (by simp only [hr9, tw_nadd, tw_nmul]) (rfl) ?_
    refine tw_biT (c := .ge) rfl (by rw [tw_cge, tw_nle (by omega) (by omega)] <;> omega) ?_
    show tw_P L xs _ 25 29 [.ref 9, .int (nI c), .int (nI 0), .int x, .int a, .int b, .int (nI r)] [] σ _
    exact hQ
  | succ f ih =>
    intro i a b  hf hQ
    refine tw_sgn 3 (i1 := 9) (ls0 := [.ref 9, .int (nI c), .int (nI 0), .int x, .int a, .int b, .int (nI i)]) (st0 := [.int (σ 9 3), .int (nI i)]) (σ0 := σ) (ls1 := [.ref 9, .int (nI c), .int (nI 0), .int x, .int a, .int b, .int (nI i)]) (st1 := [.int (nI r), .int (nI i)]) (σ1 := σ) rfl (rfl) (by simp only [hr9, tw_nadd, tw_nmul]) (rfl) ?_
    refine tw_biF (c := .ge) rfl (by rw [tw_cge', tw_nle (by omega) (by omega)] <;> omega) ?_
    show tw_P L xs _ 25 10 [.ref 9, .int (nI c), .int (nI 0), .int x, .int a, .int b, .int (nI i)] [] σ _
    refine tw_sg 4 (i1 := 14) (ls1 := [.ref 9, .int (nI c), .int (nI 0), .int x, .int a, .int b, .int (nI i)]) (st1 := [.int (nI 0), .int (nI c), .int (nI i), .ref 9]) (σ1 := σ) rfl ?_
    refine tw_cl1 rfl (rfl) (by decide) (tw_e_cellW hr9 hw9 h50 h10 hF (by decide) (by omega) (by omega)) ?_
    rintro _ _ ⟨rfl, rfl⟩
    show tw_P L xs _ 25 15 [.ref 9, .int (nI c), .int (nI 0), .int x, .int a, .int b, .int (nI i)] [.int (w (10 * i + c))] σ _
    refine tw_sg 1 (i1 := 16) (ls1 := [.ref 9, .int (nI c), .int (nI 0), .int x, .int a, .int b, .int (nI i)]) (st1 := [.int x, .int (w (10 * i + c))]) (σ1 := σ) rfl ?_
    refine tw_bi (c := .ne) rfl (fun h1 => ?_) (fun h1 => ?_)
    · rw [tw_cne] at h1
      refine tw_sg 4 (i1 := 25) (ls1 := [.ref 9, .int (nI c), .int (nI 0), .int x, .int a, .int (nI 0), .int (nI i)]) (st1 := [.int (nI 0), .int a]) (σ1 := σ) rfl ?_
      refine tw_cl1 rfl (rfl) (by decide) (tw_e_maxI) ?_
      rintro _ _ ⟨rfl, rfl⟩
      show tw_P L xs _ 25 26 [.ref 9, .int (nI c), .int (nI 0), .int x, .int a, .int (nI 0), .int (nI i)] [.int (tw_maxI a (nI 0))] σ _
      refine tw_sgn 3 (i1 := 6) (ls0 := [.ref 9, .int (nI c), .int (nI 0), .int x, .int (tw_maxI a (nI 0)), .int (nI 0), .int (nI i + nI 1)]) (st0 := []) (σ0 := σ) (ls1 := [.ref 9, .int (nI c), .int (nI 0), .int x, .int (tw_maxI a (nI 0)), .int (nI 0), .int (nI (i + 1))]) (st1 := []) (σ1 := σ) rfl (by simp only [tw_nadd, tw_nmul]) (rfl) (rfl) ?_
      have e : (tw_gRun w x c) i (a, b) = (tw_maxI a (nI 0), nI 0) := by
        unfold tw_gRun
        first | rw [if_pos (by assumption)] | rw [if_neg (by assumption)]
      rw [tw_fo, e] at hQ
      exact ih (i + 1) _ _ (by omega) hQ
    · rw [tw_cne'] at h1
      refine tw_sg 7 (i1 := 25) (ls1 := [.ref 9, .int (nI c), .int (nI 0), .int x, .int a, .int (b + nI 1), .int (nI i)]) (st1 := [.int (b + nI 1), .int a]) (σ1 := σ) rfl ?_
      refine tw_cl1 rfl (rfl) (by decide) (tw_e_maxI) ?_
      rintro _ _ ⟨rfl, rfl⟩
      show tw_P L xs _ 25 26 [.ref 9, .int (nI c), .int (nI 0), .int x, .int a, .int (b + nI 1), .int (nI i)] [.int (tw_maxI a (b + nI 1))] σ _
      refine tw_sgn 3 (i1 := 6) (ls0 := [.ref 9, .int (nI c), .int (nI 0), .int x, .int (tw_maxI a (b + nI 1)), .int (b + nI 1), .int (nI i + nI 1)]) (st0 := []) (σ0 := σ) (ls1 := [.ref 9, .int (nI c), .int (nI 0), .int x, .int (tw_maxI a (b + nI 1)), .int (b + nI 1), .int (nI (i + 1))]) (st1 := []) (σ1 := σ) rfl (by simp only [tw_nadd, tw_nmul]) (rfl) (rfl) ?_
      have e : (tw_gRun w x c) i (a, b) = (tw_maxI a (b + nI 1), b + nI 1) := by
        unfold tw_gRun
        first | rw [if_pos (by assumption)] | rw [if_neg (by assumption)]
      rw [tw_fo, e] at hQ
      exact ih (i + 1) _ _ (by omega) hQ
set_option maxHeartbeats 4000000 in
set_option maxRecDepth 100000 in
theorem tw_e_longW {r n : Nat} (hr9 : σ 9 3 = nI r) (hw9 : σ 9 4 = nI n) (h50 : r ≤ 50) (h10 : n ≤ 10) {w : Nat → Int32} (hF : tw_isF σ 0 r n w) {x : Int32} {c : Nat} (hc : c < n) : tw_E L xs 3 25 [.ref 9, .int (nI c), .int (nI 0), .int x] σ (fun v σ1 => v = some (.int (tw_fo (tw_gRun w x c) 0 r (nI 0, nI 0)).1) ∧ σ = σ1) := by
  show tw_P L xs _ 25 0 [.ref 9, .int (nI c), .int (nI 0), .int x, tw_U, tw_U, tw_U] [] σ _
  refine tw_sg 6 (i1 := 6) (ls1 := [.ref 9, .int (nI c), .int (nI 0), .int x, .int (nI 0), .int (nI 0), .int (nI 0)]) (st1 := []) (σ1 := σ) rfl ?_
  refine tw_l_longW hr9 hw9 h50 h10 hF hc r 0 _ _ (by omega) ?_
  refine tw_sg 1 (i1 := 30) (ls1 := _) (st1 := [.int (tw_fo (tw_gRun w x c) 0 r (nI 0, nI 0)).1]) (σ1 := σ) rfl ?_
  exact tw_ri rfl rfl ⟨rfl, rfl⟩
set_option maxHeartbeats 4000000 in
set_option maxRecDepth 100000 in
theorem tw_l_run {L : Nat} {xs : Nat → Int32} {Q : Option Value → tw_Mem → Prop} {σ : tw_Mem} {r n : Nat} (hr9 : σ 9 3 = nI r) (hw9 : σ 9 4 = nI n) (h50 : r ≤ 50) (h10 : n ≤ 10) {w : Nat → Int32} (hF : tw_isF σ 0 r n w) {x : Int32} (hn6 : σ 6 4 = nI n) : ∀ (f c : Nat) (a : Int32), c + f = n → tw_P L xs 4 162 26 [.ref 1, .int x, .int (tw_fo (tw_gRm w x r) c f a), .int (nI n)] [] σ Q → tw_P L xs 4 162 9 [.ref 1, .int x, .int a, .int (nI c)] [] σ Q := by
  intro f
  induction f with
  | zero =>
    intro c a  hf hQ
    have hf : n = c := Eq.symm hf
    subst hf
    refine tw_sg 3 (i1 := 12) (ls1 := [.ref 1, .int x, .int a, .int (nI n)]) (st1 := [.ref 6, .int (nI n)]) (σ1 := σ) rfl ?_
    refine tw_cl0 3 rfl (rfl) (by decide) ?_
    show tw_P L xs _ 82 0 [.ref 6] [] σ _
    refine tw_sgn 2 (i1 := 2) (ls0 := [.ref 6]) (st0 := [.int (σ 6 4)]) (σ0 := σ) (ls1 := [.ref 6]) (st1 := [.int (nI n)]) (σ1 := σ) rfl (rfl) (by simp only [hn6, tw_nadd, tw_nmul]) (rfl) ?_
    refine tw_ri rfl (rfl) ?_
    show tw_P L xs _ 162 13 [.ref 1, .int x, .int a, .int (nI n)] [.int (nI n), .int (nI n)] σ _
    refine tw_biT (c := .ge) rfl (by rw [tw_cge, tw_nle (by omega) (by omega)] <;> omega) ?_
    show tw_P L xs _ 162 26 [.ref 1, .int x, .int a, .int (nI n)] [] σ _
    exact hQ
  | succ f ih =>
    intro c a  hf hQ
    refine tw_sg 3 (i1 := 12) (ls1 := [.ref 1, .int x, .int a, .int (nI c)]) (st1 := [.ref 6, .int (nI c)]) (σ1 := σ) rfl ?_
    refine tw_cl0 3 rfl (rfl) (by decide) ?_
    show tw_P L xs _ 82 0 [.ref 6] [] σ _
    refine tw_sgn 2 (i1 := 2) (ls0 := [.ref 6]) (st0 := [.int (σ 6 4)]) (σ0 := σ) (ls1 := [.ref 6]) (st1 := [.int (nI n)]) (σ1 := σ) rfl (rfl) (by simp only [hn6, tw_nadd, tw_nmul]) (rfl) ?_
    refine tw_ri rfl (rfl) ?_
    show tw_P L xs _ 162 13 [.ref 1, .int x, .int a, .int (nI c)] [.int (nI n), .int (nI c)] σ _
    refine tw_biF (c := .ge) rfl (by rw [tw_cge', tw_nle (by omega) (by omega)] <;> omega) ?_
    show tw_P L xs _ 162 14 [.ref 1, .int x, .int a, .int (nI c)] [] σ _
    refine tw_sg 3 (i1 := 17) (ls1 := [.ref 1, .int x, .int a, .int (nI c)]) (st1 := [.ref 6, .int a]) (σ1 := σ) rfl ?_
    refine tw_cl0 3 rfl (rfl) (by decide) ?_
    show tw_P L xs _ 83 0 [.ref 6] [] σ _
    refine tw_sg 2 (i1 := 2) (ls1 := [.ref 6]) (st1 := [.ref 9]) (σ1 := σ) rfl ?_
    refine tw_ra rfl ?_
    show tw_P L xs _ 162 18 [.ref 1, .int x, .int a, .int (nI c)] [.ref 9, .int a] σ _
    refine tw_sg 3 (i1 := 21) (ls1 := [.ref 1, .int x, .int a, .int (nI c)]) (st1 := [.int x, .int (nI 0), .int (nI c), .ref 9, .int a]) (σ1 := σ) rfl ?_
    refine tw_cl1 rfl (rfl) (by decide) (tw_e_longW hr9 hw9 h50 h10 hF (by omega)) ?_
    rintro _ _ ⟨rfl, rfl⟩
    show tw_P L xs _ 162 22 [.ref 1, .int x, .int a, .int (nI c)] [.int ((tw_fo (tw_gRun w x c) 0 r (nI 0, nI 0)).1), .int a] σ _
    refine tw_cl1 rfl (rfl) (by decide) (tw_e_maxI) ?_
    rintro _ _ ⟨rfl, rfl⟩
    show tw_P L xs _ 162 23 [.ref 1, .int x, .int a, .int (nI c)] [.int (tw_maxI a ((tw_fo (tw_gRun w x c) 0 r (nI 0, nI 0)).1))] σ _
    refine tw_sgn 3 (i1 := 9) (ls0 := [.ref 1, .int x, .int (tw_maxI a ((tw_fo (tw_gRun w x c) 0 r (nI 0, nI 0)).1)), .int (nI c + nI 1)]) (st0 := []) (σ0 := σ) (ls1 := [.ref 1, .int x, .int (tw_maxI a ((tw_fo (tw_gRun w x c) 0 r (nI 0, nI 0)).1)), .int (nI (c + 1))]) (st1 := []) (σ1 := σ) rfl (by simp only [tw_nadd, tw_nmul]) (rfl) (rfl) ?_
    exact ih (c + 1) _ (by omega) hQ
set_option maxHeartbeats 4000000 in
set_option maxRecDepth 100000 in
theorem tw_l_mrun1 {L : Nat} {xs : Nat → Int32} {Q : Option Value → tw_Mem → Prop} {σ : tw_Mem} {r n : Nat} (hn89 : σ 89 0 = nI n) (hr90 : σ 90 0 = nI r) (h50 : r ≤ 50) (h10 : n ≤ 10) {x : Int32} {c : Nat} (hc : c < n) : ∀ (f i : Nat) (a b : Int32), i + f = r → tw_P L xs 1 240 47 [.ref 88, .int x, .int ((tw_fo (tw_gRun (σ 95) x c) i f (a, b)).1), .int (nI c), .int ((tw_fo (tw_gRun (σ 95) x c) i f (a, b)).2), .int (nI r)] [] σ Q → tw_P L xs 1 240 19 [.ref 88, .int x, .int a, .int (nI c), .int b, .int (nI i)] [] σ Q := by
  intro f
  induction f with
  | zero =>
    intro i a b  hf hQ
    have hf : r = i := Eq.symm hf
    subst hf
    refine tw_sg 4 (i1 := 23) (ls1 := [.ref 88, .int x, .int a, .int (nI c), .int b, .int (nI r)]) (st1 := [.int (nI 0), .ref 90, .int (nI r)]) (σ1 := σ) rfl ?_
    refine tw_al (k := 90) (j := 0) (len := 2) rfl rfl rfl rfl (rfl) (by omega) (by decide) ?_
    rw [hr90]
    refine tw_biT (c := .ge) rfl (by rw [tw_cge, tw_nle (by omega) (by omega)] <;> omega) ?_
    show tw_P L xs _ 240 47 [.ref 88, .int x, .int a, .int (nI c), .int b, .int (nI r)] [] σ _
    exact hQ
  | succ f ih =>
    intro i a b  hf hQ
    refine tw_sg 4 (i1 := 23) (ls1 := [.ref 88, .int x, .int a, .int (nI c), .int b, .int (nI i)]) (st1 := [.int (nI 0), .ref 90, .int (nI i)]) (σ1 := σ) rfl ?_
    refine tw_al (k := 90) (j := 0) (len := 2) rfl rfl rfl rfl (rfl) (by omega) (by decide) ?_
    rw [hr90]
    refine tw_biF (c := .ge) rfl (by rw [tw_cge', tw_nle (by omega) (by omega)] <;> omega) ?_
    show tw_P L xs _ 240 25 [.ref 88, .int x, .int a, .int (nI c), .int b, .int (nI i)] [] σ _
    refine tw_sgn 7 (i1 := 32) (ls0 := [.ref 88, .int x, .int a, .int (nI c), .int b, .int (nI i)]) (st0 := [.int ((nI 10 * nI i) + nI c), .ref 95]) (σ0 := σ) (ls1 := [.ref 88, .int x, .int a, .int (nI c), .int b, .int (nI i)]) (st1 := [.int (nI ((10 * i) + c)), .ref 95]) (σ1 := σ) rfl (rfl) (by simp only [tw_nadd, tw_nmul]) (rfl) ?_
    refine tw_al (k := 95) (j := ((10 * i) + c)) (len := 1000) rfl rfl rfl rfl (rfl) (by omega) (by decide) ?_
    refine tw_sg 1 (i1 := 34) (ls1 := [.ref 88, .int x, .int a, .int (nI c), .int b, .int (nI i)]) (st1 := [.int x, .int (σ 95 ((10 * i) + c))]) (σ1 := σ) rfl ?_
    refine tw_bi (c := .ne) rfl (fun h1 => ?_) (fun h1 => ?_)
    · rw [tw_cne] at h1
      refine tw_sg 4 (i1 := 43) (ls1 := [.ref 88, .int x, .int a, .int (nI c), .int (nI 0), .int (nI i)]) (st1 := [.int (nI 0), .int a]) (σ1 := σ) rfl ?_
      refine tw_cl1 rfl (rfl) (by decide) (tw_e_maxI) ?_
      rintro _ _ ⟨rfl, rfl⟩
      show tw_P L xs _ 240 44 [.ref 88, .int x, .int a, .int (nI c), .int (nI 0), .int (nI i)] [.int (tw_maxI a (nI 0))] σ _
      refine tw_sgn 3 (i1 := 19) (ls0 := [.ref 88, .int x, .int (tw_maxI a (nI 0)), .int (nI c), .int (nI 0), .int (nI i + nI 1)]) (st0 := []) (σ0 := σ) (ls1 := [.ref 88, .int x, .int (tw_maxI a (nI 0)), .int (nI c), .int (nI 0), .int (nI (i + 1))]) (st1 := []) (σ1 := σ) rfl (by simp only [tw_nadd, tw_nmul]) (rfl) (rfl) ?_
      have e : (tw_gRun (σ 95) x c) i (a, b) = (tw_maxI a (nI 0), nI 0) := by
        unfold tw_gRun
        first | rw [if_pos (by assumption)] | rw [if_neg (by assumption)]
      rw [tw_fo, e] at hQ
      exact ih (i + 1) _ _ (by omega) hQ
    · rw [tw_cne'] at h1
      refine tw_sg 7 (i1 := 43) (ls1 := [.ref 88, .int x, .int a, .int (nI c), .int (b + nI 1), .int (nI i)]) (st1 := [.int (b + nI 1), .int a]) (σ1 := σ) rfl ?_
      refine tw_cl1 rfl (rfl) (by decide) (tw_e_maxI) ?_
      rintro _ _ ⟨rfl, rfl⟩
      show tw_P L xs _ 240 44 [.ref 88, .int x, .int a, .int (nI c), .int (b + nI 1), .int (nI i)] [.int (tw_maxI a (b + nI 1))] σ _
      refine tw_sgn 3 (i1 := 19) (ls0 := [.ref 88, .int x, .int (tw_maxI a (b + nI 1)), .int (nI c), .int (b + nI 1), .int (nI i + nI 1)]) (st0 := []) (σ0 := σ) (ls1 := [.ref 88, .int x, .int (tw_maxI a (b + nI 1)), .int (nI c), .int (b + nI 1), .int (nI (i + 1))]) (st1 := []) (σ1 := σ) rfl (by simp only [tw_nadd, tw_nmul]) (rfl) (rfl) ?_
      have e : (tw_gRun (σ 95) x c) i (a, b) = (tw_maxI a (b + nI 1), b + nI 1) := by
        unfold tw_gRun
        first | rw [if_pos (by assumption)] | rw [if_neg (by assumption)]
      rw [tw_fo, e] at hQ
      exact ih (i + 1) _ _ (by omega) hQ
set_option maxHeartbeats 4000000 in
set_option maxRecDepth 100000 in
theorem tw_l_mrun {L : Nat} {xs : Nat → Int32} {Q : Option Value → tw_Mem → Prop} {σ : tw_Mem} {r n : Nat} (hn89 : σ 89 0 = nI n) (hr90 : σ 90 0 = nI r) (h50 : r ≤ 50) (h10 : n ≤ 10) {x : Int32} : ∀ (f c : Nat) (a : Int32) (u u1 : Value), c + f = n → (∀ (u u1 : Value), tw_P L xs 1 240 49 [.ref 88, .int x, .int (tw_fo (tw_gRk (σ 95) x r) c f a), .int (nI n), u, u1] [] σ Q) → tw_P L xs 1 240 9 [.ref 88, .int x, .int a, .int (nI c), u, u1] [] σ Q := by
  intro f
  induction f with
  | zero =>
    intro c a u u1 hf hQ
    have hf : n = c := Eq.symm hf
    subst hf
    refine tw_sg 4 (i1 := 13) (ls1 := [.ref 88, .int x, .int a, .int (nI n), u, u1]) (st1 := [.int (nI 0), .ref 89, .int (nI n)]) (σ1 := σ) rfl ?_
    refine tw_al (k := 89) (j := 0) (len := 2) rfl rfl rfl rfl (rfl) (by omega) (by decide) ?_
    rw [hn89]
    refine tw_biT (c := .ge) rfl (by rw [tw_cge, tw_nle (by omega) (by omega)] <;> omega) ?_
    show tw_P L xs _ 240 49 [.ref 88, .int x, .int a, .int (nI n), u, u1] [] σ _
    exact hQ _ _
  | succ f ih =>
    intro c a u u1 hf hQ
    refine tw_sg 4 (i1 := 13) (ls1 := [.ref 88, .int x, .int a, .int (nI c), u, u1]) (st1 := [.int (nI 0), .ref 89, .int (nI c)]) (σ1 := σ) rfl ?_
    refine tw_al (k := 89) (j := 0) (len := 2) rfl rfl rfl rfl (rfl) (by omega) (by decide) ?_
    rw [hn89]
    refine tw_biF (c := .ge) rfl (by rw [tw_cge', tw_nle (by omega) (by omega)] <;> omega) ?_
    show tw_P L xs _ 240 15 [.ref 88, .int x, .int a, .int (nI c), u, u1] [] σ _
    refine tw_sg 4 (i1 := 19) (ls1 := [.ref 88, .int x, .int a, .int (nI c), .int (nI 0), .int (nI 0)]) (st1 := []) (σ1 := σ) rfl ?_
    refine tw_l_mrun1 hn89 hr90 h50 h10 (by omega) r 0 _ _ (by omega) ?_
    show tw_P L xs _ 240 47 [.ref 88, .int x, .int ((tw_fo (tw_gRun (σ 95) x c) 0 r (a, nI 0)).1), .int (nI c), .int ((tw_fo (tw_gRun (σ 95) x c) 0 r (a, nI 0)).2), .int (nI r)] [] σ _
    refine tw_sgn 2 (i1 := 9) (ls0 := [.ref 88, .int x, .int ((tw_fo (tw_gRun (σ 95) x c) 0 r (a, nI 0)).1), .int (nI c + nI 1), .int ((tw_fo (tw_gRun (σ 95) x c) 0 r (a, nI 0)).2), .int (nI r)]) (st0 := []) (σ0 := σ) (ls1 := [.ref 88, .int x, .int ((tw_fo (tw_gRun (σ 95) x c) 0 r (a, nI 0)).1), .int (nI (c + 1)), .int ((tw_fo (tw_gRun (σ 95) x c) 0 r (a, nI 0)).2), .int (nI r)]) (st1 := []) (σ1 := σ) rfl (by simp only [tw_nadd, tw_nmul]) (rfl) (rfl) ?_
    exact ih (c + 1) _ _ _ (by omega) hQ
set_option maxHeartbeats 4000000 in
set_option maxRecDepth 100000 in
theorem tw_o_run {L : Nat} {xs : Nat → Int32} (x : Int32) : tw_op L xs 162 240 [.int x] := by
  intro σ hI
  obtain ⟨⟨n, r, hL⟩, hT, hPp, hPc, hLs, hIm, hC14, hC46, hC72⟩ := id hI
  obtain ⟨⟨hn10, hr50⟩, ⟨hn6, hn89⟩, ⟨hr9, hw9, hr90⟩, hCa, hRo, hLa⟩ := hL
  have hn6 : σ 6 4 = nI n := hn6
  have hn89 : σ 89 0 = nI n := hn89
  have hr9 : σ 9 3 = nI r := hr9
  have hw9 : σ 9 4 = nI n := hw9
  have hr90 : σ 90 0 = nI r := hr90
  rcases tw_within x 10 (by decide) with ⟨q, hq, rfl⟩ | hx
  · have h1 : tw_E L xs 1 186 [.int (nI q)] σ (fun v σ1 => v = some (.int (nI 1)) ∧ σ = σ1) := tw_e_mIsColour1 hq
    have h2 : tw_E L xs 0 177 [.int (nI q)] σ (fun v σ1 => v = some (.int (nI 1)) ∧ σ = σ1) := tw_e_isColour1 hq
    show tw_P L xs _ 162 0 [.ref 1, .int (nI q), tw_U, tw_U] [] σ _
    refine tw_sg 1 (i1 := 1) (ls1 := [.ref 1, .int (nI q), tw_U, tw_U]) (st1 := [.int (nI q)]) (σ1 := σ) rfl ?_
    refine tw_cl1 rfl (rfl) (by decide) (h2) ?_
    rintro _ _ ⟨rfl, rfl⟩
    show tw_P L xs _ 162 2 [.ref 1, .int (nI q), tw_U, tw_U] [.int (nI 1)] σ _
    refine tw_bzT (c := .ne) rfl (by rw [tw_cne, tw_neq (by omega) (by omega)] <;> omega) ?_
    show tw_P L xs _ 162 5 [.ref 1, .int (nI q), tw_U, tw_U] [] σ _
    refine tw_sg 4 (i1 := 9) (ls1 := [.ref 1, .int (nI q), .int (nI 0), .int (nI 0)]) (st1 := []) (σ1 := σ) rfl ?_
    refine tw_P_le (d := 4) (tw_l_run hr9 hw9 hr50 hn10 (tw_isF0 hRo) hn6 n 0 _ (by omega) ?_) (by decide)
    refine tw_sg 1 (i1 := 27) (ls1 := _) (st1 := [.int (tw_fo (tw_gRm (σ 95) (nI q) r) 0 n (nI 0))]) (σ1 := σ) rfl ?_
    refine tw_ri rfl rfl ⟨_, rfl, ?_⟩
    show tw_P L xs _ 240 0 [.ref 88, .int (nI q), tw_U, tw_U, tw_U, tw_U] [] σ _
    refine tw_sg 1 (i1 := 1) (ls1 := [.ref 88, .int (nI q), tw_U, tw_U, tw_U, tw_U]) (st1 := [.int (nI q)]) (σ1 := σ) rfl ?_
    refine tw_cl1 rfl (rfl) (by decide) (h1) ?_
    rintro _ _ ⟨rfl, rfl⟩
    show tw_P L xs _ 240 2 [.ref 88, .int (nI q), tw_U, tw_U, tw_U, tw_U] [.int (nI 1)] σ _
    refine tw_bzT (c := .ne) rfl (by rw [tw_cne, tw_neq (by omega) (by omega)] <;> omega) ?_
    show tw_P L xs _ 240 5 [.ref 88, .int (nI q), tw_U, tw_U, tw_U, tw_U] [] σ _
    refine tw_sg 4 (i1 := 9) (ls1 := [.ref 88, .int (nI q), .int (nI 0), .int (nI 0), tw_U, tw_U]) (st1 := []) (σ1 := σ) rfl ?_
    refine tw_P_le (d := 1) (tw_l_mrun hn89 hr90 hr50 hn10 n 0 _ _ _ (by omega) (fun u u1 => ?_)) (by decide)
    rw [tw_gRm_nn n 0 _ (by decide)]
    refine tw_sg 1 (i1 := 50) (ls1 := _) (st1 := [.int (tw_fo (tw_gRm (σ 95) (nI q) r) 0 n (nI 0))]) (σ1 := σ) rfl ?_
    exact tw_ri rfl rfl ⟨rfl, hI⟩
  · skip
    show tw_P L xs _ 162 0 [.ref 1, .int x, tw_U, tw_U] [] σ _
    refine tw_sg 1 (i1 := 1) (ls1 := [.ref 1, .int x, tw_U, tw_U]) (st1 := [.int x]) (σ1 := σ) rfl ?_
    refine tw_cl1 rfl (rfl) (by decide) (tw_e_isColour0 hx) ?_
    rintro _ _ ⟨rfl, rfl⟩
    show tw_P L xs _ 162 2 [.ref 1, .int x, tw_U, tw_U] [.int (nI 0)] σ _
    refine tw_bzF (c := .ne) rfl (by rw [tw_cne', tw_neq (by omega) (by omega)] <;> omega) ?_
    show tw_P L xs _ 162 3 [.ref 1, .int x, tw_U, tw_U] [] σ _
    refine tw_sg 1 (i1 := 4) (ls1 := [.ref 1, .int x, tw_U, tw_U]) (st1 := [.int (-2)]) (σ1 := σ) rfl ?_
    refine tw_ri rfl (rfl) ?_
    refine ⟨_, rfl, ?_⟩
    show tw_P L xs _ 240 0 [.ref 88, .int x, tw_U, tw_U, tw_U, tw_U] [] σ _
    refine tw_sg 1 (i1 := 1) (ls1 := [.ref 88, .int x, tw_U, tw_U, tw_U, tw_U]) (st1 := [.int x]) (σ1 := σ) rfl ?_
    refine tw_cl1 rfl (rfl) (by decide) (tw_e_mIsColour0 hx) ?_
    rintro _ _ ⟨rfl, rfl⟩
    show tw_P L xs _ 240 2 [.ref 88, .int x, tw_U, tw_U, tw_U, tw_U] [.int (nI 0)] σ _
    refine tw_bzF (c := .ne) rfl (by rw [tw_cne', tw_neq (by omega) (by omega)] <;> omega) ?_
    show tw_P L xs _ 240 3 [.ref 88, .int x, tw_U, tw_U, tw_U, tw_U] [] σ _
    refine tw_sg 1 (i1 := 4) (ls1 := [.ref 88, .int x, tw_U, tw_U, tw_U, tw_U]) (st1 := [.int (-2)]) (σ1 := σ) rfl ?_
    refine tw_ri rfl (rfl) ?_
    exact ⟨rfl, hI⟩
set_option maxHeartbeats 4000000 in
set_option maxRecDepth 100000 in
theorem tw_l_cnt1 {L : Nat} {xs : Nat → Int32} {Q : Option Value → tw_Mem → Prop} {σ : tw_Mem} {r n : Nat} (hr9 : σ 9 3 = nI r) (hw9 : σ 9 4 = nI n) (h50 : r ≤ 50) (h10 : n ≤ 10) {w : Nat → Int32} {q : Nat} (hq : q < 4) (hF : tw_isF σ q r n w) {x : Int32} {i : Nat} (hi : i < r) : ∀ (f c : Nat) (a : Int32), c + f = n → tw_P L xs 3 26 24 [.ref 9, .int (nI q), .int x, .int (tw_fo (tw_gC w x i) c f a), .int (nI i), .int (nI n)] [] σ Q → tw_P L xs 3 26 10 [.ref 9, .int (nI q), .int x, .int a, .int (nI i), .int (nI c)] [] σ Q := by
  intro f
  induction f with
  | zero =>
    intro c a  hf hQ
    have hf : n = c := Eq.symm hf
    subst hf
    refine tw_sgn 3 (i1 := 13) (ls0 := [.ref 9, .int (nI q), .int x, .int a, .int (nI i), .int (nI n)]) (st0 := [.int (σ 9 4), .int (nI n)]) (σ0 := σ) (ls1 := [.ref 9, .int (nI q), .int x, .int a, .int (nI i), .int (nI n)]) (st1 := [.int (nI n), .int (nI n)]) (σ1 := σ) rfl (rfl) (by simp only [hw9, tw_nadd, tw_nmul]) (rfl) ?_
    refine tw_biT (c := .ge) rfl (by rw [tw_cge, tw_nle (by omega) (by omega)] <;> omega) ?_
    show tw_P L xs _ 26 24 [.ref 9, .int (nI q), .int x, .int a, .int (nI i), .int (nI n)] [] σ _
    exact hQ
  | succ f ih =>
    intro c a  hf hQ
    refine tw_sgn 3 (i1 := 13) (ls0 := [.ref 9, .int (nI q), .int x, .int a, .int (nI i), .int (nI c)]) (st0 := [.int (σ 9 4), .int (nI c)]) (σ0 := σ) (ls1 := [.ref 9, .int (nI q), .int x, .int a, .int (nI i), .int (nI c)]) (st1 := [.int (nI n), .int (nI c)]) (σ1 := σ) rfl (rfl) (by simp only [hw9, tw_nadd, tw_nmul]) (rfl) ?_
    refine tw_biF (c := .ge) rfl (by rw [tw_cge', tw_nle (by omega) (by omega)] <;> omega) ?_
    show tw_P L xs _ 26 14 [.ref 9, .int (nI q), .int x, .int a, .int (nI i), .int (nI c)] [] σ _
    refine tw_sg 4 (i1 := 18) (ls1 := [.ref 9, .int (nI q), .int x, .int a, .int (nI i), .int (nI c)]) (st1 := [.int (nI q), .int (nI c), .int (nI i), .ref 9]) (σ1 := σ) rfl ?_
    refine tw_cl1 rfl (rfl) (by decide) (tw_e_cellW hr9 hw9 h50 h10 hF hq (by omega) (by omega)) ?_
    rintro _ _ ⟨rfl, rfl⟩
    show tw_P L xs _ 26 19 [.ref 9, .int (nI q), .int x, .int a, .int (nI i), .int (nI c)] [.int (w (10 * i + c))] σ _
    refine tw_sg 1 (i1 := 20) (ls1 := [.ref 9, .int (nI q), .int x, .int a, .int (nI i), .int (nI c)]) (st1 := [.int x, .int (w (10 * i + c))]) (σ1 := σ) rfl ?_
    refine tw_bi (c := .ne) rfl (fun h1 => ?_) (fun h1 => ?_)
    · rw [tw_cne] at h1
      refine tw_sgn 2 (i1 := 10) (ls0 := [.ref 9, .int (nI q), .int x, .int a, .int (nI i), .int (nI c + nI 1)]) (st0 := []) (σ0 := σ) (ls1 := [.ref 9, .int (nI q), .int x, .int a, .int (nI i), .int (nI (c + 1))]) (st1 := []) (σ1 := σ) rfl (by simp only [tw_nadd, tw_nmul]) (rfl) (rfl) ?_
      have e : (tw_gC w x i) c a = a := by
        unfold tw_gC
        first | rw [if_pos (by assumption)] | rw [if_neg (by assumption)]
      rw [tw_fo, e] at hQ
      exact ih (c + 1) _ (by omega) hQ
    · rw [tw_cne'] at h1
      refine tw_sgn 3 (i1 := 10) (ls0 := [.ref 9, .int (nI q), .int x, .int (a + nI 1), .int (nI i), .int (nI c + nI 1)]) (st0 := []) (σ0 := σ) (ls1 := [.ref 9, .int (nI q), .int x, .int (a + nI 1), .int (nI i), .int (nI (c + 1))]) (st1 := []) (σ1 := σ) rfl (by simp only [tw_nadd, tw_nmul]) (rfl) (rfl) ?_
      have e : (tw_gC w x i) c a = a + nI 1 := by
        unfold tw_gC
        first | rw [if_pos (by assumption)] | rw [if_neg (by assumption)]
      rw [tw_fo, e] at hQ
      exact ih (c + 1) _ (by omega) hQ
set_option maxHeartbeats 4000000 in
set_option maxRecDepth 100000 in
theorem tw_l_cnt {L : Nat} {xs : Nat → Int32} {Q : Option Value → tw_Mem → Prop} {σ : tw_Mem} {r n : Nat} (hr9 : σ 9 3 = nI r) (hw9 : σ 9 4 = nI n) (h50 : r ≤ 50) (h10 : n ≤ 10) {w : Nat → Int32} {q : Nat} (hq : q < 4) (hF : tw_isF σ q r n w) {x : Int32} : ∀ (f i : Nat) (a : Int32) (u : Value), i + f = r → (∀ (u : Value), tw_P L xs 3 26 26 [.ref 9, .int (nI q), .int x, .int (tw_fo (tw_gCC w x n) i f a), .int (nI r), u] [] σ Q) → tw_P L xs 3 26 4 [.ref 9, .int (nI q), .int x, .int a, .int (nI i), u] [] σ Q := by
  intro f
  induction f with
  | zero =>
    intro i a u hf hQ
    have hf : r = i := Eq.symm hf
    subst hf
    refine tw_sgn 3 (i1 := 7) (ls0 := [.ref 9, .int (nI q), .int x, .int a, .int (nI r), u]) (st0 := [.int (σ 9 3), .int (nI r)]) (σ0 := σ) (ls1 := [.ref 9, .int (nI q), .int x, .int a, .int (nI r), u]) (st1 := [.int (nI r), .int (nI r)]) (σ1 := σ) rfl (rfl) (by simp only [hr9, tw_nadd, tw_nmul]) (rfl) ?_
    refine tw_biT (c := .ge) rfl (by rw [tw_cge, tw_nle (by omega) (by omega)] <;> omega) ?_
    show tw_P L xs _ 26 26 [.ref 9, .int (nI q), .int x, .int a, .int (nI r), u] [] σ _
    exact hQ _
  | succ f ih =>
    intro i a u hf hQ
    refine tw_sgn 3 (i1 := 7) (ls0 := [.ref 9, .int (nI q), .int x, .int a, .int (nI i), u]) (st0 := [.int (σ 9 3), .int (nI i)]) (σ0 := σ) (ls1 := [.ref 9, .int (nI q), .int x, .int a, .int (nI i), u]) (st1 := [.int (nI r), .int (nI i)]) (σ1 := σ) rfl (rfl) (by simp only [hr9, tw_nadd, tw_nmul]) (rfl) ?_
    refine tw_biF (c := .ge) rfl (by rw [tw_cge', tw_nle (by omega) (by omega)] <;> omega) ?_
    show tw_P L xs _ 26 8 [.ref 9, .int (nI q), .int x, .int a, .int (nI i), u] [] σ _
    refine tw_sg 2 (i1 := 10) (ls1 := [.ref 9, .int (nI q), .int x, .int a, .int (nI i), .int (nI 0)]) (st1 := []) (σ1 := σ) rfl ?_
    refine tw_l_cnt1 hr9 hw9 h50 h10 hq hF (by omega) n 0 _ (by omega) ?_
    show tw_P L xs _ 26 24 [.ref 9, .int (nI q), .int x, .int (tw_gCC w x n i a), .int (nI i), .int (nI n)] [] σ _
    refine tw_sgn 2 (i1 := 4) (ls0 := [.ref 9, .int (nI q), .int x, .int (tw_gCC w x n i a), .int (nI i + nI 1), .int (nI n)]) (st0 := []) (σ0 := σ) (ls1 := [.ref 9, .int (nI q), .int x, .int (tw_gCC w x n i a), .int (nI (i + 1)), .int (nI n)]) (st1 := []) (σ1 := σ) rfl (by simp only [tw_nadd, tw_nmul]) (rfl) (rfl) ?_
    exact ih (i + 1) _ _ (by omega) hQ
set_option maxHeartbeats 4000000 in
set_option maxRecDepth 100000 in
theorem tw_e_cnt {r n : Nat} (hr9 : σ 9 3 = nI r) (hw9 : σ 9 4 = nI n) (h50 : r ≤ 50) (h10 : n ≤ 10) {w : Nat → Int32} {q : Nat} (hq : q < 4) (hF : tw_isF σ q r n w) {x : Int32} : tw_E L xs 3 26 [.ref 9, .int (nI q), .int x] σ (fun v σ1 => v = some (.int (tw_fo (tw_gCC w x n) 0 r (nI 0))) ∧ σ = σ1) := by
  show tw_P L xs _ 26 0 [.ref 9, .int (nI q), .int x, tw_U, tw_U, tw_U] [] σ _
  refine tw_sg 4 (i1 := 4) (ls1 := [.ref 9, .int (nI q), .int x, .int (nI 0), .int (nI 0), tw_U]) (st1 := []) (σ1 := σ) rfl ?_
  refine tw_l_cnt hr9 hw9 h50 h10 hq hF r 0 _ _ (by omega) (fun u => ?_)
  refine tw_sg 1 (i1 := 27) (ls1 := _) (st1 := [.int (tw_fo (tw_gCC w x n) 0 r (nI 0))]) (σ1 := σ) rfl ?_
  exact tw_ri rfl rfl ⟨rfl, rfl⟩
set_option maxHeartbeats 4000000 in
set_option maxRecDepth 100000 in
theorem tw_l_mcnt1_95 {L : Nat} {xs : Nat → Int32} {Q : Option Value → tw_Mem → Prop} {σ : tw_Mem} {r n : Nat} (hn89 : σ 89 0 = nI n) (hr90 : σ 90 0 = nI r) (h50 : r ≤ 50) (h10 : n ≤ 10) {x : Int32} {i : Nat} (hi : i < r) : ∀ (f c : Nat) (a : Int32), c + f = n → tw_P L xs 0 241 30 [.ref 88, .int x, .ref 95, .int (tw_fo (tw_gC (σ 95) x i) c f a), .int (nI i), .int (nI n)] [] σ Q → tw_P L xs 0 241 12 [.ref 88, .int x, .ref 95, .int a, .int (nI i), .int (nI c)] [] σ Q := by
  intro f
  induction f with
  | zero =>
    intro c a  hf hQ
    have hf : n = c := Eq.symm hf
    subst hf
    refine tw_sg 4 (i1 := 16) (ls1 := [.ref 88, .int x, .ref 95, .int a, .int (nI i), .int (nI n)]) (st1 := [.int (nI 0), .ref 89, .int (nI n)]) (σ1 := σ) rfl ?_
    refine tw_al (k := 89) (j := 0) (len := 2) rfl rfl rfl rfl (rfl) (by omega) (by decide) ?_
    rw [hn89]
    refine tw_biT (c := .ge) rfl (by rw [tw_cge, tw_nle (by omega) (by omega)] <;> omega) ?_
    show tw_P L xs _ 241 30 [.ref 88, .int x, .ref 95, .int a, .int (nI i), .int (nI n)] [] σ _
    exact hQ
  | succ f ih =>
    intro c a  hf hQ
    refine tw_sg 4 (i1 := 16) (ls1 := [.ref 88, .int x, .ref 95, .int a, .int (nI i), .int (nI c)]) (st1 := [.int (nI 0), .ref 89, .int (nI c)]) (σ1 := σ) rfl ?_
    refine tw_al (k := 89) (j := 0) (len := 2) rfl rfl rfl rfl (rfl) (by omega) (by decide) ?_
    rw [hn89]
    refine tw_biF (c := .ge) rfl (by rw [tw_cge', tw_nle (by omega) (by omega)] <;> omega) ?_
    show tw_P L xs _ 241 18 [.ref 88, .int x, .ref 95, .int a, .int (nI i), .int (nI c)] [] σ _
    refine tw_sgn 6 (i1 := 24) (ls0 := [.ref 88, .int x, .ref 95, .int a, .int (nI i), .int (nI c)]) (st0 := [.int ((nI 10 * nI i) + nI c), .ref 95]) (σ0 := σ) (ls1 := [.ref 88, .int x, .ref 95, .int a, .int (nI i), .int (nI c)]) (st1 := [.int (nI ((10 * i) + c)), .ref 95]) (σ1 := σ) rfl (rfl) (by simp only [tw_nadd, tw_nmul]) (rfl) ?_
    refine tw_al (k := 95) (j := ((10 * i) + c)) (len := 1000) rfl rfl rfl rfl (rfl) (by omega) (by decide) ?_
    refine tw_sg 1 (i1 := 26) (ls1 := [.ref 88, .int x, .ref 95, .int a, .int (nI i), .int (nI c)]) (st1 := [.int x, .int (σ 95 ((10 * i) + c))]) (σ1 := σ) rfl ?_
    refine tw_bi (c := .ne) rfl (fun h1 => ?_) (fun h1 => ?_)
    · rw [tw_cne] at h1
      refine tw_sgn 2 (i1 := 12) (ls0 := [.ref 88, .int x, .ref 95, .int a, .int (nI i), .int (nI c + nI 1)]) (st0 := []) (σ0 := σ) (ls1 := [.ref 88, .int x, .ref 95, .int a, .int (nI i), .int (nI (c + 1))]) (st1 := []) (σ1 := σ) rfl (by simp only [tw_nadd, tw_nmul]) (rfl) (rfl) ?_
      have e : (tw_gC (σ 95) x i) c a = a := by
        unfold tw_gC
        first | rw [if_pos (by assumption)] | rw [if_neg (by assumption)]
      rw [tw_fo, e] at hQ
      exact ih (c + 1) _ (by omega) hQ
    · rw [tw_cne'] at h1
      refine tw_sgn 3 (i1 := 12) (ls0 := [.ref 88, .int x, .ref 95, .int (a + nI 1), .int (nI i), .int (nI c + nI 1)]) (st0 := []) (σ0 := σ) (ls1 := [.ref 88, .int x, .ref 95, .int (a + nI 1), .int (nI i), .int (nI (c + 1))]) (st1 := []) (σ1 := σ) rfl (by simp only [tw_nadd, tw_nmul]) (rfl) (rfl) ?_
      have e : (tw_gC (σ 95) x i) c a = a + nI 1 := by
        unfold tw_gC
        first | rw [if_pos (by assumption)] | rw [if_neg (by assumption)]
      rw [tw_fo, e] at hQ
      exact ih (c + 1) _ (by omega) hQ
set_option maxHeartbeats 4000000 in
set_option maxRecDepth 100000 in
theorem tw_l_mcnt_95 {L : Nat} {xs : Nat → Int32} {Q : Option Value → tw_Mem → Prop} {σ : tw_Mem} {r n : Nat} (hn89 : σ 89 0 = nI n) (hr90 : σ 90 0 = nI r) (h50 : r ≤ 50) (h10 : n ≤ 10) {x : Int32} : ∀ (f i : Nat) (a : Int32) (u : Value), i + f = r → (∀ (u : Value), tw_P L xs 0 241 32 [.ref 88, .int x, .ref 95, .int (tw_fo (tw_gCC (σ 95) x n) i f a), .int (nI r), u] [] σ Q) → tw_P L xs 0 241 4 [.ref 88, .int x, .ref 95, .int a, .int (nI i), u] [] σ Q := by
  intro f
  induction f with
  | zero =>
    intro i a u hf hQ
    have hf : r = i := Eq.symm hf
    subst hf
    refine tw_sg 4 (i1 := 8) (ls1 := [.ref 88, .int x, .ref 95, .int a, .int (nI r), u]) (st1 := [.int (nI 0), .ref 90, .int (nI r)]) (σ1 := σ) rfl ?_
    refine tw_al (k := 90) (j := 0) (len := 2) rfl rfl rfl rfl (rfl) (by omega) (by decide) ?_
    rw [hr90]
    refine tw_biT (c := .ge) rfl (by rw [tw_cge, tw_nle (by omega) (by omega)] <;> omega) ?_
    show tw_P L xs _ 241 32 [.ref 88, .int x, .ref 95, .int a, .int (nI r), u] [] σ _
    exact hQ _
  | succ f ih =>
    intro i a u hf hQ
    refine tw_sg 4 (i1 := 8) (ls1 := [.ref 88, .int x, .ref 95, .int a, .int (nI i), u]) (st1 := [.int (nI 0), .ref 90, .int (nI i)]) (σ1 := σ) rfl ?_
    refine tw_al (k := 90) (j := 0) (len := 2) rfl rfl rfl rfl (rfl) (by omega) (by decide) ?_
    rw [hr90]
    refine tw_biF (c := .ge) rfl (by rw [tw_cge', tw_nle (by omega) (by omega)] <;> omega) ?_
    show tw_P L xs _ 241 10 [.ref 88, .int x, .ref 95, .int a, .int (nI i), u] [] σ _
    refine tw_sg 2 (i1 := 12) (ls1 := [.ref 88, .int x, .ref 95, .int a, .int (nI i), .int (nI 0)]) (st1 := []) (σ1 := σ) rfl ?_
    refine tw_l_mcnt1_95 hn89 hr90 h50 h10 (by omega) n 0 _ (by omega) ?_
    show tw_P L xs _ 241 30 [.ref 88, .int x, .ref 95, .int (tw_gCC (σ 95) x n i a), .int (nI i), .int (nI n)] [] σ _
    refine tw_sgn 2 (i1 := 4) (ls0 := [.ref 88, .int x, .ref 95, .int (tw_gCC (σ 95) x n i a), .int (nI i + nI 1), .int (nI n)]) (st0 := []) (σ0 := σ) (ls1 := [.ref 88, .int x, .ref 95, .int (tw_gCC (σ 95) x n i a), .int (nI (i + 1)), .int (nI n)]) (st1 := []) (σ1 := σ) rfl (by simp only [tw_nadd, tw_nmul]) (rfl) (rfl) ?_
    exact ih (i + 1) _ _ (by omega) hQ
set_option maxHeartbeats 4000000 in
set_option maxRecDepth 100000 in
theorem tw_e_mcnt_95 {r n : Nat} (hn89 : σ 89 0 = nI n) (hr90 : σ 90 0 = nI r) (h50 : r ≤ 50) (h10 : n ≤ 10) {x : Int32} : tw_E L xs 0 241 [.ref 88, .int x, .ref 95] σ (fun v σ1 => v = some (.int (tw_fo (tw_gCC (σ 95) x n) 0 r (nI 0))) ∧ σ = σ1) := by
  show tw_P L xs _ 241 0 [.ref 88, .int x, .ref 95, tw_U, tw_U, tw_U] [] σ _
  refine tw_sg 4 (i1 := 4) (ls1 := [.ref 88, .int x, .ref 95, .int (nI 0), .int (nI 0), tw_U]) (st1 := []) (σ1 := σ) rfl ?_
  refine tw_l_mcnt_95 hn89 hr90 h50 h10 r 0 _ _ (by omega) (fun u => ?_)
  refine tw_sg 1 (i1 := 33) (ls1 := _) (st1 := [.int (tw_fo (tw_gCC (σ 95) x n) 0 r (nI 0))]) (σ1 := σ) rfl ?_
  exact tw_ri rfl rfl ⟨rfl, rfl⟩
set_option maxHeartbeats 4000000 in
set_option maxRecDepth 100000 in
theorem tw_l_mcnt1_96 {L : Nat} {xs : Nat → Int32} {Q : Option Value → tw_Mem → Prop} {σ : tw_Mem} {r n : Nat} (hn89 : σ 89 0 = nI n) (hr90 : σ 90 0 = nI r) (h50 : r ≤ 50) (h10 : n ≤ 10) {x : Int32} {i : Nat} (hi : i < r) : ∀ (f c : Nat) (a : Int32), c + f = n → tw_P L xs 0 241 30 [.ref 88, .int x, .ref 96, .int (tw_fo (tw_gC (σ 96) x i) c f a), .int (nI i), .int (nI n)] [] σ Q → tw_P L xs 0 241 12 [.ref 88, .int x, .ref 96, .int a, .int (nI i), .int (nI c)] [] σ Q := by
  intro f
  induction f with
  | zero =>
    intro c a  hf hQ
    have hf : n = c := Eq.symm hf
    subst hf
    refine tw_sg 4 (i1 := 16) (ls1 := [.ref 88, .int x, .ref 96, .int a, .int (nI i), .int (nI n)]) (st1 := [.int (nI 0), .ref 89, .int (nI n)]) (σ1 := σ) rfl ?_
    refine tw_al (k := 89) (j := 0) (len := 2) rfl rfl rfl rfl (rfl) (by omega) (by decide) ?_
    rw [hn89]
    refine tw_biT (c := .ge) rfl (by rw [tw_cge, tw_nle (by omega) (by omega)] <;> omega) ?_
    show tw_P L xs _ 241 30 [.ref 88, .int x, .ref 96, .int a, .int (nI i), .int (nI n)] [] σ _
    exact hQ
  | succ f ih =>
    intro c a  hf hQ
    refine tw_sg 4 (i1 := 16) (ls1 := [.ref 88, .int x, .ref 96, .int a, .int (nI i), .int (nI c)]) (st1 := [.int (nI 0), .ref 89, .int (nI c)]) (σ1 := σ) rfl ?_
    refine tw_al (k := 89) (j := 0) (len := 2) rfl rfl rfl rfl (rfl) (by omega) (by decide) ?_
    rw [hn89]
    refine tw_biF (c := .ge) rfl (by rw [tw_cge', tw_nle (by omega) (by omega)] <;> omega) ?_
    show tw_P L xs _ 241 18 [.ref 88, .int x, .ref 96, .int a, .int (nI i), .int (nI c)] [] σ _
    refine tw_sgn 6 (i1 := 24) (ls0 := [.ref 88, .int x, .ref 96, .int a, .int (nI i), .int (nI c)]) (st0 := [.int ((nI 10 * nI i) + nI c), .ref 96]) (σ0 := σ) (ls1 := [.ref 88, .int x, .ref 96, .int a, .int (nI i), .int (nI c)]) (st1 := [.int (nI ((10 * i) + c)), .ref 96]) (σ1 := σ) rfl (rfl) (by simp only [tw_nadd, tw_nmul]) (rfl) ?_
    refine tw_al (k := 96) (j := ((10 * i) + c)) (len := 1000) rfl rfl rfl rfl (rfl) (by omega) (by decide) ?_
    refine tw_sg 1 (i1 := 26) (ls1 := [.ref 88, .int x, .ref 96, .int a, .int (nI i), .int (nI c)]) (st1 := [.int x, .int (σ 96 ((10 * i) + c))]) (σ1 := σ) rfl ?_
    refine tw_bi (c := .ne) rfl (fun h1 => ?_) (fun h1 => ?_)
    · rw [tw_cne] at h1
      refine tw_sgn 2 (i1 := 12) (ls0 := [.ref 88, .int x, .ref 96, .int a, .int (nI i), .int (nI c + nI 1)]) (st0 := []) (σ0 := σ) (ls1 := [.ref 88, .int x, .ref 96, .int a, .int (nI i), .int (nI (c + 1))]) (st1 := []) (σ1 := σ) rfl (by simp only [tw_nadd, tw_nmul]) (rfl) (rfl) ?_
      have e : (tw_gC (σ 96) x i) c a = a := by
        unfold tw_gC
        first | rw [if_pos (by assumption)] | rw [if_neg (by assumption)]
      rw [tw_fo, e] at hQ
      exact ih (c + 1) _ (by omega) hQ
    · rw [tw_cne'] at h1
      refine tw_sgn 3 (i1 := 12) (ls0 := [.ref 88, .int x, .ref 96, .int (a + nI 1), .int (nI i), .int (nI c + nI 1)]) (st0 := []) (σ0 := σ) (ls1 := [.ref 88, .int x, .ref 96, .int (a + nI 1), .int (nI i), .int (nI (c + 1))]) (st1 := []) (σ1 := σ) rfl (by simp only [tw_nadd, tw_nmul]) (rfl) (rfl) ?_
      have e : (tw_gC (σ 96) x i) c a = a + nI 1 := by
        unfold tw_gC
        first | rw [if_pos (by assumption)] | rw [if_neg (by assumption)]
      rw [tw_fo, e] at hQ
      exact ih (c + 1) _ (by omega) hQ
set_option maxHeartbeats 4000000 in
set_option maxRecDepth 100000 in
theorem tw_l_mcnt_96 {L : Nat} {xs : Nat → Int32} {Q : Option Value → tw_Mem → Prop} {σ : tw_Mem} {r n : Nat} (hn89 : σ 89 0 = nI n) (hr90 : σ 90 0 = nI r) (h50 : r ≤ 50) (h10 : n ≤ 10) {x : Int32} : ∀ (f i : Nat) (a : Int32) (u : Value), i + f = r → (∀ (u : Value), tw_P L xs 0 241 32 [.ref 88, .int x, .ref 96, .int (tw_fo (tw_gCC (σ 96) x n) i f a), .int (nI r), u] [] σ Q) → tw_P L xs 0 241 4 [.ref 88, .int x, .ref 96, .int a, .int (nI i), u] [] σ Q := by
  intro f
  induction f with
  | zero =>
    intro i a u hf hQ
    have hf : r = i := Eq.symm hf
    subst hf
    refine tw_sg 4 (i1 := 8) (ls1 := [.ref 88, .int x, .ref 96, .int a, .int (nI r), u]) (st1 := [.int (nI 0), .ref 90, .int (nI r)]) (σ1 := σ) rfl ?_
    refine tw_al (k := 90) (j := 0) (len := 2) rfl rfl rfl rfl (rfl) (by omega) (by decide) ?_
    rw [hr90]
    refine tw_biT (c := .ge) rfl (by rw [tw_cge, tw_nle (by omega) (by omega)] <;> omega) ?_
    show tw_P L xs _ 241 32 [.ref 88, .int x, .ref 96, .int a, .int (nI r), u] [] σ _
    exact hQ _
  | succ f ih =>
    intro i a u hf hQ
    refine tw_sg 4 (i1 := 8) (ls1 := [.ref 88, .int x, .ref 96, .int a, .int (nI i), u]) (st1 := [.int (nI 0), .ref 90, .int (nI i)]) (σ1 := σ) rfl ?_
    refine tw_al (k := 90) (j := 0) (len := 2) rfl rfl rfl rfl (rfl) (by omega) (by decide) ?_
    rw [hr90]
    refine tw_biF (c := .ge) rfl (by rw [tw_cge', tw_nle (by omega) (by omega)] <;> omega) ?_
    show tw_P L xs _ 241 10 [.ref 88, .int x, .ref 96, .int a, .int (nI i), u] [] σ _
    refine tw_sg 2 (i1 := 12) (ls1 := [.ref 88, .int x, .ref 96, .int a, .int (nI i), .int (nI 0)]) (st1 := []) (σ1 := σ) rfl ?_
    refine tw_l_mcnt1_96 hn89 hr90 h50 h10 (by omega) n 0 _ (by omega) ?_
    show tw_P L xs _ 241 30 [.ref 88, .int x, .ref 96, .int (tw_gCC (σ 96) x n i a), .int (nI i), .int (nI n)] [] σ _
    refine tw_sgn 2 (i1 := 4) (ls0 := [.ref 88, .int x, .ref 96, .int (tw_gCC (σ 96) x n i a), .int (nI i + nI 1), .int (nI n)]) (st0 := []) (σ0 := σ) (ls1 := [.ref 88, .int x, .ref 96, .int (tw_gCC (σ 96) x n i a), .int (nI (i + 1)), .int (nI n)]) (st1 := []) (σ1 := σ) rfl (by simp only [tw_nadd, tw_nmul]) (rfl) (rfl) ?_
    exact ih (i + 1) _ _ (by omega) hQ
set_option maxHeartbeats 4000000 in
set_option maxRecDepth 100000 in
theorem tw_e_mcnt_96 {r n : Nat} (hn89 : σ 89 0 = nI n) (hr90 : σ 90 0 = nI r) (h50 : r ≤ 50) (h10 : n ≤ 10) {x : Int32} : tw_E L xs 0 241 [.ref 88, .int x, .ref 96] σ (fun v σ1 => v = some (.int (tw_fo (tw_gCC (σ 96) x n) 0 r (nI 0))) ∧ σ = σ1) := by
  show tw_P L xs _ 241 0 [.ref 88, .int x, .ref 96, tw_U, tw_U, tw_U] [] σ _
  refine tw_sg 4 (i1 := 4) (ls1 := [.ref 88, .int x, .ref 96, .int (nI 0), .int (nI 0), tw_U]) (st1 := []) (σ1 := σ) rfl ?_
  refine tw_l_mcnt_96 hn89 hr90 h50 h10 r 0 _ _ (by omega) (fun u => ?_)
  refine tw_sg 1 (i1 := 33) (ls1 := _) (st1 := [.int (tw_fo (tw_gCC (σ 96) x n) 0 r (nI 0))]) (σ1 := σ) rfl ?_
  exact tw_ri rfl rfl ⟨rfl, rfl⟩
def tw_gH (w : Nat → Int32) (x : Int32) : Nat → Int32 → Int32 := fun j a => if w j = x then a + nI 1 else a
def tw_gH4 (w : Nat → Int32) (x : Int32) (c : Nat) : Nat → Int32 → Int32 := fun h a => if w (4 * c + h) = x then a + nI 1 else a
def tw_gHH (w : Nat → Int32) (x : Int32) : Nat → Int32 → Int32 := fun c a => tw_fo (tw_gH w x) (4 * c) 4 a
theorem tw_gHH_fo {w : Nat → Int32} {x : Int32} : ∀ (f i : Nat) (a : Int32), tw_fo (tw_gHH w x) i f a = tw_fo (tw_gH w x) (4 * i) (4 * f) a
  | 0, _, _ => rfl
  | f + 1, i, a => by
    rw [tw_fo, tw_gHH_fo f (i + 1), show 4 * (f + 1) = 4 + 4 * f by omega, tw_fo_add]
    rfl
theorem tw_e_holeW {σ : tw_Mem} {c h : Nat} (hc : c < 10) (hh : h < 4) (e : σ (2 * c + 19) h = σ 91 (4 * c + h)) : tw_E L xs 0 1 [.ref (2 * c + 18), .int (nI h)] σ (fun v σ1 => v = some (.int (σ 91 (4 * c + h))) ∧ σ = σ1) :=
  tw_E_mono (tw_e_colourIn1 hc hh) (fun v σ1 g => ⟨by rw [g.1, e], g.2⟩)
set_option maxHeartbeats 4000000 in
set_option maxRecDepth 100000 in
theorem tw_l_hol1 {L : Nat} {xs : Nat → Int32} {Q : Option Value → tw_Mem → Prop} {σ : tw_Mem} {n c : Nat} {x : Int32} (hc : c < n) (h10 : n ≤ 10) (hCa : ∀ c, c < n → ∀ h, h < 4 → σ (2 * c + 19) h = σ 91 (4 * c + h)) : ∀ (f h : Nat) (a : Int32), h + f = 4 → tw_P L xs 1 103 27 [.ref 6, .int x, .int (tw_fo (tw_gH4 (σ 91) x c) h f a), .int (nI c), .ref (2 * c + 18), .int (nI 4)] [] σ Q → tw_P L xs 1 103 14 [.ref 6, .int x, .int a, .int (nI c), .ref (2 * c + 18), .int (nI h)] [] σ Q := by
  intro f
  induction f with
  | zero =>
    intro h a  hf hQ
    have hf : 4 = h := Eq.symm hf
    subst hf
    refine tw_sg 4 (i1 := 18) (ls1 := [.ref 6, .int x, .int a, .int (nI c), .ref (2 * c + 18), .int (nI 4)]) (st1 := [.int (nI 4), .int (nI 4)]) (σ1 := σ) rfl ?_
    refine tw_biT (c := .ge) rfl (by rw [tw_cge, tw_nle (by omega) (by omega)] <;> omega) ?_
    show tw_P L xs _ 103 27 [.ref 6, .int x, .int a, .int (nI c), .ref (2 * c + 18), .int (nI 4)] [] σ _
    exact hQ
  | succ f ih =>
    intro h a  hf hQ
    refine tw_sg 4 (i1 := 18) (ls1 := [.ref 6, .int x, .int a, .int (nI c), .ref (2 * c + 18), .int (nI h)]) (st1 := [.int (nI 4), .int (nI h)]) (σ1 := σ) rfl ?_
    refine tw_biF (c := .ge) rfl (by rw [tw_cge', tw_nle (by omega) (by omega)] <;> omega) ?_
    show tw_P L xs _ 103 19 [.ref 6, .int x, .int a, .int (nI c), .ref (2 * c + 18), .int (nI h)] [] σ _
    refine tw_sg 2 (i1 := 21) (ls1 := [.ref 6, .int x, .int a, .int (nI c), .ref (2 * c + 18), .int (nI h)]) (st1 := [.int (nI h), .ref (2 * c + 18)]) (σ1 := σ) rfl ?_
    refine tw_cl1 rfl (tw_inv_ok (y := 1) (b := 1) (st := [.int (nI h), .ref (2 * c + 18)]) (k := (2 * c + 18)) (r := []) rfl rfl (tw_cdO (by omega))) (by decide) (tw_e_holeW (by omega) (by omega) (hCa c hc h (by omega))) ?_
    rintro _ _ ⟨rfl, rfl⟩
    show tw_P L xs _ 103 22 [.ref 6, .int x, .int a, .int (nI c), .ref (2 * c + 18), .int (nI h)] [.int (σ 91 (4 * c + h))] σ _
    refine tw_sg 1 (i1 := 23) (ls1 := [.ref 6, .int x, .int a, .int (nI c), .ref (2 * c + 18), .int (nI h)]) (st1 := [.int x, .int (σ 91 (4 * c + h))]) (σ1 := σ) rfl ?_
    refine tw_bi (c := .ne) rfl (fun h1 => ?_) (fun h1 => ?_)
    · rw [tw_cne] at h1
      refine tw_sgn 2 (i1 := 14) (ls0 := [.ref 6, .int x, .int a, .int (nI c), .ref (2 * c + 18), .int (nI h + nI 1)]) (st0 := []) (σ0 := σ) (ls1 := [.ref 6, .int x, .int a, .int (nI c), .ref (2 * c + 18), .int (nI (h + 1))]) (st1 := []) (σ1 := σ) rfl (by simp only [tw_nadd, tw_nmul]) (rfl) (rfl) ?_
      have e : (tw_gH4 (σ 91) x c) h a = a := by
        unfold tw_gH4
        first | rw [if_pos (by assumption)] | rw [if_neg (by assumption)]
      rw [tw_fo, e] at hQ
      exact ih (h + 1) _ (by omega) hQ
    · rw [tw_cne'] at h1
      refine tw_sgn 3 (i1 := 14) (ls0 := [.ref 6, .int x, .int (a + nI 1), .int (nI c), .ref (2 * c + 18), .int (nI h + nI 1)]) (st0 := []) (σ0 := σ) (ls1 := [.ref 6, .int x, .int (a + nI 1), .int (nI c), .ref (2 * c + 18), .int (nI (h + 1))]) (st1 := []) (σ1 := σ) rfl (by simp only [tw_nadd, tw_nmul]) (rfl) (rfl) ?_
      have e : (tw_gH4 (σ 91) x c) h a = a + nI 1 := by
        unfold tw_gH4
        first | rw [if_pos (by assumption)] | rw [if_neg (by assumption)]
      rw [tw_fo, e] at hQ
      exact ih (h + 1) _ (by omega) hQ
set_option maxHeartbeats 4000000 in
set_option maxRecDepth 100000 in
theorem tw_l_hol {L : Nat} {xs : Nat → Int32} {Q : Option Value → tw_Mem → Prop} {σ : tw_Mem} {n : Nat} {x : Int32} (hn6 : σ 6 4 = nI n) (hn10 : n ≤ 10) (hCa : ∀ c, c < n → ∀ h, h < 4 → σ (2 * c + 19) h = σ 91 (4 * c + h)) : ∀ (f c : Nat) (a : Int32) (u u1 : Value), c + f = n → (∀ (u u1 : Value), tw_P L xs 1 103 29 [.ref 6, .int x, .int (tw_fo (tw_gHH (σ 91) x) c f a), .int (nI n), u, u1] [] σ Q) → tw_P L xs 1 103 4 [.ref 6, .int x, .int a, .int (nI c), u, u1] [] σ Q := by
  intro f
  induction f with
  | zero =>
    intro c a u u1 hf hQ
    have hf : n = c := Eq.symm hf
    subst hf
    refine tw_sgn 3 (i1 := 7) (ls0 := [.ref 6, .int x, .int a, .int (nI n), u, u1]) (st0 := [.int (σ 6 4), .int (nI n)]) (σ0 := σ) (ls1 := [.ref 6, .int x, .int a, .int (nI n), u, u1]) (st1 := [.int (nI n), .int (nI n)]) (σ1 := σ) rfl (rfl) (by simp only [hn6, tw_nadd, tw_nmul]) (rfl) ?_
    refine tw_biT (c := .ge) rfl (by rw [tw_cge, tw_nle (by omega) (by omega)] <;> omega) ?_
    show tw_P L xs _ 103 29 [.ref 6, .int x, .int a, .int (nI n), u, u1] [] σ _
    exact hQ _ _
  | succ f ih =>
    intro c a u u1 hf hQ
    refine tw_sgn 3 (i1 := 7) (ls0 := [.ref 6, .int x, .int a, .int (nI c), u, u1]) (st0 := [.int (σ 6 4), .int (nI c)]) (σ0 := σ) (ls1 := [.ref 6, .int x, .int a, .int (nI c), u, u1]) (st1 := [.int (nI n), .int (nI c)]) (σ1 := σ) rfl (rfl) (by simp only [hn6, tw_nadd, tw_nmul]) (rfl) ?_
    refine tw_biF (c := .ge) rfl (by rw [tw_cge', tw_nle (by omega) (by omega)] <;> omega) ?_
    show tw_P L xs _ 103 8 [.ref 6, .int x, .int a, .int (nI c), u, u1] [] σ _
    refine tw_sg 2 (i1 := 10) (ls1 := [.ref 6, .int x, .int a, .int (nI c), u, u1]) (st1 := [.int (nI c), .ref 6]) (σ1 := σ) rfl ?_
    refine tw_cl1 rfl (rfl) (by decide) (tw_e_cardAt1 hn6 hn10 (by omega)) ?_
    rintro _ _ ⟨rfl, rfl⟩
    show tw_P L xs _ 103 11 [.ref 6, .int x, .int a, .int (nI c), u, u1] [.ref (2 * c + 18)] σ _
    refine tw_sg 3 (i1 := 14) (ls1 := [.ref 6, .int x, .int a, .int (nI c), .ref (2 * c + 18), .int (nI 0)]) (st1 := []) (σ1 := σ) rfl ?_
    refine tw_l_hol1 (by omega) hn10 hCa 4 0 _ (by omega) ?_
    rw [show tw_gH4 (σ 91) x c = (fun h => tw_gH (σ 91) x (4 * c + h)) from rfl, tw_fo_sh]
    show tw_P L xs _ 103 27 [.ref 6, .int x, .int (tw_gHH (σ 91) x c a), .int (nI c), .ref (2 * c + 18), .int (nI 4)] [] σ _
    refine tw_sgn 2 (i1 := 4) (ls0 := [.ref 6, .int x, .int (tw_gHH (σ 91) x c a), .int (nI c + nI 1), .ref (2 * c + 18), .int (nI 4)]) (st0 := []) (σ0 := σ) (ls1 := [.ref 6, .int x, .int (tw_gHH (σ 91) x c a), .int (nI (c + 1)), .ref (2 * c + 18), .int (nI 4)]) (st1 := []) (σ1 := σ) rfl (by simp only [tw_nadd, tw_nmul]) (rfl) (rfl) ?_
    exact ih (c + 1) _ _ _ (by omega) hQ
set_option maxHeartbeats 4000000 in
set_option maxRecDepth 100000 in
theorem tw_e_hol {n : Nat} {x : Int32} (hn6 : σ 6 4 = nI n) (hn10 : n ≤ 10) (hCa : ∀ c, c < n → ∀ h, h < 4 → σ (2 * c + 19) h = σ 91 (4 * c + h)) : tw_E L xs 1 103 [.ref 6, .int x] σ (fun v σ1 => v = some (.int (tw_fo (tw_gH (σ 91) x) 0 (4 * n) (nI 0))) ∧ σ = σ1) := by
  show tw_P L xs _ 103 0 [.ref 6, .int x, tw_U, tw_U, tw_U, tw_U] [] σ _
  refine tw_sg 4 (i1 := 4) (ls1 := [.ref 6, .int x, .int (nI 0), .int (nI 0), tw_U, tw_U]) (st1 := []) (σ1 := σ) rfl ?_
  refine tw_l_hol hn6 hn10 hCa n 0 _ _ _ (by omega) (fun u u1 => ?_)
  rw [tw_gHH_fo n 0]
  refine tw_sg 1 (i1 := 30) (ls1 := _) (st1 := [.int (tw_fo (tw_gH (σ 91) x) 0 (4 * n) (nI 0))]) (σ1 := σ) rfl ?_
  exact tw_ri rfl rfl ⟨rfl, rfl⟩
set_option maxHeartbeats 4000000 in
set_option maxRecDepth 100000 in
theorem tw_l_mhol {L : Nat} {xs : Nat → Int32} {Q : Option Value → tw_Mem → Prop} {σ : tw_Mem} {n : Nat} {x y : Int32} (hn89 : σ 89 0 = nI n) (h10 : n ≤ 10) : ∀ (f j : Nat) (a : Int32), j + f = (4 * n) → tw_P L xs 0 242 48 [.ref 88, .int x, .int y, .int (tw_fo (tw_gH (σ 91) x) j f a), .int (nI (4 * n))] [] σ Q → tw_P L xs 0 242 31 [.ref 88, .int x, .int y, .int a, .int (nI j)] [] σ Q := by
  intro f
  induction f with
  | zero =>
    intro j a  hf hQ
    have hf : (4 * n) = j := Eq.symm hf
    subst hf
    refine tw_sg 5 (i1 := 36) (ls1 := [.ref 88, .int x, .int y, .int a, .int (nI (4 * n))]) (st1 := [.int (nI 0), .ref 89, .int (nI 4), .int (nI (4 * n))]) (σ1 := σ) rfl ?_
    refine tw_al (k := 89) (j := 0) (len := 2) rfl rfl rfl rfl (rfl) (by omega) (by decide) ?_
    rw [hn89]
    refine tw_sgn 1 (i1 := 38) (ls0 := [.ref 88, .int x, .int y, .int a, .int (nI (4 * n))]) (st0 := [.int (nI 4 * nI n), .int (nI (4 * n))]) (σ0 := σ) (ls1 := [.ref 88, .int x, .int y, .int a, .int (nI (4 * n))]) (st1 := [.int (nI (4 * n)), .int (nI (4 * n))]) (σ1 := σ) rfl (rfl) (by simp only [tw_nadd, tw_nmul]) (rfl) ?_
    refine tw_biT (c := .ge) rfl (by rw [tw_cge, tw_nle (by omega) (by omega)] <;> omega) ?_
    show tw_P L xs _ 242 48 [.ref 88, .int x, .int y, .int a, .int (nI (4 * n))] [] σ _
    exact hQ
  | succ f ih =>
    intro j a  hf hQ
    refine tw_sg 5 (i1 := 36) (ls1 := [.ref 88, .int x, .int y, .int a, .int (nI j)]) (st1 := [.int (nI 0), .ref 89, .int (nI 4), .int (nI j)]) (σ1 := σ) rfl ?_
    refine tw_al (k := 89) (j := 0) (len := 2) rfl rfl rfl rfl (rfl) (by omega) (by decide) ?_
    rw [hn89]
    refine tw_sgn 1 (i1 := 38) (ls0 := [.ref 88, .int x, .int y, .int a, .int (nI j)]) (st0 := [.int (nI 4 * nI n), .int (nI j)]) (σ0 := σ) (ls1 := [.ref 88, .int x, .int y, .int a, .int (nI j)]) (st1 := [.int (nI (4 * n)), .int (nI j)]) (σ1 := σ) rfl (rfl) (by simp only [tw_nadd, tw_nmul]) (rfl) ?_
    refine tw_biF (c := .ge) rfl (by rw [tw_cge', tw_nle (by omega) (by omega)] <;> omega) ?_
    show tw_P L xs _ 242 39 [.ref 88, .int x, .int y, .int a, .int (nI j)] [] σ _
    refine tw_sg 3 (i1 := 42) (ls1 := [.ref 88, .int x, .int y, .int a, .int (nI j)]) (st1 := [.int (nI j), .ref 91]) (σ1 := σ) rfl ?_
    refine tw_al (k := 91) (j := j) (len := 80) rfl rfl rfl rfl (rfl) (by omega) (by decide) ?_
    refine tw_sg 1 (i1 := 44) (ls1 := [.ref 88, .int x, .int y, .int a, .int (nI j)]) (st1 := [.int x, .int (σ 91 j)]) (σ1 := σ) rfl ?_
    refine tw_bi (c := .ne) rfl (fun h1 => ?_) (fun h1 => ?_)
    · rw [tw_cne] at h1
      refine tw_sgn 2 (i1 := 31) (ls0 := [.ref 88, .int x, .int y, .int a, .int (nI j + nI 1)]) (st0 := []) (σ0 := σ) (ls1 := [.ref 88, .int x, .int y, .int a, .int (nI (j + 1))]) (st1 := []) (σ1 := σ) rfl (by simp only [tw_nadd, tw_nmul]) (rfl) (rfl) ?_
      have e : (tw_gH (σ 91) x) j a = a := by
        unfold tw_gH
        first | rw [if_pos (by assumption)] | rw [if_neg (by assumption)]
      rw [tw_fo, e] at hQ
      exact ih (j + 1) _ (by omega) hQ
    · rw [tw_cne'] at h1
      refine tw_sgn 3 (i1 := 31) (ls0 := [.ref 88, .int x, .int y, .int (a + nI 1), .int (nI j + nI 1)]) (st0 := []) (σ0 := σ) (ls1 := [.ref 88, .int x, .int y, .int (a + nI 1), .int (nI (j + 1))]) (st1 := []) (σ1 := σ) rfl (by simp only [tw_nadd, tw_nmul]) (rfl) (rfl) ?_
      have e : (tw_gH (σ 91) x) j a = a + nI 1 := by
        unfold tw_gH
        first | rw [if_pos (by assumption)] | rw [if_neg (by assumption)]
      rw [tw_fo, e] at hQ
      exact ih (j + 1) _ (by omega) hQ
theorem tw_out_ne {x : Int32} {k n : Nat} (h : x < nI 0 ∨ (¬ x < nI 0 ∧ nI n ≤ x)) (hk : k < n) (hn : n < 2147483648) : ¬ x = nI k := fun e => by
  subst e
  rcases h with h | ⟨-, h⟩
  · rw [tw_nlt (by omega) (by omega)] at h; omega
  · rw [tw_nle (by omega) (by omega)] at h; omega
set_option maxHeartbeats 4000000 in
set_option maxRecDepth 100000 in
theorem tw_o_colours {L : Nat} {xs : Nat → Int32} (x : Int32) (y : Int32) : tw_op L xs 163 242 [.int x, .int y] := by
  intro σ hI
  obtain ⟨⟨n, r, hL⟩, hT, hPp, hPc, hLs, hIm, hC14, hC46, hC72⟩ := id hI
  obtain ⟨⟨hn10, hr50⟩, ⟨hn6, hn89⟩, ⟨hr9, hw9, hr90⟩, hCa, hRo, hLa⟩ := hL
  have hn6 : σ 6 4 = nI n := hn6
  have hn89 : σ 89 0 = nI n := hn89
  have hr9 : σ 9 3 = nI r := hr9
  have hw9 : σ 9 4 = nI n := hw9
  have hr90 : σ 90 0 = nI r := hr90
  rcases tw_within x 10 (by decide) with ⟨q, hq, rfl⟩ | hx
  · rcases tw_within y 3 (by decide) with ⟨e, he, rfl⟩ | hy
    · rcases (show e = 0 ∨ e = 1 ∨ e = 2 by omega) with rfl | rfl | rfl
      · skip
        show tw_P L xs _ 163 0 [.ref 1, .int (nI q), .int (nI 0)] [] σ _
        refine tw_sg 1 (i1 := 1) (ls1 := [.ref 1, .int (nI q), .int (nI 0)]) (st1 := [.int (nI q)]) (σ1 := σ) rfl ?_
        refine tw_cl1 rfl (rfl) (by decide) (tw_e_isColour1 hq) ?_
        rintro _ _ ⟨rfl, rfl⟩
        show tw_P L xs _ 163 2 [.ref 1, .int (nI q), .int (nI 0)] [.int (nI 1)] σ _
        refine tw_bzT (c := .ne) rfl (by rw [tw_cne, tw_neq (by omega) (by omega)] <;> omega) ?_
        show tw_P L xs _ 163 5 [.ref 1, .int (nI q), .int (nI 0)] [] σ _
        refine tw_sg 1 (i1 := 6) (ls1 := [.ref 1, .int (nI q), .int (nI 0)]) (st1 := [.int (nI 0)]) (σ1 := σ) rfl ?_
        refine tw_sw (j := 0) rfl (rfl) (by decide) (by decide) rfl ?_
        show tw_P L xs _ 163 7 [.ref 1, .int (nI q), .int (nI 0)] [] σ _
        refine tw_sg 2 (i1 := 9) (ls1 := [.ref 1, .int (nI q), .int (nI 0)]) (st1 := [.ref 6]) (σ1 := σ) rfl ?_
        refine tw_cl0 59 rfl (rfl) (by decide) ?_
        show tw_P L xs _ 83 0 [.ref 6] [] σ _
        refine tw_sg 2 (i1 := 2) (ls1 := [.ref 6]) (st1 := [.ref 9]) (σ1 := σ) rfl ?_
        refine tw_ra rfl ?_
        show tw_P L xs _ 163 10 [.ref 1, .int (nI q), .int (nI 0)] [.ref 9] σ _
        refine tw_sg 2 (i1 := 12) (ls1 := [.ref 1, .int (nI q), .int (nI 0)]) (st1 := [.int (nI q), .int (nI 0), .ref 9]) (σ1 := σ) rfl ?_
        refine tw_cl1 rfl (rfl) (by decide) (tw_e_cnt hr9 hw9 hr50 hn10 (q := 0) (by decide) (tw_isF0 hRo)) ?_
        rintro _ _ ⟨rfl, rfl⟩
        show tw_P L xs _ 163 13 [.ref 1, .int (nI q), .int (nI 0)] [.int (tw_fo (tw_gCC (σ 95) (nI q) n) 0 r (nI 0))] σ _
        refine tw_ri rfl (rfl) ?_
        refine ⟨_, rfl, ?_⟩
        show tw_P L xs _ 242 0 [.ref 88, .int (nI q), .int (nI 0), tw_U, tw_U] [] σ _
        refine tw_sg 1 (i1 := 1) (ls1 := [.ref 88, .int (nI q), .int (nI 0), tw_U, tw_U]) (st1 := [.int (nI q)]) (σ1 := σ) rfl ?_
        refine tw_cl1 rfl (rfl) (by decide) (tw_e_mIsColour1 hq) ?_
        rintro _ _ ⟨rfl, rfl⟩
        show tw_P L xs _ 242 2 [.ref 88, .int (nI q), .int (nI 0), tw_U, tw_U] [.int (nI 1)] σ _
        refine tw_bzT (c := .ne) rfl (by rw [tw_cne, tw_neq (by omega) (by omega)] <;> omega) ?_
        show tw_P L xs _ 242 5 [.ref 88, .int (nI q), .int (nI 0), tw_U, tw_U] [] σ _
        refine tw_sg 1 (i1 := 6) (ls1 := [.ref 88, .int (nI q), .int (nI 0), tw_U, tw_U]) (st1 := [.int (nI 0)]) (σ1 := σ) rfl ?_
        refine tw_bzF (c := .ne) rfl (by rw [tw_cne', tw_neq (by omega) (by omega)] <;> omega) ?_
        show tw_P L xs _ 242 7 [.ref 88, .int (nI q), .int (nI 0), tw_U, tw_U] [] σ _
        refine tw_sg 4 (i1 := 11) (ls1 := [.ref 88, .int (nI q), .int (nI 0), tw_U, tw_U]) (st1 := [.ref 95, .int (nI q), .ref 88]) (σ1 := σ) rfl ?_
        refine tw_cl1 rfl (rfl) (by decide) (tw_e_mcnt_95 hn89 hr90 hr50 hn10) ?_
        rintro _ _ ⟨rfl, rfl⟩
        show tw_P L xs _ 242 12 [.ref 88, .int (nI q), .int (nI 0), tw_U, tw_U] [.int (tw_fo (tw_gCC (σ 95) (nI q) n) 0 r (nI 0))] σ _
        refine tw_ri rfl (rfl) ?_
        exact ⟨rfl, hI⟩
      · skip
        show tw_P L xs _ 163 0 [.ref 1, .int (nI q), .int (nI 1)] [] σ _
        refine tw_sg 1 (i1 := 1) (ls1 := [.ref 1, .int (nI q), .int (nI 1)]) (st1 := [.int (nI q)]) (σ1 := σ) rfl ?_
        refine tw_cl1 rfl (rfl) (by decide) (tw_e_isColour1 hq) ?_
        rintro _ _ ⟨rfl, rfl⟩
        show tw_P L xs _ 163 2 [.ref 1, .int (nI q), .int (nI 1)] [.int (nI 1)] σ _
        refine tw_bzT (c := .ne) rfl (by rw [tw_cne, tw_neq (by omega) (by omega)] <;> omega) ?_
        show tw_P L xs _ 163 5 [.ref 1, .int (nI q), .int (nI 1)] [] σ _
        refine tw_sg 1 (i1 := 6) (ls1 := [.ref 1, .int (nI q), .int (nI 1)]) (st1 := [.int (nI 1)]) (σ1 := σ) rfl ?_
        refine tw_sw (j := 1) rfl (rfl) (by decide) (by decide) rfl ?_
        show tw_P L xs _ 163 14 [.ref 1, .int (nI q), .int (nI 1)] [] σ _
        refine tw_sg 2 (i1 := 16) (ls1 := [.ref 1, .int (nI q), .int (nI 1)]) (st1 := [.ref 6]) (σ1 := σ) rfl ?_
        refine tw_cl0 59 rfl (rfl) (by decide) ?_
        show tw_P L xs _ 83 0 [.ref 6] [] σ _
        refine tw_sg 2 (i1 := 2) (ls1 := [.ref 6]) (st1 := [.ref 9]) (σ1 := σ) rfl ?_
        refine tw_ra rfl ?_
        show tw_P L xs _ 163 17 [.ref 1, .int (nI q), .int (nI 1)] [.ref 9] σ _
        refine tw_sg 2 (i1 := 19) (ls1 := [.ref 1, .int (nI q), .int (nI 1)]) (st1 := [.int (nI q), .int (nI 1), .ref 9]) (σ1 := σ) rfl ?_
        refine tw_cl1 rfl (rfl) (by decide) (tw_e_cnt hr9 hw9 hr50 hn10 (q := 1) (by decide) (tw_isF1 hRo)) ?_
        rintro _ _ ⟨rfl, rfl⟩
        show tw_P L xs _ 163 20 [.ref 1, .int (nI q), .int (nI 1)] [.int (tw_fo (tw_gCC (σ 96) (nI q) n) 0 r (nI 0))] σ _
        refine tw_ri rfl (rfl) ?_
        refine ⟨_, rfl, ?_⟩
        show tw_P L xs _ 242 0 [.ref 88, .int (nI q), .int (nI 1), tw_U, tw_U] [] σ _
        refine tw_sg 1 (i1 := 1) (ls1 := [.ref 88, .int (nI q), .int (nI 1), tw_U, tw_U]) (st1 := [.int (nI q)]) (σ1 := σ) rfl ?_
        refine tw_cl1 rfl (rfl) (by decide) (tw_e_mIsColour1 hq) ?_
        rintro _ _ ⟨rfl, rfl⟩
        show tw_P L xs _ 242 2 [.ref 88, .int (nI q), .int (nI 1), tw_U, tw_U] [.int (nI 1)] σ _
        refine tw_bzT (c := .ne) rfl (by rw [tw_cne, tw_neq (by omega) (by omega)] <;> omega) ?_
        show tw_P L xs _ 242 5 [.ref 88, .int (nI q), .int (nI 1), tw_U, tw_U] [] σ _
        refine tw_sg 1 (i1 := 6) (ls1 := [.ref 88, .int (nI q), .int (nI 1), tw_U, tw_U]) (st1 := [.int (nI 1)]) (σ1 := σ) rfl ?_
        refine tw_bzT (c := .ne) rfl (by rw [tw_cne, tw_neq (by omega) (by omega)] <;> omega) ?_
        show tw_P L xs _ 242 13 [.ref 88, .int (nI q), .int (nI 1), tw_U, tw_U] [] σ _
        refine tw_sg 2 (i1 := 15) (ls1 := [.ref 88, .int (nI q), .int (nI 1), tw_U, tw_U]) (st1 := [.int (nI 1), .int (nI 1)]) (σ1 := σ) rfl ?_
        refine tw_biF (c := .ne) rfl (by rw [tw_cne', tw_neq (by omega) (by omega)] <;> omega) ?_
        show tw_P L xs _ 242 16 [.ref 88, .int (nI q), .int (nI 1), tw_U, tw_U] [] σ _
        refine tw_sg 4 (i1 := 20) (ls1 := [.ref 88, .int (nI q), .int (nI 1), tw_U, tw_U]) (st1 := [.ref 96, .int (nI q), .ref 88]) (σ1 := σ) rfl ?_
        refine tw_cl1 rfl (rfl) (by decide) (tw_e_mcnt_96 hn89 hr90 hr50 hn10) ?_
        rintro _ _ ⟨rfl, rfl⟩
        show tw_P L xs _ 242 21 [.ref 88, .int (nI q), .int (nI 1), tw_U, tw_U] [.int (tw_fo (tw_gCC (σ 96) (nI q) n) 0 r (nI 0))] σ _
        refine tw_ri rfl (rfl) ?_
        exact ⟨rfl, hI⟩
      · skip
        show tw_P L xs _ 163 0 [.ref 1, .int (nI q), .int (nI 2)] [] σ _
        refine tw_sg 1 (i1 := 1) (ls1 := [.ref 1, .int (nI q), .int (nI 2)]) (st1 := [.int (nI q)]) (σ1 := σ) rfl ?_
        refine tw_cl1 rfl (rfl) (by decide) (tw_e_isColour1 hq) ?_
        rintro _ _ ⟨rfl, rfl⟩
        show tw_P L xs _ 163 2 [.ref 1, .int (nI q), .int (nI 2)] [.int (nI 1)] σ _
        refine tw_bzT (c := .ne) rfl (by rw [tw_cne, tw_neq (by omega) (by omega)] <;> omega) ?_
        show tw_P L xs _ 163 5 [.ref 1, .int (nI q), .int (nI 2)] [] σ _
        refine tw_sg 1 (i1 := 6) (ls1 := [.ref 1, .int (nI q), .int (nI 2)]) (st1 := [.int (nI 2)]) (σ1 := σ) rfl ?_
        refine tw_sw (j := 2) rfl (rfl) (by decide) (by decide) rfl ?_
        show tw_P L xs _ 163 21 [.ref 1, .int (nI q), .int (nI 2)] [] σ _
        refine tw_sg 3 (i1 := 24) (ls1 := [.ref 1, .int (nI q), .int (nI 2)]) (st1 := [.int (nI q), .ref 6]) (σ1 := σ) rfl ?_
        refine tw_cl1 rfl (rfl) (by decide) (tw_e_hol hn6 hn10 (fun c hc h hh => ((hCa c hc).1 h hh).1)) ?_
        rintro _ _ ⟨rfl, rfl⟩
        show tw_P L xs _ 163 25 [.ref 1, .int (nI q), .int (nI 2)] [.int (tw_fo (tw_gH (σ 91) (nI q)) 0 (4 * n) (nI 0))] σ _
        refine tw_ri rfl (rfl) ?_
        refine ⟨_, rfl, ?_⟩
        show tw_P L xs _ 242 0 [.ref 88, .int (nI q), .int (nI 2), tw_U, tw_U] [] σ _
        refine tw_sg 1 (i1 := 1) (ls1 := [.ref 88, .int (nI q), .int (nI 2), tw_U, tw_U]) (st1 := [.int (nI q)]) (σ1 := σ) rfl ?_
        refine tw_cl1 rfl (rfl) (by decide) (tw_e_mIsColour1 hq) ?_
        rintro _ _ ⟨rfl, rfl⟩
        show tw_P L xs _ 242 2 [.ref 88, .int (nI q), .int (nI 2), tw_U, tw_U] [.int (nI 1)] σ _
        refine tw_bzT (c := .ne) rfl (by rw [tw_cne, tw_neq (by omega) (by omega)] <;> omega) ?_
        show tw_P L xs _ 242 5 [.ref 88, .int (nI q), .int (nI 2), tw_U, tw_U] [] σ _
        refine tw_sg 1 (i1 := 6) (ls1 := [.ref 88, .int (nI q), .int (nI 2), tw_U, tw_U]) (st1 := [.int (nI 2)]) (σ1 := σ) rfl ?_
        refine tw_bzT (c := .ne) rfl (by rw [tw_cne, tw_neq (by omega) (by omega)] <;> omega) ?_
        show tw_P L xs _ 242 13 [.ref 88, .int (nI q), .int (nI 2), tw_U, tw_U] [] σ _
        refine tw_sg 2 (i1 := 15) (ls1 := [.ref 88, .int (nI q), .int (nI 2), tw_U, tw_U]) (st1 := [.int (nI 1), .int (nI 2)]) (σ1 := σ) rfl ?_
        refine tw_biT (c := .ne) rfl (by rw [tw_cne, tw_neq (by omega) (by omega)] <;> omega) ?_
        show tw_P L xs _ 242 22 [.ref 88, .int (nI q), .int (nI 2), tw_U, tw_U] [] σ _
        refine tw_sg 2 (i1 := 24) (ls1 := [.ref 88, .int (nI q), .int (nI 2), tw_U, tw_U]) (st1 := [.int (nI 2), .int (nI 2)]) (σ1 := σ) rfl ?_
        refine tw_biT (c := .eq) rfl (by rw [tw_ceq, tw_neq (by omega) (by omega)] <;> omega) ?_
        show tw_P L xs _ 242 27 [.ref 88, .int (nI q), .int (nI 2), tw_U, tw_U] [] σ _
        refine tw_sg 4 (i1 := 31) (ls1 := [.ref 88, .int (nI q), .int (nI 2), .int (nI 0), .int (nI 0)]) (st1 := []) (σ1 := σ) rfl ?_
        refine tw_P_le (d := 0) (tw_l_mhol hn89 hn10 (4 * n) 0 _ (by omega) ?_) (by decide)
        refine tw_sg 1 (i1 := 49) (ls1 := _) (st1 := [.int (tw_fo (tw_gH (σ 91) (nI q)) 0 (4 * n) (nI 0))]) (σ1 := σ) rfl ?_
        exact tw_ri rfl rfl ⟨rfl, hI⟩
    · skip
      show tw_P L xs _ 163 0 [.ref 1, .int (nI q), .int y] [] σ _
      refine tw_sg 1 (i1 := 1) (ls1 := [.ref 1, .int (nI q), .int y]) (st1 := [.int (nI q)]) (σ1 := σ) rfl ?_
      refine tw_cl1 rfl (rfl) (by decide) (tw_e_isColour1 hq) ?_
      rintro _ _ ⟨rfl, rfl⟩
      show tw_P L xs _ 163 2 [.ref 1, .int (nI q), .int y] [.int (nI 1)] σ _
      refine tw_bzT (c := .ne) rfl (by rw [tw_cne, tw_neq (by omega) (by omega)] <;> omega) ?_
      show tw_P L xs _ 163 5 [.ref 1, .int (nI q), .int y] [] σ _
      refine tw_sg 1 (i1 := 6) (ls1 := [.ref 1, .int (nI q), .int y]) (st1 := [.int y]) (σ1 := σ) rfl ?_
      refine tw_swo rfl (hy.imp id (fun h => tw_lt_le1 (n := 2) (by decide) h.2)) (by decide) ?_
      show tw_P L xs _ 163 26 [.ref 1, .int (nI q), .int y] [] σ _
      refine tw_sg 1 (i1 := 27) (ls1 := [.ref 1, .int (nI q), .int y]) (st1 := [.int (-1)]) (σ1 := σ) rfl ?_
      refine tw_ri rfl (rfl) ?_
      refine ⟨_, rfl, ?_⟩
      show tw_P L xs _ 242 0 [.ref 88, .int (nI q), .int y, tw_U, tw_U] [] σ _
      refine tw_sg 1 (i1 := 1) (ls1 := [.ref 88, .int (nI q), .int y, tw_U, tw_U]) (st1 := [.int (nI q)]) (σ1 := σ) rfl ?_
      refine tw_cl1 rfl (rfl) (by decide) (tw_e_mIsColour1 hq) ?_
      rintro _ _ ⟨rfl, rfl⟩
      show tw_P L xs _ 242 2 [.ref 88, .int (nI q), .int y, tw_U, tw_U] [.int (nI 1)] σ _
      refine tw_bzT (c := .ne) rfl (by rw [tw_cne, tw_neq (by omega) (by omega)] <;> omega) ?_
      show tw_P L xs _ 242 5 [.ref 88, .int (nI q), .int y, tw_U, tw_U] [] σ _
      refine tw_sg 1 (i1 := 6) (ls1 := [.ref 88, .int (nI q), .int y, tw_U, tw_U]) (st1 := [.int y]) (σ1 := σ) rfl ?_
      refine tw_bzT (c := .ne) rfl (by rw [tw_cne] <;> (exact (tw_out_ne (k := 0) hy (by decide) (by decide)))) ?_
      show tw_P L xs _ 242 13 [.ref 88, .int (nI q), .int y, tw_U, tw_U] [] σ _
      refine tw_sg 2 (i1 := 15) (ls1 := [.ref 88, .int (nI q), .int y, tw_U, tw_U]) (st1 := [.int (nI 1), .int y]) (σ1 := σ) rfl ?_
      refine tw_biT (c := .ne) rfl (by rw [tw_cne] <;> (exact (tw_out_ne (k := 1) hy (by decide) (by decide)))) ?_
      show tw_P L xs _ 242 22 [.ref 88, .int (nI q), .int y, tw_U, tw_U] [] σ _
      refine tw_sg 2 (i1 := 24) (ls1 := [.ref 88, .int (nI q), .int y, tw_U, tw_U]) (st1 := [.int (nI 2), .int y]) (σ1 := σ) rfl ?_
      refine tw_biF (c := .eq) rfl (by rw [tw_ceq'] <;> (exact (tw_out_ne (k := 2) hy (by decide) (by decide)))) ?_
      show tw_P L xs _ 242 25 [.ref 88, .int (nI q), .int y, tw_U, tw_U] [] σ _
      refine tw_sg 1 (i1 := 26) (ls1 := [.ref 88, .int (nI q), .int y, tw_U, tw_U]) (st1 := [.int (-1)]) (σ1 := σ) rfl ?_
      refine tw_ri rfl (rfl) ?_
      exact ⟨rfl, hI⟩
  · skip
    show tw_P L xs _ 163 0 [.ref 1, .int x, .int y] [] σ _
    refine tw_sg 1 (i1 := 1) (ls1 := [.ref 1, .int x, .int y]) (st1 := [.int x]) (σ1 := σ) rfl ?_
    refine tw_cl1 rfl (rfl) (by decide) (tw_e_isColour0 hx) ?_
    rintro _ _ ⟨rfl, rfl⟩
    show tw_P L xs _ 163 2 [.ref 1, .int x, .int y] [.int (nI 0)] σ _
    refine tw_bzF (c := .ne) rfl (by rw [tw_cne', tw_neq (by omega) (by omega)] <;> omega) ?_
    show tw_P L xs _ 163 3 [.ref 1, .int x, .int y] [] σ _
    refine tw_sg 1 (i1 := 4) (ls1 := [.ref 1, .int x, .int y]) (st1 := [.int (-2)]) (σ1 := σ) rfl ?_
    refine tw_ri rfl (rfl) ?_
    refine ⟨_, rfl, ?_⟩
    show tw_P L xs _ 242 0 [.ref 88, .int x, .int y, tw_U, tw_U] [] σ _
    refine tw_sg 1 (i1 := 1) (ls1 := [.ref 88, .int x, .int y, tw_U, tw_U]) (st1 := [.int x]) (σ1 := σ) rfl ?_
    refine tw_cl1 rfl (rfl) (by decide) (tw_e_mIsColour0 hx) ?_
    rintro _ _ ⟨rfl, rfl⟩
    show tw_P L xs _ 242 2 [.ref 88, .int x, .int y, tw_U, tw_U] [.int (nI 0)] σ _
    refine tw_bzF (c := .ne) rfl (by rw [tw_cne', tw_neq (by omega) (by omega)] <;> omega) ?_
    show tw_P L xs _ 242 3 [.ref 88, .int x, .int y, tw_U, tw_U] [] σ _
    refine tw_sg 1 (i1 := 4) (ls1 := [.ref 88, .int x, .int y, tw_U, tw_U]) (st1 := [.int (-2)]) (σ1 := σ) rfl ?_
    refine tw_ri rfl (rfl) ?_
    exact ⟨rfl, hI⟩
end tw_s34
