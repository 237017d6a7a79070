/-! mirrors, period -/
section tw_s33
variable {L : Nat} {xs : Nat → Int32} {σ : tw_Mem} {x y w : Int32} {n r i c k h q a b e : Nat}
theorem tw_bl_and {A B : Prop} : tw_bl A &&& tw_bl B = tw_bl (A ∧ B) := by
  by_cases ha : A <;> by_cases hb : B
  · rw [tw_blT ha, tw_blT hb, tw_blT ⟨ha, hb⟩]; decide
  · rw [tw_blT ha, tw_blF hb, tw_blF (fun q => hb q.2)]; decide
  · rw [tw_blF ha, tw_blT hb, tw_blF (fun q => ha q.1)]; decide
  · rw [tw_blF ha, tw_blF hb, tw_blF (fun q => ha q.1)]; decide
noncomputable def tw_gAnd (P : Nat → Prop) : Nat → Int32 → Int32 := fun j a => a &&& tw_bl (P j)
theorem tw_fo_and {P : Nat → Prop} : ∀ (f i : Nat) (R : Prop), tw_fo (tw_gAnd P) i f (tw_bl R) = tw_bl (R ∧ ∀ j, i ≤ j → j < i + f → P j)
  | 0, i, R => tw_bl_cg ⟨fun h => ⟨h, fun j h1 h2 => by omega⟩, fun h => h.1⟩
  | f + 1, i, R => by
    rw [tw_fo, show tw_gAnd P i (tw_bl R) = tw_bl (R ∧ P i) from tw_bl_and, tw_fo_and f (i + 1)]
    refine tw_bl_cg ⟨fun h => ⟨h.1.1, fun j h1 h2 => ?_⟩, fun h => ⟨⟨h.1, h.2 i (by omega) (by omega)⟩, fun j h1 h2 => h.2 j (by omega) (by omega)⟩⟩
    by_cases hj : j = i
    · rw [hj]; exact h.1.2
    · exact h.2 j (by omega) (by omega)
theorem tw_fo_and1 {P : Nat → Prop} {R : Prop} {n : Nat} (h : (∀ j, j < n → P j) ↔ R) : tw_fo (tw_gAnd P) 0 n (nI 1) = tw_bl R := by
  have e := tw_fo_and (P := P) n 0 True
  rw [tw_blT trivial] at e
  rw [e]
  exact tw_bl_cg ⟨fun q => h.mp (fun j hj => q.2 j (by omega) (by omega)), fun q => ⟨trivial, fun j _ h2 => h.mpr q j (by omega)⟩⟩
theorem tw_fo_add {α : Type} {g : Nat → α → α} : ∀ (f1 i f2 : Nat) (a : α), tw_fo g i (f1 + f2) a = tw_fo g (i + f1) f2 (tw_fo g i f1 a)
  | 0, i, f2, a => by rw [Nat.zero_add]; rfl
  | f1 + 1, i, f2, a => by
    rw [show f1 + 1 + f2 = (f1 + f2) + 1 by omega, tw_fo, tw_fo, tw_fo_add f1 (i + 1) f2, show i + 1 + f1 = i + (f1 + 1) by omega]
theorem tw_fo_sh {α : Type} {g : Nat → α → α} {k : Nat} : ∀ (f i : Nat) (a : α), tw_fo (fun h => g (k + h)) i f a = tw_fo g (k + i) f a
  | 0, _, _ => rfl
  | f + 1, i, a => by rw [tw_fo, tw_fo, tw_fo_sh f (i + 1)]; rfl
set_option maxHeartbeats 4000000 in
set_option maxRecDepth 100000 in
theorem tw_l_isMir {L : Nat} {σ : tw_Mem} {xs : Nat → Int32} {r n : Nat} (hr9 : σ 9 3 = nI r) (hw9 : σ 9 4 = nI n) (h50 : r ≤ 50) (h10 : n ≤ 10) {w : Nat → Int32} (hF : tw_isF σ 0 r n w) {i : Nat} (hi : i < r) {Q : Option Value → tw_Mem → Prop} (hR : Q (some (.int (tw_bl (tw_mir w n i)))) σ) : ∀ (f : Nat) (c : Nat), c + f = n → (∀ q, q < c → w (10 * i + q) = w (10 * i + (n - 1 - q))) → tw_P L xs 3 35 2 [.ref 9, .int (nI i), .int (nI c)] [] σ Q := by
  intro f
  induction f with
  | zero =>
    intro c hf hQ
    refine tw_sgn 3 (i1 := 5) (ls0 := [.ref 9, .int (nI i), .int (nI c)]) (st0 := [.int (σ 9 4), .int (nI c)]) (σ0 := σ) (ls1 := [.ref 9, .int (nI i), .int (nI c)]) (st1 := [.int (nI n), .int (nI c)]) (σ1 := σ) rfl (rfl) (by simp only [hw9, tw_nadd, tw_nmul]) (rfl) ?_
    refine tw_biT (c := .ge) rfl (by rw [tw_cge, tw_nle (by omega) (by omega)] <;> omega) ?_
    show tw_P L xs _ 35 26 [.ref 9, .int (nI i), .int (nI c)] [] σ _
    refine tw_sg 1 (i1 := 27) (ls1 := [.ref 9, .int (nI i), .int (nI c)]) (st1 := [.int (nI 1)]) (σ1 := σ) rfl ?_
    refine tw_ri rfl (rfl) ?_
    rw [show nI 1 = tw_bl (tw_mir w n i) from (tw_blT (fun q hq => hQ q (by omega))).symm]
    exact hR
  | succ f ih =>
    intro c hf hQ
    refine tw_sgn 3 (i1 := 5) (ls0 := [.ref 9, .int (nI i), .int (nI c)]) (st0 := [.int (σ 9 4), .int (nI c)]) (σ0 := σ) (ls1 := [.ref 9, .int (nI i), .int (nI c)]) (st1 := [.int (nI n), .int (nI c)]) (σ1 := σ) rfl (rfl) (by simp only [hw9, tw_nadd, tw_nmul]) (rfl) ?_
    refine tw_biF (c := .ge) rfl (by rw [tw_cge', tw_nle (by omega) (by omega)] <;> omega) ?_
    show tw_P L xs _ 35 6 [.ref 9, .int (nI i), .int (nI c)] [] σ _
    refine tw_sg 4 (i1 := 10) (ls1 := [.ref 9, .int (nI i), .int (nI c)]) (st1 := [.int (nI 0), .int (nI c), .int (nI i), .ref 9]) (σ1 := σ) rfl ?_
    refine tw_cl1 rfl (rfl) (by decide) (tw_e_cellW hr9 hw9 h50 h10 hF (by decide) (by omega) (by omega)) ?_
    rintro _ _ ⟨rfl, rfl⟩
    show tw_P L xs _ 35 11 [.ref 9, .int (nI i), .int (nI c)] [.int (w (10 * i + c))] σ _
    refine tw_sgn 9 (i1 := 20) (ls0 := [.ref 9, .int (nI i), .int (nI c)]) (st0 := [.int (nI 0), .int (((σ 9 4) - nI 1) - nI c), .int (nI i), .ref 9, .int (w (10 * i + c))]) (σ0 := σ) (ls1 := [.ref 9, .int (nI i), .int (nI c)]) (st1 := [.int (nI 0), .int (nI (n - 1 - c)), .int (nI i), .ref 9, .int (w (10 * i + c))]) (σ1 := σ) rfl (rfl) (by simp only [hw9, tw_nsub (show 1 ≤ n by omega), tw_nsub (show c ≤ n - 1 by omega), tw_nadd, tw_nmul]) (rfl) ?_
    refine tw_cl1 rfl (rfl) (by decide) (tw_e_cellW hr9 hw9 h50 h10 hF (by decide) (by omega) (by omega)) ?_
    rintro _ _ ⟨rfl, rfl⟩
    show tw_P L xs _ 35 21 [.ref 9, .int (nI i), .int (nI c)] [.int (w (10 * i + (n - 1 - c))), .int (w (10 * i + c))] σ _
    refine tw_bi (c := .eq) rfl (fun h1 => ?_) (fun h1 => ?_)
    · rw [tw_ceq] at h1
      refine tw_sgn 2 (i1 := 2) (ls0 := [.ref 9, .int (nI i), .int (nI c + nI 1)]) (st0 := []) (σ0 := σ) (ls1 := [.ref 9, .int (nI i), .int (nI (c + 1))]) (st1 := []) (σ1 := σ) rfl (by simp only [tw_nadd, tw_nmul]) (rfl) (rfl) ?_
      refine ih (c + 1) (by omega) (fun q hq => ?_)
      by_cases hz : q = c
      · rw [hz]; exact h1
      · exact hQ q (by omega)
    · rw [tw_ceq'] at h1
      refine tw_sg 1 (i1 := 23) (ls1 := [.ref 9, .int (nI i), .int (nI c)]) (st1 := [.int (nI 0)]) (σ1 := σ) rfl ?_
      refine tw_ri rfl (rfl) ?_
      rw [show nI 0 = tw_bl (tw_mir w n i) from (tw_blF (fun q => h1 (q c (by omega)))).symm]
      exact hR
set_option maxHeartbeats 4000000 in
set_option maxRecDepth 100000 in
theorem tw_e_isMir {r n : Nat} (hr9 : σ 9 3 = nI r) (hw9 : σ 9 4 = nI n) (h50 : r ≤ 50) (h10 : n ≤ 10) {w : Nat → Int32} (hF : tw_isF σ 0 r n w) {i : Nat} (hi : i < r) : tw_E L xs 3 35 [.ref 9, .int (nI i)] σ (fun v σ1 => v = some (.int (tw_bl (tw_mir w n i))) ∧ σ = σ1) := by
  show tw_P L xs _ 35 0 [.ref 9, .int (nI i), tw_U] [] σ _
  refine tw_sg 2 (i1 := 2) (ls1 := [.ref 9, .int (nI i), .int (nI 0)]) (st1 := []) (σ1 := σ) rfl ?_
  exact tw_l_isMir hr9 hw9 h50 h10 hF hi ⟨rfl, rfl⟩ n 0 (by omega) (fun q hq => by omega)
set_option maxHeartbeats 4000000 in
set_option maxRecDepth 100000 in
theorem tw_l_mirs {L : Nat} {xs : Nat → Int32} {Q : Option Value → tw_Mem → Prop} {σ : tw_Mem} {r n : Nat} (hr9 : σ 9 3 = nI r) (hw9 : σ 9 4 = nI n) (h50 : r ≤ 50) (h10 : n ≤ 10) {w : Nat → Int32} (hF : tw_isF σ 0 r n w) : ∀ (f i : Nat) (a : Int32), i + f = r → tw_P L xs 4 34 15 [.ref 9, .int (tw_fo (tw_gMi w n) i f a), .int (nI r)] [] σ Q → tw_P L xs 4 34 4 [.ref 9, .int a, .int (nI i)] [] σ Q := by
  intro f
  induction f with
  | zero =>
    intro i a  hf hQ
    have hf : r = i := Eq.symm hf
    subst hf
    refine tw_sgn 3 (i1 := 7) (ls0 := [.ref 9, .int a, .int (nI r)]) (st0 := [.int (σ 9 3), .int (nI r)]) (σ0 := σ) (ls1 := [.ref 9, .int a, .int (nI r)]) (st1 := [.int (nI r), .int (nI r)]) (σ1 := σ) rfl (rfl) (by simp only [hr9, tw_nadd, tw_nmul]) (rfl) ?_
    refine tw_biT (c := .ge) rfl (by rw [tw_cge, tw_nle (by omega) (by omega)] <;> omega) ?_
    show tw_P L xs _ 34 15 [.ref 9, .int a, .int (nI r)] [] σ _
    exact hQ
  | succ f ih =>
    intro i a  hf hQ
    refine tw_sgn 3 (i1 := 7) (ls0 := [.ref 9, .int a, .int (nI i)]) (st0 := [.int (σ 9 3), .int (nI i)]) (σ0 := σ) (ls1 := [.ref 9, .int a, .int (nI i)]) (st1 := [.int (nI r), .int (nI i)]) (σ1 := σ) rfl (rfl) (by simp only [hr9, tw_nadd, tw_nmul]) (rfl) ?_
    refine tw_biF (c := .ge) rfl (by rw [tw_cge', tw_nle (by omega) (by omega)] <;> omega) ?_
    show tw_P L xs _ 34 8 [.ref 9, .int a, .int (nI i)] [] σ _
    refine tw_sg 2 (i1 := 10) (ls1 := [.ref 9, .int a, .int (nI i)]) (st1 := [.int (nI i), .ref 9]) (σ1 := σ) rfl ?_
    refine tw_cl1 rfl (rfl) (by decide) (tw_e_isMir hr9 hw9 h50 h10 hF (by omega)) ?_
    rintro _ _ ⟨rfl, rfl⟩
    show tw_P L xs _ 34 11 [.ref 9, .int a, .int (nI i)] [.int (tw_bl (tw_mir w n i))] σ _
    refine tw_bz (c := .eq) rfl (fun h1 => ?_) (fun h1 => ?_)
    · rw [tw_ceq] at h1
      refine tw_sgn 2 (i1 := 4) (ls0 := [.ref 9, .int a, .int (nI i + nI 1)]) (st0 := []) (σ0 := σ) (ls1 := [.ref 9, .int a, .int (nI (i + 1))]) (st1 := []) (σ1 := σ) rfl (by simp only [tw_nadd, tw_nmul]) (rfl) (rfl) ?_
      have e : (tw_gMi w n) i a = a := by
        unfold tw_gMi
        first | rw [if_neg (tw_bl0 (by assumption))] | rw [if_pos (tw_bl1 (by assumption))]
      rw [tw_fo, e] at hQ
      exact ih (i + 1) _ (by omega) hQ
    · rw [tw_ceq'] at h1
      refine tw_sgn 3 (i1 := 4) (ls0 := [.ref 9, .int (a + nI 1), .int (nI i + nI 1)]) (st0 := []) (σ0 := σ) (ls1 := [.ref 9, .int (a + nI 1), .int (nI (i + 1))]) (st1 := []) (σ1 := σ) rfl (by simp only [tw_nadd, tw_nmul]) (rfl) (rfl) ?_
      have e : (tw_gMi w n) i a = a + nI 1 := by
        unfold tw_gMi
        first | rw [if_neg (tw_bl0 (by assumption))] | rw [if_pos (tw_bl1 (by assumption))]
      rw [tw_fo, e] at hQ
      exact ih (i + 1) _ (by omega) hQ
set_option maxHeartbeats 4000000 in
set_option maxRecDepth 100000 in
theorem tw_e_mirs {r n : Nat} (hr9 : σ 9 3 = nI r) (hw9 : σ 9 4 = nI n) (h50 : r ≤ 50) (h10 : n ≤ 10) {w : Nat → Int32} (hF : tw_isF σ 0 r n w) : tw_E L xs 4 34 [.ref 9] σ (fun v σ1 => v = some (.int (tw_fo (tw_gMi w n) 0 r (nI 0))) ∧ σ = σ1) := by
  show tw_P L xs _ 34 0 [.ref 9, tw_U, tw_U] [] σ _
  refine tw_sg 4 (i1 := 4) (ls1 := [.ref 9, .int (nI 0), .int (nI 0)]) (st1 := []) (σ1 := σ) rfl ?_
  refine tw_l_mirs hr9 hw9 h50 h10 hF r 0 _ (by omega) ?_
  refine tw_sg 1 (i1 := 16) (ls1 := _) (st1 := [.int (tw_fo (tw_gMi w n) 0 r (nI 0))]) (σ1 := σ) rfl ?_
  exact tw_ri rfl rfl ⟨rfl, rfl⟩
set_option maxHeartbeats 4000000 in
set_option maxRecDepth 100000 in
theorem tw_l_mmir1 {L : Nat} {xs : Nat → Int32} {Q : Option Value → tw_Mem → Prop} {σ : tw_Mem} {r n : Nat} (hn89 : σ 89 0 = nI n) (hr90 : σ 90 0 = nI r) (h50 : r ≤ 50) (h10 : n ≤ 10) {i : Nat} {b : Int32} (hi : i < r) : ∀ (f c : Nat) (a : Int32), c + f = n → tw_P L xs 0 239 52 [.ref 88, .int b, .int (nI i), .int (tw_fo (tw_gAnd (fun c => σ 95 (10 * i + c) = σ 95 (10 * i + (n - 1 - c)))) c f a), .int (nI n)] [] σ Q → tw_P L xs 0 239 14 [.ref 88, .int b, .int (nI i), .int a, .int (nI c)] [] σ Q := by
  intro f
  induction f with
  | zero =>
    intro c a  hf hQ
    have hf : n = c := Eq.symm hf
    subst hf
    refine tw_sg 4 (i1 := 18) (ls1 := [.ref 88, .int b, .int (nI i), .int a, .int (nI n)]) (st1 := [.int (nI 0), .ref 89, .int (nI n)]) (σ1 := σ) rfl ?_
    refine tw_al (k := 89) (j := 0) (len := 2) rfl rfl rfl rfl (rfl) (by omega) (by decide) ?_
    rw [hn89]
    refine tw_biT (c := .ge) rfl (by rw [tw_cge, tw_nle (by omega) (by omega)] <;> omega) ?_
    show tw_P L xs _ 239 52 [.ref 88, .int b, .int (nI i), .int a, .int (nI n)] [] σ _
    exact hQ
  | succ f ih =>
    intro c a  hf hQ
    refine tw_sg 4 (i1 := 18) (ls1 := [.ref 88, .int b, .int (nI i), .int a, .int (nI c)]) (st1 := [.int (nI 0), .ref 89, .int (nI c)]) (σ1 := σ) rfl ?_
    refine tw_al (k := 89) (j := 0) (len := 2) rfl rfl rfl rfl (rfl) (by omega) (by decide) ?_
    rw [hn89]
    refine tw_biF (c := .ge) rfl (by rw [tw_cge', tw_nle (by omega) (by omega)] <;> omega) ?_
    show tw_P L xs _ 239 20 [.ref 88, .int b, .int (nI i), .int a, .int (nI c)] [] σ _
    refine tw_sgn 8 (i1 := 28) (ls0 := [.ref 88, .int b, .int (nI i), .int a, .int (nI c)]) (st0 := [.int ((nI 10 * nI i) + nI c), .ref 95, .int a]) (σ0 := σ) (ls1 := [.ref 88, .int b, .int (nI i), .int a, .int (nI c)]) (st1 := [.int (nI ((10 * i) + c)), .ref 95, .int a]) (σ1 := σ) rfl (rfl) (by simp only [tw_nadd, tw_nmul]) (rfl) ?_
    refine tw_al (k := 95) (j := ((10 * i) + c)) (len := 1000) rfl rfl rfl rfl (rfl) (by omega) (by decide) ?_
    refine tw_sgn 8 (i1 := 37) (ls0 := [.ref 88, .int b, .int (nI i), .int a, .int (nI c)]) (st0 := [.int (nI 0), .ref 89, .int (nI 10 * nI i), .ref 95, .int (σ 95 ((10 * i) + c)), .int a]) (σ0 := σ) (ls1 := [.ref 88, .int b, .int (nI i), .int a, .int (nI c)]) (st1 := [.int (nI 0), .ref 89, .int (nI (10 * i)), .ref 95, .int (σ 95 ((10 * i) + c)), .int a]) (σ1 := σ) rfl (rfl) (by simp only [tw_nadd, tw_nmul]) (rfl) ?_
    refine tw_al (k := 89) (j := 0) (len := 2) rfl rfl rfl rfl (rfl) (by omega) (by decide) ?_
    rw [hn89]
    refine tw_sgn 5 (i1 := 43) (ls0 := [.ref 88, .int b, .int (nI i), .int a, .int (nI c)]) (st0 := [.int (((nI (10 * i) + nI n) - nI 1) - nI c), .ref 95, .int (σ 95 ((10 * i) + c)), .int a]) (σ0 := σ) (ls1 := [.ref 88, .int b, .int (nI i), .int a, .int (nI c)]) (st1 := [.int (nI (10 * i + n - 1 - c)), .ref 95, .int (σ 95 ((10 * i) + c)), .int a]) (σ1 := σ) rfl (rfl) (by simp only [tw_nsub (show 1 ≤ 10 * i + n by omega), tw_nsub (show c ≤ 10 * i + n - 1 by omega), tw_nadd, tw_nmul]) (rfl) ?_
    refine tw_al (k := 95) (j := (10 * i + (n - 1 - c))) (len := 1000) rfl rfl rfl rfl (congrArg nI (by omega)) (by omega) (by decide) ?_
    refine tw_bi (c := .ne) rfl (fun h1 => ?_) (fun h1 => ?_)
    · rw [tw_cne] at h1
      refine tw_sgn 5 (i1 := 14) (ls0 := [.ref 88, .int b, .int (nI i), .int (a &&& nI 0), .int (nI c + nI 1)]) (st0 := []) (σ0 := σ) (ls1 := [.ref 88, .int b, .int (nI i), .int (a &&& nI 0), .int (nI (c + 1))]) (st1 := []) (σ1 := σ) rfl (by simp only [tw_nadd, tw_nmul]) (rfl) (rfl) ?_
      have e : (tw_gAnd (fun c => σ 95 (10 * i + c) = σ 95 (10 * i + (n - 1 - c)))) c a = a &&& nI 0 := by
        unfold tw_gAnd
        first | rw [tw_blT (by assumption)] | rw [tw_blF (by assumption)]
      rw [tw_fo, e] at hQ
      exact ih (c + 1) _ (by omega) hQ
    · rw [tw_cne'] at h1
      refine tw_sgn 6 (i1 := 14) (ls0 := [.ref 88, .int b, .int (nI i), .int (a &&& nI 1), .int (nI c + nI 1)]) (st0 := []) (σ0 := σ) (ls1 := [.ref 88, .int b, .int (nI i), .int (a &&& nI 1), .int (nI (c + 1))]) (st1 := []) (σ1 := σ) rfl (by simp only [tw_nadd, tw_nmul]) (rfl) (rfl) ?_
      have e : (tw_gAnd (fun c => σ 95 (10 * i + c) = σ 95 (10 * i + (n - 1 - c)))) c a = a &&& nI 1 := by
        unfold tw_gAnd
        first | rw [tw_blT (by assumption)] | rw [tw_blF (by assumption)]
      rw [tw_fo, e] at hQ
      exact ih (c + 1) _ (by omega) hQ
set_option maxHeartbeats 4000000 in
set_option maxRecDepth 100000 in
theorem tw_l_mmirs {L : Nat} {xs : Nat → Int32} {Q : Option Value → tw_Mem → Prop} {σ : tw_Mem} {r n : Nat} (hn89 : σ 89 0 = nI n) (hr90 : σ 90 0 = nI r) (h50 : r ≤ 50) (h10 : n ≤ 10) : ∀ (f i : Nat) (a : Int32) (u u1 : Value), i + f = r → (∀ (u u1 : Value), tw_P L xs 0 239 57 [.ref 88, .int (tw_fo (tw_gMi (σ 95) n) i f a), .int (nI r), u, u1] [] σ Q) → tw_P L xs 0 239 4 [.ref 88, .int a, .int (nI i), u, u1] [] σ Q := by
  intro f
  induction f with
  | zero =>
    intro i a u u1 hf hQ
    have hf : r = i := Eq.symm hf
    subst hf
    refine tw_sg 4 (i1 := 8) (ls1 := [.ref 88, .int a, .int (nI r), u, u1]) (st1 := [.int (nI 0), .ref 90, .int (nI r)]) (σ1 := σ) rfl ?_
    refine tw_al (k := 90) (j := 0) (len := 2) rfl rfl rfl rfl (rfl) (by omega) (by decide) ?_
    rw [hr90]
    refine tw_biT (c := .ge) rfl (by rw [tw_cge, tw_nle (by omega) (by omega)] <;> omega) ?_
    show tw_P L xs _ 239 57 [.ref 88, .int a, .int (nI r), u, u1] [] σ _
    exact hQ _ _
  | succ f ih =>
    intro i a u u1 hf hQ
    refine tw_sg 4 (i1 := 8) (ls1 := [.ref 88, .int a, .int (nI i), u, u1]) (st1 := [.int (nI 0), .ref 90, .int (nI i)]) (σ1 := σ) rfl ?_
    refine tw_al (k := 90) (j := 0) (len := 2) rfl rfl rfl rfl (rfl) (by omega) (by decide) ?_
    rw [hr90]
    refine tw_biF (c := .ge) rfl (by rw [tw_cge', tw_nle (by omega) (by omega)] <;> omega) ?_
    show tw_P L xs _ 239 10 [.ref 88, .int a, .int (nI i), u, u1] [] σ _
    refine tw_sg 4 (i1 := 14) (ls1 := [.ref 88, .int a, .int (nI i), .int (nI 1), .int (nI 0)]) (st1 := []) (σ1 := σ) rfl ?_
    refine tw_l_mmir1 hn89 hr90 h50 h10 (by omega) n 0 _ (by omega) ?_
    rw [tw_fo_and1 (R := tw_mir (σ 95) n i) Iff.rfl]
    show tw_P L xs _ 239 52 [.ref 88, .int a, .int (nI i), .int (tw_bl (tw_mir (σ 95) n i)), .int (nI n)] [] σ _
    refine tw_sg 1 (i1 := 53) (ls1 := [.ref 88, .int a, .int (nI i), .int (tw_bl (tw_mir (σ 95) n i)), .int (nI n)]) (st1 := [.int (tw_bl (tw_mir (σ 95) n i))]) (σ1 := σ) rfl ?_
    refine tw_bz (c := .eq) rfl (fun h21 => ?_) (fun h21 => ?_)
    · rw [tw_ceq] at h21
      refine tw_sgn 2 (i1 := 4) (ls0 := [.ref 88, .int a, .int (nI i + nI 1), .int (tw_bl (tw_mir (σ 95) n i)), .int (nI n)]) (st0 := []) (σ0 := σ) (ls1 := [.ref 88, .int a, .int (nI (i + 1)), .int (tw_bl (tw_mir (σ 95) n i)), .int (nI n)]) (st1 := []) (σ1 := σ) rfl (by simp only [tw_nadd, tw_nmul]) (rfl) (rfl) ?_
      have e : (tw_gMi (σ 95) n) i a = a := by
        unfold tw_gMi
        first | rw [if_neg (tw_bl0 (by assumption))] | rw [if_pos (tw_bl1 (by assumption))]
      rw [tw_fo, e] at hQ
      exact ih (i + 1) _ _ _ (by omega) hQ
    · rw [tw_ceq'] at h21
      refine tw_sgn 3 (i1 := 4) (ls0 := [.ref 88, .int (a + nI 1), .int (nI i + nI 1), .int (tw_bl (tw_mir (σ 95) n i)), .int (nI n)]) (st0 := []) (σ0 := σ) (ls1 := [.ref 88, .int (a + nI 1), .int (nI (i + 1)), .int (tw_bl (tw_mir (σ 95) n i)), .int (nI n)]) (st1 := []) (σ1 := σ) rfl (by simp only [tw_nadd, tw_nmul]) (rfl) (rfl) ?_
      have e : (tw_gMi (σ 95) n) i a = a + nI 1 := by
        unfold tw_gMi
        first | rw [if_neg (tw_bl0 (by assumption))] | rw [if_pos (tw_bl1 (by assumption))]
      rw [tw_fo, e] at hQ
      exact ih (i + 1) _ _ _ (by omega) hQ
set_option maxHeartbeats 4000000 in
set_option maxRecDepth 100000 in
theorem tw_o_mirrors {L : Nat} {xs : Nat → Int32} : tw_op L xs 161 239 [] := by
  intro σ hI
  obtain ⟨⟨n, r, hL⟩, hT, hPp, hPc, hLs, hIm, hC14, hC46, hC72⟩ := id hI
  obtain ⟨⟨hn10, hr50⟩, ⟨hn6, hn89⟩, ⟨hr9, hw9, hr90⟩, hCa, hRo, hLa⟩ := hL
  have hn6 : σ 6 4 = nI n := hn6
  have hn89 : σ 89 0 = nI n := hn89
  have hr9 : σ 9 3 = nI r := hr9
  have hw9 : σ 9 4 = nI n := hw9
  have hr90 : σ 90 0 = nI r := hr90
  show tw_P L xs _ 161 0 [.ref 1] [] σ _
  refine tw_sg 2 (i1 := 2) (ls1 := [.ref 1]) (st1 := [.ref 6]) (σ1 := σ) rfl ?_
  refine tw_cl0 59 rfl (rfl) (by decide) ?_
  show tw_P L xs _ 83 0 [.ref 6] [] σ _
  refine tw_sg 2 (i1 := 2) (ls1 := [.ref 6]) (st1 := [.ref 9]) (σ1 := σ) rfl ?_
  refine tw_ra rfl ?_
  show tw_P L xs _ 161 3 [.ref 1] [.ref 9] σ _
  refine tw_cl1 rfl (rfl) (by decide) (tw_e_mirs hr9 hw9 hr50 hn10 (tw_isF0 hRo)) ?_
  rintro _ _ ⟨rfl, rfl⟩
  show tw_P L xs _ 161 4 [.ref 1] [.int (tw_fo (tw_gMi (σ 95) n) 0 r (nI 0))] σ _
  refine tw_ri rfl (rfl) ?_
  refine ⟨_, rfl, ?_⟩
  show tw_P L xs _ 239 0 [.ref 88, tw_U, tw_U, tw_U, tw_U] [] σ _
  refine tw_sg 4 (i1 := 4) (ls1 := [.ref 88, .int (nI 0), .int (nI 0), tw_U, tw_U]) (st1 := []) (σ1 := σ) rfl ?_
  refine tw_P_le (d := 0) (tw_l_mmirs hn89 hr90 hr50 hn10 r 0 _ _ _ (by omega) (fun u u1 => ?_)) (by decide)
  refine tw_sg 1 (i1 := 58) (ls1 := _) (st1 := [.int (tw_fo (tw_gMi (σ 95) n) 0 r (nI 0))]) (σ1 := σ) rfl ?_
  exact tw_ri rfl rfl ⟨rfl, hI⟩
set_option maxHeartbeats 4000000 in
set_option maxRecDepth 100000 in
theorem tw_l_rep {L : Nat} {σ : tw_Mem} {xs : Nat → Int32} {r n : Nat} (hr9 : σ 9 3 = nI r) (hw9 : σ 9 4 = nI n) (h50 : r ≤ 50) (h10 : n ≤ 10) {w : Nat → Int32} (hF : tw_isF σ 0 r n w) {p : Nat} (hp : p < r) {Q : Option Value → tw_Mem → Prop} (hR : Q (some (.int (tw_bl (tw_per w n r p)))) σ) : ∀ (f : Nat) (j : Nat), j + f = r - p → (∀ q, q < j → tw_alk w n p q) → tw_P L xs 4 33 2 [.ref 9, .int (nI p), .int (nI j)] [] σ Q := by
  intro f
  induction f with
  | zero =>
    intro j hf hQ
    refine tw_sgn 5 (i1 := 7) (ls0 := [.ref 9, .int (nI p), .int (nI j)]) (st0 := [.int (σ 9 3), .int (nI j + nI p)]) (σ0 := σ) (ls1 := [.ref 9, .int (nI p), .int (nI j)]) (st1 := [.int (nI r), .int (nI (j + p))]) (σ1 := σ) rfl (rfl) (by simp only [hr9, tw_nadd, tw_nmul]) (rfl) ?_
    refine tw_biT (c := .ge) rfl (by rw [tw_cge, tw_nle (by omega) (by omega)] <;> omega) ?_
    show tw_P L xs _ 33 21 [.ref 9, .int (nI p), .int (nI j)] [] σ _
    refine tw_sg 1 (i1 := 22) (ls1 := [.ref 9, .int (nI p), .int (nI j)]) (st1 := [.int (nI 1)]) (σ1 := σ) rfl ?_
    refine tw_ri rfl (rfl) ?_
    rw [show nI 1 = tw_bl (tw_per w n r p) from (tw_blT (fun q hq => hQ q (by omega))).symm]
    exact hR
  | succ f ih =>
    intro j hf hQ
    refine tw_sgn 5 (i1 := 7) (ls0 := [.ref 9, .int (nI p), .int (nI j)]) (st0 := [.int (σ 9 3), .int (nI j + nI p)]) (σ0 := σ) (ls1 := [.ref 9, .int (nI p), .int (nI j)]) (st1 := [.int (nI r), .int (nI (j + p))]) (σ1 := σ) rfl (rfl) (by simp only [hr9, tw_nadd, tw_nmul]) (rfl) ?_
    refine tw_biF (c := .ge) rfl (by rw [tw_cge', tw_nle (by omega) (by omega)] <;> omega) ?_
    show tw_P L xs _ 33 8 [.ref 9, .int (nI p), .int (nI j)] [] σ _
    refine tw_sgn 5 (i1 := 13) (ls0 := [.ref 9, .int (nI p), .int (nI j)]) (st0 := [.int (nI j + nI p), .int (nI j), .ref 9]) (σ0 := σ) (ls1 := [.ref 9, .int (nI p), .int (nI j)]) (st1 := [.int (nI (j + p)), .int (nI j), .ref 9]) (σ1 := σ) rfl (rfl) (by simp only [tw_nadd, tw_nmul]) (rfl) ?_
    refine tw_cl1 rfl (rfl) (by decide) (tw_e_sameF hr9 hw9 h50 h10 hF (i := j) (k := j + p) (by omega) (by omega)) ?_
    rintro _ _ ⟨rfl, rfl⟩
    show tw_P L xs _ 33 14 [.ref 9, .int (nI p), .int (nI j)] [.int (tw_fo (tw_gEq w w j (j + p)) 0 n (nI 0))] σ _
    refine tw_sgn 2 (i1 := 16) (ls0 := [.ref 9, .int (nI p), .int (nI j)]) (st0 := [.int (σ 9 4), .int (tw_fo (tw_gEq w w j (j + p)) 0 n (nI 0))]) (σ0 := σ) (ls1 := [.ref 9, .int (nI p), .int (nI j)]) (st1 := [.int (nI n), .int (tw_fo (tw_gEq w w j (j + p)) 0 n (nI 0))]) (σ1 := σ) rfl (rfl) (by simp only [hw9, tw_nadd, tw_nmul]) (rfl) ?_
    refine tw_bi (c := .eq) rfl (fun h1 => ?_) (fun h1 => ?_)
    · rw [tw_ceq] at h1
      refine tw_sgn 2 (i1 := 2) (ls0 := [.ref 9, .int (nI p), .int (nI j + nI 1)]) (st0 := []) (σ0 := σ) (ls1 := [.ref 9, .int (nI p), .int (nI (j + 1))]) (st1 := []) (σ1 := σ) rfl (by simp only [tw_nadd, tw_nmul]) (rfl) (rfl) ?_
      refine ih (j + 1) (by omega) (fun q hq => ?_)
      by_cases hz : q = j
      · rw [hz]; exact h1
      · exact hQ q (by omega)
    · rw [tw_ceq'] at h1
      refine tw_sg 1 (i1 := 18) (ls1 := [.ref 9, .int (nI p), .int (nI j)]) (st1 := [.int (nI 0)]) (σ1 := σ) rfl ?_
      refine tw_ri rfl (rfl) ?_
      rw [show nI 0 = tw_bl (tw_per w n r p) from (tw_blF (fun q => h1 (q j (by omega)))).symm]
      exact hR
set_option maxHeartbeats 4000000 in
set_option maxRecDepth 100000 in
theorem tw_e_rep {r n : Nat} (hr9 : σ 9 3 = nI r) (hw9 : σ 9 4 = nI n) (h50 : r ≤ 50) (h10 : n ≤ 10) {w : Nat → Int32} (hF : tw_isF σ 0 r n w) {p : Nat} (hp : p < r) : tw_E L xs 4 33 [.ref 9, .int (nI p)] σ (fun v σ1 => v = some (.int (tw_bl (tw_per w n r p))) ∧ σ = σ1) := by
  show tw_P L xs _ 33 0 [.ref 9, .int (nI p), tw_U] [] σ _
  refine tw_sg 2 (i1 := 2) (ls1 := [.ref 9, .int (nI p), .int (nI 0)]) (st1 := []) (σ1 := σ) rfl ?_
  exact tw_l_rep hr9 hw9 h50 h10 hF hp ⟨rfl, rfl⟩ (r - p) 0 (by omega) (fun q hq => by omega)
set_option maxHeartbeats 4000000 in
set_option maxRecDepth 100000 in
theorem tw_l_least {L : Nat} {xs : Nat → Int32} {Q : Option Value → tw_Mem → Prop} {σ : tw_Mem} {r n : Nat} (hr9 : σ 9 3 = nI r) (hw9 : σ 9 4 = nI n) (h50 : r ≤ 50) (h10 : n ≤ 10) {w : Nat → Int32} (hF : tw_isF σ 0 r n w) : ∀ (f p : Nat), p + f = r → Q (some (.int (tw_fd (tw_per w n r) p f (-5)))) σ → tw_P L xs 5 32 2 [.ref 9, .int (nI p)] [] σ Q := by
  intro f
  induction f with
  | zero =>
    intro p  hf hQ
    have hf : r = p := Eq.symm hf
    subst hf
    refine tw_sgn 3 (i1 := 5) (ls0 := [.ref 9, .int (nI r)]) (st0 := [.int (σ 9 3), .int (nI r)]) (σ0 := σ) (ls1 := [.ref 9, .int (nI r)]) (st1 := [.int (nI r), .int (nI r)]) (σ1 := σ) rfl (rfl) (by simp only [hr9, tw_nadd, tw_nmul]) (rfl) ?_
    refine tw_biT (c := .ge) rfl (by rw [tw_cge, tw_nle (by omega) (by omega)] <;> omega) ?_
    show tw_P L xs _ 32 14 [.ref 9, .int (nI r)] [] σ _
    refine tw_sg 1 (i1 := 15) (ls1 := [.ref 9, .int (nI r)]) (st1 := [.int (-5)]) (σ1 := σ) rfl ?_
    refine tw_ri rfl (rfl) ?_
    exact hQ
  | succ f ih =>
    intro p  hf hQ
    refine tw_sgn 3 (i1 := 5) (ls0 := [.ref 9, .int (nI p)]) (st0 := [.int (σ 9 3), .int (nI p)]) (σ0 := σ) (ls1 := [.ref 9, .int (nI p)]) (st1 := [.int (nI r), .int (nI p)]) (σ1 := σ) rfl (rfl) (by simp only [hr9, tw_nadd, tw_nmul]) (rfl) ?_
    refine tw_biF (c := .ge) rfl (by rw [tw_cge', tw_nle (by omega) (by omega)] <;> omega) ?_
    show tw_P L xs _ 32 6 [.ref 9, .int (nI p)] [] σ _
    refine tw_sg 2 (i1 := 8) (ls1 := [.ref 9, .int (nI p)]) (st1 := [.int (nI p), .ref 9]) (σ1 := σ) rfl ?_
    refine tw_cl1 rfl (rfl) (by decide) (tw_e_rep hr9 hw9 h50 h10 hF (by omega)) ?_
    rintro _ _ ⟨rfl, rfl⟩
    show tw_P L xs _ 32 9 [.ref 9, .int (nI p)] [.int (tw_bl (tw_per w n r p))] σ _
    refine tw_bz (c := .eq) rfl (fun h1 => ?_) (fun h1 => ?_)
    · rw [tw_ceq] at h1
      refine tw_sgn 2 (i1 := 2) (ls0 := [.ref 9, .int (nI p + nI 1)]) (st0 := []) (σ0 := σ) (ls1 := [.ref 9, .int (nI (p + 1))]) (st1 := []) (σ1 := σ) rfl (by simp only [tw_nadd, tw_nmul]) (rfl) (rfl) ?_
      rw [tw_fdF (by first | exact tw_bl0 h1 | exact h1)] at hQ
      exact ih (p + 1) (by omega) hQ
    · rw [tw_ceq'] at h1
      refine tw_sg 1 (i1 := 11) (ls1 := [.ref 9, .int (nI p)]) (st1 := [.int (nI p)]) (σ1 := σ) rfl ?_
      refine tw_ri rfl (rfl) ?_
      rw [tw_fdT (by first | exact tw_bl1 h1 | exact h1)] at hQ
      exact hQ
set_option maxHeartbeats 4000000 in
set_option maxRecDepth 100000 in
theorem tw_l_mper1 {L : Nat} {xs : Nat → Int32} {Q : Option Value → tw_Mem → Prop} {σ : tw_Mem} {r n : Nat} (hn89 : σ 89 0 = nI n) (hr90 : σ 90 0 = nI r) (h50 : r ≤ 50) (h10 : n ≤ 10) {p : Nat} (hp : p < r) : ∀ (f j : Nat) (a : Int32), j + f = (r - p) → tw_P L xs 1 238 39 [.ref 88, .int (nI p), .int (tw_fo (tw_gAnd (tw_alk (σ 95) n p)) j f a), .int (nI (r - p))] [] σ Q → tw_P L xs 1 238 12 [.ref 88, .int (nI p), .int a, .int (nI j)] [] σ Q := by
  intro f
  induction f with
  | zero =>
    intro j a  hf hQ
    have hf : (r - p) = j := Eq.symm hf
    subst hf
    refine tw_sgn 6 (i1 := 18) (ls0 := [.ref 88, .int (nI p), .int a, .int (nI (r - p))]) (st0 := [.int (nI 0), .ref 90, .int (nI (r - p) + nI p)]) (σ0 := σ) (ls1 := [.ref 88, .int (nI p), .int a, .int (nI (r - p))]) (st1 := [.int (nI 0), .ref 90, .int (nI ((r - p) + p))]) (σ1 := σ) rfl (rfl) (by simp only [tw_nadd, tw_nmul]) (rfl) ?_
    refine tw_al (k := 90) (j := 0) (len := 2) rfl rfl rfl rfl (rfl) (by omega) (by decide) ?_
    rw [hr90]
    refine tw_biT (c := .ge) rfl (by rw [tw_cge, tw_nle (by omega) (by omega)] <;> omega) ?_
    show tw_P L xs _ 238 39 [.ref 88, .int (nI p), .int a, .int (nI (r - p))] [] σ _
    exact hQ
  | succ f ih =>
    intro j a  hf hQ
    refine tw_sgn 6 (i1 := 18) (ls0 := [.ref 88, .int (nI p), .int a, .int (nI j)]) (st0 := [.int (nI 0), .ref 90, .int (nI j + nI p)]) (σ0 := σ) (ls1 := [.ref 88, .int (nI p), .int a, .int (nI j)]) (st1 := [.int (nI 0), .ref 90, .int (nI (j + p))]) (σ1 := σ) rfl (rfl) (by simp only [tw_nadd, tw_nmul]) (rfl) ?_
    refine tw_al (k := 90) (j := 0) (len := 2) rfl rfl rfl rfl (rfl) (by omega) (by decide) ?_
    rw [hr90]
    refine tw_biF (c := .ge) rfl (by rw [tw_cge', tw_nle (by omega) (by omega)] <;> omega) ?_
    show tw_P L xs _ 238 20 [.ref 88, .int (nI p), .int a, .int (nI j)] [] σ _
    refine tw_sgn 6 (i1 := 26) (ls0 := [.ref 88, .int (nI p), .int a, .int (nI j)]) (st0 := [.int (nI j + nI p), .int (nI j), .ref 88, .int a]) (σ0 := σ) (ls1 := [.ref 88, .int (nI p), .int a, .int (nI j)]) (st1 := [.int (nI (j + p)), .int (nI j), .ref 88, .int a]) (σ1 := σ) rfl (rfl) (by simp only [tw_nadd, tw_nmul]) (rfl) ?_
    refine tw_cl1 rfl (rfl) (by decide) (tw_e_alikeIn hn89 hr90 h50 h10 (i := j) (k := j + p) (by omega) (by omega)) ?_
    rintro _ _ ⟨rfl, rfl⟩
    show tw_P L xs _ 238 27 [.ref 88, .int (nI p), .int a, .int (nI j)] [.int (tw_fo (tw_gEq (σ 95) (σ 95) j (j + p)) 0 n (nI 0)), .int a] σ _
    refine tw_sg 3 (i1 := 30) (ls1 := [.ref 88, .int (nI p), .int a, .int (nI j)]) (st1 := [.int (nI 0), .ref 89, .int (tw_fo (tw_gEq (σ 95) (σ 95) j (j + p)) 0 n (nI 0)), .int a]) (σ1 := σ) rfl ?_
    refine tw_al (k := 89) (j := 0) (len := 2) rfl rfl rfl rfl (rfl) (by omega) (by decide) ?_
    rw [hn89]
    refine tw_bi (c := .ne) rfl (fun h1 => ?_) (fun h1 => ?_)
    · rw [tw_cne] at h1
      refine tw_sgn 5 (i1 := 12) (ls0 := [.ref 88, .int (nI p), .int (a &&& nI 0), .int (nI j + nI 1)]) (st0 := []) (σ0 := σ) (ls1 := [.ref 88, .int (nI p), .int (a &&& nI 0), .int (nI (j + 1))]) (st1 := []) (σ1 := σ) rfl (by simp only [tw_nadd, tw_nmul]) (rfl) (rfl) ?_
      have e : (tw_gAnd (tw_alk (σ 95) n p)) j a = a &&& nI 0 := by
        unfold tw_gAnd
        first | rw [tw_blT (by assumption)] | rw [tw_blF (by assumption)]
      rw [tw_fo, e] at hQ
      exact ih (j + 1) _ (by omega) hQ
    · rw [tw_cne'] at h1
      refine tw_sgn 6 (i1 := 12) (ls0 := [.ref 88, .int (nI p), .int (a &&& nI 1), .int (nI j + nI 1)]) (st0 := []) (σ0 := σ) (ls1 := [.ref 88, .int (nI p), .int (a &&& nI 1), .int (nI (j + 1))]) (st1 := []) (σ1 := σ) rfl (by simp only [tw_nadd, tw_nmul]) (rfl) (rfl) ?_
      have e : (tw_gAnd (tw_alk (σ 95) n p)) j a = a &&& nI 1 := by
        unfold tw_gAnd
        first | rw [tw_blT (by assumption)] | rw [tw_blF (by assumption)]
      rw [tw_fo, e] at hQ
      exact ih (j + 1) _ (by omega) hQ
set_option maxHeartbeats 4000000 in
set_option maxRecDepth 100000 in
theorem tw_l_mper {L : Nat} {xs : Nat → Int32} {Q : Option Value → tw_Mem → Prop} {σ : tw_Mem} {r n : Nat} (hn89 : σ 89 0 = nI n) (hr90 : σ 90 0 = nI r) (h50 : r ≤ 50) (h10 : n ≤ 10) : ∀ (f p : Nat) (u u1 : Value), p + f = r → Q (some (.int (tw_fd (tw_per (σ 95) n r) p f (-5)))) σ → tw_P L xs 1 238 2 [.ref 88, .int (nI p), u, u1] [] σ Q := by
  intro f
  induction f with
  | zero =>
    intro p u u1 hf hQ
    have hf : r = p := Eq.symm hf
    subst hf
    refine tw_sg 4 (i1 := 6) (ls1 := [.ref 88, .int (nI r), u, u1]) (st1 := [.int (nI 0), .ref 90, .int (nI r)]) (σ1 := σ) rfl ?_
    refine tw_al (k := 90) (j := 0) (len := 2) rfl rfl rfl rfl (rfl) (by omega) (by decide) ?_
    rw [hr90]
    refine tw_biT (c := .ge) rfl (by rw [tw_cge, tw_nle (by omega) (by omega)] <;> omega) ?_
    show tw_P L xs _ 238 45 [.ref 88, .int (nI r), u, u1] [] σ _
    refine tw_sg 1 (i1 := 46) (ls1 := [.ref 88, .int (nI r), u, u1]) (st1 := [.int (-5)]) (σ1 := σ) rfl ?_
    refine tw_ri rfl (rfl) ?_
    exact hQ
  | succ f ih =>
    intro p u u1 hf hQ
    refine tw_sg 4 (i1 := 6) (ls1 := [.ref 88, .int (nI p), u, u1]) (st1 := [.int (nI 0), .ref 90, .int (nI p)]) (σ1 := σ) rfl ?_
    refine tw_al (k := 90) (j := 0) (len := 2) rfl rfl rfl rfl (rfl) (by omega) (by decide) ?_
    rw [hr90]
    refine tw_biF (c := .ge) rfl (by rw [tw_cge', tw_nle (by omega) (by omega)] <;> omega) ?_
    show tw_P L xs _ 238 8 [.ref 88, .int (nI p), u, u1] [] σ _
    refine tw_sg 4 (i1 := 12) (ls1 := [.ref 88, .int (nI p), .int (nI 1), .int (nI 0)]) (st1 := []) (σ1 := σ) rfl ?_
    refine tw_l_mper1 hn89 hr90 h50 h10 (by omega) (r - p) 0 _ (by omega) ?_
    rw [tw_fo_and1 (R := tw_per (σ 95) n r p) ⟨fun q j hj => q j (by omega), fun q j hj => q j (by omega)⟩]
    show tw_P L xs _ 238 39 [.ref 88, .int (nI p), .int (tw_bl (tw_per (σ 95) n r p)), .int (nI (r - p))] [] σ _
    refine tw_sg 1 (i1 := 40) (ls1 := [.ref 88, .int (nI p), .int (tw_bl (tw_per (σ 95) n r p)), .int (nI (r - p))]) (st1 := [.int (tw_bl (tw_per (σ 95) n r p))]) (σ1 := σ) rfl ?_
    refine tw_bz (c := .eq) rfl (fun h21 => ?_) (fun h21 => ?_)
    · rw [tw_ceq] at h21
      refine tw_sgn 2 (i1 := 2) (ls0 := [.ref 88, .int (nI p + nI 1), .int (tw_bl (tw_per (σ 95) n r p)), .int (nI (r - p))]) (st0 := []) (σ0 := σ) (ls1 := [.ref 88, .int (nI (p + 1)), .int (tw_bl (tw_per (σ 95) n r p)), .int (nI (r - p))]) (st1 := []) (σ1 := σ) rfl (by simp only [tw_nadd, tw_nmul]) (rfl) (rfl) ?_
      rw [tw_fdF (by first | exact tw_bl0 h21 | exact h21)] at hQ
      exact ih (p + 1) _ _ (by omega) hQ
    · rw [tw_ceq'] at h21
      refine tw_sg 1 (i1 := 42) (ls1 := [.ref 88, .int (nI p), .int (tw_bl (tw_per (σ 95) n r p)), .int (nI (r - p))]) (st1 := [.int (nI p)]) (σ1 := σ) rfl ?_
      refine tw_ri rfl (rfl) ?_
      rw [tw_fdT (by first | exact tw_bl1 h21 | exact h21)] at hQ
      exact hQ
set_option maxHeartbeats 4000000 in
set_option maxRecDepth 100000 in
theorem tw_e_least {r n : Nat} (hr9 : σ 9 3 = nI r) (hw9 : σ 9 4 = nI n) (h50 : r ≤ 50) (h10 : n ≤ 10) {w : Nat → Int32} (hF : tw_isF σ 0 r n w) (hpos : 0 < r) : tw_E L xs 5 32 [.ref 9] σ (fun v σ1 => v = some (.int (tw_fd (tw_per w n r) 1 (r - 1) (-5))) ∧ σ = σ1) := by
  show tw_P L xs _ 32 0 [.ref 9, tw_U] [] σ _
  refine tw_sg 2 (i1 := 2) (ls1 := [.ref 9, .int (nI 1)]) (st1 := []) (σ1 := σ) rfl ?_
  exact tw_l_least hr9 hw9 h50 h10 hF (r - 1) 1 (by omega) ⟨rfl, rfl⟩
set_option maxHeartbeats 4000000 in
set_option maxRecDepth 100000 in
theorem tw_o_period {L : Nat} {xs : Nat → Int32} : tw_op L xs 160 238 [] := by
  intro σ hI
  obtain ⟨⟨n, r, hL⟩, hT, hPp, hPc, hLs, hIm, hC14, hC46, hC72⟩ := id hI
  obtain ⟨⟨hn10, hr50⟩, ⟨hn6, hn89⟩, ⟨hr9, hw9, hr90⟩, hCa, hRo, hLa⟩ := hL
  have hn6 : σ 6 4 = nI n := hn6
  have hn89 : σ 89 0 = nI n := hn89
  have hr9 : σ 9 3 = nI r := hr9
  have hw9 : σ 9 4 = nI n := hw9
  have hr90 : σ 90 0 = nI r := hr90
  rcases Nat.eq_zero_or_pos r with hz | hpos
  · subst hz
    show tw_P L xs _ 160 0 [.ref 1] [] σ _
    refine tw_sg 2 (i1 := 2) (ls1 := [.ref 1]) (st1 := [.ref 6]) (σ1 := σ) rfl ?_
    refine tw_cl0 59 rfl (rfl) (by decide) ?_
    show tw_P L xs _ 83 0 [.ref 6] [] σ _
    refine tw_sg 2 (i1 := 2) (ls1 := [.ref 6]) (st1 := [.ref 9]) (σ1 := σ) rfl ?_
    refine tw_ra rfl ?_
    show tw_P L xs _ 160 3 [.ref 1] [.ref 9] σ _
    refine tw_cl0 59 rfl (rfl) (by decide) ?_
    show tw_P L xs _ 32 0 [.ref 9, tw_U] [] σ _
    refine tw_sgn 5 (i1 := 5) (ls0 := [.ref 9, .int (nI 1)]) (st0 := [.int (σ 9 3), .int (nI 1)]) (σ0 := σ) (ls1 := [.ref 9, .int (nI 1)]) (st1 := [.int (nI 0), .int (nI 1)]) (σ1 := σ) rfl (rfl) (by simp only [hr9, tw_nadd, tw_nmul]) (rfl) ?_
    refine tw_biT (c := .ge) rfl (by rw [tw_cge, tw_nle (by omega) (by omega)] <;> omega) ?_
    show tw_P L xs _ 32 14 [.ref 9, .int (nI 1)] [] σ _
    refine tw_sg 1 (i1 := 15) (ls1 := [.ref 9, .int (nI 1)]) (st1 := [.int (-5)]) (σ1 := σ) rfl ?_
    refine tw_ri rfl (rfl) ?_
    show tw_P L xs _ 160 4 [.ref 1] [.int (-5)] σ _
    refine tw_ri rfl (rfl) ?_
    refine ⟨_, rfl, ?_⟩
    show tw_P L xs _ 238 0 [.ref 88, tw_U, tw_U, tw_U] [] σ _
    refine tw_sg 6 (i1 := 6) (ls1 := [.ref 88, .int (nI 1), tw_U, tw_U]) (st1 := [.int (nI 0), .ref 90, .int (nI 1)]) (σ1 := σ) rfl ?_
    refine tw_al (k := 90) (j := 0) (len := 2) rfl rfl rfl rfl (rfl) (by omega) (by decide) ?_
    rw [hr90]
    refine tw_biT (c := .ge) rfl (by rw [tw_cge, tw_nle (by omega) (by omega)] <;> omega) ?_
    show tw_P L xs _ 238 45 [.ref 88, .int (nI 1), tw_U, tw_U] [] σ _
    refine tw_sg 1 (i1 := 46) (ls1 := [.ref 88, .int (nI 1), tw_U, tw_U]) (st1 := [.int (-5)]) (σ1 := σ) rfl ?_
    refine tw_ri rfl (rfl) ?_
    exact ⟨rfl, hI⟩
  · skip
    show tw_P L xs _ 160 0 [.ref 1] [] σ _
    refine tw_sg 2 (i1 := 2) (ls1 := [.ref 1]) (st1 := [.ref 6]) (σ1 := σ) rfl ?_
    refine tw_cl0 59 rfl (rfl) (by decide) ?_
    show tw_P L xs _ 83 0 [.ref 6] [] σ _
    refine tw_sg 2 (i1 := 2) (ls1 := [.ref 6]) (st1 := [.ref 9]) (σ1 := σ) rfl ?_
    refine tw_ra rfl ?_
    show tw_P L xs _ 160 3 [.ref 1] [.ref 9] σ _
    refine tw_cl1 rfl (rfl) (by decide) (tw_e_least hr9 hw9 hr50 hn10 (tw_isF0 hRo) hpos) ?_
    rintro _ _ ⟨rfl, rfl⟩
    show tw_P L xs _ 160 4 [.ref 1] [.int (tw_fd (tw_per (σ 95) n r) 1 (r - 1) (-5))] σ _
    refine tw_ri rfl (rfl) ?_
    refine ⟨_, rfl, ?_⟩
    show tw_P L xs _ 238 0 [.ref 88, tw_U, tw_U, tw_U] [] σ _
    refine tw_sg 2 (i1 := 2) (ls1 := [.ref 88, .int (nI 1), tw_U, tw_U]) (st1 := []) (σ1 := σ) rfl ?_
    exact tw_P_le (d := 1) (tw_l_mper hn89 hr90 hr50 hn10 (r - 1) 1 _ _ (by omega) ⟨rfl, hI⟩) (by decide)
end tw_s33
