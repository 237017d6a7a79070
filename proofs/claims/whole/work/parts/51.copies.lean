/-! the reference: halves copied -/
section tw_s51
variable {L : Nat} {xs : Nat → Int32} {σ : tw_Mem} {x y w : Int32} {n r i c k h q a b e : Nat}
set_option maxHeartbeats 4000000 in
set_option maxRecDepth 100000 in
theorem tw_l_cpi89 {L : Nat} {xs : Nat → Int32} {Q : Option Value → tw_Mem → Prop} : ∀ (f : Nat) (j : Nat) (σ : tw_Mem), j + f = 1 → (∀ τ : tw_Mem, (∀ k i, ¬ (k = 89 ∧ 1 + j ≤ i ∧ i < 2) → τ k i = σ k i) → (∀ i, j ≤ i → i < 1 → τ 89 (i + 1) = σ 89 i) → Q none τ) → tw_P L xs 0 256 7 [.ref 89, .int (nI 0), .int (nI 1), .int (nI j)] [] σ Q := by
  intro f
  induction f with
  | zero =>
    intro j σ hf hQ
    refine tw_sg 2 (i1 := 9) (ls1 := [.ref 89, .int (nI 0), .int (nI 1), .int (nI j)]) (st1 := [.int (nI 1), .int (nI j)]) (σ1 := σ) rfl ?_
    refine tw_biT (c := .ge) rfl (by rw [tw_cge, tw_nle (by omega) (by omega)] <;> omega) ?_
    show tw_P L xs _ 256 31 [.ref 89, .int (nI 0), .int (nI 1), .int (nI j)] [] σ _
    refine tw_rv rfl ?_
    exact hQ σ (fun _ _ _ => rfl) (fun i h1 h2 => by omega)
  | succ f ih =>
    intro j σ hf hQ
    refine tw_sg 2 (i1 := 9) (ls1 := [.ref 89, .int (nI 0), .int (nI 1), .int (nI j)]) (st1 := [.int (nI 1), .int (nI j)]) (σ1 := σ) rfl ?_
    refine tw_biF (c := .ge) rfl (by rw [tw_cge', tw_nle (by omega) (by omega)] <;> omega) ?_
    show tw_P L xs _ 256 10 [.ref 89, .int (nI 0), .int (nI 1), .int (nI j)] [] σ _
    refine tw_sg 1 (i1 := 11) (ls1 := [.ref 89, .int (nI 0), .int (nI 1), .int (nI j)]) (st1 := [.int (nI 0)]) (σ1 := σ) rfl ?_
    refine tw_bzT (c := .eq) rfl (by rw [tw_ceq, tw_neq (by omega) (by omega)] <;> omega) ?_
    show tw_P L xs _ 256 21 [.ref 89, .int (nI 0), .int (nI 1), .int (nI j)] [] σ _
    refine tw_sgn 6 (i1 := 27) (ls0 := [.ref 89, .int (nI 0), .int (nI 1), .int (nI j)]) (st0 := [.int (nI j), .ref 89, .int (nI 1 + nI j), .ref 89]) (σ0 := σ) (ls1 := [.ref 89, .int (nI 0), .int (nI 1), .int (nI j)]) (st1 := [.int (nI j), .ref 89, .int (nI (1 + j)), .ref 89]) (σ1 := σ) rfl (rfl) (by simp only [tw_nadd, tw_nmul]) (rfl) ?_
    refine tw_al (k := 89) (j := j) (len := 2) rfl rfl rfl rfl (rfl) (by omega) (by decide) ?_
    refine tw_as (k := 89) (j := (1 + j)) (len := 2) rfl rfl rfl (rfl) (by omega) (by decide) ?_
    refine tw_sgn 2 (i1 := 7) (ls0 := [.ref 89, .int (nI 0), .int (nI 1), .int (nI j + nI 1)]) (st0 := []) (σ0 := (tw_upd σ 89 (1 + j) (σ 89 j))) (ls1 := [.ref 89, .int (nI 0), .int (nI 1), .int (nI (j + 1))]) (st1 := []) (σ1 := (tw_upd σ 89 (1 + j) (σ 89 j))) rfl (by simp only [tw_nadd, tw_nmul]) (rfl) (rfl) ?_
    refine ih (j + 1) _ (by omega) (fun τ h1 h2 => hQ τ (fun k i g => ?_) (fun i g1 g2 => ?_))
    · rw [h1 k i (by omega), tw_upd_off (by omega)]
    · by_cases hij : i = j
      · subst hij; rw [h1 _ _ (by omega)]; rw [Nat.add_comm i 1]; exact tw_upd_at
      · rw [h2 i (by omega) g2, tw_upd_off (by omega)]
set_option maxHeartbeats 4000000 in
set_option maxRecDepth 100000 in
theorem tw_e_cpi89  : tw_E L xs 0 256 [.ref 89, .int (nI 0)] σ (fun v τ => v = none ∧ (∀ i, i < 1 → τ 89 (i + 1) = σ 89 i) ∧ ∀ k i, ¬ (k = 89 ∧ 1 ≤ i ∧ i < 2) → τ k i = σ k i) := by
  show tw_P L xs _ 256 0 [.ref 89, .int (nI 0), tw_U, tw_U] [] σ _
  refine tw_sg 3 (i1 := 3) (ls1 := [.ref 89, .int (nI 0), tw_U, tw_U]) (st1 := [.int (nI 2), .int (nI 2)]) (σ1 := σ) rfl ?_
  refine tw_dv rfl (by decide) ?_
  rw [show nI 2 / nI 2 = nI 1 by decide]
  refine tw_sg 3 (i1 := 7) (ls1 := [.ref 89, .int (nI 0), .int (nI 1), .int (nI 0)]) (st1 := []) (σ1 := σ) rfl ?_
  exact tw_l_cpi89 1 0 σ (by omega) (fun τ h1 h2 => ⟨rfl, fun i hi => h2 i (by omega) hi, fun k i g => h1 k i (by omega)⟩)
set_option maxHeartbeats 4000000 in
set_option maxRecDepth 100000 in
theorem tw_l_cpi90 {L : Nat} {xs : Nat → Int32} {Q : Option Value → tw_Mem → Prop} : ∀ (f : Nat) (j : Nat) (σ : tw_Mem), j + f = 1 → (∀ τ : tw_Mem, (∀ k i, ¬ (k = 90 ∧ 1 + j ≤ i ∧ i < 2) → τ k i = σ k i) → (∀ i, j ≤ i → i < 1 → τ 90 (i + 1) = σ 90 i) → Q none τ) → tw_P L xs 0 256 7 [.ref 90, .int (nI 0), .int (nI 1), .int (nI j)] [] σ Q := by
  intro f
  induction f with
  | zero =>
    intro j σ hf hQ
    refine tw_sg 2 (i1 := 9) (ls1 := [.ref 90, .int (nI 0), .int (nI 1), .int (nI j)]) (st1 := [.int (nI 1), .int (nI j)]) (σ1 := σ) rfl ?_
    refine tw_biT (c := .ge) rfl (by rw [tw_cge, tw_nle (by omega) (by omega)] <;> omega) ?_
    show tw_P L xs _ 256 31 [.ref 90, .int (nI 0), .int (nI 1), .int (nI j)] [] σ _
    refine tw_rv rfl ?_
    exact hQ σ (fun _ _ _ => rfl) (fun i h1 h2 => by omega)
  | succ f ih =>
    intro j σ hf hQ
    refine tw_sg 2 (i1 := 9) (ls1 := [.ref 90, .int (nI 0), .int (nI 1), .int (nI j)]) (st1 := [.int (nI 1), .int (nI j)]) (σ1 := σ) rfl ?_
    refine tw_biF (c := .ge) rfl (by rw [tw_cge', tw_nle (by omega) (by omega)] <;> omega) ?_
    show tw_P L xs _ 256 10 [.ref 90, .int (nI 0), .int (nI 1), .int (nI j)] [] σ _
    refine tw_sg 1 (i1 := 11) (ls1 := [.ref 90, .int (nI 0), .int (nI 1), .int (nI j)]) (st1 := [.int (nI 0)]) (σ1 := σ) rfl ?_
    refine tw_bzT (c := .eq) rfl (by rw [tw_ceq, tw_neq (by omega) (by omega)] <;> omega) ?_
    show tw_P L xs _ 256 21 [.ref 90, .int (nI 0), .int (nI 1), .int (nI j)] [] σ _
    refine tw_sgn 6 (i1 := 27) (ls0 := [.ref 90, .int (nI 0), .int (nI 1), .int (nI j)]) (st0 := [.int (nI j), .ref 90, .int (nI 1 + nI j), .ref 90]) (σ0 := σ) (ls1 := [.ref 90, .int (nI 0), .int (nI 1), .int (nI j)]) (st1 := [.int (nI j), .ref 90, .int (nI (1 + j)), .ref 90]) (σ1 := σ) rfl (rfl) (by simp only [tw_nadd, tw_nmul]) (rfl) ?_
    refine tw_al (k := 90) (j := j) (len := 2) rfl rfl rfl rfl (rfl) (by omega) (by decide) ?_
    refine tw_as (k := 90) (j := (1 + j)) (len := 2) rfl rfl rfl (rfl) (by omega) (by decide) ?_
    refine tw_sgn 2 (i1 := 7) (ls0 := [.ref 90, .int (nI 0), .int (nI 1), .int (nI j + nI 1)]) (st0 := []) (σ0 := (tw_upd σ 90 (1 + j) (σ 90 j))) (ls1 := [.ref 90, .int (nI 0), .int (nI 1), .int (nI (j + 1))]) (st1 := []) (σ1 := (tw_upd σ 90 (1 + j) (σ 90 j))) rfl (by simp only [tw_nadd, tw_nmul]) (rfl) (rfl) ?_
    refine ih (j + 1) _ (by omega) (fun τ h1 h2 => hQ τ (fun k i g => ?_) (fun i g1 g2 => ?_))
    · rw [h1 k i (by omega), tw_upd_off (by omega)]
    · by_cases hij : i = j
      · subst hij; rw [h1 _ _ (by omega)]; rw [Nat.add_comm i 1]; exact tw_upd_at
      · rw [h2 i (by omega) g2, tw_upd_off (by omega)]
set_option maxHeartbeats 4000000 in
set_option maxRecDepth 100000 in
theorem tw_e_cpi90  : tw_E L xs 0 256 [.ref 90, .int (nI 0)] σ (fun v τ => v = none ∧ (∀ i, i < 1 → τ 90 (i + 1) = σ 90 i) ∧ ∀ k i, ¬ (k = 90 ∧ 1 ≤ i ∧ i < 2) → τ k i = σ k i) := by
  show tw_P L xs _ 256 0 [.ref 90, .int (nI 0), tw_U, tw_U] [] σ _
  refine tw_sg 3 (i1 := 3) (ls1 := [.ref 90, .int (nI 0), tw_U, tw_U]) (st1 := [.int (nI 2), .int (nI 2)]) (σ1 := σ) rfl ?_
  refine tw_dv rfl (by decide) ?_
  rw [show nI 2 / nI 2 = nI 1 by decide]
  refine tw_sg 3 (i1 := 7) (ls1 := [.ref 90, .int (nI 0), .int (nI 1), .int (nI 0)]) (st1 := []) (σ1 := σ) rfl ?_
  exact tw_l_cpi90 1 0 σ (by omega) (fun τ h1 h2 => ⟨rfl, fun i hi => h2 i (by omega) hi, fun k i g => h1 k i (by omega)⟩)
set_option maxHeartbeats 4000000 in
set_option maxRecDepth 100000 in
theorem tw_l_cpi91 {L : Nat} {xs : Nat → Int32} {Q : Option Value → tw_Mem → Prop} : ∀ (f : Nat) (j : Nat) (σ : tw_Mem), j + f = 40 → (∀ τ : tw_Mem, (∀ k i, ¬ (k = 91 ∧ 40 + j ≤ i ∧ i < 80) → τ k i = σ k i) → (∀ i, j ≤ i → i < 40 → τ 91 (i + 40) = σ 91 i) → Q none τ) → tw_P L xs 0 256 7 [.ref 91, .int (nI 0), .int (nI 40), .int (nI j)] [] σ Q := by
  intro f
  induction f with
  | zero =>
    intro j σ hf hQ
    refine tw_sg 2 (i1 := 9) (ls1 := [.ref 91, .int (nI 0), .int (nI 40), .int (nI j)]) (st1 := [.int (nI 40), .int (nI j)]) (σ1 := σ) rfl ?_
    refine tw_biT (c := .ge) rfl (by rw [tw_cge, tw_nle (by omega) (by omega)] <;> omega) ?_
    show tw_P L xs _ 256 31 [.ref 91, .int (nI 0), .int (nI 40), .int (nI j)] [] σ _
    refine tw_rv rfl ?_
    exact hQ σ (fun _ _ _ => rfl) (fun i h1 h2 => by omega)
  | succ f ih =>
    intro j σ hf hQ
    refine tw_sg 2 (i1 := 9) (ls1 := [.ref 91, .int (nI 0), .int (nI 40), .int (nI j)]) (st1 := [.int (nI 40), .int (nI j)]) (σ1 := σ) rfl ?_
    refine tw_biF (c := .ge) rfl (by rw [tw_cge', tw_nle (by omega) (by omega)] <;> omega) ?_
    show tw_P L xs _ 256 10 [.ref 91, .int (nI 0), .int (nI 40), .int (nI j)] [] σ _
    refine tw_sg 1 (i1 := 11) (ls1 := [.ref 91, .int (nI 0), .int (nI 40), .int (nI j)]) (st1 := [.int (nI 0)]) (σ1 := σ) rfl ?_
    refine tw_bzT (c := .eq) rfl (by rw [tw_ceq, tw_neq (by omega) (by omega)] <;> omega) ?_
    show tw_P L xs _ 256 21 [.ref 91, .int (nI 0), .int (nI 40), .int (nI j)] [] σ _
    refine tw_sgn 6 (i1 := 27) (ls0 := [.ref 91, .int (nI 0), .int (nI 40), .int (nI j)]) (st0 := [.int (nI j), .ref 91, .int (nI 40 + nI j), .ref 91]) (σ0 := σ) (ls1 := [.ref 91, .int (nI 0), .int (nI 40), .int (nI j)]) (st1 := [.int (nI j), .ref 91, .int (nI (40 + j)), .ref 91]) (σ1 := σ) rfl (rfl) (by simp only [tw_nadd, tw_nmul]) (rfl) ?_
    refine tw_al (k := 91) (j := j) (len := 80) rfl rfl rfl rfl (rfl) (by omega) (by decide) ?_
    refine tw_as (k := 91) (j := (40 + j)) (len := 80) rfl rfl rfl (rfl) (by omega) (by decide) ?_
    refine tw_sgn 2 (i1 := 7) (ls0 := [.ref 91, .int (nI 0), .int (nI 40), .int (nI j + nI 1)]) (st0 := []) (σ0 := (tw_upd σ 91 (40 + j) (σ 91 j))) (ls1 := [.ref 91, .int (nI 0), .int (nI 40), .int (nI (j + 1))]) (st1 := []) (σ1 := (tw_upd σ 91 (40 + j) (σ 91 j))) rfl (by simp only [tw_nadd, tw_nmul]) (rfl) (rfl) ?_
    refine ih (j + 1) _ (by omega) (fun τ h1 h2 => hQ τ (fun k i g => ?_) (fun i g1 g2 => ?_))
    · rw [h1 k i (by omega), tw_upd_off (by omega)]
    · by_cases hij : i = j
      · subst hij; rw [h1 _ _ (by omega)]; rw [Nat.add_comm i 40]; exact tw_upd_at
      · rw [h2 i (by omega) g2, tw_upd_off (by omega)]
set_option maxHeartbeats 4000000 in
set_option maxRecDepth 100000 in
theorem tw_e_cpi91  : tw_E L xs 0 256 [.ref 91, .int (nI 0)] σ (fun v τ => v = none ∧ (∀ i, i < 40 → τ 91 (i + 40) = σ 91 i) ∧ ∀ k i, ¬ (k = 91 ∧ 40 ≤ i ∧ i < 80) → τ k i = σ k i) := by
  show tw_P L xs _ 256 0 [.ref 91, .int (nI 0), tw_U, tw_U] [] σ _
  refine tw_sg 3 (i1 := 3) (ls1 := [.ref 91, .int (nI 0), tw_U, tw_U]) (st1 := [.int (nI 2), .int (nI 80)]) (σ1 := σ) rfl ?_
  refine tw_dv rfl (by decide) ?_
  rw [show nI 80 / nI 2 = nI 40 by decide]
  refine tw_sg 3 (i1 := 7) (ls1 := [.ref 91, .int (nI 0), .int (nI 40), .int (nI 0)]) (st1 := []) (σ1 := σ) rfl ?_
  exact tw_l_cpi91 40 0 σ (by omega) (fun τ h1 h2 => ⟨rfl, fun i hi => h2 i (by omega) hi, fun k i g => h1 k i (by omega)⟩)
set_option maxHeartbeats 4000000 in
set_option maxRecDepth 100000 in
theorem tw_l_cpi92 {L : Nat} {xs : Nat → Int32} {Q : Option Value → tw_Mem → Prop} : ∀ (f : Nat) (j : Nat) (σ : tw_Mem), j + f = 10 → (∀ τ : tw_Mem, (∀ k i, ¬ (k = 92 ∧ 10 + j ≤ i ∧ i < 20) → τ k i = σ k i) → (∀ i, j ≤ i → i < 10 → τ 92 (i + 10) = σ 92 i) → Q none τ) → tw_P L xs 0 256 7 [.ref 92, .int (nI 0), .int (nI 10), .int (nI j)] [] σ Q := by
  intro f
  induction f with
  | zero =>
    intro j σ hf hQ
    refine tw_sg 2 (i1 := 9) (ls1 := [.ref 92, .int (nI 0), .int (nI 10), .int (nI j)]) (st1 := [.int (nI 10), .int (nI j)]) (σ1 := σ) rfl ?_
    refine tw_biT (c := .ge) rfl (by rw [tw_cge, tw_nle (by omega) (by omega)] <;> omega) ?_
    show tw_P L xs _ 256 31 [.ref 92, .int (nI 0), .int (nI 10), .int (nI j)] [] σ _
    refine tw_rv rfl ?_
    exact hQ σ (fun _ _ _ => rfl) (fun i h1 h2 => by omega)
  | succ f ih =>
    intro j σ hf hQ
    refine tw_sg 2 (i1 := 9) (ls1 := [.ref 92, .int (nI 0), .int (nI 10), .int (nI j)]) (st1 := [.int (nI 10), .int (nI j)]) (σ1 := σ) rfl ?_
    refine tw_biF (c := .ge) rfl (by rw [tw_cge', tw_nle (by omega) (by omega)] <;> omega) ?_
    show tw_P L xs _ 256 10 [.ref 92, .int (nI 0), .int (nI 10), .int (nI j)] [] σ _
    refine tw_sg 1 (i1 := 11) (ls1 := [.ref 92, .int (nI 0), .int (nI 10), .int (nI j)]) (st1 := [.int (nI 0)]) (σ1 := σ) rfl ?_
    refine tw_bzT (c := .eq) rfl (by rw [tw_ceq, tw_neq (by omega) (by omega)] <;> omega) ?_
    show tw_P L xs _ 256 21 [.ref 92, .int (nI 0), .int (nI 10), .int (nI j)] [] σ _
    refine tw_sgn 6 (i1 := 27) (ls0 := [.ref 92, .int (nI 0), .int (nI 10), .int (nI j)]) (st0 := [.int (nI j), .ref 92, .int (nI 10 + nI j), .ref 92]) (σ0 := σ) (ls1 := [.ref 92, .int (nI 0), .int (nI 10), .int (nI j)]) (st1 := [.int (nI j), .ref 92, .int (nI (10 + j)), .ref 92]) (σ1 := σ) rfl (rfl) (by simp only [tw_nadd, tw_nmul]) (rfl) ?_
    refine tw_al (k := 92) (j := j) (len := 20) rfl rfl rfl rfl (rfl) (by omega) (by decide) ?_
    refine tw_as (k := 92) (j := (10 + j)) (len := 20) rfl rfl rfl (rfl) (by omega) (by decide) ?_
    refine tw_sgn 2 (i1 := 7) (ls0 := [.ref 92, .int (nI 0), .int (nI 10), .int (nI j + nI 1)]) (st0 := []) (σ0 := (tw_upd σ 92 (10 + j) (σ 92 j))) (ls1 := [.ref 92, .int (nI 0), .int (nI 10), .int (nI (j + 1))]) (st1 := []) (σ1 := (tw_upd σ 92 (10 + j) (σ 92 j))) rfl (by simp only [tw_nadd, tw_nmul]) (rfl) (rfl) ?_
    refine ih (j + 1) _ (by omega) (fun τ h1 h2 => hQ τ (fun k i g => ?_) (fun i g1 g2 => ?_))
    · rw [h1 k i (by omega), tw_upd_off (by omega)]
    · by_cases hij : i = j
      · subst hij; rw [h1 _ _ (by omega)]; rw [Nat.add_comm i 10]; exact tw_upd_at
      · rw [h2 i (by omega) g2, tw_upd_off (by omega)]
set_option maxHeartbeats 4000000 in
set_option maxRecDepth 100000 in
theorem tw_e_cpi92  : tw_E L xs 0 256 [.ref 92, .int (nI 0)] σ (fun v τ => v = none ∧ (∀ i, i < 10 → τ 92 (i + 10) = σ 92 i) ∧ ∀ k i, ¬ (k = 92 ∧ 10 ≤ i ∧ i < 20) → τ k i = σ k i) := by
  show tw_P L xs _ 256 0 [.ref 92, .int (nI 0), tw_U, tw_U] [] σ _
  refine tw_sg 3 (i1 := 3) (ls1 := [.ref 92, .int (nI 0), tw_U, tw_U]) (st1 := [.int (nI 2), .int (nI 20)]) (σ1 := σ) rfl ?_
  refine tw_dv rfl (by decide) ?_
  rw [show nI 20 / nI 2 = nI 10 by decide]
  refine tw_sg 3 (i1 := 7) (ls1 := [.ref 92, .int (nI 0), .int (nI 10), .int (nI 0)]) (st1 := []) (σ1 := σ) rfl ?_
  exact tw_l_cpi92 10 0 σ (by omega) (fun τ h1 h2 => ⟨rfl, fun i hi => h2 i (by omega) hi, fun k i g => h1 k i (by omega)⟩)
set_option maxHeartbeats 4000000 in
set_option maxRecDepth 100000 in
theorem tw_l_cpi93 {L : Nat} {xs : Nat → Int32} {Q : Option Value → tw_Mem → Prop} : ∀ (f : Nat) (j : Nat) (σ : tw_Mem), j + f = 10 → (∀ τ : tw_Mem, (∀ k i, ¬ (k = 93 ∧ 10 + j ≤ i ∧ i < 20) → τ k i = σ k i) → (∀ i, j ≤ i → i < 10 → τ 93 (i + 10) = σ 93 i) → Q none τ) → tw_P L xs 0 256 7 [.ref 93, .int (nI 0), .int (nI 10), .int (nI j)] [] σ Q := by
  intro f
  induction f with
  | zero =>
    intro j σ hf hQ
    refine tw_sg 2 (i1 := 9) (ls1 := [.ref 93, .int (nI 0), .int (nI 10), .int (nI j)]) (st1 := [.int (nI 10), .int (nI j)]) (σ1 := σ) rfl ?_
    refine tw_biT (c := .ge) rfl (by rw [tw_cge, tw_nle (by omega) (by omega)] <;> omega) ?_
    show tw_P L xs _ 256 31 [.ref 93, .int (nI 0), .int (nI 10), .int (nI j)] [] σ _
    refine tw_rv rfl ?_
    exact hQ σ (fun _ _ _ => rfl) (fun i h1 h2 => by omega)
  | succ f ih =>
    intro j σ hf hQ
    refine tw_sg 2 (i1 := 9) (ls1 := [.ref 93, .int (nI 0), .int (nI 10), .int (nI j)]) (st1 := [.int (nI 10), .int (nI j)]) (σ1 := σ) rfl ?_
    refine tw_biF (c := .ge) rfl (by rw [tw_cge', tw_nle (by omega) (by omega)] <;> omega) ?_
    show tw_P L xs _ 256 10 [.ref 93, .int (nI 0), .int (nI 10), .int (nI j)] [] σ _
    refine tw_sg 1 (i1 := 11) (ls1 := [.ref 93, .int (nI 0), .int (nI 10), .int (nI j)]) (st1 := [.int (nI 0)]) (σ1 := σ) rfl ?_
    refine tw_bzT (c := .eq) rfl (by rw [tw_ceq, tw_neq (by omega) (by omega)] <;> omega) ?_
    show tw_P L xs _ 256 21 [.ref 93, .int (nI 0), .int (nI 10), .int (nI j)] [] σ _
    refine tw_sgn 6 (i1 := 27) (ls0 := [.ref 93, .int (nI 0), .int (nI 10), .int (nI j)]) (st0 := [.int (nI j), .ref 93, .int (nI 10 + nI j), .ref 93]) (σ0 := σ) (ls1 := [.ref 93, .int (nI 0), .int (nI 10), .int (nI j)]) (st1 := [.int (nI j), .ref 93, .int (nI (10 + j)), .ref 93]) (σ1 := σ) rfl (rfl) (by simp only [tw_nadd, tw_nmul]) (rfl) ?_
    refine tw_al (k := 93) (j := j) (len := 20) rfl rfl rfl rfl (rfl) (by omega) (by decide) ?_
    refine tw_as (k := 93) (j := (10 + j)) (len := 20) rfl rfl rfl (rfl) (by omega) (by decide) ?_
    refine tw_sgn 2 (i1 := 7) (ls0 := [.ref 93, .int (nI 0), .int (nI 10), .int (nI j + nI 1)]) (st0 := []) (σ0 := (tw_upd σ 93 (10 + j) (σ 93 j))) (ls1 := [.ref 93, .int (nI 0), .int (nI 10), .int (nI (j + 1))]) (st1 := []) (σ1 := (tw_upd σ 93 (10 + j) (σ 93 j))) rfl (by simp only [tw_nadd, tw_nmul]) (rfl) (rfl) ?_
    refine ih (j + 1) _ (by omega) (fun τ h1 h2 => hQ τ (fun k i g => ?_) (fun i g1 g2 => ?_))
    · rw [h1 k i (by omega), tw_upd_off (by omega)]
    · by_cases hij : i = j
      · subst hij; rw [h1 _ _ (by omega)]; rw [Nat.add_comm i 10]; exact tw_upd_at
      · rw [h2 i (by omega) g2, tw_upd_off (by omega)]
set_option maxHeartbeats 4000000 in
set_option maxRecDepth 100000 in
theorem tw_e_cpi93  : tw_E L xs 0 256 [.ref 93, .int (nI 0)] σ (fun v τ => v = none ∧ (∀ i, i < 10 → τ 93 (i + 10) = σ 93 i) ∧ ∀ k i, ¬ (k = 93 ∧ 10 ≤ i ∧ i < 20) → τ k i = σ k i) := by
  show tw_P L xs _ 256 0 [.ref 93, .int (nI 0), tw_U, tw_U] [] σ _
  refine tw_sg 3 (i1 := 3) (ls1 := [.ref 93, .int (nI 0), tw_U, tw_U]) (st1 := [.int (nI 2), .int (nI 20)]) (σ1 := σ) rfl ?_
  refine tw_dv rfl (by decide) ?_
  rw [show nI 20 / nI 2 = nI 10 by decide]
  refine tw_sg 3 (i1 := 7) (ls1 := [.ref 93, .int (nI 0), .int (nI 10), .int (nI 0)]) (st1 := []) (σ1 := σ) rfl ?_
  exact tw_l_cpi93 10 0 σ (by omega) (fun τ h1 h2 => ⟨rfl, fun i hi => h2 i (by omega) hi, fun k i g => h1 k i (by omega)⟩)
set_option maxHeartbeats 4000000 in
set_option maxRecDepth 100000 in
theorem tw_l_cpi94 {L : Nat} {xs : Nat → Int32} {Q : Option Value → tw_Mem → Prop} : ∀ (f : Nat) (j : Nat) (σ : tw_Mem), j + f = 10 → (∀ τ : tw_Mem, (∀ k i, ¬ (k = 94 ∧ 10 + j ≤ i ∧ i < 20) → τ k i = σ k i) → (∀ i, j ≤ i → i < 10 → τ 94 (i + 10) = σ 94 i) → Q none τ) → tw_P L xs 0 256 7 [.ref 94, .int (nI 0), .int (nI 10), .int (nI j)] [] σ Q := by
  intro f
  induction f with
  | zero =>
    intro j σ hf hQ
    refine tw_sg 2 (i1 := 9) (ls1 := [.ref 94, .int (nI 0), .int (nI 10), .int (nI j)]) (st1 := [.int (nI 10), .int (nI j)]) (σ1 := σ) rfl ?_
    refine tw_biT (c := .ge) rfl (by rw [tw_cge, tw_nle (by omega) (by omega)] <;> omega) ?_
    show tw_P L xs _ 256 31 [.ref 94, .int (nI 0), .int (nI 10), .int (nI j)] [] σ _
    refine tw_rv rfl ?_
    exact hQ σ (fun _ _ _ => rfl) (fun i h1 h2 => by omega)
  | succ f ih =>
    intro j σ hf hQ
    refine tw_sg 2 (i1 := 9) (ls1 := [.ref 94, .int (nI 0), .int (nI 10), .int (nI j)]) (st1 := [.int (nI 10), .int (nI j)]) (σ1 := σ) rfl ?_
    refine tw_biF (c := .ge) rfl (by rw [tw_cge', tw_nle (by omega) (by omega)] <;> omega) ?_
    show tw_P L xs _ 256 10 [.ref 94, .int (nI 0), .int (nI 10), .int (nI j)] [] σ _
    refine tw_sg 1 (i1 := 11) (ls1 := [.ref 94, .int (nI 0), .int (nI 10), .int (nI j)]) (st1 := [.int (nI 0)]) (σ1 := σ) rfl ?_
    refine tw_bzT (c := .eq) rfl (by rw [tw_ceq, tw_neq (by omega) (by omega)] <;> omega) ?_
    show tw_P L xs _ 256 21 [.ref 94, .int (nI 0), .int (nI 10), .int (nI j)] [] σ _
    refine tw_sgn 6 (i1 := 27) (ls0 := [.ref 94, .int (nI 0), .int (nI 10), .int (nI j)]) (st0 := [.int (nI j), .ref 94, .int (nI 10 + nI j), .ref 94]) (σ0 := σ) (ls1 := [.ref 94, .int (nI 0), .int (nI 10), .int (nI j)]) (st1 := [.int (nI j), .ref 94, .int (nI (10 + j)), .ref 94]) (σ1 := σ) rfl (rfl) (by simp only [tw_nadd, tw_nmul]) (rfl) ?_
    refine tw_al (k := 94) (j := j) (len := 20) rfl rfl rfl rfl (rfl) (by omega) (by decide) ?_
    refine tw_as (k := 94) (j := (10 + j)) (len := 20) rfl rfl rfl (rfl) (by omega) (by decide) ?_
    refine tw_sgn 2 (i1 := 7) (ls0 := [.ref 94, .int (nI 0), .int (nI 10), .int (nI j + nI 1)]) (st0 := []) (σ0 := (tw_upd σ 94 (10 + j) (σ 94 j))) (ls1 := [.ref 94, .int (nI 0), .int (nI 10), .int (nI (j + 1))]) (st1 := []) (σ1 := (tw_upd σ 94 (10 + j) (σ 94 j))) rfl (by simp only [tw_nadd, tw_nmul]) (rfl) (rfl) ?_
    refine ih (j + 1) _ (by omega) (fun τ h1 h2 => hQ τ (fun k i g => ?_) (fun i g1 g2 => ?_))
    · rw [h1 k i (by omega), tw_upd_off (by omega)]
    · by_cases hij : i = j
      · subst hij; rw [h1 _ _ (by omega)]; rw [Nat.add_comm i 10]; exact tw_upd_at
      · rw [h2 i (by omega) g2, tw_upd_off (by omega)]
set_option maxHeartbeats 4000000 in
set_option maxRecDepth 100000 in
theorem tw_e_cpi94  : tw_E L xs 0 256 [.ref 94, .int (nI 0)] σ (fun v τ => v = none ∧ (∀ i, i < 10 → τ 94 (i + 10) = σ 94 i) ∧ ∀ k i, ¬ (k = 94 ∧ 10 ≤ i ∧ i < 20) → τ k i = σ k i) := by
  show tw_P L xs _ 256 0 [.ref 94, .int (nI 0), tw_U, tw_U] [] σ _
  refine tw_sg 3 (i1 := 3) (ls1 := [.ref 94, .int (nI 0), tw_U, tw_U]) (st1 := [.int (nI 2), .int (nI 20)]) (σ1 := σ) rfl ?_
  refine tw_dv rfl (by decide) ?_
  rw [show nI 20 / nI 2 = nI 10 by decide]
  refine tw_sg 3 (i1 := 7) (ls1 := [.ref 94, .int (nI 0), .int (nI 10), .int (nI 0)]) (st1 := []) (σ1 := σ) rfl ?_
  exact tw_l_cpi94 10 0 σ (by omega) (fun τ h1 h2 => ⟨rfl, fun i hi => h2 i (by omega) hi, fun k i g => h1 k i (by omega)⟩)
set_option maxHeartbeats 4000000 in
set_option maxRecDepth 100000 in
theorem tw_l_cpi95 {L : Nat} {xs : Nat → Int32} {Q : Option Value → tw_Mem → Prop} : ∀ (f : Nat) (j : Nat) (σ : tw_Mem), j + f = 500 → (∀ τ : tw_Mem, (∀ k i, ¬ (k = 95 ∧ 500 + j ≤ i ∧ i < 1000) → τ k i = σ k i) → (∀ i, j ≤ i → i < 500 → τ 95 (i + 500) = σ 95 i) → Q none τ) → tw_P L xs 0 256 7 [.ref 95, .int (nI 0), .int (nI 500), .int (nI j)] [] σ Q := by
  intro f
  induction f with
  | zero =>
    intro j σ hf hQ
    refine tw_sg 2 (i1 := 9) (ls1 := [.ref 95, .int (nI 0), .int (nI 500), .int (nI j)]) (st1 := [.int (nI 500), .int (nI j)]) (σ1 := σ) rfl ?_
    refine tw_biT (c := .ge) rfl (by rw [tw_cge, tw_nle (by omega) (by omega)] <;> omega) ?_
    show tw_P L xs _ 256 31 [.ref 95, .int (nI 0), .int (nI 500), .int (nI j)] [] σ _
    refine tw_rv rfl ?_
    exact hQ σ (fun _ _ _ => rfl) (fun i h1 h2 => by omega)
  | succ f ih =>
    intro j σ hf hQ
    refine tw_sg 2 (i1 := 9) (ls1 := [.ref 95, .int (nI 0), .int (nI 500), .int (nI j)]) (st1 := [.int (nI 500), .int (nI j)]) (σ1 := σ) rfl ?_
    refine tw_biF (c := .ge) rfl (by rw [tw_cge', tw_nle (by omega) (by omega)] <;> omega) ?_
    show tw_P L xs _ 256 10 [.ref 95, .int (nI 0), .int (nI 500), .int (nI j)] [] σ _
    refine tw_sg 1 (i1 := 11) (ls1 := [.ref 95, .int (nI 0), .int (nI 500), .int (nI j)]) (st1 := [.int (nI 0)]) (σ1 := σ) rfl ?_
    refine tw_bzT (c := .eq) rfl (by rw [tw_ceq, tw_neq (by omega) (by omega)] <;> omega) ?_
    show tw_P L xs _ 256 21 [.ref 95, .int (nI 0), .int (nI 500), .int (nI j)] [] σ _
    refine tw_sgn 6 (i1 := 27) (ls0 := [.ref 95, .int (nI 0), .int (nI 500), .int (nI j)]) (st0 := [.int (nI j), .ref 95, .int (nI 500 + nI j), .ref 95]) (σ0 := σ) (ls1 := [.ref 95, .int (nI 0), .int (nI 500), .int (nI j)]) (st1 := [.int (nI j), .ref 95, .int (nI (500 + j)), .ref 95]) (σ1 := σ) rfl (rfl) (by simp only [tw_nadd, tw_nmul]) (rfl) ?_
    refine tw_al (k := 95) (j := j) (len := 1000) rfl rfl rfl rfl (rfl) (by omega) (by decide) ?_
    refine tw_as (k := 95) (j := (500 + j)) (len := 1000) rfl rfl rfl (rfl) (by omega) (by decide) ?_
    refine tw_sgn 2 (i1 := 7) (ls0 := [.ref 95, .int (nI 0), .int (nI 500), .int (nI j + nI 1)]) (st0 := []) (σ0 := (tw_upd σ 95 (500 + j) (σ 95 j))) (ls1 := [.ref 95, .int (nI 0), .int (nI 500), .int (nI (j + 1))]) (st1 := []) (σ1 := (tw_upd σ 95 (500 + j) (σ 95 j))) rfl (by simp only [tw_nadd, tw_nmul]) (rfl) (rfl) ?_
    refine ih (j + 1) _ (by omega) (fun τ h1 h2 => hQ τ (fun k i g => ?_) (fun i g1 g2 => ?_))
    · rw [h1 k i (by omega), tw_upd_off (by omega)]
    · by_cases hij : i = j
      · subst hij; rw [h1 _ _ (by omega)]; rw [Nat.add_comm i 500]; exact tw_upd_at
      · rw [h2 i (by omega) g2, tw_upd_off (by omega)]
set_option maxHeartbeats 4000000 in
set_option maxRecDepth 100000 in
theorem tw_e_cpi95  : tw_E L xs 0 256 [.ref 95, .int (nI 0)] σ (fun v τ => v = none ∧ (∀ i, i < 500 → τ 95 (i + 500) = σ 95 i) ∧ ∀ k i, ¬ (k = 95 ∧ 500 ≤ i ∧ i < 1000) → τ k i = σ k i) := by
  show tw_P L xs _ 256 0 [.ref 95, .int (nI 0), tw_U, tw_U] [] σ _
  refine tw_sg 3 (i1 := 3) (ls1 := [.ref 95, .int (nI 0), tw_U, tw_U]) (st1 := [.int (nI 2), .int (nI 1000)]) (σ1 := σ) rfl ?_
  refine tw_dv rfl (by decide) ?_
  rw [show nI 1000 / nI 2 = nI 500 by decide]
  refine tw_sg 3 (i1 := 7) (ls1 := [.ref 95, .int (nI 0), .int (nI 500), .int (nI 0)]) (st1 := []) (σ1 := σ) rfl ?_
  exact tw_l_cpi95 500 0 σ (by omega) (fun τ h1 h2 => ⟨rfl, fun i hi => h2 i (by omega) hi, fun k i g => h1 k i (by omega)⟩)
set_option maxHeartbeats 4000000 in
set_option maxRecDepth 100000 in
theorem tw_l_cpi96 {L : Nat} {xs : Nat → Int32} {Q : Option Value → tw_Mem → Prop} : ∀ (f : Nat) (j : Nat) (σ : tw_Mem), j + f = 500 → (∀ τ : tw_Mem, (∀ k i, ¬ (k = 96 ∧ 500 + j ≤ i ∧ i < 1000) → τ k i = σ k i) → (∀ i, j ≤ i → i < 500 → τ 96 (i + 500) = σ 96 i) → Q none τ) → tw_P L xs 0 256 7 [.ref 96, .int (nI 0), .int (nI 500), .int (nI j)] [] σ Q := by
  intro f
  induction f with
  | zero =>
    intro j σ hf hQ
    refine tw_sg 2 (i1 := 9) (ls1 := [.ref 96, .int (nI 0), .int (nI 500), .int (nI j)]) (st1 := [.int (nI 500), .int (nI j)]) (σ1 := σ) rfl ?_
    refine tw_biT (c := .ge) rfl (by rw [tw_cge, tw_nle (by omega) (by omega)] <;> omega) ?_
    show tw_P L xs _ 256 31 [.ref 96, .int (nI 0), .int (nI 500), .int (nI j)] [] σ _
    refine tw_rv rfl ?_
    exact hQ σ (fun _ _ _ => rfl) (fun i h1 h2 => by omega)
  | succ f ih =>
    intro j σ hf hQ
    refine tw_sg 2 (i1 := 9) (ls1 := [.ref 96, .int (nI 0), .int (nI 500), .int (nI j)]) (st1 := [.int (nI 500), .int (nI j)]) (σ1 := σ) rfl ?_
    refine tw_biF (c := .ge) rfl (by rw [tw_cge', tw_nle (by omega) (by omega)] <;> omega) ?_
    show tw_P L xs _ 256 10 [.ref 96, .int (nI 0), .int (nI 500), .int (nI j)] [] σ _
    refine tw_sg 1 (i1 := 11) (ls1 := [.ref 96, .int (nI 0), .int (nI 500), .int (nI j)]) (st1 := [.int (nI 0)]) (σ1 := σ) rfl ?_
    refine tw_bzT (c := .eq) rfl (by rw [tw_ceq, tw_neq (by omega) (by omega)] <;> omega) ?_
    show tw_P L xs _ 256 21 [.ref 96, .int (nI 0), .int (nI 500), .int (nI j)] [] σ _
    refine tw_sgn 6 (i1 := 27) (ls0 := [.ref 96, .int (nI 0), .int (nI 500), .int (nI j)]) (st0 := [.int (nI j), .ref 96, .int (nI 500 + nI j), .ref 96]) (σ0 := σ) (ls1 := [.ref 96, .int (nI 0), .int (nI 500), .int (nI j)]) (st1 := [.int (nI j), .ref 96, .int (nI (500 + j)), .ref 96]) (σ1 := σ) rfl (rfl) (by simp only [tw_nadd, tw_nmul]) (rfl) ?_
    refine tw_al (k := 96) (j := j) (len := 1000) rfl rfl rfl rfl (rfl) (by omega) (by decide) ?_
    refine tw_as (k := 96) (j := (500 + j)) (len := 1000) rfl rfl rfl (rfl) (by omega) (by decide) ?_
    refine tw_sgn 2 (i1 := 7) (ls0 := [.ref 96, .int (nI 0), .int (nI 500), .int (nI j + nI 1)]) (st0 := []) (σ0 := (tw_upd σ 96 (500 + j) (σ 96 j))) (ls1 := [.ref 96, .int (nI 0), .int (nI 500), .int (nI (j + 1))]) (st1 := []) (σ1 := (tw_upd σ 96 (500 + j) (σ 96 j))) rfl (by simp only [tw_nadd, tw_nmul]) (rfl) (rfl) ?_
    refine ih (j + 1) _ (by omega) (fun τ h1 h2 => hQ τ (fun k i g => ?_) (fun i g1 g2 => ?_))
    · rw [h1 k i (by omega), tw_upd_off (by omega)]
    · by_cases hij : i = j
      · subst hij; rw [h1 _ _ (by omega)]; rw [Nat.add_comm i 500]; exact tw_upd_at
      · rw [h2 i (by omega) g2, tw_upd_off (by omega)]
set_option maxHeartbeats 4000000 in
set_option maxRecDepth 100000 in
theorem tw_e_cpi96  : tw_E L xs 0 256 [.ref 96, .int (nI 0)] σ (fun v τ => v = none ∧ (∀ i, i < 500 → τ 96 (i + 500) = σ 96 i) ∧ ∀ k i, ¬ (k = 96 ∧ 500 ≤ i ∧ i < 1000) → τ k i = σ k i) := by
  show tw_P L xs _ 256 0 [.ref 96, .int (nI 0), tw_U, tw_U] [] σ _
  refine tw_sg 3 (i1 := 3) (ls1 := [.ref 96, .int (nI 0), tw_U, tw_U]) (st1 := [.int (nI 2), .int (nI 1000)]) (σ1 := σ) rfl ?_
  refine tw_dv rfl (by decide) ?_
  rw [show nI 1000 / nI 2 = nI 500 by decide]
  refine tw_sg 3 (i1 := 7) (ls1 := [.ref 96, .int (nI 0), .int (nI 500), .int (nI 0)]) (st1 := []) (σ1 := σ) rfl ?_
  exact tw_l_cpi96 500 0 σ (by omega) (fun τ h1 h2 => ⟨rfl, fun i hi => h2 i (by omega) hi, fun k i g => h1 k i (by omega)⟩)
set_option maxHeartbeats 4000000 in
set_option maxRecDepth 100000 in
theorem tw_l_cpi97 {L : Nat} {xs : Nat → Int32} {Q : Option Value → tw_Mem → Prop} : ∀ (f : Nat) (j : Nat) (σ : tw_Mem), j + f = 500 → (∀ τ : tw_Mem, (∀ k i, ¬ (k = 97 ∧ 500 + j ≤ i ∧ i < 1000) → τ k i = σ k i) → (∀ i, j ≤ i → i < 500 → τ 97 (i + 500) = σ 97 i) → Q none τ) → tw_P L xs 0 256 7 [.ref 97, .int (nI 0), .int (nI 500), .int (nI j)] [] σ Q := by
  intro f
  induction f with
  | zero =>
    intro j σ hf hQ
    refine tw_sg 2 (i1 := 9) (ls1 := [.ref 97, .int (nI 0), .int (nI 500), .int (nI j)]) (st1 := [.int (nI 500), .int (nI j)]) (σ1 := σ) rfl ?_
    refine tw_biT (c := .ge) rfl (by rw [tw_cge, tw_nle (by omega) (by omega)] <;> omega) ?_
    show tw_P L xs _ 256 31 [.ref 97, .int (nI 0), .int (nI 500), .int (nI j)] [] σ _
    refine tw_rv rfl ?_
    exact hQ σ (fun _ _ _ => rfl) (fun i h1 h2 => by omega)
  | succ f ih =>
    intro j σ hf hQ
    refine tw_sg 2 (i1 := 9) (ls1 := [.ref 97, .int (nI 0), .int (nI 500), .int (nI j)]) (st1 := [.int (nI 500), .int (nI j)]) (σ1 := σ) rfl ?_
    refine tw_biF (c := .ge) rfl (by rw [tw_cge', tw_nle (by omega) (by omega)] <;> omega) ?_
    show tw_P L xs _ 256 10 [.ref 97, .int (nI 0), .int (nI 500), .int (nI j)] [] σ _
    refine tw_sg 1 (i1 := 11) (ls1 := [.ref 97, .int (nI 0), .int (nI 500), .int (nI j)]) (st1 := [.int (nI 0)]) (σ1 := σ) rfl ?_
    refine tw_bzT (c := .eq) rfl (by rw [tw_ceq, tw_neq (by omega) (by omega)] <;> omega) ?_
    show tw_P L xs _ 256 21 [.ref 97, .int (nI 0), .int (nI 500), .int (nI j)] [] σ _
    refine tw_sgn 6 (i1 := 27) (ls0 := [.ref 97, .int (nI 0), .int (nI 500), .int (nI j)]) (st0 := [.int (nI j), .ref 97, .int (nI 500 + nI j), .ref 97]) (σ0 := σ) (ls1 := [.ref 97, .int (nI 0), .int (nI 500), .int (nI j)]) (st1 := [.int (nI j), .ref 97, .int (nI (500 + j)), .ref 97]) (σ1 := σ) rfl (rfl) (by simp only [tw_nadd, tw_nmul]) (rfl) ?_
    refine tw_al (k := 97) (j := j) (len := 1000) rfl rfl rfl rfl (rfl) (by omega) (by decide) ?_
    refine tw_as (k := 97) (j := (500 + j)) (len := 1000) rfl rfl rfl (rfl) (by omega) (by decide) ?_
    refine tw_sgn 2 (i1 := 7) (ls0 := [.ref 97, .int (nI 0), .int (nI 500), .int (nI j + nI 1)]) (st0 := []) (σ0 := (tw_upd σ 97 (500 + j) (σ 97 j))) (ls1 := [.ref 97, .int (nI 0), .int (nI 500), .int (nI (j + 1))]) (st1 := []) (σ1 := (tw_upd σ 97 (500 + j) (σ 97 j))) rfl (by simp only [tw_nadd, tw_nmul]) (rfl) (rfl) ?_
    refine ih (j + 1) _ (by omega) (fun τ h1 h2 => hQ τ (fun k i g => ?_) (fun i g1 g2 => ?_))
    · rw [h1 k i (by omega), tw_upd_off (by omega)]
    · by_cases hij : i = j
      · subst hij; rw [h1 _ _ (by omega)]; rw [Nat.add_comm i 500]; exact tw_upd_at
      · rw [h2 i (by omega) g2, tw_upd_off (by omega)]
set_option maxHeartbeats 4000000 in
set_option maxRecDepth 100000 in
theorem tw_e_cpi97  : tw_E L xs 0 256 [.ref 97, .int (nI 0)] σ (fun v τ => v = none ∧ (∀ i, i < 500 → τ 97 (i + 500) = σ 97 i) ∧ ∀ k i, ¬ (k = 97 ∧ 500 ≤ i ∧ i < 1000) → τ k i = σ k i) := by
  show tw_P L xs _ 256 0 [.ref 97, .int (nI 0), tw_U, tw_U] [] σ _
  refine tw_sg 3 (i1 := 3) (ls1 := [.ref 97, .int (nI 0), tw_U, tw_U]) (st1 := [.int (nI 2), .int (nI 1000)]) (σ1 := σ) rfl ?_
  refine tw_dv rfl (by decide) ?_
  rw [show nI 1000 / nI 2 = nI 500 by decide]
  refine tw_sg 3 (i1 := 7) (ls1 := [.ref 97, .int (nI 0), .int (nI 500), .int (nI 0)]) (st1 := []) (σ1 := σ) rfl ?_
  exact tw_l_cpi97 500 0 σ (by omega) (fun τ h1 h2 => ⟨rfl, fun i hi => h2 i (by omega) hi, fun k i g => h1 k i (by omega)⟩)
set_option maxHeartbeats 4000000 in
set_option maxRecDepth 100000 in
theorem tw_l_cpi98 {L : Nat} {xs : Nat → Int32} {Q : Option Value → tw_Mem → Prop} : ∀ (f : Nat) (j : Nat) (σ : tw_Mem), j + f = 500 → (∀ τ : tw_Mem, (∀ k i, ¬ (k = 98 ∧ 500 + j ≤ i ∧ i < 1000) → τ k i = σ k i) → (∀ i, j ≤ i → i < 500 → τ 98 (i + 500) = σ 98 i) → Q none τ) → tw_P L xs 0 256 7 [.ref 98, .int (nI 0), .int (nI 500), .int (nI j)] [] σ Q := by
  intro f
  induction f with
  | zero =>
    intro j σ hf hQ
    refine tw_sg 2 (i1 := 9) (ls1 := [.ref 98, .int (nI 0), .int (nI 500), .int (nI j)]) (st1 := [.int (nI 500), .int (nI j)]) (σ1 := σ) rfl ?_
    refine tw_biT (c := .ge) rfl (by rw [tw_cge, tw_nle (by omega) (by omega)] <;> omega) ?_
    show tw_P L xs _ 256 31 [.ref 98, .int (nI 0), .int (nI 500), .int (nI j)] [] σ _
    refine tw_rv rfl ?_
    exact hQ σ (fun _ _ _ => rfl) (fun i h1 h2 => by omega)
  | succ f ih =>
    intro j σ hf hQ
    refine tw_sg 2 (i1 := 9) (ls1 := [.ref 98, .int (nI 0), .int (nI 500), .int (nI j)]) (st1 := [.int (nI 500), .int (nI j)]) (σ1 := σ) rfl ?_
    refine tw_biF (c := .ge) rfl (by rw [tw_cge', tw_nle (by omega) (by omega)] <;> omega) ?_
    show tw_P L xs _ 256 10 [.ref 98, .int (nI 0), .int (nI 500), .int (nI j)] [] σ _
    refine tw_sg 1 (i1 := 11) (ls1 := [.ref 98, .int (nI 0), .int (nI 500), .int (nI j)]) (st1 := [.int (nI 0)]) (σ1 := σ) rfl ?_
    refine tw_bzT (c := .eq) rfl (by rw [tw_ceq, tw_neq (by omega) (by omega)] <;> omega) ?_
    show tw_P L xs _ 256 21 [.ref 98, .int (nI 0), .int (nI 500), .int (nI j)] [] σ _
    refine tw_sgn 6 (i1 := 27) (ls0 := [.ref 98, .int (nI 0), .int (nI 500), .int (nI j)]) (st0 := [.int (nI j), .ref 98, .int (nI 500 + nI j), .ref 98]) (σ0 := σ) (ls1 := [.ref 98, .int (nI 0), .int (nI 500), .int (nI j)]) (st1 := [.int (nI j), .ref 98, .int (nI (500 + j)), .ref 98]) (σ1 := σ) rfl (rfl) (by simp only [tw_nadd, tw_nmul]) (rfl) ?_
    refine tw_al (k := 98) (j := j) (len := 1000) rfl rfl rfl rfl (rfl) (by omega) (by decide) ?_
    refine tw_as (k := 98) (j := (500 + j)) (len := 1000) rfl rfl rfl (rfl) (by omega) (by decide) ?_
    refine tw_sgn 2 (i1 := 7) (ls0 := [.ref 98, .int (nI 0), .int (nI 500), .int (nI j + nI 1)]) (st0 := []) (σ0 := (tw_upd σ 98 (500 + j) (σ 98 j))) (ls1 := [.ref 98, .int (nI 0), .int (nI 500), .int (nI (j + 1))]) (st1 := []) (σ1 := (tw_upd σ 98 (500 + j) (σ 98 j))) rfl (by simp only [tw_nadd, tw_nmul]) (rfl) (rfl) ?_
    refine ih (j + 1) _ (by omega) (fun τ h1 h2 => hQ τ (fun k i g => ?_) (fun i g1 g2 => ?_))
    · rw [h1 k i (by omega), tw_upd_off (by omega)]
    · by_cases hij : i = j
      · subst hij; rw [h1 _ _ (by omega)]; rw [Nat.add_comm i 500]; exact tw_upd_at
      · rw [h2 i (by omega) g2, tw_upd_off (by omega)]
set_option maxHeartbeats 4000000 in
set_option maxRecDepth 100000 in
theorem tw_e_cpi98  : tw_E L xs 0 256 [.ref 98, .int (nI 0)] σ (fun v τ => v = none ∧ (∀ i, i < 500 → τ 98 (i + 500) = σ 98 i) ∧ ∀ k i, ¬ (k = 98 ∧ 500 ≤ i ∧ i < 1000) → τ k i = σ k i) := by
  show tw_P L xs _ 256 0 [.ref 98, .int (nI 0), tw_U, tw_U] [] σ _
  refine tw_sg 3 (i1 := 3) (ls1 := [.ref 98, .int (nI 0), tw_U, tw_U]) (st1 := [.int (nI 2), .int (nI 1000)]) (σ1 := σ) rfl ?_
  refine tw_dv rfl (by decide) ?_
  rw [show nI 1000 / nI 2 = nI 500 by decide]
  refine tw_sg 3 (i1 := 7) (ls1 := [.ref 98, .int (nI 0), .int (nI 500), .int (nI 0)]) (st1 := []) (σ1 := σ) rfl ?_
  exact tw_l_cpi98 500 0 σ (by omega) (fun τ h1 h2 => ⟨rfl, fun i hi => h2 i (by omega) hi, fun k i g => h1 k i (by omega)⟩)
set_option maxHeartbeats 4000000 in
set_option maxRecDepth 100000 in
theorem tw_l_cpi99 {L : Nat} {xs : Nat → Int32} {Q : Option Value → tw_Mem → Prop} : ∀ (f : Nat) (j : Nat) (σ : tw_Mem), j + f = 80 → (∀ τ : tw_Mem, (∀ k i, ¬ (k = 99 ∧ 80 + j ≤ i ∧ i < 160) → τ k i = σ k i) → (∀ i, j ≤ i → i < 80 → τ 99 (i + 80) = σ 99 i) → Q none τ) → tw_P L xs 0 256 7 [.ref 99, .int (nI 0), .int (nI 80), .int (nI j)] [] σ Q := by
  intro f
  induction f with
  | zero =>
    intro j σ hf hQ
    refine tw_sg 2 (i1 := 9) (ls1 := [.ref 99, .int (nI 0), .int (nI 80), .int (nI j)]) (st1 := [.int (nI 80), .int (nI j)]) (σ1 := σ) rfl ?_
    refine tw_biT (c := .ge) rfl (by rw [tw_cge, tw_nle (by omega) (by omega)] <;> omega) ?_
    show tw_P L xs _ 256 31 [.ref 99, .int (nI 0), .int (nI 80), .int (nI j)] [] σ _
    refine tw_rv rfl ?_
    exact hQ σ (fun _ _ _ => rfl) (fun i h1 h2 => by omega)
  | succ f ih =>
    intro j σ hf hQ
    refine tw_sg 2 (i1 := 9) (ls1 := [.ref 99, .int (nI 0), .int (nI 80), .int (nI j)]) (st1 := [.int (nI 80), .int (nI j)]) (σ1 := σ) rfl ?_
    refine tw_biF (c := .ge) rfl (by rw [tw_cge', tw_nle (by omega) (by omega)] <;> omega) ?_
    show tw_P L xs _ 256 10 [.ref 99, .int (nI 0), .int (nI 80), .int (nI j)] [] σ _
    refine tw_sg 1 (i1 := 11) (ls1 := [.ref 99, .int (nI 0), .int (nI 80), .int (nI j)]) (st1 := [.int (nI 0)]) (σ1 := σ) rfl ?_
    refine tw_bzT (c := .eq) rfl (by rw [tw_ceq, tw_neq (by omega) (by omega)] <;> omega) ?_
    show tw_P L xs _ 256 21 [.ref 99, .int (nI 0), .int (nI 80), .int (nI j)] [] σ _
    refine tw_sgn 6 (i1 := 27) (ls0 := [.ref 99, .int (nI 0), .int (nI 80), .int (nI j)]) (st0 := [.int (nI j), .ref 99, .int (nI 80 + nI j), .ref 99]) (σ0 := σ) (ls1 := [.ref 99, .int (nI 0), .int (nI 80), .int (nI j)]) (st1 := [.int (nI j), .ref 99, .int (nI (80 + j)), .ref 99]) (σ1 := σ) rfl (rfl) (by simp only [tw_nadd, tw_nmul]) (rfl) ?_
    refine tw_al (k := 99) (j := j) (len := 160) rfl rfl rfl rfl (rfl) (by omega) (by decide) ?_
    refine tw_as (k := 99) (j := (80 + j)) (len := 160) rfl rfl rfl (rfl) (by omega) (by decide) ?_
    refine tw_sgn 2 (i1 := 7) (ls0 := [.ref 99, .int (nI 0), .int (nI 80), .int (nI j + nI 1)]) (st0 := []) (σ0 := (tw_upd σ 99 (80 + j) (σ 99 j))) (ls1 := [.ref 99, .int (nI 0), .int (nI 80), .int (nI (j + 1))]) (st1 := []) (σ1 := (tw_upd σ 99 (80 + j) (σ 99 j))) rfl (by simp only [tw_nadd, tw_nmul]) (rfl) (rfl) ?_
    refine ih (j + 1) _ (by omega) (fun τ h1 h2 => hQ τ (fun k i g => ?_) (fun i g1 g2 => ?_))
    · rw [h1 k i (by omega), tw_upd_off (by omega)]
    · by_cases hij : i = j
      · subst hij; rw [h1 _ _ (by omega)]; rw [Nat.add_comm i 80]; exact tw_upd_at
      · rw [h2 i (by omega) g2, tw_upd_off (by omega)]
set_option maxHeartbeats 4000000 in
set_option maxRecDepth 100000 in
theorem tw_e_cpi99  : tw_E L xs 0 256 [.ref 99, .int (nI 0)] σ (fun v τ => v = none ∧ (∀ i, i < 80 → τ 99 (i + 80) = σ 99 i) ∧ ∀ k i, ¬ (k = 99 ∧ 80 ≤ i ∧ i < 160) → τ k i = σ k i) := by
  show tw_P L xs _ 256 0 [.ref 99, .int (nI 0), tw_U, tw_U] [] σ _
  refine tw_sg 3 (i1 := 3) (ls1 := [.ref 99, .int (nI 0), tw_U, tw_U]) (st1 := [.int (nI 2), .int (nI 160)]) (σ1 := σ) rfl ?_
  refine tw_dv rfl (by decide) ?_
  rw [show nI 160 / nI 2 = nI 80 by decide]
  refine tw_sg 3 (i1 := 7) (ls1 := [.ref 99, .int (nI 0), .int (nI 80), .int (nI 0)]) (st1 := []) (σ1 := σ) rfl ?_
  exact tw_l_cpi99 80 0 σ (by omega) (fun τ h1 h2 => ⟨rfl, fun i hi => h2 i (by omega) hi, fun k i g => h1 k i (by omega)⟩)
set_option maxHeartbeats 4000000 in
set_option maxRecDepth 100000 in
theorem tw_l_cpi100 {L : Nat} {xs : Nat → Int32} {Q : Option Value → tw_Mem → Prop} : ∀ (f : Nat) (j : Nat) (σ : tw_Mem), j + f = 80 → (∀ τ : tw_Mem, (∀ k i, ¬ (k = 100 ∧ 80 + j ≤ i ∧ i < 160) → τ k i = σ k i) → (∀ i, j ≤ i → i < 80 → τ 100 (i + 80) = σ 100 i) → Q none τ) → tw_P L xs 0 256 7 [.ref 100, .int (nI 0), .int (nI 80), .int (nI j)] [] σ Q := by
  intro f
  induction f with
  | zero =>
    intro j σ hf hQ
    refine tw_sg 2 (i1 := 9) (ls1 := [.ref 100, .int (nI 0), .int (nI 80), .int (nI j)]) (st1 := [.int (nI 80), .int (nI j)]) (σ1 := σ) rfl ?_
    refine tw_biT (c := .ge) rfl (by rw [tw_cge, tw_nle (by omega) (by omega)] <;> omega) ?_
    show tw_P L xs _ 256 31 [.ref 100, .int (nI 0), .int (nI 80), .int (nI j)] [] σ _
    refine tw_rv rfl ?_
    exact hQ σ (fun _ _ _ => rfl) (fun i h1 h2 => by omega)
  | succ f ih =>
    intro j σ hf hQ
    refine tw_sg 2 (i1 := 9) (ls1 := [.ref 100, .int (nI 0), .int (nI 80), .int (nI j)]) (st1 := [.int (nI 80), .int (nI j)]) (σ1 := σ) rfl ?_
    refine tw_biF (c := .ge) rfl (by rw [tw_cge', tw_nle (by omega) (by omega)] <;> omega) ?_
    show tw_P L xs _ 256 10 [.ref 100, .int (nI 0), .int (nI 80), .int (nI j)] [] σ _
    refine tw_sg 1 (i1 := 11) (ls1 := [.ref 100, .int (nI 0), .int (nI 80), .int (nI j)]) (st1 := [.int (nI 0)]) (σ1 := σ) rfl ?_
    refine tw_bzT (c := .eq) rfl (by rw [tw_ceq, tw_neq (by omega) (by omega)] <;> omega) ?_
    show tw_P L xs _ 256 21 [.ref 100, .int (nI 0), .int (nI 80), .int (nI j)] [] σ _
    refine tw_sgn 6 (i1 := 27) (ls0 := [.ref 100, .int (nI 0), .int (nI 80), .int (nI j)]) (st0 := [.int (nI j), .ref 100, .int (nI 80 + nI j), .ref 100]) (σ0 := σ) (ls1 := [.ref 100, .int (nI 0), .int (nI 80), .int (nI j)]) (st1 := [.int (nI j), .ref 100, .int (nI (80 + j)), .ref 100]) (σ1 := σ) rfl (rfl) (by simp only [tw_nadd, tw_nmul]) (rfl) ?_
    refine tw_al (k := 100) (j := j) (len := 160) rfl rfl rfl rfl (rfl) (by omega) (by decide) ?_
    refine tw_as (k := 100) (j := (80 + j)) (len := 160) rfl rfl rfl (rfl) (by omega) (by decide) ?_
    refine tw_sgn 2 (i1 := 7) (ls0 := [.ref 100, .int (nI 0), .int (nI 80), .int (nI j + nI 1)]) (st0 := []) (σ0 := (tw_upd σ 100 (80 + j) (σ 100 j))) (ls1 := [.ref 100, .int (nI 0), .int (nI 80), .int (nI (j + 1))]) (st1 := []) (σ1 := (tw_upd σ 100 (80 + j) (σ 100 j))) rfl (by simp only [tw_nadd, tw_nmul]) (rfl) (rfl) ?_
    refine ih (j + 1) _ (by omega) (fun τ h1 h2 => hQ τ (fun k i g => ?_) (fun i g1 g2 => ?_))
    · rw [h1 k i (by omega), tw_upd_off (by omega)]
    · by_cases hij : i = j
      · subst hij; rw [h1 _ _ (by omega)]; rw [Nat.add_comm i 80]; exact tw_upd_at
      · rw [h2 i (by omega) g2, tw_upd_off (by omega)]
set_option maxHeartbeats 4000000 in
set_option maxRecDepth 100000 in
theorem tw_e_cpi100  : tw_E L xs 0 256 [.ref 100, .int (nI 0)] σ (fun v τ => v = none ∧ (∀ i, i < 80 → τ 100 (i + 80) = σ 100 i) ∧ ∀ k i, ¬ (k = 100 ∧ 80 ≤ i ∧ i < 160) → τ k i = σ k i) := by
  show tw_P L xs _ 256 0 [.ref 100, .int (nI 0), tw_U, tw_U] [] σ _
  refine tw_sg 3 (i1 := 3) (ls1 := [.ref 100, .int (nI 0), tw_U, tw_U]) (st1 := [.int (nI 2), .int (nI 160)]) (σ1 := σ) rfl ?_
  refine tw_dv rfl (by decide) ?_
  rw [show nI 160 / nI 2 = nI 80 by decide]
  refine tw_sg 3 (i1 := 7) (ls1 := [.ref 100, .int (nI 0), .int (nI 80), .int (nI 0)]) (st1 := []) (σ1 := σ) rfl ?_
  exact tw_l_cpi100 80 0 σ (by omega) (fun τ h1 h2 => ⟨rfl, fun i hi => h2 i (by omega) hi, fun k i g => h1 k i (by omega)⟩)
set_option maxHeartbeats 4000000 in
set_option maxRecDepth 100000 in
theorem tw_l_cpi101 {L : Nat} {xs : Nat → Int32} {Q : Option Value → tw_Mem → Prop} : ∀ (f : Nat) (j : Nat) (σ : tw_Mem), j + f = 80 → (∀ τ : tw_Mem, (∀ k i, ¬ (k = 101 ∧ 80 + j ≤ i ∧ i < 160) → τ k i = σ k i) → (∀ i, j ≤ i → i < 80 → τ 101 (i + 80) = σ 101 i) → Q none τ) → tw_P L xs 0 256 7 [.ref 101, .int (nI 0), .int (nI 80), .int (nI j)] [] σ Q := by
  intro f
  induction f with
  | zero =>
    intro j σ hf hQ
    refine tw_sg 2 (i1 := 9) (ls1 := [.ref 101, .int (nI 0), .int (nI 80), .int (nI j)]) (st1 := [.int (nI 80), .int (nI j)]) (σ1 := σ) rfl ?_
    refine tw_biT (c := .ge) rfl (by rw [tw_cge, tw_nle (by omega) (by omega)] <;> omega) ?_
    show tw_P L xs _ 256 31 [.ref 101, .int (nI 0), .int (nI 80), .int (nI j)] [] σ _
    refine tw_rv rfl ?_
    exact hQ σ (fun _ _ _ => rfl) (fun i h1 h2 => by omega)
  | succ f ih =>
    intro j σ hf hQ
    refine tw_sg 2 (i1 := 9) (ls1 := [.ref 101, .int (nI 0), .int (nI 80), .int (nI j)]) (st1 := [.int (nI 80), .int (nI j)]) (σ1 := σ) rfl ?_
    refine tw_biF (c := .ge) rfl (by rw [tw_cge', tw_nle (by omega) (by omega)] <;> omega) ?_
    show tw_P L xs _ 256 10 [.ref 101, .int (nI 0), .int (nI 80), .int (nI j)] [] σ _
    refine tw_sg 1 (i1 := 11) (ls1 := [.ref 101, .int (nI 0), .int (nI 80), .int (nI j)]) (st1 := [.int (nI 0)]) (σ1 := σ) rfl ?_
    refine tw_bzT (c := .eq) rfl (by rw [tw_ceq, tw_neq (by omega) (by omega)] <;> omega) ?_
    show tw_P L xs _ 256 21 [.ref 101, .int (nI 0), .int (nI 80), .int (nI j)] [] σ _
    refine tw_sgn 6 (i1 := 27) (ls0 := [.ref 101, .int (nI 0), .int (nI 80), .int (nI j)]) (st0 := [.int (nI j), .ref 101, .int (nI 80 + nI j), .ref 101]) (σ0 := σ) (ls1 := [.ref 101, .int (nI 0), .int (nI 80), .int (nI j)]) (st1 := [.int (nI j), .ref 101, .int (nI (80 + j)), .ref 101]) (σ1 := σ) rfl (rfl) (by simp only [tw_nadd, tw_nmul]) (rfl) ?_
    refine tw_al (k := 101) (j := j) (len := 160) rfl rfl rfl rfl (rfl) (by omega) (by decide) ?_
    refine tw_as (k := 101) (j := (80 + j)) (len := 160) rfl rfl rfl (rfl) (by omega) (by decide) ?_
    refine tw_sgn 2 (i1 := 7) (ls0 := [.ref 101, .int (nI 0), .int (nI 80), .int (nI j + nI 1)]) (st0 := []) (σ0 := (tw_upd σ 101 (80 + j) (σ 101 j))) (ls1 := [.ref 101, .int (nI 0), .int (nI 80), .int (nI (j + 1))]) (st1 := []) (σ1 := (tw_upd σ 101 (80 + j) (σ 101 j))) rfl (by simp only [tw_nadd, tw_nmul]) (rfl) (rfl) ?_
    refine ih (j + 1) _ (by omega) (fun τ h1 h2 => hQ τ (fun k i g => ?_) (fun i g1 g2 => ?_))
    · rw [h1 k i (by omega), tw_upd_off (by omega)]
    · by_cases hij : i = j
      · subst hij; rw [h1 _ _ (by omega)]; rw [Nat.add_comm i 80]; exact tw_upd_at
      · rw [h2 i (by omega) g2, tw_upd_off (by omega)]
set_option maxHeartbeats 4000000 in
set_option maxRecDepth 100000 in
theorem tw_e_cpi101  : tw_E L xs 0 256 [.ref 101, .int (nI 0)] σ (fun v τ => v = none ∧ (∀ i, i < 80 → τ 101 (i + 80) = σ 101 i) ∧ ∀ k i, ¬ (k = 101 ∧ 80 ≤ i ∧ i < 160) → τ k i = σ k i) := by
  show tw_P L xs _ 256 0 [.ref 101, .int (nI 0), tw_U, tw_U] [] σ _
  refine tw_sg 3 (i1 := 3) (ls1 := [.ref 101, .int (nI 0), tw_U, tw_U]) (st1 := [.int (nI 2), .int (nI 160)]) (σ1 := σ) rfl ?_
  refine tw_dv rfl (by decide) ?_
  rw [show nI 160 / nI 2 = nI 80 by decide]
  refine tw_sg 3 (i1 := 7) (ls1 := [.ref 101, .int (nI 0), .int (nI 80), .int (nI 0)]) (st1 := []) (σ1 := σ) rfl ?_
  exact tw_l_cpi101 80 0 σ (by omega) (fun τ h1 h2 => ⟨rfl, fun i hi => h2 i (by omega) hi, fun k i g => h1 k i (by omega)⟩)
set_option maxHeartbeats 4000000 in
set_option maxRecDepth 100000 in
theorem tw_l_cpi102 {L : Nat} {xs : Nat → Int32} {Q : Option Value → tw_Mem → Prop} : ∀ (f : Nat) (j : Nat) (σ : tw_Mem), j + f = 80 → (∀ τ : tw_Mem, (∀ k i, ¬ (k = 102 ∧ 80 + j ≤ i ∧ i < 160) → τ k i = σ k i) → (∀ i, j ≤ i → i < 80 → τ 102 (i + 80) = σ 102 i) → Q none τ) → tw_P L xs 0 256 7 [.ref 102, .int (nI 0), .int (nI 80), .int (nI j)] [] σ Q := by
  intro f
  induction f with
  | zero =>
    intro j σ hf hQ
    refine tw_sg 2 (i1 := 9) (ls1 := [.ref 102, .int (nI 0), .int (nI 80), .int (nI j)]) (st1 := [.int (nI 80), .int (nI j)]) (σ1 := σ) rfl ?_
    refine tw_biT (c := .ge) rfl (by rw [tw_cge, tw_nle (by omega) (by omega)] <;> omega) ?_
    show tw_P L xs _ 256 31 [.ref 102, .int (nI 0), .int (nI 80), .int (nI j)] [] σ _
    refine tw_rv rfl ?_
    exact hQ σ (fun _ _ _ => rfl) (fun i h1 h2 => by omega)
  | succ f ih =>
    intro j σ hf hQ
    refine tw_sg 2 (i1 := 9) (ls1 := [.ref 102, .int (nI 0), .int (nI 80), .int (nI j)]) (st1 := [.int (nI 80), .int (nI j)]) (σ1 := σ) rfl ?_
    refine tw_biF (c := .ge) rfl (by rw [tw_cge', tw_nle (by omega) (by omega)] <;> omega) ?_
    show tw_P L xs _ 256 10 [.ref 102, .int (nI 0), .int (nI 80), .int (nI j)] [] σ _
    refine tw_sg 1 (i1 := 11) (ls1 := [.ref 102, .int (nI 0), .int (nI 80), .int (nI j)]) (st1 := [.int (nI 0)]) (σ1 := σ) rfl ?_
    refine tw_bzT (c := .eq) rfl (by rw [tw_ceq, tw_neq (by omega) (by omega)] <;> omega) ?_
    show tw_P L xs _ 256 21 [.ref 102, .int (nI 0), .int (nI 80), .int (nI j)] [] σ _
    refine tw_sgn 6 (i1 := 27) (ls0 := [.ref 102, .int (nI 0), .int (nI 80), .int (nI j)]) (st0 := [.int (nI j), .ref 102, .int (nI 80 + nI j), .ref 102]) (σ0 := σ) (ls1 := [.ref 102, .int (nI 0), .int (nI 80), .int (nI j)]) (st1 := [.int (nI j), .ref 102, .int (nI (80 + j)), .ref 102]) (σ1 := σ) rfl (rfl) (by simp only [tw_nadd, tw_nmul]) (rfl) ?_
    refine tw_al (k := 102) (j := j) (len := 160) rfl rfl rfl rfl (rfl) (by omega) (by decide) ?_
    refine tw_as (k := 102) (j := (80 + j)) (len := 160) rfl rfl rfl (rfl) (by omega) (by decide) ?_
    refine tw_sgn 2 (i1 := 7) (ls0 := [.ref 102, .int (nI 0), .int (nI 80), .int (nI j + nI 1)]) (st0 := []) (σ0 := (tw_upd σ 102 (80 + j) (σ 102 j))) (ls1 := [.ref 102, .int (nI 0), .int (nI 80), .int (nI (j + 1))]) (st1 := []) (σ1 := (tw_upd σ 102 (80 + j) (σ 102 j))) rfl (by simp only [tw_nadd, tw_nmul]) (rfl) (rfl) ?_
    refine ih (j + 1) _ (by omega) (fun τ h1 h2 => hQ τ (fun k i g => ?_) (fun i g1 g2 => ?_))
    · rw [h1 k i (by omega), tw_upd_off (by omega)]
    · by_cases hij : i = j
      · subst hij; rw [h1 _ _ (by omega)]; rw [Nat.add_comm i 80]; exact tw_upd_at
      · rw [h2 i (by omega) g2, tw_upd_off (by omega)]
set_option maxHeartbeats 4000000 in
set_option maxRecDepth 100000 in
theorem tw_e_cpi102  : tw_E L xs 0 256 [.ref 102, .int (nI 0)] σ (fun v τ => v = none ∧ (∀ i, i < 80 → τ 102 (i + 80) = σ 102 i) ∧ ∀ k i, ¬ (k = 102 ∧ 80 ≤ i ∧ i < 160) → τ k i = σ k i) := by
  show tw_P L xs _ 256 0 [.ref 102, .int (nI 0), tw_U, tw_U] [] σ _
  refine tw_sg 3 (i1 := 3) (ls1 := [.ref 102, .int (nI 0), tw_U, tw_U]) (st1 := [.int (nI 2), .int (nI 160)]) (σ1 := σ) rfl ?_
  refine tw_dv rfl (by decide) ?_
  rw [show nI 160 / nI 2 = nI 80 by decide]
  refine tw_sg 3 (i1 := 7) (ls1 := [.ref 102, .int (nI 0), .int (nI 80), .int (nI 0)]) (st1 := []) (σ1 := σ) rfl ?_
  exact tw_l_cpi102 80 0 σ (by omega) (fun τ h1 h2 => ⟨rfl, fun i hi => h2 i (by omega) hi, fun k i g => h1 k i (by omega)⟩)
def tw_cpDi (σ0 σ : tw_Mem) (M : Nat) : Prop := (∀ k j j2, k < M → tw_fmL k j j2 → σ k j2 = σ0 k j) ∧ ∀ k j, ¬ (k < M ∧ tw_fmU k j) → σ k j = σ0 k j
theorem tw_cpDi.step {σ0 σ τ : tw_Mem} {M h : Nat} (hM : tw_hfs M h) (H : tw_cpDi σ0 σ M) (a : (∀ i, i < h → τ M (i + h) = σ M i) ∧ ∀ k i, ¬ (k = M ∧ h ≤ i ∧ i < h + h) → τ k i = σ k i) : tw_cpDi σ0 τ (M + 1) := by
  obtain ⟨a1, a2⟩ := a
  unfold tw_hfs at hM
  refine ⟨fun k j j2 hk hf => ?_, fun k j g => ?_⟩
  · have hf0 := hf
    unfold tw_fmL at hf0
    by_cases z : k = M
    · subst z
      have e : j2 = j + h := by omega
      subst e
      rw [a1 j (by omega)]
      exact H.2 _ _ (by omega)
    · rw [a2 _ _ (by omega)]
      exact H.1 k j j2 (by omega) hf
  · rw [a2 k j (by unfold tw_fmU at g; omega)]
    exact H.2 k j (by unfold tw_fmU at g ⊢; omega)
set_option maxHeartbeats 4000000 in
set_option maxRecDepth 100000 in
theorem tw_e_cpDi  : tw_E L xs 1 257 [.ref 88, .int (nI 0)] σ (fun v τ => v = none ∧ tw_cpDi σ τ 103) := by
  have h88 : tw_cpDi σ σ 89 := ⟨fun k j j2 h1 h2 => by unfold tw_fmL at h2; omega, fun _ _ _ => rfl⟩
  show tw_P L xs _ 257 0 [.ref 88, .int (nI 0)] [] σ _
  refine tw_sg 3 (i1 := 3) (ls1 := [.ref 88, .int (nI 0)]) (st1 := [.int (nI 0), .ref 89]) (σ1 := σ) rfl ?_
  refine tw_cl1 rfl (rfl) (by decide) (tw_e_cpi89) ?_
  rintro _ σ89 ⟨rfl, g89⟩
  show tw_P L xs _ 257 4 [.ref 88, .int (nI 0)] [] σ89 _
  have h89 : tw_cpDi σ σ89 90 := tw_cpDi.step (M := 89) (h := 1) (by unfold tw_hfs; omega) h88 ⟨g89.1, fun k i g => g89.2 k i (by omega)⟩
  refine tw_sg 3 (i1 := 7) (ls1 := [.ref 88, .int (nI 0)]) (st1 := [.int (nI 0), .ref 90]) (σ1 := σ89) rfl ?_
  refine tw_cl1 rfl (rfl) (by decide) (tw_e_cpi90) ?_
  rintro _ σ90 ⟨rfl, g90⟩
  show tw_P L xs _ 257 8 [.ref 88, .int (nI 0)] [] σ90 _
  have h90 : tw_cpDi σ σ90 91 := tw_cpDi.step (M := 90) (h := 1) (by unfold tw_hfs; omega) h89 ⟨g90.1, fun k i g => g90.2 k i (by omega)⟩
  refine tw_sg 3 (i1 := 11) (ls1 := [.ref 88, .int (nI 0)]) (st1 := [.int (nI 0), .ref 91]) (σ1 := σ90) rfl ?_
  refine tw_cl1 rfl (rfl) (by decide) (tw_e_cpi91) ?_
  rintro _ σ91 ⟨rfl, g91⟩
  show tw_P L xs _ 257 12 [.ref 88, .int (nI 0)] [] σ91 _
  have h91 : tw_cpDi σ σ91 92 := tw_cpDi.step (M := 91) (h := 40) (by unfold tw_hfs; omega) h90 ⟨g91.1, fun k i g => g91.2 k i (by omega)⟩
  refine tw_sg 3 (i1 := 15) (ls1 := [.ref 88, .int (nI 0)]) (st1 := [.int (nI 0), .ref 92]) (σ1 := σ91) rfl ?_
  refine tw_cl1 rfl (rfl) (by decide) (tw_e_cpi92) ?_
  rintro _ σ92 ⟨rfl, g92⟩
  show tw_P L xs _ 257 16 [.ref 88, .int (nI 0)] [] σ92 _
  have h92 : tw_cpDi σ σ92 93 := tw_cpDi.step (M := 92) (h := 10) (by unfold tw_hfs; omega) h91 ⟨g92.1, fun k i g => g92.2 k i (by omega)⟩
  refine tw_sg 3 (i1 := 19) (ls1 := [.ref 88, .int (nI 0)]) (st1 := [.int (nI 0), .ref 93]) (σ1 := σ92) rfl ?_
  refine tw_cl1 rfl (rfl) (by decide) (tw_e_cpi93) ?_
  rintro _ σ93 ⟨rfl, g93⟩
  show tw_P L xs _ 257 20 [.ref 88, .int (nI 0)] [] σ93 _
  have h93 : tw_cpDi σ σ93 94 := tw_cpDi.step (M := 93) (h := 10) (by unfold tw_hfs; omega) h92 ⟨g93.1, fun k i g => g93.2 k i (by omega)⟩
  refine tw_sg 3 (i1 := 23) (ls1 := [.ref 88, .int (nI 0)]) (st1 := [.int (nI 0), .ref 94]) (σ1 := σ93) rfl ?_
  refine tw_cl1 rfl (rfl) (by decide) (tw_e_cpi94) ?_
  rintro _ σ94 ⟨rfl, g94⟩
  show tw_P L xs _ 257 24 [.ref 88, .int (nI 0)] [] σ94 _
  have h94 : tw_cpDi σ σ94 95 := tw_cpDi.step (M := 94) (h := 10) (by unfold tw_hfs; omega) h93 ⟨g94.1, fun k i g => g94.2 k i (by omega)⟩
  refine tw_sg 3 (i1 := 27) (ls1 := [.ref 88, .int (nI 0)]) (st1 := [.int (nI 0), .ref 95]) (σ1 := σ94) rfl ?_
  refine tw_cl1 rfl (rfl) (by decide) (tw_e_cpi95) ?_
  rintro _ σ95 ⟨rfl, g95⟩
  show tw_P L xs _ 257 28 [.ref 88, .int (nI 0)] [] σ95 _
  have h95 : tw_cpDi σ σ95 96 := tw_cpDi.step (M := 95) (h := 500) (by unfold tw_hfs; omega) h94 ⟨g95.1, fun k i g => g95.2 k i (by omega)⟩
  refine tw_sg 3 (i1 := 31) (ls1 := [.ref 88, .int (nI 0)]) (st1 := [.int (nI 0), .ref 96]) (σ1 := σ95) rfl ?_
  refine tw_cl1 rfl (rfl) (by decide) (tw_e_cpi96) ?_
  rintro _ σ96 ⟨rfl, g96⟩
  show tw_P L xs _ 257 32 [.ref 88, .int (nI 0)] [] σ96 _
  have h96 : tw_cpDi σ σ96 97 := tw_cpDi.step (M := 96) (h := 500) (by unfold tw_hfs; omega) h95 ⟨g96.1, fun k i g => g96.2 k i (by omega)⟩
  refine tw_sg 3 (i1 := 35) (ls1 := [.ref 88, .int (nI 0)]) (st1 := [.int (nI 0), .ref 97]) (σ1 := σ96) rfl ?_
  refine tw_cl1 rfl (rfl) (by decide) (tw_e_cpi97) ?_
  rintro _ σ97 ⟨rfl, g97⟩
  show tw_P L xs _ 257 36 [.ref 88, .int (nI 0)] [] σ97 _
  have h97 : tw_cpDi σ σ97 98 := tw_cpDi.step (M := 97) (h := 500) (by unfold tw_hfs; omega) h96 ⟨g97.1, fun k i g => g97.2 k i (by omega)⟩
  refine tw_sg 3 (i1 := 39) (ls1 := [.ref 88, .int (nI 0)]) (st1 := [.int (nI 0), .ref 98]) (σ1 := σ97) rfl ?_
  refine tw_cl1 rfl (rfl) (by decide) (tw_e_cpi98) ?_
  rintro _ σ98 ⟨rfl, g98⟩
  show tw_P L xs _ 257 40 [.ref 88, .int (nI 0)] [] σ98 _
  have h98 : tw_cpDi σ σ98 99 := tw_cpDi.step (M := 98) (h := 500) (by unfold tw_hfs; omega) h97 ⟨g98.1, fun k i g => g98.2 k i (by omega)⟩
  refine tw_sg 3 (i1 := 43) (ls1 := [.ref 88, .int (nI 0)]) (st1 := [.int (nI 0), .ref 99]) (σ1 := σ98) rfl ?_
  refine tw_cl1 rfl (rfl) (by decide) (tw_e_cpi99) ?_
  rintro _ σ99 ⟨rfl, g99⟩
  show tw_P L xs _ 257 44 [.ref 88, .int (nI 0)] [] σ99 _
  have h99 : tw_cpDi σ σ99 100 := tw_cpDi.step (M := 99) (h := 80) (by unfold tw_hfs; omega) h98 ⟨g99.1, fun k i g => g99.2 k i (by omega)⟩
  refine tw_sg 3 (i1 := 47) (ls1 := [.ref 88, .int (nI 0)]) (st1 := [.int (nI 0), .ref 100]) (σ1 := σ99) rfl ?_
  refine tw_cl1 rfl (rfl) (by decide) (tw_e_cpi100) ?_
  rintro _ σ100 ⟨rfl, g100⟩
  show tw_P L xs _ 257 48 [.ref 88, .int (nI 0)] [] σ100 _
  have h100 : tw_cpDi σ σ100 101 := tw_cpDi.step (M := 100) (h := 80) (by unfold tw_hfs; omega) h99 ⟨g100.1, fun k i g => g100.2 k i (by omega)⟩
  refine tw_sg 3 (i1 := 51) (ls1 := [.ref 88, .int (nI 0)]) (st1 := [.int (nI 0), .ref 101]) (σ1 := σ100) rfl ?_
  refine tw_cl1 rfl (rfl) (by decide) (tw_e_cpi101) ?_
  rintro _ σ101 ⟨rfl, g101⟩
  show tw_P L xs _ 257 52 [.ref 88, .int (nI 0)] [] σ101 _
  have h101 : tw_cpDi σ σ101 102 := tw_cpDi.step (M := 101) (h := 80) (by unfold tw_hfs; omega) h100 ⟨g101.1, fun k i g => g101.2 k i (by omega)⟩
  refine tw_sg 3 (i1 := 55) (ls1 := [.ref 88, .int (nI 0)]) (st1 := [.int (nI 0), .ref 102]) (σ1 := σ101) rfl ?_
  refine tw_cl1 rfl (rfl) (by decide) (tw_e_cpi102) ?_
  rintro _ σ102 ⟨rfl, g102⟩
  show tw_P L xs _ 257 56 [.ref 88, .int (nI 0)] [] σ102 _
  have h102 : tw_cpDi σ σ102 103 := tw_cpDi.step (M := 102) (h := 80) (by unfold tw_hfs; omega) h101 ⟨g102.1, fun k i g => g102.2 k i (by omega)⟩
  refine tw_rv rfl ?_
  exact ⟨rfl, h102⟩
set_option maxHeartbeats 4000000 in
set_option maxRecDepth 100000 in
theorem tw_l_cpu89 {L : Nat} {xs : Nat → Int32} {Q : Option Value → tw_Mem → Prop} : ∀ (f : Nat) (j : Nat) (σ : tw_Mem), j + f = 1 → (∀ τ : tw_Mem, (∀ k i, ¬ (k = 89 ∧ j ≤ i ∧ i < 1) → τ k i = σ k i) → (∀ i, j ≤ i → i < 1 → τ 89 i = σ 89 (i + 1)) → Q none τ) → tw_P L xs 0 256 7 [.ref 89, .int (nI 1), .int (nI 1), .int (nI j)] [] σ Q := by
  intro f
  induction f with
  | zero =>
    intro j σ hf hQ
    refine tw_sg 2 (i1 := 9) (ls1 := [.ref 89, .int (nI 1), .int (nI 1), .int (nI j)]) (st1 := [.int (nI 1), .int (nI j)]) (σ1 := σ) rfl ?_
    refine tw_biT (c := .ge) rfl (by rw [tw_cge, tw_nle (by omega) (by omega)] <;> omega) ?_
    show tw_P L xs _ 256 31 [.ref 89, .int (nI 1), .int (nI 1), .int (nI j)] [] σ _
    refine tw_rv rfl ?_
    exact hQ σ (fun _ _ _ => rfl) (fun i h1 h2 => by omega)
  | succ f ih =>
    intro j σ hf hQ
    refine tw_sg 2 (i1 := 9) (ls1 := [.ref 89, .int (nI 1), .int (nI 1), .int (nI j)]) (st1 := [.int (nI 1), .int (nI j)]) (σ1 := σ) rfl ?_
    refine tw_biF (c := .ge) rfl (by rw [tw_cge', tw_nle (by omega) (by omega)] <;> omega) ?_
    show tw_P L xs _ 256 10 [.ref 89, .int (nI 1), .int (nI 1), .int (nI j)] [] σ _
    refine tw_sg 1 (i1 := 11) (ls1 := [.ref 89, .int (nI 1), .int (nI 1), .int (nI j)]) (st1 := [.int (nI 1)]) (σ1 := σ) rfl ?_
    refine tw_bzF (c := .eq) rfl (by rw [tw_ceq', tw_neq (by omega) (by omega)] <;> omega) ?_
    show tw_P L xs _ 256 12 [.ref 89, .int (nI 1), .int (nI 1), .int (nI j)] [] σ _
    refine tw_sgn 6 (i1 := 18) (ls0 := [.ref 89, .int (nI 1), .int (nI 1), .int (nI j)]) (st0 := [.int (nI 1 + nI j), .ref 89, .int (nI j), .ref 89]) (σ0 := σ) (ls1 := [.ref 89, .int (nI 1), .int (nI 1), .int (nI j)]) (st1 := [.int (nI (j + 1)), .ref 89, .int (nI j), .ref 89]) (σ1 := σ) rfl (rfl) (by simp only [Nat.add_comm 1 j, tw_nadd, tw_nmul]) (rfl) ?_
    refine tw_al (k := 89) (j := (j + 1)) (len := 2) rfl rfl rfl rfl (rfl) (by omega) (by decide) ?_
    refine tw_as (k := 89) (j := j) (len := 2) rfl rfl rfl (rfl) (by omega) (by decide) ?_
    refine tw_sgn 3 (i1 := 7) (ls0 := [.ref 89, .int (nI 1), .int (nI 1), .int (nI j + nI 1)]) (st0 := []) (σ0 := (tw_upd σ 89 j (σ 89 (j + 1)))) (ls1 := [.ref 89, .int (nI 1), .int (nI 1), .int (nI (j + 1))]) (st1 := []) (σ1 := (tw_upd σ 89 j (σ 89 (j + 1)))) rfl (by simp only [tw_nadd, tw_nmul]) (rfl) (rfl) ?_
    refine ih (j + 1) _ (by omega) (fun τ h1 h2 => hQ τ (fun k i g => ?_) (fun i g1 g2 => ?_))
    · rw [h1 k i (by omega), tw_upd_off (by omega)]
    · by_cases hij : i = j
      · subst hij; rw [h1 _ _ (by omega)]; exact tw_upd_at
      · rw [h2 i (by omega) g2, tw_upd_off (by omega)]
set_option maxHeartbeats 4000000 in
set_option maxRecDepth 100000 in
theorem tw_e_cpu89  : tw_E L xs 0 256 [.ref 89, .int (nI 1)] σ (fun v τ => v = none ∧ (∀ i, i < 1 → τ 89 i = σ 89 (i + 1)) ∧ ∀ k i, ¬ (k = 89 ∧ 0 ≤ i ∧ i < 1) → τ k i = σ k i) := by
  show tw_P L xs _ 256 0 [.ref 89, .int (nI 1), tw_U, tw_U] [] σ _
  refine tw_sg 3 (i1 := 3) (ls1 := [.ref 89, .int (nI 1), tw_U, tw_U]) (st1 := [.int (nI 2), .int (nI 2)]) (σ1 := σ) rfl ?_
  refine tw_dv rfl (by decide) ?_
  rw [show nI 2 / nI 2 = nI 1 by decide]
  refine tw_sg 3 (i1 := 7) (ls1 := [.ref 89, .int (nI 1), .int (nI 1), .int (nI 0)]) (st1 := []) (σ1 := σ) rfl ?_
  exact tw_l_cpu89 1 0 σ (by omega) (fun τ h1 h2 => ⟨rfl, fun i hi => h2 i (by omega) hi, fun k i g => h1 k i (by omega)⟩)
set_option maxHeartbeats 4000000 in
set_option maxRecDepth 100000 in
theorem tw_l_cpu90 {L : Nat} {xs : Nat → Int32} {Q : Option Value → tw_Mem → Prop} : ∀ (f : Nat) (j : Nat) (σ : tw_Mem), j + f = 1 → (∀ τ : tw_Mem, (∀ k i, ¬ (k = 90 ∧ j ≤ i ∧ i < 1) → τ k i = σ k i) → (∀ i, j ≤ i → i < 1 → τ 90 i = σ 90 (i + 1)) → Q none τ) → tw_P L xs 0 256 7 [.ref 90, .int (nI 1), .int (nI 1), .int (nI j)] [] σ Q := by
  intro f
  induction f with
  | zero =>
    intro j σ hf hQ
    refine tw_sg 2 (i1 := 9) (ls1 := [.ref 90, .int (nI 1), .int (nI 1), .int (nI j)]) (st1 := [.int (nI 1), .int (nI j)]) (σ1 := σ) rfl ?_
    refine tw_biT (c := .ge) rfl (by rw [tw_cge, tw_nle (by omega) (by omega)] <;> omega) ?_
    show tw_P L xs _ 256 31 [.ref 90, .int (nI 1), .int (nI 1), .int (nI j)] [] σ _
    refine tw_rv rfl ?_
    exact hQ σ (fun _ _ _ => rfl) (fun i h1 h2 => by omega)
  | succ f ih =>
    intro j σ hf hQ
    refine tw_sg 2 (i1 := 9) (ls1 := [.ref 90, .int (nI 1), .int (nI 1), .int (nI j)]) (st1 := [.int (nI 1), .int (nI j)]) (σ1 := σ) rfl ?_
    refine tw_biF (c := .ge) rfl (by rw [tw_cge', tw_nle (by omega) (by omega)] <;> omega) ?_
    show tw_P L xs _ 256 10 [.ref 90, .int (nI 1), .int (nI 1), .int (nI j)] [] σ _
    refine tw_sg 1 (i1 := 11) (ls1 := [.ref 90, .int (nI 1), .int (nI 1), .int (nI j)]) (st1 := [.int (nI 1)]) (σ1 := σ) rfl ?_
    refine tw_bzF (c := .eq) rfl (by rw [tw_ceq', tw_neq (by omega) (by omega)] <;> omega) ?_
    show tw_P L xs _ 256 12 [.ref 90, .int (nI 1), .int (nI 1), .int (nI j)] [] σ _
    refine tw_sgn 6 (i1 := 18) (ls0 := [.ref 90, .int (nI 1), .int (nI 1), .int (nI j)]) (st0 := [.int (nI 1 + nI j), .ref 90, .int (nI j), .ref 90]) (σ0 := σ) (ls1 := [.ref 90, .int (nI 1), .int (nI 1), .int (nI j)]) (st1 := [.int (nI (j + 1)), .ref 90, .int (nI j), .ref 90]) (σ1 := σ) rfl (rfl) (by simp only [Nat.add_comm 1 j, tw_nadd, tw_nmul]) (rfl) ?_
    refine tw_al (k := 90) (j := (j + 1)) (len := 2) rfl rfl rfl rfl (rfl) (by omega) (by decide) ?_
    refine tw_as (k := 90) (j := j) (len := 2) rfl rfl rfl (rfl) (by omega) (by decide) ?_
    refine tw_sgn 3 (i1 := 7) (ls0 := [.ref 90, .int (nI 1), .int (nI 1), .int (nI j + nI 1)]) (st0 := []) (σ0 := (tw_upd σ 90 j (σ 90 (j + 1)))) (ls1 := [.ref 90, .int (nI 1), .int (nI 1), .int (nI (j + 1))]) (st1 := []) (σ1 := (tw_upd σ 90 j (σ 90 (j + 1)))) rfl (by simp only [tw_nadd, tw_nmul]) (rfl) (rfl) ?_
    refine ih (j + 1) _ (by omega) (fun τ h1 h2 => hQ τ (fun k i g => ?_) (fun i g1 g2 => ?_))
    · rw [h1 k i (by omega), tw_upd_off (by omega)]
    · by_cases hij : i = j
      · subst hij; rw [h1 _ _ (by omega)]; exact tw_upd_at
      · rw [h2 i (by omega) g2, tw_upd_off (by omega)]
set_option maxHeartbeats 4000000 in
set_option maxRecDepth 100000 in
theorem tw_e_cpu90  : tw_E L xs 0 256 [.ref 90, .int (nI 1)] σ (fun v τ => v = none ∧ (∀ i, i < 1 → τ 90 i = σ 90 (i + 1)) ∧ ∀ k i, ¬ (k = 90 ∧ 0 ≤ i ∧ i < 1) → τ k i = σ k i) := by
  show tw_P L xs _ 256 0 [.ref 90, .int (nI 1), tw_U, tw_U] [] σ _
  refine tw_sg 3 (i1 := 3) (ls1 := [.ref 90, .int (nI 1), tw_U, tw_U]) (st1 := [.int (nI 2), .int (nI 2)]) (σ1 := σ) rfl ?_
  refine tw_dv rfl (by decide) ?_
  rw [show nI 2 / nI 2 = nI 1 by decide]
  refine tw_sg 3 (i1 := 7) (ls1 := [.ref 90, .int (nI 1), .int (nI 1), .int (nI 0)]) (st1 := []) (σ1 := σ) rfl ?_
  exact tw_l_cpu90 1 0 σ (by omega) (fun τ h1 h2 => ⟨rfl, fun i hi => h2 i (by omega) hi, fun k i g => h1 k i (by omega)⟩)
set_option maxHeartbeats 4000000 in
set_option maxRecDepth 100000 in
theorem tw_l_cpu91 {L : Nat} {xs : Nat → Int32} {Q : Option Value → tw_Mem → Prop} : ∀ (f : Nat) (j : Nat) (σ : tw_Mem), j + f = 40 → (∀ τ : tw_Mem, (∀ k i, ¬ (k = 91 ∧ j ≤ i ∧ i < 40) → τ k i = σ k i) → (∀ i, j ≤ i → i < 40 → τ 91 i = σ 91 (i + 40)) → Q none τ) → tw_P L xs 0 256 7 [.ref 91, .int (nI 1), .int (nI 40), .int (nI j)] [] σ Q := by
  intro f
  induction f with
  | zero =>
    intro j σ hf hQ
    refine tw_sg 2 (i1 := 9) (ls1 := [.ref 91, .int (nI 1), .int (nI 40), .int (nI j)]) (st1 := [.int (nI 40), .int (nI j)]) (σ1 := σ) rfl ?_
    refine tw_biT (c := .ge) rfl (by rw [tw_cge, tw_nle (by omega) (by omega)] <;> omega) ?_
    show tw_P L xs _ 256 31 [.ref 91, .int (nI 1), .int (nI 40), .int (nI j)] [] σ _
    refine tw_rv rfl ?_
    exact hQ σ (fun _ _ _ => rfl) (fun i h1 h2 => by omega)
  | succ f ih =>
    intro j σ hf hQ
    refine tw_sg 2 (i1 := 9) (ls1 := [.ref 91, .int (nI 1), .int (nI 40), .int (nI j)]) (st1 := [.int (nI 40), .int (nI j)]) (σ1 := σ) rfl ?_
    refine tw_biF (c := .ge) rfl (by rw [tw_cge', tw_nle (by omega) (by omega)] <;> omega) ?_
    show tw_P L xs _ 256 10 [.ref 91, .int (nI 1), .int (nI 40), .int (nI j)] [] σ _
    refine tw_sg 1 (i1 := 11) (ls1 := [.ref 91, .int (nI 1), .int (nI 40), .int (nI j)]) (st1 := [.int (nI 1)]) (σ1 := σ) rfl ?_
    refine tw_bzF (c := .eq) rfl (by rw [tw_ceq', tw_neq (by omega) (by omega)] <;> omega) ?_
    show tw_P L xs _ 256 12 [.ref 91, .int (nI 1), .int (nI 40), .int (nI j)] [] σ _
    refine tw_sgn 6 (i1 := 18) (ls0 := [.ref 91, .int (nI 1), .int (nI 40), .int (nI j)]) (st0 := [.int (nI 40 + nI j), .ref 91, .int (nI j), .ref 91]) (σ0 := σ) (ls1 := [.ref 91, .int (nI 1), .int (nI 40), .int (nI j)]) (st1 := [.int (nI (j + 40)), .ref 91, .int (nI j), .ref 91]) (σ1 := σ) rfl (rfl) (by simp only [Nat.add_comm 40 j, tw_nadd, tw_nmul]) (rfl) ?_
    refine tw_al (k := 91) (j := (j + 40)) (len := 80) rfl rfl rfl rfl (rfl) (by omega) (by decide) ?_
    refine tw_as (k := 91) (j := j) (len := 80) rfl rfl rfl (rfl) (by omega) (by decide) ?_
    refine tw_sgn 3 (i1 := 7) (ls0 := [.ref 91, .int (nI 1), .int (nI 40), .int (nI j + nI 1)]) (st0 := []) (σ0 := (tw_upd σ 91 j (σ 91 (j + 40)))) (ls1 := [.ref 91, .int (nI 1), .int (nI 40), .int (nI (j + 1))]) (st1 := []) (σ1 := (tw_upd σ 91 j (σ 91 (j + 40)))) rfl (by simp only [tw_nadd, tw_nmul]) (rfl) (rfl) ?_
    refine ih (j + 1) _ (by omega) (fun τ h1 h2 => hQ τ (fun k i g => ?_) (fun i g1 g2 => ?_))
    · rw [h1 k i (by omega), tw_upd_off (by omega)]
    · by_cases hij : i = j
      · subst hij; rw [h1 _ _ (by omega)]; exact tw_upd_at
      · rw [h2 i (by omega) g2, tw_upd_off (by omega)]
set_option maxHeartbeats 4000000 in
set_option maxRecDepth 100000 in
theorem tw_e_cpu91  : tw_E L xs 0 256 [.ref 91, .int (nI 1)] σ (fun v τ => v = none ∧ (∀ i, i < 40 → τ 91 i = σ 91 (i + 40)) ∧ ∀ k i, ¬ (k = 91 ∧ 0 ≤ i ∧ i < 40) → τ k i = σ k i) := by
  show tw_P L xs _ 256 0 [.ref 91, .int (nI 1), tw_U, tw_U] [] σ _
  refine tw_sg 3 (i1 := 3) (ls1 := [.ref 91, .int (nI 1), tw_U, tw_U]) (st1 := [.int (nI 2), .int (nI 80)]) (σ1 := σ) rfl ?_
  refine tw_dv rfl (by decide) ?_
  rw [show nI 80 / nI 2 = nI 40 by decide]
  refine tw_sg 3 (i1 := 7) (ls1 := [.ref 91, .int (nI 1), .int (nI 40), .int (nI 0)]) (st1 := []) (σ1 := σ) rfl ?_
  exact tw_l_cpu91 40 0 σ (by omega) (fun τ h1 h2 => ⟨rfl, fun i hi => h2 i (by omega) hi, fun k i g => h1 k i (by omega)⟩)
set_option maxHeartbeats 4000000 in
set_option maxRecDepth 100000 in
theorem tw_l_cpu92 {L : Nat} {xs : Nat → Int32} {Q : Option Value → tw_Mem → Prop} : ∀ (f : Nat) (j : Nat) (σ : tw_Mem), j + f = 10 → (∀ τ : tw_Mem, (∀ k i, ¬ (k = 92 ∧ j ≤ i ∧ i < 10) → τ k i = σ k i) → (∀ i, j ≤ i → i < 10 → τ 92 i = σ 92 (i + 10)) → Q none τ) → tw_P L xs 0 256 7 [.ref 92, .int (nI 1), .int (nI 10), .int (nI j)] [] σ Q := by
  intro f
  induction f with
  | zero =>
    intro j σ hf hQ
    refine tw_sg 2 (i1 := 9) (ls1 := [.ref 92, .int (nI 1), .int (nI 10), .int (nI j)]) (st1 := [.int (nI 10), .int (nI j)]) (σ1 := σ) rfl ?_
    refine tw_biT (c := .ge) rfl (by rw [tw_cge, tw_nle (by omega) (by omega)] <;> omega) ?_
    show tw_P L xs _ 256 31 [.ref 92, .int (nI 1), .int (nI 10), .int (nI j)] [] σ _
    refine tw_rv rfl ?_
    exact hQ σ (fun _ _ _ => rfl) (fun i h1 h2 => by omega)
  | succ f ih =>
    intro j σ hf hQ
    refine tw_sg 2 (i1 := 9) (ls1 := [.ref 92, .int (nI 1), .int (nI 10), .int (nI j)]) (st1 := [.int (nI 10), .int (nI j)]) (σ1 := σ) rfl ?_
    refine tw_biF (c := .ge) rfl (by rw [tw_cge', tw_nle (by omega) (by omega)] <;> omega) ?_
    show tw_P L xs _ 256 10 [.ref 92, .int (nI 1), .int (nI 10), .int (nI j)] [] σ _
    refine tw_sg 1 (i1 := 11) (ls1 := [.ref 92, .int (nI 1), .int (nI 10), .int (nI j)]) (st1 := [.int (nI 1)]) (σ1 := σ) rfl ?_
    refine tw_bzF (c := .eq) rfl (by rw [tw_ceq', tw_neq (by omega) (by omega)] <;> omega) ?_
    show tw_P L xs _ 256 12 [.ref 92, .int (nI 1), .int (nI 10), .int (nI j)] [] σ _
    refine tw_sgn 6 (i1 := 18) (ls0 := [.ref 92, .int (nI 1), .int (nI 10), .int (nI j)]) (st0 := [.int (nI 10 + nI j), .ref 92, .int (nI j), .ref 92]) (σ0 := σ) (ls1 := [.ref 92, .int (nI 1), .int (nI 10), .int (nI j)]) (st1 := [.int (nI (j + 10)), .ref 92, .int (nI j), .ref 92]) (σ1 := σ) rfl (rfl) (by simp only [Nat.add_comm 10 j, tw_nadd, tw_nmul]) (rfl) ?_
    refine tw_al (k := 92) (j := (j + 10)) (len := 20) rfl rfl rfl rfl (rfl) (by omega) (by decide) ?_
    refine tw_as (k := 92) (j := j) (len := 20) rfl rfl rfl (rfl) (by omega) (by decide) ?_
    refine tw_sgn 3 (i1 := 7) (ls0 := [.ref 92, .int (nI 1), .int (nI 10), .int (nI j + nI 1)]) (st0 := []) (σ0 := (tw_upd σ 92 j (σ 92 (j + 10)))) (ls1 := [.ref 92, .int (nI 1), .int (nI 10), .int (nI (j + 1))]) (st1 := []) (σ1 := (tw_upd σ 92 j (σ 92 (j + 10)))) rfl (by simp only [tw_nadd, tw_nmul]) (rfl) (rfl) ?_
    refine ih (j + 1) _ (by omega) (fun τ h1 h2 => hQ τ (fun k i g => ?_) (fun i g1 g2 => ?_))
    · rw [h1 k i (by omega), tw_upd_off (by omega)]
    · by_cases hij : i = j
      · subst hij; rw [h1 _ _ (by omega)]; exact tw_upd_at
      · rw [h2 i (by omega) g2, tw_upd_off (by omega)]
set_option maxHeartbeats 4000000 in
set_option maxRecDepth 100000 in
theorem tw_e_cpu92  : tw_E L xs 0 256 [.ref 92, .int (nI 1)] σ (fun v τ => v = none ∧ (∀ i, i < 10 → τ 92 i = σ 92 (i + 10)) ∧ ∀ k i, ¬ (k = 92 ∧ 0 ≤ i ∧ i < 10) → τ k i = σ k i) := by
  show tw_P L xs _ 256 0 [.ref 92, .int (nI 1), tw_U, tw_U] [] σ _
  refine tw_sg 3 (i1 := 3) (ls1 := [.ref 92, .int (nI 1), tw_U, tw_U]) (st1 := [.int (nI 2), .int (nI 20)]) (σ1 := σ) rfl ?_
  refine tw_dv rfl (by decide) ?_
  rw [show nI 20 / nI 2 = nI 10 by decide]
  refine tw_sg 3 (i1 := 7) (ls1 := [.ref 92, .int (nI 1), .int (nI 10), .int (nI 0)]) (st1 := []) (σ1 := σ) rfl ?_
  exact tw_l_cpu92 10 0 σ (by omega) (fun τ h1 h2 => ⟨rfl, fun i hi => h2 i (by omega) hi, fun k i g => h1 k i (by omega)⟩)
set_option maxHeartbeats 4000000 in
set_option maxRecDepth 100000 in
theorem tw_l_cpu93 {L : Nat} {xs : Nat → Int32} {Q : Option Value → tw_Mem → Prop} : ∀ (f : Nat) (j : Nat) (σ : tw_Mem), j + f = 10 → (∀ τ : tw_Mem, (∀ k i, ¬ (k = 93 ∧ j ≤ i ∧ i < 10) → τ k i = σ k i) → (∀ i, j ≤ i → i < 10 → τ 93 i = σ 93 (i + 10)) → Q none τ) → tw_P L xs 0 256 7 [.ref 93, .int (nI 1), .int (nI 10), .int (nI j)] [] σ Q := by
  intro f
  induction f with
  | zero =>
    intro j σ hf hQ
    refine tw_sg 2 (i1 := 9) (ls1 := [.ref 93, .int (nI 1), .int (nI 10), .int (nI j)]) (st1 := [.int (nI 10), .int (nI j)]) (σ1 := σ) rfl ?_
    refine tw_biT (c := .ge) rfl (by rw [tw_cge, tw_nle (by omega) (by omega)] <;> omega) ?_
    show tw_P L xs _ 256 31 [.ref 93, .int (nI 1), .int (nI 10), .int (nI j)] [] σ _
    refine tw_rv rfl ?_
    exact hQ σ (fun _ _ _ => rfl) (fun i h1 h2 => by omega)
  | succ f ih =>
    intro j σ hf hQ
    refine tw_sg 2 (i1 := 9) (ls1 := [.ref 93, .int (nI 1), .int (nI 10), .int (nI j)]) (st1 := [.int (nI 10), .int (nI j)]) (σ1 := σ) rfl ?_
    refine tw_biF (c := .ge) rfl (by rw [tw_cge', tw_nle (by omega) (by omega)] <;> omega) ?_
    show tw_P L xs _ 256 10 [.ref 93, .int (nI 1), .int (nI 10), .int (nI j)] [] σ _
    refine tw_sg 1 (i1 := 11) (ls1 := [.ref 93, .int (nI 1), .int (nI 10), .int (nI j)]) (st1 := [.int (nI 1)]) (σ1 := σ) rfl ?_
    refine tw_bzF (c := .eq) rfl (by rw [tw_ceq', tw_neq (by omega) (by omega)] <;> omega) ?_
    show tw_P L xs _ 256 12 [.ref 93, .int (nI 1), .int (nI 10), .int (nI j)] [] σ _
    refine tw_sgn 6 (i1 := 18) (ls0 := [.ref 93, .int (nI 1), .int (nI 10), .int (nI j)]) (st0 := [.int (nI 10 + nI j), .ref 93, .int (nI j), .ref 93]) (σ0 := σ) (ls1 := [.ref 93, .int (nI 1), .int (nI 10), .int (nI j)]) (st1 := [.int (nI (j + 10)), .ref 93, .int (nI j), .ref 93]) (σ1 := σ) rfl (rfl) (by simp only [Nat.add_comm 10 j, tw_nadd, tw_nmul]) (rfl) ?_
    refine tw_al (k := 93) (j := (j + 10)) (len := 20) rfl rfl rfl rfl (rfl) (by omega) (by decide) ?_
    refine tw_as (k := 93) (j := j) (len := 20) rfl rfl rfl (rfl) (by omega) (by decide) ?_
    refine tw_sgn 3 (i1 := 7) (ls0 := [.ref 93, .int (nI 1), .int (nI 10), .int (nI j + nI 1)]) (st0 := []) (σ0 := (tw_upd σ 93 j (σ 93 (j + 10)))) (ls1 := [.ref 93, .int (nI 1), .int (nI 10), .int (nI (j + 1))]) (st1 := []) (σ1 := (tw_upd σ 93 j (σ 93 (j + 10)))) rfl (by simp only [tw_nadd, tw_nmul]) (rfl) (rfl) ?_
    refine ih (j + 1) _ (by omega) (fun τ h1 h2 => hQ τ (fun k i g => ?_) (fun i g1 g2 => ?_))
    · rw [h1 k i (by omega), tw_upd_off (by omega)]
    · by_cases hij : i = j
      · subst hij; rw [h1 _ _ (by omega)]; exact tw_upd_at
      · rw [h2 i (by omega) g2, tw_upd_off (by omega)]
set_option maxHeartbeats 4000000 in
set_option maxRecDepth 100000 in
theorem tw_e_cpu93  : tw_E L xs 0 256 [.ref 93, .int (nI 1)] σ (fun v τ => v = none ∧ (∀ i, i < 10 → τ 93 i = σ 93 (i + 10)) ∧ ∀ k i, ¬ (k = 93 ∧ 0 ≤ i ∧ i < 10) → τ k i = σ k i) := by
  show tw_P L xs _ 256 0 [.ref 93, .int (nI 1), tw_U, tw_U] [] σ _
  refine tw_sg 3 (i1 := 3) (ls1 := [.ref 93, .int (nI 1), tw_U, tw_U]) (st1 := [.int (nI 2), .int (nI 20)]) (σ1 := σ) rfl ?_
  refine tw_dv rfl (by decide) ?_
  rw [show nI 20 / nI 2 = nI 10 by decide]
  refine tw_sg 3 (i1 := 7) (ls1 := [.ref 93, .int (nI 1), .int (nI 10), .int (nI 0)]) (st1 := []) (σ1 := σ) rfl ?_
  exact tw_l_cpu93 10 0 σ (by omega) (fun τ h1 h2 => ⟨rfl, fun i hi => h2 i (by omega) hi, fun k i g => h1 k i (by omega)⟩)
set_option maxHeartbeats 4000000 in
set_option maxRecDepth 100000 in
theorem tw_l_cpu94 {L : Nat} {xs : Nat → Int32} {Q : Option Value → tw_Mem → Prop} : ∀ (f : Nat) (j : Nat) (σ : tw_Mem), j + f = 10 → (∀ τ : tw_Mem, (∀ k i, ¬ (k = 94 ∧ j ≤ i ∧ i < 10) → τ k i = σ k i) → (∀ i, j ≤ i → i < 10 → τ 94 i = σ 94 (i + 10)) → Q none τ) → tw_P L xs 0 256 7 [.ref 94, .int (nI 1), .int (nI 10), .int (nI j)] [] σ Q := by
  intro f
  induction f with
  | zero =>
    intro j σ hf hQ
    refine tw_sg 2 (i1 := 9) (ls1 := [.ref 94, .int (nI 1), .int (nI 10), .int (nI j)]) (st1 := [.int (nI 10), .int (nI j)]) (σ1 := σ) rfl ?_
    refine tw_biT (c := .ge) rfl (by rw [tw_cge, tw_nle (by omega) (by omega)] <;> omega) ?_
    show tw_P L xs _ 256 31 [.ref 94, .int (nI 1), .int (nI 10), .int (nI j)] [] σ _
    refine tw_rv rfl ?_
    exact hQ σ (fun _ _ _ => rfl) (fun i h1 h2 => by omega)
  | succ f ih =>
    intro j σ hf hQ
    refine tw_sg 2 (i1 := 9) (ls1 := [.ref 94, .int (nI 1), .int (nI 10), .int (nI j)]) (st1 := [.int (nI 10), .int (nI j)]) (σ1 := σ) rfl ?_
    refine tw_biF (c := .ge) rfl (by rw [tw_cge', tw_nle (by omega) (by omega)] <;> omega) ?_
    show tw_P L xs _ 256 10 [.ref 94, .int (nI 1), .int (nI 10), .int (nI j)] [] σ _
    refine tw_sg 1 (i1 := 11) (ls1 := [.ref 94, .int (nI 1), .int (nI 10), .int (nI j)]) (st1 := [.int (nI 1)]) (σ1 := σ) rfl ?_
    refine tw_bzF (c := .eq) rfl (by rw [tw_ceq', tw_neq (by omega) (by omega)] <;> omega) ?_
    show tw_P L xs _ 256 12 [.ref 94, .int (nI 1), .int (nI 10), .int (nI j)] [] σ _
    refine tw_sgn 6 (i1 := 18) (ls0 := [.ref 94, .int (nI 1), .int (nI 10), .int (nI j)]) (st0 := [.int (nI 10 + nI j), .ref 94, .int (nI j), .ref 94]) (σ0 := σ) (ls1 := [.ref 94, .int (nI 1), .int (nI 10), .int (nI j)]) (st1 := [.int (nI (j + 10)), .ref 94, .int (nI j), .ref 94]) (σ1 := σ) rfl (rfl) (by simp only [Nat.add_comm 10 j, tw_nadd, tw_nmul]) (rfl) ?_
    refine tw_al (k := 94) (j := (j + 10)) (len := 20) rfl rfl rfl rfl (rfl) (by omega) (by decide) ?_
    refine tw_as (k := 94) (j := j) (len := 20) rfl rfl rfl (rfl) (by omega) (by decide) ?_
    refine tw_sgn 3 (i1 := 7) (ls0 := [.ref 94, .int (nI 1), .int (nI 10), .int (nI j + nI 1)]) (st0 := []) (σ0 := (tw_upd σ 94 j (σ 94 (j + 10)))) (ls1 := [.ref 94, .int (nI 1), .int (nI 10), .int (nI (j + 1))]) (st1 := []) (σ1 := (tw_upd σ 94 j (σ 94 (j + 10)))) rfl (by simp only [tw_nadd, tw_nmul]) (rfl) (rfl) ?_
    refine ih (j + 1) _ (by omega) (fun τ h1 h2 => hQ τ (fun k i g => ?_) (fun i g1 g2 => ?_))
    · rw [h1 k i (by omega), tw_upd_off (by omega)]
    · by_cases hij : i = j
      · subst hij; rw [h1 _ _ (by omega)]; exact tw_upd_at
      · rw [h2 i (by omega) g2, tw_upd_off (by omega)]
set_option maxHeartbeats 4000000 in
set_option maxRecDepth 100000 in
theorem tw_e_cpu94  : tw_E L xs 0 256 [.ref 94, .int (nI 1)] σ (fun v τ => v = none ∧ (∀ i, i < 10 → τ 94 i = σ 94 (i + 10)) ∧ ∀ k i, ¬ (k = 94 ∧ 0 ≤ i ∧ i < 10) → τ k i = σ k i) := by
  show tw_P L xs _ 256 0 [.ref 94, .int (nI 1), tw_U, tw_U] [] σ _
  refine tw_sg 3 (i1 := 3) (ls1 := [.ref 94, .int (nI 1), tw_U, tw_U]) (st1 := [.int (nI 2), .int (nI 20)]) (σ1 := σ) rfl ?_
  refine tw_dv rfl (by decide) ?_
  rw [show nI 20 / nI 2 = nI 10 by decide]
  refine tw_sg 3 (i1 := 7) (ls1 := [.ref 94, .int (nI 1), .int (nI 10), .int (nI 0)]) (st1 := []) (σ1 := σ) rfl ?_
  exact tw_l_cpu94 10 0 σ (by omega) (fun τ h1 h2 => ⟨rfl, fun i hi => h2 i (by omega) hi, fun k i g => h1 k i (by omega)⟩)
set_option maxHeartbeats 4000000 in
set_option maxRecDepth 100000 in
theorem tw_l_cpu95 {L : Nat} {xs : Nat → Int32} {Q : Option Value → tw_Mem → Prop} : ∀ (f : Nat) (j : Nat) (σ : tw_Mem), j + f = 500 → (∀ τ : tw_Mem, (∀ k i, ¬ (k = 95 ∧ j ≤ i ∧ i < 500) → τ k i = σ k i) → (∀ i, j ≤ i → i < 500 → τ 95 i = σ 95 (i + 500)) → Q none τ) → tw_P L xs 0 256 7 [.ref 95, .int (nI 1), .int (nI 500), .int (nI j)] [] σ Q := by
  intro f
  induction f with
  | zero =>
    intro j σ hf hQ
    refine tw_sg 2 (i1 := 9) (ls1 := [.ref 95, .int (nI 1), .int (nI 500), .int (nI j)]) (st1 := [.int (nI 500), .int (nI j)]) (σ1 := σ) rfl ?_
    refine tw_biT (c := .ge) rfl (by rw [tw_cge, tw_nle (by omega) (by omega)] <;> omega) ?_
    show tw_P L xs _ 256 31 [.ref 95, .int (nI 1), .int (nI 500), .int (nI j)] [] σ _
    refine tw_rv rfl ?_
    exact hQ σ (fun _ _ _ => rfl) (fun i h1 h2 => by omega)
  | succ f ih =>
    intro j σ hf hQ
    refine tw_sg 2 (i1 := 9) (ls1 := [.ref 95, .int (nI 1), .int (nI 500), .int (nI j)]) (st1 := [.int (nI 500), .int (nI j)]) (σ1 := σ) rfl ?_
    refine tw_biF (c := .ge) rfl (by rw [tw_cge', tw_nle (by omega) (by omega)] <;> omega) ?_
    show tw_P L xs _ 256 10 [.ref 95, .int (nI 1), .int (nI 500), .int (nI j)] [] σ _
    refine tw_sg 1 (i1 := 11) (ls1 := [.ref 95, .int (nI 1), .int (nI 500), .int (nI j)]) (st1 := [.int (nI 1)]) (σ1 := σ) rfl ?_
    refine tw_bzF (c := .eq) rfl (by rw [tw_ceq', tw_neq (by omega) (by omega)] <;> omega) ?_
    show tw_P L xs _ 256 12 [.ref 95, .int (nI 1), .int (nI 500), .int (nI j)] [] σ _
    refine tw_sgn 6 (i1 := 18) (ls0 := [.ref 95, .int (nI 1), .int (nI 500), .int (nI j)]) (st0 := [.int (nI 500 + nI j), .ref 95, .int (nI j), .ref 95]) (σ0 := σ) (ls1 := [.ref 95, .int (nI 1), .int (nI 500), .int (nI j)]) (st1 := [.int (nI (j + 500)), .ref 95, .int (nI j), .ref 95]) (σ1 := σ) rfl (rfl) (by simp only [Nat.add_comm 500 j, tw_nadd, tw_nmul]) (rfl) ?_
    refine tw_al (k := 95) (j := (j + 500)) (len := 1000) rfl rfl rfl rfl (rfl) (by omega) (by decide) ?_
    refine tw_as (k := 95) (j := j) (len := 1000) rfl rfl rfl (rfl) (by omega) (by decide) ?_
    refine tw_sgn 3 (i1 := 7) (ls0 := [.ref 95, .int (nI 1), .int (nI 500), .int (nI j + nI 1)]) (st0 := []) (σ0 := (tw_upd σ 95 j (σ 95 (j + 500)))) (ls1 := [.ref 95, .int (nI 1), .int (nI 500), .int (nI (j + 1))]) (st1 := []) (σ1 := (tw_upd σ 95 j (σ 95 (j + 500)))) rfl (by simp only [tw_nadd, tw_nmul]) (rfl) (rfl) ?_
    refine ih (j + 1) _ (by omega) (fun τ h1 h2 => hQ τ (fun k i g => ?_) (fun i g1 g2 => ?_))
    · rw [h1 k i (by omega), tw_upd_off (by omega)]
    · by_cases hij : i = j
      · subst hij; rw [h1 _ _ (by omega)]; exact tw_upd_at
      · rw [h2 i (by omega) g2, tw_upd_off (by omega)]
set_option maxHeartbeats 4000000 in
set_option maxRecDepth 100000 in
theorem tw_e_cpu95  : tw_E L xs 0 256 [.ref 95, .int (nI 1)] σ (fun v τ => v = none ∧ (∀ i, i < 500 → τ 95 i = σ 95 (i + 500)) ∧ ∀ k i, ¬ (k = 95 ∧ 0 ≤ i ∧ i < 500) → τ k i = σ k i) := by
  show tw_P L xs _ 256 0 [.ref 95, .int (nI 1), tw_U, tw_U] [] σ _
  refine tw_sg 3 (i1 := 3) (ls1 := [.ref 95, .int (nI 1), tw_U, tw_U]) (st1 := [.int (nI 2), .int (nI 1000)]) (σ1 := σ) rfl ?_
  refine tw_dv rfl (by decide) ?_
  rw [show nI 1000 / nI 2 = nI 500 by decide]
  refine tw_sg 3 (i1 := 7) (ls1 := [.ref 95, .int (nI 1), .int (nI 500), .int (nI 0)]) (st1 := []) (σ1 := σ) rfl ?_
  exact tw_l_cpu95 500 0 σ (by omega) (fun τ h1 h2 => ⟨rfl, fun i hi => h2 i (by omega) hi, fun k i g => h1 k i (by omega)⟩)
set_option maxHeartbeats 4000000 in
set_option maxRecDepth 100000 in
theorem tw_l_cpu96 {L : Nat} {xs : Nat → Int32} {Q : Option Value → tw_Mem → Prop} : ∀ (f : Nat) (j : Nat) (σ : tw_Mem), j + f = 500 → (∀ τ : tw_Mem, (∀ k i, ¬ (k = 96 ∧ j ≤ i ∧ i < 500) → τ k i = σ k i) → (∀ i, j ≤ i → i < 500 → τ 96 i = σ 96 (i + 500)) → Q none τ) → tw_P L xs 0 256 7 [.ref 96, .int (nI 1), .int (nI 500), .int (nI j)] [] σ Q := by
  intro f
  induction f with
  | zero =>
    intro j σ hf hQ
    refine tw_sg 2 (i1 := 9) (ls1 := [.ref 96, .int (nI 1), .int (nI 500), .int (nI j)]) (st1 := [.int (nI 500), .int (nI j)]) (σ1 := σ) rfl ?_
    refine tw_biT (c := .ge) rfl (by rw [tw_cge, tw_nle (by omega) (by omega)] <;> omega) ?_
    show tw_P L xs _ 256 31 [.ref 96, .int (nI 1), .int (nI 500), .int (nI j)] [] σ _
    refine tw_rv rfl ?_
    exact hQ σ (fun _ _ _ => rfl) (fun i h1 h2 => by omega)
  | succ f ih =>
    intro j σ hf hQ
    refine tw_sg 2 (i1 := 9) (ls1 := [.ref 96, .int (nI 1), .int (nI 500), .int (nI j)]) (st1 := [.int (nI 500), .int (nI j)]) (σ1 := σ) rfl ?_
    refine tw_biF (c := .ge) rfl (by rw [tw_cge', tw_nle (by omega) (by omega)] <;> omega) ?_
    show tw_P L xs _ 256 10 [.ref 96, .int (nI 1), .int (nI 500), .int (nI j)] [] σ _
    refine tw_sg 1 (i1 := 11) (ls1 := [.ref 96, .int (nI 1), .int (nI 500), .int (nI j)]) (st1 := [.int (nI 1)]) (σ1 := σ) rfl ?_
    refine tw_bzF (c := .eq) rfl (by rw [tw_ceq', tw_neq (by omega) (by omega)] <;> omega) ?_
    show tw_P L xs _ 256 12 [.ref 96, .int (nI 1), .int (nI 500), .int (nI j)] [] σ _
    refine tw_sgn 6 (i1 := 18) (ls0 := [.ref 96, .int (nI 1), .int (nI 500), .int (nI j)]) (st0 := [.int (nI 500 + nI j), .ref 96, .int (nI j), .ref 96]) (σ0 := σ) (ls1 := [.ref 96, .int (nI 1), .int (nI 500), .int (nI j)]) (st1 := [.int (nI (j + 500)), .ref 96, .int (nI j), .ref 96]) (σ1 := σ) rfl (rfl) (by simp only [Nat.add_comm 500 j, tw_nadd, tw_nmul]) (rfl) ?_
    refine tw_al (k := 96) (j := (j + 500)) (len := 1000) rfl rfl rfl rfl (rfl) (by omega) (by decide) ?_
    refine tw_as (k := 96) (j := j) (len := 1000) rfl rfl rfl (rfl) (by omega) (by decide) ?_
    refine tw_sgn 3 (i1 := 7) (ls0 := [.ref 96, .int (nI 1), .int (nI 500), .int (nI j + nI 1)]) (st0 := []) (σ0 := (tw_upd σ 96 j (σ 96 (j + 500)))) (ls1 := [.ref 96, .int (nI 1), .int (nI 500), .int (nI (j + 1))]) (st1 := []) (σ1 := (tw_upd σ 96 j (σ 96 (j + 500)))) rfl (by simp only [tw_nadd, tw_nmul]) (rfl) (rfl) ?_
    refine ih (j + 1) _ (by omega) (fun τ h1 h2 => hQ τ (fun k i g => ?_) (fun i g1 g2 => ?_))
    · rw [h1 k i (by omega), tw_upd_off (by omega)]
    · by_cases hij : i = j
      · subst hij; rw [h1 _ _ (by omega)]; exact tw_upd_at
      · rw [h2 i (by omega) g2, tw_upd_off (by omega)]
set_option maxHeartbeats 4000000 in
set_option maxRecDepth 100000 in
theorem tw_e_cpu96  : tw_E L xs 0 256 [.ref 96, .int (nI 1)] σ (fun v τ => v = none ∧ (∀ i, i < 500 → τ 96 i = σ 96 (i + 500)) ∧ ∀ k i, ¬ (k = 96 ∧ 0 ≤ i ∧ i < 500) → τ k i = σ k i) := by
  show tw_P L xs _ 256 0 [.ref 96, .int (nI 1), tw_U, tw_U] [] σ _
  refine tw_sg 3 (i1 := 3) (ls1 := [.ref 96, .int (nI 1), tw_U, tw_U]) (st1 := [.int (nI 2), .int (nI 1000)]) (σ1 := σ) rfl ?_
  refine tw_dv rfl (by decide) ?_
  rw [show nI 1000 / nI 2 = nI 500 by decide]
  refine tw_sg 3 (i1 := 7) (ls1 := [.ref 96, .int (nI 1), .int (nI 500), .int (nI 0)]) (st1 := []) (σ1 := σ) rfl ?_
  exact tw_l_cpu96 500 0 σ (by omega) (fun τ h1 h2 => ⟨rfl, fun i hi => h2 i (by omega) hi, fun k i g => h1 k i (by omega)⟩)
set_option maxHeartbeats 4000000 in
set_option maxRecDepth 100000 in
theorem tw_l_cpu97 {L : Nat} {xs : Nat → Int32} {Q : Option Value → tw_Mem → Prop} : ∀ (f : Nat) (j : Nat) (σ : tw_Mem), j + f = 500 → (∀ τ : tw_Mem, (∀ k i, ¬ (k = 97 ∧ j ≤ i ∧ i < 500) → τ k i = σ k i) → (∀ i, j ≤ i → i < 500 → τ 97 i = σ 97 (i + 500)) → Q none τ) → tw_P L xs 0 256 7 [.ref 97, .int (nI 1), .int (nI 500), .int (nI j)] [] σ Q := by
  intro f
  induction f with
  | zero =>
    intro j σ hf hQ
    refine tw_sg 2 (i1 := 9) (ls1 := [.ref 97, .int (nI 1), .int (nI 500), .int (nI j)]) (st1 := [.int (nI 500), .int (nI j)]) (σ1 := σ) rfl ?_
    refine tw_biT (c := .ge) rfl (by rw [tw_cge, tw_nle (by omega) (by omega)] <;> omega) ?_
    show tw_P L xs _ 256 31 [.ref 97, .int (nI 1), .int (nI 500), .int (nI j)] [] σ _
    refine tw_rv rfl ?_
    exact hQ σ (fun _ _ _ => rfl) (fun i h1 h2 => by omega)
  | succ f ih =>
    intro j σ hf hQ
    refine tw_sg 2 (i1 := 9) (ls1 := [.ref 97, .int (nI 1), .int (nI 500), .int (nI j)]) (st1 := [.int (nI 500), .int (nI j)]) (σ1 := σ) rfl ?_
    refine tw_biF (c := .ge) rfl (by rw [tw_cge', tw_nle (by omega) (by omega)] <;> omega) ?_
    show tw_P L xs _ 256 10 [.ref 97, .int (nI 1), .int (nI 500), .int (nI j)] [] σ _
    refine tw_sg 1 (i1 := 11) (ls1 := [.ref 97, .int (nI 1), .int (nI 500), .int (nI j)]) (st1 := [.int (nI 1)]) (σ1 := σ) rfl ?_
    refine tw_bzF (c := .eq) rfl (by rw [tw_ceq', tw_neq (by omega) (by omega)] <;> omega) ?_
    show tw_P L xs _ 256 12 [.ref 97, .int (nI 1), .int (nI 500), .int (nI j)] [] σ _
    refine tw_sgn 6 (i1 := 18) (ls0 := [.ref 97, .int (nI 1), .int (nI 500), .int (nI j)]) (st0 := [.int (nI 500 + nI j), .ref 97, .int (nI j), .ref 97]) (σ0 := σ) (ls1 := [.ref 97, .int (nI 1), .int (nI 500), .int (nI j)]) (st1 := [.int (nI (j + 500)), .ref 97, .int (nI j), .ref 97]) (σ1 := σ) rfl (rfl) (by simp only [Nat.add_comm 500 j, tw_nadd, tw_nmul]) (rfl) ?_
    refine tw_al (k := 97) (j := (j + 500)) (len := 1000) rfl rfl rfl rfl (rfl) (by omega) (by decide) ?_
    refine tw_as (k := 97) (j := j) (len := 1000) rfl rfl rfl (rfl) (by omega) (by decide) ?_
    refine tw_sgn 3 (i1 := 7) (ls0 := [.ref 97, .int (nI 1), .int (nI 500), .int (nI j + nI 1)]) (st0 := []) (σ0 := (tw_upd σ 97 j (σ 97 (j + 500)))) (ls1 := [.ref 97, .int (nI 1), .int (nI 500), .int (nI (j + 1))]) (st1 := []) (σ1 := (tw_upd σ 97 j (σ 97 (j + 500)))) rfl (by simp only [tw_nadd, tw_nmul]) (rfl) (rfl) ?_
    refine ih (j + 1) _ (by omega) (fun τ h1 h2 => hQ τ (fun k i g => ?_) (fun i g1 g2 => ?_))
    · rw [h1 k i (by omega), tw_upd_off (by omega)]
    · by_cases hij : i = j
      · subst hij; rw [h1 _ _ (by omega)]; exact tw_upd_at
      · rw [h2 i (by omega) g2, tw_upd_off (by omega)]
set_option maxHeartbeats 4000000 in
set_option maxRecDepth 100000 in
theorem tw_e_cpu97  : tw_E L xs 0 256 [.ref 97, .int (nI 1)] σ (fun v τ => v = none ∧ (∀ i, i < 500 → τ 97 i = σ 97 (i + 500)) ∧ ∀ k i, ¬ (k = 97 ∧ 0 ≤ i ∧ i < 500) → τ k i = σ k i) := by
  show tw_P L xs _ 256 0 [.ref 97, .int (nI 1), tw_U, tw_U] [] σ _
  refine tw_sg 3 (i1 := 3) (ls1 := [.ref 97, .int (nI 1), tw_U, tw_U]) (st1 := [.int (nI 2), .int (nI 1000)]) (σ1 := σ) rfl ?_
  refine tw_dv rfl (by decide) ?_
  rw [show nI 1000 / nI 2 = nI 500 by decide]
  refine tw_sg 3 (i1 := 7) (ls1 := [.ref 97, .int (nI 1), .int (nI 500), .int (nI 0)]) (st1 := []) (σ1 := σ) rfl ?_
  exact tw_l_cpu97 500 0 σ (by omega) (fun τ h1 h2 => ⟨rfl, fun i hi => h2 i (by omega) hi, fun k i g => h1 k i (by omega)⟩)
set_option maxHeartbeats 4000000 in
set_option maxRecDepth 100000 in
theorem tw_l_cpu98 {L : Nat} {xs : Nat → Int32} {Q : Option Value → tw_Mem → Prop} : ∀ (f : Nat) (j : Nat) (σ : tw_Mem), j + f = 500 → (∀ τ : tw_Mem, (∀ k i, ¬ (k = 98 ∧ j ≤ i ∧ i < 500) → τ k i = σ k i) → (∀ i, j ≤ i → i < 500 → τ 98 i = σ 98 (i + 500)) → Q none τ) → tw_P L xs 0 256 7 [.ref 98, .int (nI 1), .int (nI 500), .int (nI j)] [] σ Q := by
  intro f
  induction f with
  | zero =>
    intro j σ hf hQ
    refine tw_sg 2 (i1 := 9) (ls1 := [.ref 98, .int (nI 1), .int (nI 500), .int (nI j)]) (st1 := [.int (nI 500), .int (nI j)]) (σ1 := σ) rfl ?_
    refine tw_biT (c := .ge) rfl (by rw [tw_cge, tw_nle (by omega) (by omega)] <;> omega) ?_
    show tw_P L xs _ 256 31 [.ref 98, .int (nI 1), .int (nI 500), .int (nI j)] [] σ _
    refine tw_rv rfl ?_
    exact hQ σ (fun _ _ _ => rfl) (fun i h1 h2 => by omega)
  | succ f ih =>
    intro j σ hf hQ
    refine tw_sg 2 (i1 := 9) (ls1 := [.ref 98, .int (nI 1), .int (nI 500), .int (nI j)]) (st1 := [.int (nI 500), .int (nI j)]) (σ1 := σ) rfl ?_
    refine tw_biF (c := .ge) rfl (by rw [tw_cge', tw_nle (by omega) (by omega)] <;> omega) ?_
    show tw_P L xs _ 256 10 [.ref 98, .int (nI 1), .int (nI 500), .int (nI j)] [] σ _
    refine tw_sg 1 (i1 := 11) (ls1 := [.ref 98, .int (nI 1), .int (nI 500), .int (nI j)]) (st1 := [.int (nI 1)]) (σ1 := σ) rfl ?_
    refine tw_bzF (c := .eq) rfl (by rw [tw_ceq', tw_neq (by omega) (by omega)] <;> omega) ?_
    show tw_P L xs _ 256 12 [.ref 98, .int (nI 1), .int (nI 500), .int (nI j)] [] σ _
    refine tw_sgn 6 (i1 := 18) (ls0 := [.ref 98, .int (nI 1), .int (nI 500), .int (nI j)]) (st0 := [.int (nI 500 + nI j), .ref 98, .int (nI j), .ref 98]) (σ0 := σ) (ls1 := [.ref 98, .int (nI 1), .int (nI 500), .int (nI j)]) (st1 := [.int (nI (j + 500)), .ref 98, .int (nI j), .ref 98]) (σ1 := σ) rfl (rfl) (by simp only [Nat.add_comm 500 j, tw_nadd, tw_nmul]) (rfl) ?_
    refine tw_al (k := 98) (j := (j + 500)) (len := 1000) rfl rfl rfl rfl (rfl) (by omega) (by decide) ?_
    refine tw_as (k := 98) (j := j) (len := 1000) rfl rfl rfl (rfl) (by omega) (by decide) ?_
    refine tw_sgn 3 (i1 := 7) (ls0 := [.ref 98, .int (nI 1), .int (nI 500), .int (nI j + nI 1)]) (st0 := []) (σ0 := (tw_upd σ 98 j (σ 98 (j + 500)))) (ls1 := [.ref 98, .int (nI 1), .int (nI 500), .int (nI (j + 1))]) (st1 := []) (σ1 := (tw_upd σ 98 j (σ 98 (j + 500)))) rfl (by simp only [tw_nadd, tw_nmul]) (rfl) (rfl) ?_
    refine ih (j + 1) _ (by omega) (fun τ h1 h2 => hQ τ (fun k i g => ?_) (fun i g1 g2 => ?_))
    · rw [h1 k i (by omega), tw_upd_off (by omega)]
    · by_cases hij : i = j
      · subst hij; rw [h1 _ _ (by omega)]; exact tw_upd_at
      · rw [h2 i (by omega) g2, tw_upd_off (by omega)]
set_option maxHeartbeats 4000000 in
set_option maxRecDepth 100000 in
theorem tw_e_cpu98  : tw_E L xs 0 256 [.ref 98, .int (nI 1)] σ (fun v τ => v = none ∧ (∀ i, i < 500 → τ 98 i = σ 98 (i + 500)) ∧ ∀ k i, ¬ (k = 98 ∧ 0 ≤ i ∧ i < 500) → τ k i = σ k i) := by
  show tw_P L xs _ 256 0 [.ref 98, .int (nI 1), tw_U, tw_U] [] σ _
  refine tw_sg 3 (i1 := 3) (ls1 := [.ref 98, .int (nI 1), tw_U, tw_U]) (st1 := [.int (nI 2), .int (nI 1000)]) (σ1 := σ) rfl ?_
  refine tw_dv rfl (by decide) ?_
  rw [show nI 1000 / nI 2 = nI 500 by decide]
  refine tw_sg 3 (i1 := 7) (ls1 := [.ref 98, .int (nI 1), .int (nI 500), .int (nI 0)]) (st1 := []) (σ1 := σ) rfl ?_
  exact tw_l_cpu98 500 0 σ (by omega) (fun τ h1 h2 => ⟨rfl, fun i hi => h2 i (by omega) hi, fun k i g => h1 k i (by omega)⟩)
set_option maxHeartbeats 4000000 in
set_option maxRecDepth 100000 in
theorem tw_l_cpu99 {L : Nat} {xs : Nat → Int32} {Q : Option Value → tw_Mem → Prop} : ∀ (f : Nat) (j : Nat) (σ : tw_Mem), j + f = 80 → (∀ τ : tw_Mem, (∀ k i, ¬ (k = 99 ∧ j ≤ i ∧ i < 80) → τ k i = σ k i) → (∀ i, j ≤ i → i < 80 → τ 99 i = σ 99 (i + 80)) → Q none τ) → tw_P L xs 0 256 7 [.ref 99, .int (nI 1), .int (nI 80), .int (nI j)] [] σ Q := by
  intro f
  induction f with
  | zero =>
    intro j σ hf hQ
    refine tw_sg 2 (i1 := 9) (ls1 := [.ref 99, .int (nI 1), .int (nI 80), .int (nI j)]) (st1 := [.int (nI 80), .int (nI j)]) (σ1 := σ) rfl ?_
    refine tw_biT (c := .ge) rfl (by rw [tw_cge, tw_nle (by omega) (by omega)] <;> omega) ?_
    show tw_P L xs _ 256 31 [.ref 99, .int (nI 1), .int (nI 80), .int (nI j)] [] σ _
    refine tw_rv rfl ?_
    exact hQ σ (fun _ _ _ => rfl) (fun i h1 h2 => by omega)
  | succ f ih =>
    intro j σ hf hQ
    refine tw_sg 2 (i1 := 9) (ls1 := [.ref 99, .int (nI 1), .int (nI 80), .int (nI j)]) (st1 := [.int (nI 80), .int (nI j)]) (σ1 := σ) rfl ?_
    refine tw_biF (c := .ge) rfl (by rw [tw_cge', tw_nle (by omega) (by omega)] <;> omega) ?_
    show tw_P L xs _ 256 10 [.ref 99, .int (nI 1), .int (nI 80), .int (nI j)] [] σ _
    refine tw_sg 1 (i1 := 11) (ls1 := [.ref 99, .int (nI 1), .int (nI 80), .int (nI j)]) (st1 := [.int (nI 1)]) (σ1 := σ) rfl ?_
    refine tw_bzF (c := .eq) rfl (by rw [tw_ceq', tw_neq (by omega) (by omega)] <;> omega) ?_
    show tw_P L xs _ 256 12 [.ref 99, .int (nI 1), .int (nI 80), .int (nI j)] [] σ _
    refine tw_sgn 6 (i1 := 18) (ls0 := [.ref 99, .int (nI 1), .int (nI 80), .int (nI j)]) (st0 := [.int (nI 80 + nI j), .ref 99, .int (nI j), .ref 99]) (σ0 := σ) (ls1 := [.ref 99, .int (nI 1), .int (nI 80), .int (nI j)]) (st1 := [.int (nI (j + 80)), .ref 99, .int (nI j), .ref 99]) (σ1 := σ) rfl (rfl) (by simp only [Nat.add_comm 80 j, tw_nadd, tw_nmul]) (rfl) ?_
    refine tw_al (k := 99) (j := (j + 80)) (len := 160) rfl rfl rfl rfl (rfl) (by omega) (by decide) ?_
    refine tw_as (k := 99) (j := j) (len := 160) rfl rfl rfl (rfl) (by omega) (by decide) ?_
    refine tw_sgn 3 (i1 := 7) (ls0 := [.ref 99, .int (nI 1), .int (nI 80), .int (nI j + nI 1)]) (st0 := []) (σ0 := (tw_upd σ 99 j (σ 99 (j + 80)))) (ls1 := [.ref 99, .int (nI 1), .int (nI 80), .int (nI (j + 1))]) (st1 := []) (σ1 := (tw_upd σ 99 j (σ 99 (j + 80)))) rfl (by simp only [tw_nadd, tw_nmul]) (rfl) (rfl) ?_
    refine ih (j + 1) _ (by omega) (fun τ h1 h2 => hQ τ (fun k i g => ?_) (fun i g1 g2 => ?_))
    · rw [h1 k i (by omega), tw_upd_off (by omega)]
    · by_cases hij : i = j
      · subst hij; rw [h1 _ _ (by omega)]; exact tw_upd_at
      · rw [h2 i (by omega) g2, tw_upd_off (by omega)]
set_option maxHeartbeats 4000000 in
set_option maxRecDepth 100000 in
theorem tw_e_cpu99  : tw_E L xs 0 256 [.ref 99, .int (nI 1)] σ (fun v τ => v = none ∧ (∀ i, i < 80 → τ 99 i = σ 99 (i + 80)) ∧ ∀ k i, ¬ (k = 99 ∧ 0 ≤ i ∧ i < 80) → τ k i = σ k i) := by
  show tw_P L xs _ 256 0 [.ref 99, .int (nI 1), tw_U, tw_U] [] σ _
  refine tw_sg 3 (i1 := 3) (ls1 := [.ref 99, .int (nI 1), tw_U, tw_U]) (st1 := [.int (nI 2), .int (nI 160)]) (σ1 := σ) rfl ?_
  refine tw_dv rfl (by decide) ?_
  rw [show nI 160 / nI 2 = nI 80 by decide]
  refine tw_sg 3 (i1 := 7) (ls1 := [.ref 99, .int (nI 1), .int (nI 80), .int (nI 0)]) (st1 := []) (σ1 := σ) rfl ?_
  exact tw_l_cpu99 80 0 σ (by omega) (fun τ h1 h2 => ⟨rfl, fun i hi => h2 i (by omega) hi, fun k i g => h1 k i (by omega)⟩)
set_option maxHeartbeats 4000000 in
set_option maxRecDepth 100000 in
theorem tw_l_cpu100 {L : Nat} {xs : Nat → Int32} {Q : Option Value → tw_Mem → Prop} : ∀ (f : Nat) (j : Nat) (σ : tw_Mem), j + f = 80 → (∀ τ : tw_Mem, (∀ k i, ¬ (k = 100 ∧ j ≤ i ∧ i < 80) → τ k i = σ k i) → (∀ i, j ≤ i → i < 80 → τ 100 i = σ 100 (i + 80)) → Q none τ) → tw_P L xs 0 256 7 [.ref 100, .int (nI 1), .int (nI 80), .int (nI j)] [] σ Q := by
  intro f
  induction f with
  | zero =>
    intro j σ hf hQ
    refine tw_sg 2 (i1 := 9) (ls1 := [.ref 100, .int (nI 1), .int (nI 80), .int (nI j)]) (st1 := [.int (nI 80), .int (nI j)]) (σ1 := σ) rfl ?_
    refine tw_biT (c := .ge) rfl (by rw [tw_cge, tw_nle (by omega) (by omega)] <;> omega) ?_
    show tw_P L xs _ 256 31 [.ref 100, .int (nI 1), .int (nI 80), .int (nI j)] [] σ _
    refine tw_rv rfl ?_
    exact hQ σ (fun _ _ _ => rfl) (fun i h1 h2 => by omega)
  | succ f ih =>
    intro j σ hf hQ
    refine tw_sg 2 (i1 := 9) (ls1 := [.ref 100, .int (nI 1), .int (nI 80), .int (nI j)]) (st1 := [.int (nI 80), .int (nI j)]) (σ1 := σ) rfl ?_
    refine tw_biF (c := .ge) rfl (by rw [tw_cge', tw_nle (by omega) (by omega)] <;> omega) ?_
    show tw_P L xs _ 256 10 [.ref 100, .int (nI 1), .int (nI 80), .int (nI j)] [] σ _
    refine tw_sg 1 (i1 := 11) (ls1 := [.ref 100, .int (nI 1), .int (nI 80), .int (nI j)]) (st1 := [.int (nI 1)]) (σ1 := σ) rfl ?_
    refine tw_bzF (c := .eq) rfl (by rw [tw_ceq', tw_neq (by omega) (by omega)] <;> omega) ?_
    show tw_P L xs _ 256 12 [.ref 100, .int (nI 1), .int (nI 80), .int (nI j)] [] σ _
    refine tw_sgn 6 (i1 := 18) (ls0 := [.ref 100, .int (nI 1), .int (nI 80), .int (nI j)]) (st0 := [.int (nI 80 + nI j), .ref 100, .int (nI j), .ref 100]) (σ0 := σ) (ls1 := [.ref 100, .int (nI 1), .int (nI 80), .int (nI j)]) (st1 := [.int (nI (j + 80)), .ref 100, .int (nI j), .ref 100]) (σ1 := σ) rfl (rfl) (by simp only [Nat.add_comm 80 j, tw_nadd, tw_nmul]) (rfl) ?_
    refine tw_al (k := 100) (j := (j + 80)) (len := 160) rfl rfl rfl rfl (rfl) (by omega) (by decide) ?_
    refine tw_as (k := 100) (j := j) (len := 160) rfl rfl rfl (rfl) (by omega) (by decide) ?_
    refine tw_sgn 3 (i1 := 7) (ls0 := [.ref 100, .int (nI 1), .int (nI 80), .int (nI j + nI 1)]) (st0 := []) (σ0 := (tw_upd σ 100 j (σ 100 (j + 80)))) (ls1 := [.ref 100, .int (nI 1), .int (nI 80), .int (nI (j + 1))]) (st1 := []) (σ1 := (tw_upd σ 100 j (σ 100 (j + 80)))) rfl (by simp only [tw_nadd, tw_nmul]) (rfl) (rfl) ?_
    refine ih (j + 1) _ (by omega) (fun τ h1 h2 => hQ τ (fun k i g => ?_) (fun i g1 g2 => ?_))
    · rw [h1 k i (by omega), tw_upd_off (by omega)]
    · by_cases hij : i = j
      · subst hij; rw [h1 _ _ (by omega)]; exact tw_upd_at
      · rw [h2 i (by omega) g2, tw_upd_off (by omega)]
set_option maxHeartbeats 4000000 in
set_option maxRecDepth 100000 in
theorem tw_e_cpu100  : tw_E L xs 0 256 [.ref 100, .int (nI 1)] σ (fun v τ => v = none ∧ (∀ i, i < 80 → τ 100 i = σ 100 (i + 80)) ∧ ∀ k i, ¬ (k = 100 ∧ 0 ≤ i ∧ i < 80) → τ k i = σ k i) := by
  show tw_P L xs _ 256 0 [.ref 100, .int (nI 1), tw_U, tw_U] [] σ _
  refine tw_sg 3 (i1 := 3) (ls1 := [.ref 100, .int (nI 1), tw_U, tw_U]) (st1 := [.int (nI 2), .int (nI 160)]) (σ1 := σ) rfl ?_
  refine tw_dv rfl (by decide) ?_
  rw [show nI 160 / nI 2 = nI 80 by decide]
  refine tw_sg 3 (i1 := 7) (ls1 := [.ref 100, .int (nI 1), .int (nI 80), .int (nI 0)]) (st1 := []) (σ1 := σ) rfl ?_
  exact tw_l_cpu100 80 0 σ (by omega) (fun τ h1 h2 => ⟨rfl, fun i hi => h2 i (by omega) hi, fun k i g => h1 k i (by omega)⟩)
set_option maxHeartbeats 4000000 in
set_option maxRecDepth 100000 in
theorem tw_l_cpu101 {L : Nat} {xs : Nat → Int32} {Q : Option Value → tw_Mem → Prop} : ∀ (f : Nat) (j : Nat) (σ : tw_Mem), j + f = 80 → (∀ τ : tw_Mem, (∀ k i, ¬ (k = 101 ∧ j ≤ i ∧ i < 80) → τ k i = σ k i) → (∀ i, j ≤ i → i < 80 → τ 101 i = σ 101 (i + 80)) → Q none τ) → tw_P L xs 0 256 7 [.ref 101, .int (nI 1), .int (nI 80), .int (nI j)] [] σ Q := by
  intro f
  induction f with
  | zero =>
    intro j σ hf hQ
    refine tw_sg 2 (i1 := 9) (ls1 := [.ref 101, .int (nI 1), .int (nI 80), .int (nI j)]) (st1 := [.int (nI 80), .int (nI j)]) (σ1 := σ) rfl ?_
    refine tw_biT (c := .ge) rfl (by rw [tw_cge, tw_nle (by omega) (by omega)] <;> omega) ?_
    show tw_P L xs _ 256 31 [.ref 101, .int (nI 1), .int (nI 80), .int (nI j)] [] σ _
    refine tw_rv rfl ?_
    exact hQ σ (fun _ _ _ => rfl) (fun i h1 h2 => by omega)
  | succ f ih =>
    intro j σ hf hQ
    refine tw_sg 2 (i1 := 9) (ls1 := [.ref 101, .int (nI 1), .int (nI 80), .int (nI j)]) (st1 := [.int (nI 80), .int (nI j)]) (σ1 := σ) rfl ?_
    refine tw_biF (c := .ge) rfl (by rw [tw_cge', tw_nle (by omega) (by omega)] <;> omega) ?_
    show tw_P L xs _ 256 10 [.ref 101, .int (nI 1), .int (nI 80), .int (nI j)] [] σ _
    refine tw_sg 1 (i1 := 11) (ls1 := [.ref 101, .int (nI 1), .int (nI 80), .int (nI j)]) (st1 := [.int (nI 1)]) (σ1 := σ) rfl ?_
    refine tw_bzF (c := .eq) rfl (by rw [tw_ceq', tw_neq (by omega) (by omega)] <;> omega) ?_
    show tw_P L xs _ 256 12 [.ref 101, .int (nI 1), .int (nI 80), .int (nI j)] [] σ _
    refine tw_sgn 6 (i1 := 18) (ls0 := [.ref 101, .int (nI 1), .int (nI 80), .int (nI j)]) (st0 := [.int (nI 80 + nI j), .ref 101, .int (nI j), .ref 101]) (σ0 := σ) (ls1 := [.ref 101, .int (nI 1), .int (nI 80), .int (nI j)]) (st1 := [.int (nI (j + 80)), .ref 101, .int (nI j), .ref 101]) (σ1 := σ) rfl (rfl) (by simp only [Nat.add_comm 80 j, tw_nadd, tw_nmul]) (rfl) ?_
    refine tw_al (k := 101) (j := (j + 80)) (len := 160) rfl rfl rfl rfl (rfl) (by omega) (by decide) ?_
    refine tw_as (k := 101) (j := j) (len := 160) rfl rfl rfl (rfl) (by omega) (by decide) ?_
    refine tw_sgn 3 (i1 := 7) (ls0 := [.ref 101, .int (nI 1), .int (nI 80), .int (nI j + nI 1)]) (st0 := []) (σ0 := (tw_upd σ 101 j (σ 101 (j + 80)))) (ls1 := [.ref 101, .int (nI 1), .int (nI 80), .int (nI (j + 1))]) (st1 := []) (σ1 := (tw_upd σ 101 j (σ 101 (j + 80)))) rfl (by simp only [tw_nadd, tw_nmul]) (rfl) (rfl) ?_
    refine ih (j + 1) _ (by omega) (fun τ h1 h2 => hQ τ (fun k i g => ?_) (fun i g1 g2 => ?_))
    · rw [h1 k i (by omega), tw_upd_off (by omega)]
    · by_cases hij : i = j
      · subst hij; rw [h1 _ _ (by omega)]; exact tw_upd_at
      · rw [h2 i (by omega) g2, tw_upd_off (by omega)]
set_option maxHeartbeats 4000000 in
set_option maxRecDepth 100000 in
theorem tw_e_cpu101  : tw_E L xs 0 256 [.ref 101, .int (nI 1)] σ (fun v τ => v = none ∧ (∀ i, i < 80 → τ 101 i = σ 101 (i + 80)) ∧ ∀ k i, ¬ (k = 101 ∧ 0 ≤ i ∧ i < 80) → τ k i = σ k i) := by
  show tw_P L xs _ 256 0 [.ref 101, .int (nI 1), tw_U, tw_U] [] σ _
  refine tw_sg 3 (i1 := 3) (ls1 := [.ref 101, .int (nI 1), tw_U, tw_U]) (st1 := [.int (nI 2), .int (nI 160)]) (σ1 := σ) rfl ?_
  refine tw_dv rfl (by decide) ?_
  rw [show nI 160 / nI 2 = nI 80 by decide]
  refine tw_sg 3 (i1 := 7) (ls1 := [.ref 101, .int (nI 1), .int (nI 80), .int (nI 0)]) (st1 := []) (σ1 := σ) rfl ?_
  exact tw_l_cpu101 80 0 σ (by omega) (fun τ h1 h2 => ⟨rfl, fun i hi => h2 i (by omega) hi, fun k i g => h1 k i (by omega)⟩)
set_option maxHeartbeats 4000000 in
set_option maxRecDepth 100000 in
theorem tw_l_cpu102 {L : Nat} {xs : Nat → Int32} {Q : Option Value → tw_Mem → Prop} : ∀ (f : Nat) (j : Nat) (σ : tw_Mem), j + f = 80 → (∀ τ : tw_Mem, (∀ k i, ¬ (k = 102 ∧ j ≤ i ∧ i < 80) → τ k i = σ k i) → (∀ i, j ≤ i → i < 80 → τ 102 i = σ 102 (i + 80)) → Q none τ) → tw_P L xs 0 256 7 [.ref 102, .int (nI 1), .int (nI 80), .int (nI j)] [] σ Q := by
  intro f
  induction f with
  | zero =>
    intro j σ hf hQ
    refine tw_sg 2 (i1 := 9) (ls1 := [.ref 102, .int (nI 1), .int (nI 80), .int (nI j)]) (st1 := [.int (nI 80), .int (nI j)]) (σ1 := σ) rfl ?_
    refine tw_biT (c := .ge) rfl (by rw [tw_cge, tw_nle (by omega) (by omega)] <;> omega) ?_
    show tw_P L xs _ 256 31 [.ref 102, .int (nI 1), .int (nI 80), .int (nI j)] [] σ _
    refine tw_rv rfl ?_
    exact hQ σ (fun _ _ _ => rfl) (fun i h1 h2 => by omega)
  | succ f ih =>
    intro j σ hf hQ
    refine tw_sg 2 (i1 := 9) (ls1 := [.ref 102, .int (nI 1), .int (nI 80), .int (nI j)]) (st1 := [.int (nI 80), .int (nI j)]) (σ1 := σ) rfl ?_
    refine tw_biF (c := .ge) rfl (by rw [tw_cge', tw_nle (by omega) (by omega)] <;> omega) ?_
    show tw_P L xs _ 256 10 [.ref 102, .int (nI 1), .int (nI 80), .int (nI j)] [] σ _
    refine tw_sg 1 (i1 := 11) (ls1 := [.ref 102, .int (nI 1), .int (nI 80), .int (nI j)]) (st1 := [.int (nI 1)]) (σ1 := σ) rfl ?_
    refine tw_bzF (c := .eq) rfl (by rw [tw_ceq', tw_neq (by omega) (by omega)] <;> omega) ?_
    show tw_P L xs _ 256 12 [.ref 102, .int (nI 1), .int (nI 80), .int (nI j)] [] σ _
    refine tw_sgn 6 (i1 := 18) (ls0 := [.ref 102, .int (nI 1), .int (nI 80), .int (nI j)]) (st0 := [.int (nI 80 + nI j), .ref 102, .int (nI j), .ref 102]) (σ0 := σ) (ls1 := [.ref 102, .int (nI 1), .int (nI 80), .int (nI j)]) (st1 := [.int (nI (j + 80)), .ref 102, .int (nI j), .ref 102]) (σ1 := σ) rfl (rfl) (by simp only [Nat.add_comm 80 j, tw_nadd, tw_nmul]) (rfl) ?_
    refine tw_al (k := 102) (j := (j + 80)) (len := 160) rfl rfl rfl rfl (rfl) (by omega) (by decide) ?_
    refine tw_as (k := 102) (j := j) (len := 160) rfl rfl rfl (rfl) (by omega) (by decide) ?_
    refine tw_sgn 3 (i1 := 7) (ls0 := [.ref 102, .int (nI 1), .int (nI 80), .int (nI j + nI 1)]) (st0 := []) (σ0 := (tw_upd σ 102 j (σ 102 (j + 80)))) (ls1 := [.ref 102, .int (nI 1), .int (nI 80), .int (nI (j + 1))]) (st1 := []) (σ1 := (tw_upd σ 102 j (σ 102 (j + 80)))) rfl (by simp only [tw_nadd, tw_nmul]) (rfl) (rfl) ?_
    refine ih (j + 1) _ (by omega) (fun τ h1 h2 => hQ τ (fun k i g => ?_) (fun i g1 g2 => ?_))
    · rw [h1 k i (by omega), tw_upd_off (by omega)]
    · by_cases hij : i = j
      · subst hij; rw [h1 _ _ (by omega)]; exact tw_upd_at
      · rw [h2 i (by omega) g2, tw_upd_off (by omega)]
set_option maxHeartbeats 4000000 in
set_option maxRecDepth 100000 in
theorem tw_e_cpu102  : tw_E L xs 0 256 [.ref 102, .int (nI 1)] σ (fun v τ => v = none ∧ (∀ i, i < 80 → τ 102 i = σ 102 (i + 80)) ∧ ∀ k i, ¬ (k = 102 ∧ 0 ≤ i ∧ i < 80) → τ k i = σ k i) := by
  show tw_P L xs _ 256 0 [.ref 102, .int (nI 1), tw_U, tw_U] [] σ _
  refine tw_sg 3 (i1 := 3) (ls1 := [.ref 102, .int (nI 1), tw_U, tw_U]) (st1 := [.int (nI 2), .int (nI 160)]) (σ1 := σ) rfl ?_
  refine tw_dv rfl (by decide) ?_
  rw [show nI 160 / nI 2 = nI 80 by decide]
  refine tw_sg 3 (i1 := 7) (ls1 := [.ref 102, .int (nI 1), .int (nI 80), .int (nI 0)]) (st1 := []) (σ1 := σ) rfl ?_
  exact tw_l_cpu102 80 0 σ (by omega) (fun τ h1 h2 => ⟨rfl, fun i hi => h2 i (by omega) hi, fun k i g => h1 k i (by omega)⟩)
def tw_cpDu (σ0 σ : tw_Mem) (M : Nat) : Prop := (∀ k j j2, k < M → tw_fmL k j j2 → σ k j = σ0 k j2) ∧ ∀ k j, ¬ (k < M ∧ tw_fmLo k j) → σ k j = σ0 k j
theorem tw_cpDu.step {σ0 σ τ : tw_Mem} {M h : Nat} (hM : tw_hfs M h) (H : tw_cpDu σ0 σ M) (a : (∀ i, i < h → τ M i = σ M (i + h)) ∧ ∀ k i, ¬ (k = M ∧ i < h) → τ k i = σ k i) : tw_cpDu σ0 τ (M + 1) := by
  obtain ⟨a1, a2⟩ := a
  unfold tw_hfs at hM
  refine ⟨fun k j j2 hk hf => ?_, fun k j g => ?_⟩
  · have hf0 := hf
    unfold tw_fmL at hf0
    by_cases z : k = M
    · subst z
      have e : j2 = j + h := by omega
      subst e
      rw [a1 j (by omega)]
      exact H.2 _ _ (by omega)
    · rw [a2 _ _ (by omega)]
      exact H.1 k j j2 (by omega) hf
  · rw [a2 k j (by unfold tw_fmLo at g; omega)]
    exact H.2 k j (by unfold tw_fmLo at g ⊢; omega)
set_option maxHeartbeats 4000000 in
set_option maxRecDepth 100000 in
theorem tw_e_cpDu  : tw_E L xs 1 257 [.ref 88, .int (nI 1)] σ (fun v τ => v = none ∧ tw_cpDu σ τ 103) := by
  have h88 : tw_cpDu σ σ 89 := ⟨fun k j j2 h1 h2 => by unfold tw_fmL at h2; omega, fun _ _ _ => rfl⟩
  show tw_P L xs _ 257 0 [.ref 88, .int (nI 1)] [] σ _
  refine tw_sg 3 (i1 := 3) (ls1 := [.ref 88, .int (nI 1)]) (st1 := [.int (nI 1), .ref 89]) (σ1 := σ) rfl ?_
  refine tw_cl1 rfl (rfl) (by decide) (tw_e_cpu89) ?_
  rintro _ σ89 ⟨rfl, g89⟩
  show tw_P L xs _ 257 4 [.ref 88, .int (nI 1)] [] σ89 _
  have h89 : tw_cpDu σ σ89 90 := tw_cpDu.step (M := 89) (h := 1) (by unfold tw_hfs; omega) h88 ⟨g89.1, fun k i g => g89.2 k i (by omega)⟩
  refine tw_sg 3 (i1 := 7) (ls1 := [.ref 88, .int (nI 1)]) (st1 := [.int (nI 1), .ref 90]) (σ1 := σ89) rfl ?_
  refine tw_cl1 rfl (rfl) (by decide) (tw_e_cpu90) ?_
  rintro _ σ90 ⟨rfl, g90⟩
  show tw_P L xs _ 257 8 [.ref 88, .int (nI 1)] [] σ90 _
  have h90 : tw_cpDu σ σ90 91 := tw_cpDu.step (M := 90) (h := 1) (by unfold tw_hfs; omega) h89 ⟨g90.1, fun k i g => g90.2 k i (by omega)⟩
  refine tw_sg 3 (i1 := 11) (ls1 := [.ref 88, .int (nI 1)]) (st1 := [.int (nI 1), .ref 91]) (σ1 := σ90) rfl ?_
  refine tw_cl1 rfl (rfl) (by decide) (tw_e_cpu91) ?_
  rintro _ σ91 ⟨rfl, g91⟩
  show tw_P L xs _ 257 12 [.ref 88, .int (nI 1)] [] σ91 _
  have h91 : tw_cpDu σ σ91 92 := tw_cpDu.step (M := 91) (h := 40) (by unfold tw_hfs; omega) h90 ⟨g91.1, fun k i g => g91.2 k i (by omega)⟩
  refine tw_sg 3 (i1 := 15) (ls1 := [.ref 88, .int (nI 1)]) (st1 := [.int (nI 1), .ref 92]) (σ1 := σ91) rfl ?_
  refine tw_cl1 rfl (rfl) (by decide) (tw_e_cpu92) ?_
  rintro _ σ92 ⟨rfl, g92⟩
  show tw_P L xs _ 257 16 [.ref 88, .int (nI 1)] [] σ92 _
  have h92 : tw_cpDu σ σ92 93 := tw_cpDu.step (M := 92) (h := 10) (by unfold tw_hfs; omega) h91 ⟨g92.1, fun k i g => g92.2 k i (by omega)⟩
  refine tw_sg 3 (i1 := 19) (ls1 := [.ref 88, .int (nI 1)]) (st1 := [.int (nI 1), .ref 93]) (σ1 := σ92) rfl ?_
  refine tw_cl1 rfl (rfl) (by decide) (tw_e_cpu93) ?_
  rintro _ σ93 ⟨rfl, g93⟩
  show tw_P L xs _ 257 20 [.ref 88, .int (nI 1)] [] σ93 _
  have h93 : tw_cpDu σ σ93 94 := tw_cpDu.step (M := 93) (h := 10) (by unfold tw_hfs; omega) h92 ⟨g93.1, fun k i g => g93.2 k i (by omega)⟩
  refine tw_sg 3 (i1 := 23) (ls1 := [.ref 88, .int (nI 1)]) (st1 := [.int (nI 1), .ref 94]) (σ1 := σ93) rfl ?_
  refine tw_cl1 rfl (rfl) (by decide) (tw_e_cpu94) ?_
  rintro _ σ94 ⟨rfl, g94⟩
  show tw_P L xs _ 257 24 [.ref 88, .int (nI 1)] [] σ94 _
  have h94 : tw_cpDu σ σ94 95 := tw_cpDu.step (M := 94) (h := 10) (by unfold tw_hfs; omega) h93 ⟨g94.1, fun k i g => g94.2 k i (by omega)⟩
  refine tw_sg 3 (i1 := 27) (ls1 := [.ref 88, .int (nI 1)]) (st1 := [.int (nI 1), .ref 95]) (σ1 := σ94) rfl ?_
  refine tw_cl1 rfl (rfl) (by decide) (tw_e_cpu95) ?_
  rintro _ σ95 ⟨rfl, g95⟩
  show tw_P L xs _ 257 28 [.ref 88, .int (nI 1)] [] σ95 _
  have h95 : tw_cpDu σ σ95 96 := tw_cpDu.step (M := 95) (h := 500) (by unfold tw_hfs; omega) h94 ⟨g95.1, fun k i g => g95.2 k i (by omega)⟩
  refine tw_sg 3 (i1 := 31) (ls1 := [.ref 88, .int (nI 1)]) (st1 := [.int (nI 1), .ref 96]) (σ1 := σ95) rfl ?_
  refine tw_cl1 rfl (rfl) (by decide) (tw_e_cpu96) ?_
  rintro _ σ96 ⟨rfl, g96⟩
  show tw_P L xs _ 257 32 [.ref 88, .int (nI 1)] [] σ96 _
  have h96 : tw_cpDu σ σ96 97 := tw_cpDu.step (M := 96) (h := 500) (by unfold tw_hfs; omega) h95 ⟨g96.1, fun k i g => g96.2 k i (by omega)⟩
  refine tw_sg 3 (i1 := 35) (ls1 := [.ref 88, .int (nI 1)]) (st1 := [.int (nI 1), .ref 97]) (σ1 := σ96) rfl ?_
  refine tw_cl1 rfl (rfl) (by decide) (tw_e_cpu97) ?_
  rintro _ σ97 ⟨rfl, g97⟩
  show tw_P L xs _ 257 36 [.ref 88, .int (nI 1)] [] σ97 _
  have h97 : tw_cpDu σ σ97 98 := tw_cpDu.step (M := 97) (h := 500) (by unfold tw_hfs; omega) h96 ⟨g97.1, fun k i g => g97.2 k i (by omega)⟩
  refine tw_sg 3 (i1 := 39) (ls1 := [.ref 88, .int (nI 1)]) (st1 := [.int (nI 1), .ref 98]) (σ1 := σ97) rfl ?_
  refine tw_cl1 rfl (rfl) (by decide) (tw_e_cpu98) ?_
  rintro _ σ98 ⟨rfl, g98⟩
  show tw_P L xs _ 257 40 [.ref 88, .int (nI 1)] [] σ98 _
  have h98 : tw_cpDu σ σ98 99 := tw_cpDu.step (M := 98) (h := 500) (by unfold tw_hfs; omega) h97 ⟨g98.1, fun k i g => g98.2 k i (by omega)⟩
  refine tw_sg 3 (i1 := 43) (ls1 := [.ref 88, .int (nI 1)]) (st1 := [.int (nI 1), .ref 99]) (σ1 := σ98) rfl ?_
  refine tw_cl1 rfl (rfl) (by decide) (tw_e_cpu99) ?_
  rintro _ σ99 ⟨rfl, g99⟩
  show tw_P L xs _ 257 44 [.ref 88, .int (nI 1)] [] σ99 _
  have h99 : tw_cpDu σ σ99 100 := tw_cpDu.step (M := 99) (h := 80) (by unfold tw_hfs; omega) h98 ⟨g99.1, fun k i g => g99.2 k i (by omega)⟩
  refine tw_sg 3 (i1 := 47) (ls1 := [.ref 88, .int (nI 1)]) (st1 := [.int (nI 1), .ref 100]) (σ1 := σ99) rfl ?_
  refine tw_cl1 rfl (rfl) (by decide) (tw_e_cpu100) ?_
  rintro _ σ100 ⟨rfl, g100⟩
  show tw_P L xs _ 257 48 [.ref 88, .int (nI 1)] [] σ100 _
  have h100 : tw_cpDu σ σ100 101 := tw_cpDu.step (M := 100) (h := 80) (by unfold tw_hfs; omega) h99 ⟨g100.1, fun k i g => g100.2 k i (by omega)⟩
  refine tw_sg 3 (i1 := 51) (ls1 := [.ref 88, .int (nI 1)]) (st1 := [.int (nI 1), .ref 101]) (σ1 := σ100) rfl ?_
  refine tw_cl1 rfl (rfl) (by decide) (tw_e_cpu101) ?_
  rintro _ σ101 ⟨rfl, g101⟩
  show tw_P L xs _ 257 52 [.ref 88, .int (nI 1)] [] σ101 _
  have h101 : tw_cpDu σ σ101 102 := tw_cpDu.step (M := 101) (h := 80) (by unfold tw_hfs; omega) h100 ⟨g101.1, fun k i g => g101.2 k i (by omega)⟩
  refine tw_sg 3 (i1 := 55) (ls1 := [.ref 88, .int (nI 1)]) (st1 := [.int (nI 1), .ref 102]) (σ1 := σ101) rfl ?_
  refine tw_cl1 rfl (rfl) (by decide) (tw_e_cpu102) ?_
  rintro _ σ102 ⟨rfl, g102⟩
  show tw_P L xs _ 257 56 [.ref 88, .int (nI 1)] [] σ102 _
  have h102 : tw_cpDu σ σ102 103 := tw_cpDu.step (M := 102) (h := 80) (by unfold tw_hfs; omega) h101 ⟨g102.1, fun k i g => g102.2 k i (by omega)⟩
  refine tw_rv rfl ?_
  exact ⟨rfl, h102⟩
end tw_s51
