/-! thread -/
section tw_s62
variable {L : Nat} {xs : Nat → Int32} {σ : tw_Mem} {x y w : Int32} {n r i c k h q a b e : Nat}
set_option maxHeartbeats 4000000 in
set_option maxRecDepth 100000 in
theorem tw_l_fault {L : Nat} {xs : Nat → Int32} {Q : Option Value → tw_Mem → Prop} {σ : tw_Mem} {w : Nat → Int32} {k m : Nat} (hk : k ≤ 80) (hmk : m ≤ k) (hs : σ 2 1 = nI k) (hw : ∀ z, z < k → σ 3 z = w z) (hok : ∀ j, j < m → tw_fit (tw_hr w k j) j) (hbad : ¬ tw_fit (tw_hr w k m) m) (hQ : Q (some (.int (if m = k ∧ k % 6 = 5 then (-1) else nI m))) σ) : ∀ (f i : Nat), i + f = m → tw_P L xs 1 126 2 [.ref 2, .int (nI i)] [] σ Q := by
  intro f
  induction f with
  | zero =>
    intro i hf
    have hf : i = m := hf
    subst hf
    rcases (show i < k ∨ (i = k ∧ k % 6 = 5) ∨ (i = k ∧ ¬ k % 6 = 5) by omega) with hz | hz | hz
    · rw [if_neg (by omega)] at hQ
      rw [tw_hr_in hz] at hbad
      refine tw_sg 2 (i1 := 4) (ls1 := [.ref 2, .int (nI i)]) (st1 := [.ref 2, .int (nI i)]) (σ1 := σ) rfl ?_
      refine tw_cl0 0 rfl (rfl) (by decide) ?_
      show tw_P L xs _ 121 0 [.ref 2] [] σ _
      refine tw_sgn 2 (i1 := 2) (ls0 := [.ref 2]) (st0 := [.int (σ 2 1)]) (σ0 := σ) (ls1 := [.ref 2]) (st1 := [.int (nI k)]) (σ1 := σ) rfl (rfl) (by simp only [hs, tw_nadd, tw_nmul]) (rfl) ?_
      refine tw_ri rfl (rfl) ?_
      show tw_P L xs _ 126 5 [.ref 2, .int (nI i)] [.int (nI k), .int (nI i)] σ _
      refine tw_biF (c := .ge) rfl (by rw [tw_cge', tw_nle (by omega) (by omega)] <;> omega) ?_
      show tw_P L xs _ 126 6 [.ref 2, .int (nI i)] [] σ _
      refine tw_sg 2 (i1 := 8) (ls1 := [.ref 2, .int (nI i)]) (st1 := [.int (nI i), .ref 2]) (σ1 := σ) rfl ?_
      refine tw_cl0 0 rfl (rfl) (by decide) ?_
      show tw_P L xs _ 125 0 [.ref 2, .int (nI i)] [] σ _
      refine tw_sg 1 (i1 := 1) (ls1 := [.ref 2, .int (nI i)]) (st1 := [.int (nI i)]) (σ1 := σ) rfl ?_
      refine tw_bzF (c := .lt) rfl (by rw [tw_clt', tw_nlt (by omega) (by omega)] <;> omega) ?_
      show tw_P L xs _ 125 2 [.ref 2, .int (nI i)] [] σ _
      refine tw_sgn 3 (i1 := 5) (ls0 := [.ref 2, .int (nI i)]) (st0 := [.int (σ 2 1), .int (nI i)]) (σ0 := σ) (ls1 := [.ref 2, .int (nI i)]) (st1 := [.int (nI k), .int (nI i)]) (σ1 := σ) rfl (rfl) (by simp only [hs, tw_nadd, tw_nmul]) (rfl) ?_
      refine tw_biF (c := .ge) rfl (by rw [tw_cge', tw_nle (by omega) (by omega)] <;> omega) ?_
      show tw_P L xs _ 125 6 [.ref 2, .int (nI i)] [] σ _
      refine tw_sg 4 (i1 := 10) (ls1 := [.ref 2, .int (nI i)]) (st1 := [.int (nI 80), .int (nI i)]) (σ1 := σ) rfl ?_
      refine tw_biF (c := .ge) rfl (by rw [tw_cge', tw_nle (by omega) (by omega)] <;> omega) ?_
      show tw_P L xs _ 125 11 [.ref 2, .int (nI i)] [] σ _
      refine tw_sg 3 (i1 := 14) (ls1 := [.ref 2, .int (nI i)]) (st1 := [.int (nI i), .ref 3]) (σ1 := σ) rfl ?_
      refine tw_alb (k := 3) (j := i) (len := 80) rfl rfl (by decide) rfl (rfl) (by omega) (by decide) ?_
      rw [(hw i (by omega))]
      refine tw_sg 1 (i1 := 17) (ls1 := [.ref 2, .int (nI i)]) (st1 := [.int (w i)]) (σ1 := σ) rfl ?_
      refine tw_ri rfl (rfl) ?_
      show tw_P L xs _ 126 9 [.ref 2, .int (nI i)] [.int (w i)] σ _
      refine tw_sg 1 (i1 := 10) (ls1 := [.ref 2, .int (nI i)]) (st1 := [.int (nI i), .int (w i)]) (σ1 := σ) rfl ?_
      refine tw_cl1 rfl (rfl) (by decide) (tw_E_mono (tw_e_fits (x := w i) (j := i) (by omega)) (fun v σ1 h => (⟨by rw [h.1, tw_blF hbad], h.2⟩ : v = some (.int (nI 0)) ∧ σ = σ1))) ?_
      rintro _ _ ⟨rfl, rfl⟩
      show tw_P L xs _ 126 11 [.ref 2, .int (nI i)] [.int (nI 0)] σ _
      refine tw_bzF (c := .ne) rfl (by rw [tw_cne', tw_neq (by omega) (by omega)] <;> omega) ?_
      show tw_P L xs _ 126 12 [.ref 2, .int (nI i)] [] σ _
      refine tw_sg 1 (i1 := 13) (ls1 := [.ref 2, .int (nI i)]) (st1 := [.int (nI i)]) (σ1 := σ) rfl ?_
      refine tw_ri rfl (rfl) ?_
      exact hQ
    · rw [if_pos hz] at hQ
      refine tw_sg 2 (i1 := 4) (ls1 := [.ref 2, .int (nI i)]) (st1 := [.ref 2, .int (nI i)]) (σ1 := σ) rfl ?_
      refine tw_cl0 0 rfl (rfl) (by decide) ?_
      show tw_P L xs _ 121 0 [.ref 2] [] σ _
      refine tw_sgn 2 (i1 := 2) (ls0 := [.ref 2]) (st0 := [.int (σ 2 1)]) (σ0 := σ) (ls1 := [.ref 2]) (st1 := [.int (nI k)]) (σ1 := σ) rfl (rfl) (by simp only [hs, tw_nadd, tw_nmul]) (rfl) ?_
      refine tw_ri rfl (rfl) ?_
      show tw_P L xs _ 126 5 [.ref 2, .int (nI i)] [.int (nI k), .int (nI i)] σ _
      refine tw_biT (c := .ge) rfl (by rw [tw_cge, tw_nle (by omega) (by omega)] <;> omega) ?_
      show tw_P L xs _ 126 16 [.ref 2, .int (nI i)] [] σ _
      refine tw_sg 1 (i1 := 17) (ls1 := [.ref 2, .int (nI i)]) (st1 := [.ref 2]) (σ1 := σ) rfl ?_
      refine tw_cl0 0 rfl (rfl) (by decide) ?_
      show tw_P L xs _ 121 0 [.ref 2] [] σ _
      refine tw_sgn 2 (i1 := 2) (ls0 := [.ref 2]) (st0 := [.int (σ 2 1)]) (σ0 := σ) (ls1 := [.ref 2]) (st1 := [.int (nI k)]) (σ1 := σ) rfl (rfl) (by simp only [hs, tw_nadd, tw_nmul]) (rfl) ?_
      refine tw_ri rfl (rfl) ?_
      show tw_P L xs _ 126 18 [.ref 2, .int (nI i)] [.int (nI k)] σ _
      refine tw_sg 1 (i1 := 19) (ls1 := [.ref 2, .int (nI i)]) (st1 := [.int (nI 6), .int (nI k)]) (σ1 := σ) rfl ?_
      refine tw_rm rfl (by decide) ?_
      rw [tw_nrem (by omega) (by decide)]
      refine tw_sg 1 (i1 := 21) (ls1 := [.ref 2, .int (nI i)]) (st1 := [.int (nI 5), .int (nI (k % 6))]) (σ1 := σ) rfl ?_
      refine tw_biF (c := .ne) rfl (by rw [tw_cne', tw_neq (by omega) (by omega)] <;> omega) ?_
      show tw_P L xs _ 126 22 [.ref 2, .int (nI i)] [] σ _
      refine tw_sg 2 (i1 := 26) (ls1 := [.ref 2, .int (nI i)]) (st1 := [.int (-1)]) (σ1 := σ) rfl ?_
      refine tw_ri rfl (rfl) ?_
      exact hQ
    · rw [if_neg (by omega)] at hQ
      refine tw_sg 2 (i1 := 4) (ls1 := [.ref 2, .int (nI i)]) (st1 := [.ref 2, .int (nI i)]) (σ1 := σ) rfl ?_
      refine tw_cl0 0 rfl (rfl) (by decide) ?_
      show tw_P L xs _ 121 0 [.ref 2] [] σ _
      refine tw_sgn 2 (i1 := 2) (ls0 := [.ref 2]) (st0 := [.int (σ 2 1)]) (σ0 := σ) (ls1 := [.ref 2]) (st1 := [.int (nI k)]) (σ1 := σ) rfl (rfl) (by simp only [hs, tw_nadd, tw_nmul]) (rfl) ?_
      refine tw_ri rfl (rfl) ?_
      show tw_P L xs _ 126 5 [.ref 2, .int (nI i)] [.int (nI k), .int (nI i)] σ _
      refine tw_biT (c := .ge) rfl (by rw [tw_cge, tw_nle (by omega) (by omega)] <;> omega) ?_
      show tw_P L xs _ 126 16 [.ref 2, .int (nI i)] [] σ _
      refine tw_sg 1 (i1 := 17) (ls1 := [.ref 2, .int (nI i)]) (st1 := [.ref 2]) (σ1 := σ) rfl ?_
      refine tw_cl0 0 rfl (rfl) (by decide) ?_
      show tw_P L xs _ 121 0 [.ref 2] [] σ _
      refine tw_sgn 2 (i1 := 2) (ls0 := [.ref 2]) (st0 := [.int (σ 2 1)]) (σ0 := σ) (ls1 := [.ref 2]) (st1 := [.int (nI k)]) (σ1 := σ) rfl (rfl) (by simp only [hs, tw_nadd, tw_nmul]) (rfl) ?_
      refine tw_ri rfl (rfl) ?_
      show tw_P L xs _ 126 18 [.ref 2, .int (nI i)] [.int (nI k)] σ _
      refine tw_sg 1 (i1 := 19) (ls1 := [.ref 2, .int (nI i)]) (st1 := [.int (nI 6), .int (nI k)]) (σ1 := σ) rfl ?_
      refine tw_rm rfl (by decide) ?_
      rw [tw_nrem (by omega) (by decide)]
      refine tw_sg 1 (i1 := 21) (ls1 := [.ref 2, .int (nI i)]) (st1 := [.int (nI 5), .int (nI (k % 6))]) (σ1 := σ) rfl ?_
      refine tw_biT (c := .ne) rfl (by rw [tw_cne, tw_neq (by omega) (by omega)] <;> omega) ?_
      show tw_P L xs _ 126 24 [.ref 2, .int (nI i)] [] σ _
      refine tw_sg 1 (i1 := 25) (ls1 := [.ref 2, .int (nI i)]) (st1 := [.ref 2]) (σ1 := σ) rfl ?_
      refine tw_cl0 0 rfl (rfl) (by decide) ?_
      show tw_P L xs _ 121 0 [.ref 2] [] σ _
      refine tw_sgn 2 (i1 := 2) (ls0 := [.ref 2]) (st0 := [.int (σ 2 1)]) (σ0 := σ) (ls1 := [.ref 2]) (st1 := [.int (nI k)]) (σ1 := σ) rfl (rfl) (by simp only [hs, tw_nadd, tw_nmul]) (rfl) ?_
      refine tw_ri rfl (rfl) ?_
      show tw_P L xs _ 126 26 [.ref 2, .int (nI i)] [.int (nI k)] σ _
      refine tw_ri rfl (rfl) ?_
      rw [hz.1] at hQ
      exact hQ
  | succ f ih =>
    intro i hf
    have hfi := hok i (by omega)
    have hik := tw_hr_lt hfi
    rw [tw_hr_in hik] at hfi
    refine tw_sg 2 (i1 := 4) (ls1 := [.ref 2, .int (nI i)]) (st1 := [.ref 2, .int (nI i)]) (σ1 := σ) rfl ?_
    refine tw_cl0 0 rfl (rfl) (by decide) ?_
    show tw_P L xs _ 121 0 [.ref 2] [] σ _
    refine tw_sgn 2 (i1 := 2) (ls0 := [.ref 2]) (st0 := [.int (σ 2 1)]) (σ0 := σ) (ls1 := [.ref 2]) (st1 := [.int (nI k)]) (σ1 := σ) rfl (rfl) (by simp only [hs, tw_nadd, tw_nmul]) (rfl) ?_
    refine tw_ri rfl (rfl) ?_
    show tw_P L xs _ 126 5 [.ref 2, .int (nI i)] [.int (nI k), .int (nI i)] σ _
    refine tw_biF (c := .ge) rfl (by rw [tw_cge', tw_nle (by omega) (by omega)] <;> omega) ?_
    show tw_P L xs _ 126 6 [.ref 2, .int (nI i)] [] σ _
    refine tw_sg 2 (i1 := 8) (ls1 := [.ref 2, .int (nI i)]) (st1 := [.int (nI i), .ref 2]) (σ1 := σ) rfl ?_
    refine tw_cl0 0 rfl (rfl) (by decide) ?_
    show tw_P L xs _ 125 0 [.ref 2, .int (nI i)] [] σ _
    refine tw_sg 1 (i1 := 1) (ls1 := [.ref 2, .int (nI i)]) (st1 := [.int (nI i)]) (σ1 := σ) rfl ?_
    refine tw_bzF (c := .lt) rfl (by rw [tw_clt', tw_nlt (by omega) (by omega)] <;> omega) ?_
    show tw_P L xs _ 125 2 [.ref 2, .int (nI i)] [] σ _
    refine tw_sgn 3 (i1 := 5) (ls0 := [.ref 2, .int (nI i)]) (st0 := [.int (σ 2 1), .int (nI i)]) (σ0 := σ) (ls1 := [.ref 2, .int (nI i)]) (st1 := [.int (nI k), .int (nI i)]) (σ1 := σ) rfl (rfl) (by simp only [hs, tw_nadd, tw_nmul]) (rfl) ?_
    refine tw_biF (c := .ge) rfl (by rw [tw_cge', tw_nle (by omega) (by omega)] <;> omega) ?_
    show tw_P L xs _ 125 6 [.ref 2, .int (nI i)] [] σ _
    refine tw_sg 4 (i1 := 10) (ls1 := [.ref 2, .int (nI i)]) (st1 := [.int (nI 80), .int (nI i)]) (σ1 := σ) rfl ?_
    refine tw_biF (c := .ge) rfl (by rw [tw_cge', tw_nle (by omega) (by omega)] <;> omega) ?_
    show tw_P L xs _ 125 11 [.ref 2, .int (nI i)] [] σ _
    refine tw_sg 3 (i1 := 14) (ls1 := [.ref 2, .int (nI i)]) (st1 := [.int (nI i), .ref 3]) (σ1 := σ) rfl ?_
    refine tw_alb (k := 3) (j := i) (len := 80) rfl rfl (by decide) rfl (rfl) (by omega) (by decide) ?_
    rw [(hw i (by omega))]
    refine tw_sg 1 (i1 := 17) (ls1 := [.ref 2, .int (nI i)]) (st1 := [.int (w i)]) (σ1 := σ) rfl ?_
    refine tw_ri rfl (rfl) ?_
    show tw_P L xs _ 126 9 [.ref 2, .int (nI i)] [.int (w i)] σ _
    refine tw_sg 1 (i1 := 10) (ls1 := [.ref 2, .int (nI i)]) (st1 := [.int (nI i), .int (w i)]) (σ1 := σ) rfl ?_
    refine tw_cl1 rfl (rfl) (by decide) (tw_E_mono (tw_e_fits (x := w i) (j := i) (by omega)) (fun v σ1 h => (⟨by rw [h.1, tw_blT hfi], h.2⟩ : v = some (.int (nI 1)) ∧ σ = σ1))) ?_
    rintro _ _ ⟨rfl, rfl⟩
    show tw_P L xs _ 126 11 [.ref 2, .int (nI i)] [.int (nI 1)] σ _
    refine tw_bzT (c := .ne) rfl (by rw [tw_cne, tw_neq (by omega) (by omega)] <;> omega) ?_
    show tw_P L xs _ 126 14 [.ref 2, .int (nI i)] [] σ _
    refine tw_sgn 2 (i1 := 2) (ls0 := [.ref 2, .int (nI i + nI 1)]) (st0 := []) (σ0 := σ) (ls1 := [.ref 2, .int (nI (i + 1))]) (st1 := []) (σ1 := σ) rfl (by simp only [tw_nadd, tw_nmul]) (rfl) (rfl) ?_
    exact ih (i + 1) (by omega)
set_option maxHeartbeats 4000000 in
set_option maxRecDepth 100000 in
theorem tw_e_fault {w : Nat → Int32} {k m : Nat} (hk : k ≤ 80) (hmk : m ≤ k) (hs : σ 2 1 = nI k) (hw : ∀ z, z < k → σ 3 z = w z) (hok : ∀ j, j < m → tw_fit (tw_hr w k j) j) (hbad : ¬ tw_fit (tw_hr w k m) m) : tw_E L xs 1 126 [.ref 2] σ (fun v σ1 => v = some (.int (if m = k ∧ k % 6 = 5 then (-1) else nI m)) ∧ σ = σ1) := by
  show tw_P L xs _ 126 0 [.ref 2, tw_U] [] σ _
  refine tw_sg 2 (i1 := 2) (ls1 := [.ref 2, .int (nI 0)]) (st1 := []) (σ1 := σ) rfl ?_
  exact tw_l_fault hk hmk hs hw hok hbad ⟨rfl, rfl⟩ m 0 (by omega)
set_option maxHeartbeats 4000000 in
set_option maxRecDepth 100000 in
theorem tw_e_readCard {w : Nat → Int32} {k c : Nat} (hk : k ≤ 80) (hc : c < 10) (hck : 6 * c + 5 ≤ k) (hs : σ 2 1 = nI k) (hw : ∀ z, z < k → σ 3 z = w z) : tw_E L xs 3 129 [.ref 2, .int (nI c), .ref (2 * c + 18)] σ (fun v τ => v = none ∧ (∀ h, h < 4 → τ (2 * c + 19) h = w (6 * c + h) - nI 97) ∧ (τ (2 * c + 18) 1 = (if w (6 * c + 4) = nI 90 then nI 1 else nI 0) ∧ τ (2 * c + 18) 2 = nI 0 ∧ τ (2 * c + 18) 3 = nI 0) ∧ ∀ k j, ¬ k = 2 * c + 18 → ¬ k = 2 * c + 19 → τ k j = σ k j) := by
  show tw_P L xs _ 129 0 [.ref 2, .int (nI c), .ref (2 * c + 18), tw_U, tw_U] [] σ _
  refine tw_sgn 8 (i1 := 8) (ls0 := [.ref 2, .int (nI c), .ref (2 * c + 18), .int (nI c * nI 6), .int (nI 0)]) (st0 := [.int (nI 4), .int (nI 0)]) (σ0 := σ) (ls1 := [.ref 2, .int (nI c), .ref (2 * c + 18), .int (nI (c * 6)), .int (nI 0)]) (st1 := [.int (nI 4), .int (nI 0)]) (σ1 := σ) rfl (by simp only [tw_nadd, tw_nmul]) (rfl) (rfl) ?_
  refine tw_biF (c := .ge) rfl (by rw [tw_cge', tw_nle (by omega) (by omega)] <;> omega) ?_
  show tw_P L xs _ 129 9 [.ref 2, .int (nI c), .ref (2 * c + 18), .int (nI (c * 6)), .int (nI 0)] [] σ _
  refine tw_sgn 6 (i1 := 15) (ls0 := [.ref 2, .int (nI c), .ref (2 * c + 18), .int (nI (c * 6)), .int (nI 0)]) (st0 := [.int (nI (c * 6) + nI 0), .ref 2, .int (nI 0), .ref (2 * c + 18)]) (σ0 := σ) (ls1 := [.ref 2, .int (nI c), .ref (2 * c + 18), .int (nI (c * 6)), .int (nI 0)]) (st1 := [.int (nI ((c * 6) + 0)), .ref 2, .int (nI 0), .ref (2 * c + 18)]) (σ1 := σ) rfl (rfl) (by simp only [tw_nadd, tw_nmul]) (rfl) ?_
  refine tw_cl0 2 rfl (rfl) (by decide) ?_
  show tw_P L xs _ 125 0 [.ref 2, .int (nI ((c * 6) + 0))] [] σ _
  refine tw_sg 1 (i1 := 1) (ls1 := [.ref 2, .int (nI ((c * 6) + 0))]) (st1 := [.int (nI ((c * 6) + 0))]) (σ1 := σ) rfl ?_
  refine tw_bzF (c := .lt) rfl (by rw [tw_clt', tw_nlt (by omega) (by omega)] <;> omega) ?_
  show tw_P L xs _ 125 2 [.ref 2, .int (nI ((c * 6) + 0))] [] σ _
  refine tw_sgn 3 (i1 := 5) (ls0 := [.ref 2, .int (nI ((c * 6) + 0))]) (st0 := [.int (σ 2 1), .int (nI ((c * 6) + 0))]) (σ0 := σ) (ls1 := [.ref 2, .int (nI ((c * 6) + 0))]) (st1 := [.int (nI k), .int (nI ((c * 6) + 0))]) (σ1 := σ) rfl (rfl) (by simp only [hs, tw_nadd, tw_nmul]) (rfl) ?_
  refine tw_biF (c := .ge) rfl (by rw [tw_cge', tw_nle (by omega) (by omega)] <;> omega) ?_
  show tw_P L xs _ 125 6 [.ref 2, .int (nI ((c * 6) + 0))] [] σ _
  refine tw_sg 4 (i1 := 10) (ls1 := [.ref 2, .int (nI ((c * 6) + 0))]) (st1 := [.int (nI 80), .int (nI ((c * 6) + 0))]) (σ1 := σ) rfl ?_
  refine tw_biF (c := .ge) rfl (by rw [tw_cge', tw_nle (by omega) (by omega)] <;> omega) ?_
  show tw_P L xs _ 125 11 [.ref 2, .int (nI ((c * 6) + 0))] [] σ _
  refine tw_sg 3 (i1 := 14) (ls1 := [.ref 2, .int (nI ((c * 6) + 0))]) (st1 := [.int (nI ((c * 6) + 0)), .ref 3]) (σ1 := σ) rfl ?_
  refine tw_alb (k := 3) (j := ((c * 6) + 0)) (len := 80) rfl rfl (by decide) rfl (rfl) (by omega) (by decide) ?_
  rw [(show σ 3 ((c * 6) + 0) = w (6 * c + 0) from (hw (c * 6 + 0) (by omega)).trans (congrArg w (by omega)))]
  refine tw_sg 1 (i1 := 17) (ls1 := [.ref 2, .int (nI ((c * 6) + 0))]) (st1 := [.int (w (6 * c + 0))]) (σ1 := σ) rfl ?_
  refine tw_ri rfl (rfl) ?_
  show tw_P L xs _ 129 16 [.ref 2, .int (nI c), .ref (2 * c + 18), .int (nI (c * 6)), .int (nI 0)] [.int (w (6 * c + 0)), .int (nI 0), .ref (2 * c + 18)] σ _
  refine tw_sg 2 (i1 := 18) (ls1 := [.ref 2, .int (nI c), .ref (2 * c + 18), .int (nI (c * 6)), .int (nI 0)]) (st1 := [.int ((w (6 * c + 0)) - nI 97), .int (nI 0), .ref (2 * c + 18)]) (σ1 := σ) rfl ?_
  refine tw_cl1 rfl (tw_inv_ok (y := 2) (b := 2) (st := [.int ((w (6 * c + 0)) - nI 97), .int (nI 0), .ref (2 * c + 18)]) (k := (2 * c + 18)) (r := []) rfl rfl (tw_cdO hc)) (by decide) (tw_e_dye (h := 0) hc (by omega)) ?_
  rintro _ _ ⟨rfl, rfl⟩
  show tw_P L xs _ 129 19 [.ref 2, .int (nI c), .ref (2 * c + 18), .int (nI (c * 6)), .int (nI 0)] [.int (σ (2 * c + 19) 0)] (tw_upd σ (2 * c + 19) 0 ((w (6 * c + 0)) - nI 97)) _
  refine tw_sgn 5 (i1 := 8) (ls0 := [.ref 2, .int (nI c), .ref (2 * c + 18), .int (nI (c * 6)), .int (nI 0 + nI 1)]) (st0 := [.int (nI 4), .int (nI 0 + nI 1)]) (σ0 := (tw_upd σ (2 * c + 19) 0 ((w (6 * c + 0)) - nI 97))) (ls1 := [.ref 2, .int (nI c), .ref (2 * c + 18), .int (nI (c * 6)), .int (nI 1)]) (st1 := [.int (nI 4), .int (nI 1)]) (σ1 := (tw_upd σ (2 * c + 19) 0 ((w (6 * c + 0)) - nI 97))) rfl (by simp only [tw_nadd, tw_nmul]) (by simp only [tw_nadd, tw_nmul]) (rfl) ?_
  refine tw_biF (c := .ge) rfl (by rw [tw_cge', tw_nle (by omega) (by omega)] <;> omega) ?_
  show tw_P L xs _ 129 9 [.ref 2, .int (nI c), .ref (2 * c + 18), .int (nI (c * 6)), .int (nI 1)] [] (tw_upd σ (2 * c + 19) 0 ((w (6 * c + 0)) - nI 97)) _
  refine tw_sgn 6 (i1 := 15) (ls0 := [.ref 2, .int (nI c), .ref (2 * c + 18), .int (nI (c * 6)), .int (nI 1)]) (st0 := [.int (nI (c * 6) + nI 1), .ref 2, .int (nI 1), .ref (2 * c + 18)]) (σ0 := (tw_upd σ (2 * c + 19) 0 ((w (6 * c + 0)) - nI 97))) (ls1 := [.ref 2, .int (nI c), .ref (2 * c + 18), .int (nI (c * 6)), .int (nI 1)]) (st1 := [.int (nI ((c * 6) + 1)), .ref 2, .int (nI 1), .ref (2 * c + 18)]) (σ1 := (tw_upd σ (2 * c + 19) 0 ((w (6 * c + 0)) - nI 97))) rfl (rfl) (by simp only [tw_nadd, tw_nmul]) (rfl) ?_
  refine tw_cl0 2 rfl (rfl) (by decide) ?_
  show tw_P L xs _ 125 0 [.ref 2, .int (nI ((c * 6) + 1))] [] (tw_upd σ (2 * c + 19) 0 ((w (6 * c + 0)) - nI 97)) _
  refine tw_sg 1 (i1 := 1) (ls1 := [.ref 2, .int (nI ((c * 6) + 1))]) (st1 := [.int (nI ((c * 6) + 1))]) (σ1 := (tw_upd σ (2 * c + 19) 0 ((w (6 * c + 0)) - nI 97))) rfl ?_
  refine tw_bzF (c := .lt) rfl (by rw [tw_clt', tw_nlt (by omega) (by omega)] <;> omega) ?_
  show tw_P L xs _ 125 2 [.ref 2, .int (nI ((c * 6) + 1))] [] (tw_upd σ (2 * c + 19) 0 ((w (6 * c + 0)) - nI 97)) _
  refine tw_sgn 3 (i1 := 5) (ls0 := [.ref 2, .int (nI ((c * 6) + 1))]) (st0 := [.int (σ 2 1), .int (nI ((c * 6) + 1))]) (σ0 := (tw_upd σ (2 * c + 19) 0 ((w (6 * c + 0)) - nI 97))) (ls1 := [.ref 2, .int (nI ((c * 6) + 1))]) (st1 := [.int (nI k), .int (nI ((c * 6) + 1))]) (σ1 := (tw_upd σ (2 * c + 19) 0 ((w (6 * c + 0)) - nI 97))) rfl (rfl) (by simp only [hs, tw_nadd, tw_nmul]) (rfl) ?_
  refine tw_biF (c := .ge) rfl (by rw [tw_cge', tw_nle (by omega) (by omega)] <;> omega) ?_
  show tw_P L xs _ 125 6 [.ref 2, .int (nI ((c * 6) + 1))] [] (tw_upd σ (2 * c + 19) 0 ((w (6 * c + 0)) - nI 97)) _
  refine tw_sg 4 (i1 := 10) (ls1 := [.ref 2, .int (nI ((c * 6) + 1))]) (st1 := [.int (nI 80), .int (nI ((c * 6) + 1))]) (σ1 := (tw_upd σ (2 * c + 19) 0 ((w (6 * c + 0)) - nI 97))) rfl ?_
  refine tw_biF (c := .ge) rfl (by rw [tw_cge', tw_nle (by omega) (by omega)] <;> omega) ?_
  show tw_P L xs _ 125 11 [.ref 2, .int (nI ((c * 6) + 1))] [] (tw_upd σ (2 * c + 19) 0 ((w (6 * c + 0)) - nI 97)) _
  refine tw_sg 3 (i1 := 14) (ls1 := [.ref 2, .int (nI ((c * 6) + 1))]) (st1 := [.int (nI ((c * 6) + 1)), .ref 3]) (σ1 := (tw_upd σ (2 * c + 19) 0 ((w (6 * c + 0)) - nI 97))) rfl ?_
  refine tw_alb (k := 3) (j := ((c * 6) + 1)) (len := 80) rfl rfl (by decide) rfl (rfl) (by omega) (by decide) ?_
  rw [show (tw_upd σ (2 * c + 19) 0 ((w (6 * c + 0)) - nI 97)) 3 ((c * 6) + 1) = σ 3 ((c * 6) + 1) from by repeat (first | exact rfl | exact tw_upd_at | rw [tw_upd_off (by omega)]), (show σ 3 ((c * 6) + 1) = w (6 * c + 1) from (hw (c * 6 + 1) (by omega)).trans (congrArg w (by omega)))]
  refine tw_sg 1 (i1 := 17) (ls1 := [.ref 2, .int (nI ((c * 6) + 1))]) (st1 := [.int (w (6 * c + 1))]) (σ1 := (tw_upd σ (2 * c + 19) 0 ((w (6 * c + 0)) - nI 97))) rfl ?_
  refine tw_ri rfl (rfl) ?_
  show tw_P L xs _ 129 16 [.ref 2, .int (nI c), .ref (2 * c + 18), .int (nI (c * 6)), .int (nI 1)] [.int (w (6 * c + 1)), .int (nI 1), .ref (2 * c + 18)] (tw_upd σ (2 * c + 19) 0 ((w (6 * c + 0)) - nI 97)) _
  refine tw_sg 2 (i1 := 18) (ls1 := [.ref 2, .int (nI c), .ref (2 * c + 18), .int (nI (c * 6)), .int (nI 1)]) (st1 := [.int ((w (6 * c + 1)) - nI 97), .int (nI 1), .ref (2 * c + 18)]) (σ1 := (tw_upd σ (2 * c + 19) 0 ((w (6 * c + 0)) - nI 97))) rfl ?_
  refine tw_cl1 rfl (tw_inv_ok (y := 2) (b := 2) (st := [.int ((w (6 * c + 1)) - nI 97), .int (nI 1), .ref (2 * c + 18)]) (k := (2 * c + 18)) (r := []) rfl rfl (tw_cdO hc)) (by decide) (tw_e_dye (h := 1) hc (by omega)) ?_
  rintro _ _ ⟨rfl, rfl⟩
  show tw_P L xs _ 129 19 [.ref 2, .int (nI c), .ref (2 * c + 18), .int (nI (c * 6)), .int (nI 1)] [.int ((tw_upd σ (2 * c + 19) 0 ((w (6 * c + 0)) - nI 97)) (2 * c + 19) 1)] (tw_upd (tw_upd σ (2 * c + 19) 0 ((w (6 * c + 0)) - nI 97)) (2 * c + 19) 1 ((w (6 * c + 1)) - nI 97)) _
  refine tw_sgn 5 (i1 := 8) (ls0 := [.ref 2, .int (nI c), .ref (2 * c + 18), .int (nI (c * 6)), .int (nI 1 + nI 1)]) (st0 := [.int (nI 4), .int (nI 1 + nI 1)]) (σ0 := (tw_upd (tw_upd σ (2 * c + 19) 0 ((w (6 * c + 0)) - nI 97)) (2 * c + 19) 1 ((w (6 * c + 1)) - nI 97))) (ls1 := [.ref 2, .int (nI c), .ref (2 * c + 18), .int (nI (c * 6)), .int (nI 2)]) (st1 := [.int (nI 4), .int (nI 2)]) (σ1 := (tw_upd (tw_upd σ (2 * c + 19) 0 ((w (6 * c + 0)) - nI 97)) (2 * c + 19) 1 ((w (6 * c + 1)) - nI 97))) rfl (by simp only [tw_nadd, tw_nmul]) (by simp only [tw_nadd, tw_nmul]) (rfl) ?_
  refine tw_biF (c := .ge) rfl (by rw [tw_cge', tw_nle (by omega) (by omega)] <;> omega) ?_
  show tw_P L xs _ 129 9 [.ref 2, .int (nI c), .ref (2 * c + 18), .int (nI (c * 6)), .int (nI 2)] [] (tw_upd (tw_upd σ (2 * c + 19) 0 ((w (6 * c + 0)) - nI 97)) (2 * c + 19) 1 ((w (6 * c + 1)) - nI 97)) _
  refine tw_sgn 6 (i1 := 15) (ls0 := [.ref 2, .int (nI c), .ref (2 * c + 18), .int (nI (c * 6)), .int (nI 2)]) (st0 := [.int (nI (c * 6) + nI 2), .ref 2, .int (nI 2), .ref (2 * c + 18)]) (σ0 := (tw_upd (tw_upd σ (2 * c + 19) 0 ((w (6 * c + 0)) - nI 97)) (2 * c + 19) 1 ((w (6 * c + 1)) - nI 97))) (ls1 := [.ref 2, .int (nI c), .ref (2 * c + 18), .int (nI (c * 6)), .int (nI 2)]) (st1 := [.int (nI ((c * 6) + 2)), .ref 2, .int (nI 2), .ref (2 * c + 18)]) (σ1 := (tw_upd (tw_upd σ (2 * c + 19) 0 ((w (6 * c + 0)) - nI 97)) (2 * c + 19) 1 ((w (6 * c + 1)) - nI 97))) rfl (rfl) (by simp only [tw_nadd, tw_nmul]) (rfl) ?_
  refine tw_cl0 2 rfl (rfl) (by decide) ?_
  show tw_P L xs _ 125 0 [.ref 2, .int (nI ((c * 6) + 2))] [] (tw_upd (tw_upd σ (2 * c + 19) 0 ((w (6 * c + 0)) - nI 97)) (2 * c + 19) 1 ((w (6 * c + 1)) - nI 97)) _
  refine tw_sg 1 (i1 := 1) (ls1 := [.ref 2, .int (nI ((c * 6) + 2))]) (st1 := [.int (nI ((c * 6) + 2))]) (σ1 := (tw_upd (tw_upd σ (2 * c + 19) 0 ((w (6 * c + 0)) - nI 97)) (2 * c + 19) 1 ((w (6 * c + 1)) - nI 97))) rfl ?_
  refine tw_bzF (c := .lt) rfl (by rw [tw_clt', tw_nlt (by omega) (by omega)] <;> omega) ?_
  show tw_P L xs _ 125 2 [.ref 2, .int (nI ((c * 6) + 2))] [] (tw_upd (tw_upd σ (2 * c + 19) 0 ((w (6 * c + 0)) - nI 97)) (2 * c + 19) 1 ((w (6 * c + 1)) - nI 97)) _
  refine tw_sgn 3 (i1 := 5) (ls0 := [.ref 2, .int (nI ((c * 6) + 2))]) (st0 := [.int (σ 2 1), .int (nI ((c * 6) + 2))]) (σ0 := (tw_upd (tw_upd σ (2 * c + 19) 0 ((w (6 * c + 0)) - nI 97)) (2 * c + 19) 1 ((w (6 * c + 1)) - nI 97))) (ls1 := [.ref 2, .int (nI ((c * 6) + 2))]) (st1 := [.int (nI k), .int (nI ((c * 6) + 2))]) (σ1 := (tw_upd (tw_upd σ (2 * c + 19) 0 ((w (6 * c + 0)) - nI 97)) (2 * c + 19) 1 ((w (6 * c + 1)) - nI 97))) rfl (rfl) (by simp only [hs, tw_nadd, tw_nmul]) (rfl) ?_
  refine tw_biF (c := .ge) rfl (by rw [tw_cge', tw_nle (by omega) (by omega)] <;> omega) ?_
  show tw_P L xs _ 125 6 [.ref 2, .int (nI ((c * 6) + 2))] [] (tw_upd (tw_upd σ (2 * c + 19) 0 ((w (6 * c + 0)) - nI 97)) (2 * c + 19) 1 ((w (6 * c + 1)) - nI 97)) _
  refine tw_sg 4 (i1 := 10) (ls1 := [.ref 2, .int (nI ((c * 6) + 2))]) (st1 := [.int (nI 80), .int (nI ((c * 6) + 2))]) (σ1 := (tw_upd (tw_upd σ (2 * c + 19) 0 ((w (6 * c + 0)) - nI 97)) (2 * c + 19) 1 ((w (6 * c + 1)) - nI 97))) rfl ?_
  refine tw_biF (c := .ge) rfl (by rw [tw_cge', tw_nle (by omega) (by omega)] <;> omega) ?_
  show tw_P L xs _ 125 11 [.ref 2, .int (nI ((c * 6) + 2))] [] (tw_upd (tw_upd σ (2 * c + 19) 0 ((w (6 * c + 0)) - nI 97)) (2 * c + 19) 1 ((w (6 * c + 1)) - nI 97)) _
  refine tw_sg 3 (i1 := 14) (ls1 := [.ref 2, .int (nI ((c * 6) + 2))]) (st1 := [.int (nI ((c * 6) + 2)), .ref 3]) (σ1 := (tw_upd (tw_upd σ (2 * c + 19) 0 ((w (6 * c + 0)) - nI 97)) (2 * c + 19) 1 ((w (6 * c + 1)) - nI 97))) rfl ?_
  refine tw_alb (k := 3) (j := ((c * 6) + 2)) (len := 80) rfl rfl (by decide) rfl (rfl) (by omega) (by decide) ?_
  rw [show (tw_upd (tw_upd σ (2 * c + 19) 0 ((w (6 * c + 0)) - nI 97)) (2 * c + 19) 1 ((w (6 * c + 1)) - nI 97)) 3 ((c * 6) + 2) = σ 3 ((c * 6) + 2) from by repeat (first | exact rfl | exact tw_upd_at | rw [tw_upd_off (by omega)]), (show σ 3 ((c * 6) + 2) = w (6 * c + 2) from (hw (c * 6 + 2) (by omega)).trans (congrArg w (by omega)))]
  refine tw_sg 1 (i1 := 17) (ls1 := [.ref 2, .int (nI ((c * 6) + 2))]) (st1 := [.int (w (6 * c + 2))]) (σ1 := (tw_upd (tw_upd σ (2 * c + 19) 0 ((w (6 * c + 0)) - nI 97)) (2 * c + 19) 1 ((w (6 * c + 1)) - nI 97))) rfl ?_
  refine tw_ri rfl (rfl) ?_
  show tw_P L xs _ 129 16 [.ref 2, .int (nI c), .ref (2 * c + 18), .int (nI (c * 6)), .int (nI 2)] [.int (w (6 * c + 2)), .int (nI 2), .ref (2 * c + 18)] (tw_upd (tw_upd σ (2 * c + 19) 0 ((w (6 * c + 0)) - nI 97)) (2 * c + 19) 1 ((w (6 * c + 1)) - nI 97)) _
  refine tw_sg 2 (i1 := 18) (ls1 := [.ref 2, .int (nI c), .ref (2 * c + 18), .int (nI (c * 6)), .int (nI 2)]) (st1 := [.int ((w (6 * c + 2)) - nI 97), .int (nI 2), .ref (2 * c + 18)]) (σ1 := (tw_upd (tw_upd σ (2 * c + 19) 0 ((w (6 * c + 0)) - nI 97)) (2 * c + 19) 1 ((w (6 * c + 1)) - nI 97))) rfl ?_
  refine tw_cl1 rfl (tw_inv_ok (y := 2) (b := 2) (st := [.int ((w (6 * c + 2)) - nI 97), .int (nI 2), .ref (2 * c + 18)]) (k := (2 * c + 18)) (r := []) rfl rfl (tw_cdO hc)) (by decide) (tw_e_dye (h := 2) hc (by omega)) ?_
  rintro _ _ ⟨rfl, rfl⟩
  show tw_P L xs _ 129 19 [.ref 2, .int (nI c), .ref (2 * c + 18), .int (nI (c * 6)), .int (nI 2)] [.int ((tw_upd (tw_upd σ (2 * c + 19) 0 ((w (6 * c + 0)) - nI 97)) (2 * c + 19) 1 ((w (6 * c + 1)) - nI 97)) (2 * c + 19) 2)] (tw_upd (tw_upd (tw_upd σ (2 * c + 19) 0 ((w (6 * c + 0)) - nI 97)) (2 * c + 19) 1 ((w (6 * c + 1)) - nI 97)) (2 * c + 19) 2 ((w (6 * c + 2)) - nI 97)) _
  refine tw_sgn 5 (i1 := 8) (ls0 := [.ref 2, .int (nI c), .ref (2 * c + 18), .int (nI (c * 6)), .int (nI 2 + nI 1)]) (st0 := [.int (nI 4), .int (nI 2 + nI 1)]) (σ0 := (tw_upd (tw_upd (tw_upd σ (2 * c + 19) 0 ((w (6 * c + 0)) - nI 97)) (2 * c + 19) 1 ((w (6 * c + 1)) - nI 97)) (2 * c + 19) 2 ((w (6 * c + 2)) - nI 97))) (ls1 := [.ref 2, .int (nI c), .ref (2 * c + 18), .int (nI (c * 6)), .int (nI 3)]) (st1 := [.int (nI 4), .int (nI 3)]) (σ1 := (tw_upd (tw_upd (tw_upd σ (2 * c + 19) 0 ((w (6 * c + 0)) - nI 97)) (2 * c + 19) 1 ((w (6 * c + 1)) - nI 97)) (2 * c + 19) 2 ((w (6 * c + 2)) - nI 97))) rfl (by simp only [tw_nadd, tw_nmul]) (by simp only [tw_nadd, tw_nmul]) (rfl) ?_
  refine tw_biF (c := .ge) rfl (by rw [tw_cge', tw_nle (by omega) (by omega)] <;> omega) ?_
  show tw_P L xs _ 129 9 [.ref 2, .int (nI c), .ref (2 * c + 18), .int (nI (c * 6)), .int (nI 3)] [] (tw_upd (tw_upd (tw_upd σ (2 * c + 19) 0 ((w (6 * c + 0)) - nI 97)) (2 * c + 19) 1 ((w (6 * c + 1)) - nI 97)) (2 * c + 19) 2 ((w (6 * c + 2)) - nI 97)) _
  refine tw_sgn 6 (i1 := 15) (ls0 := [.ref 2, .int (nI c), .ref (2 * c + 18), .int (nI (c * 6)), .int (nI 3)]) (st0 := [.int (nI (c * 6) + nI 3), .ref 2, .int (nI 3), .ref (2 * c + 18)]) (σ0 := (tw_upd (tw_upd (tw_upd σ (2 * c + 19) 0 ((w (6 * c + 0)) - nI 97)) (2 * c + 19) 1 ((w (6 * c + 1)) - nI 97)) (2 * c + 19) 2 ((w (6 * c + 2)) - nI 97))) (ls1 := [.ref 2, .int (nI c), .ref (2 * c + 18), .int (nI (c * 6)), .int (nI 3)]) (st1 := [.int (nI ((c * 6) + 3)), .ref 2, .int (nI 3), .ref (2 * c + 18)]) (σ1 := (tw_upd (tw_upd (tw_upd σ (2 * c + 19) 0 ((w (6 * c + 0)) - nI 97)) (2 * c + 19) 1 ((w (6 * c + 1)) - nI 97)) (2 * c + 19) 2 ((w (6 * c + 2)) - nI 97))) rfl (rfl) (by simp only [tw_nadd, tw_nmul]) (rfl) ?_
  refine tw_cl0 2 rfl (rfl) (by decide) ?_
  show tw_P L xs _ 125 0 [.ref 2, .int (nI ((c * 6) + 3))] [] (tw_upd (tw_upd (tw_upd σ (2 * c + 19) 0 ((w (6 * c + 0)) - nI 97)) (2 * c + 19) 1 ((w (6 * c + 1)) - nI 97)) (2 * c + 19) 2 ((w (6 * c + 2)) - nI 97)) _
  refine tw_sg 1 (i1 := 1) (ls1 := [.ref 2, .int (nI ((c * 6) + 3))]) (st1 := [.int (nI ((c * 6) + 3))]) (σ1 := (tw_upd (tw_upd (tw_upd σ (2 * c + 19) 0 ((w (6 * c + 0)) - nI 97)) (2 * c + 19) 1 ((w (6 * c + 1)) - nI 97)) (2 * c + 19) 2 ((w (6 * c + 2)) - nI 97))) rfl ?_
  refine tw_bzF (c := .lt) rfl (by rw [tw_clt', tw_nlt (by omega) (by omega)] <;> omega) ?_
  show tw_P L xs _ 125 2 [.ref 2, .int (nI ((c * 6) + 3))] [] (tw_upd (tw_upd (tw_upd σ (2 * c + 19) 0 ((w (6 * c + 0)) - nI 97)) (2 * c + 19) 1 ((w (6 * c + 1)) - nI 97)) (2 * c + 19) 2 ((w (6 * c + 2)) - nI 97)) _
  refine tw_sgn 3 (i1 := 5) (ls0 := [.ref 2, .int (nI ((c * 6) + 3))]) (st0 := [.int (σ 2 1), .int (nI ((c * 6) + 3))]) (σ0 := (tw_upd (tw_upd (tw_upd σ (2 * c + 19) 0 ((w (6 * c + 0)) - nI 97)) (2 * c + 19) 1 ((w (6 * c + 1)) - nI 97)) (2 * c + 19) 2 ((w (6 * c + 2)) - nI 97))) (ls1 := [.ref 2, .int (nI ((c * 6) + 3))]) (st1 := [.int (nI k), .int (nI ((c * 6) + 3))]) (σ1 := (tw_upd (tw_upd (tw_upd σ (2 * c + 19) 0 ((w (6 * c + 0)) - nI 97)) (2 * c + 19) 1 ((w (6 * c + 1)) - nI 97)) (2 * c + 19) 2 ((w (6 * c + 2)) - nI 97))) rfl (rfl) (by simp only [hs, tw_nadd, tw_nmul]) (rfl) ?_
  refine tw_biF (c := .ge) rfl (by rw [tw_cge', tw_nle (by omega) (by omega)] <;> omega) ?_
  show tw_P L xs _ 125 6 [.ref 2, .int (nI ((c * 6) + 3))] [] (tw_upd (tw_upd (tw_upd σ (2 * c + 19) 0 ((w (6 * c + 0)) - nI 97)) (2 * c + 19) 1 ((w (6 * c + 1)) - nI 97)) (2 * c + 19) 2 ((w (6 * c + 2)) - nI 97)) _
  refine tw_sg 4 (i1 := 10) (ls1 := [.ref 2, .int (nI ((c * 6) + 3))]) (st1 := [.int (nI 80), .int (nI ((c * 6) + 3))]) (σ1 := (tw_upd (tw_upd (tw_upd σ (2 * c + 19) 0 ((w (6 * c + 0)) - nI 97)) (2 * c + 19) 1 ((w (6 * c + 1)) - nI 97)) (2 * c + 19) 2 ((w (6 * c + 2)) - nI 97))) rfl ?_
  refine tw_biF (c := .ge) rfl (by rw [tw_cge', tw_nle (by omega) (by omega)] <;> omega) ?_
  show tw_P L xs _ 125 11 [.ref 2, .int (nI ((c * 6) + 3))] [] (tw_upd (tw_upd (tw_upd σ (2 * c + 19) 0 ((w (6 * c + 0)) - nI 97)) (2 * c + 19) 1 ((w (6 * c + 1)) - nI 97)) (2 * c + 19) 2 ((w (6 * c + 2)) - nI 97)) _
  refine tw_sg 3 (i1 := 14) (ls1 := [.ref 2, .int (nI ((c * 6) + 3))]) (st1 := [.int (nI ((c * 6) + 3)), .ref 3]) (σ1 := (tw_upd (tw_upd (tw_upd σ (2 * c + 19) 0 ((w (6 * c + 0)) - nI 97)) (2 * c + 19) 1 ((w (6 * c + 1)) - nI 97)) (2 * c + 19) 2 ((w (6 * c + 2)) - nI 97))) rfl ?_
  refine tw_alb (k := 3) (j := ((c * 6) + 3)) (len := 80) rfl rfl (by decide) rfl (rfl) (by omega) (by decide) ?_
  rw [show (tw_upd (tw_upd (tw_upd σ (2 * c + 19) 0 ((w (6 * c + 0)) - nI 97)) (2 * c + 19) 1 ((w (6 * c + 1)) - nI 97)) (2 * c + 19) 2 ((w (6 * c + 2)) - nI 97)) 3 ((c * 6) + 3) = σ 3 ((c * 6) + 3) from by repeat (first | exact rfl | exact tw_upd_at | rw [tw_upd_off (by omega)]), (show σ 3 ((c * 6) + 3) = w (6 * c + 3) from (hw (c * 6 + 3) (by omega)).trans (congrArg w (by omega)))]
  refine tw_sg 1 (i1 := 17) (ls1 := [.ref 2, .int (nI ((c * 6) + 3))]) (st1 := [.int (w (6 * c + 3))]) (σ1 := (tw_upd (tw_upd (tw_upd σ (2 * c + 19) 0 ((w (6 * c + 0)) - nI 97)) (2 * c + 19) 1 ((w (6 * c + 1)) - nI 97)) (2 * c + 19) 2 ((w (6 * c + 2)) - nI 97))) rfl ?_
  refine tw_ri rfl (rfl) ?_
  show tw_P L xs _ 129 16 [.ref 2, .int (nI c), .ref (2 * c + 18), .int (nI (c * 6)), .int (nI 3)] [.int (w (6 * c + 3)), .int (nI 3), .ref (2 * c + 18)] (tw_upd (tw_upd (tw_upd σ (2 * c + 19) 0 ((w (6 * c + 0)) - nI 97)) (2 * c + 19) 1 ((w (6 * c + 1)) - nI 97)) (2 * c + 19) 2 ((w (6 * c + 2)) - nI 97)) _
  refine tw_sg 2 (i1 := 18) (ls1 := [.ref 2, .int (nI c), .ref (2 * c + 18), .int (nI (c * 6)), .int (nI 3)]) (st1 := [.int ((w (6 * c + 3)) - nI 97), .int (nI 3), .ref (2 * c + 18)]) (σ1 := (tw_upd (tw_upd (tw_upd σ (2 * c + 19) 0 ((w (6 * c + 0)) - nI 97)) (2 * c + 19) 1 ((w (6 * c + 1)) - nI 97)) (2 * c + 19) 2 ((w (6 * c + 2)) - nI 97))) rfl ?_
  refine tw_cl1 rfl (tw_inv_ok (y := 2) (b := 2) (st := [.int ((w (6 * c + 3)) - nI 97), .int (nI 3), .ref (2 * c + 18)]) (k := (2 * c + 18)) (r := []) rfl rfl (tw_cdO hc)) (by decide) (tw_e_dye (h := 3) hc (by omega)) ?_
  rintro _ _ ⟨rfl, rfl⟩
  show tw_P L xs _ 129 19 [.ref 2, .int (nI c), .ref (2 * c + 18), .int (nI (c * 6)), .int (nI 3)] [.int ((tw_upd (tw_upd (tw_upd σ (2 * c + 19) 0 ((w (6 * c + 0)) - nI 97)) (2 * c + 19) 1 ((w (6 * c + 1)) - nI 97)) (2 * c + 19) 2 ((w (6 * c + 2)) - nI 97)) (2 * c + 19) 3)] (tw_upd (tw_upd (tw_upd (tw_upd σ (2 * c + 19) 0 ((w (6 * c + 0)) - nI 97)) (2 * c + 19) 1 ((w (6 * c + 1)) - nI 97)) (2 * c + 19) 2 ((w (6 * c + 2)) - nI 97)) (2 * c + 19) 3 ((w (6 * c + 3)) - nI 97)) _
  refine tw_sgn 5 (i1 := 8) (ls0 := [.ref 2, .int (nI c), .ref (2 * c + 18), .int (nI (c * 6)), .int (nI 3 + nI 1)]) (st0 := [.int (nI 4), .int (nI 3 + nI 1)]) (σ0 := (tw_upd (tw_upd (tw_upd (tw_upd σ (2 * c + 19) 0 ((w (6 * c + 0)) - nI 97)) (2 * c + 19) 1 ((w (6 * c + 1)) - nI 97)) (2 * c + 19) 2 ((w (6 * c + 2)) - nI 97)) (2 * c + 19) 3 ((w (6 * c + 3)) - nI 97))) (ls1 := [.ref 2, .int (nI c), .ref (2 * c + 18), .int (nI (c * 6)), .int (nI 4)]) (st1 := [.int (nI 4), .int (nI 4)]) (σ1 := (tw_upd (tw_upd (tw_upd (tw_upd σ (2 * c + 19) 0 ((w (6 * c + 0)) - nI 97)) (2 * c + 19) 1 ((w (6 * c + 1)) - nI 97)) (2 * c + 19) 2 ((w (6 * c + 2)) - nI 97)) (2 * c + 19) 3 ((w (6 * c + 3)) - nI 97))) rfl (by simp only [tw_nadd, tw_nmul]) (by simp only [tw_nadd, tw_nmul]) (rfl) ?_
  refine tw_biT (c := .ge) rfl (by rw [tw_cge, tw_nle (by omega) (by omega)] <;> omega) ?_
  show tw_P L xs _ 129 22 [.ref 2, .int (nI c), .ref (2 * c + 18), .int (nI (c * 6)), .int (nI 4)] [] (tw_upd (tw_upd (tw_upd (tw_upd σ (2 * c + 19) 0 ((w (6 * c + 0)) - nI 97)) (2 * c + 19) 1 ((w (6 * c + 1)) - nI 97)) (2 * c + 19) 2 ((w (6 * c + 2)) - nI 97)) (2 * c + 19) 3 ((w (6 * c + 3)) - nI 97)) _
  refine tw_sgn 5 (i1 := 27) (ls0 := [.ref 2, .int (nI c), .ref (2 * c + 18), .int (nI (c * 6)), .int (nI 4)]) (st0 := [.int (nI (c * 6) + nI 4), .ref 2, .ref (2 * c + 18)]) (σ0 := (tw_upd (tw_upd (tw_upd (tw_upd σ (2 * c + 19) 0 ((w (6 * c + 0)) - nI 97)) (2 * c + 19) 1 ((w (6 * c + 1)) - nI 97)) (2 * c + 19) 2 ((w (6 * c + 2)) - nI 97)) (2 * c + 19) 3 ((w (6 * c + 3)) - nI 97))) (ls1 := [.ref 2, .int (nI c), .ref (2 * c + 18), .int (nI (c * 6)), .int (nI 4)]) (st1 := [.int (nI ((c * 6) + 4)), .ref 2, .ref (2 * c + 18)]) (σ1 := (tw_upd (tw_upd (tw_upd (tw_upd σ (2 * c + 19) 0 ((w (6 * c + 0)) - nI 97)) (2 * c + 19) 1 ((w (6 * c + 1)) - nI 97)) (2 * c + 19) 2 ((w (6 * c + 2)) - nI 97)) (2 * c + 19) 3 ((w (6 * c + 3)) - nI 97))) rfl (rfl) (by simp only [tw_nadd, tw_nmul]) (rfl) ?_
  refine tw_cl0 2 rfl (rfl) (by decide) ?_
  show tw_P L xs _ 125 0 [.ref 2, .int (nI ((c * 6) + 4))] [] (tw_upd (tw_upd (tw_upd (tw_upd σ (2 * c + 19) 0 ((w (6 * c + 0)) - nI 97)) (2 * c + 19) 1 ((w (6 * c + 1)) - nI 97)) (2 * c + 19) 2 ((w (6 * c + 2)) - nI 97)) (2 * c + 19) 3 ((w (6 * c + 3)) - nI 97)) _
  refine tw_sg 1 (i1 := 1) (ls1 := [.ref 2, .int (nI ((c * 6) + 4))]) (st1 := [.int (nI ((c * 6) + 4))]) (σ1 := (tw_upd (tw_upd (tw_upd (tw_upd σ (2 * c + 19) 0 ((w (6 * c + 0)) - nI 97)) (2 * c + 19) 1 ((w (6 * c + 1)) - nI 97)) (2 * c + 19) 2 ((w (6 * c + 2)) - nI 97)) (2 * c + 19) 3 ((w (6 * c + 3)) - nI 97))) rfl ?_
  refine tw_bzF (c := .lt) rfl (by rw [tw_clt', tw_nlt (by omega) (by omega)] <;> omega) ?_
  show tw_P L xs _ 125 2 [.ref 2, .int (nI ((c * 6) + 4))] [] (tw_upd (tw_upd (tw_upd (tw_upd σ (2 * c + 19) 0 ((w (6 * c + 0)) - nI 97)) (2 * c + 19) 1 ((w (6 * c + 1)) - nI 97)) (2 * c + 19) 2 ((w (6 * c + 2)) - nI 97)) (2 * c + 19) 3 ((w (6 * c + 3)) - nI 97)) _
  refine tw_sgn 3 (i1 := 5) (ls0 := [.ref 2, .int (nI ((c * 6) + 4))]) (st0 := [.int (σ 2 1), .int (nI ((c * 6) + 4))]) (σ0 := (tw_upd (tw_upd (tw_upd (tw_upd σ (2 * c + 19) 0 ((w (6 * c + 0)) - nI 97)) (2 * c + 19) 1 ((w (6 * c + 1)) - nI 97)) (2 * c + 19) 2 ((w (6 * c + 2)) - nI 97)) (2 * c + 19) 3 ((w (6 * c + 3)) - nI 97))) (ls1 := [.ref 2, .int (nI ((c * 6) + 4))]) (st1 := [.int (nI k), .int (nI ((c * 6) + 4))]) (σ1 := (tw_upd (tw_upd (tw_upd (tw_upd σ (2 * c + 19) 0 ((w (6 * c + 0)) - nI 97)) (2 * c + 19) 1 ((w (6 * c + 1)) - nI 97)) (2 * c + 19) 2 ((w (6 * c + 2)) - nI 97)) (2 * c + 19) 3 ((w (6 * c + 3)) - nI 97))) rfl (rfl) (by simp only [hs, tw_nadd, tw_nmul]) (rfl) ?_
  refine tw_biF (c := .ge) rfl (by rw [tw_cge', tw_nle (by omega) (by omega)] <;> omega) ?_
  show tw_P L xs _ 125 6 [.ref 2, .int (nI ((c * 6) + 4))] [] (tw_upd (tw_upd (tw_upd (tw_upd σ (2 * c + 19) 0 ((w (6 * c + 0)) - nI 97)) (2 * c + 19) 1 ((w (6 * c + 1)) - nI 97)) (2 * c + 19) 2 ((w (6 * c + 2)) - nI 97)) (2 * c + 19) 3 ((w (6 * c + 3)) - nI 97)) _
  refine tw_sg 4 (i1 := 10) (ls1 := [.ref 2, .int (nI ((c * 6) + 4))]) (st1 := [.int (nI 80), .int (nI ((c * 6) + 4))]) (σ1 := (tw_upd (tw_upd (tw_upd (tw_upd σ (2 * c + 19) 0 ((w (6 * c + 0)) - nI 97)) (2 * c + 19) 1 ((w (6 * c + 1)) - nI 97)) (2 * c + 19) 2 ((w (6 * c + 2)) - nI 97)) (2 * c + 19) 3 ((w (6 * c + 3)) - nI 97))) rfl ?_
  refine tw_biF (c := .ge) rfl (by rw [tw_cge', tw_nle (by omega) (by omega)] <;> omega) ?_
  show tw_P L xs _ 125 11 [.ref 2, .int (nI ((c * 6) + 4))] [] (tw_upd (tw_upd (tw_upd (tw_upd σ (2 * c + 19) 0 ((w (6 * c + 0)) - nI 97)) (2 * c + 19) 1 ((w (6 * c + 1)) - nI 97)) (2 * c + 19) 2 ((w (6 * c + 2)) - nI 97)) (2 * c + 19) 3 ((w (6 * c + 3)) - nI 97)) _
  refine tw_sg 3 (i1 := 14) (ls1 := [.ref 2, .int (nI ((c * 6) + 4))]) (st1 := [.int (nI ((c * 6) + 4)), .ref 3]) (σ1 := (tw_upd (tw_upd (tw_upd (tw_upd σ (2 * c + 19) 0 ((w (6 * c + 0)) - nI 97)) (2 * c + 19) 1 ((w (6 * c + 1)) - nI 97)) (2 * c + 19) 2 ((w (6 * c + 2)) - nI 97)) (2 * c + 19) 3 ((w (6 * c + 3)) - nI 97))) rfl ?_
  refine tw_alb (k := 3) (j := ((c * 6) + 4)) (len := 80) rfl rfl (by decide) rfl (rfl) (by omega) (by decide) ?_
  rw [show (tw_upd (tw_upd (tw_upd (tw_upd σ (2 * c + 19) 0 ((w (6 * c + 0)) - nI 97)) (2 * c + 19) 1 ((w (6 * c + 1)) - nI 97)) (2 * c + 19) 2 ((w (6 * c + 2)) - nI 97)) (2 * c + 19) 3 ((w (6 * c + 3)) - nI 97)) 3 ((c * 6) + 4) = σ 3 ((c * 6) + 4) from by repeat (first | exact rfl | exact tw_upd_at | rw [tw_upd_off (by omega)]), (show σ 3 ((c * 6) + 4) = w (6 * c + 4) from (hw (c * 6 + 4) (by omega)).trans (congrArg w (by omega)))]
  refine tw_sg 1 (i1 := 17) (ls1 := [.ref 2, .int (nI ((c * 6) + 4))]) (st1 := [.int (w (6 * c + 4))]) (σ1 := (tw_upd (tw_upd (tw_upd (tw_upd σ (2 * c + 19) 0 ((w (6 * c + 0)) - nI 97)) (2 * c + 19) 1 ((w (6 * c + 1)) - nI 97)) (2 * c + 19) 2 ((w (6 * c + 2)) - nI 97)) (2 * c + 19) 3 ((w (6 * c + 3)) - nI 97))) rfl ?_
  refine tw_ri rfl (rfl) ?_
  show tw_P L xs _ 129 28 [.ref 2, .int (nI c), .ref (2 * c + 18), .int (nI (c * 6)), .int (nI 4)] [.int (w (6 * c + 4)), .ref (2 * c + 18)] (tw_upd (tw_upd (tw_upd (tw_upd σ (2 * c + 19) 0 ((w (6 * c + 0)) - nI 97)) (2 * c + 19) 1 ((w (6 * c + 1)) - nI 97)) (2 * c + 19) 2 ((w (6 * c + 2)) - nI 97)) (2 * c + 19) 3 ((w (6 * c + 3)) - nI 97)) _
  refine tw_sg 1 (i1 := 29) (ls1 := [.ref 2, .int (nI c), .ref (2 * c + 18), .int (nI (c * 6)), .int (nI 4)]) (st1 := [.int (nI 90), .int (w (6 * c + 4)), .ref (2 * c + 18)]) (σ1 := (tw_upd (tw_upd (tw_upd (tw_upd σ (2 * c + 19) 0 ((w (6 * c + 0)) - nI 97)) (2 * c + 19) 1 ((w (6 * c + 1)) - nI 97)) (2 * c + 19) 2 ((w (6 * c + 2)) - nI 97)) (2 * c + 19) 3 ((w (6 * c + 3)) - nI 97))) rfl ?_
  refine tw_bi (c := .ne) rfl (fun h1 => ?_) (fun h1 => ?_)
  · rw [tw_cne] at h1
    refine tw_sg 1 (i1 := 33) (ls1 := [.ref 2, .int (nI c), .ref (2 * c + 18), .int (nI (c * 6)), .int (nI 4)]) (st1 := [.int (nI 0), .ref (2 * c + 18)]) (σ1 := (tw_upd (tw_upd (tw_upd (tw_upd σ (2 * c + 19) 0 ((w (6 * c + 0)) - nI 97)) (2 * c + 19) 1 ((w (6 * c + 1)) - nI 97)) (2 * c + 19) 2 ((w (6 * c + 2)) - nI 97)) (2 * c + 19) 3 ((w (6 * c + 3)) - nI 97))) rfl ?_
    refine tw_cl0 2 rfl (tw_inv_ok (y := 8) (b := 1) (st := [.int (nI 0), .ref (2 * c + 18)]) (k := (2 * c + 18)) (r := []) rfl rfl (tw_cdO hc)) (by decide) ?_
    show tw_P L xs _ 8 0 [.ref (2 * c + 18), .int (nI 0)] [] (tw_upd (tw_upd (tw_upd (tw_upd σ (2 * c + 19) 0 ((w (6 * c + 0)) - nI 97)) (2 * c + 19) 1 ((w (6 * c + 1)) - nI 97)) (2 * c + 19) 2 ((w (6 * c + 2)) - nI 97)) (2 * c + 19) 3 ((w (6 * c + 3)) - nI 97)) _
    refine tw_sg 2 (i1 := 2) (ls1 := [.ref (2 * c + 18), .int (nI 0)]) (st1 := [.int (nI 0), .ref (2 * c + 18)]) (σ1 := (tw_upd (tw_upd (tw_upd (tw_upd σ (2 * c + 19) 0 ((w (6 * c + 0)) - nI 97)) (2 * c + 19) 1 ((w (6 * c + 1)) - nI 97)) (2 * c + 19) 2 ((w (6 * c + 2)) - nI 97)) (2 * c + 19) 3 ((w (6 * c + 3)) - nI 97))) rfl ?_
    refine tw_pf rfl (tw_cdO hc) (tw_cdB hc (by decide)) (tw_cdK1 hc) ?_
    refine tw_sg 2 (i1 := 5) (ls1 := [.ref (2 * c + 18), .int (nI 0)]) (st1 := [.int (nI 0), .ref (2 * c + 18)]) (σ1 := (tw_upd (tw_upd (tw_upd (tw_upd (tw_upd σ (2 * c + 19) 0 ((w (6 * c + 0)) - nI 97)) (2 * c + 19) 1 ((w (6 * c + 1)) - nI 97)) (2 * c + 19) 2 ((w (6 * c + 2)) - nI 97)) (2 * c + 19) 3 ((w (6 * c + 3)) - nI 97)) (2 * c + 18) 1 (nI 0))) rfl ?_
    refine tw_pf rfl (tw_cdO hc) (tw_cdB hc (by decide)) (tw_cdK2 hc) ?_
    refine tw_sg 2 (i1 := 8) (ls1 := [.ref (2 * c + 18), .int (nI 0)]) (st1 := [.int (nI 0), .ref (2 * c + 18)]) (σ1 := (tw_upd (tw_upd (tw_upd (tw_upd (tw_upd (tw_upd σ (2 * c + 19) 0 ((w (6 * c + 0)) - nI 97)) (2 * c + 19) 1 ((w (6 * c + 1)) - nI 97)) (2 * c + 19) 2 ((w (6 * c + 2)) - nI 97)) (2 * c + 19) 3 ((w (6 * c + 3)) - nI 97)) (2 * c + 18) 1 (nI 0)) (2 * c + 18) 2 (nI 0))) rfl ?_
    refine tw_pf rfl (tw_cdO hc) (tw_cdB hc (by decide)) (tw_cdK3 hc) ?_
    refine tw_rv rfl ?_
    show tw_P L xs _ 129 34 [.ref 2, .int (nI c), .ref (2 * c + 18), .int (nI (c * 6)), .int (nI 4)] [] (tw_upd (tw_upd (tw_upd (tw_upd (tw_upd (tw_upd (tw_upd σ (2 * c + 19) 0 ((w (6 * c + 0)) - nI 97)) (2 * c + 19) 1 ((w (6 * c + 1)) - nI 97)) (2 * c + 19) 2 ((w (6 * c + 2)) - nI 97)) (2 * c + 19) 3 ((w (6 * c + 3)) - nI 97)) (2 * c + 18) 1 (nI 0)) (2 * c + 18) 2 (nI 0)) (2 * c + 18) 3 (nI 0)) _
    refine tw_rv rfl ?_
    generalize hτ : (tw_upd (tw_upd (tw_upd (tw_upd (tw_upd (tw_upd (tw_upd σ (2 * c + 19) 0 ((w (6 * c + 0)) - nI 97)) (2 * c + 19) 1 ((w (6 * c + 1)) - nI 97)) (2 * c + 19) 2 ((w (6 * c + 2)) - nI 97)) (2 * c + 19) 3 ((w (6 * c + 3)) - nI 97)) (2 * c + 18) 1 (nI 0)) (2 * c + 18) 2 (nI 0)) (2 * c + 18) 3 (nI 0)) = τ
    refine ⟨rfl, fun h hh => ?_, ⟨?_, ?_, ?_⟩, fun k j g1 g2 => ?_⟩
    · rcases (show h = 0 ∨ h = 1 ∨ h = 2 ∨ h = 3 by omega) with rfl | rfl | rfl | rfl
      · rw [← hτ]; repeat (first | exact tw_upd_at | rw [tw_upd_off (by omega)])
      · rw [← hτ]; repeat (first | exact tw_upd_at | rw [tw_upd_off (by omega)])
      · rw [← hτ]; repeat (first | exact tw_upd_at | rw [tw_upd_off (by omega)])
      · rw [← hτ]; repeat (first | exact tw_upd_at | rw [tw_upd_off (by omega)])
    · rw [← hτ, tw_upd_off (by omega), tw_upd_off (by omega), tw_upd_at]; first | rw [if_pos h1] | rw [if_neg h1]
    · rw [← hτ, tw_upd_off (by omega), tw_upd_at]
    · rw [← hτ, tw_upd_at]
    · rw [← hτ]; repeat (first | rfl | rw [tw_upd_off (by omega)])
  · rw [tw_cne'] at h1
    refine tw_sg 2 (i1 := 33) (ls1 := [.ref 2, .int (nI c), .ref (2 * c + 18), .int (nI (c * 6)), .int (nI 4)]) (st1 := [.int (nI 1), .ref (2 * c + 18)]) (σ1 := (tw_upd (tw_upd (tw_upd (tw_upd σ (2 * c + 19) 0 ((w (6 * c + 0)) - nI 97)) (2 * c + 19) 1 ((w (6 * c + 1)) - nI 97)) (2 * c + 19) 2 ((w (6 * c + 2)) - nI 97)) (2 * c + 19) 3 ((w (6 * c + 3)) - nI 97))) rfl ?_
    refine tw_cl0 2 rfl (tw_inv_ok (y := 8) (b := 1) (st := [.int (nI 1), .ref (2 * c + 18)]) (k := (2 * c + 18)) (r := []) rfl rfl (tw_cdO hc)) (by decide) ?_
    show tw_P L xs _ 8 0 [.ref (2 * c + 18), .int (nI 1)] [] (tw_upd (tw_upd (tw_upd (tw_upd σ (2 * c + 19) 0 ((w (6 * c + 0)) - nI 97)) (2 * c + 19) 1 ((w (6 * c + 1)) - nI 97)) (2 * c + 19) 2 ((w (6 * c + 2)) - nI 97)) (2 * c + 19) 3 ((w (6 * c + 3)) - nI 97)) _
    refine tw_sg 2 (i1 := 2) (ls1 := [.ref (2 * c + 18), .int (nI 1)]) (st1 := [.int (nI 1), .ref (2 * c + 18)]) (σ1 := (tw_upd (tw_upd (tw_upd (tw_upd σ (2 * c + 19) 0 ((w (6 * c + 0)) - nI 97)) (2 * c + 19) 1 ((w (6 * c + 1)) - nI 97)) (2 * c + 19) 2 ((w (6 * c + 2)) - nI 97)) (2 * c + 19) 3 ((w (6 * c + 3)) - nI 97))) rfl ?_
    refine tw_pf rfl (tw_cdO hc) (tw_cdB hc (by decide)) (tw_cdK1 hc) ?_
    refine tw_sg 2 (i1 := 5) (ls1 := [.ref (2 * c + 18), .int (nI 1)]) (st1 := [.int (nI 0), .ref (2 * c + 18)]) (σ1 := (tw_upd (tw_upd (tw_upd (tw_upd (tw_upd σ (2 * c + 19) 0 ((w (6 * c + 0)) - nI 97)) (2 * c + 19) 1 ((w (6 * c + 1)) - nI 97)) (2 * c + 19) 2 ((w (6 * c + 2)) - nI 97)) (2 * c + 19) 3 ((w (6 * c + 3)) - nI 97)) (2 * c + 18) 1 (nI 1))) rfl ?_
    refine tw_pf rfl (tw_cdO hc) (tw_cdB hc (by decide)) (tw_cdK2 hc) ?_
    refine tw_sg 2 (i1 := 8) (ls1 := [.ref (2 * c + 18), .int (nI 1)]) (st1 := [.int (nI 0), .ref (2 * c + 18)]) (σ1 := (tw_upd (tw_upd (tw_upd (tw_upd (tw_upd (tw_upd σ (2 * c + 19) 0 ((w (6 * c + 0)) - nI 97)) (2 * c + 19) 1 ((w (6 * c + 1)) - nI 97)) (2 * c + 19) 2 ((w (6 * c + 2)) - nI 97)) (2 * c + 19) 3 ((w (6 * c + 3)) - nI 97)) (2 * c + 18) 1 (nI 1)) (2 * c + 18) 2 (nI 0))) rfl ?_
    refine tw_pf rfl (tw_cdO hc) (tw_cdB hc (by decide)) (tw_cdK3 hc) ?_
    refine tw_rv rfl ?_
    show tw_P L xs _ 129 34 [.ref 2, .int (nI c), .ref (2 * c + 18), .int (nI (c * 6)), .int (nI 4)] [] (tw_upd (tw_upd (tw_upd (tw_upd (tw_upd (tw_upd (tw_upd σ (2 * c + 19) 0 ((w (6 * c + 0)) - nI 97)) (2 * c + 19) 1 ((w (6 * c + 1)) - nI 97)) (2 * c + 19) 2 ((w (6 * c + 2)) - nI 97)) (2 * c + 19) 3 ((w (6 * c + 3)) - nI 97)) (2 * c + 18) 1 (nI 1)) (2 * c + 18) 2 (nI 0)) (2 * c + 18) 3 (nI 0)) _
    refine tw_rv rfl ?_
    generalize hτ : (tw_upd (tw_upd (tw_upd (tw_upd (tw_upd (tw_upd (tw_upd σ (2 * c + 19) 0 ((w (6 * c + 0)) - nI 97)) (2 * c + 19) 1 ((w (6 * c + 1)) - nI 97)) (2 * c + 19) 2 ((w (6 * c + 2)) - nI 97)) (2 * c + 19) 3 ((w (6 * c + 3)) - nI 97)) (2 * c + 18) 1 (nI 1)) (2 * c + 18) 2 (nI 0)) (2 * c + 18) 3 (nI 0)) = τ
    refine ⟨rfl, fun h hh => ?_, ⟨?_, ?_, ?_⟩, fun k j g1 g2 => ?_⟩
    · rcases (show h = 0 ∨ h = 1 ∨ h = 2 ∨ h = 3 by omega) with rfl | rfl | rfl | rfl
      · rw [← hτ]; repeat (first | exact tw_upd_at | rw [tw_upd_off (by omega)])
      · rw [← hτ]; repeat (first | exact tw_upd_at | rw [tw_upd_off (by omega)])
      · rw [← hτ]; repeat (first | exact tw_upd_at | rw [tw_upd_off (by omega)])
      · rw [← hτ]; repeat (first | exact tw_upd_at | rw [tw_upd_off (by omega)])
    · rw [← hτ, tw_upd_off (by omega), tw_upd_off (by omega), tw_upd_at]; first | rw [if_pos h1] | rw [if_neg h1]
    · rw [← hτ, tw_upd_off (by omega), tw_upd_at]
    · rw [← hτ, tw_upd_at]
    · rw [← hτ]; repeat (first | rfl | rw [tw_upd_off (by omega)])
def tw_thC (w : Nat → Int32) (σ0 σ : tw_Mem) (c : Nat) : Prop := (∀ k j, ¬ (18 ≤ k ∧ k < 2 * c + 18) → σ k j = σ0 k j) ∧ ∀ d, d < c → (∀ h, h < 4 → σ (2 * d + 19) h = w (6 * d + h) - nI 97) ∧ (σ (2 * d + 18) 1 = (if w (6 * d + 4) = nI 90 then nI 1 else nI 0) ∧ σ (2 * d + 18) 2 = nI 0 ∧ σ (2 * d + 18) 3 = nI 0)
theorem tw_thC.step {w : Nat → Int32} {σ0 σ τ : tw_Mem} {c : Nat} (H : tw_thC w σ0 σ c) (h : (∀ h, h < 4 → τ (2 * c + 19) h = w (6 * c + h) - nI 97) ∧ (τ (2 * c + 18) 1 = (if w (6 * c + 4) = nI 90 then nI 1 else nI 0) ∧ τ (2 * c + 18) 2 = nI 0 ∧ τ (2 * c + 18) 3 = nI 0) ∧ ∀ k j, ¬ k = 2 * c + 18 → ¬ k = 2 * c + 19 → τ k j = σ k j) : tw_thC w σ0 τ (c + 1) := by
  obtain ⟨h1, h2, h3⟩ := h
  refine ⟨fun k j g => ?_, fun d hd => ?_⟩
  · rw [h3 k j (by omega) (by omega)]; exact H.1 k j (by omega)
  · by_cases z : d = c
    · rw [z]; exact ⟨h1, h2⟩
    · rw [h3 _ _ (by omega) (by omega), h3 _ _ (by omega) (by omega), h3 _ _ (by omega) (by omega)]
      refine ⟨fun h hh => ?_, (H.2 d (by omega)).2⟩
      rw [h3 _ _ (by omega) (by omega)]
      exact (H.2 d (by omega)).1 h hh
set_option maxHeartbeats 4000000 in
set_option maxRecDepth 100000 in
theorem tw_l_thby {L : Nat} {xs : Nat → Int32} {Q : Option Value → tw_Mem → Prop} {σ0 : tw_Mem} {w : Nat → Int32} {k n : Nat} (hk : k ≤ 80) (hn : n ≤ 10) (hnk : 6 * n = k + 1) (h6 : σ0 6 4 = nI n) (hs : σ0 2 1 = nI k) (hw : ∀ z, z < k → σ0 3 z = w z) : ∀ (f : Nat) (c : Nat) (σ : tw_Mem) (u : Value), c + f = n → (tw_thC w σ0 σ c ∧ ∀ (τ : tw_Mem) (u : Value), tw_thC w σ0 τ n → tw_P L xs 5 86 24 [.ref 6, .ref 2, .int (nI n), u] [] τ Q) → tw_P L xs 5 86 8 [.ref 6, .ref 2, .int (nI c), u] [] σ Q := by
  intro f
  induction f with
  | zero =>
    intro c σ u hf hQ
    have hI := hQ.1
    refine tw_sgn 3 (i1 := 11) (ls0 := [.ref 6, .ref 2, .int (nI c), u]) (st0 := [.int (σ 6 4), .int (nI c)]) (σ0 := σ) (ls1 := [.ref 6, .ref 2, .int (nI c), u]) (st1 := [.int (nI n), .int (nI c)]) (σ1 := σ) rfl (rfl) (by simp only [((hI.1 6 4 (by omega)).trans h6), tw_nadd, tw_nmul]) (rfl) ?_
    refine tw_biT (c := .ge) rfl (by rw [tw_cge, tw_nle (by omega) (by omega)] <;> omega) ?_
    show tw_P L xs _ 86 24 [.ref 6, .ref 2, .int (nI c), u] [] σ _
    have hf : n = c := Eq.symm hf
    subst hf
    exact hQ.2 σ _ hI
  | succ f ih =>
    intro c σ u hf hQ
    have hI := hQ.1
    refine tw_sgn 3 (i1 := 11) (ls0 := [.ref 6, .ref 2, .int (nI c), u]) (st0 := [.int (σ 6 4), .int (nI c)]) (σ0 := σ) (ls1 := [.ref 6, .ref 2, .int (nI c), u]) (st1 := [.int (nI n), .int (nI c)]) (σ1 := σ) rfl (rfl) (by simp only [((hI.1 6 4 (by omega)).trans h6), tw_nadd, tw_nmul]) (rfl) ?_
    refine tw_biF (c := .ge) rfl (by rw [tw_cge', tw_nle (by omega) (by omega)] <;> omega) ?_
    show tw_P L xs _ 86 12 [.ref 6, .ref 2, .int (nI c), u] [] σ _
    refine tw_sg 2 (i1 := 14) (ls1 := [.ref 6, .ref 2, .int (nI c), u]) (st1 := [.int (nI c), .ref 6]) (σ1 := σ) rfl ?_
    refine tw_cl1 rfl (rfl) (by decide) (tw_e_cardAt1 ((hI.1 6 4 (by omega)).trans h6) hn (by omega)) ?_
    rintro _ _ ⟨rfl, rfl⟩
    show tw_P L xs _ 86 15 [.ref 6, .ref 2, .int (nI c), u] [.ref (2 * c + 18)] σ _
    refine tw_sg 6 (i1 := 21) (ls1 := [.ref 6, .ref 2, .int (nI c), .ref (2 * c + 18)]) (st1 := [.ref (2 * c + 18), .int (nI c), .ref 2]) (σ1 := σ) rfl ?_
    refine tw_cl1 rfl (rfl) (by decide) (tw_e_readCard (w := w) (k := k) (c := c) hk (by omega) (by omega) ((hI.1 2 1 (by omega)).trans hs) (fun z hz => (hI.1 3 z (by omega)).trans (hw z hz))) ?_
    rintro _ τ ⟨rfl, hc1⟩
    show tw_P L xs _ 86 22 [.ref 6, .ref 2, .int (nI c), .ref (2 * c + 18)] [] τ _
    refine tw_sgn 2 (i1 := 8) (ls0 := [.ref 6, .ref 2, .int (nI c + nI 1), .ref (2 * c + 18)]) (st0 := []) (σ0 := τ) (ls1 := [.ref 6, .ref 2, .int (nI (c + 1)), .ref (2 * c + 18)]) (st1 := []) (σ1 := τ) rfl (by simp only [tw_nadd, tw_nmul]) (rfl) (rfl) ?_
    exact ih (c + 1) τ _ (by omega) ⟨hI.step hc1, hQ.2⟩
set_option maxHeartbeats 4000000 in
set_option maxRecDepth 100000 in
theorem tw_e_thby {w : Nat → Int32} {k n : Nat} (hk : k ≤ 80) (hn : n ≤ 10) (hnk : 6 * n = k + 1) (hs : σ 2 1 = nI k) (hw : ∀ z, z < k → σ 3 z = w z) : tw_E L xs 5 86 [.ref 6, .ref 2] σ (fun v υ => v = none ∧ ∃ τ, tw_thC w (tw_upd σ 6 4 (nI n)) τ n ∧ υ = tw_upd (tw_upd τ 9 3 (nI 0)) 9 4 (nI n)) := by
  show tw_P L xs _ 86 0 [.ref 6, .ref 2, tw_U, tw_U] [] σ _
  refine tw_sg 3 (i1 := 3) (ls1 := [.ref 6, .ref 2, tw_U, tw_U]) (st1 := [.ref 2, .int (nI 10), .ref 6]) (σ1 := σ) rfl ?_
  refine tw_cl0 4 rfl (rfl) (by decide) ?_
  show tw_P L xs _ 128 0 [.ref 2] [] σ _
  refine tw_sg 1 (i1 := 1) (ls1 := [.ref 2]) (st1 := [.ref 2]) (σ1 := σ) rfl ?_
  refine tw_cl0 3 rfl (rfl) (by decide) ?_
  show tw_P L xs _ 121 0 [.ref 2] [] σ _
  refine tw_sgn 2 (i1 := 2) (ls0 := [.ref 2]) (st0 := [.int (σ 2 1)]) (σ0 := σ) (ls1 := [.ref 2]) (st1 := [.int (nI k)]) (σ1 := σ) rfl (rfl) (by simp only [hs, tw_nadd, tw_nmul]) (rfl) ?_
  refine tw_ri rfl (rfl) ?_
  show tw_P L xs _ 128 2 [.ref 2] [.int (nI k)] σ _
  refine tw_sgn 3 (i1 := 5) (ls0 := [.ref 2]) (st0 := [.int (nI 6), .int (nI k + nI 1)]) (σ0 := σ) (ls1 := [.ref 2]) (st1 := [.int (nI 6), .int (nI (k + 1))]) (σ1 := σ) rfl (rfl) (by simp only [tw_nadd, tw_nmul]) (rfl) ?_
  refine tw_dv rfl (by decide) ?_
  rw [tw_ndiv (by omega) (by decide)]
  refine tw_ri rfl (rfl) ?_
  show tw_P L xs _ 86 4 [.ref 6, .ref 2, tw_U, tw_U] [.int (nI ((k + 1) / 6)), .int (nI 10), .ref 6] σ _
  refine tw_cl1 rfl (rfl) (by decide) (tw_E_mono (tw_e_minN (a := 10) (b := (k + 1) / 6) (by omega) (by omega)) (fun v σ1 h => (⟨by rw [h.1, show min 10 ((k + 1) / 6) = n by omega], h.2⟩ : v = some (.int (nI n)) ∧ σ = σ1))) ?_
  rintro _ _ ⟨rfl, rfl⟩
  show tw_P L xs _ 86 5 [.ref 6, .ref 2, tw_U, tw_U] [.int (nI n), .ref 6] σ _
  refine tw_sg 3 (i1 := 8) (ls1 := [.ref 6, .ref 2, .int (nI 0), tw_U]) (st1 := []) (σ1 := (tw_upd σ 6 4 (nI n))) rfl ?_
  refine tw_l_thby (σ0 := tw_upd σ 6 4 (nI n)) hk hn hnk tw_upd_at ((tw_upd_off (by omega)).trans hs) (fun z hz => (tw_upd_off (by omega)).trans (hw z hz)) n 0 _ _ (by omega) ⟨⟨fun _ _ _ => rfl, fun d hd => by omega⟩, fun τ u hI => ?_⟩
  show tw_P L xs _ 86 24 [.ref 6, .ref 2, .int (nI n), u] [] τ _
  refine tw_sgn 4 (i1 := 28) (ls0 := [.ref 6, .ref 2, .int (nI n), u]) (st0 := [.int (τ 6 4), .ref 9]) (σ0 := τ) (ls1 := [.ref 6, .ref 2, .int (nI n), u]) (st1 := [.int (nI n), .ref 9]) (σ1 := τ) rfl (rfl) (by simp only [((hI.1 6 4 (by omega)).trans tw_upd_at), tw_nadd, tw_nmul]) (rfl) ?_
  refine tw_cl0 4 rfl (rfl) (by decide) ?_
  show tw_P L xs _ 16 0 [.ref 9, .int (nI n)] [] τ _
  refine tw_sg 6 (i1 := 6) (ls1 := [.ref 9, .int (nI n)]) (st1 := []) (σ1 := (tw_upd (tw_upd τ 9 3 (nI 0)) 9 4 (nI n))) rfl ?_
  refine tw_rv rfl ?_
  show tw_P L xs _ 86 29 [.ref 6, .ref 2, .int (nI n), u] [] (tw_upd (tw_upd τ 9 3 (nI 0)) 9 4 (nI n)) _
  refine tw_rv rfl ?_
  exact ⟨rfl, τ, hI, rfl⟩
set_option maxHeartbeats 4000000 in
set_option maxRecDepth 100000 in
theorem tw_o_thread {L : Nat} {xs : Nat → Int32} : tw_op L xs 134 197 [] := by
  intro σ hI
  obtain ⟨⟨n, r, hL⟩, hT, hPp, hPc, hLs, hIm, hC14, hC46, hC72⟩ := id hI
  obtain ⟨⟨hn10, hr50⟩, ⟨hn6, hn89⟩, ⟨hr9, hw9, hr90⟩, hCa, hRo, hLa⟩ := hL
  have hn6 : σ 6 4 = nI n := hn6
  have hn89 : σ 89 0 = nI n := hn89
  have hr9 : σ 9 3 = nI r := hr9
  have hw9 : σ 9 4 = nI n := hw9
  have hr90 : σ 90 0 = nI r := hr90
  obtain ⟨k, hk80, hk2, hk88, hTj⟩ := id hT
  obtain ⟨m, hmk, hok, hbad⟩ := tw_first (P := fun j => tw_fit (tw_hr (σ 103) k j) j) k (by show ¬ tw_fit _ _; rw [tw_hr_out (Nat.lt_irrefl k)]; exact tw_fit_m1)
  have hok : ∀ j, j < m → tw_fit (tw_hr (σ 103) k j) j := hok
  have hbad : ¬ tw_fit (tw_hr (σ 103) k m) m := hbad
  by_cases hz : m = k ∧ k % 6 = 5
  · have hm59 : m ≤ 59 := by
      rcases (show m ≤ 59 ∨ 59 < m by omega) with h | h
      · exact h
      · exact absurd ((hok 59 h).2.2 (by omega)).2 (by omega)
    obtain ⟨n1, hn1⟩ : ∃ n1, 6 * n1 = k + 1 := ⟨(k + 1) / 6, by omega⟩
    have hn10b : n1 ≤ 10 := by omega
    skip
    show tw_P L xs _ 134 0 [.ref 1, tw_U] [] σ _
    refine tw_sg 2 (i1 := 2) (ls1 := [.ref 1, tw_U]) (st1 := [.ref 2]) (σ1 := σ) rfl ?_
    refine tw_cl1 rfl (rfl) (by decide) (tw_E_mono (tw_e_fault (w := σ 103) hk80 hmk hk2 (fun z hz => (hTj z hz).1) hok hbad) (fun v σ1 h => (⟨by rw [h.1, if_pos hz], h.2⟩ : v = some (.int ((-1))) ∧ σ = σ1))) ?_
    rintro _ _ ⟨rfl, rfl⟩
    show tw_P L xs _ 134 3 [.ref 1, tw_U] [.int (-1)] σ _
    refine tw_sg 3 (i1 := 6) (ls1 := [.ref 1, .int (-1)]) (st1 := [.int (-1), .int (-1)]) (σ1 := σ) rfl ?_
    refine tw_biF (c := .ne) rfl (by rw [tw_cne'] <;> (exact rfl)) ?_
    show tw_P L xs _ 134 7 [.ref 1, .int (-1)] [] σ _
    refine tw_sg 4 (i1 := 11) (ls1 := [.ref 1, .int (-1)]) (st1 := [.ref 2, .ref 6]) (σ1 := σ) rfl ?_
    refine tw_cl1 rfl (rfl) (by decide) (tw_e_thby (w := σ 103) (n := n1) hk80 hn10b hn1 hk2 (fun z hz => (hTj z hz).1)) ?_
    rintro _ _ ⟨rfl, τ, hC, rfl⟩
    show tw_P L xs _ 134 12 [.ref 1, .int (-1)] [] (tw_upd (tw_upd τ 9 3 (nI 0)) 9 4 (nI n1)) _
    refine tw_sg 2 (i1 := 14) (ls1 := [.ref 1, .int (-1)]) (st1 := [.ref 2]) (σ1 := (tw_upd (tw_upd τ 9 3 (nI 0)) 9 4 (nI n1))) rfl ?_
    refine tw_cl0 59 rfl (rfl) (by decide) ?_
    show tw_P L xs _ 124 0 [.ref 2] [] (tw_upd (tw_upd τ 9 3 (nI 0)) 9 4 (nI n1)) _
    refine tw_sg 3 (i1 := 3) (ls1 := [.ref 2]) (st1 := []) (σ1 := (tw_upd (tw_upd (tw_upd τ 9 3 (nI 0)) 9 4 (nI n1)) 2 1 (nI 0))) rfl ?_
    refine tw_rv rfl ?_
    show tw_P L xs _ 134 15 [.ref 1, .int (-1)] [] (tw_upd (tw_upd (tw_upd τ 9 3 (nI 0)) 9 4 (nI n1)) 2 1 (nI 0)) _
    refine tw_sg 2 (i1 := 17) (ls1 := [.ref 1, .int (-1)]) (st1 := [.int (-1), .int (-1)]) (σ1 := (tw_upd (tw_upd (tw_upd τ 9 3 (nI 0)) 9 4 (nI n1)) 2 1 (nI 0))) rfl ?_
    refine tw_biF (c := .ne) rfl (by rw [tw_cne'] <;> (exact rfl)) ?_
    show tw_P L xs _ 134 18 [.ref 1, .int (-1)] [] (tw_upd (tw_upd (tw_upd τ 9 3 (nI 0)) 9 4 (nI n1)) 2 1 (nI 0)) _
    refine tw_sg 2 (i1 := 20) (ls1 := [.ref 1, .int (-1)]) (st1 := [.ref 6]) (σ1 := (tw_upd (tw_upd (tw_upd τ 9 3 (nI 0)) 9 4 (nI n1)) 2 1 (nI 0))) rfl ?_
    refine tw_cl0 59 rfl (rfl) (by decide) ?_
    show tw_P L xs _ 82 0 [.ref 6] [] (tw_upd (tw_upd (tw_upd τ 9 3 (nI 0)) 9 4 (nI n1)) 2 1 (nI 0)) _
    refine tw_sgn 2 (i1 := 2) (ls0 := [.ref 6]) (st0 := [.int (τ 6 4)]) (σ0 := (tw_upd (tw_upd (tw_upd τ 9 3 (nI 0)) 9 4 (nI n1)) 2 1 (nI 0))) (ls1 := [.ref 6]) (st1 := [.int (nI n1)]) (σ1 := (tw_upd (tw_upd (tw_upd τ 9 3 (nI 0)) 9 4 (nI n1)) 2 1 (nI 0))) rfl (rfl) (by simp only [((hC.1 6 4 (by omega)).trans tw_upd_at), tw_nadd, tw_nmul]) (rfl) ?_
    refine tw_ri rfl (rfl) ?_
    show tw_P L xs _ 134 21 [.ref 1, .int (-1)] [.int (nI n1)] (tw_upd (tw_upd (tw_upd τ 9 3 (nI 0)) 9 4 (nI n1)) 2 1 (nI 0)) _
    refine tw_sg 1 (i1 := 25) (ls1 := [.ref 1, .int (-1)]) (st1 := [.int (nI n1)]) (σ1 := (tw_upd (tw_upd (tw_upd τ 9 3 (nI 0)) 9 4 (nI n1)) 2 1 (nI 0))) rfl ?_
    refine tw_ri rfl (rfl) ?_
    refine ⟨_, rfl, ?_⟩
    generalize hα : (tw_upd (tw_upd (tw_upd τ 9 3 (nI 0)) 9 4 (nI n1)) 2 1 (nI 0)) = α
    have hB103 : ∀ z, α 103 z = σ 103 z := fun z => by rw [← hα, tw_upd_off (by omega), tw_upd_off (by omega), tw_upd_off (by omega), hC.1 _ _ (by omega), tw_upd_off (by omega)]
    have hB17 : α 88 17 = nI k := by rw [← hα, tw_upd_off (by omega), tw_upd_off (by omega), tw_upd_off (by omega), hC.1 _ _ (by omega), tw_upd_off (by omega)]; exact hk88
    show tw_P L xs _ 197 0 [.ref 88, tw_U, tw_U, tw_U] [] α _
    refine tw_sg 8 (i1 := 8) (ls1 := [.ref 88, tw_U, tw_U, tw_U]) (st1 := [.int (nI 0), .ref 88]) (σ1 := (tw_upd (tw_upd α 88 18 (nI 0)) 88 19 (-1))) rfl ?_
    refine tw_cl1 rfl (rfl) (by decide) (tw_e_rd (σ := (tw_upd (tw_upd α 88 18 (nI 0)) 88 19 (-1))) (w := σ 103) (c := 0) (m := m) (k := k) hk80 (by omega) (fun z hz => by rw [tw_upd_off (by omega), tw_upd_off (by omega)]; exact hB103 z) (by rw [tw_upd_off (by omega), tw_upd_off (by omega)]; exact hB17) (by repeat (first | exact tw_upd_at | rw [tw_upd_off (by omega)])) (by repeat (first | exact tw_upd_at | rw [tw_upd_off (by omega)])) (by omega) hok hbad) ?_
    rintro _ ρ ⟨rfl, r1, r2⟩
    show tw_P L xs _ 197 9 [.ref 88, tw_U, tw_U, tw_U] [] ρ _
    refine tw_sg 2 (i1 := 11) (ls1 := [.ref 88, .int (nI 1), tw_U, tw_U]) (st1 := []) (σ1 := ρ) rfl ?_
    have hS : tw_thS (σ 103) k m α ρ 1 := tw_thS.step (c := 0) (σ := tw_upd (tw_upd α 88 18 (nI 0)) 88 19 (-1)) (fun k j g1 g2 g3 => by rw [tw_upd_off (by omega), tw_upd_off (by omega)]) (fun c hc => by omega) (by omega) r1 r2
    refine tw_P_le (d := 4) (tw_l_thr (σ0 := α) (w := σ 103) (k := k) (m := m) hk80 hmk (fun z hz => hB103 z) hB17 hok hbad (fun ω n2 hF w1 w2 => ?_) (fun ω n2 hF w1 w2 w3 w4 w5 w6 => ?_) 9 1 ρ (by omega) (by omega) hS) (by decide)
    · exact absurd hz (by omega)
    · have hnn : n2 = n1 := by omega
      subst hnn
      refine tw_sgn 5 (i1 := 49) (ls0 := [.ref 88, .int (nI n2), tw_U, tw_U]) (st0 := [.int (ω 88 19)]) (σ0 := (tw_upd ω 88 17 (nI 0))) (ls1 := [.ref 88, .int (nI n2), tw_U, tw_U]) (st1 := [.int (-1)]) (σ1 := (tw_upd ω 88 17 (nI 0))) rfl (rfl) (by simp only [w1, tw_nadd, tw_nmul]) (rfl) ?_
      refine tw_bzT (c := .lt) rfl (by rw [tw_clt] <;> (exact (by decide))) ?_
      show tw_P L xs _ 197 55 [.ref 88, .int (nI n2), tw_U, tw_U] [] (tw_upd ω 88 17 (nI 0)) _
      refine tw_sg 4 (i1 := 59) (ls1 := [.ref 88, .int (nI n2), tw_U, tw_U]) (st1 := [.int (nI n2), .int (nI 0), .ref 89]) (σ1 := (tw_upd ω 88 17 (nI 0))) rfl ?_
      refine tw_as (k := 89) (j := 0) (len := 2) rfl rfl rfl (rfl) (by omega) (by decide) ?_
      refine tw_sg 4 (i1 := 64) (ls1 := [.ref 88, .int (nI n2), tw_U, tw_U]) (st1 := [.int (nI 0), .int (nI 0), .ref 90]) (σ1 := (tw_upd (tw_upd ω 88 17 (nI 0)) 89 0 (nI n2))) rfl ?_
      refine tw_as (k := 90) (j := 0) (len := 2) rfl rfl rfl (rfl) (by omega) (by decide) ?_
      refine tw_sg 2 (i1 := 67) (ls1 := [.ref 88, .int (nI n2), .int (nI 0), tw_U]) (st1 := []) (σ1 := (tw_upd (tw_upd (tw_upd ω 88 17 (nI 0)) 89 0 (nI n2)) 90 0 (nI 0))) rfl ?_
      refine tw_l_thrw (σ0 := tw_upd (tw_upd (tw_upd ω 88 17 (nI 0)) 89 0 (nI n2)) 90 0 (nI 0)) hn10b n2 0 _ _ (by omega) ⟨⟨fun _ _ _ _ => rfl, fun d hd => by omega⟩, fun υ hM => ⟨rfl, ?_⟩⟩
      have hI2 : tw_Inv (tw_upd (tw_upd σ 2 1 (nI 0)) 88 17 (nI 0)) := hI.tape ⟨0, by omega, (tw_upd_off (by omega)).trans tw_upd_at, tw_upd_at, fun j hj => by omega⟩ (fun k j h => by rw [tw_upd_off (fun g => h (by unfold tw_fTape; omega)), tw_upd_off (fun g => h (by unfold tw_fTape; omega))])
      -- what is where
      have fM : ∀ k j, ¬ (k = 91 ∧ j < 4 * n2) → ¬ (92 ≤ k ∧ k ≤ 94 ∧ j < n2) → ¬ (k = 88 ∧ (j = 17 ∨ j = 18 ∨ j = 19)) → ¬ k = 108 → ¬ k = 109 → ¬ (k = 89 ∧ j = 0) → ¬ (k = 90 ∧ j = 0) → υ k j = α k j := fun k j g1 g2 g3 g4 g5 g6 g7 => by rw [hM.1 k j g1 g2, tw_upd_off g7, tw_upd_off g6, tw_upd_off (by omega), hF k j (by omega) g4 g5]
      have fC : ∀ k j, ¬ (18 ≤ k ∧ k < 2 * n2 + 18) → ¬ (k = 9 ∧ (j = 3 ∨ j = 4)) → ¬ (k = 2 ∧ j = 1) → ¬ (k = 6 ∧ j = 4) → α k j = σ k j := fun k j g1 g2 g3 g4 => by rw [← hα, tw_upd_off g3, tw_upd_off (by omega), tw_upd_off (by omega), hC.1 k j g1, tw_upd_off g4]
      have a2 : α 2 1 = nI 0 := by rw [← hα, tw_upd_at]
      have a93 : α 9 3 = nI 0 := by rw [← hα, tw_upd_off (by omega), tw_upd_off (by omega), tw_upd_at]
      have a94 : α 9 4 = nI n2 := by rw [← hα, tw_upd_off (by omega), tw_upd_at]
      have a64 : α 6 4 = nI n2 := by rw [← hα, tw_upd_off (by omega), tw_upd_off (by omega), tw_upd_off (by omega), hC.1 6 4 (by omega), tw_upd_at]
      have aC : ∀ k j, 18 ≤ k → k < 2 * n2 + 18 → α k j = τ k j := fun k j g1 g2 => by rw [← hα, tw_upd_off (by omega), tw_upd_off (by omega), tw_upd_off (by omega)]
      have u17 : υ 88 17 = nI 0 := by rw [hM.1 88 17 (by omega) (by omega), tw_upd_off (by omega), tw_upd_off (by omega), tw_upd_at]
      have u89 : υ 89 0 = nI n2 := by rw [hM.1 89 0 (by omega) (by omega), tw_upd_off (by omega), tw_upd_at]
      have u90 : υ 90 0 = nI 0 := by rw [hM.1 90 0 (by omega) (by omega), tw_upd_at]
      have hH : ∀ c, c < n2 → (∀ h, h < 4 → υ 91 (4 * c + h) = σ 103 (6 * c + h) - nI 97 ∧ ∃ q, q < 10 ∧ υ 91 (4 * c + h) = nI q) ∧ (υ 92 c = if σ 103 (6 * c + 4) = nI 90 then nI 1 else nI 0) := fun c hc => by
        obtain ⟨m1, m2, -, -⟩ := hM.2 c hc
        obtain ⟨g1, g2⟩ := w6 c hc
        refine ⟨fun h hh => ?_, ?_⟩
        · have e : υ 91 (4 * c + h) = σ 103 (6 * c + h) - nI 97 := by rw [m1 h hh, tw_upd_off (by omega), tw_upd_off (by omega), tw_upd_off (by omega), g1 h hh, tw_hr_in (by omega)]
          refine ⟨e, ?_⟩
          have hf := hok (6 * c + h) (by omega)
          rw [tw_hr_in (by omega)] at hf
          obtain ⟨-, q, -, hq, hq2⟩ := hTj (6 * c + h) (by omega)
          rw [hq2] at hf
          have h1 := (hf.1 (by omega)).1
          have h2 := (hf.1 (by omega)).2
          rw [tw_nlt (by omega) (by omega)] at h1 h2
          exact ⟨q - 97, by omega, by rw [e, hq2, tw_nsub (by omega)]⟩
        · rw [m2, tw_upd_off (by omega), tw_upd_off (by omega), tw_upd_off (by omega), g2, tw_hr_in (by omega)]
      have hLo : tw_iLoom υ 6 0 n2 0 := by
        refine ⟨⟨by omega, by omega⟩, ⟨(fM 6 4 (by omega) (by omega) (by omega) (by omega) (by omega) (by omega) (by omega)).trans a64, u89⟩, ⟨(fM 9 3 (by omega) (by omega) (by omega) (by omega) (by omega) (by omega) (by omega)).trans a93, (fM 9 4 (by omega) (by omega) (by omega) (by omega) (by omega) (by omega) (by omega)).trans a94, u90⟩, ?_, fun i hi => by omega, hLa.cg (fun k j h => ?_)⟩
        · rw [tw_iCards0]
          intro c hc
          obtain ⟨c1, c2, c3, c4⟩ := hC.2 c hc
          obtain ⟨h1, h2⟩ := hH c hc
          obtain ⟨-, -, m3, m4⟩ := hM.2 c hc
          have x18 : ∀ j, υ (2 * c + 18) j = τ (2 * c + 18) j := fun j => (fM _ _ (by omega) (by omega) (by omega) (by omega) (by omega) (by omega) (by omega)).trans (aC _ _ (by omega) (by omega))
          have x19 : ∀ j, υ (2 * c + 19) j = τ (2 * c + 19) j := fun j => (fM _ _ (by omega) (by omega) (by omega) (by omega) (by omega) (by omega) (by omega)).trans (aC _ _ (by omega) (by omega))
          refine ⟨fun h hh => ⟨by rw [x19, c1 h hh, (h1 h hh).1], (h1 h hh).2⟩, ⟨by rw [x18, c2, h2], ?_⟩, ⟨by rw [x18, c3, m3], 0, by omega, m3⟩, by rw [x18, c4, m4]⟩
          rw [h2]
          by_cases z9 : σ 103 (6 * c + 4) = nI 90
          · exact ⟨1, by omega, if_pos z9⟩
          · exact ⟨0, by omega, if_neg z9⟩
        · unfold tw_fLaw at h
          exact (fM k j (by omega) (by omega) (by omega) (by omega) (by omega) (by omega) (by omega)).trans (fC k j (by omega) (by omega) (by omega) (by omega))
      refine hI2.loom ⟨n2, 0, hLo⟩ (fun n3 r3 h3 h4 e3 e4 c hc => ?_) (fun k j h => ?_)
      · have en : n3 = n2 := tw_ninj (by omega) (by omega) (e3.symm.trans u89)
        have er : r3 = 0 := tw_ninj (by omega) (by omega) (e4.symm.trans u90)
        rw [er, tw_sm]
        exact (hM.2 c (by omega)).2.2.2
      · unfold tw_fRest tw_fLoom tw_fCards tw_fRows tw_fLaw at h
        by_cases z1 : k = 88 ∧ j = 17
        · rw [z1.1, z1.2, tw_upd_at]; exact u17
        · by_cases z2 : k = 2 ∧ j = 1
          · rw [z2.1, z2.2, tw_upd_off (by omega), tw_upd_at]; exact (fM 2 1 (by omega) (by omega) (by omega) (by omega) (by omega) (by omega) (by omega)).trans a2
          · rw [tw_upd_off z1, tw_upd_off z2]
            exact (fM k j (by omega) (by omega) (by omega) (by omega) (by omega) (by omega) (by omega)).trans (fC k j (by omega) (by omega) (by omega) (by omega))
  · skip
    show tw_P L xs _ 134 0 [.ref 1, tw_U] [] σ _
    refine tw_sg 2 (i1 := 2) (ls1 := [.ref 1, tw_U]) (st1 := [.ref 2]) (σ1 := σ) rfl ?_
    refine tw_cl1 rfl (rfl) (by decide) (tw_E_mono (tw_e_fault (w := σ 103) hk80 hmk hk2 (fun z hz => (hTj z hz).1) hok hbad) (fun v σ1 h => (⟨by rw [h.1, if_neg hz], h.2⟩ : v = some (.int (nI m)) ∧ σ = σ1))) ?_
    rintro _ _ ⟨rfl, rfl⟩
    show tw_P L xs _ 134 3 [.ref 1, tw_U] [.int (nI m)] σ _
    refine tw_sg 3 (i1 := 6) (ls1 := [.ref 1, .int (nI m)]) (st1 := [.int (-1), .int (nI m)]) (σ1 := σ) rfl ?_
    refine tw_biT (c := .ne) rfl (by rw [tw_cne] <;> (exact (tw_nne1 (by omega)))) ?_
    show tw_P L xs _ 134 12 [.ref 1, .int (nI m)] [] σ _
    refine tw_sg 2 (i1 := 14) (ls1 := [.ref 1, .int (nI m)]) (st1 := [.ref 2]) (σ1 := σ) rfl ?_
    refine tw_cl0 59 rfl (rfl) (by decide) ?_
    show tw_P L xs _ 124 0 [.ref 2] [] σ _
    refine tw_sg 3 (i1 := 3) (ls1 := [.ref 2]) (st1 := []) (σ1 := (tw_upd σ 2 1 (nI 0))) rfl ?_
    refine tw_rv rfl ?_
    show tw_P L xs _ 134 15 [.ref 1, .int (nI m)] [] (tw_upd σ 2 1 (nI 0)) _
    refine tw_sg 2 (i1 := 17) (ls1 := [.ref 1, .int (nI m)]) (st1 := [.int (-1), .int (nI m)]) (σ1 := (tw_upd σ 2 1 (nI 0))) rfl ?_
    refine tw_biT (c := .ne) rfl (by rw [tw_cne] <;> (exact (tw_nne1 (by omega)))) ?_
    show tw_P L xs _ 134 22 [.ref 1, .int (nI m)] [] (tw_upd σ 2 1 (nI 0)) _
    refine tw_sg 3 (i1 := 25) (ls1 := [.ref 1, .int (nI m)]) (st1 := [.int ((-100) - nI m)]) (σ1 := (tw_upd σ 2 1 (nI 0))) rfl ?_
    refine tw_ri rfl (rfl) ?_
    refine ⟨_, rfl, ?_⟩
    generalize hα : (tw_upd σ 2 1 (nI 0)) = α
    have hB103 : ∀ z, α 103 z = σ 103 z := fun z => by rw [← hα, tw_upd_off (by omega)]
    have hB17 : α 88 17 = nI k := by rw [← hα, tw_upd_off (by omega)]; exact hk88
    show tw_P L xs _ 197 0 [.ref 88, tw_U, tw_U, tw_U] [] α _
    refine tw_sg 8 (i1 := 8) (ls1 := [.ref 88, tw_U, tw_U, tw_U]) (st1 := [.int (nI 0), .ref 88]) (σ1 := (tw_upd (tw_upd α 88 18 (nI 0)) 88 19 (-1))) rfl ?_
    refine tw_cl1 rfl (rfl) (by decide) (tw_e_rd (σ := (tw_upd (tw_upd α 88 18 (nI 0)) 88 19 (-1))) (w := σ 103) (c := 0) (m := m) (k := k) hk80 (by omega) (fun z hz => by rw [tw_upd_off (by omega), tw_upd_off (by omega)]; exact hB103 z) (by rw [tw_upd_off (by omega), tw_upd_off (by omega)]; exact hB17) (by repeat (first | exact tw_upd_at | rw [tw_upd_off (by omega)])) (by repeat (first | exact tw_upd_at | rw [tw_upd_off (by omega)])) (by omega) hok hbad) ?_
    rintro _ ρ ⟨rfl, r1, r2⟩
    show tw_P L xs _ 197 9 [.ref 88, tw_U, tw_U, tw_U] [] ρ _
    refine tw_sg 2 (i1 := 11) (ls1 := [.ref 88, .int (nI 1), tw_U, tw_U]) (st1 := []) (σ1 := ρ) rfl ?_
    have hS : tw_thS (σ 103) k m α ρ 1 := tw_thS.step (c := 0) (σ := tw_upd (tw_upd α 88 18 (nI 0)) 88 19 (-1)) (fun k j g1 g2 g3 => by rw [tw_upd_off (by omega), tw_upd_off (by omega)]) (fun c hc => by omega) (by omega) r1 r2
    refine tw_P_le (d := 4) (tw_l_thr (σ0 := α) (w := σ 103) (k := k) (m := m) hk80 hmk (fun z hz => hB103 z) hB17 hok hbad (fun ω n2 hF w1 w2 => ?_) (fun ω n2 hF w1 w2 w3 w4 w5 w6 => ?_) 9 1 ρ (by omega) (by omega) hS) (by decide)
    · skip
      refine tw_sgn 5 (i1 := 49) (ls0 := [.ref 88, .int (nI n2), tw_U, tw_U]) (st0 := [.int (ω 88 19)]) (σ0 := (tw_upd ω 88 17 (nI 0))) (ls1 := [.ref 88, .int (nI n2), tw_U, tw_U]) (st1 := [.int (nI m)]) (σ1 := (tw_upd ω 88 17 (nI 0))) rfl (rfl) (by simp only [w1, tw_nadd, tw_nmul]) (rfl) ?_
      refine tw_bzF (c := .lt) rfl (by rw [tw_clt', tw_nlt (by omega) (by omega)] <;> omega) ?_
      show tw_P L xs _ 197 50 [.ref 88, .int (nI n2), tw_U, tw_U] [] (tw_upd ω 88 17 (nI 0)) _
      refine tw_sgn 4 (i1 := 54) (ls0 := [.ref 88, .int (nI n2), tw_U, tw_U]) (st0 := [.int ((-100) - (ω 88 19))]) (σ0 := (tw_upd ω 88 17 (nI 0))) (ls1 := [.ref 88, .int (nI n2), tw_U, tw_U]) (st1 := [.int ((-100) - nI m)]) (σ1 := (tw_upd ω 88 17 (nI 0))) rfl (rfl) (by simp only [w1, tw_nadd, tw_nmul]) (rfl) ?_
      refine tw_ri rfl (rfl) ?_
      refine ⟨rfl, ?_⟩
      have hI2 : tw_Inv (tw_upd (tw_upd σ 2 1 (nI 0)) 88 17 (nI 0)) := hI.tape ⟨0, by omega, (tw_upd_off (by omega)).trans tw_upd_at, tw_upd_at, fun j hj => by omega⟩ (fun k j h => by rw [tw_upd_off (fun g => h (by unfold tw_fTape; omega)), tw_upd_off (fun g => h (by unfold tw_fTape; omega))])
      refine hI2.keep (fun k j g => ?_)
      unfold tw_scr at g
      by_cases z1 : k = 88 ∧ j = 17
      · rw [z1.1, z1.2, tw_upd_at, tw_upd_at]
      · rw [tw_upd_off z1, tw_upd_off z1, hF k j (by omega) (by omega) (by omega), ← hα]
    · exact absurd ⟨w2, by omega⟩ hz
end tw_s62
