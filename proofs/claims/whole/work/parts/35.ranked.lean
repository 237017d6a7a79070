/-! ranked -/
section tw_s35
variable {L : Nat} {xs : Nat → Int32} {σ : tw_Mem} {x y w : Int32} {n r i c k h q a b e : Nat}
/-- colour j before colour q, by its counts -/
def tw_ahd (v u : Nat → Int32) (j q : Nat) : Prop := if v j = v q then (if u j = u q then j < q else u j < u q) else v q < v j
theorem tw_ahd_irr {v u : Nat → Int32} {q : Nat} : ¬ tw_ahd v u q q := by
  unfold tw_ahd
  rw [if_pos rfl, if_pos rfl]
  omega
noncomputable def tw_gAh (v u : Nat → Int32) (q : Nat) : Nat → Int32 → Int32 := fun j a => @ite _ (tw_ahd v u j q) (Classical.propDecidable _) (a + nI 1) a
def tw_rkd (v u : Nat → Int32) (x : Int32) (q : Nat) : Prop := tw_fo (tw_gAh v u q) 0 10 (nI 0) = x
theorem tw_ahd_cg {v u v1 u1 : Nat → Int32} {j q : Nat} (h : ∀ j, j < 10 → v j = v1 j ∧ u j = u1 j) (hj : j < 10) (hq : q < 10) : tw_ahd v u j q ↔ tw_ahd v1 u1 j q := by
  unfold tw_ahd
  rw [(h j hj).1, (h q hq).1, (h j hj).2, (h q hq).2]
theorem tw_rkd_cg {v u v1 u1 : Nat → Int32} {x : Int32} {q : Nat} (h : ∀ j, j < 10 → v j = v1 j ∧ u j = u1 j) (hq : q < 10) : tw_rkd v u x q ↔ tw_rkd v1 u1 x q := by
  unfold tw_rkd
  rw [tw_fo_cg 10 0 (nI 0) (fun j _ hj a => ?_)]
  unfold tw_gAh
  by_cases hp : tw_ahd v u j q
  · rw [if_pos hp, if_pos ((tw_ahd_cg h (by omega) hq).mp hp)]
  · rw [if_neg hp, if_neg (fun g => hp ((tw_ahd_cg h (by omega) hq).mpr g))]
def tw_cnt (w : Nat → Int32) (n r j : Nat) : Int32 := tw_fo (tw_gCC w (nI j) n) 0 r (nI 0)
set_option maxHeartbeats 4000000 in
set_option maxRecDepth 100000 in
theorem tw_e_ahead {j q : Nat} (hj : j < 10) (hq : q < 10) : tw_E L xs 0 29 [.ref 9, .int (nI j), .int (nI q)] σ (fun v σ1 => v = some (.int (tw_bl (tw_ahd (σ 11) (σ 12) j q))) ∧ σ = σ1) := by
  show tw_P L xs _ 29 0 [.ref 9, .int (nI j), .int (nI q)] [] σ _
  refine tw_sg 3 (i1 := 3) (ls1 := [.ref 9, .int (nI j), .int (nI q)]) (st1 := [.int (nI j), .ref 11]) (σ1 := σ) rfl ?_
  refine tw_al (k := 11) (j := j) (len := 10) rfl rfl rfl rfl (rfl) (by omega) (by decide) ?_
  refine tw_sg 3 (i1 := 7) (ls1 := [.ref 9, .int (nI j), .int (nI q)]) (st1 := [.int (nI q), .ref 11, .int (σ 11 j)]) (σ1 := σ) rfl ?_
  refine tw_al (k := 11) (j := q) (len := 10) rfl rfl rfl rfl (rfl) (by omega) (by decide) ?_
  refine tw_bi (c := .eq) rfl (fun h1 => ?_) (fun h1 => ?_)
  · rw [tw_ceq] at h1
    refine tw_sg 3 (i1 := 25) (ls1 := [.ref 9, .int (nI j), .int (nI q)]) (st1 := [.int (nI j), .ref 12]) (σ1 := σ) rfl ?_
    refine tw_al (k := 12) (j := j) (len := 10) rfl rfl rfl rfl (rfl) (by omega) (by decide) ?_
    refine tw_sg 3 (i1 := 29) (ls1 := [.ref 9, .int (nI j), .int (nI q)]) (st1 := [.int (nI q), .ref 12, .int (σ 12 j)]) (σ1 := σ) rfl ?_
    refine tw_al (k := 12) (j := q) (len := 10) rfl rfl rfl rfl (rfl) (by omega) (by decide) ?_
    refine tw_bi (c := .eq) rfl (fun h2 => ?_) (fun h2 => ?_)
    · rw [tw_ceq] at h2
      refine tw_sg 2 (i1 := 46) (ls1 := [.ref 9, .int (nI j), .int (nI q)]) (st1 := [.int (nI q), .int (nI j)]) (σ1 := σ) rfl ?_
      refine tw_bi (c := .ge) rfl (fun h3 => ?_) (fun h3 => ?_)
      · rw [tw_cge] at h3; have h3n := h3; rw [tw_nle (by omega) (by omega)] at h3n
        refine tw_sg 1 (i1 := 50) (ls1 := [.ref 9, .int (nI j), .int (nI q)]) (st1 := [.int (nI 0)]) (σ1 := σ) rfl ?_
        refine tw_ri rfl (rfl) ?_
        have k0 := h1
        have k1 := h2
        have k2 := (tw_not_lt.mpr h3)
        exact ⟨by rw [show nI 0 = tw_bl (tw_ahd (σ 11) (σ 12) j q) from (tw_blF (by unfold tw_ahd; (repeat first | rw [if_pos (by assumption)] | rw [if_neg (by assumption)]); first | assumption | omega)).symm], rfl⟩
      · rw [tw_cge'] at h3; have h3n := h3; rw [tw_nle (by omega) (by omega)] at h3n
        refine tw_sg 2 (i1 := 50) (ls1 := [.ref 9, .int (nI j), .int (nI q)]) (st1 := [.int (nI 1)]) (σ1 := σ) rfl ?_
        refine tw_ri rfl (rfl) ?_
        have k0 := h1
        have k1 := h2
        have k2 := (tw_not_le.mp h3)
        exact ⟨by rw [show nI 1 = tw_bl (tw_ahd (σ 11) (σ 12) j q) from (tw_blT (by unfold tw_ahd; (repeat first | rw [if_pos (by assumption)] | rw [if_neg (by assumption)]); first | assumption | omega)).symm], rfl⟩
    · rw [tw_ceq'] at h2
      refine tw_sg 3 (i1 := 34) (ls1 := [.ref 9, .int (nI j), .int (nI q)]) (st1 := [.int (nI j), .ref 12]) (σ1 := σ) rfl ?_
      refine tw_al (k := 12) (j := j) (len := 10) rfl rfl rfl rfl (rfl) (by omega) (by decide) ?_
      refine tw_sg 3 (i1 := 38) (ls1 := [.ref 9, .int (nI j), .int (nI q)]) (st1 := [.int (nI q), .ref 12, .int (σ 12 j)]) (σ1 := σ) rfl ?_
      refine tw_al (k := 12) (j := q) (len := 10) rfl rfl rfl rfl (rfl) (by omega) (by decide) ?_
      refine tw_bi (c := .ge) rfl (fun h4 => ?_) (fun h4 => ?_)
      · rw [tw_cge] at h4
        refine tw_sg 1 (i1 := 43) (ls1 := [.ref 9, .int (nI j), .int (nI q)]) (st1 := [.int (nI 0)]) (σ1 := σ) rfl ?_
        refine tw_ri rfl (rfl) ?_
        have k0 := h1
        have k1 := h2
        have k2 := (tw_not_lt.mpr h4)
        exact ⟨by rw [show nI 0 = tw_bl (tw_ahd (σ 11) (σ 12) j q) from (tw_blF (by unfold tw_ahd; (repeat first | rw [if_pos (by assumption)] | rw [if_neg (by assumption)]); first | assumption | omega)).symm], rfl⟩
      · rw [tw_cge'] at h4
        refine tw_sg 2 (i1 := 43) (ls1 := [.ref 9, .int (nI j), .int (nI q)]) (st1 := [.int (nI 1)]) (σ1 := σ) rfl ?_
        refine tw_ri rfl (rfl) ?_
        have k0 := h1
        have k1 := h2
        have k2 := (tw_not_le.mp h4)
        exact ⟨by rw [show nI 1 = tw_bl (tw_ahd (σ 11) (σ 12) j q) from (tw_blT (by unfold tw_ahd; (repeat first | rw [if_pos (by assumption)] | rw [if_neg (by assumption)]); first | assumption | omega)).symm], rfl⟩
  · rw [tw_ceq'] at h1
    refine tw_sg 3 (i1 := 12) (ls1 := [.ref 9, .int (nI j), .int (nI q)]) (st1 := [.int (nI j), .ref 11]) (σ1 := σ) rfl ?_
    refine tw_al (k := 11) (j := j) (len := 10) rfl rfl rfl rfl (rfl) (by omega) (by decide) ?_
    refine tw_sg 3 (i1 := 16) (ls1 := [.ref 9, .int (nI j), .int (nI q)]) (st1 := [.int (nI q), .ref 11, .int (σ 11 j)]) (σ1 := σ) rfl ?_
    refine tw_al (k := 11) (j := q) (len := 10) rfl rfl rfl rfl (rfl) (by omega) (by decide) ?_
    refine tw_bi (c := .le) rfl (fun h5 => ?_) (fun h5 => ?_)
    · rw [tw_cle] at h5
      refine tw_sg 1 (i1 := 21) (ls1 := [.ref 9, .int (nI j), .int (nI q)]) (st1 := [.int (nI 0)]) (σ1 := σ) rfl ?_
      refine tw_ri rfl (rfl) ?_
      have k0 := h1
      have k1 := (tw_not_lt.mpr h5)
      exact ⟨by rw [show nI 0 = tw_bl (tw_ahd (σ 11) (σ 12) j q) from (tw_blF (by unfold tw_ahd; (repeat first | rw [if_pos (by assumption)] | rw [if_neg (by assumption)]); first | assumption | omega)).symm], rfl⟩
    · rw [tw_cle'] at h5
      refine tw_sg 2 (i1 := 21) (ls1 := [.ref 9, .int (nI j), .int (nI q)]) (st1 := [.int (nI 1)]) (σ1 := σ) rfl ?_
      refine tw_ri rfl (rfl) ?_
      have k0 := h1
      have k1 := (tw_not_le.mp h5)
      exact ⟨by rw [show nI 1 = tw_bl (tw_ahd (σ 11) (σ 12) j q) from (tw_blT (by unfold tw_ahd; (repeat first | rw [if_pos (by assumption)] | rw [if_neg (by assumption)]); first | assumption | omega)).symm], rfl⟩
set_option maxHeartbeats 4000000 in
set_option maxRecDepth 100000 in
theorem tw_l_rank {L : Nat} {xs : Nat → Int32} {Q : Option Value → tw_Mem → Prop} {σ : tw_Mem} {q : Nat} (hq : q < 10) : ∀ (f j : Nat) (a : Int32), j + f = 10 → tw_P L xs 1 28 15 [.ref 9, .int (nI q), .int (tw_fo (tw_gAh (σ 11) (σ 12) q) j f a), .int (nI 10)] [] σ Q → tw_P L xs 1 28 4 [.ref 9, .int (nI q), .int a, .int (nI j)] [] σ Q := by
  intro f
  induction f with
  | zero =>
    intro j a  hf hQ
    have hf : 10 = j := Eq.symm hf
    subst hf
    refine tw_sg 2 (i1 := 6) (ls1 := [.ref 9, .int (nI q), .int a, .int (nI 10)]) (st1 := [.int (nI 10), .int (nI 10)]) (σ1 := σ) rfl ?_
    refine tw_biT (c := .ge) rfl (by rw [tw_cge, tw_nle (by omega) (by omega)] <;> omega) ?_
    show tw_P L xs _ 28 15 [.ref 9, .int (nI q), .int a, .int (nI 10)] [] σ _
    exact hQ
  | succ f ih =>
    intro j a  hf hQ
    refine tw_sg 2 (i1 := 6) (ls1 := [.ref 9, .int (nI q), .int a, .int (nI j)]) (st1 := [.int (nI 10), .int (nI j)]) (σ1 := σ) rfl ?_
    refine tw_biF (c := .ge) rfl (by rw [tw_cge', tw_nle (by omega) (by omega)] <;> omega) ?_
    show tw_P L xs _ 28 7 [.ref 9, .int (nI q), .int a, .int (nI j)] [] σ _
    refine tw_sg 3 (i1 := 10) (ls1 := [.ref 9, .int (nI q), .int a, .int (nI j)]) (st1 := [.int (nI q), .int (nI j), .ref 9]) (σ1 := σ) rfl ?_
    refine tw_cl1 rfl (rfl) (by decide) (tw_e_ahead (by omega) hq) ?_
    rintro _ _ ⟨rfl, rfl⟩
    show tw_P L xs _ 28 11 [.ref 9, .int (nI q), .int a, .int (nI j)] [.int (tw_bl (tw_ahd (σ 11) (σ 12) j q))] σ _
    refine tw_bz (c := .eq) rfl (fun h1 => ?_) (fun h1 => ?_)
    · rw [tw_ceq] at h1
      refine tw_sgn 2 (i1 := 4) (ls0 := [.ref 9, .int (nI q), .int a, .int (nI j + nI 1)]) (st0 := []) (σ0 := σ) (ls1 := [.ref 9, .int (nI q), .int a, .int (nI (j + 1))]) (st1 := []) (σ1 := σ) rfl (by simp only [tw_nadd, tw_nmul]) (rfl) (rfl) ?_
      have e : (tw_gAh (σ 11) (σ 12) q) j a = a := by
        unfold tw_gAh
        first | rw [if_neg (tw_bl0 (by assumption))] | rw [if_pos (tw_bl1 (by assumption))]
      rw [tw_fo, e] at hQ
      exact ih (j + 1) _ (by omega) hQ
    · rw [tw_ceq'] at h1
      refine tw_sgn 3 (i1 := 4) (ls0 := [.ref 9, .int (nI q), .int (a + nI 1), .int (nI j + nI 1)]) (st0 := []) (σ0 := σ) (ls1 := [.ref 9, .int (nI q), .int (a + nI 1), .int (nI (j + 1))]) (st1 := []) (σ1 := σ) rfl (by simp only [tw_nadd, tw_nmul]) (rfl) (rfl) ?_
      have e : (tw_gAh (σ 11) (σ 12) q) j a = a + nI 1 := by
        unfold tw_gAh
        first | rw [if_neg (tw_bl0 (by assumption))] | rw [if_pos (tw_bl1 (by assumption))]
      rw [tw_fo, e] at hQ
      exact ih (j + 1) _ (by omega) hQ
set_option maxHeartbeats 4000000 in
set_option maxRecDepth 100000 in
theorem tw_e_rank {q : Nat} (hq : q < 10) : tw_E L xs 1 28 [.ref 9, .int (nI q)] σ (fun v σ1 => v = some (.int (tw_fo (tw_gAh (σ 11) (σ 12) q) 0 10 (nI 0))) ∧ σ = σ1) := by
  show tw_P L xs _ 28 0 [.ref 9, .int (nI q), tw_U, tw_U] [] σ _
  refine tw_sg 4 (i1 := 4) (ls1 := [.ref 9, .int (nI q), .int (nI 0), .int (nI 0)]) (st1 := []) (σ1 := σ) rfl ?_
  refine tw_l_rank hq 10 0 _ (by omega) ?_
  refine tw_sg 1 (i1 := 16) (ls1 := _) (st1 := [.int (tw_fo (tw_gAh (σ 11) (σ 12) q) 0 10 (nI 0))]) (σ1 := σ) rfl ?_
  exact tw_ri rfl rfl ⟨rfl, rfl⟩
set_option maxHeartbeats 4000000 in
set_option maxRecDepth 100000 in
theorem tw_l_find {L : Nat} {xs : Nat → Int32} {Q : Option Value → tw_Mem → Prop} {σ : tw_Mem} {x : Int32} : ∀ (f q : Nat), q + f = 10 → Q (some (.int (tw_fd (tw_rkd (σ 11) (σ 12) x) q f (-1)))) σ → tw_P L xs 2 27 25 [.ref 9, .int x, .int (nI q)] [] σ Q := by
  intro f
  induction f with
  | zero =>
    intro q  hf hQ
    have hf : 10 = q := Eq.symm hf
    subst hf
    refine tw_sg 2 (i1 := 27) (ls1 := [.ref 9, .int x, .int (nI 10)]) (st1 := [.int (nI 10), .int (nI 10)]) (σ1 := σ) rfl ?_
    refine tw_biT (c := .ge) rfl (by rw [tw_cge, tw_nle (by omega) (by omega)] <;> omega) ?_
    show tw_P L xs _ 27 37 [.ref 9, .int x, .int (nI 10)] [] σ _
    refine tw_sg 1 (i1 := 38) (ls1 := [.ref 9, .int x, .int (nI 10)]) (st1 := [.int (-1)]) (σ1 := σ) rfl ?_
    refine tw_ri rfl (rfl) ?_
    exact hQ
  | succ f ih =>
    intro q  hf hQ
    refine tw_sg 2 (i1 := 27) (ls1 := [.ref 9, .int x, .int (nI q)]) (st1 := [.int (nI 10), .int (nI q)]) (σ1 := σ) rfl ?_
    refine tw_biF (c := .ge) rfl (by rw [tw_cge', tw_nle (by omega) (by omega)] <;> omega) ?_
    show tw_P L xs _ 27 28 [.ref 9, .int x, .int (nI q)] [] σ _
    refine tw_sg 2 (i1 := 30) (ls1 := [.ref 9, .int x, .int (nI q)]) (st1 := [.int (nI q), .ref 9]) (σ1 := σ) rfl ?_
    refine tw_cl1 rfl (rfl) (by decide) (tw_e_rank (by omega)) ?_
    rintro _ _ ⟨rfl, rfl⟩
    show tw_P L xs _ 27 31 [.ref 9, .int x, .int (nI q)] [.int (tw_fo (tw_gAh (σ 11) (σ 12) q) 0 10 (nI 0))] σ _
    refine tw_sg 1 (i1 := 32) (ls1 := [.ref 9, .int x, .int (nI q)]) (st1 := [.int x, .int (tw_fo (tw_gAh (σ 11) (σ 12) q) 0 10 (nI 0))]) (σ1 := σ) rfl ?_
    refine tw_bi (c := .ne) rfl (fun h1 => ?_) (fun h1 => ?_)
    · rw [tw_cne] at h1
      refine tw_sgn 2 (i1 := 25) (ls0 := [.ref 9, .int x, .int (nI q + nI 1)]) (st0 := []) (σ0 := σ) (ls1 := [.ref 9, .int x, .int (nI (q + 1))]) (st1 := []) (σ1 := σ) rfl (by simp only [tw_nadd, tw_nmul]) (rfl) (rfl) ?_
      rw [tw_fdF (by first | exact tw_bl0 h1 | exact h1)] at hQ
      exact ih (q + 1) (by omega) hQ
    · rw [tw_cne'] at h1
      refine tw_sg 1 (i1 := 34) (ls1 := [.ref 9, .int x, .int (nI q)]) (st1 := [.int (nI q)]) (σ1 := σ) rfl ?_
      refine tw_ri rfl (rfl) ?_
      rw [tw_fdT (by first | exact tw_bl1 h1 | exact h1)] at hQ
      exact hQ
set_option maxHeartbeats 4000000 in
set_option maxRecDepth 100000 in
theorem tw_l_fill {L : Nat} {xs : Nat → Int32} {Q : Option Value → tw_Mem → Prop} {σ0 : tw_Mem} {x : Int32} {r n : Nat} (hr9 : σ0 9 3 = nI r) (hw9 : σ0 9 4 = nI n) (h50 : r ≤ 50) (h10 : n ≤ 10) {w p : Nat → Int32} (hF : tw_isF σ0 0 r n w) (hG : tw_isF σ0 1 r n p) (hR : ∀ σ : tw_Mem, (∀ k j, ¬ k = 11 → ¬ k = 12 → σ k j = σ0 k j) → (∀ j, j < 10 → σ 11 j = tw_cnt w n r j ∧ σ 12 j = tw_cnt p n r j) → tw_P L xs 4 27 23 [.ref 9, .int x, .int (nI 10)] [] σ Q) : ∀ (f : Nat) (q : Nat) (σ : tw_Mem), q + f = 10 → (∀ k j, ¬ k = 11 → ¬ k = 12 → σ k j = σ0 k j) → (∀ j, j < q → σ 11 j = tw_cnt w n r j ∧ σ 12 j = tw_cnt p n r j) → tw_P L xs 4 27 2 [.ref 9, .int x, .int (nI q)] [] σ Q := by
  intro f
  induction f with
  | zero =>
    intro q σ hf hk hQ
    refine tw_sg 2 (i1 := 4) (ls1 := [.ref 9, .int x, .int (nI q)]) (st1 := [.int (nI 10), .int (nI q)]) (σ1 := σ) rfl ?_
    refine tw_biT (c := .ge) rfl (by rw [tw_cge, tw_nle (by omega) (by omega)] <;> omega) ?_
    show tw_P L xs _ 27 23 [.ref 9, .int x, .int (nI q)] [] σ _
    have hq : q = 10 := hf
    subst hq
    exact hR σ hk hQ
  | succ f ih =>
    intro q σ hf hk hQ
    refine tw_sg 2 (i1 := 4) (ls1 := [.ref 9, .int x, .int (nI q)]) (st1 := [.int (nI 10), .int (nI q)]) (σ1 := σ) rfl ?_
    refine tw_biF (c := .ge) rfl (by rw [tw_cge', tw_nle (by omega) (by omega)] <;> omega) ?_
    show tw_P L xs _ 27 5 [.ref 9, .int x, .int (nI q)] [] σ _
    refine tw_sg 6 (i1 := 11) (ls1 := [.ref 9, .int x, .int (nI q)]) (st1 := [.int (nI q), .int (nI 0), .ref 9, .int (nI q), .ref 11]) (σ1 := σ) rfl ?_
    refine tw_cl1 rfl (rfl) (by decide) (tw_e_cnt (σ := σ) (w := w) (q := 0) (n := n) (r := r) (by rw [hk _ _ (by omega) (by omega)]; exact hr9) (by rw [hk _ _ (by omega) (by omega)]; exact hw9) h50 h10 (by decide) (fun i hi c hc => by rw [hk 10 _ (by omega) (by omega)]; exact hF i hi c hc)) ?_
    rintro _ _ ⟨rfl, rfl⟩
    show tw_P L xs _ 27 12 [.ref 9, .int x, .int (nI q)] [.int (tw_cnt w n r q), .int (nI q), .ref 11] σ _
    refine tw_as (k := 11) (j := q) (len := 10) rfl rfl rfl (rfl) (by omega) (by decide) ?_
    refine tw_sg 6 (i1 := 19) (ls1 := [.ref 9, .int x, .int (nI q)]) (st1 := [.int (nI q), .int (nI 1), .ref 9, .int (nI q), .ref 12]) (σ1 := (tw_upd σ 11 q (tw_cnt w n r q))) rfl ?_
    refine tw_cl1 rfl (rfl) (by decide) (tw_e_cnt (σ := (tw_upd σ 11 q (tw_cnt w n r q))) (w := p) (q := 1) (n := n) (r := r) (by rw [tw_upd_off (by omega), hk _ _ (by omega) (by omega)]; exact hr9) (by rw [tw_upd_off (by omega), hk _ _ (by omega) (by omega)]; exact hw9) h50 h10 (by decide) (fun i hi c hc => by rw [tw_upd_off (by omega), hk 10 _ (by omega) (by omega)]; exact hG i hi c hc)) ?_
    rintro _ _ ⟨rfl, rfl⟩
    show tw_P L xs _ 27 20 [.ref 9, .int x, .int (nI q)] [.int (tw_cnt p n r q), .int (nI q), .ref 12] (tw_upd σ 11 q (tw_cnt w n r q)) _
    refine tw_as (k := 12) (j := q) (len := 10) rfl rfl rfl (rfl) (by omega) (by decide) ?_
    refine tw_sgn 2 (i1 := 2) (ls0 := [.ref 9, .int x, .int (nI q + nI 1)]) (st0 := []) (σ0 := (tw_upd (tw_upd σ 11 q (tw_cnt w n r q)) 12 q (tw_cnt p n r q))) (ls1 := [.ref 9, .int x, .int (nI (q + 1))]) (st1 := []) (σ1 := (tw_upd (tw_upd σ 11 q (tw_cnt w n r q)) 12 q (tw_cnt p n r q))) rfl (by simp only [tw_nadd, tw_nmul]) (rfl) (rfl) ?_
    refine ih (q + 1) _ (by omega) (fun k j h1 h2 => by rw [tw_upd_off (by omega), tw_upd_off (by omega)]; exact hk k j h1 h2) (fun j hj => ?_)
    by_cases hz : j = q
    · subst hz
      exact ⟨by rw [tw_upd_off (by omega)]; exact tw_upd_at, tw_upd_at⟩
    · rw [tw_upd_off (by omega), tw_upd_off (by omega), tw_upd_off (by omega), tw_upd_off (by omega)]; exact hQ j (by omega)
set_option maxHeartbeats 4000000 in
set_option maxRecDepth 100000 in
theorem tw_e_mahead {r n : Nat} (hn89 : σ 89 0 = nI n) (hr90 : σ 90 0 = nI r) (h50 : r ≤ 50) (h10 : n ≤ 10) {j q : Nat} (hj : j < 10) (hq : q < 10) : tw_E L xs 1 243 [.ref 88, .int (nI j), .int (nI q)] σ (fun v σ1 => v = some (.int (tw_bl (tw_ahd (tw_cnt (σ 95) n r) (tw_cnt (σ 96) n r) j q))) ∧ σ = σ1) := by
  show tw_P L xs _ 243 0 [.ref 88, .int (nI j), .int (nI q), tw_U, tw_U] [] σ _
  refine tw_sg 4 (i1 := 4) (ls1 := [.ref 88, .int (nI j), .int (nI q), tw_U, tw_U]) (st1 := [.ref 95, .int (nI j), .ref 88]) (σ1 := σ) rfl ?_
  refine tw_cl1 rfl (rfl) (by decide) (tw_e_mcnt_95 hn89 hr90 h50 h10) ?_
  rintro _ _ ⟨rfl, rfl⟩
  show tw_P L xs _ 243 5 [.ref 88, .int (nI j), .int (nI q), tw_U, tw_U] [.int (tw_cnt (σ 95) n r j)] σ _
  refine tw_sg 5 (i1 := 10) (ls1 := [.ref 88, .int (nI j), .int (nI q), .int (tw_cnt (σ 95) n r j), tw_U]) (st1 := [.ref 95, .int (nI q), .ref 88]) (σ1 := σ) rfl ?_
  refine tw_cl1 rfl (rfl) (by decide) (tw_e_mcnt_95 hn89 hr90 h50 h10) ?_
  rintro _ _ ⟨rfl, rfl⟩
  show tw_P L xs _ 243 11 [.ref 88, .int (nI j), .int (nI q), .int (tw_cnt (σ 95) n r j), tw_U] [.int (tw_cnt (σ 95) n r q)] σ _
  refine tw_sg 3 (i1 := 14) (ls1 := [.ref 88, .int (nI j), .int (nI q), .int (tw_cnt (σ 95) n r j), .int (tw_cnt (σ 95) n r q)]) (st1 := [.int (tw_cnt (σ 95) n r q), .int (tw_cnt (σ 95) n r j)]) (σ1 := σ) rfl ?_
  refine tw_bi (c := .eq) rfl (fun h1 => ?_) (fun h1 => ?_)
  · rw [tw_ceq] at h1
    refine tw_sg 4 (i1 := 26) (ls1 := [.ref 88, .int (nI j), .int (nI q), .int (tw_cnt (σ 95) n r j), .int (tw_cnt (σ 95) n r q)]) (st1 := [.ref 96, .int (nI j), .ref 88]) (σ1 := σ) rfl ?_
    refine tw_cl1 rfl (rfl) (by decide) (tw_e_mcnt_96 hn89 hr90 h50 h10) ?_
    rintro _ _ ⟨rfl, rfl⟩
    show tw_P L xs _ 243 27 [.ref 88, .int (nI j), .int (nI q), .int (tw_cnt (σ 95) n r j), .int (tw_cnt (σ 95) n r q)] [.int (tw_cnt (σ 96) n r j)] σ _
    refine tw_sg 5 (i1 := 32) (ls1 := [.ref 88, .int (nI j), .int (nI q), .int (tw_cnt (σ 96) n r j), .int (tw_cnt (σ 95) n r q)]) (st1 := [.ref 96, .int (nI q), .ref 88]) (σ1 := σ) rfl ?_
    refine tw_cl1 rfl (rfl) (by decide) (tw_e_mcnt_96 hn89 hr90 h50 h10) ?_
    rintro _ _ ⟨rfl, rfl⟩
    show tw_P L xs _ 243 33 [.ref 88, .int (nI j), .int (nI q), .int (tw_cnt (σ 96) n r j), .int (tw_cnt (σ 95) n r q)] [.int (tw_cnt (σ 96) n r q)] σ _
    refine tw_sg 3 (i1 := 36) (ls1 := [.ref 88, .int (nI j), .int (nI q), .int (tw_cnt (σ 96) n r j), .int (tw_cnt (σ 96) n r q)]) (st1 := [.int (tw_cnt (σ 96) n r q), .int (tw_cnt (σ 96) n r j)]) (σ1 := σ) rfl ?_
    refine tw_bi (c := .eq) rfl (fun h2 => ?_) (fun h2 => ?_)
    · rw [tw_ceq] at h2
      refine tw_sg 2 (i1 := 46) (ls1 := [.ref 88, .int (nI j), .int (nI q), .int (tw_cnt (σ 96) n r j), .int (tw_cnt (σ 96) n r q)]) (st1 := [.int (nI q), .int (nI j)]) (σ1 := σ) rfl ?_
      refine tw_bi (c := .ge) rfl (fun h3 => ?_) (fun h3 => ?_)
      · rw [tw_cge] at h3; have h3n := h3; rw [tw_nle (by omega) (by omega)] at h3n
        refine tw_sg 1 (i1 := 50) (ls1 := [.ref 88, .int (nI j), .int (nI q), .int (tw_cnt (σ 96) n r j), .int (tw_cnt (σ 96) n r q)]) (st1 := [.int (nI 0)]) (σ1 := σ) rfl ?_
        refine tw_ri rfl (rfl) ?_
        have k0 := h1
        have k1 := h2
        have k2 := (tw_not_lt.mpr h3)
        exact ⟨by rw [show nI 0 = tw_bl (tw_ahd (tw_cnt (σ 95) n r) (tw_cnt (σ 96) n r) j q) from (tw_blF (by unfold tw_ahd; (repeat first | rw [if_pos (by assumption)] | rw [if_neg (by assumption)]); first | assumption | omega)).symm], rfl⟩
      · rw [tw_cge'] at h3; have h3n := h3; rw [tw_nle (by omega) (by omega)] at h3n
        refine tw_sg 2 (i1 := 50) (ls1 := [.ref 88, .int (nI j), .int (nI q), .int (tw_cnt (σ 96) n r j), .int (tw_cnt (σ 96) n r q)]) (st1 := [.int (nI 1)]) (σ1 := σ) rfl ?_
        refine tw_ri rfl (rfl) ?_
        have k0 := h1
        have k1 := h2
        have k2 := (tw_not_le.mp h3)
        exact ⟨by rw [show nI 1 = tw_bl (tw_ahd (tw_cnt (σ 95) n r) (tw_cnt (σ 96) n r) j q) from (tw_blT (by unfold tw_ahd; (repeat first | rw [if_pos (by assumption)] | rw [if_neg (by assumption)]); first | assumption | omega)).symm], rfl⟩
    · rw [tw_ceq'] at h2
      refine tw_sg 2 (i1 := 39) (ls1 := [.ref 88, .int (nI j), .int (nI q), .int (tw_cnt (σ 96) n r j), .int (tw_cnt (σ 96) n r q)]) (st1 := [.int (tw_cnt (σ 96) n r q), .int (tw_cnt (σ 96) n r j)]) (σ1 := σ) rfl ?_
      refine tw_bi (c := .ge) rfl (fun h4 => ?_) (fun h4 => ?_)
      · rw [tw_cge] at h4
        refine tw_sg 2 (i1 := 50) (ls1 := [.ref 88, .int (nI j), .int (nI q), .int (tw_cnt (σ 96) n r j), .int (tw_cnt (σ 96) n r q)]) (st1 := [.int (nI 0)]) (σ1 := σ) rfl ?_
        refine tw_ri rfl (rfl) ?_
        have k0 := h1
        have k1 := h2
        have k2 := (tw_not_lt.mpr h4)
        exact ⟨by rw [show nI 0 = tw_bl (tw_ahd (tw_cnt (σ 95) n r) (tw_cnt (σ 96) n r) j q) from (tw_blF (by unfold tw_ahd; (repeat first | rw [if_pos (by assumption)] | rw [if_neg (by assumption)]); first | assumption | omega)).symm], rfl⟩
      · rw [tw_cge'] at h4
        refine tw_sg 2 (i1 := 50) (ls1 := [.ref 88, .int (nI j), .int (nI q), .int (tw_cnt (σ 96) n r j), .int (tw_cnt (σ 96) n r q)]) (st1 := [.int (nI 1)]) (σ1 := σ) rfl ?_
        refine tw_ri rfl (rfl) ?_
        have k0 := h1
        have k1 := h2
        have k2 := (tw_not_le.mp h4)
        exact ⟨by rw [show nI 1 = tw_bl (tw_ahd (tw_cnt (σ 95) n r) (tw_cnt (σ 96) n r) j q) from (tw_blT (by unfold tw_ahd; (repeat first | rw [if_pos (by assumption)] | rw [if_neg (by assumption)]); first | assumption | omega)).symm], rfl⟩
  · rw [tw_ceq'] at h1
    refine tw_sg 2 (i1 := 17) (ls1 := [.ref 88, .int (nI j), .int (nI q), .int (tw_cnt (σ 95) n r j), .int (tw_cnt (σ 95) n r q)]) (st1 := [.int (tw_cnt (σ 95) n r q), .int (tw_cnt (σ 95) n r j)]) (σ1 := σ) rfl ?_
    refine tw_bi (c := .le) rfl (fun h5 => ?_) (fun h5 => ?_)
    · rw [tw_cle] at h5
      refine tw_sg 1 (i1 := 21) (ls1 := [.ref 88, .int (nI j), .int (nI q), .int (tw_cnt (σ 95) n r j), .int (tw_cnt (σ 95) n r q)]) (st1 := [.int (nI 0)]) (σ1 := σ) rfl ?_
      refine tw_ri rfl (rfl) ?_
      have k0 := h1
      have k1 := (tw_not_lt.mpr h5)
      exact ⟨by rw [show nI 0 = tw_bl (tw_ahd (tw_cnt (σ 95) n r) (tw_cnt (σ 96) n r) j q) from (tw_blF (by unfold tw_ahd; (repeat first | rw [if_pos (by assumption)] | rw [if_neg (by assumption)]); first | assumption | omega)).symm], rfl⟩
    · rw [tw_cle'] at h5
      refine tw_sg 2 (i1 := 21) (ls1 := [.ref 88, .int (nI j), .int (nI q), .int (tw_cnt (σ 95) n r j), .int (tw_cnt (σ 95) n r q)]) (st1 := [.int (nI 1)]) (σ1 := σ) rfl ?_
      refine tw_ri rfl (rfl) ?_
      have k0 := h1
      have k1 := (tw_not_le.mp h5)
      exact ⟨by rw [show nI 1 = tw_bl (tw_ahd (tw_cnt (σ 95) n r) (tw_cnt (σ 96) n r) j q) from (tw_blT (by unfold tw_ahd; (repeat first | rw [if_pos (by assumption)] | rw [if_neg (by assumption)]); first | assumption | omega)).symm], rfl⟩
set_option maxHeartbeats 4000000 in
set_option maxRecDepth 100000 in
theorem tw_l_mrank {L : Nat} {xs : Nat → Int32} {Q : Option Value → tw_Mem → Prop} {σ : tw_Mem} {r n : Nat} (hn89 : σ 89 0 = nI n) (hr90 : σ 90 0 = nI r) (h50 : r ≤ 50) (h10 : n ≤ 10) {x : Int32} {q : Nat} (hq : q < 10) : ∀ (f j : Nat) (a : Int32), j + f = 10 → tw_P L xs 2 244 23 [.ref 88, .int x, .int (nI q), .int (tw_fo (tw_gAh (tw_cnt (σ 95) n r) (tw_cnt (σ 96) n r) q) j f a), .int (nI 10)] [] σ Q → tw_P L xs 2 244 9 [.ref 88, .int x, .int (nI q), .int a, .int (nI j)] [] σ Q := by
  intro f
  induction f with
  | zero =>
    intro j a  hf hQ
    have hf : 10 = j := Eq.symm hf
    subst hf
    refine tw_sg 2 (i1 := 11) (ls1 := [.ref 88, .int x, .int (nI q), .int a, .int (nI 10)]) (st1 := [.int (nI 10), .int (nI 10)]) (σ1 := σ) rfl ?_
    refine tw_biT (c := .ge) rfl (by rw [tw_cge, tw_nle (by omega) (by omega)] <;> omega) ?_
    show tw_P L xs _ 244 23 [.ref 88, .int x, .int (nI q), .int a, .int (nI 10)] [] σ _
    exact hQ
  | succ f ih =>
    intro j a  hf hQ
    refine tw_sg 2 (i1 := 11) (ls1 := [.ref 88, .int x, .int (nI q), .int a, .int (nI j)]) (st1 := [.int (nI 10), .int (nI j)]) (σ1 := σ) rfl ?_
    refine tw_biF (c := .ge) rfl (by rw [tw_cge', tw_nle (by omega) (by omega)] <;> omega) ?_
    show tw_P L xs _ 244 12 [.ref 88, .int x, .int (nI q), .int a, .int (nI j)] [] σ _
    refine tw_sg 2 (i1 := 14) (ls1 := [.ref 88, .int x, .int (nI q), .int a, .int (nI j)]) (st1 := [.int (nI q), .int (nI j)]) (σ1 := σ) rfl ?_
    refine tw_bi (c := .eq) rfl (fun h1 => ?_) (fun h1 => ?_)
    · rw [tw_ceq] at h1; have h1n := h1; rw [tw_neq (by omega) (by omega)] at h1n
      refine tw_sgn 2 (i1 := 9) (ls0 := [.ref 88, .int x, .int (nI q), .int a, .int (nI j + nI 1)]) (st0 := []) (σ0 := σ) (ls1 := [.ref 88, .int x, .int (nI q), .int a, .int (nI (j + 1))]) (st1 := []) (σ1 := σ) rfl (by simp only [tw_nadd, tw_nmul]) (rfl) (rfl) ?_
      have e : (tw_gAh (tw_cnt (σ 95) n r) (tw_cnt (σ 96) n r) q) j a = a := by
        unfold tw_gAh
        first | rw [if_neg (tw_bl0 (by assumption))] | rw [if_pos (tw_bl1 (by assumption))] | (rw [if_neg (show ¬ tw_ahd (tw_cnt (σ 95) n r) (tw_cnt (σ 96) n r) j q from (show j = q by assumption) ▸ tw_ahd_irr)])
      rw [tw_fo, e] at hQ
      exact ih (j + 1) _ (by omega) hQ
    · rw [tw_ceq'] at h1; have h1n := h1; rw [tw_neq (by omega) (by omega)] at h1n
      refine tw_sg 3 (i1 := 18) (ls1 := [.ref 88, .int x, .int (nI q), .int a, .int (nI j)]) (st1 := [.int (nI q), .int (nI j), .ref 88]) (σ1 := σ) rfl ?_
      refine tw_cl1 rfl (rfl) (by decide) (tw_e_mahead hn89 hr90 h50 h10 (by omega) hq) ?_
      rintro _ _ ⟨rfl, rfl⟩
      show tw_P L xs _ 244 19 [.ref 88, .int x, .int (nI q), .int a, .int (nI j)] [.int (tw_bl (tw_ahd (tw_cnt (σ 95) n r) (tw_cnt (σ 96) n r) j q))] σ _
      refine tw_bz (c := .eq) rfl (fun h2 => ?_) (fun h2 => ?_)
      · rw [tw_ceq] at h2
        refine tw_sgn 2 (i1 := 9) (ls0 := [.ref 88, .int x, .int (nI q), .int a, .int (nI j + nI 1)]) (st0 := []) (σ0 := σ) (ls1 := [.ref 88, .int x, .int (nI q), .int a, .int (nI (j + 1))]) (st1 := []) (σ1 := σ) rfl (by simp only [tw_nadd, tw_nmul]) (rfl) (rfl) ?_
        have e : (tw_gAh (tw_cnt (σ 95) n r) (tw_cnt (σ 96) n r) q) j a = a := by
          unfold tw_gAh
          first | rw [if_neg (tw_bl0 (by assumption))] | rw [if_pos (tw_bl1 (by assumption))] | (rw [if_neg (show ¬ tw_ahd (tw_cnt (σ 95) n r) (tw_cnt (σ 96) n r) j q from (show j = q by assumption) ▸ tw_ahd_irr)])
        rw [tw_fo, e] at hQ
        exact ih (j + 1) _ (by omega) hQ
      · rw [tw_ceq'] at h2
        refine tw_sgn 3 (i1 := 9) (ls0 := [.ref 88, .int x, .int (nI q), .int (a + nI 1), .int (nI j + nI 1)]) (st0 := []) (σ0 := σ) (ls1 := [.ref 88, .int x, .int (nI q), .int (a + nI 1), .int (nI (j + 1))]) (st1 := []) (σ1 := σ) rfl (by simp only [tw_nadd, tw_nmul]) (rfl) (rfl) ?_
        have e : (tw_gAh (tw_cnt (σ 95) n r) (tw_cnt (σ 96) n r) q) j a = a + nI 1 := by
          unfold tw_gAh
          first | rw [if_neg (tw_bl0 (by assumption))] | rw [if_pos (tw_bl1 (by assumption))] | (rw [if_neg (show ¬ tw_ahd (tw_cnt (σ 95) n r) (tw_cnt (σ 96) n r) j q from (show j = q by assumption) ▸ tw_ahd_irr)])
        rw [tw_fo, e] at hQ
        exact ih (j + 1) _ (by omega) hQ
set_option maxHeartbeats 4000000 in
set_option maxRecDepth 100000 in
theorem tw_l_mfind {L : Nat} {xs : Nat → Int32} {Q : Option Value → tw_Mem → Prop} {σ : tw_Mem} {r n : Nat} (hn89 : σ 89 0 = nI n) (hr90 : σ 90 0 = nI r) (h50 : r ≤ 50) (h10 : n ≤ 10) {x : Int32} : ∀ (f q : Nat) (u u1 : Value), q + f = 10 → Q (some (.int (tw_fd (tw_rkd (tw_cnt (σ 95) n r) (tw_cnt (σ 96) n r) x) q f (-1)))) σ → tw_P L xs 2 244 2 [.ref 88, .int x, .int (nI q), u, u1] [] σ Q := by
  intro f
  induction f with
  | zero =>
    intro q u u1 hf hQ
    have hf : 10 = q := Eq.symm hf
    subst hf
    refine tw_sg 2 (i1 := 4) (ls1 := [.ref 88, .int x, .int (nI 10), u, u1]) (st1 := [.int (nI 10), .int (nI 10)]) (σ1 := σ) rfl ?_
    refine tw_biT (c := .ge) rfl (by rw [tw_cge, tw_nle (by omega) (by omega)] <;> omega) ?_
    show tw_P L xs _ 244 30 [.ref 88, .int x, .int (nI 10), u, u1] [] σ _
    refine tw_sg 1 (i1 := 31) (ls1 := [.ref 88, .int x, .int (nI 10), u, u1]) (st1 := [.int (-1)]) (σ1 := σ) rfl ?_
    refine tw_ri rfl (rfl) ?_
    exact hQ
  | succ f ih =>
    intro q u u1 hf hQ
    refine tw_sg 2 (i1 := 4) (ls1 := [.ref 88, .int x, .int (nI q), u, u1]) (st1 := [.int (nI 10), .int (nI q)]) (σ1 := σ) rfl ?_
    refine tw_biF (c := .ge) rfl (by rw [tw_cge', tw_nle (by omega) (by omega)] <;> omega) ?_
    show tw_P L xs _ 244 5 [.ref 88, .int x, .int (nI q), u, u1] [] σ _
    refine tw_sg 4 (i1 := 9) (ls1 := [.ref 88, .int x, .int (nI q), .int (nI 0), .int (nI 0)]) (st1 := []) (σ1 := σ) rfl ?_
    refine tw_l_mrank hn89 hr90 h50 h10 (by omega) 10 0 _ (by omega) ?_
    show tw_P L xs _ 244 23 [.ref 88, .int x, .int (nI q), .int (tw_fo (tw_gAh (tw_cnt (σ 95) n r) (tw_cnt (σ 96) n r) q) 0 10 (nI 0)), .int (nI 10)] [] σ _
    refine tw_sg 2 (i1 := 25) (ls1 := [.ref 88, .int x, .int (nI q), .int (tw_fo (tw_gAh (tw_cnt (σ 95) n r) (tw_cnt (σ 96) n r) q) 0 10 (nI 0)), .int (nI 10)]) (st1 := [.int x, .int (tw_fo (tw_gAh (tw_cnt (σ 95) n r) (tw_cnt (σ 96) n r) q) 0 10 (nI 0))]) (σ1 := σ) rfl ?_
    refine tw_bi (c := .ne) rfl (fun h21 => ?_) (fun h21 => ?_)
    · rw [tw_cne] at h21
      refine tw_sgn 2 (i1 := 2) (ls0 := [.ref 88, .int x, .int (nI q + nI 1), .int (tw_fo (tw_gAh (tw_cnt (σ 95) n r) (tw_cnt (σ 96) n r) q) 0 10 (nI 0)), .int (nI 10)]) (st0 := []) (σ0 := σ) (ls1 := [.ref 88, .int x, .int (nI (q + 1)), .int (tw_fo (tw_gAh (tw_cnt (σ 95) n r) (tw_cnt (σ 96) n r) q) 0 10 (nI 0)), .int (nI 10)]) (st1 := []) (σ1 := σ) rfl (by simp only [tw_nadd, tw_nmul]) (rfl) (rfl) ?_
      rw [tw_fdF (by first | exact tw_bl0 h21 | exact h21)] at hQ
      exact ih (q + 1) _ _ (by omega) hQ
    · rw [tw_cne'] at h21
      refine tw_sg 1 (i1 := 27) (ls1 := [.ref 88, .int x, .int (nI q), .int (tw_fo (tw_gAh (tw_cnt (σ 95) n r) (tw_cnt (σ 96) n r) q) 0 10 (nI 0)), .int (nI 10)]) (st1 := [.int (nI q)]) (σ1 := σ) rfl ?_
      refine tw_ri rfl (rfl) ?_
      rw [tw_fdT (by first | exact tw_bl1 h21 | exact h21)] at hQ
      exact hQ
set_option maxHeartbeats 4000000 in
set_option maxRecDepth 100000 in
theorem tw_e_ranked {r n : Nat} (hr9 : σ 9 3 = nI r) (hw9 : σ 9 4 = nI n) (h50 : r ≤ 50) (h10 : n ≤ 10) {x : Int32} (hF : tw_isF σ 0 r n (σ 95)) (hG : tw_isF σ 1 r n (σ 96)) : tw_E L xs 4 27 [.ref 9, .int x] σ (fun v τ => v = some (.int (tw_fd (tw_rkd (tw_cnt (σ 95) n r) (tw_cnt (σ 96) n r) x) 0 10 (-1))) ∧ ∀ k j, ¬ k = 11 → ¬ k = 12 → τ k j = σ k j) := by
  show tw_P L xs _ 27 0 [.ref 9, .int x, tw_U] [] σ _
  refine tw_sg 2 (i1 := 2) (ls1 := [.ref 9, .int x, .int (nI 0)]) (st1 := []) (σ1 := σ) rfl ?_
  refine tw_l_fill (σ0 := σ) (w := σ 95) (p := σ 96) hr9 hw9 h50 h10 hF hG (fun τ h1 h2 => ?_) 10 0 σ (by omega) (fun _ _ _ _ => rfl) (fun j hj => by omega)
  refine tw_sg 2 (i1 := 25) (ls1 := [.ref 9, .int x, .int (nI 0)]) (st1 := []) (σ1 := τ) rfl ?_
  refine tw_P_le (d := 2) (tw_l_find 10 0 (by omega) ⟨?_, h1⟩) (by decide)
  rw [tw_fd_cg 10 0 (fun j _ hj => tw_rkd_cg (fun i hi => h2 i hi) (by omega))]
set_option maxHeartbeats 4000000 in
set_option maxRecDepth 100000 in
theorem tw_o_ranked {L : Nat} {xs : Nat → Int32} (x : Int32) : tw_op L xs 164 244 [.int x] := by
  intro σ hI
  obtain ⟨⟨n, r, hL⟩, hT, hPp, hPc, hLs, hIm, hC14, hC46, hC72⟩ := id hI
  obtain ⟨⟨hn10, hr50⟩, ⟨hn6, hn89⟩, ⟨hr9, hw9, hr90⟩, hCa, hRo, hLa⟩ := hL
  have hn6 : σ 6 4 = nI n := hn6
  have hn89 : σ 89 0 = nI n := hn89
  have hr9 : σ 9 3 = nI r := hr9
  have hw9 : σ 9 4 = nI n := hw9
  have hr90 : σ 90 0 = nI r := hr90
  show tw_P L xs _ 164 0 [.ref 1, .int x] [] σ _
  refine tw_sg 2 (i1 := 2) (ls1 := [.ref 1, .int x]) (st1 := [.ref 6]) (σ1 := σ) rfl ?_
  refine tw_cl0 59 rfl (rfl) (by decide) ?_
  show tw_P L xs _ 83 0 [.ref 6] [] σ _
  refine tw_sg 2 (i1 := 2) (ls1 := [.ref 6]) (st1 := [.ref 9]) (σ1 := σ) rfl ?_
  refine tw_ra rfl ?_
  show tw_P L xs _ 164 3 [.ref 1, .int x] [.ref 9] σ _
  refine tw_sg 1 (i1 := 4) (ls1 := [.ref 1, .int x]) (st1 := [.int x, .ref 9]) (σ1 := σ) rfl ?_
  refine tw_cl1 rfl (rfl) (by decide) (tw_e_ranked hr9 hw9 hr50 hn10 (tw_isF0 hRo) (tw_isF1 hRo)) ?_
  rintro _ τ ⟨rfl, h1⟩
  show tw_P L xs _ 164 5 [.ref 1, .int x] [.int (tw_fd (tw_rkd (tw_cnt (σ 95) n r) (tw_cnt (σ 96) n r) x) 0 10 (-1))] τ _
  refine tw_ri rfl (rfl) ?_
  refine ⟨_, rfl, ?_⟩
  have hk : tw_keep σ τ := fun k j h => h1 k j (fun e => h (by unfold tw_scr; omega)) (fun e => h (by unfold tw_scr; omega))
  have e95 : τ 95 = σ 95 := hk.row (fun j => by unfold tw_scr; omega)
  have e96 : τ 96 = σ 96 := hk.row (fun j => by unfold tw_scr; omega)
  show tw_P L xs _ 244 0 [.ref 88, .int x, tw_U, tw_U, tw_U] [] τ _
  refine tw_sg 2 (i1 := 2) (ls1 := [.ref 88, .int x, .int (nI 0), tw_U, tw_U]) (st1 := []) (σ1 := τ) rfl ?_
  refine tw_P_le (d := 2) (tw_l_mfind (σ := τ) (n := n) (r := r) (by rw [h1 89 0 (by omega) (by omega)]; exact hn89) (by rw [h1 90 0 (by omega) (by omega)]; exact hr90) hr50 hn10 10 0 _ _ (by omega) ⟨by rw [e95, e96], hI.keep hk⟩) (by decide)
end tw_s35
