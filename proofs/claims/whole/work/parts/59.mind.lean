/-! returns, flat, jam -/
section tw_s59
variable {L : Nat} {xs : Nat → Int32} {σ : tw_Mem} {x y w : Int32} {n r i c k h q a b e : Nat}
/-- the first p at which X or Y holds, X ahead of Y -/
noncomputable def tw_sch (X Y : Nat → Prop) (x y : Nat → Int32) : Nat → Nat → Int32 → Int32
  | _, 0, z => z
  | p, f + 1, z => @ite _ (X p) (Classical.propDecidable _) (x p) (@ite _ (Y p) (Classical.propDecidable _) (y p) (tw_sch X Y x y (p + 1) f z))
theorem tw_sch_flat {F J : Nat → Prop} : ∀ (f p : Nat) (z : Int32), (F (p + f) → z = nI (p + f)) → (¬ F (p + f) → z = (-5)) → tw_sch F J (fun p => nI p) (fun _ => (-5)) p f z = @ite _ (F p) (Classical.propDecidable _) (nI p) (tw_sch J (fun i => F (i + 1)) (fun _ => (-5)) (fun i => nI (i + 1)) p f (-5))
  | 0, p, z, h1, h2 => by
    rw [tw_sch, tw_sch]
    by_cases hF : F p
    · rw [if_pos hF]; exact h1 hF
    · rw [if_neg hF]; exact h2 hF
  | f + 1, p, z, h1, h2 => by
    rw [tw_sch]
    by_cases hF : F p
    · rw [if_pos hF, if_pos hF]
    · rw [if_neg hF, if_neg hF, tw_sch]
      by_cases hJ : J p
      · rw [if_pos hJ, if_pos hJ]
      · rw [if_neg hJ, if_neg hJ]
        exact tw_sch_flat f (p + 1) z (by rw [show p + 1 + f = p + (f + 1) by omega]; exact h1) (by rw [show p + 1 + f = p + (f + 1) by omega]; exact h2)
set_option maxHeartbeats 4000000 in
set_option maxRecDepth 100000 in
theorem tw_l_ret {L : Nat} {xs : Nat → Int32} {Q : Option Value → tw_Mem → Prop} {σ0 : tw_Mem} {n : Nat} {t : Nat → Nat → Nat} {W : Nat → Int32} {P : Nat → Nat} (h10 : n ≤ 10) (ht : ∀ c, c < n → ∀ i, t c i < 4) (hP : ∀ c, c < n → P c < 4) (hN : ∀ i, i < 200 → ∀ c, c < n → ∀ σ, tw_mfC σ0 σ → tw_E L xs 10 89 [.ref 6, .int (nI c), .int (nI i)] σ (fun v σ1 => v = some (.int (nI (t c i))) ∧ σ = σ1)) : ∀ (f i : Nat) (σ : tw_Mem), i + f = 200 → tw_mdC σ0 σ n t W i 0 → (∀ τ, tw_mfC σ0 τ → Q (some (.int (tw_sch (tw_mJ n t W) (fun i => tw_mA n t P (i + 1)) (fun _ => (-5)) (fun i => nI (i + 1)) i f (-5)))) τ) → tw_P L xs 12 106 5 [.ref 76, .ref 6, .int (nI (i + 1))] [] σ Q := by
  intro f
  induction f with
  | zero =>
    intro i σ hf hQ hE
    have hf : i = 200 := hf
    subst hf
    refine tw_sg 2 (i1 := 7) (ls1 := [.ref 76, .ref 6, .int (nI (200 + 1))]) (st1 := [.int (nI 200), .int (nI (200 + 1))]) (σ1 := σ) rfl ?_
    refine tw_biT (c := .gt) rfl (by rw [tw_cgt, tw_nlt (by omega) (by omega)] <;> omega) ?_
    show tw_P L xs _ 106 24 [.ref 76, .ref 6, .int (nI (200 + 1))] [] σ _
    refine tw_sg 1 (i1 := 25) (ls1 := [.ref 76, .ref 6, .int (nI (200 + 1))]) (st1 := [.int (-5)]) (σ1 := σ) rfl ?_
    refine tw_ri rfl (rfl) ?_
    exact hE σ hQ.1
  | succ f ih =>
    intro i σ hf hQ hE
    refine tw_sg 2 (i1 := 7) (ls1 := [.ref 76, .ref 6, .int (nI (i + 1))]) (st1 := [.int (nI 200), .int (nI (i + 1))]) (σ1 := σ) rfl ?_
    refine tw_biF (c := .gt) rfl (by rw [tw_cgt', tw_nlt (by omega) (by omega)] <;> omega) ?_
    show tw_P L xs _ 106 8 [.ref 76, .ref 6, .int (nI (i + 1))] [] σ _
    refine tw_sgn 5 (i1 := 13) (ls0 := [.ref 76, .ref 6, .int (nI (i + 1))]) (st0 := [.int (nI (i + 1) - nI 1), .ref 6, .ref 76]) (σ0 := σ) (ls1 := [.ref 76, .ref 6, .int (nI (i + 1))]) (st1 := [.int (nI i), .ref 6, .ref 76]) (σ1 := σ) rfl (rfl) (by simp only [tw_nsub (show 1 ≤ i + 1 by omega), Nat.add_sub_cancel, tw_nadd, tw_nmul]) (rfl) ?_
    refine tw_cl1 rfl (rfl) (by decide) (tw_e_mpick (by omega) h10 (fun c hc => ht c hc i) (hN i (by omega)) hQ) ?_
    rintro _ σ1 ⟨rfl, hf1, hd1⟩
    show tw_P L xs _ 106 14 [.ref 76, .ref 6, .int (nI (i + 1))] [.int (tw_bl (¬ tw_mJ n t W i))] σ1 _
    refine tw_bz (c := .ne) rfl (fun h1 => ?_) (fun h1 => ?_)
    · rw [tw_cne] at h1
      have hJ := tw_bl1 h1
      have hd2 := hd1 hJ
      refine tw_sg 1 (i1 := 18) (ls1 := [.ref 76, .ref 6, .int (nI (i + 1))]) (st1 := [.ref 76]) (σ1 := σ1) rfl ?_
      refine tw_cl1 rfl (rfl) (by decide) (tw_e_asnow (i := i + 1) (by omega) h10 hd2 (fun c hc j _ => ht c hc j) hP) ?_
      rintro _ _ ⟨rfl, rfl⟩
      show tw_P L xs _ 106 19 [.ref 76, .ref 6, .int (nI (i + 1))] [.int (tw_bl (tw_mA n t P (i + 1)))] σ1 _
      refine tw_bz (c := .eq) rfl (fun h2 => ?_) (fun h2 => ?_)
      · rw [tw_ceq] at h2
        have hA := tw_bl0 h2
        refine tw_sgn 2 (i1 := 5) (ls0 := [.ref 76, .ref 6, .int (nI (i + 1) + nI 1)]) (st0 := []) (σ0 := σ1) (ls1 := [.ref 76, .ref 6, .int (nI (i + 1 + 1))]) (st1 := []) (σ1 := σ1) rfl (by simp only [tw_nadd, tw_nmul]) (rfl) (rfl) ?_
        refine ih (i + 1) σ1 (by omega) hd2 (fun τ hτ => ?_)
        have e := hE τ hτ
        rw [tw_sch, if_neg hJ, if_neg hA] at e
        exact e
      · rw [tw_ceq'] at h2
        have hA := tw_bl1 h2
        refine tw_sg 1 (i1 := 21) (ls1 := [.ref 76, .ref 6, .int (nI (i + 1))]) (st1 := [.int (nI (i + 1))]) (σ1 := σ1) rfl ?_
        refine tw_ri rfl (rfl) ?_
        have e := hE σ1 hf1
        rw [tw_sch, if_neg hJ, if_pos hA] at e
        exact e
    · rw [tw_cne'] at h1
      have hJ : tw_mJ n t W i := Classical.byContradiction (tw_bl0 h1)
      refine tw_sg 1 (i1 := 16) (ls1 := [.ref 76, .ref 6, .int (nI (i + 1))]) (st1 := [.int (-5)]) (σ1 := σ1) rfl ?_
      refine tw_ri rfl (rfl) ?_
      have e := hE σ1 hf1
      rw [tw_sch, if_pos hJ] at e
      exact e
set_option maxHeartbeats 4000000 in
set_option maxRecDepth 100000 in
theorem tw_l_mret {L : Nat} {xs : Nat → Int32} {Q : Option Value → tw_Mem → Prop} {σ0 : tw_Mem} {n r : Nat} {t : Nat → Nat → Nat} {W : Nat → Int32} {P : Nat → Nat} (h10 : n ≤ 10) (hr : r ≤ 50) (h89 : σ0 89 0 = nI n) (h90 : σ0 90 0 = nI r) (ht : ∀ c, c < n → ∀ i, t c i < 4) (hP : ∀ c, c < n → P c < 4 ∧ σ0 93 c = nI (P c)) (hN : ∀ i, i < 200 → ∀ σ, tw_mfM σ0 σ → tw_E L xs 9 211 [.ref 88, .int (nI (r + i))] σ (fun v τ => v = none ∧ tw_laidn σ τ 110 (fun c => t c i) n n)) : ∀ (f i : Nat) (σ : tw_Mem), i + f = 200 → tw_mdM σ0 σ n t W P i 0 → (∀ τ, tw_mfM σ0 τ → Q (some (.int (tw_sch (tw_mJ n t W) (fun i => tw_mA n t P (i + 1)) (fun _ => (-5)) (fun i => nI (i + 1)) i f (-5)))) τ) → tw_P L xs 11 223 11 [.ref 88, .int (nI (i + 1))] [] σ Q := by
  intro f
  induction f with
  | zero =>
    intro i σ hf hQ hE
    have hf : i = 200 := hf
    subst hf
    refine tw_sg 2 (i1 := 13) (ls1 := [.ref 88, .int (nI (200 + 1))]) (st1 := [.int (nI 200), .int (nI (200 + 1))]) (σ1 := σ) rfl ?_
    refine tw_biT (c := .gt) rfl (by rw [tw_cgt, tw_nlt (by omega) (by omega)] <;> omega) ?_
    show tw_P L xs _ 223 27 [.ref 88, .int (nI (200 + 1))] [] σ _
    refine tw_sg 1 (i1 := 28) (ls1 := [.ref 88, .int (nI (200 + 1))]) (st1 := [.int (-5)]) (σ1 := σ) rfl ?_
    refine tw_ri rfl (rfl) ?_
    exact hE σ hQ.1
  | succ f ih =>
    intro i σ hf hQ hE
    refine tw_sg 2 (i1 := 13) (ls1 := [.ref 88, .int (nI (i + 1))]) (st1 := [.int (nI 200), .int (nI (i + 1))]) (σ1 := σ) rfl ?_
    refine tw_biF (c := .gt) rfl (by rw [tw_cgt', tw_nlt (by omega) (by omega)] <;> omega) ?_
    show tw_P L xs _ 223 14 [.ref 88, .int (nI (i + 1))] [] σ _
    refine tw_sg 2 (i1 := 16) (ls1 := [.ref 88, .int (nI (i + 1))]) (st1 := [.int (nI (i + 1)), .ref 88]) (σ1 := σ) rfl ?_
    refine tw_cl1 rfl (rfl) (by decide) (tw_e_mind (i := i) (by omega) h10 hr h89 h90 (fun c hc => ht c hc i) (fun c hc => (hP c hc).1) (hN i (by omega)) hQ) ?_
    rintro _ σ1 ⟨rfl, hf1, hd1⟩
    show tw_P L xs _ 223 17 [.ref 88, .int (nI (i + 1))] [.int (tw_bl (¬ tw_mJ n t W i))] σ1 _
    refine tw_bz (c := .ne) rfl (fun h1 => ?_) (fun h1 => ?_)
    · rw [tw_cne] at h1
      have hJ := tw_bl1 h1
      have hd2 := hd1 hJ
      refine tw_sg 1 (i1 := 21) (ls1 := [.ref 88, .int (nI (i + 1))]) (st1 := [.ref 88]) (σ1 := σ1) rfl ?_
      refine tw_cl1 rfl (rfl) (by decide) (tw_e_masnow (i := i + 1) h10 h89 hd2 hP) ?_
      rintro _ _ ⟨rfl, rfl⟩
      show tw_P L xs _ 223 22 [.ref 88, .int (nI (i + 1))] [.int (tw_bl (tw_mA n t P (i + 1)))] σ1 _
      refine tw_bz (c := .eq) rfl (fun h2 => ?_) (fun h2 => ?_)
      · rw [tw_ceq] at h2
        have hA := tw_bl0 h2
        refine tw_sgn 2 (i1 := 11) (ls0 := [.ref 88, .int (nI (i + 1) + nI 1)]) (st0 := []) (σ0 := σ1) (ls1 := [.ref 88, .int (nI (i + 1 + 1))]) (st1 := []) (σ1 := σ1) rfl (by simp only [tw_nadd, tw_nmul]) (rfl) (rfl) ?_
        refine ih (i + 1) σ1 (by omega) hd2 (fun τ hτ => ?_)
        have e := hE τ hτ
        rw [tw_sch, if_neg hJ, if_neg hA] at e
        exact e
      · rw [tw_ceq'] at h2
        have hA := tw_bl1 h2
        refine tw_sg 1 (i1 := 24) (ls1 := [.ref 88, .int (nI (i + 1))]) (st1 := [.int (nI (i + 1))]) (σ1 := σ1) rfl ?_
        refine tw_ri rfl (rfl) ?_
        have e := hE σ1 hf1
        rw [tw_sch, if_neg hJ, if_pos hA] at e
        exact e
    · rw [tw_cne'] at h1
      have hJ : tw_mJ n t W i := Classical.byContradiction (tw_bl0 h1)
      refine tw_sg 1 (i1 := 19) (ls1 := [.ref 88, .int (nI (i + 1))]) (st1 := [.int (-5)]) (σ1 := σ1) rfl ?_
      refine tw_ri rfl (rfl) ?_
      have e := hE σ1 hf1
      rw [tw_sch, if_pos hJ] at e
      exact e
set_option maxHeartbeats 4000000 in
set_option maxRecDepth 100000 in
theorem tw_l_flat {L : Nat} {xs : Nat → Int32} {Q : Option Value → tw_Mem → Prop} {σ0 : tw_Mem} {n : Nat} {t : Nat → Nat → Nat} {W : Nat → Int32} {P : Nat → Nat} (h10 : n ≤ 10) (ht : ∀ c, c < n → ∀ i, t c i < 4) (hP : ∀ c, c < n → P c < 4) (hN : ∀ i, i < 200 → ∀ c, c < n → ∀ σ, tw_mfC σ0 σ → tw_E L xs 10 89 [.ref 6, .int (nI c), .int (nI i)] σ (fun v σ1 => v = some (.int (nI (t c i))) ∧ σ = σ1)) {z : Int32} (z1 : tw_mF n t W 200 → z = nI 200) (z2 : ¬ tw_mF n t W 200 → z = (-5)) : ∀ (f i : Nat) (σ : tw_Mem), i + f = 200 → tw_mdC σ0 σ n t W i 0 → (∀ τ, tw_mfC σ0 τ → Q (some (.int (tw_sch (tw_mF n t W) (tw_mJ n t W) (fun p => nI p) (fun _ => (-5)) i f z))) τ) → tw_P L xs 12 107 5 [.ref 76, .ref 6, .int (nI i)] [] σ Q := by
  intro f
  induction f with
  | zero =>
    intro i σ hf hQ hE
    have hf : i = 200 := hf
    subst hf
    refine tw_sg 2 (i1 := 7) (ls1 := [.ref 76, .ref 6, .int (nI 200)]) (st1 := [.int (nI 200), .int (nI 200)]) (σ1 := σ) rfl ?_
    refine tw_biT (c := .ge) rfl (by rw [tw_cge, tw_nle (by omega) (by omega)] <;> omega) ?_
    show tw_P L xs _ 107 22 [.ref 76, .ref 6, .int (nI 200)] [] σ _
    refine tw_sg 1 (i1 := 23) (ls1 := [.ref 76, .ref 6, .int (nI 200)]) (st1 := [.ref 76]) (σ1 := σ) rfl ?_
    refine tw_cl1 rfl (rfl) (by decide) (tw_e_nott (i := 200) (by omega) h10 hQ) ?_
    rintro _ _ ⟨rfl, rfl⟩
    show tw_P L xs _ 107 24 [.ref 76, .ref 6, .int (nI 200)] [.int (tw_bl (tw_mF n t W 200))] σ _
    refine tw_bz (c := .eq) rfl (fun h1 => ?_) (fun h1 => ?_)
    · rw [tw_ceq] at h1
      have hF := tw_bl0 h1
      refine tw_sg 1 (i1 := 28) (ls1 := [.ref 76, .ref 6, .int (nI 200)]) (st1 := [.int (-5)]) (σ1 := σ) rfl ?_
      refine tw_ri rfl (rfl) ?_
      have e := hE σ hQ.1
      rw [tw_sch] at e
      first | (rw [z1 hF] at e; exact e) | (rw [z2 hF] at e; exact e)
    · rw [tw_ceq'] at h1
      have hF := tw_bl1 h1
      refine tw_sg 2 (i1 := 28) (ls1 := [.ref 76, .ref 6, .int (nI 200)]) (st1 := [.int (nI 200)]) (σ1 := σ) rfl ?_
      refine tw_ri rfl (rfl) ?_
      have e := hE σ hQ.1
      rw [tw_sch] at e
      first | (rw [z1 hF] at e; exact e) | (rw [z2 hF] at e; exact e)
  | succ f ih =>
    intro i σ hf hQ hE
    refine tw_sg 2 (i1 := 7) (ls1 := [.ref 76, .ref 6, .int (nI i)]) (st1 := [.int (nI 200), .int (nI i)]) (σ1 := σ) rfl ?_
    refine tw_biF (c := .ge) rfl (by rw [tw_cge', tw_nle (by omega) (by omega)] <;> omega) ?_
    show tw_P L xs _ 107 8 [.ref 76, .ref 6, .int (nI i)] [] σ _
    refine tw_sg 1 (i1 := 9) (ls1 := [.ref 76, .ref 6, .int (nI i)]) (st1 := [.ref 76]) (σ1 := σ) rfl ?_
    refine tw_cl1 rfl (rfl) (by decide) (tw_e_nott (i := i) (by omega) h10 hQ) ?_
    rintro _ _ ⟨rfl, rfl⟩
    show tw_P L xs _ 107 10 [.ref 76, .ref 6, .int (nI i)] [.int (tw_bl (tw_mF n t W i))] σ _
    refine tw_bz (c := .eq) rfl (fun h1 => ?_) (fun h1 => ?_)
    · rw [tw_ceq] at h1
      have hF := tw_bl0 h1
      refine tw_sg 3 (i1 := 16) (ls1 := [.ref 76, .ref 6, .int (nI i)]) (st1 := [.int (nI i), .ref 6, .ref 76]) (σ1 := σ) rfl ?_
      refine tw_cl1 rfl (rfl) (by decide) (tw_e_mpick (by omega) h10 (fun c hc => ht c hc i) (hN i (by omega)) hQ) ?_
      rintro _ σ1 ⟨rfl, hf1, hd1⟩
      show tw_P L xs _ 107 17 [.ref 76, .ref 6, .int (nI i)] [.int (tw_bl (¬ tw_mJ n t W i))] σ1 _
      refine tw_bz (c := .ne) rfl (fun h2 => ?_) (fun h2 => ?_)
      · rw [tw_cne] at h2
        have hJ := tw_bl1 h2
        have hd2 := hd1 hJ
        refine tw_sgn 2 (i1 := 5) (ls0 := [.ref 76, .ref 6, .int (nI i + nI 1)]) (st0 := []) (σ0 := σ1) (ls1 := [.ref 76, .ref 6, .int (nI (i + 1))]) (st1 := []) (σ1 := σ1) rfl (by simp only [tw_nadd, tw_nmul]) (rfl) (rfl) ?_
        refine ih (i + 1) σ1 (by omega) hd2 (fun τ hτ => ?_)
        have e := hE τ hτ
        rw [tw_sch, if_neg hF, if_neg hJ] at e
        exact e
      · rw [tw_cne'] at h2
        have hJ : tw_mJ n t W i := Classical.byContradiction (tw_bl0 h2)
        refine tw_sg 1 (i1 := 19) (ls1 := [.ref 76, .ref 6, .int (nI i)]) (st1 := [.int (-5)]) (σ1 := σ1) rfl ?_
        refine tw_ri rfl (rfl) ?_
        have e := hE σ1 hf1
        rw [tw_sch, if_neg hF, if_pos hJ] at e
        exact e
    · rw [tw_ceq'] at h1
      have hF := tw_bl1 h1
      refine tw_sg 1 (i1 := 12) (ls1 := [.ref 76, .ref 6, .int (nI i)]) (st1 := [.int (nI i)]) (σ1 := σ) rfl ?_
      refine tw_ri rfl (rfl) ?_
      have e := hE σ hQ.1
      rw [tw_sch, if_pos hF] at e
      exact e
set_option maxHeartbeats 4000000 in
set_option maxRecDepth 100000 in
theorem tw_l_mflt {L : Nat} {xs : Nat → Int32} {Q : Option Value → tw_Mem → Prop} {σ0 : tw_Mem} {n r : Nat} {t : Nat → Nat → Nat} {W : Nat → Int32} {P : Nat → Nat} (h10 : n ≤ 10) (hr : r ≤ 50) (h89 : σ0 89 0 = nI n) (h90 : σ0 90 0 = nI r) (ht : ∀ c, c < n → ∀ i, t c i < 4) (hP : ∀ c, c < n → P c < 4 ∧ σ0 93 c = nI (P c)) (hN : ∀ i, i < 200 → ∀ σ, tw_mfM σ0 σ → tw_E L xs 9 211 [.ref 88, .int (nI (r + i))] σ (fun v τ => v = none ∧ tw_laidn σ τ 110 (fun c => t c i) n n)) : ∀ (f i : Nat) (σ : tw_Mem), i + f = 200 → tw_mdM σ0 σ n t W P i 0 → (∀ τ, tw_mfM σ0 τ → Q (some (.int (tw_sch (tw_mJ n t W) (fun i => tw_mF n t W (i + 1)) (fun _ => (-5)) (fun i => nI (i + 1)) i f (-5)))) τ) → tw_P L xs 11 224 11 [.ref 88, .int (nI (i + 1))] [] σ Q := by
  intro f
  induction f with
  | zero =>
    intro i σ hf hQ hE
    have hf : i = 200 := hf
    subst hf
    refine tw_sg 2 (i1 := 13) (ls1 := [.ref 88, .int (nI (200 + 1))]) (st1 := [.int (nI 200), .int (nI (200 + 1))]) (σ1 := σ) rfl ?_
    refine tw_biT (c := .gt) rfl (by rw [tw_cgt, tw_nlt (by omega) (by omega)] <;> omega) ?_
    show tw_P L xs _ 224 29 [.ref 88, .int (nI (200 + 1))] [] σ _
    refine tw_sg 1 (i1 := 30) (ls1 := [.ref 88, .int (nI (200 + 1))]) (st1 := [.int (-5)]) (σ1 := σ) rfl ?_
    refine tw_ri rfl (rfl) ?_
    exact hE σ hQ.1
  | succ f ih =>
    intro i σ hf hQ hE
    refine tw_sg 2 (i1 := 13) (ls1 := [.ref 88, .int (nI (i + 1))]) (st1 := [.int (nI 200), .int (nI (i + 1))]) (σ1 := σ) rfl ?_
    refine tw_biF (c := .gt) rfl (by rw [tw_cgt', tw_nlt (by omega) (by omega)] <;> omega) ?_
    show tw_P L xs _ 224 14 [.ref 88, .int (nI (i + 1))] [] σ _
    refine tw_sg 1 (i1 := 15) (ls1 := [.ref 88, .int (nI (i + 1))]) (st1 := [.int (nI (i + 1))]) (σ1 := σ) rfl ?_
    refine tw_bzF (c := .le) rfl (by rw [tw_cle', tw_nle (by omega) (by omega)] <;> omega) ?_
    show tw_P L xs _ 224 16 [.ref 88, .int (nI (i + 1))] [] σ _
    refine tw_sg 2 (i1 := 18) (ls1 := [.ref 88, .int (nI (i + 1))]) (st1 := [.int (nI (i + 1)), .ref 88]) (σ1 := σ) rfl ?_
    refine tw_cl1 rfl (rfl) (by decide) (tw_e_mind (i := i) (by omega) h10 hr h89 h90 (fun c hc => ht c hc i) (fun c hc => (hP c hc).1) (hN i (by omega)) hQ) ?_
    rintro _ σ1 ⟨rfl, hf1, hd1⟩
    show tw_P L xs _ 224 19 [.ref 88, .int (nI (i + 1))] [.int (tw_bl (¬ tw_mJ n t W i))] σ1 _
    refine tw_bz (c := .ne) rfl (fun h1 => ?_) (fun h1 => ?_)
    · rw [tw_cne] at h1
      have hJ := tw_bl1 h1
      have hd2 := hd1 hJ
      refine tw_sg 1 (i1 := 23) (ls1 := [.ref 88, .int (nI (i + 1))]) (st1 := [.ref 88]) (σ1 := σ1) rfl ?_
      refine tw_cl1 rfl (rfl) (by decide) (tw_e_mflat (i := i + 1) h10 h89 hd2) ?_
      rintro _ _ ⟨rfl, rfl⟩
      show tw_P L xs _ 224 24 [.ref 88, .int (nI (i + 1))] [.int (tw_bl (tw_mF n t W (i + 1)))] σ1 _
      refine tw_bz (c := .eq) rfl (fun h2 => ?_) (fun h2 => ?_)
      · rw [tw_ceq] at h2
        have hF := tw_bl0 h2
        refine tw_sgn 2 (i1 := 11) (ls0 := [.ref 88, .int (nI (i + 1) + nI 1)]) (st0 := []) (σ0 := σ1) (ls1 := [.ref 88, .int (nI (i + 1 + 1))]) (st1 := []) (σ1 := σ1) rfl (by simp only [tw_nadd, tw_nmul]) (rfl) (rfl) ?_
        refine ih (i + 1) σ1 (by omega) hd2 (fun τ hτ => ?_)
        have e := hE τ hτ
        rw [tw_sch, if_neg hJ, if_neg hF] at e
        exact e
      · rw [tw_ceq'] at h2
        have hF := tw_bl1 h2
        refine tw_sg 1 (i1 := 26) (ls1 := [.ref 88, .int (nI (i + 1))]) (st1 := [.int (nI (i + 1))]) (σ1 := σ1) rfl ?_
        refine tw_ri rfl (rfl) ?_
        have e := hE σ1 hf1
        rw [tw_sch, if_neg hJ, if_pos hF] at e
        exact e
    · rw [tw_cne'] at h1
      have hJ : tw_mJ n t W i := Classical.byContradiction (tw_bl0 h1)
      refine tw_sg 1 (i1 := 21) (ls1 := [.ref 88, .int (nI (i + 1))]) (st1 := [.int (-5)]) (σ1 := σ1) rfl ?_
      refine tw_ri rfl (rfl) ?_
      have e := hE σ1 hf1
      rw [tw_sch, if_pos hJ] at e
      exact e
set_option maxHeartbeats 4000000 in
set_option maxRecDepth 100000 in
theorem tw_l_jam {L : Nat} {xs : Nat → Int32} {Q : Option Value → tw_Mem → Prop} {σ0 : tw_Mem} {n : Nat} {t : Nat → Nat → Nat} {W : Nat → Int32} {P : Nat → Nat} (h10 : n ≤ 10) (ht : ∀ c, c < n → ∀ i, t c i < 4) (hP : ∀ c, c < n → P c < 4) (hN : ∀ i, i < 200 → ∀ c, c < n → ∀ σ, tw_mfC σ0 σ → tw_E L xs 10 89 [.ref 6, .int (nI c), .int (nI i)] σ (fun v σ1 => v = some (.int (nI (t c i))) ∧ σ = σ1)) : ∀ (f i : Nat) (σ : tw_Mem), i + f = 200 → tw_mdC σ0 σ n t W i 0 → (∀ τ, tw_mfC σ0 τ → Q (some (.int (tw_sch (tw_mJ n t W) (fun _ => False) (fun i => nI (i + 1)) (fun _ => nI 0) i f (-5)))) τ) → tw_P L xs 12 108 5 [.ref 76, .ref 6, .int (nI (i + 1))] [] σ Q := by
  intro f
  induction f with
  | zero =>
    intro i σ hf hQ hE
    have hf : i = 200 := hf
    subst hf
    refine tw_sg 2 (i1 := 7) (ls1 := [.ref 76, .ref 6, .int (nI (200 + 1))]) (st1 := [.int (nI 200), .int (nI (200 + 1))]) (σ1 := σ) rfl ?_
    refine tw_biT (c := .gt) rfl (by rw [tw_cgt, tw_nlt (by omega) (by omega)] <;> omega) ?_
    show tw_P L xs _ 108 19 [.ref 76, .ref 6, .int (nI (200 + 1))] [] σ _
    refine tw_sg 1 (i1 := 20) (ls1 := [.ref 76, .ref 6, .int (nI (200 + 1))]) (st1 := [.int (-5)]) (σ1 := σ) rfl ?_
    refine tw_ri rfl (rfl) ?_
    exact hE σ hQ.1
  | succ f ih =>
    intro i σ hf hQ hE
    refine tw_sg 2 (i1 := 7) (ls1 := [.ref 76, .ref 6, .int (nI (i + 1))]) (st1 := [.int (nI 200), .int (nI (i + 1))]) (σ1 := σ) rfl ?_
    refine tw_biF (c := .gt) rfl (by rw [tw_cgt', tw_nlt (by omega) (by omega)] <;> omega) ?_
    show tw_P L xs _ 108 8 [.ref 76, .ref 6, .int (nI (i + 1))] [] σ _
    refine tw_sgn 5 (i1 := 13) (ls0 := [.ref 76, .ref 6, .int (nI (i + 1))]) (st0 := [.int (nI (i + 1) - nI 1), .ref 6, .ref 76]) (σ0 := σ) (ls1 := [.ref 76, .ref 6, .int (nI (i + 1))]) (st1 := [.int (nI i), .ref 6, .ref 76]) (σ1 := σ) rfl (rfl) (by simp only [tw_nsub (show 1 ≤ i + 1 by omega), Nat.add_sub_cancel, tw_nadd, tw_nmul]) (rfl) ?_
    refine tw_cl1 rfl (rfl) (by decide) (tw_e_mpick (by omega) h10 (fun c hc => ht c hc i) (hN i (by omega)) hQ) ?_
    rintro _ σ1 ⟨rfl, hf1, hd1⟩
    show tw_P L xs _ 108 14 [.ref 76, .ref 6, .int (nI (i + 1))] [.int (tw_bl (¬ tw_mJ n t W i))] σ1 _
    refine tw_bz (c := .ne) rfl (fun h1 => ?_) (fun h1 => ?_)
    · rw [tw_cne] at h1
      have hJ := tw_bl1 h1
      have hd2 := hd1 hJ
      refine tw_sgn 2 (i1 := 5) (ls0 := [.ref 76, .ref 6, .int (nI (i + 1) + nI 1)]) (st0 := []) (σ0 := σ1) (ls1 := [.ref 76, .ref 6, .int (nI (i + 1 + 1))]) (st1 := []) (σ1 := σ1) rfl (by simp only [tw_nadd, tw_nmul]) (rfl) (rfl) ?_
      refine ih (i + 1) σ1 (by omega) hd2 (fun τ hτ => ?_)
      have e := hE τ hτ
      rw [tw_sch, if_neg hJ, if_neg id] at e
      exact e
    · rw [tw_cne'] at h1
      have hJ : tw_mJ n t W i := Classical.byContradiction (tw_bl0 h1)
      refine tw_sg 1 (i1 := 16) (ls1 := [.ref 76, .ref 6, .int (nI (i + 1))]) (st1 := [.int (nI (i + 1))]) (σ1 := σ1) rfl ?_
      refine tw_ri rfl (rfl) ?_
      have e := hE σ1 hf1
      rw [tw_sch, if_pos hJ] at e
      exact e
set_option maxHeartbeats 4000000 in
set_option maxRecDepth 100000 in
theorem tw_l_mjm {L : Nat} {xs : Nat → Int32} {Q : Option Value → tw_Mem → Prop} {σ0 : tw_Mem} {n r : Nat} {t : Nat → Nat → Nat} {W : Nat → Int32} {P : Nat → Nat} (h10 : n ≤ 10) (hr : r ≤ 50) (h89 : σ0 89 0 = nI n) (h90 : σ0 90 0 = nI r) (ht : ∀ c, c < n → ∀ i, t c i < 4) (hP : ∀ c, c < n → P c < 4 ∧ σ0 93 c = nI (P c)) (hN : ∀ i, i < 200 → ∀ σ, tw_mfM σ0 σ → tw_E L xs 9 211 [.ref 88, .int (nI (r + i))] σ (fun v τ => v = none ∧ tw_laidn σ τ 110 (fun c => t c i) n n)) : ∀ (f i : Nat) (σ : tw_Mem), i + f = 200 → tw_mdM σ0 σ n t W P i 0 → (∀ τ, tw_mfM σ0 τ → Q (some (.int (tw_sch (tw_mJ n t W) (fun _ => False) (fun i => nI (i + 1)) (fun _ => nI 0) i f (-5)))) τ) → tw_P L xs 11 225 11 [.ref 88, .int (nI (i + 1))] [] σ Q := by
  intro f
  induction f with
  | zero =>
    intro i σ hf hQ hE
    have hf : i = 200 := hf
    subst hf
    refine tw_sg 2 (i1 := 13) (ls1 := [.ref 88, .int (nI (200 + 1))]) (st1 := [.int (nI 200), .int (nI (200 + 1))]) (σ1 := σ) rfl ?_
    refine tw_biT (c := .gt) rfl (by rw [tw_cgt, tw_nlt (by omega) (by omega)] <;> omega) ?_
    show tw_P L xs _ 225 22 [.ref 88, .int (nI (200 + 1))] [] σ _
    refine tw_sg 1 (i1 := 23) (ls1 := [.ref 88, .int (nI (200 + 1))]) (st1 := [.int (-5)]) (σ1 := σ) rfl ?_
    refine tw_ri rfl (rfl) ?_
    exact hE σ hQ.1
  | succ f ih =>
    intro i σ hf hQ hE
    refine tw_sg 2 (i1 := 13) (ls1 := [.ref 88, .int (nI (i + 1))]) (st1 := [.int (nI 200), .int (nI (i + 1))]) (σ1 := σ) rfl ?_
    refine tw_biF (c := .gt) rfl (by rw [tw_cgt', tw_nlt (by omega) (by omega)] <;> omega) ?_
    show tw_P L xs _ 225 14 [.ref 88, .int (nI (i + 1))] [] σ _
    refine tw_sg 2 (i1 := 16) (ls1 := [.ref 88, .int (nI (i + 1))]) (st1 := [.int (nI (i + 1)), .ref 88]) (σ1 := σ) rfl ?_
    refine tw_cl1 rfl (rfl) (by decide) (tw_e_mind (i := i) (by omega) h10 hr h89 h90 (fun c hc => ht c hc i) (fun c hc => (hP c hc).1) (hN i (by omega)) hQ) ?_
    rintro _ σ1 ⟨rfl, hf1, hd1⟩
    show tw_P L xs _ 225 17 [.ref 88, .int (nI (i + 1))] [.int (tw_bl (¬ tw_mJ n t W i))] σ1 _
    refine tw_bz (c := .ne) rfl (fun h1 => ?_) (fun h1 => ?_)
    · rw [tw_cne] at h1
      have hJ := tw_bl1 h1
      have hd2 := hd1 hJ
      refine tw_sgn 2 (i1 := 11) (ls0 := [.ref 88, .int (nI (i + 1) + nI 1)]) (st0 := []) (σ0 := σ1) (ls1 := [.ref 88, .int (nI (i + 1 + 1))]) (st1 := []) (σ1 := σ1) rfl (by simp only [tw_nadd, tw_nmul]) (rfl) (rfl) ?_
      refine ih (i + 1) σ1 (by omega) hd2 (fun τ hτ => ?_)
      have e := hE τ hτ
      rw [tw_sch, if_neg hJ, if_neg id] at e
      exact e
    · rw [tw_cne'] at h1
      have hJ : tw_mJ n t W i := Classical.byContradiction (tw_bl0 h1)
      refine tw_sg 1 (i1 := 19) (ls1 := [.ref 88, .int (nI (i + 1))]) (st1 := [.int (nI (i + 1))]) (σ1 := σ1) rfl ?_
      refine tw_ri rfl (rfl) ?_
      have e := hE σ1 hf1
      rw [tw_sch, if_pos hJ] at e
      exact e
set_option maxHeartbeats 4000000 in
set_option maxRecDepth 100000 in
theorem tw_e_ret {n : Nat} {t : Nat → Nat → Nat} {W : Nat → Int32} {P : Nat → Nat} (h10 : n ≤ 10) (ht : ∀ c, c < n → ∀ i, t c i < 4) (hP : ∀ c, c < n → P c < 4) (hN : ∀ i, i < 200 → ∀ c, c < n → ∀ σ2, tw_mfC σ σ2 → tw_E L xs 10 89 [.ref 6, .int (nI c), .int (nI i)] σ2 (fun v σ1 => v = some (.int (nI (t c i))) ∧ σ2 = σ1)) (h6 : σ 6 4 = nI n) (hW : ∀ c, c < n → σ (2 * c + 18) 3 = W c) : tw_E L xs 12 106 [.ref 76, .ref 6] σ (fun v τ => v = some (.int (tw_sch (tw_mJ n t W) (fun i => tw_mA n t P (i + 1)) (fun _ => (-5)) (fun i => nI (i + 1)) 0 200 (-5))) ∧ tw_mfC σ τ) := by
  show tw_P L xs _ 106 0 [.ref 76, .ref 6, tw_U] [] σ _
  refine tw_sg 2 (i1 := 2) (ls1 := [.ref 76, .ref 6, tw_U]) (st1 := [.ref 6, .ref 76]) (σ1 := σ) rfl ?_
  refine tw_cl1 rfl (rfl) (by decide) (tw_e_begin (t := t) h6 h10 hW) ?_
  rintro _ τ1 ⟨rfl, hb⟩
  show tw_P L xs _ 106 3 [.ref 76, .ref 6, tw_U] [] τ1 _
  refine tw_sg 2 (i1 := 5) (ls1 := [.ref 76, .ref 6, .int (nI 1)]) (st1 := []) (σ1 := τ1) rfl ?_
  exact tw_l_ret (σ0 := σ) h10 ht hP hN 200 0 τ1 (by omega) hb (fun τ h => ⟨rfl, h⟩)
set_option maxHeartbeats 4000000 in
set_option maxRecDepth 100000 in
theorem tw_e_flt {n : Nat} {t : Nat → Nat → Nat} {W : Nat → Int32} {P : Nat → Nat} (h10 : n ≤ 10) (ht : ∀ c, c < n → ∀ i, t c i < 4) (hP : ∀ c, c < n → P c < 4) (hN : ∀ i, i < 200 → ∀ c, c < n → ∀ σ2, tw_mfC σ σ2 → tw_E L xs 10 89 [.ref 6, .int (nI c), .int (nI i)] σ2 (fun v σ1 => v = some (.int (nI (t c i))) ∧ σ2 = σ1)) (h6 : σ 6 4 = nI n) (hW : ∀ c, c < n → σ (2 * c + 18) 3 = W c) {z : Int32} (z1 : tw_mF n t W 200 → z = nI 200) (z2 : ¬ tw_mF n t W 200 → z = (-5)) : tw_E L xs 12 107 [.ref 76, .ref 6] σ (fun v τ => v = some (.int (tw_sch (tw_mF n t W) (tw_mJ n t W) (fun p => nI p) (fun _ => (-5)) 0 200 z)) ∧ tw_mfC σ τ) := by
  show tw_P L xs _ 107 0 [.ref 76, .ref 6, tw_U] [] σ _
  refine tw_sg 2 (i1 := 2) (ls1 := [.ref 76, .ref 6, tw_U]) (st1 := [.ref 6, .ref 76]) (σ1 := σ) rfl ?_
  refine tw_cl1 rfl (rfl) (by decide) (tw_e_begin (t := t) h6 h10 hW) ?_
  rintro _ τ1 ⟨rfl, hb⟩
  show tw_P L xs _ 107 3 [.ref 76, .ref 6, tw_U] [] τ1 _
  refine tw_sg 2 (i1 := 5) (ls1 := [.ref 76, .ref 6, .int (nI 0)]) (st1 := []) (σ1 := τ1) rfl ?_
  exact tw_l_flat (σ0 := σ) (P := P) h10 ht hP hN z1 z2 200 0 τ1 (by omega) hb (fun τ h => ⟨rfl, h⟩)
set_option maxHeartbeats 4000000 in
set_option maxRecDepth 100000 in
theorem tw_e_jm {n : Nat} {t : Nat → Nat → Nat} {W : Nat → Int32} {P : Nat → Nat} (h10 : n ≤ 10) (ht : ∀ c, c < n → ∀ i, t c i < 4) (hP : ∀ c, c < n → P c < 4) (hN : ∀ i, i < 200 → ∀ c, c < n → ∀ σ2, tw_mfC σ σ2 → tw_E L xs 10 89 [.ref 6, .int (nI c), .int (nI i)] σ2 (fun v σ1 => v = some (.int (nI (t c i))) ∧ σ2 = σ1)) (h6 : σ 6 4 = nI n) (hW : ∀ c, c < n → σ (2 * c + 18) 3 = W c) : tw_E L xs 12 108 [.ref 76, .ref 6] σ (fun v τ => v = some (.int (tw_sch (tw_mJ n t W) (fun _ => False) (fun i => nI (i + 1)) (fun _ => nI 0) 0 200 (-5))) ∧ tw_mfC σ τ) := by
  show tw_P L xs _ 108 0 [.ref 76, .ref 6, tw_U] [] σ _
  refine tw_sg 2 (i1 := 2) (ls1 := [.ref 76, .ref 6, tw_U]) (st1 := [.ref 6, .ref 76]) (σ1 := σ) rfl ?_
  refine tw_cl1 rfl (rfl) (by decide) (tw_e_begin (t := t) h6 h10 hW) ?_
  rintro _ τ1 ⟨rfl, hb⟩
  show tw_P L xs _ 108 3 [.ref 76, .ref 6, tw_U] [] τ1 _
  refine tw_sg 2 (i1 := 5) (ls1 := [.ref 76, .ref 6, .int (nI 1)]) (st1 := []) (σ1 := τ1) rfl ?_
  exact tw_l_jam (σ0 := σ) (P := P) h10 ht hP hN 200 0 τ1 (by omega) hb (fun τ h => ⟨rfl, h⟩)
set_option maxHeartbeats 4000000 in
set_option maxRecDepth 100000 in
theorem tw_o_returns {L : Nat} {xs : Nat → Int32} : tw_op L xs 149 223 [] := by
  intro σ hI
  obtain ⟨⟨n, r, hL⟩, hT, hPp, hPc, hLs, hIm, hC14, hC46, hC72⟩ := id hI
  obtain ⟨⟨hn10, hr50⟩, ⟨hn6, hn89⟩, ⟨hr9, hw9, hr90⟩, hCa, hRo, hLa⟩ := hL
  have hn6 : σ 6 4 = nI n := hn6
  have hn89 : σ 89 0 = nI n := hn89
  have hr9 : σ 9 3 = nI r := hr9
  have hw9 : σ 9 4 = nI n := hw9
  have hr90 : σ 90 0 = nI r := hr90
  rcases Nat.eq_zero_or_pos n with hn0 | hpos
  · subst hn0
    show tw_P L xs _ 149 0 [.ref 1] [] σ _
    refine tw_sg 2 (i1 := 2) (ls1 := [.ref 1]) (st1 := [.ref 6]) (σ1 := σ) rfl ?_
    refine tw_cl0 59 rfl (rfl) (by decide) ?_
    show tw_P L xs _ 82 0 [.ref 6] [] σ _
    refine tw_sgn 2 (i1 := 2) (ls0 := [.ref 6]) (st0 := [.int (σ 6 4)]) (σ0 := σ) (ls1 := [.ref 6]) (st1 := [.int (nI 0)]) (σ1 := σ) rfl (rfl) (by simp only [hn6, tw_nadd, tw_nmul]) (rfl) ?_
    refine tw_ri rfl (rfl) ?_
    show tw_P L xs _ 149 3 [.ref 1] [.int (nI 0)] σ _
    refine tw_bzF (c := .ne) rfl (by rw [tw_cne', tw_neq (by omega) (by omega)] <;> omega) ?_
    show tw_P L xs _ 149 4 [.ref 1] [] σ _
    refine tw_sg 2 (i1 := 11) (ls1 := [.ref 1]) (st1 := [.int (-3)]) (σ1 := σ) rfl ?_
    refine tw_ri rfl (rfl) ?_
    refine ⟨_, rfl, ?_⟩
    show tw_P L xs _ 223 0 [.ref 88, tw_U] [] σ _
    refine tw_sg 3 (i1 := 3) (ls1 := [.ref 88, tw_U]) (st1 := [.int (nI 0), .ref 89]) (σ1 := σ) rfl ?_
    refine tw_al (k := 89) (j := 0) (len := 2) rfl rfl rfl rfl (rfl) (by omega) (by decide) ?_
    rw [hn89]
    refine tw_bzF (c := .ne) rfl (by rw [tw_cne', tw_neq (by omega) (by omega)] <;> omega) ?_
    show tw_P L xs _ 223 5 [.ref 88, tw_U] [] σ _
    refine tw_sg 1 (i1 := 6) (ls1 := [.ref 88, tw_U]) (st1 := [.int (-3)]) (σ1 := σ) rfl ?_
    refine tw_ri rfl (rfl) ?_
    exact ⟨rfl, hI⟩
  · obtain ⟨P, q, hPq⟩ := tw_cardsP hCa
    obtain ⟨t, htd⟩ : ∃ t : Nat → Nat → Nat, t = fun c i => tw_lvm σ n 7 0 c (r + i) := ⟨_, rfl⟩
    have ht : ∀ c, c < n → ∀ i, t c i < 4 := fun c _ i => by rw [htd]; exact Nat.lt_of_le_of_lt tw_lvm_le (by decide)
    have hW : ∀ c, c < n → σ (2 * c + 18) 3 = σ 94 c := fun c hc => (tw_iCards0.mp hCa c hc).2.2.2
    have hN : ∀ i, i < 200 → ∀ c, c < n → ∀ σ1, tw_mfC σ σ1 → tw_E L xs 10 89 [.ref 6, .int (nI c), .int (nI i)] σ1 (fun v σ2 => v = some (.int (nI (t c i))) ∧ σ1 = σ2) := fun i hi c hc σ1 hf => tw_E_mono (tw_e_nextC (μ := σ) (b := i) ((hf 6 4 (by omega) (by omega) (by omega)).trans hn6) ((hf 9 3 (by omega) (by omega) (by omega)).trans hr9) (fun k j g1 g2 => hf k j (by omega) (by omega) (by omega)) hLa hn10 (by omega)) (fun v σ2 h => ⟨by obtain ⟨⟨u, e, hu⟩, _⟩ := h; rw [e, hu hc, htd], h.2⟩)
    show tw_P L xs _ 149 0 [.ref 1] [] σ _
    refine tw_sg 2 (i1 := 2) (ls1 := [.ref 1]) (st1 := [.ref 6]) (σ1 := σ) rfl ?_
    refine tw_cl0 59 rfl (rfl) (by decide) ?_
    show tw_P L xs _ 82 0 [.ref 6] [] σ _
    refine tw_sgn 2 (i1 := 2) (ls0 := [.ref 6]) (st0 := [.int (σ 6 4)]) (σ0 := σ) (ls1 := [.ref 6]) (st1 := [.int (nI n)]) (σ1 := σ) rfl (rfl) (by simp only [hn6, tw_nadd, tw_nmul]) (rfl) ?_
    refine tw_ri rfl (rfl) ?_
    show tw_P L xs _ 149 3 [.ref 1] [.int (nI n)] σ _
    refine tw_bzT (c := .ne) rfl (by rw [tw_cne, tw_neq (by omega) (by omega)] <;> omega) ?_
    show tw_P L xs _ 149 6 [.ref 1] [] σ _
    refine tw_sg 4 (i1 := 10) (ls1 := [.ref 1]) (st1 := [.ref 6, .ref 76]) (σ1 := σ) rfl ?_
    refine tw_cl1 rfl (rfl) (by decide) (tw_e_ret (t := t) (W := σ 94) (P := P) hn10 ht (fun c hc => (hPq c hc).1.1) hN hn6 hW) ?_
    rintro _ τ ⟨rfl, hτ⟩
    show tw_P L xs _ 149 11 [.ref 1] [.int (tw_sch (tw_mJ n t (σ 94)) (fun i => tw_mA n t P (i + 1)) (fun _ => (-5)) (fun i => nI (i + 1)) 0 200 (-5))] τ _
    refine tw_ri rfl (rfl) ?_
    refine ⟨_, rfl, ?_⟩
    show tw_P L xs _ 223 0 [.ref 88, tw_U] [] τ _
    refine tw_sg 3 (i1 := 3) (ls1 := [.ref 88, tw_U]) (st1 := [.int (nI 0), .ref 89]) (σ1 := τ) rfl ?_
    refine tw_al (k := 89) (j := 0) (len := 2) rfl rfl rfl rfl (rfl) (by omega) (by decide) ?_
    rw [((hτ 89 0 (by omega) (by omega) (by omega)).trans hn89)]
    refine tw_bzT (c := .ne) rfl (by rw [tw_cne, tw_neq (by omega) (by omega)] <;> omega) ?_
    show tw_P L xs _ 223 7 [.ref 88, tw_U] [] τ _
    refine tw_sg 1 (i1 := 8) (ls1 := [.ref 88, tw_U]) (st1 := [.ref 88]) (σ1 := τ) rfl ?_
    refine tw_cl1 rfl (rfl) (by decide) (tw_e_begins (W := σ 94) (P := P) (t := t) ((hτ 89 0 (by omega) (by omega) (by omega)).trans hn89) hn10 (fun c hc => hτ 94 c (by omega) (by omega) (by omega)) (fun c hc => ((hτ 93 c (by omega) (by omega) (by omega)).trans (hPq c hc).1.2.2))) ?_
    rintro _ υ ⟨rfl, hb⟩
    show tw_P L xs _ 223 9 [.ref 88, tw_U] [] υ _
    refine tw_sg 2 (i1 := 11) (ls1 := [.ref 88, .int (nI 1)]) (st1 := []) (σ1 := υ) rfl ?_
    refine tw_P_le (d := 11) (tw_l_mret (σ0 := τ) (r := r) (t := t) (W := σ 94) (P := P) hn10 hr50 ((hτ 89 0 (by omega) (by omega) (by omega)).trans hn89) ((hτ 90 0 (by omega) (by omega) (by omega)).trans hr90) ht (fun c hc => ⟨(hPq c hc).1.1, ((hτ 93 c (by omega) (by omega) (by omega)).trans (hPq c hc).1.2.2)⟩) (fun i hi σ1 hf => tw_E_mono (tw_e_layLaw (μ := σ) (p := r + i) ((hf 89 0 (by omega) (by omega) (by omega)).trans ((hτ 89 0 (by omega) (by omega) (by omega)).trans hn89)) (fun k j g1 g2 => (hf k j (by omega) (by omega) (by omega)).trans (hτ k j (by omega) (by omega) (by omega))) hLa hn10 (by omega)) (fun v σ2 h => by rw [htd]; exact h)) 200 0 υ (by omega) hb (fun ω hω => ⟨rfl, ?_⟩)) (by decide)
    refine hI.keep (fun k j g => ?_)
    rw [hω k j (fun q => g (by unfold tw_scr; omega)) (fun q => g (by unfold tw_scr; omega)) (fun q => g (by unfold tw_scr; omega)), hτ k j (fun q => g (by unfold tw_scr; omega)) (fun q => g (by unfold tw_scr; omega)) (fun q => g (by unfold tw_scr; omega))]
set_option maxHeartbeats 4000000 in
set_option maxRecDepth 100000 in
theorem tw_o_flat {L : Nat} {xs : Nat → Int32} : tw_op L xs 150 224 [] := by
  intro σ hI
  obtain ⟨⟨n, r, hL⟩, hT, hPp, hPc, hLs, hIm, hC14, hC46, hC72⟩ := id hI
  obtain ⟨⟨hn10, hr50⟩, ⟨hn6, hn89⟩, ⟨hr9, hw9, hr90⟩, hCa, hRo, hLa⟩ := hL
  have hn6 : σ 6 4 = nI n := hn6
  have hn89 : σ 89 0 = nI n := hn89
  have hr9 : σ 9 3 = nI r := hr9
  have hw9 : σ 9 4 = nI n := hw9
  have hr90 : σ 90 0 = nI r := hr90
  rcases Nat.eq_zero_or_pos n with hn0 | hpos
  · subst hn0
    show tw_P L xs _ 150 0 [.ref 1] [] σ _
    refine tw_sg 2 (i1 := 2) (ls1 := [.ref 1]) (st1 := [.ref 6]) (σ1 := σ) rfl ?_
    refine tw_cl0 59 rfl (rfl) (by decide) ?_
    show tw_P L xs _ 82 0 [.ref 6] [] σ _
    refine tw_sgn 2 (i1 := 2) (ls0 := [.ref 6]) (st0 := [.int (σ 6 4)]) (σ0 := σ) (ls1 := [.ref 6]) (st1 := [.int (nI 0)]) (σ1 := σ) rfl (rfl) (by simp only [hn6, tw_nadd, tw_nmul]) (rfl) ?_
    refine tw_ri rfl (rfl) ?_
    show tw_P L xs _ 150 3 [.ref 1] [.int (nI 0)] σ _
    refine tw_bzF (c := .ne) rfl (by rw [tw_cne', tw_neq (by omega) (by omega)] <;> omega) ?_
    show tw_P L xs _ 150 4 [.ref 1] [] σ _
    refine tw_sg 2 (i1 := 11) (ls1 := [.ref 1]) (st1 := [.int (-3)]) (σ1 := σ) rfl ?_
    refine tw_ri rfl (rfl) ?_
    refine ⟨_, rfl, ?_⟩
    show tw_P L xs _ 224 0 [.ref 88, tw_U] [] σ _
    refine tw_sg 3 (i1 := 3) (ls1 := [.ref 88, tw_U]) (st1 := [.int (nI 0), .ref 89]) (σ1 := σ) rfl ?_
    refine tw_al (k := 89) (j := 0) (len := 2) rfl rfl rfl rfl (rfl) (by omega) (by decide) ?_
    rw [hn89]
    refine tw_bzF (c := .ne) rfl (by rw [tw_cne', tw_neq (by omega) (by omega)] <;> omega) ?_
    show tw_P L xs _ 224 5 [.ref 88, tw_U] [] σ _
    refine tw_sg 1 (i1 := 6) (ls1 := [.ref 88, tw_U]) (st1 := [.int (-3)]) (σ1 := σ) rfl ?_
    refine tw_ri rfl (rfl) ?_
    exact ⟨rfl, hI⟩
  · obtain ⟨P, q, hPq⟩ := tw_cardsP hCa
    obtain ⟨t, htd⟩ : ∃ t : Nat → Nat → Nat, t = fun c i => tw_lvm σ n 7 0 c (r + i) := ⟨_, rfl⟩
    have ht : ∀ c, c < n → ∀ i, t c i < 4 := fun c _ i => by rw [htd]; exact Nat.lt_of_le_of_lt tw_lvm_le (by decide)
    have hW : ∀ c, c < n → σ (2 * c + 18) 3 = σ 94 c := fun c hc => (tw_iCards0.mp hCa c hc).2.2.2
    have hN : ∀ i, i < 200 → ∀ c, c < n → ∀ σ1, tw_mfC σ σ1 → tw_E L xs 10 89 [.ref 6, .int (nI c), .int (nI i)] σ1 (fun v σ2 => v = some (.int (nI (t c i))) ∧ σ1 = σ2) := fun i hi c hc σ1 hf => tw_E_mono (tw_e_nextC (μ := σ) (b := i) ((hf 6 4 (by omega) (by omega) (by omega)).trans hn6) ((hf 9 3 (by omega) (by omega) (by omega)).trans hr9) (fun k j g1 g2 => hf k j (by omega) (by omega) (by omega)) hLa hn10 (by omega)) (fun v σ2 h => ⟨by obtain ⟨⟨u, e, hu⟩, _⟩ := h; rw [e, hu hc, htd], h.2⟩)
    obtain ⟨z, z1, z2⟩ : ∃ z : Int32, (tw_mF n t (σ 94) 200 → z = nI 200) ∧ (¬ tw_mF n t (σ 94) 200 → z = (-5)) := ⟨@ite _ (tw_mF n t (σ 94) 200) (Classical.propDecidable _) (nI 200) (-5), fun h => if_pos h, fun h => if_neg h⟩
    show tw_P L xs _ 150 0 [.ref 1] [] σ _
    refine tw_sg 2 (i1 := 2) (ls1 := [.ref 1]) (st1 := [.ref 6]) (σ1 := σ) rfl ?_
    refine tw_cl0 59 rfl (rfl) (by decide) ?_
    show tw_P L xs _ 82 0 [.ref 6] [] σ _
    refine tw_sgn 2 (i1 := 2) (ls0 := [.ref 6]) (st0 := [.int (σ 6 4)]) (σ0 := σ) (ls1 := [.ref 6]) (st1 := [.int (nI n)]) (σ1 := σ) rfl (rfl) (by simp only [hn6, tw_nadd, tw_nmul]) (rfl) ?_
    refine tw_ri rfl (rfl) ?_
    show tw_P L xs _ 150 3 [.ref 1] [.int (nI n)] σ _
    refine tw_bzT (c := .ne) rfl (by rw [tw_cne, tw_neq (by omega) (by omega)] <;> omega) ?_
    show tw_P L xs _ 150 6 [.ref 1] [] σ _
    refine tw_sg 4 (i1 := 10) (ls1 := [.ref 1]) (st1 := [.ref 6, .ref 76]) (σ1 := σ) rfl ?_
    refine tw_cl1 rfl (rfl) (by decide) (tw_e_flt (t := t) (W := σ 94) (P := P) hn10 ht (fun c hc => (hPq c hc).1.1) hN hn6 hW z1 z2) ?_
    rintro _ τ ⟨rfl, hτ⟩
    show tw_P L xs _ 150 11 [.ref 1] [.int (tw_sch (tw_mF n t (σ 94)) (tw_mJ n t (σ 94)) (fun p => nI p) (fun _ => (-5)) 0 200 z)] τ _
    refine tw_ri rfl (rfl) ?_
    refine ⟨_, rfl, ?_⟩
    show tw_P L xs _ 224 0 [.ref 88, tw_U] [] τ _
    refine tw_sg 3 (i1 := 3) (ls1 := [.ref 88, tw_U]) (st1 := [.int (nI 0), .ref 89]) (σ1 := τ) rfl ?_
    refine tw_al (k := 89) (j := 0) (len := 2) rfl rfl rfl rfl (rfl) (by omega) (by decide) ?_
    rw [((hτ 89 0 (by omega) (by omega) (by omega)).trans hn89)]
    refine tw_bzT (c := .ne) rfl (by rw [tw_cne, tw_neq (by omega) (by omega)] <;> omega) ?_
    show tw_P L xs _ 224 7 [.ref 88, tw_U] [] τ _
    refine tw_sg 1 (i1 := 8) (ls1 := [.ref 88, tw_U]) (st1 := [.ref 88]) (σ1 := τ) rfl ?_
    refine tw_cl1 rfl (rfl) (by decide) (tw_e_begins (W := σ 94) (P := P) (t := t) ((hτ 89 0 (by omega) (by omega) (by omega)).trans hn89) hn10 (fun c hc => hτ 94 c (by omega) (by omega) (by omega)) (fun c hc => ((hτ 93 c (by omega) (by omega) (by omega)).trans (hPq c hc).1.2.2))) ?_
    rintro _ υ ⟨rfl, hb⟩
    show tw_P L xs _ 224 9 [.ref 88, tw_U] [] υ _
    refine tw_sg 2 (i1 := 11) (ls1 := [.ref 88, .int (nI 0)]) (st1 := []) (σ1 := υ) rfl ?_
    refine tw_sg 2 (i1 := 13) (ls1 := [.ref 88, .int (nI 0)]) (st1 := [.int (nI 200), .int (nI 0)]) (σ1 := υ) rfl ?_
    refine tw_biF (c := .gt) rfl (by rw [tw_cgt', tw_nlt (by omega) (by omega)] <;> omega) ?_
    show tw_P L xs _ 224 14 [.ref 88, .int (nI 0)] [] υ _
    refine tw_sg 1 (i1 := 15) (ls1 := [.ref 88, .int (nI 0)]) (st1 := [.int (nI 0)]) (σ1 := υ) rfl ?_
    refine tw_bzT (c := .le) rfl (by rw [tw_cle, tw_nle (by omega) (by omega)] <;> omega) ?_
    show tw_P L xs _ 224 22 [.ref 88, .int (nI 0)] [] υ _
    refine tw_sg 1 (i1 := 23) (ls1 := [.ref 88, .int (nI 0)]) (st1 := [.ref 88]) (σ1 := υ) rfl ?_
    refine tw_cl1 rfl (rfl) (by decide) (tw_e_mflat (i := 0) (σ0 := τ) (t := t) (W := σ 94) (P := P) hn10 ((hτ 89 0 (by omega) (by omega) (by omega)).trans hn89) hb) ?_
    rintro _ _ ⟨rfl, rfl⟩
    show tw_P L xs _ 224 24 [.ref 88, .int (nI 0)] [.int (tw_bl (tw_mF n t (σ 94) 0))] υ _
    refine tw_bz (c := .eq) rfl (fun h301 => ?_) (fun h301 => ?_)
    · rw [tw_ceq] at h301
      have hF := tw_bl0 h301
      refine tw_sgn 2 (i1 := 11) (ls0 := [.ref 88, .int (nI 0 + nI 1)]) (st0 := []) (σ0 := υ) (ls1 := [.ref 88, .int (nI 1)]) (st1 := []) (σ1 := υ) rfl (by simp only [tw_nadd, tw_nmul]) (rfl) (rfl) ?_
      refine tw_P_le (d := 11) (tw_l_mflt (σ0 := τ) (r := r) (t := t) (W := σ 94) (P := P) hn10 hr50 ((hτ 89 0 (by omega) (by omega) (by omega)).trans hn89) ((hτ 90 0 (by omega) (by omega) (by omega)).trans hr90) ht (fun c hc => ⟨(hPq c hc).1.1, ((hτ 93 c (by omega) (by omega) (by omega)).trans (hPq c hc).1.2.2)⟩) (fun i hi σ1 hf => tw_E_mono (tw_e_layLaw (μ := σ) (p := r + i) ((hf 89 0 (by omega) (by omega) (by omega)).trans ((hτ 89 0 (by omega) (by omega) (by omega)).trans hn89)) (fun k j g1 g2 => (hf k j (by omega) (by omega) (by omega)).trans (hτ k j (by omega) (by omega) (by omega))) hLa hn10 (by omega)) (fun v σ2 h => by rw [htd]; exact h)) 200 0 υ (by omega) hb (fun ω hω => ⟨?_, ?_⟩)) (by decide)
      · rw [tw_sch_flat 200 0 z z1 z2, if_neg hF]
      · skip
        refine hI.keep (fun k j g => ?_)
        rw [hω k j (fun q => g (by unfold tw_scr; omega)) (fun q => g (by unfold tw_scr; omega)) (fun q => g (by unfold tw_scr; omega)), hτ k j (fun q => g (by unfold tw_scr; omega)) (fun q => g (by unfold tw_scr; omega)) (fun q => g (by unfold tw_scr; omega))]
    · rw [tw_ceq'] at h301
      have hF := tw_bl1 h301
      refine tw_sg 1 (i1 := 26) (ls1 := [.ref 88, .int (nI 0)]) (st1 := [.int (nI 0)]) (σ1 := υ) rfl ?_
      refine tw_ri rfl (rfl) ?_
      refine ⟨by rw [tw_sch_flat 200 0 z z1 z2, if_pos hF], ?_⟩
      have hω := hb.1
      refine hI.keep (fun k j g => ?_)
      rw [hω k j (fun q => g (by unfold tw_scr; omega)) (fun q => g (by unfold tw_scr; omega)) (fun q => g (by unfold tw_scr; omega)), hτ k j (fun q => g (by unfold tw_scr; omega)) (fun q => g (by unfold tw_scr; omega)) (fun q => g (by unfold tw_scr; omega))]
set_option maxHeartbeats 4000000 in
set_option maxRecDepth 100000 in
theorem tw_o_jam {L : Nat} {xs : Nat → Int32} : tw_op L xs 151 225 [] := by
  intro σ hI
  obtain ⟨⟨n, r, hL⟩, hT, hPp, hPc, hLs, hIm, hC14, hC46, hC72⟩ := id hI
  obtain ⟨⟨hn10, hr50⟩, ⟨hn6, hn89⟩, ⟨hr9, hw9, hr90⟩, hCa, hRo, hLa⟩ := hL
  have hn6 : σ 6 4 = nI n := hn6
  have hn89 : σ 89 0 = nI n := hn89
  have hr9 : σ 9 3 = nI r := hr9
  have hw9 : σ 9 4 = nI n := hw9
  have hr90 : σ 90 0 = nI r := hr90
  rcases Nat.eq_zero_or_pos n with hn0 | hpos
  · subst hn0
    show tw_P L xs _ 151 0 [.ref 1] [] σ _
    refine tw_sg 2 (i1 := 2) (ls1 := [.ref 1]) (st1 := [.ref 6]) (σ1 := σ) rfl ?_
    refine tw_cl0 59 rfl (rfl) (by decide) ?_
    show tw_P L xs _ 82 0 [.ref 6] [] σ _
    refine tw_sgn 2 (i1 := 2) (ls0 := [.ref 6]) (st0 := [.int (σ 6 4)]) (σ0 := σ) (ls1 := [.ref 6]) (st1 := [.int (nI 0)]) (σ1 := σ) rfl (rfl) (by simp only [hn6, tw_nadd, tw_nmul]) (rfl) ?_
    refine tw_ri rfl (rfl) ?_
    show tw_P L xs _ 151 3 [.ref 1] [.int (nI 0)] σ _
    refine tw_bzF (c := .ne) rfl (by rw [tw_cne', tw_neq (by omega) (by omega)] <;> omega) ?_
    show tw_P L xs _ 151 4 [.ref 1] [] σ _
    refine tw_sg 2 (i1 := 11) (ls1 := [.ref 1]) (st1 := [.int (-3)]) (σ1 := σ) rfl ?_
    refine tw_ri rfl (rfl) ?_
    refine ⟨_, rfl, ?_⟩
    show tw_P L xs _ 225 0 [.ref 88, tw_U] [] σ _
    refine tw_sg 3 (i1 := 3) (ls1 := [.ref 88, tw_U]) (st1 := [.int (nI 0), .ref 89]) (σ1 := σ) rfl ?_
    refine tw_al (k := 89) (j := 0) (len := 2) rfl rfl rfl rfl (rfl) (by omega) (by decide) ?_
    rw [hn89]
    refine tw_bzF (c := .ne) rfl (by rw [tw_cne', tw_neq (by omega) (by omega)] <;> omega) ?_
    show tw_P L xs _ 225 5 [.ref 88, tw_U] [] σ _
    refine tw_sg 1 (i1 := 6) (ls1 := [.ref 88, tw_U]) (st1 := [.int (-3)]) (σ1 := σ) rfl ?_
    refine tw_ri rfl (rfl) ?_
    exact ⟨rfl, hI⟩
  · obtain ⟨P, q, hPq⟩ := tw_cardsP hCa
    obtain ⟨t, htd⟩ : ∃ t : Nat → Nat → Nat, t = fun c i => tw_lvm σ n 7 0 c (r + i) := ⟨_, rfl⟩
    have ht : ∀ c, c < n → ∀ i, t c i < 4 := fun c _ i => by rw [htd]; exact Nat.lt_of_le_of_lt tw_lvm_le (by decide)
    have hW : ∀ c, c < n → σ (2 * c + 18) 3 = σ 94 c := fun c hc => (tw_iCards0.mp hCa c hc).2.2.2
    have hN : ∀ i, i < 200 → ∀ c, c < n → ∀ σ1, tw_mfC σ σ1 → tw_E L xs 10 89 [.ref 6, .int (nI c), .int (nI i)] σ1 (fun v σ2 => v = some (.int (nI (t c i))) ∧ σ1 = σ2) := fun i hi c hc σ1 hf => tw_E_mono (tw_e_nextC (μ := σ) (b := i) ((hf 6 4 (by omega) (by omega) (by omega)).trans hn6) ((hf 9 3 (by omega) (by omega) (by omega)).trans hr9) (fun k j g1 g2 => hf k j (by omega) (by omega) (by omega)) hLa hn10 (by omega)) (fun v σ2 h => ⟨by obtain ⟨⟨u, e, hu⟩, _⟩ := h; rw [e, hu hc, htd], h.2⟩)
    show tw_P L xs _ 151 0 [.ref 1] [] σ _
    refine tw_sg 2 (i1 := 2) (ls1 := [.ref 1]) (st1 := [.ref 6]) (σ1 := σ) rfl ?_
    refine tw_cl0 59 rfl (rfl) (by decide) ?_
    show tw_P L xs _ 82 0 [.ref 6] [] σ _
    refine tw_sgn 2 (i1 := 2) (ls0 := [.ref 6]) (st0 := [.int (σ 6 4)]) (σ0 := σ) (ls1 := [.ref 6]) (st1 := [.int (nI n)]) (σ1 := σ) rfl (rfl) (by simp only [hn6, tw_nadd, tw_nmul]) (rfl) ?_
    refine tw_ri rfl (rfl) ?_
    show tw_P L xs _ 151 3 [.ref 1] [.int (nI n)] σ _
    refine tw_bzT (c := .ne) rfl (by rw [tw_cne, tw_neq (by omega) (by omega)] <;> omega) ?_
    show tw_P L xs _ 151 6 [.ref 1] [] σ _
    refine tw_sg 4 (i1 := 10) (ls1 := [.ref 1]) (st1 := [.ref 6, .ref 76]) (σ1 := σ) rfl ?_
    refine tw_cl1 rfl (rfl) (by decide) (tw_e_jm (t := t) (W := σ 94) (P := P) hn10 ht (fun c hc => (hPq c hc).1.1) hN hn6 hW) ?_
    rintro _ τ ⟨rfl, hτ⟩
    show tw_P L xs _ 151 11 [.ref 1] [.int (tw_sch (tw_mJ n t (σ 94)) (fun _ => False) (fun i => nI (i + 1)) (fun _ => nI 0) 0 200 (-5))] τ _
    refine tw_ri rfl (rfl) ?_
    refine ⟨_, rfl, ?_⟩
    show tw_P L xs _ 225 0 [.ref 88, tw_U] [] τ _
    refine tw_sg 3 (i1 := 3) (ls1 := [.ref 88, tw_U]) (st1 := [.int (nI 0), .ref 89]) (σ1 := τ) rfl ?_
    refine tw_al (k := 89) (j := 0) (len := 2) rfl rfl rfl rfl (rfl) (by omega) (by decide) ?_
    rw [((hτ 89 0 (by omega) (by omega) (by omega)).trans hn89)]
    refine tw_bzT (c := .ne) rfl (by rw [tw_cne, tw_neq (by omega) (by omega)] <;> omega) ?_
    show tw_P L xs _ 225 7 [.ref 88, tw_U] [] τ _
    refine tw_sg 1 (i1 := 8) (ls1 := [.ref 88, tw_U]) (st1 := [.ref 88]) (σ1 := τ) rfl ?_
    refine tw_cl1 rfl (rfl) (by decide) (tw_e_begins (W := σ 94) (P := P) (t := t) ((hτ 89 0 (by omega) (by omega) (by omega)).trans hn89) hn10 (fun c hc => hτ 94 c (by omega) (by omega) (by omega)) (fun c hc => ((hτ 93 c (by omega) (by omega) (by omega)).trans (hPq c hc).1.2.2))) ?_
    rintro _ υ ⟨rfl, hb⟩
    show tw_P L xs _ 225 9 [.ref 88, tw_U] [] υ _
    refine tw_sg 2 (i1 := 11) (ls1 := [.ref 88, .int (nI 1)]) (st1 := []) (σ1 := υ) rfl ?_
    refine tw_P_le (d := 11) (tw_l_mjm (σ0 := τ) (r := r) (t := t) (W := σ 94) (P := P) hn10 hr50 ((hτ 89 0 (by omega) (by omega) (by omega)).trans hn89) ((hτ 90 0 (by omega) (by omega) (by omega)).trans hr90) ht (fun c hc => ⟨(hPq c hc).1.1, ((hτ 93 c (by omega) (by omega) (by omega)).trans (hPq c hc).1.2.2)⟩) (fun i hi σ1 hf => tw_E_mono (tw_e_layLaw (μ := σ) (p := r + i) ((hf 89 0 (by omega) (by omega) (by omega)).trans ((hτ 89 0 (by omega) (by omega) (by omega)).trans hn89)) (fun k j g1 g2 => (hf k j (by omega) (by omega) (by omega)).trans (hτ k j (by omega) (by omega) (by omega))) hLa hn10 (by omega)) (fun v σ2 h => by rw [htd]; exact h)) 200 0 υ (by omega) hb (fun ω hω => ⟨rfl, ?_⟩)) (by decide)
    refine hI.keep (fun k j g => ?_)
    rw [hω k j (fun q => g (by unfold tw_scr; omega)) (fun q => g (by unfold tw_scr; omega)) (fun q => g (by unfold tw_scr; omega)), hτ k j (fun q => g (by unfold tw_scr; omega)) (fun q => g (by unfold tw_scr; omega)) (fun q => g (by unfold tw_scr; omega))]
end tw_s59
