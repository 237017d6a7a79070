/-! in mind, the reference -/
section tw_s58
variable {L : Nat} {xs : Nat → Int32} {σ : tw_Mem} {x y w : Int32} {n r i c k h q a b e : Nat}
set_option maxHeartbeats 4000000 in
set_option maxRecDepth 100000 in
theorem tw_l_begins {L : Nat} {xs : Nat → Int32} {Q : Option Value → tw_Mem → Prop} {σ0 : tw_Mem} {n : Nat} {t : Nat → Nat → Nat} {W : Nat → Int32} {P : Nat → Nat} (h89 : σ0 89 0 = nI n) (h10 : n ≤ 10) (hW : ∀ c, c < n → σ0 94 c = W c) (hP : ∀ c, c < n → σ0 93 c = nI (P c)) : ∀ (f : Nat) (c : Nat) (σ : tw_Mem), c + f = n → ((tw_mfM σ0 σ ∧ ∀ d, d < c → σ 111 d = nI (P d) ∧ σ 112 d = W d) ∧ ∀ τ : tw_Mem, tw_mdM σ0 τ n t W P 0 0 → Q none τ) → tw_P L xs 0 219 2 [.ref 88, .int (nI c)] [] σ Q := by
  intro f
  induction f with
  | zero =>
    intro c σ hf hQ
    refine tw_sg 4 (i1 := 6) (ls1 := [.ref 88, .int (nI c)]) (st1 := [.int (nI 0), .ref 89, .int (nI c)]) (σ1 := σ) rfl ?_
    refine tw_al (k := 89) (j := 0) (len := 2) rfl rfl rfl rfl (rfl) (by omega) (by decide) ?_
    rw [((hQ.1.1 89 0 (by omega) (by omega) (by omega)).trans h89)]
    refine tw_biT (c := .ge) rfl (by rw [tw_cge, tw_nle (by omega) (by omega)] <;> omega) ?_
    show tw_P L xs _ 219 26 [.ref 88, .int (nI c)] [] σ _
    refine tw_rv rfl ?_
    refine hQ.2 σ ⟨hQ.1.1, fun d hd => ?_⟩
    have e := hQ.1.2 d (by omega)
    rw [if_neg (by omega), tw_pS, tw_wS, e.1, e.2]
    exact ⟨rfl, rfl⟩
  | succ f ih =>
    intro c σ hf hQ
    refine tw_sg 4 (i1 := 6) (ls1 := [.ref 88, .int (nI c)]) (st1 := [.int (nI 0), .ref 89, .int (nI c)]) (σ1 := σ) rfl ?_
    refine tw_al (k := 89) (j := 0) (len := 2) rfl rfl rfl rfl (rfl) (by omega) (by decide) ?_
    rw [((hQ.1.1 89 0 (by omega) (by omega) (by omega)).trans h89)]
    refine tw_biF (c := .ge) rfl (by rw [tw_cge', tw_nle (by omega) (by omega)] <;> omega) ?_
    show tw_P L xs _ 219 8 [.ref 88, .int (nI c)] [] σ _
    refine tw_sg 6 (i1 := 14) (ls1 := [.ref 88, .int (nI c)]) (st1 := [.int (nI c), .ref 93, .int (nI c), .ref 111]) (σ1 := σ) rfl ?_
    refine tw_al (k := 93) (j := c) (len := 20) rfl rfl rfl rfl (rfl) (by omega) (by decide) ?_
    rw [((hQ.1.1 93 c (by omega) (by omega) (by omega)).trans (hP c (by omega)))]
    refine tw_as (k := 111) (j := c) (len := 10) rfl rfl rfl (rfl) (by omega) (by decide) ?_
    refine tw_sg 6 (i1 := 22) (ls1 := [.ref 88, .int (nI c)]) (st1 := [.int (nI c), .ref 94, .int (nI c), .ref 112]) (σ1 := (tw_upd σ 111 c (nI (P c)))) rfl ?_
    refine tw_al (k := 94) (j := c) (len := 20) rfl rfl rfl rfl (rfl) (by omega) (by decide) ?_
    rw [show (tw_upd σ 111 c (nI (P c))) 94 c = σ 94 c from by repeat (first | exact rfl | exact tw_upd_at | rw [tw_upd_off (by omega)]), ((hQ.1.1 94 c (by omega) (by omega) (by omega)).trans (hW c (by omega)))]
    refine tw_as (k := 112) (j := c) (len := 10) rfl rfl rfl (rfl) (by omega) (by decide) ?_
    refine tw_sgn 2 (i1 := 2) (ls0 := [.ref 88, .int (nI c + nI 1)]) (st0 := []) (σ0 := (tw_upd (tw_upd σ 111 c (nI (P c))) 112 c (W c))) (ls1 := [.ref 88, .int (nI (c + 1))]) (st1 := []) (σ1 := (tw_upd (tw_upd σ 111 c (nI (P c))) 112 c (W c))) rfl (by simp only [tw_nadd, tw_nmul]) (rfl) (rfl) ?_
    refine ih (c + 1) _ (by omega) ⟨⟨fun k j g1 g2 g3 => ?_, fun d hd => ?_⟩, hQ.2⟩
    · rw [tw_upd_off (by omega), tw_upd_off (by omega)]; exact hQ.1.1 k j g1 g2 g3
    · by_cases z : d = c
      · subst z; rw [tw_upd_off (by omega), tw_upd_at, tw_upd_at]; exact ⟨rfl, rfl⟩
      · rw [tw_upd_off (by omega), tw_upd_off (by omega), tw_upd_off (by omega), tw_upd_off (by omega)]; exact hQ.1.2 d (by omega)
set_option maxHeartbeats 4000000 in
set_option maxRecDepth 100000 in
theorem tw_e_begins {n : Nat} {t : Nat → Nat → Nat} {W : Nat → Int32} {P : Nat → Nat} (h89 : σ 89 0 = nI n) (h10 : n ≤ 10) (hW : ∀ c, c < n → σ 94 c = W c) (hP : ∀ c, c < n → σ 93 c = nI (P c)) : tw_E L xs 0 219 [.ref 88] σ (fun v τ => v = none ∧ tw_mdM σ τ n t W P 0 0) := by
  show tw_P L xs _ 219 0 [.ref 88, tw_U] [] σ _
  refine tw_sg 2 (i1 := 2) (ls1 := [.ref 88, .int (nI 0)]) (st1 := []) (σ1 := σ) rfl ?_
  exact tw_l_begins (σ0 := σ) h89 h10 hW hP n 0 _ (by omega) ⟨⟨fun k j g1 g2 g3 => rfl, fun d hd => by omega⟩, fun τ h => ⟨rfl, h⟩⟩
set_option maxHeartbeats 4000000 in
set_option maxRecDepth 100000 in
theorem tw_l_mchk {L : Nat} {xs : Nat → Int32} {Q : Option Value → tw_Mem → Prop} {σ0 σ : tw_Mem} {n i : Nat} {x : Int32} {t : Nat → Nat → Nat} {W : Nat → Int32} {P : Nat → Nat} (h10 : n ≤ 10) (h89 : σ0 89 0 = nI n) (ht : ∀ c, c < n → t c i < 4) (hQ : tw_mdM σ0 σ n t W P i 0) (hT : ∀ c, c < n → σ 110 c = nI (t c i)) (hE1 : tw_mJ n t W i → Q (some (.int (nI 0))) σ) (hE2 : ¬ tw_mJ n t W i → tw_P L xs 10 220 36 [.ref 88, .int x, .int (nI n)] [] σ Q) : ∀ (f c : Nat), c + f = n → (∀ d, d < c → tw_tt (tw_wS (W d) (t d) (i + 1)) = nI 0) → tw_P L xs 10 220 12 [.ref 88, .int x, .int (nI c)] [] σ Q := by
  intro f
  induction f with
  | zero =>
    intro c hf hno
    have hf : n = c := Eq.symm hf
    subst hf
    have hJ : ¬ tw_mJ n t W i := fun h => by obtain ⟨c, h1, h2⟩ := h; exact h2 (hno c h1)
    refine tw_sg 4 (i1 := 16) (ls1 := [.ref 88, .int x, .int (nI n)]) (st1 := [.int (nI 0), .ref 89, .int (nI n)]) (σ1 := σ) rfl ?_
    refine tw_al (k := 89) (j := 0) (len := 2) rfl rfl rfl rfl (rfl) (by omega) (by decide) ?_
    rw [((hQ.1 89 0 (by omega) (by omega) (by omega)).trans h89)]
    refine tw_biT (c := .ge) rfl (by rw [tw_cge, tw_nle (by omega) (by omega)] <;> omega) ?_
    show tw_P L xs _ 220 36 [.ref 88, .int x, .int (nI n)] [] σ _
    exact hE2 hJ
  | succ f ih =>
    intro c hf hno
    have e112 : σ 112 c = tw_wS (W c) (t c) i := by rw [(hQ.2 c (by omega)).2, if_neg (by omega)]
    refine tw_sg 4 (i1 := 16) (ls1 := [.ref 88, .int x, .int (nI c)]) (st1 := [.int (nI 0), .ref 89, .int (nI c)]) (σ1 := σ) rfl ?_
    refine tw_al (k := 89) (j := 0) (len := 2) rfl rfl rfl rfl (rfl) (by omega) (by decide) ?_
    rw [((hQ.1 89 0 (by omega) (by omega) (by omega)).trans h89)]
    refine tw_biF (c := .ge) rfl (by rw [tw_cge', tw_nle (by omega) (by omega)] <;> omega) ?_
    show tw_P L xs _ 220 18 [.ref 88, .int x, .int (nI c)] [] σ _
    refine tw_sg 3 (i1 := 21) (ls1 := [.ref 88, .int x, .int (nI c)]) (st1 := [.int (nI c), .ref 112]) (σ1 := σ) rfl ?_
    refine tw_al (k := 112) (j := c) (len := 10) rfl rfl rfl rfl (rfl) (by omega) (by decide) ?_
    rw [e112]
    refine tw_sg 3 (i1 := 25) (ls1 := [.ref 88, .int x, .int (nI c)]) (st1 := [.int (nI c), .ref 110, .int (tw_wS (W c) (t c) i)]) (σ1 := σ) rfl ?_
    refine tw_al (k := 110) (j := c) (len := 10) rfl rfl rfl rfl (rfl) (by omega) (by decide) ?_
    rw [(hT c (by omega))]
    refine tw_cl1 rfl (rfl) (by decide) (tw_e_grown (ht c (by omega))) ?_
    rintro _ _ ⟨rfl, rfl⟩
    show tw_P L xs _ 220 27 [.ref 88, .int x, .int (nI c)] [.int (tw_gI (t c i)), .int (tw_wS (W c) (t c) i)] σ _
    refine tw_sg 3 (i1 := 30) (ls1 := [.ref 88, .int x, .int (nI c)]) (st1 := [.int (nI 99), .int (-99), .int ((tw_wS (W c) (t c) i) + (tw_gI (t c i)))]) (σ1 := σ) rfl ?_
    refine tw_cl1 rfl (rfl) (by decide) (tw_e_ti) ?_
    rintro _ _ ⟨rfl, rfl⟩
    show tw_P L xs _ 220 31 [.ref 88, .int x, .int (nI c)] [.int (tw_ti (tw_wS (W c) (t c) i + tw_gI (t c i)))] σ _
    refine tw_bz (c := .ne) rfl (fun h1 => ?_) (fun h1 => ?_)
    · rw [tw_cne] at h1
      refine tw_sgn 2 (i1 := 12) (ls0 := [.ref 88, .int x, .int (nI c + nI 1)]) (st0 := []) (σ0 := σ) (ls1 := [.ref 88, .int x, .int (nI (c + 1))]) (st1 := []) (σ1 := σ) rfl (by simp only [tw_nadd, tw_nmul]) (rfl) (rfl) ?_
      refine ih (c + 1) (by omega) (fun d hd => ?_)
      by_cases z : d = c
      · rw [z]; exact Classical.byContradiction fun q => h1 (tw_tti.mpr q)
      · exact hno d (by omega)
    · rw [tw_cne'] at h1
      refine tw_sg 1 (i1 := 33) (ls1 := [.ref 88, .int x, .int (nI c)]) (st1 := [.int (nI 0)]) (σ1 := σ) rfl ?_
      refine tw_ri rfl (rfl) ?_
      exact hE1 ⟨c, by omega, tw_tti.mp h1⟩
set_option maxHeartbeats 4000000 in
set_option maxRecDepth 100000 in
theorem tw_l_mupd {L : Nat} {xs : Nat → Int32} {Q : Option Value → tw_Mem → Prop} {σ0 : tw_Mem} {n i : Nat} {x : Int32} {t : Nat → Nat → Nat} {W : Nat → Int32} {P : Nat → Nat} (h10 : n ≤ 10) (h89 : σ0 89 0 = nI n) (ht : ∀ c, c < n → t c i < 4) (hP : ∀ c, c < n → P c < 4) (hE : ∀ τ, tw_mdM σ0 τ n t W P i n → Q (some (.int (nI 1))) τ) : ∀ (f : Nat) (c : Nat) (σ : tw_Mem), c + f = n → (tw_mdM σ0 σ n t W P i c ∧ ∀ c, c < n → σ 110 c = nI (t c i)) → tw_P L xs 10 220 38 [.ref 88, .int x, .int (nI c)] [] σ Q := by
  intro f
  induction f with
  | zero =>
    intro c σ hf hQ
    obtain ⟨hI, hT⟩ := hQ
    refine tw_sg 4 (i1 := 42) (ls1 := [.ref 88, .int x, .int (nI c)]) (st1 := [.int (nI 0), .ref 89, .int (nI c)]) (σ1 := σ) rfl ?_
    refine tw_al (k := 89) (j := 0) (len := 2) rfl rfl rfl rfl (rfl) (by omega) (by decide) ?_
    rw [((hI.1 89 0 (by omega) (by omega) (by omega)).trans h89)]
    refine tw_biT (c := .ge) rfl (by rw [tw_cge, tw_nle (by omega) (by omega)] <;> omega) ?_
    show tw_P L xs _ 220 74 [.ref 88, .int x, .int (nI c)] [] σ _
    refine tw_sg 1 (i1 := 75) (ls1 := [.ref 88, .int x, .int (nI c)]) (st1 := [.int (nI 1)]) (σ1 := σ) rfl ?_
    refine tw_ri rfl (rfl) ?_
    have hf : n = c := Eq.symm hf
    subst hf
    exact hE σ hI
  | succ f ih =>
    intro c σ hf hQ
    obtain ⟨hI, hT⟩ := hQ
    have e112 : σ 112 c = tw_wS (W c) (t c) i := by rw [(hI.2 c (by omega)).2, if_neg (by omega)]
    have e111 : σ 111 c = nI (tw_pS (P c) (t c) i) := by rw [(hI.2 c (by omega)).1, if_neg (by omega)]
    have hm3 := tw_mI_le (t := t c i)
    have hps := tw_pS_lt (t := t c) (hP c (by omega)) i
    refine tw_sg 4 (i1 := 42) (ls1 := [.ref 88, .int x, .int (nI c)]) (st1 := [.int (nI 0), .ref 89, .int (nI c)]) (σ1 := σ) rfl ?_
    refine tw_al (k := 89) (j := 0) (len := 2) rfl rfl rfl rfl (rfl) (by omega) (by decide) ?_
    rw [((hI.1 89 0 (by omega) (by omega) (by omega)).trans h89)]
    refine tw_biF (c := .ge) rfl (by rw [tw_cge', tw_nle (by omega) (by omega)] <;> omega) ?_
    show tw_P L xs _ 220 44 [.ref 88, .int x, .int (nI c)] [] σ _
    refine tw_sg 6 (i1 := 50) (ls1 := [.ref 88, .int x, .int (nI c)]) (st1 := [.int (nI c), .ref 111, .int (nI c), .ref 111]) (σ1 := σ) rfl ?_
    refine tw_al (k := 111) (j := c) (len := 10) rfl rfl rfl rfl (rfl) (by omega) (by decide) ?_
    rw [e111]
    refine tw_sg 3 (i1 := 54) (ls1 := [.ref 88, .int x, .int (nI c)]) (st1 := [.int (nI c), .ref 110, .int (nI (tw_pS (P c) (t c) i)), .int (nI c), .ref 111]) (σ1 := σ) rfl ?_
    refine tw_al (k := 110) (j := c) (len := 10) rfl rfl rfl rfl (rfl) (by omega) (by decide) ?_
    rw [(hT c (by omega))]
    refine tw_cl1 rfl (rfl) (by decide) (tw_e_moved (ht c (by omega))) ?_
    rintro _ _ ⟨rfl, rfl⟩
    show tw_P L xs _ 220 56 [.ref 88, .int x, .int (nI c)] [.int (nI (tw_mI (t c i))), .int (nI (tw_pS (P c) (t c) i)), .int (nI c), .ref 111] σ _
    refine tw_sgn 2 (i1 := 58) (ls0 := [.ref 88, .int x, .int (nI c)]) (st0 := [.int (nI 4), .int (nI (tw_pS (P c) (t c) i) + nI (tw_mI (t c i))), .int (nI c), .ref 111]) (σ0 := σ) (ls1 := [.ref 88, .int x, .int (nI c)]) (st1 := [.int (nI 4), .int (nI ((tw_pS (P c) (t c) i) + (tw_mI (t c i)))), .int (nI c), .ref 111]) (σ1 := σ) rfl (rfl) (by simp only [tw_nadd, tw_nmul]) (rfl) ?_
    refine tw_rm rfl (by decide) ?_
    rw [tw_nrem (by omega) (by decide)]
    refine tw_as (k := 111) (j := c) (len := 10) rfl rfl rfl (rfl) (by omega) (by decide) ?_
    refine tw_sg 4 (i1 := 64) (ls1 := [.ref 88, .int x, .int (nI c)]) (st1 := [.int (nI c), .ref 112, .int (nI c), .ref 112]) (σ1 := (tw_upd σ 111 c (nI ((tw_pS (P c) (t c) i + tw_mI (t c i)) % 4)))) rfl ?_
    refine tw_al (k := 112) (j := c) (len := 10) rfl rfl rfl rfl (rfl) (by omega) (by decide) ?_
    rw [show (tw_upd σ 111 c (nI ((tw_pS (P c) (t c) i + tw_mI (t c i)) % 4))) 112 c = σ 112 c from by repeat (first | exact rfl | exact tw_upd_at | rw [tw_upd_off (by omega)]), e112]
    refine tw_sg 3 (i1 := 68) (ls1 := [.ref 88, .int x, .int (nI c)]) (st1 := [.int (nI c), .ref 110, .int (tw_wS (W c) (t c) i), .int (nI c), .ref 112]) (σ1 := (tw_upd σ 111 c (nI ((tw_pS (P c) (t c) i + tw_mI (t c i)) % 4)))) rfl ?_
    refine tw_al (k := 110) (j := c) (len := 10) rfl rfl rfl rfl (rfl) (by omega) (by decide) ?_
    rw [show (tw_upd σ 111 c (nI ((tw_pS (P c) (t c) i + tw_mI (t c i)) % 4))) 110 c = σ 110 c from by repeat (first | exact rfl | exact tw_upd_at | rw [tw_upd_off (by omega)]), (hT c (by omega))]
    refine tw_cl1 rfl (rfl) (by decide) (tw_e_grown (ht c (by omega))) ?_
    rintro _ _ ⟨rfl, rfl⟩
    show tw_P L xs _ 220 70 [.ref 88, .int x, .int (nI c)] [.int (tw_gI (t c i)), .int (tw_wS (W c) (t c) i), .int (nI c), .ref 112] (tw_upd σ 111 c (nI ((tw_pS (P c) (t c) i + tw_mI (t c i)) % 4))) _
    refine tw_sg 1 (i1 := 71) (ls1 := [.ref 88, .int x, .int (nI c)]) (st1 := [.int ((tw_wS (W c) (t c) i) + (tw_gI (t c i))), .int (nI c), .ref 112]) (σ1 := (tw_upd σ 111 c (nI ((tw_pS (P c) (t c) i + tw_mI (t c i)) % 4)))) rfl ?_
    refine tw_as (k := 112) (j := c) (len := 10) rfl rfl rfl (rfl) (by omega) (by decide) ?_
    refine tw_sgn 2 (i1 := 38) (ls0 := [.ref 88, .int x, .int (nI c + nI 1)]) (st0 := []) (σ0 := (tw_upd (tw_upd σ 111 c (nI ((tw_pS (P c) (t c) i + tw_mI (t c i)) % 4))) 112 c ((tw_wS (W c) (t c) i) + (tw_gI (t c i))))) (ls1 := [.ref 88, .int x, .int (nI (c + 1))]) (st1 := []) (σ1 := (tw_upd (tw_upd σ 111 c (nI ((tw_pS (P c) (t c) i + tw_mI (t c i)) % 4))) 112 c ((tw_wS (W c) (t c) i) + (tw_gI (t c i))))) rfl (by simp only [tw_nadd, tw_nmul]) (rfl) (rfl) ?_
    exact ih (c + 1) _ (by omega) ⟨hI.step (by omega), fun c hc => by rw [tw_upd_off (by omega), tw_upd_off (by omega)]; exact hT c hc⟩
set_option maxHeartbeats 4000000 in
set_option maxRecDepth 100000 in
theorem tw_e_mind {σ0 : tw_Mem} {n r i : Nat} {t : Nat → Nat → Nat} {W : Nat → Int32} {P : Nat → Nat} (hi : i < 200) (h10 : n ≤ 10) (hr : r ≤ 50) (h89 : σ0 89 0 = nI n) (h90 : σ0 90 0 = nI r) (ht : ∀ c, c < n → t c i < 4) (hP : ∀ c, c < n → P c < 4) (hN : ∀ σ, tw_mfM σ0 σ → tw_E L xs 9 211 [.ref 88, .int (nI (r + i))] σ (fun v τ => v = none ∧ tw_laidn σ τ 110 (fun c => t c i) n n)) (hQ : tw_mdM σ0 σ n t W P i 0) : tw_E L xs 10 220 [.ref 88, .int (nI (i + 1))] σ (fun v τ => v = some (.int (tw_bl (¬ tw_mJ n t W i))) ∧ tw_mfM σ0 τ ∧ (¬ tw_mJ n t W i → tw_mdM σ0 τ n t W P (i + 1) 0)) := by
  show tw_P L xs _ 220 0 [.ref 88, .int (nI (i + 1)), tw_U] [] σ _
  refine tw_sg 4 (i1 := 4) (ls1 := [.ref 88, .int (nI (i + 1)), tw_U]) (st1 := [.int (nI 0), .ref 90, .ref 88]) (σ1 := σ) rfl ?_
  refine tw_al (k := 90) (j := 0) (len := 2) rfl rfl rfl rfl (rfl) (by omega) (by decide) ?_
  rw [((hQ.1 90 0 (by omega) (by omega) (by omega)).trans h90)]
  refine tw_sgn 4 (i1 := 9) (ls0 := [.ref 88, .int (nI (i + 1)), tw_U]) (st0 := [.int ((nI r + nI (i + 1)) - nI 1), .ref 88]) (σ0 := σ) (ls1 := [.ref 88, .int (nI (i + 1)), tw_U]) (st1 := [.int (nI (r + i)), .ref 88]) (σ1 := σ) rfl (rfl) (by simp only [tw_nsub (show 1 ≤ r + (i + 1) by omega), show r + (i + 1) - 1 = r + i by omega, tw_nadd, tw_nmul]) (rfl) ?_
  refine tw_cl1 rfl (rfl) (by decide) (hN σ hQ.1) ?_
  rintro _ τ ⟨rfl, hl⟩
  show tw_P L xs _ 220 10 [.ref 88, .int (nI (i + 1)), tw_U] [] τ _
  refine tw_sg 2 (i1 := 12) (ls1 := [.ref 88, .int (nI (i + 1)), .int (nI 0)]) (st1 := []) (σ1 := τ) rfl ?_
  have hQ2 : tw_mdM σ0 τ n t W P i 0 := ⟨fun k j g1 g2 g3 => by rw [hl.1 k j g1]; exact hQ.1 k j g1 g2 g3, fun d hd => by rw [hl.1 _ _ (by omega), hl.1 _ _ (by omega)]; exact hQ.2 d hd⟩
  refine tw_l_mchk (σ0 := σ0) h10 h89 ht hQ2 (fun c hc => hl.2 c hc hc) (fun hJ => ⟨by rw [tw_blF (fun q => q hJ)], hQ2.1, fun q => absurd hJ q⟩) (fun hJ => ?_) n 0 (by omega) (fun d hd => by omega)
  refine tw_sg 2 (i1 := 38) (ls1 := [.ref 88, .int (nI (i + 1)), .int (nI 0)]) (st1 := []) (σ1 := τ) rfl ?_
  exact tw_l_mupd (σ0 := σ0) h10 h89 ht hP (fun υ h => ⟨by rw [tw_blT hJ], h.1, fun _ => h.done⟩) n 0 τ (by omega) ⟨hQ2, fun c hc => hl.2 c hc hc⟩
set_option maxHeartbeats 4000000 in
set_option maxRecDepth 100000 in
theorem tw_l_masnow {L : Nat} {xs : Nat → Int32} {Q : Option Value → tw_Mem → Prop} {σ : tw_Mem} {σ0 : tw_Mem} {n i : Nat} {t : Nat → Nat → Nat} {W : Nat → Int32} {P : Nat → Nat} (h10 : n ≤ 10) (h89 : σ0 89 0 = nI n) (hQ : tw_mdM σ0 σ n t W P i 0) (hP : ∀ c, c < n → P c < 4 ∧ σ0 93 c = nI (P c)) (hE : Q (some (.int (tw_bl (tw_mA n t P i)))) σ) : ∀ (f c : Nat), c + f = n → (∀ d, d < c → tw_pS (P d) (t d) i = P d) → tw_P L xs 0 221 2 [.ref 88, .int (nI c)] [] σ Q := by
  intro f
  induction f with
  | zero =>
    intro c hf hno
    have hf : n = c := Eq.symm hf
    subst hf
    rw [tw_blT (show tw_mA n t P i from hno)] at hE
    refine tw_sg 4 (i1 := 6) (ls1 := [.ref 88, .int (nI n)]) (st1 := [.int (nI 0), .ref 89, .int (nI n)]) (σ1 := σ) rfl ?_
    refine tw_al (k := 89) (j := 0) (len := 2) rfl rfl rfl rfl (rfl) (by omega) (by decide) ?_
    rw [((hQ.1 89 0 (by omega) (by omega) (by omega)).trans h89)]
    refine tw_biT (c := .ge) rfl (by rw [tw_cge, tw_nle (by omega) (by omega)] <;> omega) ?_
    show tw_P L xs _ 221 21 [.ref 88, .int (nI n)] [] σ _
    refine tw_sg 1 (i1 := 22) (ls1 := [.ref 88, .int (nI n)]) (st1 := [.int (nI 1)]) (σ1 := σ) rfl ?_
    refine tw_ri rfl (rfl) ?_
    exact hE
  | succ f ih =>
    intro c hf hno
    have e111 : σ 111 c = nI (tw_pS (P c) (t c) i) := by rw [(hQ.2 c (by omega)).1, if_neg (by omega)]
    have hps := tw_pS_lt (t := t c) (hP c (by omega)).1 i
    have hp := (hP c (by omega)).1
    refine tw_sg 4 (i1 := 6) (ls1 := [.ref 88, .int (nI c)]) (st1 := [.int (nI 0), .ref 89, .int (nI c)]) (σ1 := σ) rfl ?_
    refine tw_al (k := 89) (j := 0) (len := 2) rfl rfl rfl rfl (rfl) (by omega) (by decide) ?_
    rw [((hQ.1 89 0 (by omega) (by omega) (by omega)).trans h89)]
    refine tw_biF (c := .ge) rfl (by rw [tw_cge', tw_nle (by omega) (by omega)] <;> omega) ?_
    show tw_P L xs _ 221 8 [.ref 88, .int (nI c)] [] σ _
    refine tw_sg 3 (i1 := 11) (ls1 := [.ref 88, .int (nI c)]) (st1 := [.int (nI c), .ref 111]) (σ1 := σ) rfl ?_
    refine tw_al (k := 111) (j := c) (len := 10) rfl rfl rfl rfl (rfl) (by omega) (by decide) ?_
    rw [e111]
    refine tw_sg 3 (i1 := 15) (ls1 := [.ref 88, .int (nI c)]) (st1 := [.int (nI c), .ref 93, .int (nI (tw_pS (P c) (t c) i))]) (σ1 := σ) rfl ?_
    refine tw_al (k := 93) (j := c) (len := 20) rfl rfl rfl rfl (rfl) (by omega) (by decide) ?_
    rw [((hQ.1 93 c (by omega) (by omega) (by omega)).trans (hP c (by omega)).2)]
    refine tw_bi (c := .eq) rfl (fun h1 => ?_) (fun h1 => ?_)
    · rw [tw_ceq] at h1; have h1n := h1; rw [tw_neq (by omega) (by omega)] at h1n
      refine tw_sgn 2 (i1 := 2) (ls0 := [.ref 88, .int (nI c + nI 1)]) (st0 := []) (σ0 := σ) (ls1 := [.ref 88, .int (nI (c + 1))]) (st1 := []) (σ1 := σ) rfl (by simp only [tw_nadd, tw_nmul]) (rfl) (rfl) ?_
      refine ih (c + 1) (by omega) (fun d hd => ?_)
      by_cases z : d = c
      · rw [z]; have e := h1; rw [tw_neq (by omega) (by omega)] at e; exact e
      · exact hno d (by omega)
    · rw [tw_ceq'] at h1; have h1n := h1; rw [tw_neq (by omega) (by omega)] at h1n
      refine tw_sg 1 (i1 := 18) (ls1 := [.ref 88, .int (nI c)]) (st1 := [.int (nI 0)]) (σ1 := σ) rfl ?_
      refine tw_ri rfl (rfl) ?_
      rw [tw_blF (show ¬ (tw_mA n t P i) from fun q => by have := q c (by omega); have e := h1; rw [tw_neq (by omega) (by omega)] at e; omega)] at hE
      exact hE
set_option maxHeartbeats 4000000 in
set_option maxRecDepth 100000 in
theorem tw_e_masnow {σ0 : tw_Mem} {n i : Nat} {t : Nat → Nat → Nat} {W : Nat → Int32} {P : Nat → Nat} (h10 : n ≤ 10) (h89 : σ0 89 0 = nI n) (hQ : tw_mdM σ0 σ n t W P i 0) (hP : ∀ c, c < n → P c < 4 ∧ σ0 93 c = nI (P c)) : tw_E L xs 0 221 [.ref 88] σ (fun v σ1 => v = some (.int (tw_bl (tw_mA n t P i))) ∧ σ = σ1) := by
  show tw_P L xs _ 221 0 [.ref 88, tw_U] [] σ _
  refine tw_sg 2 (i1 := 2) (ls1 := [.ref 88, .int (nI 0)]) (st1 := []) (σ1 := σ) rfl ?_
  exact tw_l_masnow h10 h89 hQ hP ⟨rfl, rfl⟩ n 0 (by omega) (fun d hd => by omega)
set_option maxHeartbeats 4000000 in
set_option maxRecDepth 100000 in
theorem tw_l_mflat {L : Nat} {xs : Nat → Int32} {Q : Option Value → tw_Mem → Prop} {σ : tw_Mem} {σ0 : tw_Mem} {n i : Nat} {t : Nat → Nat → Nat} {W : Nat → Int32} {P : Nat → Nat} (h10 : n ≤ 10) (h89 : σ0 89 0 = nI n) (hQ : tw_mdM σ0 σ n t W P i 0) (hE : Q (some (.int (tw_bl (tw_mF n t W i)))) σ) : ∀ (f c : Nat), c + f = n → (∀ d, d < c → tw_wS (W d) (t d) i = nI 0) → tw_P L xs 0 222 2 [.ref 88, .int (nI c)] [] σ Q := by
  intro f
  induction f with
  | zero =>
    intro c hf hno
    have hf : n = c := Eq.symm hf
    subst hf
    rw [tw_blT (show tw_mF n t W i from hno)] at hE
    refine tw_sg 4 (i1 := 6) (ls1 := [.ref 88, .int (nI n)]) (st1 := [.int (nI 0), .ref 89, .int (nI n)]) (σ1 := σ) rfl ?_
    refine tw_al (k := 89) (j := 0) (len := 2) rfl rfl rfl rfl (rfl) (by omega) (by decide) ?_
    rw [((hQ.1 89 0 (by omega) (by omega) (by omega)).trans h89)]
    refine tw_biT (c := .ge) rfl (by rw [tw_cge, tw_nle (by omega) (by omega)] <;> omega) ?_
    show tw_P L xs _ 222 17 [.ref 88, .int (nI n)] [] σ _
    refine tw_sg 1 (i1 := 18) (ls1 := [.ref 88, .int (nI n)]) (st1 := [.int (nI 1)]) (σ1 := σ) rfl ?_
    refine tw_ri rfl (rfl) ?_
    exact hE
  | succ f ih =>
    intro c hf hno
    have e112 : σ 112 c = tw_wS (W c) (t c) i := by rw [(hQ.2 c (by omega)).2, if_neg (by omega)]
    refine tw_sg 4 (i1 := 6) (ls1 := [.ref 88, .int (nI c)]) (st1 := [.int (nI 0), .ref 89, .int (nI c)]) (σ1 := σ) rfl ?_
    refine tw_al (k := 89) (j := 0) (len := 2) rfl rfl rfl rfl (rfl) (by omega) (by decide) ?_
    rw [((hQ.1 89 0 (by omega) (by omega) (by omega)).trans h89)]
    refine tw_biF (c := .ge) rfl (by rw [tw_cge', tw_nle (by omega) (by omega)] <;> omega) ?_
    show tw_P L xs _ 222 8 [.ref 88, .int (nI c)] [] σ _
    refine tw_sg 3 (i1 := 11) (ls1 := [.ref 88, .int (nI c)]) (st1 := [.int (nI c), .ref 112]) (σ1 := σ) rfl ?_
    refine tw_al (k := 112) (j := c) (len := 10) rfl rfl rfl rfl (rfl) (by omega) (by decide) ?_
    rw [e112]
    refine tw_bz (c := .eq) rfl (fun h1 => ?_) (fun h1 => ?_)
    · rw [tw_ceq] at h1
      refine tw_sgn 2 (i1 := 2) (ls0 := [.ref 88, .int (nI c + nI 1)]) (st0 := []) (σ0 := σ) (ls1 := [.ref 88, .int (nI (c + 1))]) (st1 := []) (σ1 := σ) rfl (by simp only [tw_nadd, tw_nmul]) (rfl) (rfl) ?_
      refine ih (c + 1) (by omega) (fun d hd => ?_)
      by_cases z : d = c
      · rw [z]; exact h1
      · exact hno d (by omega)
    · rw [tw_ceq'] at h1
      refine tw_sg 1 (i1 := 14) (ls1 := [.ref 88, .int (nI c)]) (st1 := [.int (nI 0)]) (σ1 := σ) rfl ?_
      refine tw_ri rfl (rfl) ?_
      rw [tw_blF (show ¬ (tw_mF n t W i) from fun q => by have := q c (by omega); exact h1 this)] at hE
      exact hE
set_option maxHeartbeats 4000000 in
set_option maxRecDepth 100000 in
theorem tw_e_mflat {σ0 : tw_Mem} {n i : Nat} {t : Nat → Nat → Nat} {W : Nat → Int32} {P : Nat → Nat} (h10 : n ≤ 10) (h89 : σ0 89 0 = nI n) (hQ : tw_mdM σ0 σ n t W P i 0) : tw_E L xs 0 222 [.ref 88] σ (fun v σ1 => v = some (.int (tw_bl (tw_mF n t W i))) ∧ σ = σ1) := by
  show tw_P L xs _ 222 0 [.ref 88, tw_U] [] σ _
  refine tw_sg 2 (i1 := 2) (ls1 := [.ref 88, .int (nI 0)]) (st1 := []) (σ1 := σ) rfl ?_
  exact tw_l_mflat h10 h89 hQ ⟨rfl, rfl⟩ n 0 (by omega) (fun d hd => by omega)
end tw_s58
