/-! draft, fewest -/
section tw_s72
variable {L : Nat} {xs : Nat → Int32} {σ : tw_Mem} {x y w : Int32} {n r i c k h q a b e : Nat}
/-- what the cards need in all -/
def tw_sS (w pc : Nat → Nat → Int32) (P : Nat → Nat) (H : Nat) : Nat → Nat
  | 0 => 0
  | d + 1 => tw_sS w pc P H d + tw_ct (w d) (pc d) H H (P d)
theorem tw_sS_le {w pc : Nat → Nat → Int32} {P : Nat → Nat} {H : Nat} : ∀ d, tw_sS w pc P H d ≤ 1000 * d
  | 0 => Nat.le_refl _
  | d + 1 => by
    have h := @tw_sS_le w pc P H d
    have g := @tw_ct_le (w d) (pc d) H H (P d)
    rw [tw_sS]; omega
/-- the answer for all cards -/
def tw_fwZ (w pc : Nat → Nat → Int32) (P : Nat → Nat) (H n : Nat) (z : Int32) : Prop := (∀ d, d < n → tw_ct (w d) (pc d) H H (P d) = 1000 → z = (-5)) ∧ ((∀ d, d < n → ¬ tw_ct (w d) (pc d) H H (P d) = 1000) → z = nI (tw_sS w pc P H n))
theorem tw_fwZ_ex {w pc : Nat → Nat → Int32} {P : Nat → Nat} {H n : Nat} : ∃ z, tw_fwZ w pc P H n z := by
  by_cases h : ∃ d, d < n ∧ tw_ct (w d) (pc d) H H (P d) = 1000
  · obtain ⟨d, h1, h2⟩ := h
    exact ⟨(-5), fun _ _ _ => rfl, fun g => absurd h2 (g d h1)⟩
  · exact ⟨nI (tw_sS w pc P H n), fun d h1 h2 => absurd ⟨d, h1, h2⟩ h, fun _ => rfl⟩
/-- what a draft rests on, the class, the reference -/
def tw_dC (σ : tw_Mem) (w pc : Nat → Nat → Int32) (P : Nat → Nat) (H n : Nat) : Prop := (n ≤ 10 ∧ H ≤ 8 ∧ σ 79 1 = nI H ∧ σ 6 4 = nI n) ∧ ∀ c, c < n → (∀ h, h < 4 → σ (2 * c + 19) h = w c h) ∧ (∀ l, l < H → σ 80 (10 * l + c) = pc c l) ∧ P c < 4 ∧ σ (2 * c + 18) 2 = nI (P c)
def tw_dM (σ : tw_Mem) (w pc : Nat → Nat → Int32) (P : Nat → Nat) (H n : Nat) : Prop := (n ≤ 10 ∧ H ≤ 8 ∧ σ 88 32 = nI H ∧ σ 89 0 = nI n) ∧ ∀ c, c < n → (∀ h, h < 4 → σ 91 (4 * c + h) = w c h) ∧ (∀ l, l < H → σ 113 (10 * l + c) = pc c l) ∧ P c < 4 ∧ σ 93 c = nI (P c)
def tw_dF (σ τ : tw_Mem) : Prop := ∀ k j, ¬ k = 82 → ¬ k = 83 → τ k j = σ k j
def tw_dG (σ τ : tw_Mem) : Prop := ∀ k j, ¬ k = 114 → τ k j = σ k j
theorem tw_dC.to {σ τ : tw_Mem} {w pc : Nat → Nat → Int32} {P : Nat → Nat} {H n : Nat} (h : tw_dC σ w pc P H n) (e : ∀ k j, k = 79 ∨ k = 6 ∨ k = 80 ∨ (18 ≤ k ∧ k < 38) → τ k j = σ k j) : tw_dC τ w pc P H n := by
  obtain ⟨⟨h1, h2, h3, h4⟩, h5⟩ := h
  refine ⟨⟨h1, h2, (e _ _ (by omega)).trans h3, (e _ _ (by omega)).trans h4⟩, fun c hc => ?_⟩
  obtain ⟨g1, g2, g3, g4⟩ := h5 c hc
  exact ⟨fun h hh => (e _ _ (by omega)).trans (g1 h hh), fun l hl => (e _ _ (by omega)).trans (g2 l hl), g3, (e _ _ (by omega)).trans g4⟩
theorem tw_dM.to {σ τ : tw_Mem} {w pc : Nat → Nat → Int32} {P : Nat → Nat} {H n : Nat} (h : tw_dM σ w pc P H n) (e : ∀ k j, (k = 88 ∧ j = 32) ∨ (k = 89 ∧ j = 0) ∨ (k = 91 ∧ j < 40) ∨ k = 113 ∨ (k = 93 ∧ j < 10) → τ k j = σ k j) : tw_dM τ w pc P H n := by
  obtain ⟨⟨h1, h2, h3, h4⟩, h5⟩ := h
  refine ⟨⟨h1, h2, (e _ _ (by omega)).trans h3, (e _ _ (by omega)).trans h4⟩, fun c hc => ?_⟩
  obtain ⟨g1, g2, g3, g4⟩ := h5 c hc
  exact ⟨fun h hh => (e _ _ (by omega)).trans (g1 h hh), fun l hl => (e _ _ (by omega)).trans (g2 l hl), g3, (e _ _ (by omega)).trans g4⟩
theorem tw_dF.tr {σ τ υ : tw_Mem} (h : tw_dF σ τ) (g : tw_dF τ υ) : tw_dF σ υ := fun k j a b => (g k j a b).trans (h k j a b)
theorem tw_dG.tr {σ τ υ : tw_Mem} (h : tw_dG σ τ) (g : tw_dG τ υ) : tw_dG σ υ := fun k j a => (g k j a).trans (h k j a)
theorem tw_dC.f {σ τ : tw_Mem} {w pc : Nat → Nat → Int32} {P : Nat → Nat} {H n : Nat} (h : tw_dC σ w pc P H n) (e : tw_dF σ τ) : tw_dC τ w pc P H n := h.to (fun k j _ => e k j (by omega) (by omega))
theorem tw_dM.g {σ τ : tw_Mem} {w pc : Nat → Nat → Int32} {P : Nat → Nat} {H n : Nat} (h : tw_dM σ w pc P H n) (e : tw_dG σ τ) : tw_dM τ w pc P H n := h.to (fun k j _ => e k j (by omega))
section tw_B72
variable {w pc : Nat → Nat → Int32} {P : Nat → Nat} {H n c : Nat}
theorem tw_e_pln0 (h : tw_dC σ w pc P H n) (hc : c < n) (hlo : tw_ct (w c) (pc c) H H (P c) = 1000) : tw_E L xs 5 38 [.ref 81, .ref (2 * c + 18), .ref 79, .int (nI c)] σ (fun v τ => v = some (.int (-5)) ∧ tw_dF σ τ) := by
  obtain ⟨⟨h1, h2, h3, h4⟩, h5⟩ := h
  obtain ⟨g1, g2, g3, g4⟩ := h5 c hc
  exact tw_E_mono (tw_e_plan0 (by omega) h2 h3 g1 g2 g3 g4 hlo) (fun v τ q => ⟨q.1, fun k j a _ => q.2 k j a⟩)
theorem tw_e_pln1 (h : tw_dC σ w pc P H n) (hc : c < n) (hlo : ¬ tw_ct (w c) (pc c) H H (P c) = 1000) : tw_E L xs 5 38 [.ref 81, .ref (2 * c + 18), .ref 79, .int (nI c)] σ (fun v τ => v = some (.int (nI (tw_ct (w c) (pc c) H H (P c)))) ∧ tw_dF σ τ ∧ ∀ l, l < H → τ 83 l = nI (tw_ft (w c) (pc c) H (P c) l)) := by
  obtain ⟨⟨h1, h2, h3, h4⟩, h5⟩ := h
  obtain ⟨g1, g2, g3, g4⟩ := h5 c hc
  exact tw_E_mono (tw_e_plan1 (by omega) h2 h3 g1 g2 g3 g4 hlo) (fun v τ q => ⟨q.1, q.2.1, q.2.2⟩)
theorem tw_e_drM0 {l : Nat} (h : tw_dM σ w pc P H n) (hc : c < n) (hl : l < H) (hlo : tw_ct (w c) (pc c) H H (P c) = 1000) : tw_E L xs 3 231 [.ref 88, .int (nI l), .int (nI c)] σ (fun v τ => v = some (.int (-5)) ∧ tw_dG σ τ) := by
  obtain ⟨⟨h1, h2, h3, h4⟩, h5⟩ := h
  obtain ⟨g1, g2, g3, g4⟩ := h5 c hc
  exact tw_e_draftM0 (by omega) h2 h3 g1 g2 hl g3 g4 hlo
theorem tw_e_drM1 {l : Nat} (h : tw_dM σ w pc P H n) (hc : c < n) (hl : l < H) (hlo : ¬ tw_ct (w c) (pc c) H H (P c) = 1000) : tw_E L xs 3 231 [.ref 88, .int (nI l), .int (nI c)] σ (fun v τ => v = some (.int (nI (tw_ft (w c) (pc c) H (P c) l))) ∧ tw_dG σ τ) := by
  obtain ⟨⟨h1, h2, h3, h4⟩, h5⟩ := h
  obtain ⟨g1, g2, g3, g4⟩ := h5 c hc
  exact tw_e_draftM1 (by omega) h2 h3 g1 g2 hl g3 g4 hlo
theorem tw_e_ffM (h : tw_dM σ w pc P H n) (hc : c < n) : tw_E L xs 1 230 [.ref 88, .int (nI c), .int (nI 0), .int (nI (P c))] σ (fun v τ => v = some (.int (nI (tw_ct (w c) (pc c) H H (P c)))) ∧ tw_dG σ τ) := by
  obtain ⟨⟨h1, h2, h3, h4⟩, h5⟩ := h
  obtain ⟨g1, g2, g3, g4⟩ := h5 c hc
  exact tw_e_ff (h := 0) (by omega) h2 h3 g1 g2 (Nat.zero_le _) g3
end tw_B72
theorem tw_nne5 {s : Nat} (h : s < 2147483648) : ¬ nI s = (-5) := fun e => by
  have h1 := congrArg Int32.toInt e
  rw [tw_ntoI h, show ((-5) : Int32).toInt = -5 by decide] at h1
  omega
set_option maxHeartbeats 4000000 in
set_option maxRecDepth 100000 in
theorem tw_l_fAll {Q : Option Value → tw_Mem → Prop} {σ0 : tw_Mem} {w pc : Nat → Nat → Int32} {P : Nat → Nat} {H n : Nat} {z : Int32} (hz : tw_fwZ w pc P H n z) (hQ : ∀ τ, tw_dF σ0 τ → Q (some (.int z)) τ) : ∀ (f c : Nat) (σ : tw_Mem) (u3 u4 : Value), c + f = n → tw_dC σ w pc P H n → tw_dF σ0 σ → (∀ d, d < c → ¬ tw_ct (w d) (pc d) H H (P d) = 1000) → tw_P L xs 8 157 4 [.ref 1, .int (nI (tw_sS w pc P H c)), .int (nI c), u3, u4] [] σ Q := by
  intro f
  induction f with
  | zero =>
    intro c σ u3 u4 hf hD hF hn
    have hf : c = n := hf
    have h10 := hD.1.1
    have hs := @tw_sS_le w pc P H c
    refine tw_sg 3 (i1 := 7) (ls1 := [.ref 1, .int (nI (tw_sS w pc P H c)), .int (nI c), u3, u4]) (st1 := [.ref 6, .int (nI c)]) (σ1 := σ) rfl ?_
    refine tw_cl0 7 rfl (rfl) (by decide) ?_
    show tw_P L xs _ 82 0 [.ref 6] [] σ _
    refine tw_sgn 2 (i1 := 2) (ls0 := [.ref 6]) (st0 := [.int (σ 6 4)]) (σ0 := σ) (ls1 := [.ref 6]) (st1 := [.int (nI n)]) (σ1 := σ) rfl (rfl) (by simp only [hD.1.2.2.2, tw_nadd, tw_nmul]) (rfl) ?_
    refine tw_ri rfl (rfl) ?_
    show tw_P L xs _ 157 8 [.ref 1, .int (nI (tw_sS w pc P H c)), .int (nI c), u3, u4] [.int (nI n), .int (nI c)] σ _
    refine tw_biT (c := .ge) rfl (by rw [tw_cge, tw_nle (by omega) (by omega)] <;> omega) ?_
    show tw_P L xs _ 157 37 [.ref 1, .int (nI (tw_sS w pc P H c)), .int (nI c), u3, u4] [] σ _
    refine tw_sg 1 (i1 := 38) (ls1 := [.ref 1, .int (nI (tw_sS w pc P H c)), .int (nI c), u3, u4]) (st1 := [.int (nI (tw_sS w pc P H c))]) (σ1 := σ) rfl ?_
    refine tw_ri rfl (rfl) ?_
    rw [hf, ← hz.2 (fun d hd => hn d (by omega))]
    exact hQ σ hF
  | succ f ih =>
    intro c σ u3 u4 hf hD hF hn
    have h10 := hD.1.1
    have hs := @tw_sS_le w pc P H c
    have hcl := @tw_ct_le (w c) (pc c) H H (P c)
    by_cases hlo : tw_ct (w c) (pc c) H H (P c) = 1000
    · skip
      refine tw_sg 3 (i1 := 7) (ls1 := [.ref 1, .int (nI (tw_sS w pc P H c)), .int (nI c), u3, u4]) (st1 := [.ref 6, .int (nI c)]) (σ1 := σ) rfl ?_
      refine tw_cl0 7 rfl (rfl) (by decide) ?_
      show tw_P L xs _ 82 0 [.ref 6] [] σ _
      refine tw_sgn 2 (i1 := 2) (ls0 := [.ref 6]) (st0 := [.int (σ 6 4)]) (σ0 := σ) (ls1 := [.ref 6]) (st1 := [.int (nI n)]) (σ1 := σ) rfl (rfl) (by simp only [hD.1.2.2.2, tw_nadd, tw_nmul]) (rfl) ?_
      refine tw_ri rfl (rfl) ?_
      show tw_P L xs _ 157 8 [.ref 1, .int (nI (tw_sS w pc P H c)), .int (nI c), u3, u4] [.int (nI n), .int (nI c)] σ _
      refine tw_biF (c := .ge) rfl (by rw [tw_cge', tw_nle (by omega) (by omega)] <;> omega) ?_
      show tw_P L xs _ 157 9 [.ref 1, .int (nI (tw_sS w pc P H c)), .int (nI c), u3, u4] [] σ _
      refine tw_sg 3 (i1 := 12) (ls1 := [.ref 1, .int (nI (tw_sS w pc P H c)), .int (nI c), u3, u4]) (st1 := [.int (nI c), .ref 6]) (σ1 := σ) rfl ?_
      refine tw_cl1 rfl (rfl) (by decide) (tw_e_cardAt1 hD.1.2.2.2 h10 (by omega)) ?_
      rintro _ _ ⟨rfl, rfl⟩
      show tw_P L xs _ 157 13 [.ref 1, .int (nI (tw_sS w pc P H c)), .int (nI c), u3, u4] [.ref (2 * c + 18)] σ _
      refine tw_sg 9 (i1 := 24) (ls1 := [.ref 1, .int (nI (tw_sS w pc P H c)), .int (nI c), .ref (2 * c + 18), u4]) (st1 := [.int (nI c), .ref 79, .ref (2 * c + 18), .ref 81]) (σ1 := σ) rfl ?_
      refine tw_cl1 rfl (rfl) (by decide) (tw_e_pln0 hD (by omega) hlo) ?_
      rintro _ τ ⟨rfl, hP⟩
      show tw_P L xs _ 157 25 [.ref 1, .int (nI (tw_sS w pc P H c)), .int (nI c), .ref (2 * c + 18), u4] [.int (-5)] τ _
      refine tw_sg 3 (i1 := 28) (ls1 := [.ref 1, .int (nI (tw_sS w pc P H c)), .int (nI c), .ref (2 * c + 18), .int (-5)]) (st1 := [.int (-5), .int (-5)]) (σ1 := τ) rfl ?_
      refine tw_biF (c := .ne) rfl (by rw [tw_cne'] <;> (exact rfl)) ?_
      show tw_P L xs _ 157 29 [.ref 1, .int (nI (tw_sS w pc P H c)), .int (nI c), .ref (2 * c + 18), .int (-5)] [] τ _
      refine tw_sg 1 (i1 := 30) (ls1 := [.ref 1, .int (nI (tw_sS w pc P H c)), .int (nI c), .ref (2 * c + 18), .int (-5)]) (st1 := [.int (-5)]) (σ1 := τ) rfl ?_
      refine tw_ri rfl (rfl) ?_
      rw [← hz.1 c (by omega) hlo]
      exact hQ τ (hF.tr hP)
    · have hne : ¬ nI (tw_ct (w c) (pc c) H H (P c)) = (-5) := tw_nne5 (by omega)
      refine tw_sg 3 (i1 := 7) (ls1 := [.ref 1, .int (nI (tw_sS w pc P H c)), .int (nI c), u3, u4]) (st1 := [.ref 6, .int (nI c)]) (σ1 := σ) rfl ?_
      refine tw_cl0 7 rfl (rfl) (by decide) ?_
      show tw_P L xs _ 82 0 [.ref 6] [] σ _
      refine tw_sgn 2 (i1 := 2) (ls0 := [.ref 6]) (st0 := [.int (σ 6 4)]) (σ0 := σ) (ls1 := [.ref 6]) (st1 := [.int (nI n)]) (σ1 := σ) rfl (rfl) (by simp only [hD.1.2.2.2, tw_nadd, tw_nmul]) (rfl) ?_
      refine tw_ri rfl (rfl) ?_
      show tw_P L xs _ 157 8 [.ref 1, .int (nI (tw_sS w pc P H c)), .int (nI c), u3, u4] [.int (nI n), .int (nI c)] σ _
      refine tw_biF (c := .ge) rfl (by rw [tw_cge', tw_nle (by omega) (by omega)] <;> omega) ?_
      show tw_P L xs _ 157 9 [.ref 1, .int (nI (tw_sS w pc P H c)), .int (nI c), u3, u4] [] σ _
      refine tw_sg 3 (i1 := 12) (ls1 := [.ref 1, .int (nI (tw_sS w pc P H c)), .int (nI c), u3, u4]) (st1 := [.int (nI c), .ref 6]) (σ1 := σ) rfl ?_
      refine tw_cl1 rfl (rfl) (by decide) (tw_e_cardAt1 hD.1.2.2.2 h10 (by omega)) ?_
      rintro _ _ ⟨rfl, rfl⟩
      show tw_P L xs _ 157 13 [.ref 1, .int (nI (tw_sS w pc P H c)), .int (nI c), u3, u4] [.ref (2 * c + 18)] σ _
      refine tw_sg 9 (i1 := 24) (ls1 := [.ref 1, .int (nI (tw_sS w pc P H c)), .int (nI c), .ref (2 * c + 18), u4]) (st1 := [.int (nI c), .ref 79, .ref (2 * c + 18), .ref 81]) (σ1 := σ) rfl ?_
      refine tw_cl1 rfl (rfl) (by decide) (tw_e_pln1 hD (by omega) hlo) ?_
      rintro _ τ ⟨rfl, hP, hP2⟩
      show tw_P L xs _ 157 25 [.ref 1, .int (nI (tw_sS w pc P H c)), .int (nI c), .ref (2 * c + 18), u4] [.int (nI (tw_ct (w c) (pc c) H H (P c)))] τ _
      refine tw_sg 3 (i1 := 28) (ls1 := [.ref 1, .int (nI (tw_sS w pc P H c)), .int (nI c), .ref (2 * c + 18), .int (nI (tw_ct (w c) (pc c) H H (P c)))]) (st1 := [.int (-5), .int (nI (tw_ct (w c) (pc c) H H (P c)))]) (σ1 := τ) rfl ?_
      refine tw_biT (c := .ne) rfl (by rw [tw_cne] <;> (exact hne)) ?_
      show tw_P L xs _ 157 31 [.ref 1, .int (nI (tw_sS w pc P H c)), .int (nI c), .ref (2 * c + 18), .int (nI (tw_ct (w c) (pc c) H H (P c)))] [] τ _
      refine tw_sgn 6 (i1 := 4) (ls0 := [.ref 1, .int (nI (tw_sS w pc P H c) + nI (tw_ct (w c) (pc c) H H (P c))), .int (nI c + nI 1), .ref (2 * c + 18), .int (nI (tw_ct (w c) (pc c) H H (P c)))]) (st0 := []) (σ0 := τ) (ls1 := [.ref 1, .int (nI ((tw_sS w pc P H c) + (tw_ct (w c) (pc c) H H (P c)))), .int (nI (c + 1)), .ref (2 * c + 18), .int (nI (tw_ct (w c) (pc c) H H (P c)))]) (st1 := []) (σ1 := τ) rfl (by simp only [tw_nadd, tw_nmul]) (rfl) (rfl) ?_
      exact ih (c + 1) τ _ _ (by omega) (hD.f hP) (hF.tr hP) (fun d hd => by
        by_cases e : d = c
        · rw [e]; exact hlo
        · exact hn d (by omega))
set_option maxHeartbeats 4000000 in
set_option maxRecDepth 100000 in
theorem tw_e_fAll {w pc : Nat → Nat → Int32} {P : Nat → Nat} {H : Nat} (hD : tw_dC σ w pc P H n) (hz : tw_fwZ w pc P H n x) : tw_E L xs 8 157 [.ref 1] σ (fun v τ => v = some (.int x) ∧ tw_dF σ τ) := by
  show tw_P L xs _ 157 0 [.ref 1, tw_U, tw_U, tw_U, tw_U] [] σ _
  refine tw_sg 4 (i1 := 4) (ls1 := [.ref 1, .int (nI 0), .int (nI 0), tw_U, tw_U]) (st1 := []) (σ1 := σ) rfl ?_
  exact tw_l_fAll (σ0 := σ) hz (fun τ h => ⟨rfl, h⟩) n 0 σ _ _ (by omega) hD (fun _ _ _ _ => rfl) (fun d hd => by omega)
set_option maxHeartbeats 4000000 in
set_option maxRecDepth 100000 in
theorem tw_l_fAllM {Q : Option Value → tw_Mem → Prop} {σ0 : tw_Mem} {w pc : Nat → Nat → Int32} {P : Nat → Nat} {H n : Nat} {y z : Int32} (hy : y < nI 0) (hz : tw_fwZ w pc P H n z) (hQ : ∀ τ, tw_dG σ0 τ → Q (some (.int z)) τ) : ∀ (f c : Nat) (σ : tw_Mem) (u4 : Value), c + f = n → tw_dM σ w pc P H n → tw_dG σ0 σ → (∀ d, d < c → ¬ tw_ct (w d) (pc d) H H (P d) = 1000) → tw_P L xs 8 234 13 [.ref 88, .int y, .int (nI (tw_sS w pc P H c)), .int (nI c), u4] [] σ Q := by
  intro f
  induction f with
  | zero =>
    intro c σ u4 hf hD hF hn
    have hf : c = n := hf
    have h10 := hD.1.1
    have hs := @tw_sS_le w pc P H c
    refine tw_sg 4 (i1 := 17) (ls1 := [.ref 88, .int y, .int (nI (tw_sS w pc P H c)), .int (nI c), u4]) (st1 := [.int (nI 0), .ref 89, .int (nI c)]) (σ1 := σ) rfl ?_
    refine tw_al (k := 89) (j := 0) (len := 2) rfl rfl rfl rfl (rfl) (by omega) (by decide) ?_
    rw [hD.1.2.2.2]
    refine tw_biT (c := .ge) rfl (by rw [tw_cge, tw_nle (by omega) (by omega)] <;> omega) ?_
    show tw_P L xs _ 234 45 [.ref 88, .int y, .int (nI (tw_sS w pc P H c)), .int (nI c), u4] [] σ _
    refine tw_sg 1 (i1 := 46) (ls1 := [.ref 88, .int y, .int (nI (tw_sS w pc P H c)), .int (nI c), u4]) (st1 := [.int (nI (tw_sS w pc P H c))]) (σ1 := σ) rfl ?_
    refine tw_ri rfl (rfl) ?_
    rw [hf, ← hz.2 (fun d hd => hn d (by omega))]
    exact hQ σ hF
  | succ f ih =>
    intro c σ u4 hf hD hF hn
    have h10 := hD.1.1
    have hs := @tw_sS_le w pc P H c
    have hcl := @tw_ct_le (w c) (pc c) H H (P c)
    by_cases hlo : tw_ct (w c) (pc c) H H (P c) = 1000
    · skip
      refine tw_sg 4 (i1 := 17) (ls1 := [.ref 88, .int y, .int (nI (tw_sS w pc P H c)), .int (nI c), u4]) (st1 := [.int (nI 0), .ref 89, .int (nI c)]) (σ1 := σ) rfl ?_
      refine tw_al (k := 89) (j := 0) (len := 2) rfl rfl rfl rfl (rfl) (by omega) (by decide) ?_
      rw [hD.1.2.2.2]
      refine tw_biF (c := .ge) rfl (by rw [tw_cge', tw_nle (by omega) (by omega)] <;> omega) ?_
      show tw_P L xs _ 234 19 [.ref 88, .int y, .int (nI (tw_sS w pc P H c)), .int (nI c), u4] [] σ _
      refine tw_sg 1 (i1 := 20) (ls1 := [.ref 88, .int y, .int (nI (tw_sS w pc P H c)), .int (nI c), u4]) (st1 := [.int y]) (σ1 := σ) rfl ?_
      refine tw_bzT (c := .lt) rfl (by rw [tw_clt] <;> (exact hy)) ?_
      show tw_P L xs _ 234 25 [.ref 88, .int y, .int (nI (tw_sS w pc P H c)), .int (nI c), u4] [] σ _
      refine tw_sg 6 (i1 := 31) (ls1 := [.ref 88, .int y, .int (nI (tw_sS w pc P H c)), .int (nI c), u4]) (st1 := [.int (nI c), .ref 93, .int (nI 0), .int (nI c), .ref 88]) (σ1 := σ) rfl ?_
      refine tw_al (k := 93) (j := c) (len := 20) rfl rfl rfl rfl (rfl) (by omega) (by decide) ?_
      rw [(hD.2 c (by omega)).2.2.2]
      refine tw_cl1 rfl (rfl) (by decide) (tw_e_ffM hD (by omega)) ?_
      rintro _ τ ⟨rfl, hP⟩
      show tw_P L xs _ 234 33 [.ref 88, .int y, .int (nI (tw_sS w pc P H c)), .int (nI c), u4] [.int (nI (tw_ct (w c) (pc c) H H (P c)))] τ _
      refine tw_sg 3 (i1 := 36) (ls1 := [.ref 88, .int y, .int (nI (tw_sS w pc P H c)), .int (nI c), .int (nI (tw_ct (w c) (pc c) H H (P c)))]) (st1 := [.int (nI 1000), .int (nI (tw_ct (w c) (pc c) H H (P c)))]) (σ1 := τ) rfl ?_
      refine tw_biF (c := .ne) rfl (by rw [tw_cne'] <;> (rw [tw_neq (by omega) (by omega)]; exact hlo)) ?_
      show tw_P L xs _ 234 37 [.ref 88, .int y, .int (nI (tw_sS w pc P H c)), .int (nI c), .int (nI (tw_ct (w c) (pc c) H H (P c)))] [] τ _
      refine tw_sg 1 (i1 := 38) (ls1 := [.ref 88, .int y, .int (nI (tw_sS w pc P H c)), .int (nI c), .int (nI (tw_ct (w c) (pc c) H H (P c)))]) (st1 := [.int (-5)]) (σ1 := τ) rfl ?_
      refine tw_ri rfl (rfl) ?_
      rw [← hz.1 c (by omega) hlo]
      exact hQ τ (hF.tr hP)
    · skip
      refine tw_sg 4 (i1 := 17) (ls1 := [.ref 88, .int y, .int (nI (tw_sS w pc P H c)), .int (nI c), u4]) (st1 := [.int (nI 0), .ref 89, .int (nI c)]) (σ1 := σ) rfl ?_
      refine tw_al (k := 89) (j := 0) (len := 2) rfl rfl rfl rfl (rfl) (by omega) (by decide) ?_
      rw [hD.1.2.2.2]
      refine tw_biF (c := .ge) rfl (by rw [tw_cge', tw_nle (by omega) (by omega)] <;> omega) ?_
      show tw_P L xs _ 234 19 [.ref 88, .int y, .int (nI (tw_sS w pc P H c)), .int (nI c), u4] [] σ _
      refine tw_sg 1 (i1 := 20) (ls1 := [.ref 88, .int y, .int (nI (tw_sS w pc P H c)), .int (nI c), u4]) (st1 := [.int y]) (σ1 := σ) rfl ?_
      refine tw_bzT (c := .lt) rfl (by rw [tw_clt] <;> (exact hy)) ?_
      show tw_P L xs _ 234 25 [.ref 88, .int y, .int (nI (tw_sS w pc P H c)), .int (nI c), u4] [] σ _
      refine tw_sg 6 (i1 := 31) (ls1 := [.ref 88, .int y, .int (nI (tw_sS w pc P H c)), .int (nI c), u4]) (st1 := [.int (nI c), .ref 93, .int (nI 0), .int (nI c), .ref 88]) (σ1 := σ) rfl ?_
      refine tw_al (k := 93) (j := c) (len := 20) rfl rfl rfl rfl (rfl) (by omega) (by decide) ?_
      rw [(hD.2 c (by omega)).2.2.2]
      refine tw_cl1 rfl (rfl) (by decide) (tw_e_ffM hD (by omega)) ?_
      rintro _ τ ⟨rfl, hP⟩
      show tw_P L xs _ 234 33 [.ref 88, .int y, .int (nI (tw_sS w pc P H c)), .int (nI c), u4] [.int (nI (tw_ct (w c) (pc c) H H (P c)))] τ _
      refine tw_sg 3 (i1 := 36) (ls1 := [.ref 88, .int y, .int (nI (tw_sS w pc P H c)), .int (nI c), .int (nI (tw_ct (w c) (pc c) H H (P c)))]) (st1 := [.int (nI 1000), .int (nI (tw_ct (w c) (pc c) H H (P c)))]) (σ1 := τ) rfl ?_
      refine tw_biT (c := .ne) rfl (by rw [tw_cne] <;> (rw [tw_neq (by omega) (by omega)]; exact hlo)) ?_
      show tw_P L xs _ 234 39 [.ref 88, .int y, .int (nI (tw_sS w pc P H c)), .int (nI c), .int (nI (tw_ct (w c) (pc c) H H (P c)))] [] τ _
      refine tw_sgn 6 (i1 := 13) (ls0 := [.ref 88, .int y, .int (nI (tw_sS w pc P H c) + nI (tw_ct (w c) (pc c) H H (P c))), .int (nI c + nI 1), .int (nI (tw_ct (w c) (pc c) H H (P c)))]) (st0 := []) (σ0 := τ) (ls1 := [.ref 88, .int y, .int (nI ((tw_sS w pc P H c) + (tw_ct (w c) (pc c) H H (P c)))), .int (nI (c + 1)), .int (nI (tw_ct (w c) (pc c) H H (P c)))]) (st1 := []) (σ1 := τ) rfl (by simp only [tw_nadd, tw_nmul]) (rfl) (rfl) ?_
      exact ih (c + 1) τ _ (by omega) (hD.g hP) (hF.tr hP) (fun d hd => by
        by_cases e : d = c
        · rw [e]; exact hlo
        · exact hn d (by omega))
set_option maxHeartbeats 4000000 in
set_option maxRecDepth 100000 in
theorem tw_e_fAllM {w pc : Nat → Nat → Int32} {P : Nat → Nat} {H : Nat} (hD : tw_dM σ w pc P H n) (hz : tw_fwZ w pc P H n x) : tw_E L xs 8 234 [.ref 88, .int (-1)] σ (fun v τ => v = some (.int x) ∧ tw_dG σ τ) := by
  show tw_P L xs _ 234 0 [.ref 88, .int (-1), tw_U, tw_U, tw_U] [] σ _
  refine tw_sg 2 (i1 := 2) (ls1 := [.ref 88, .int (-1), tw_U, tw_U, tw_U]) (st1 := [.int (-1), .int (-1)]) (σ1 := σ) rfl ?_
  refine tw_biT (c := .eq) rfl (by rw [tw_ceq] <;> (exact rfl)) ?_
  show tw_P L xs _ 234 9 [.ref 88, .int (-1), tw_U, tw_U, tw_U] [] σ _
  refine tw_sg 4 (i1 := 13) (ls1 := [.ref 88, .int (-1), .int (nI 0), .int (nI 0), tw_U]) (st1 := []) (σ1 := σ) rfl ?_
  exact tw_l_fAllM (σ0 := σ) (by decide) hz (fun τ h => ⟨rfl, h⟩) n 0 σ _ (by omega) hD (fun _ _ _ => rfl) (fun d hd => by omega)
set_option maxHeartbeats 4000000 in
set_option maxRecDepth 100000 in
theorem tw_l_fOne {Q : Option Value → tw_Mem → Prop} {σ0 : tw_Mem} {w pc : Nat → Nat → Int32} {P : Nat → Nat} {H n : Nat} {a : Nat} {z : Int32} (ha : a < n) (z1 : tw_ct (w a) (pc a) H H (P a) = 1000 → z = (-5)) (z2 : ¬ tw_ct (w a) (pc a) H H (P a) = 1000 → z = nI (tw_ct (w a) (pc a) H H (P a))) (hQ : ∀ τ, tw_dG σ0 τ → Q (some (.int z)) τ) : ∀ (f c v : Nat) (σ : tw_Mem) (u4 : Value), c + f = n → tw_dM σ w pc P H n → tw_dG σ0 σ → (c ≤ a → v = 0) → (a < c → ¬ tw_ct (w a) (pc a) H H (P a) = 1000 ∧ v = tw_ct (w a) (pc a) H H (P a)) → tw_P L xs 8 234 13 [.ref 88, .int (nI a), .int (nI v), .int (nI c), u4] [] σ Q := by
  intro f
  induction f with
  | zero =>
    intro c v σ u4 hf hD hF hv hv2
    have hf : c = n := hf
    have h10 := hD.1.1
    obtain ⟨g1, g2⟩ := hv2 (by omega)
    refine tw_sg 4 (i1 := 17) (ls1 := [.ref 88, .int (nI a), .int (nI v), .int (nI c), u4]) (st1 := [.int (nI 0), .ref 89, .int (nI c)]) (σ1 := σ) rfl ?_
    refine tw_al (k := 89) (j := 0) (len := 2) rfl rfl rfl rfl (rfl) (by omega) (by decide) ?_
    rw [hD.1.2.2.2]
    refine tw_biT (c := .ge) rfl (by rw [tw_cge, tw_nle (by omega) (by omega)] <;> omega) ?_
    show tw_P L xs _ 234 45 [.ref 88, .int (nI a), .int (nI v), .int (nI c), u4] [] σ _
    refine tw_sg 1 (i1 := 46) (ls1 := [.ref 88, .int (nI a), .int (nI v), .int (nI c), u4]) (st1 := [.int (nI v)]) (σ1 := σ) rfl ?_
    refine tw_ri rfl (rfl) ?_
    rw [g2, ← z2 g1]
    exact hQ σ hF
  | succ f ih =>
    intro c v σ u4 hf hD hF hv hv2
    have h10 := hD.1.1
    have hcl := @tw_ct_le (w a) (pc a) H H (P a)
    rcases (show c < a ∨ c = a ∨ a < c by omega) with hca | hca | hca
    · skip
      refine tw_sg 4 (i1 := 17) (ls1 := [.ref 88, .int (nI a), .int (nI v), .int (nI c), u4]) (st1 := [.int (nI 0), .ref 89, .int (nI c)]) (σ1 := σ) rfl ?_
      refine tw_al (k := 89) (j := 0) (len := 2) rfl rfl rfl rfl (rfl) (by omega) (by decide) ?_
      rw [hD.1.2.2.2]
      refine tw_biF (c := .ge) rfl (by rw [tw_cge', tw_nle (by omega) (by omega)] <;> omega) ?_
      show tw_P L xs _ 234 19 [.ref 88, .int (nI a), .int (nI v), .int (nI c), u4] [] σ _
      refine tw_sg 1 (i1 := 20) (ls1 := [.ref 88, .int (nI a), .int (nI v), .int (nI c), u4]) (st1 := [.int (nI a)]) (σ1 := σ) rfl ?_
      refine tw_bzF (c := .lt) rfl (by rw [tw_clt', tw_nlt (by omega) (by omega)] <;> omega) ?_
      show tw_P L xs _ 234 21 [.ref 88, .int (nI a), .int (nI v), .int (nI c), u4] [] σ _
      refine tw_sg 2 (i1 := 23) (ls1 := [.ref 88, .int (nI a), .int (nI v), .int (nI c), u4]) (st1 := [.int (nI a), .int (nI c)]) (σ1 := σ) rfl ?_
      refine tw_biF (c := .eq) rfl (by rw [tw_ceq', tw_neq (by omega) (by omega)] <;> omega) ?_
      show tw_P L xs _ 234 24 [.ref 88, .int (nI a), .int (nI v), .int (nI c), u4] [] σ _
      refine tw_sgn 3 (i1 := 13) (ls0 := [.ref 88, .int (nI a), .int (nI v), .int (nI c + nI 1), u4]) (st0 := []) (σ0 := σ) (ls1 := [.ref 88, .int (nI a), .int (nI v), .int (nI (c + 1)), u4]) (st1 := []) (σ1 := σ) rfl (by simp only [tw_nadd, tw_nmul]) (rfl) (rfl) ?_
      exact ih (c + 1) v σ _ (by omega) hD hF (fun _ => hv (by omega)) (fun g => by omega)
    · subst hca
      have hv0 := hv (Nat.le_refl _)
      subst hv0
      by_cases hlo : tw_ct (w c) (pc c) H H (P c) = 1000
      · skip
        refine tw_sg 4 (i1 := 17) (ls1 := [.ref 88, .int (nI c), .int (nI 0), .int (nI c), u4]) (st1 := [.int (nI 0), .ref 89, .int (nI c)]) (σ1 := σ) rfl ?_
        refine tw_al (k := 89) (j := 0) (len := 2) rfl rfl rfl rfl (rfl) (by omega) (by decide) ?_
        rw [hD.1.2.2.2]
        refine tw_biF (c := .ge) rfl (by rw [tw_cge', tw_nle (by omega) (by omega)] <;> omega) ?_
        show tw_P L xs _ 234 19 [.ref 88, .int (nI c), .int (nI 0), .int (nI c), u4] [] σ _
        refine tw_sg 1 (i1 := 20) (ls1 := [.ref 88, .int (nI c), .int (nI 0), .int (nI c), u4]) (st1 := [.int (nI c)]) (σ1 := σ) rfl ?_
        refine tw_bzF (c := .lt) rfl (by rw [tw_clt', tw_nlt (by omega) (by omega)] <;> omega) ?_
        show tw_P L xs _ 234 21 [.ref 88, .int (nI c), .int (nI 0), .int (nI c), u4] [] σ _
        refine tw_sg 2 (i1 := 23) (ls1 := [.ref 88, .int (nI c), .int (nI 0), .int (nI c), u4]) (st1 := [.int (nI c), .int (nI c)]) (σ1 := σ) rfl ?_
        refine tw_biT (c := .eq) rfl (by rw [tw_ceq, tw_neq (by omega) (by omega)] <;> omega) ?_
        show tw_P L xs _ 234 25 [.ref 88, .int (nI c), .int (nI 0), .int (nI c), u4] [] σ _
        refine tw_sg 6 (i1 := 31) (ls1 := [.ref 88, .int (nI c), .int (nI 0), .int (nI c), u4]) (st1 := [.int (nI c), .ref 93, .int (nI 0), .int (nI c), .ref 88]) (σ1 := σ) rfl ?_
        refine tw_al (k := 93) (j := c) (len := 20) rfl rfl rfl rfl (rfl) (by omega) (by decide) ?_
        rw [(hD.2 c (by omega)).2.2.2]
        refine tw_cl1 rfl (rfl) (by decide) (tw_e_ffM hD (by omega)) ?_
        rintro _ τ ⟨rfl, hP⟩
        show tw_P L xs _ 234 33 [.ref 88, .int (nI c), .int (nI 0), .int (nI c), u4] [.int (nI (tw_ct (w c) (pc c) H H (P c)))] τ _
        refine tw_sg 3 (i1 := 36) (ls1 := [.ref 88, .int (nI c), .int (nI 0), .int (nI c), .int (nI (tw_ct (w c) (pc c) H H (P c)))]) (st1 := [.int (nI 1000), .int (nI (tw_ct (w c) (pc c) H H (P c)))]) (σ1 := τ) rfl ?_
        refine tw_biF (c := .ne) rfl (by rw [tw_cne'] <;> (rw [tw_neq (by omega) (by omega)]; exact hlo)) ?_
        show tw_P L xs _ 234 37 [.ref 88, .int (nI c), .int (nI 0), .int (nI c), .int (nI (tw_ct (w c) (pc c) H H (P c)))] [] τ _
        refine tw_sg 1 (i1 := 38) (ls1 := [.ref 88, .int (nI c), .int (nI 0), .int (nI c), .int (nI (tw_ct (w c) (pc c) H H (P c)))]) (st1 := [.int (-5)]) (σ1 := τ) rfl ?_
        refine tw_ri rfl (rfl) ?_
        rw [← z1 hlo]
        exact hQ τ (hF.tr hP)
      · skip
        refine tw_sg 4 (i1 := 17) (ls1 := [.ref 88, .int (nI c), .int (nI 0), .int (nI c), u4]) (st1 := [.int (nI 0), .ref 89, .int (nI c)]) (σ1 := σ) rfl ?_
        refine tw_al (k := 89) (j := 0) (len := 2) rfl rfl rfl rfl (rfl) (by omega) (by decide) ?_
        rw [hD.1.2.2.2]
        refine tw_biF (c := .ge) rfl (by rw [tw_cge', tw_nle (by omega) (by omega)] <;> omega) ?_
        show tw_P L xs _ 234 19 [.ref 88, .int (nI c), .int (nI 0), .int (nI c), u4] [] σ _
        refine tw_sg 1 (i1 := 20) (ls1 := [.ref 88, .int (nI c), .int (nI 0), .int (nI c), u4]) (st1 := [.int (nI c)]) (σ1 := σ) rfl ?_
        refine tw_bzF (c := .lt) rfl (by rw [tw_clt', tw_nlt (by omega) (by omega)] <;> omega) ?_
        show tw_P L xs _ 234 21 [.ref 88, .int (nI c), .int (nI 0), .int (nI c), u4] [] σ _
        refine tw_sg 2 (i1 := 23) (ls1 := [.ref 88, .int (nI c), .int (nI 0), .int (nI c), u4]) (st1 := [.int (nI c), .int (nI c)]) (σ1 := σ) rfl ?_
        refine tw_biT (c := .eq) rfl (by rw [tw_ceq, tw_neq (by omega) (by omega)] <;> omega) ?_
        show tw_P L xs _ 234 25 [.ref 88, .int (nI c), .int (nI 0), .int (nI c), u4] [] σ _
        refine tw_sg 6 (i1 := 31) (ls1 := [.ref 88, .int (nI c), .int (nI 0), .int (nI c), u4]) (st1 := [.int (nI c), .ref 93, .int (nI 0), .int (nI c), .ref 88]) (σ1 := σ) rfl ?_
        refine tw_al (k := 93) (j := c) (len := 20) rfl rfl rfl rfl (rfl) (by omega) (by decide) ?_
        rw [(hD.2 c (by omega)).2.2.2]
        refine tw_cl1 rfl (rfl) (by decide) (tw_e_ffM hD (by omega)) ?_
        rintro _ τ ⟨rfl, hP⟩
        show tw_P L xs _ 234 33 [.ref 88, .int (nI c), .int (nI 0), .int (nI c), u4] [.int (nI (tw_ct (w c) (pc c) H H (P c)))] τ _
        refine tw_sg 3 (i1 := 36) (ls1 := [.ref 88, .int (nI c), .int (nI 0), .int (nI c), .int (nI (tw_ct (w c) (pc c) H H (P c)))]) (st1 := [.int (nI 1000), .int (nI (tw_ct (w c) (pc c) H H (P c)))]) (σ1 := τ) rfl ?_
        refine tw_biT (c := .ne) rfl (by rw [tw_cne] <;> (rw [tw_neq (by omega) (by omega)]; exact hlo)) ?_
        show tw_P L xs _ 234 39 [.ref 88, .int (nI c), .int (nI 0), .int (nI c), .int (nI (tw_ct (w c) (pc c) H H (P c)))] [] τ _
        refine tw_sgn 6 (i1 := 13) (ls0 := [.ref 88, .int (nI c), .int (nI 0 + nI (tw_ct (w c) (pc c) H H (P c))), .int (nI c + nI 1), .int (nI (tw_ct (w c) (pc c) H H (P c)))]) (st0 := []) (σ0 := τ) (ls1 := [.ref 88, .int (nI c), .int (nI (0 + (tw_ct (w c) (pc c) H H (P c)))), .int (nI (c + 1)), .int (nI (tw_ct (w c) (pc c) H H (P c)))]) (st1 := []) (σ1 := τ) rfl (by simp only [tw_nadd, tw_nmul]) (rfl) (rfl) ?_
        exact ih (c + 1) _ τ _ (by omega) (hD.g hP) (hF.tr hP) (fun g => by omega) (fun _ => ⟨hlo, Nat.zero_add _⟩)
    · skip
      refine tw_sg 4 (i1 := 17) (ls1 := [.ref 88, .int (nI a), .int (nI v), .int (nI c), u4]) (st1 := [.int (nI 0), .ref 89, .int (nI c)]) (σ1 := σ) rfl ?_
      refine tw_al (k := 89) (j := 0) (len := 2) rfl rfl rfl rfl (rfl) (by omega) (by decide) ?_
      rw [hD.1.2.2.2]
      refine tw_biF (c := .ge) rfl (by rw [tw_cge', tw_nle (by omega) (by omega)] <;> omega) ?_
      show tw_P L xs _ 234 19 [.ref 88, .int (nI a), .int (nI v), .int (nI c), u4] [] σ _
      refine tw_sg 1 (i1 := 20) (ls1 := [.ref 88, .int (nI a), .int (nI v), .int (nI c), u4]) (st1 := [.int (nI a)]) (σ1 := σ) rfl ?_
      refine tw_bzF (c := .lt) rfl (by rw [tw_clt', tw_nlt (by omega) (by omega)] <;> omega) ?_
      show tw_P L xs _ 234 21 [.ref 88, .int (nI a), .int (nI v), .int (nI c), u4] [] σ _
      refine tw_sg 2 (i1 := 23) (ls1 := [.ref 88, .int (nI a), .int (nI v), .int (nI c), u4]) (st1 := [.int (nI a), .int (nI c)]) (σ1 := σ) rfl ?_
      refine tw_biF (c := .eq) rfl (by rw [tw_ceq', tw_neq (by omega) (by omega)] <;> omega) ?_
      show tw_P L xs _ 234 24 [.ref 88, .int (nI a), .int (nI v), .int (nI c), u4] [] σ _
      refine tw_sgn 3 (i1 := 13) (ls0 := [.ref 88, .int (nI a), .int (nI v), .int (nI c + nI 1), u4]) (st0 := []) (σ0 := σ) (ls1 := [.ref 88, .int (nI a), .int (nI v), .int (nI (c + 1)), u4]) (st1 := []) (σ1 := σ) rfl (by simp only [tw_nadd, tw_nmul]) (rfl) (rfl) ?_
      exact ih (c + 1) v σ _ (by omega) hD hF (fun g => by omega) (fun g => hv2 (by omega))
set_option maxHeartbeats 4000000 in
set_option maxRecDepth 100000 in
theorem tw_o_draft {L : Nat} {xs : Nat → Int32} (x : Int32) (y : Int32) : tw_op L xs 155 233 [.int x, .int y] := by
  intro σ hI
  obtain ⟨⟨n, r, hL⟩, hT, hPp, hPc, hLs, hIm, hC14, hC46, hC72⟩ := id hI
  obtain ⟨⟨hn10, hr50⟩, ⟨hn6, hn89⟩, ⟨hr9, hw9, hr90⟩, hCa, hRo, hLa⟩ := hL
  have hn6 : σ 6 4 = nI n := hn6
  have hn89 : σ 89 0 = nI n := hn89
  have hr9 : σ 9 3 = nI r := hr9
  have hw9 : σ 9 4 = nI n := hw9
  have hr90 : σ 90 0 = nI r := hr90
  obtain ⟨P, q, hPq⟩ := tw_cardsP hCa
  obtain ⟨H, hH8, h79, h32, hpic, -⟩ := id hPc
  obtain ⟨w, hw⟩ : ∃ w : Nat → Nat → Int32, ∀ c h, w c h = σ 91 (4 * c + h) := ⟨_, fun _ _ => rfl⟩
  obtain ⟨pc, hpc⟩ : ∃ pc : Nat → Nat → Int32, ∀ c l, pc c l = σ 113 (10 * l + c) := ⟨_, fun _ _ => rfl⟩
  have hDC : tw_dC σ w pc P H n := ⟨⟨hn10, hH8, h79, hn6⟩, fun c hc => ⟨fun h hh => ((tw_iCards0.mp hCa c hc).1 h hh).1.trans (hw c h).symm, fun l hl => (hpic _ (by omega)).trans (hpc c l).symm, (hPq c hc).1.1, (hPq c hc).1.2.1⟩⟩
  have hDM : tw_dM σ w pc P H n := ⟨⟨hn10, hH8, h32, hn89⟩, fun c hc => ⟨fun h hh => (hw c h).symm, fun l hl => (hpc c l).symm, (hPq c hc).1.1, (hPq c hc).1.2.2⟩⟩
  have hKM : ∀ {τ : tw_Mem}, tw_dF σ τ → tw_dM τ w pc P H n := fun h => hDM.to (fun k j g => h k j (by omega) (by omega))
  have hKI : ∀ {τ ω : tw_Mem}, tw_dF σ τ → tw_dG τ ω → tw_Inv ω := fun h g => hI.keep (fun k j e => by unfold tw_scr at e; exact (g k j (by omega)).trans (h k j (by omega) (by omega)))
  rcases tw_within y n (by omega) with ⟨c, hc, rfl⟩ | hy
  · rcases tw_within x H (by omega) with ⟨l, hl, rfl⟩ | hx
    · have hcl := @tw_ct_le (w c) (pc c) H H (P c)
      by_cases hlo : tw_ct (w c) (pc c) H H (P c) = 1000
      · skip
        show tw_P L xs _ 155 0 [.ref 1, .int (nI l), .int (nI c), tw_U] [] σ _
        refine tw_sg 3 (i1 := 3) (ls1 := [.ref 1, .int (nI l), .int (nI c), tw_U]) (st1 := [.int (nI c), .ref 6]) (σ1 := σ) rfl ?_
        refine tw_cl1 rfl (rfl) (by decide) (tw_e_cardAt1 hn6 hn10 hc) ?_
        rintro _ _ ⟨rfl, rfl⟩
        show tw_P L xs _ 155 4 [.ref 1, .int (nI l), .int (nI c), tw_U] [.ref (2 * c + 18)] σ _
        refine tw_sg 4 (i1 := 8) (ls1 := [.ref 1, .int (nI l), .int (nI c), .ref (2 * c + 18)]) (st1 := [.int (nI l)]) (σ1 := σ) rfl ?_
        refine tw_bzF (c := .lt) rfl (by rw [tw_clt', tw_nlt (by omega) (by omega)] <;> omega) ?_
        show tw_P L xs _ 155 9 [.ref 1, .int (nI l), .int (nI c), .ref (2 * c + 18)] [] σ _
        refine tw_sg 3 (i1 := 12) (ls1 := [.ref 1, .int (nI l), .int (nI c), .ref (2 * c + 18)]) (st1 := [.ref 79, .int (nI l)]) (σ1 := σ) rfl ?_
        refine tw_cl0 59 rfl (rfl) (by decide) ?_
        show tw_P L xs _ 114 0 [.ref 79] [] σ _
        refine tw_sgn 2 (i1 := 2) (ls0 := [.ref 79]) (st0 := [.int (σ 79 1)]) (σ0 := σ) (ls1 := [.ref 79]) (st1 := [.int (nI H)]) (σ1 := σ) rfl (rfl) (by simp only [h79, tw_nadd, tw_nmul]) (rfl) ?_
        refine tw_ri rfl (rfl) ?_
        show tw_P L xs _ 155 13 [.ref 1, .int (nI l), .int (nI c), .ref (2 * c + 18)] [.int (nI H), .int (nI l)] σ _
        refine tw_biT (c := .lt) rfl (by rw [tw_clt, tw_nlt (by omega) (by omega)] <;> omega) ?_
        show tw_P L xs _ 155 16 [.ref 1, .int (nI l), .int (nI c), .ref (2 * c + 18)] [] σ _
        refine tw_sg 6 (i1 := 22) (ls1 := [.ref 1, .int (nI l), .int (nI c), .ref (2 * c + 18)]) (st1 := [.int (nI c), .ref 79, .ref (2 * c + 18), .ref 81]) (σ1 := σ) rfl ?_
        refine tw_cl1 rfl (rfl) (by decide) (tw_e_pln0 hDC hc hlo) ?_
        rintro _ τ ⟨rfl, hP⟩
        show tw_P L xs _ 155 23 [.ref 1, .int (nI l), .int (nI c), .ref (2 * c + 18)] [.int (-5)] τ _
        refine tw_sg 1 (i1 := 24) (ls1 := [.ref 1, .int (nI l), .int (nI c), .ref (2 * c + 18)]) (st1 := [.int (-5), .int (-5)]) (σ1 := τ) rfl ?_
        refine tw_biF (c := .ne) rfl (by rw [tw_cne'] <;> (exact rfl)) ?_
        show tw_P L xs _ 155 25 [.ref 1, .int (nI l), .int (nI c), .ref (2 * c + 18)] [] τ _
        refine tw_sg 2 (i1 := 31) (ls1 := [.ref 1, .int (nI l), .int (nI c), .ref (2 * c + 18)]) (st1 := [.int (-5)]) (σ1 := τ) rfl ?_
        refine tw_ri rfl (rfl) ?_
        refine ⟨_, rfl, ?_⟩
        show tw_P L xs _ 233 0 [.ref 88, .int (nI l), .int (nI c)] [] τ _
        refine tw_sgn 6 (i1 := 6) (ls0 := [.ref 88, .int (nI l), .int (nI c)]) (st0 := [.int ((τ 88 32) - nI 1), .int (nI 0), .int (nI l)]) (σ0 := τ) (ls1 := [.ref 88, .int (nI l), .int (nI c)]) (st1 := [.int (nI H - nI 1), .int (nI 0), .int (nI l)]) (σ1 := τ) rfl (rfl) (by simp only [((hP 88 32 (by omega) (by omega)).trans h32), tw_nadd, tw_nmul]) (rfl) ?_
        refine tw_cl1 rfl (rfl) (by decide) (tw_e_inN1 hl (by omega)) ?_
        rintro _ _ ⟨rfl, rfl⟩
        show tw_P L xs _ 233 7 [.ref 88, .int (nI l), .int (nI c)] [.int (nI 1)] τ _
        refine tw_bzF (c := .eq) rfl (by rw [tw_ceq', tw_neq (by omega) (by omega)] <;> omega) ?_
        show tw_P L xs _ 233 8 [.ref 88, .int (nI l), .int (nI c)] [] τ _
        refine tw_sg 2 (i1 := 10) (ls1 := [.ref 88, .int (nI l), .int (nI c)]) (st1 := [.int (nI c), .ref 88]) (σ1 := τ) rfl ?_
        refine tw_cl1 rfl (rfl) (by decide) (tw_e_isCard1 ((hP 89 0 (by omega) (by omega)).trans hn89) hn10 hc) ?_
        rintro _ _ ⟨rfl, rfl⟩
        show tw_P L xs _ 233 11 [.ref 88, .int (nI l), .int (nI c)] [.int (nI 1)] τ _
        refine tw_bzT (c := .ne) rfl (by rw [tw_cne, tw_neq (by omega) (by omega)] <;> omega) ?_
        show tw_P L xs _ 233 14 [.ref 88, .int (nI l), .int (nI c)] [] τ _
        refine tw_sg 3 (i1 := 17) (ls1 := [.ref 88, .int (nI l), .int (nI c)]) (st1 := [.int (nI c), .int (nI l), .ref 88]) (σ1 := τ) rfl ?_
        refine tw_cl1 rfl (rfl) (by decide) (tw_e_drM0 (hKM hP) hc hl hlo) ?_
        rintro _ ω ⟨rfl, hG⟩
        show tw_P L xs _ 233 18 [.ref 88, .int (nI l), .int (nI c)] [.int (-5)] ω _
        refine tw_ri rfl (rfl) ?_
        exact ⟨rfl, hKI hP hG⟩
      · skip
        have hne : ¬ nI (tw_ct (w c) (pc c) H H (P c)) = (-5) := tw_nne5 (by omega)
        show tw_P L xs _ 155 0 [.ref 1, .int (nI l), .int (nI c), tw_U] [] σ _
        refine tw_sg 3 (i1 := 3) (ls1 := [.ref 1, .int (nI l), .int (nI c), tw_U]) (st1 := [.int (nI c), .ref 6]) (σ1 := σ) rfl ?_
        refine tw_cl1 rfl (rfl) (by decide) (tw_e_cardAt1 hn6 hn10 hc) ?_
        rintro _ _ ⟨rfl, rfl⟩
        show tw_P L xs _ 155 4 [.ref 1, .int (nI l), .int (nI c), tw_U] [.ref (2 * c + 18)] σ _
        refine tw_sg 4 (i1 := 8) (ls1 := [.ref 1, .int (nI l), .int (nI c), .ref (2 * c + 18)]) (st1 := [.int (nI l)]) (σ1 := σ) rfl ?_
        refine tw_bzF (c := .lt) rfl (by rw [tw_clt', tw_nlt (by omega) (by omega)] <;> omega) ?_
        show tw_P L xs _ 155 9 [.ref 1, .int (nI l), .int (nI c), .ref (2 * c + 18)] [] σ _
        refine tw_sg 3 (i1 := 12) (ls1 := [.ref 1, .int (nI l), .int (nI c), .ref (2 * c + 18)]) (st1 := [.ref 79, .int (nI l)]) (σ1 := σ) rfl ?_
        refine tw_cl0 59 rfl (rfl) (by decide) ?_
        show tw_P L xs _ 114 0 [.ref 79] [] σ _
        refine tw_sgn 2 (i1 := 2) (ls0 := [.ref 79]) (st0 := [.int (σ 79 1)]) (σ0 := σ) (ls1 := [.ref 79]) (st1 := [.int (nI H)]) (σ1 := σ) rfl (rfl) (by simp only [h79, tw_nadd, tw_nmul]) (rfl) ?_
        refine tw_ri rfl (rfl) ?_
        show tw_P L xs _ 155 13 [.ref 1, .int (nI l), .int (nI c), .ref (2 * c + 18)] [.int (nI H), .int (nI l)] σ _
        refine tw_biT (c := .lt) rfl (by rw [tw_clt, tw_nlt (by omega) (by omega)] <;> omega) ?_
        show tw_P L xs _ 155 16 [.ref 1, .int (nI l), .int (nI c), .ref (2 * c + 18)] [] σ _
        refine tw_sg 6 (i1 := 22) (ls1 := [.ref 1, .int (nI l), .int (nI c), .ref (2 * c + 18)]) (st1 := [.int (nI c), .ref 79, .ref (2 * c + 18), .ref 81]) (σ1 := σ) rfl ?_
        refine tw_cl1 rfl (rfl) (by decide) (tw_e_pln1 hDC hc hlo) ?_
        rintro _ τ ⟨rfl, hP, hP2⟩
        show tw_P L xs _ 155 23 [.ref 1, .int (nI l), .int (nI c), .ref (2 * c + 18)] [.int (nI (tw_ct (w c) (pc c) H H (P c)))] τ _
        refine tw_sg 1 (i1 := 24) (ls1 := [.ref 1, .int (nI l), .int (nI c), .ref (2 * c + 18)]) (st1 := [.int (-5), .int (nI (tw_ct (w c) (pc c) H H (P c)))]) (σ1 := τ) rfl ?_
        refine tw_biT (c := .ne) rfl (by rw [tw_cne] <;> (exact hne)) ?_
        show tw_P L xs _ 155 27 [.ref 1, .int (nI l), .int (nI c), .ref (2 * c + 18)] [] τ _
        refine tw_sg 3 (i1 := 30) (ls1 := [.ref 1, .int (nI l), .int (nI c), .ref (2 * c + 18)]) (st1 := [.int (nI l), .ref 81]) (σ1 := τ) rfl ?_
        refine tw_cl0 59 rfl (rfl) (by decide) ?_
        show tw_P L xs _ 46 0 [.ref 81, .int (nI l)] [] τ _
        refine tw_sg 1 (i1 := 1) (ls1 := [.ref 81, .int (nI l)]) (st1 := [.int (nI l)]) (σ1 := τ) rfl ?_
        refine tw_bzF (c := .lt) rfl (by rw [tw_clt', tw_nlt (by omega) (by omega)] <;> omega) ?_
        show tw_P L xs _ 46 2 [.ref 81, .int (nI l)] [] τ _
        refine tw_sg 4 (i1 := 6) (ls1 := [.ref 81, .int (nI l)]) (st1 := [.int (nI 8), .int (nI l)]) (σ1 := τ) rfl ?_
        refine tw_biF (c := .ge) rfl (by rw [tw_cge', tw_nle (by omega) (by omega)] <;> omega) ?_
        show tw_P L xs _ 46 7 [.ref 81, .int (nI l)] [] τ _
        refine tw_sg 3 (i1 := 10) (ls1 := [.ref 81, .int (nI l)]) (st1 := [.int (nI l), .ref 83]) (σ1 := τ) rfl ?_
        refine tw_al (k := 83) (j := l) (len := 8) rfl rfl rfl rfl (rfl) (by omega) (by decide) ?_
        rw [(hP2 l hl)]
        refine tw_sg 1 (i1 := 13) (ls1 := [.ref 81, .int (nI l)]) (st1 := [.int (nI (tw_ft (w c) (pc c) H (P c) l))]) (σ1 := τ) rfl ?_
        refine tw_ri rfl (rfl) ?_
        show tw_P L xs _ 155 31 [.ref 1, .int (nI l), .int (nI c), .ref (2 * c + 18)] [.int (nI (tw_ft (w c) (pc c) H (P c) l))] τ _
        refine tw_ri rfl (rfl) ?_
        refine ⟨_, rfl, ?_⟩
        show tw_P L xs _ 233 0 [.ref 88, .int (nI l), .int (nI c)] [] τ _
        refine tw_sgn 6 (i1 := 6) (ls0 := [.ref 88, .int (nI l), .int (nI c)]) (st0 := [.int ((τ 88 32) - nI 1), .int (nI 0), .int (nI l)]) (σ0 := τ) (ls1 := [.ref 88, .int (nI l), .int (nI c)]) (st1 := [.int (nI H - nI 1), .int (nI 0), .int (nI l)]) (σ1 := τ) rfl (rfl) (by simp only [((hP 88 32 (by omega) (by omega)).trans h32), tw_nadd, tw_nmul]) (rfl) ?_
        refine tw_cl1 rfl (rfl) (by decide) (tw_e_inN1 hl (by omega)) ?_
        rintro _ _ ⟨rfl, rfl⟩
        show tw_P L xs _ 233 7 [.ref 88, .int (nI l), .int (nI c)] [.int (nI 1)] τ _
        refine tw_bzF (c := .eq) rfl (by rw [tw_ceq', tw_neq (by omega) (by omega)] <;> omega) ?_
        show tw_P L xs _ 233 8 [.ref 88, .int (nI l), .int (nI c)] [] τ _
        refine tw_sg 2 (i1 := 10) (ls1 := [.ref 88, .int (nI l), .int (nI c)]) (st1 := [.int (nI c), .ref 88]) (σ1 := τ) rfl ?_
        refine tw_cl1 rfl (rfl) (by decide) (tw_e_isCard1 ((hP 89 0 (by omega) (by omega)).trans hn89) hn10 hc) ?_
        rintro _ _ ⟨rfl, rfl⟩
        show tw_P L xs _ 233 11 [.ref 88, .int (nI l), .int (nI c)] [.int (nI 1)] τ _
        refine tw_bzT (c := .ne) rfl (by rw [tw_cne, tw_neq (by omega) (by omega)] <;> omega) ?_
        show tw_P L xs _ 233 14 [.ref 88, .int (nI l), .int (nI c)] [] τ _
        refine tw_sg 3 (i1 := 17) (ls1 := [.ref 88, .int (nI l), .int (nI c)]) (st1 := [.int (nI c), .int (nI l), .ref 88]) (σ1 := τ) rfl ?_
        refine tw_cl1 rfl (rfl) (by decide) (tw_e_drM1 (hKM hP) hc hl hlo) ?_
        rintro _ ω ⟨rfl, hG⟩
        show tw_P L xs _ 233 18 [.ref 88, .int (nI l), .int (nI c)] [.int (nI (tw_ft (w c) (pc c) H (P c) l))] ω _
        refine tw_ri rfl (rfl) ?_
        exact ⟨rfl, hKI hP hG⟩
    · skip
      rcases hx with hx2 | ⟨hx2, hx3⟩
      · skip
        show tw_P L xs _ 155 0 [.ref 1, .int x, .int (nI c), tw_U] [] σ _
        refine tw_sg 3 (i1 := 3) (ls1 := [.ref 1, .int x, .int (nI c), tw_U]) (st1 := [.int (nI c), .ref 6]) (σ1 := σ) rfl ?_
        refine tw_cl1 rfl (rfl) (by decide) (tw_e_cardAt1 hn6 hn10 hc) ?_
        rintro _ _ ⟨rfl, rfl⟩
        show tw_P L xs _ 155 4 [.ref 1, .int x, .int (nI c), tw_U] [.ref (2 * c + 18)] σ _
        refine tw_sg 4 (i1 := 8) (ls1 := [.ref 1, .int x, .int (nI c), .ref (2 * c + 18)]) (st1 := [.int x]) (σ1 := σ) rfl ?_
        refine tw_bzT (c := .lt) rfl (by rw [tw_clt] <;> (exact hx2)) ?_
        show tw_P L xs _ 155 14 [.ref 1, .int x, .int (nI c), .ref (2 * c + 18)] [] σ _
        refine tw_sg 1 (i1 := 15) (ls1 := [.ref 1, .int x, .int (nI c), .ref (2 * c + 18)]) (st1 := [.int (-1)]) (σ1 := σ) rfl ?_
        refine tw_ri rfl (rfl) ?_
        refine ⟨_, rfl, ?_⟩
        show tw_P L xs _ 233 0 [.ref 88, .int x, .int (nI c)] [] σ _
        refine tw_sgn 6 (i1 := 6) (ls0 := [.ref 88, .int x, .int (nI c)]) (st0 := [.int ((σ 88 32) - nI 1), .int (nI 0), .int x]) (σ0 := σ) (ls1 := [.ref 88, .int x, .int (nI c)]) (st1 := [.int (nI H - nI 1), .int (nI 0), .int x]) (σ1 := σ) rfl (rfl) (by simp only [h32, tw_nadd, tw_nmul]) (rfl) ?_
        refine tw_cl1 rfl (rfl) (by decide) (tw_e_inN0 (by omega) (Or.inl hx2)) ?_
        rintro _ _ ⟨rfl, rfl⟩
        show tw_P L xs _ 233 7 [.ref 88, .int x, .int (nI c)] [.int (nI 0)] σ _
        refine tw_bzT (c := .eq) rfl (by rw [tw_ceq, tw_neq (by omega) (by omega)] <;> omega) ?_
        show tw_P L xs _ 233 12 [.ref 88, .int x, .int (nI c)] [] σ _
        refine tw_sg 1 (i1 := 13) (ls1 := [.ref 88, .int x, .int (nI c)]) (st1 := [.int (-1)]) (σ1 := σ) rfl ?_
        refine tw_ri rfl (rfl) ?_
        exact ⟨rfl, hI⟩
      · skip
        show tw_P L xs _ 155 0 [.ref 1, .int x, .int (nI c), tw_U] [] σ _
        refine tw_sg 3 (i1 := 3) (ls1 := [.ref 1, .int x, .int (nI c), tw_U]) (st1 := [.int (nI c), .ref 6]) (σ1 := σ) rfl ?_
        refine tw_cl1 rfl (rfl) (by decide) (tw_e_cardAt1 hn6 hn10 hc) ?_
        rintro _ _ ⟨rfl, rfl⟩
        show tw_P L xs _ 155 4 [.ref 1, .int x, .int (nI c), tw_U] [.ref (2 * c + 18)] σ _
        refine tw_sg 4 (i1 := 8) (ls1 := [.ref 1, .int x, .int (nI c), .ref (2 * c + 18)]) (st1 := [.int x]) (σ1 := σ) rfl ?_
        refine tw_bzF (c := .lt) rfl (by rw [tw_clt'] <;> (exact hx2)) ?_
        show tw_P L xs _ 155 9 [.ref 1, .int x, .int (nI c), .ref (2 * c + 18)] [] σ _
        refine tw_sg 3 (i1 := 12) (ls1 := [.ref 1, .int x, .int (nI c), .ref (2 * c + 18)]) (st1 := [.ref 79, .int x]) (σ1 := σ) rfl ?_
        refine tw_cl0 59 rfl (rfl) (by decide) ?_
        show tw_P L xs _ 114 0 [.ref 79] [] σ _
        refine tw_sgn 2 (i1 := 2) (ls0 := [.ref 79]) (st0 := [.int (σ 79 1)]) (σ0 := σ) (ls1 := [.ref 79]) (st1 := [.int (nI H)]) (σ1 := σ) rfl (rfl) (by simp only [h79, tw_nadd, tw_nmul]) (rfl) ?_
        refine tw_ri rfl (rfl) ?_
        show tw_P L xs _ 155 13 [.ref 1, .int x, .int (nI c), .ref (2 * c + 18)] [.int (nI H), .int x] σ _
        refine tw_biF (c := .lt) rfl (by rw [tw_clt'] <;> (exact (tw_not_lt.mpr hx3))) ?_
        show tw_P L xs _ 155 14 [.ref 1, .int x, .int (nI c), .ref (2 * c + 18)] [] σ _
        refine tw_sg 1 (i1 := 15) (ls1 := [.ref 1, .int x, .int (nI c), .ref (2 * c + 18)]) (st1 := [.int (-1)]) (σ1 := σ) rfl ?_
        refine tw_ri rfl (rfl) ?_
        refine ⟨_, rfl, ?_⟩
        show tw_P L xs _ 233 0 [.ref 88, .int x, .int (nI c)] [] σ _
        refine tw_sgn 6 (i1 := 6) (ls0 := [.ref 88, .int x, .int (nI c)]) (st0 := [.int ((σ 88 32) - nI 1), .int (nI 0), .int x]) (σ0 := σ) (ls1 := [.ref 88, .int x, .int (nI c)]) (st1 := [.int (nI H - nI 1), .int (nI 0), .int x]) (σ1 := σ) rfl (rfl) (by simp only [h32, tw_nadd, tw_nmul]) (rfl) ?_
        refine tw_cl1 rfl (rfl) (by decide) (tw_e_inN0 (by omega) (Or.inr ⟨hx2, hx3⟩)) ?_
        rintro _ _ ⟨rfl, rfl⟩
        show tw_P L xs _ 233 7 [.ref 88, .int x, .int (nI c)] [.int (nI 0)] σ _
        refine tw_bzT (c := .eq) rfl (by rw [tw_ceq, tw_neq (by omega) (by omega)] <;> omega) ?_
        show tw_P L xs _ 233 12 [.ref 88, .int x, .int (nI c)] [] σ _
        refine tw_sg 1 (i1 := 13) (ls1 := [.ref 88, .int x, .int (nI c)]) (st1 := [.int (-1)]) (σ1 := σ) rfl ?_
        refine tw_ri rfl (rfl) ?_
        exact ⟨rfl, hI⟩
  · rcases tw_within x H (by omega) with ⟨l, hl, rfl⟩ | hx
    · skip
      show tw_P L xs _ 155 0 [.ref 1, .int (nI l), .int y, tw_U] [] σ _
      refine tw_sg 3 (i1 := 3) (ls1 := [.ref 1, .int (nI l), .int y, tw_U]) (st1 := [.int y, .ref 6]) (σ1 := σ) rfl ?_
      refine tw_cl1 rfl (rfl) (by decide) (tw_e_cardAt0 hn6 hy) ?_
      rintro _ _ ⟨rfl, rfl⟩
      show tw_P L xs _ 155 4 [.ref 1, .int (nI l), .int y, tw_U] [.null] σ _
      refine tw_sg 4 (i1 := 15) (ls1 := [.ref 1, .int (nI l), .int y, .null]) (st1 := [.int (-1)]) (σ1 := σ) rfl ?_
      refine tw_ri rfl (rfl) ?_
      refine ⟨_, rfl, ?_⟩
      show tw_P L xs _ 233 0 [.ref 88, .int (nI l), .int y] [] σ _
      refine tw_sgn 6 (i1 := 6) (ls0 := [.ref 88, .int (nI l), .int y]) (st0 := [.int ((σ 88 32) - nI 1), .int (nI 0), .int (nI l)]) (σ0 := σ) (ls1 := [.ref 88, .int (nI l), .int y]) (st1 := [.int (nI H - nI 1), .int (nI 0), .int (nI l)]) (σ1 := σ) rfl (rfl) (by simp only [h32, tw_nadd, tw_nmul]) (rfl) ?_
      refine tw_cl1 rfl (rfl) (by decide) (tw_e_inN1 hl (by omega)) ?_
      rintro _ _ ⟨rfl, rfl⟩
      show tw_P L xs _ 233 7 [.ref 88, .int (nI l), .int y] [.int (nI 1)] σ _
      refine tw_bzF (c := .eq) rfl (by rw [tw_ceq', tw_neq (by omega) (by omega)] <;> omega) ?_
      show tw_P L xs _ 233 8 [.ref 88, .int (nI l), .int y] [] σ _
      refine tw_sg 2 (i1 := 10) (ls1 := [.ref 88, .int (nI l), .int y]) (st1 := [.int y, .ref 88]) (σ1 := σ) rfl ?_
      refine tw_cl1 rfl (rfl) (by decide) (tw_e_isCard0 hn89 hn10 hy) ?_
      rintro _ _ ⟨rfl, rfl⟩
      show tw_P L xs _ 233 11 [.ref 88, .int (nI l), .int y] [.int (nI 0)] σ _
      refine tw_bzF (c := .ne) rfl (by rw [tw_cne', tw_neq (by omega) (by omega)] <;> omega) ?_
      show tw_P L xs _ 233 12 [.ref 88, .int (nI l), .int y] [] σ _
      refine tw_sg 1 (i1 := 13) (ls1 := [.ref 88, .int (nI l), .int y]) (st1 := [.int (-1)]) (σ1 := σ) rfl ?_
      refine tw_ri rfl (rfl) ?_
      exact ⟨rfl, hI⟩
    · skip
      show tw_P L xs _ 155 0 [.ref 1, .int x, .int y, tw_U] [] σ _
      refine tw_sg 3 (i1 := 3) (ls1 := [.ref 1, .int x, .int y, tw_U]) (st1 := [.int y, .ref 6]) (σ1 := σ) rfl ?_
      refine tw_cl1 rfl (rfl) (by decide) (tw_e_cardAt0 hn6 hy) ?_
      rintro _ _ ⟨rfl, rfl⟩
      show tw_P L xs _ 155 4 [.ref 1, .int x, .int y, tw_U] [.null] σ _
      refine tw_sg 4 (i1 := 15) (ls1 := [.ref 1, .int x, .int y, .null]) (st1 := [.int (-1)]) (σ1 := σ) rfl ?_
      refine tw_ri rfl (rfl) ?_
      refine ⟨_, rfl, ?_⟩
      show tw_P L xs _ 233 0 [.ref 88, .int x, .int y] [] σ _
      refine tw_sgn 6 (i1 := 6) (ls0 := [.ref 88, .int x, .int y]) (st0 := [.int ((σ 88 32) - nI 1), .int (nI 0), .int x]) (σ0 := σ) (ls1 := [.ref 88, .int x, .int y]) (st1 := [.int (nI H - nI 1), .int (nI 0), .int x]) (σ1 := σ) rfl (rfl) (by simp only [h32, tw_nadd, tw_nmul]) (rfl) ?_
      refine tw_cl1 rfl (rfl) (by decide) (tw_e_inN0 (by omega) hx) ?_
      rintro _ _ ⟨rfl, rfl⟩
      show tw_P L xs _ 233 7 [.ref 88, .int x, .int y] [.int (nI 0)] σ _
      refine tw_bzT (c := .eq) rfl (by rw [tw_ceq, tw_neq (by omega) (by omega)] <;> omega) ?_
      show tw_P L xs _ 233 12 [.ref 88, .int x, .int y] [] σ _
      refine tw_sg 1 (i1 := 13) (ls1 := [.ref 88, .int x, .int y]) (st1 := [.int (-1)]) (σ1 := σ) rfl ?_
      refine tw_ri rfl (rfl) ?_
      exact ⟨rfl, hI⟩
set_option maxHeartbeats 4000000 in
set_option maxRecDepth 100000 in
theorem tw_o_fewest {L : Nat} {xs : Nat → Int32} (x : Int32) : tw_op L xs 156 234 [.int x] := by
  intro σ hI
  obtain ⟨⟨n, r, hL⟩, hT, hPp, hPc, hLs, hIm, hC14, hC46, hC72⟩ := id hI
  obtain ⟨⟨hn10, hr50⟩, ⟨hn6, hn89⟩, ⟨hr9, hw9, hr90⟩, hCa, hRo, hLa⟩ := hL
  have hn6 : σ 6 4 = nI n := hn6
  have hn89 : σ 89 0 = nI n := hn89
  have hr9 : σ 9 3 = nI r := hr9
  have hw9 : σ 9 4 = nI n := hw9
  have hr90 : σ 90 0 = nI r := hr90
  obtain ⟨P, q, hPq⟩ := tw_cardsP hCa
  obtain ⟨H, hH8, h79, h32, hpic, -⟩ := id hPc
  obtain ⟨w, hw⟩ : ∃ w : Nat → Nat → Int32, ∀ c h, w c h = σ 91 (4 * c + h) := ⟨_, fun _ _ => rfl⟩
  obtain ⟨pc, hpc⟩ : ∃ pc : Nat → Nat → Int32, ∀ c l, pc c l = σ 113 (10 * l + c) := ⟨_, fun _ _ => rfl⟩
  have hDC : tw_dC σ w pc P H n := ⟨⟨hn10, hH8, h79, hn6⟩, fun c hc => ⟨fun h hh => ((tw_iCards0.mp hCa c hc).1 h hh).1.trans (hw c h).symm, fun l hl => (hpic _ (by omega)).trans (hpc c l).symm, (hPq c hc).1.1, (hPq c hc).1.2.1⟩⟩
  have hDM : tw_dM σ w pc P H n := ⟨⟨hn10, hH8, h32, hn89⟩, fun c hc => ⟨fun h hh => (hw c h).symm, fun l hl => (hpc c l).symm, (hPq c hc).1.1, (hPq c hc).1.2.2⟩⟩
  have hKM : ∀ {τ : tw_Mem}, tw_dF σ τ → tw_dM τ w pc P H n := fun h => hDM.to (fun k j g => h k j (by omega) (by omega))
  have hKI : ∀ {τ ω : tw_Mem}, tw_dF σ τ → tw_dG τ ω → tw_Inv ω := fun h g => hI.keep (fun k j e => by unfold tw_scr at e; exact (g k j (by omega)).trans (h k j (by omega) (by omega)))
  rcases tw_within x n (by omega) with ⟨c, hc, rfl⟩ | hx
  · have hcl := @tw_ct_le (w c) (pc c) H H (P c)
    have hm1 : ¬ nI c = (-1) := tw_nne1 (by omega)
    by_cases hlo : tw_ct (w c) (pc c) H H (P c) = 1000
    · skip
      show tw_P L xs _ 156 0 [.ref 1, .int (nI c), tw_U] [] σ _
      refine tw_sg 2 (i1 := 2) (ls1 := [.ref 1, .int (nI c), tw_U]) (st1 := [.int (-1), .int (nI c)]) (σ1 := σ) rfl ?_
      refine tw_biT (c := .ne) rfl (by rw [tw_cne] <;> (exact hm1)) ?_
      show tw_P L xs _ 156 6 [.ref 1, .int (nI c), tw_U] [] σ _
      refine tw_sg 3 (i1 := 9) (ls1 := [.ref 1, .int (nI c), tw_U]) (st1 := [.int (nI c), .ref 6]) (σ1 := σ) rfl ?_
      refine tw_cl1 rfl (rfl) (by decide) (tw_e_cardAt1 hn6 hn10 hc) ?_
      rintro _ _ ⟨rfl, rfl⟩
      show tw_P L xs _ 156 10 [.ref 1, .int (nI c), tw_U] [.ref (2 * c + 18)] σ _
      refine tw_sg 9 (i1 := 21) (ls1 := [.ref 1, .int (nI c), .ref (2 * c + 18)]) (st1 := [.int (nI c), .ref 79, .ref (2 * c + 18), .ref 81]) (σ1 := σ) rfl ?_
      refine tw_cl1 rfl (rfl) (by decide) (tw_e_pln0 hDC hc hlo) ?_
      rintro _ τ ⟨rfl, hP⟩
      show tw_P L xs _ 156 22 [.ref 1, .int (nI c), .ref (2 * c + 18)] [.int (-5)] τ _
      refine tw_ri rfl (rfl) ?_
      refine ⟨_, rfl, ?_⟩
      show tw_P L xs _ 234 0 [.ref 88, .int (nI c), tw_U, tw_U, tw_U] [] τ _
      refine tw_sg 2 (i1 := 2) (ls1 := [.ref 88, .int (nI c), tw_U, tw_U, tw_U]) (st1 := [.int (-1), .int (nI c)]) (σ1 := τ) rfl ?_
      refine tw_biF (c := .eq) rfl (by rw [tw_ceq'] <;> (exact hm1)) ?_
      show tw_P L xs _ 234 3 [.ref 88, .int (nI c), tw_U, tw_U, tw_U] [] τ _
      refine tw_sg 2 (i1 := 5) (ls1 := [.ref 88, .int (nI c), tw_U, tw_U, tw_U]) (st1 := [.int (nI c), .ref 88]) (σ1 := τ) rfl ?_
      refine tw_cl1 rfl (rfl) (by decide) (tw_e_isCard1 ((hP 89 0 (by omega) (by omega)).trans hn89) hn10 hc) ?_
      rintro _ _ ⟨rfl, rfl⟩
      show tw_P L xs _ 234 6 [.ref 88, .int (nI c), tw_U, tw_U, tw_U] [.int (nI 1)] τ _
      refine tw_bzT (c := .ne) rfl (by rw [tw_cne, tw_neq (by omega) (by omega)] <;> omega) ?_
      show tw_P L xs _ 234 9 [.ref 88, .int (nI c), tw_U, tw_U, tw_U] [] τ _
      refine tw_sg 4 (i1 := 13) (ls1 := [.ref 88, .int (nI c), .int (nI 0), .int (nI 0), tw_U]) (st1 := []) (σ1 := τ) rfl ?_
      exact tw_P_le (d := 8) (tw_l_fOne (σ0 := τ) (z := (-5)) hc (fun _ => rfl) (fun g => absurd hlo g) (fun ω hG => ⟨rfl, hKI hP hG⟩) n 0 0 τ _ (by omega) (hKM hP) (fun _ _ _ => rfl) (fun _ => rfl) (fun g => by omega)) (by decide)
    · skip
      show tw_P L xs _ 156 0 [.ref 1, .int (nI c), tw_U] [] σ _
      refine tw_sg 2 (i1 := 2) (ls1 := [.ref 1, .int (nI c), tw_U]) (st1 := [.int (-1), .int (nI c)]) (σ1 := σ) rfl ?_
      refine tw_biT (c := .ne) rfl (by rw [tw_cne] <;> (exact hm1)) ?_
      show tw_P L xs _ 156 6 [.ref 1, .int (nI c), tw_U] [] σ _
      refine tw_sg 3 (i1 := 9) (ls1 := [.ref 1, .int (nI c), tw_U]) (st1 := [.int (nI c), .ref 6]) (σ1 := σ) rfl ?_
      refine tw_cl1 rfl (rfl) (by decide) (tw_e_cardAt1 hn6 hn10 hc) ?_
      rintro _ _ ⟨rfl, rfl⟩
      show tw_P L xs _ 156 10 [.ref 1, .int (nI c), tw_U] [.ref (2 * c + 18)] σ _
      refine tw_sg 9 (i1 := 21) (ls1 := [.ref 1, .int (nI c), .ref (2 * c + 18)]) (st1 := [.int (nI c), .ref 79, .ref (2 * c + 18), .ref 81]) (σ1 := σ) rfl ?_
      refine tw_cl1 rfl (rfl) (by decide) (tw_e_pln1 hDC hc hlo) ?_
      rintro _ τ ⟨rfl, hP, hP2⟩
      show tw_P L xs _ 156 22 [.ref 1, .int (nI c), .ref (2 * c + 18)] [.int (nI (tw_ct (w c) (pc c) H H (P c)))] τ _
      refine tw_ri rfl (rfl) ?_
      refine ⟨_, rfl, ?_⟩
      show tw_P L xs _ 234 0 [.ref 88, .int (nI c), tw_U, tw_U, tw_U] [] τ _
      refine tw_sg 2 (i1 := 2) (ls1 := [.ref 88, .int (nI c), tw_U, tw_U, tw_U]) (st1 := [.int (-1), .int (nI c)]) (σ1 := τ) rfl ?_
      refine tw_biF (c := .eq) rfl (by rw [tw_ceq'] <;> (exact hm1)) ?_
      show tw_P L xs _ 234 3 [.ref 88, .int (nI c), tw_U, tw_U, tw_U] [] τ _
      refine tw_sg 2 (i1 := 5) (ls1 := [.ref 88, .int (nI c), tw_U, tw_U, tw_U]) (st1 := [.int (nI c), .ref 88]) (σ1 := τ) rfl ?_
      refine tw_cl1 rfl (rfl) (by decide) (tw_e_isCard1 ((hP 89 0 (by omega) (by omega)).trans hn89) hn10 hc) ?_
      rintro _ _ ⟨rfl, rfl⟩
      show tw_P L xs _ 234 6 [.ref 88, .int (nI c), tw_U, tw_U, tw_U] [.int (nI 1)] τ _
      refine tw_bzT (c := .ne) rfl (by rw [tw_cne, tw_neq (by omega) (by omega)] <;> omega) ?_
      show tw_P L xs _ 234 9 [.ref 88, .int (nI c), tw_U, tw_U, tw_U] [] τ _
      refine tw_sg 4 (i1 := 13) (ls1 := [.ref 88, .int (nI c), .int (nI 0), .int (nI 0), tw_U]) (st1 := []) (σ1 := τ) rfl ?_
      exact tw_P_le (d := 8) (tw_l_fOne (σ0 := τ) (z := nI (tw_ct (w c) (pc c) H H (P c))) hc (fun g => absurd g hlo) (fun _ => rfl) (fun ω hG => ⟨rfl, hKI hP hG⟩) n 0 0 τ _ (by omega) (hKM hP) (fun _ _ _ => rfl) (fun _ => rfl) (fun g => by omega)) (by decide)
  · by_cases hm1 : x = (-1)
    · subst hm1
      obtain ⟨z, hz⟩ := @tw_fwZ_ex w pc P H n
      show tw_P L xs _ 156 0 [.ref 1, .int (-1), tw_U] [] σ _
      refine tw_sg 2 (i1 := 2) (ls1 := [.ref 1, .int (-1), tw_U]) (st1 := [.int (-1), .int (-1)]) (σ1 := σ) rfl ?_
      refine tw_biF (c := .ne) rfl (by rw [tw_cne'] <;> (exact rfl)) ?_
      show tw_P L xs _ 156 3 [.ref 1, .int (-1), tw_U] [] σ _
      refine tw_sg 1 (i1 := 4) (ls1 := [.ref 1, .int (-1), tw_U]) (st1 := [.ref 1]) (σ1 := σ) rfl ?_
      refine tw_cl1 rfl (rfl) (by decide) (tw_e_fAll hDC hz) ?_
      rintro _ τ ⟨rfl, hP⟩
      show tw_P L xs _ 156 5 [.ref 1, .int (-1), tw_U] [.int z] τ _
      refine tw_ri rfl (rfl) ?_
      refine ⟨_, rfl, ?_⟩
      show tw_P L xs _ 234 0 [.ref 88, .int (-1), tw_U, tw_U, tw_U] [] τ _
      refine tw_sg 2 (i1 := 2) (ls1 := [.ref 88, .int (-1), tw_U, tw_U, tw_U]) (st1 := [.int (-1), .int (-1)]) (σ1 := τ) rfl ?_
      refine tw_biT (c := .eq) rfl (by rw [tw_ceq] <;> (exact rfl)) ?_
      show tw_P L xs _ 234 9 [.ref 88, .int (-1), tw_U, tw_U, tw_U] [] τ _
      refine tw_sg 4 (i1 := 13) (ls1 := [.ref 88, .int (-1), .int (nI 0), .int (nI 0), tw_U]) (st1 := []) (σ1 := τ) rfl ?_
      exact tw_P_le (d := 8) (tw_l_fAllM (σ0 := τ) (by decide) hz (fun ω hG => ⟨rfl, hKI hP hG⟩) n 0 τ _ (by omega) (hKM hP) (fun _ _ _ => rfl) (fun d hd => by omega)) (by decide)
    · skip
      show tw_P L xs _ 156 0 [.ref 1, .int x, tw_U] [] σ _
      refine tw_sg 2 (i1 := 2) (ls1 := [.ref 1, .int x, tw_U]) (st1 := [.int (-1), .int x]) (σ1 := σ) rfl ?_
      refine tw_biT (c := .ne) rfl (by rw [tw_cne] <;> (exact hm1)) ?_
      show tw_P L xs _ 156 6 [.ref 1, .int x, tw_U] [] σ _
      refine tw_sg 3 (i1 := 9) (ls1 := [.ref 1, .int x, tw_U]) (st1 := [.int x, .ref 6]) (σ1 := σ) rfl ?_
      refine tw_cl1 rfl (rfl) (by decide) (tw_e_cardAt0 hn6 hx) ?_
      rintro _ _ ⟨rfl, rfl⟩
      show tw_P L xs _ 156 10 [.ref 1, .int x, tw_U] [.null] σ _
      refine tw_sg 5 (i1 := 22) (ls1 := [.ref 1, .int x, .null]) (st1 := [.int (-1)]) (σ1 := σ) rfl ?_
      refine tw_ri rfl (rfl) ?_
      refine ⟨_, rfl, ?_⟩
      show tw_P L xs _ 234 0 [.ref 88, .int x, tw_U, tw_U, tw_U] [] σ _
      refine tw_sg 2 (i1 := 2) (ls1 := [.ref 88, .int x, tw_U, tw_U, tw_U]) (st1 := [.int (-1), .int x]) (σ1 := σ) rfl ?_
      refine tw_biF (c := .eq) rfl (by rw [tw_ceq'] <;> (exact hm1)) ?_
      show tw_P L xs _ 234 3 [.ref 88, .int x, tw_U, tw_U, tw_U] [] σ _
      refine tw_sg 2 (i1 := 5) (ls1 := [.ref 88, .int x, tw_U, tw_U, tw_U]) (st1 := [.int x, .ref 88]) (σ1 := σ) rfl ?_
      refine tw_cl1 rfl (rfl) (by decide) (tw_e_isCard0 hn89 hn10 hx) ?_
      rintro _ _ ⟨rfl, rfl⟩
      show tw_P L xs _ 234 6 [.ref 88, .int x, tw_U, tw_U, tw_U] [.int (nI 0)] σ _
      refine tw_bzF (c := .ne) rfl (by rw [tw_cne', tw_neq (by omega) (by omega)] <;> omega) ?_
      show tw_P L xs _ 234 7 [.ref 88, .int x, tw_U, tw_U, tw_U] [] σ _
      refine tw_sg 1 (i1 := 8) (ls1 := [.ref 88, .int x, tw_U, tw_U, tw_U]) (st1 := [.int (-1)]) (σ1 := σ) rfl ?_
      refine tw_ri rfl (rfl) ?_
      exact ⟨rfl, hI⟩
end tw_s72
