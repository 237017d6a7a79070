/-! the parts of the state, by the places that they read -/
def tw_fCards (B H k j : Nat) : Prop := (B + 12 ≤ k ∧ k ≤ B + 31) ∨ (k = 91 ∧ 40 * H ≤ j ∧ j < 40 * H + 40) ∨ (92 ≤ k ∧ k ≤ 94 ∧ 10 * H ≤ j ∧ j < 10 * H + 10)
def tw_fRows (B H k j : Nat) : Prop := k = B + 4 ∨ (95 ≤ k ∧ k ≤ 98 ∧ 500 * H ≤ j ∧ j < 500 * H + 500)
def tw_fLaw (B H k j : Nat) : Prop := (B + 7 ≤ k ∧ k ≤ B + 11) ∨ (99 ≤ k ∧ k ≤ 102 ∧ 80 * H ≤ j ∧ j < 80 * H + 80)
def tw_fLoom (B H k j : Nat) : Prop := k = B ∨ k = B + 3 ∨ (89 ≤ k ∧ k ≤ 90 ∧ j = H) ∨ tw_fCards B H k j ∨ tw_fRows B H k j ∨ tw_fLaw B H k j
def tw_fRest (k j : Nat) : Prop := (2 ≤ k ∧ k ≤ 5) ∨ (k = 88 ∧ (j = 11 ∨ j = 17 ∨ j = 32 ∨ j = 37)) ∨ k = 1 ∨ k = 79 ∨ k = 80 ∨ k = 86 ∨ k = 87 ∨ k = 103 ∨ k = 113 ∨ (116 ≤ k ∧ k ≤ 119) ∨ k = 14 ∨ k = 46 ∨ k = 72
def tw_fTape (k j : Nat) : Prop := k = 2 ∨ k = 3 ∨ (k = 88 ∧ j = 17) ∨ k = 103
def tw_fPaper (k j : Nat) : Prop := k = 4 ∨ k = 5 ∨ (k = 88 ∧ j = 37) ∨ k = 116
def tw_fPic (k j : Nat) : Prop := k = 79 ∨ k = 80 ∨ (k = 88 ∧ j = 32) ∨ k = 113
def tw_fLists (k j : Nat) : Prop := (k = 86 ∨ k = 87 ∨ (117 ≤ k ∧ k ≤ 119)) ∧ j < 80
def tw_fImg (k j : Nat) : Prop := k = 1 ∨ (k = 88 ∧ j = 11)
section tw_M1
variable {σ τ : tw_Mem} {B H n r k : Nat}
theorem tw_iCards.cg (hn : n ≤ 10) (h : tw_iCards σ B H n) (e : ∀ k j, tw_fCards B H k j → τ k j = σ k j) : tw_iCards τ B H n := by
  intro c hc
  obtain ⟨h1, ⟨h2, h3⟩, ⟨h4, h5⟩, h6⟩ := h c hc
  refine ⟨fun q hq => ?_, ⟨?_, ?_⟩, ⟨?_, ?_⟩, ?_⟩
  · rw [e (2 * c + (B + 13)) q (by unfold tw_fCards; omega), e 91 _ (by unfold tw_fCards; omega)]
    exact h1 q hq
  · rw [e (2 * c + (B + 12)) _ (by unfold tw_fCards; omega), e 92 _ (by unfold tw_fCards; omega)]
    exact h2
  · rw [e 92 _ (by unfold tw_fCards; omega)]
    exact h3
  · rw [e (2 * c + (B + 12)) _ (by unfold tw_fCards; omega), e 93 _ (by unfold tw_fCards; omega)]
    exact h4
  · rw [e 93 _ (by unfold tw_fCards; omega)]
    exact h5
  · rw [e (2 * c + (B + 12)) _ (by unfold tw_fCards; omega), e 94 _ (by unfold tw_fCards; omega)]
    exact h6
theorem tw_iRows.cg (hn : n ≤ 10) (hr : r ≤ 50) (h : tw_iRows σ B H n r) (e : ∀ k j, tw_fRows B H k j → τ k j = σ k j) : tw_iRows τ B H n r := by
  intro i hi c hc
  rw [e (B + 4) _ (Or.inl rfl), e (B + 4) _ (Or.inl rfl), e (B + 4) _ (Or.inl rfl), e (B + 4) _ (Or.inl rfl), e 95 _ (by unfold tw_fRows; omega), e 96 _ (by unfold tw_fRows; omega), e 97 _ (by unfold tw_fRows; omega), e 98 _ (by unfold tw_fRows; omega)]
  exact h i hi c hc
theorem tw_tree.cg (hk : k ≤ 80) (e : ∀ k j, tw_fLaw B H k j → τ k j = σ k j) : ∀ (f nd : Nat), tw_tree σ B H k f nd → tw_tree τ B H k f nd
  | 0, _, h => h
  | f + 1, nd, ⟨e1, ch, e2, e3, e4, e5⟩ => by
    refine ⟨e1, ch, e2, by rw [e (B + 8) nd (by unfold tw_fLaw; omega)]; exact e3, by rw [e 99 _ (by unfold tw_fLaw; omega)]; exact e4, ?_⟩
    rcases e5 with e5 | ⟨e5, ⟨q, q1, q2, q3, q4⟩, ⟨a, a1, a2, a3⟩, e6⟩
    · exact Or.inl e5
    · refine Or.inr ⟨e5, ⟨q, q1, by rw [e (B + 9) nd (by unfold tw_fLaw; omega)]; exact q2, by rw [e 100 _ (by unfold tw_fLaw; omega)]; exact q3, q4⟩, ⟨a, by rw [e (B + 10) nd (by unfold tw_fLaw; omega)]; exact a1, by rw [e 101 _ (by unfold tw_fLaw; omega)]; exact a2, tw_tree.cg hk e f a a3⟩, fun hp => ?_⟩
      obtain ⟨c, c1, c2, c3⟩ := e6 hp
      exact ⟨c, by rw [e (B + 11) nd (by unfold tw_fLaw; omega)]; exact c1, by rw [e 102 _ (by unfold tw_fLaw; omega)]; exact c2, tw_tree.cg hk e f c c3⟩
theorem tw_iLaw.cg (h : tw_iLaw σ B H) (e : ∀ k j, tw_fLaw B H k j → τ k j = σ k j) : tw_iLaw τ B H := by
  rcases h with ⟨e1, e2⟩ | ⟨k, e1, e2, e3⟩
  · exact Or.inl ⟨by rw [e (B + 7) 4 (by unfold tw_fLaw; omega)]; exact e1, by rw [e 99 _ (by unfold tw_fLaw; omega)]; exact e2⟩
  · exact Or.inr ⟨k, e1, by rw [e (B + 7) 4 (by unfold tw_fLaw; omega)]; exact e2, tw_tree.cg e1 e 7 0 e3⟩
theorem tw_iLoom.cg (h : tw_iLoom σ B H n r) (e : ∀ k j, tw_fLoom B H k j → τ k j = σ k j) : tw_iLoom τ B H n r := by
  obtain ⟨h1, h2, h3, h4, h5, h6⟩ := h
  refine ⟨h1, ?_, ?_, h4.cg h1.1 (fun k j q => e k j ?_), h5.cg h1.1 h1.2 (fun k j q => e k j ?_), h6.cg (fun k j q => e k j ?_)⟩
  · rw [e B 4 (Or.inl rfl), e 89 H (by unfold tw_fLoom; omega)]
    exact h2
  · rw [e (B + 3) 3 (Or.inr (Or.inl rfl)), e (B + 3) 4 (Or.inr (Or.inl rfl)), e 90 H (by unfold tw_fLoom; omega)]
    exact h3
  · exact Or.inr (Or.inr (Or.inr (Or.inl q)))
  · exact Or.inr (Or.inr (Or.inr (Or.inr (Or.inl q))))
  · exact Or.inr (Or.inr (Or.inr (Or.inr (Or.inr q))))
theorem tw_iTape.cg (h : tw_iTape σ) (e : ∀ k j, tw_fTape k j → τ k j = σ k j) : tw_iTape τ := by
  obtain ⟨k, h1, h2, h3, h4⟩ := h
  refine ⟨k, h1, by rw [e 2 1 (by unfold tw_fTape; omega)]; exact h2, by rw [e 88 17 (by unfold tw_fTape; omega)]; exact h3, fun j hj => ?_⟩
  rw [e 3 j (by unfold tw_fTape; omega), e 103 j (by unfold tw_fTape; omega)]
  exact h4 j hj
theorem tw_iPaper.cg (h : tw_iPaper σ) (e : ∀ k j, tw_fPaper k j → τ k j = σ k j) : tw_iPaper τ := by
  obtain ⟨k, h1, h2, h3, h4⟩ := h
  refine ⟨k, h1, by rw [e 4 1 (by unfold tw_fPaper; omega)]; exact h2, by rw [e 88 37 (by unfold tw_fPaper; omega)]; exact h3, fun j hj => ?_⟩
  rw [e 5 j (by unfold tw_fPaper; omega), e 116 j (by unfold tw_fPaper; omega)]
  exact h4 j hj
theorem tw_iPic.cg (h : tw_iPic σ) (e : ∀ k j, tw_fPic k j → τ k j = σ k j) : tw_iPic τ := by
  obtain ⟨k, h1, h2, h3, h4, h5⟩ := h
  refine ⟨k, h1, by rw [e 79 1 (by unfold tw_fPic; omega)]; exact h2, by rw [e 88 32 (by unfold tw_fPic; omega)]; exact h3, fun j hj => ?_, fun j hj hj2 => ?_⟩
  · rw [e 80 j (by unfold tw_fPic; omega), e 113 j (by unfold tw_fPic; omega)]
    exact h4 j hj
  · rw [e 113 j (by unfold tw_fPic; omega)]
    exact h5 j hj hj2
theorem tw_iLists.cg (h : tw_iLists σ) (e : ∀ k j, tw_fLists k j → τ k j = σ k j) : tw_iLists τ := by
  intro l hl
  rw [e 87 l (by unfold tw_fLists; omega), e 117 l (by unfold tw_fLists; omega), e 118 l (by unfold tw_fLists; omega)]
  rcases h l hl with h | ⟨s, h1, h2, h3, h4, h5⟩
  · exact Or.inl h
  · refine Or.inr ⟨s, h1, h2, h3, h4, fun i hi => ?_⟩
    rw [e 86 _ (by unfold tw_fLists; omega), e 119 _ (by unfold tw_fLists; omega)]
    exact h5 i hi
theorem tw_iImg.cg (h : tw_iImg σ) (e : ∀ k j, tw_fImg k j → τ k j = σ k j) (e2 : ∀ k j, tw_fLoom 38 1 k j → τ k j = σ k j) : tw_iImg τ := by
  unfold tw_iImg
  rw [e 1 9 (by unfold tw_fImg; omega), e 88 11 (by unfold tw_fImg; omega)]
  rcases h with h | ⟨h1, h2, n, r, h3⟩
  · exact Or.inl h
  · exact Or.inr ⟨h1, h2, n, r, h3.cg e2⟩
theorem tw_iChars.cg (h : tw_iChars σ k) (e : ∀ j, j < 80 → τ k j = σ k j) : tw_iChars τ k := fun j hj => by
  rw [e j hj]
  exact h j hj
/-- all but the loom as it was -/
theorem tw_Inv.loom (h : tw_Inv σ) (hL : ∃ n r, tw_iLoom τ 6 0 n r) (hT : tw_iTw τ 0) (e : ∀ k j, tw_fRest k j ∨ tw_fLoom 38 1 k j → τ k j = σ k j) : tw_Inv τ := by
  obtain ⟨h1, h2, h3, h4, h5, h6, h7, h8, h9, hTa, hTb⟩ := h
  have e1 : ∀ k j, tw_fRest k j → τ k j = σ k j := fun k j q => e k j (Or.inl q)
  exact ⟨hL, h2.cg (fun k j q => e1 k j (by unfold tw_fTape at q; unfold tw_fRest; omega)), h3.cg (fun k j q => e1 k j (by unfold tw_fPaper at q; unfold tw_fRest; omega)), h4.cg (fun k j q => e1 k j (by unfold tw_fPic at q; unfold tw_fRest; omega)), h5.cg (fun k j q => e1 k j (by unfold tw_fLists at q; unfold tw_fRest; omega)), h6.cg (fun k j q => e1 k j (by unfold tw_fImg at q; unfold tw_fRest; omega)) (fun k j q => e k j (Or.inr q)), h7.cg (fun j _ => e1 _ _ (by unfold tw_fRest; omega)), h8.cg (fun j _ => e1 _ _ (by unfold tw_fRest; omega)), h9.cg (fun j _ => e1 _ _ (by unfold tw_fRest; omega)), hT, hTb.cg (fun k j q => e k j (by unfold tw_fTw at q; unfold tw_fLoom tw_fCards tw_fRows; omega))⟩
/-- all but that part as it was -/
theorem tw_Inv.tape (h : tw_Inv σ) (hP : tw_iTape τ) (e : ∀ k j, ¬ tw_fTape k j → τ k j = σ k j) : tw_Inv τ := by
  obtain ⟨⟨n, r, h1⟩, h2, h3, h4, h5, h6, h7, h8, h9, hTa, hTb⟩ := h
  exact ⟨⟨n, r, h1.cg (fun k j q => e k j (by unfold tw_fLoom tw_fCards tw_fRows tw_fLaw at q; unfold tw_fTape; omega))⟩, hP, h3.cg (fun k j q => e k j (by unfold tw_fPaper at q; unfold tw_fTape; omega)), h4.cg (fun k j q => e k j (by unfold tw_fPic at q; unfold tw_fTape; omega)), h5.cg (fun k j q => e k j (by unfold tw_fLists at q; unfold tw_fTape; omega)), h6.cg (fun k j q => e k j (by unfold tw_fImg at q; unfold tw_fTape; omega)) (fun k j q => e k j (by unfold tw_fLoom tw_fCards tw_fRows tw_fLaw at q; unfold tw_fTape; omega)), h7.cg (fun j _ => e _ _ (by unfold tw_fTape; omega)), h8.cg (fun j _ => e _ _ (by unfold tw_fTape; omega)), h9.cg (fun j _ => e _ _ (by unfold tw_fTape; omega)), hTa.cg (fun k j q => e k j (by unfold tw_fTw at q; unfold tw_fTape; omega)), hTb.cg (fun k j q => e k j (by unfold tw_fTw at q; unfold tw_fTape; omega))⟩
/-- all but that part as it was -/
theorem tw_Inv.paper (h : tw_Inv σ) (hP : tw_iPaper τ) (e : ∀ k j, ¬ tw_fPaper k j → τ k j = σ k j) : tw_Inv τ := by
  obtain ⟨⟨n, r, h1⟩, h2, h3, h4, h5, h6, h7, h8, h9, hTa, hTb⟩ := h
  exact ⟨⟨n, r, h1.cg (fun k j q => e k j (by unfold tw_fLoom tw_fCards tw_fRows tw_fLaw at q; unfold tw_fPaper; omega))⟩, h2.cg (fun k j q => e k j (by unfold tw_fTape at q; unfold tw_fPaper; omega)), hP, h4.cg (fun k j q => e k j (by unfold tw_fPic at q; unfold tw_fPaper; omega)), h5.cg (fun k j q => e k j (by unfold tw_fLists at q; unfold tw_fPaper; omega)), h6.cg (fun k j q => e k j (by unfold tw_fImg at q; unfold tw_fPaper; omega)) (fun k j q => e k j (by unfold tw_fLoom tw_fCards tw_fRows tw_fLaw at q; unfold tw_fPaper; omega)), h7.cg (fun j _ => e _ _ (by unfold tw_fPaper; omega)), h8.cg (fun j _ => e _ _ (by unfold tw_fPaper; omega)), h9.cg (fun j _ => e _ _ (by unfold tw_fPaper; omega)), hTa.cg (fun k j q => e k j (by unfold tw_fTw at q; unfold tw_fPaper; omega)), hTb.cg (fun k j q => e k j (by unfold tw_fTw at q; unfold tw_fPaper; omega))⟩
/-- all but that part as it was -/
theorem tw_Inv.pic (h : tw_Inv σ) (hP : tw_iPic τ) (e : ∀ k j, ¬ tw_fPic k j → τ k j = σ k j) : tw_Inv τ := by
  obtain ⟨⟨n, r, h1⟩, h2, h3, h4, h5, h6, h7, h8, h9, hTa, hTb⟩ := h
  exact ⟨⟨n, r, h1.cg (fun k j q => e k j (by unfold tw_fLoom tw_fCards tw_fRows tw_fLaw at q; unfold tw_fPic; omega))⟩, h2.cg (fun k j q => e k j (by unfold tw_fTape at q; unfold tw_fPic; omega)), h3.cg (fun k j q => e k j (by unfold tw_fPaper at q; unfold tw_fPic; omega)), hP, h5.cg (fun k j q => e k j (by unfold tw_fLists at q; unfold tw_fPic; omega)), h6.cg (fun k j q => e k j (by unfold tw_fImg at q; unfold tw_fPic; omega)) (fun k j q => e k j (by unfold tw_fLoom tw_fCards tw_fRows tw_fLaw at q; unfold tw_fPic; omega)), h7.cg (fun j _ => e _ _ (by unfold tw_fPic; omega)), h8.cg (fun j _ => e _ _ (by unfold tw_fPic; omega)), h9.cg (fun j _ => e _ _ (by unfold tw_fPic; omega)), hTa.cg (fun k j q => e k j (by unfold tw_fTw at q; unfold tw_fPic; omega)), hTb.cg (fun k j q => e k j (by unfold tw_fTw at q; unfold tw_fPic; omega))⟩
/-- all but that part as it was -/
theorem tw_Inv.lists (h : tw_Inv σ) (hP : tw_iLists τ) (e : ∀ k j, ¬ tw_fLists k j → τ k j = σ k j) : tw_Inv τ := by
  obtain ⟨⟨n, r, h1⟩, h2, h3, h4, h5, h6, h7, h8, h9, hTa, hTb⟩ := h
  exact ⟨⟨n, r, h1.cg (fun k j q => e k j (by unfold tw_fLoom tw_fCards tw_fRows tw_fLaw at q; unfold tw_fLists; omega))⟩, h2.cg (fun k j q => e k j (by unfold tw_fTape at q; unfold tw_fLists; omega)), h3.cg (fun k j q => e k j (by unfold tw_fPaper at q; unfold tw_fLists; omega)), h4.cg (fun k j q => e k j (by unfold tw_fPic at q; unfold tw_fLists; omega)), hP, h6.cg (fun k j q => e k j (by unfold tw_fImg at q; unfold tw_fLists; omega)) (fun k j q => e k j (by unfold tw_fLoom tw_fCards tw_fRows tw_fLaw at q; unfold tw_fLists; omega)), h7.cg (fun j _ => e _ _ (by unfold tw_fLists; omega)), h8.cg (fun j _ => e _ _ (by unfold tw_fLists; omega)), h9.cg (fun j _ => e _ _ (by unfold tw_fLists; omega)), hTa.cg (fun k j q => e k j (by unfold tw_fTw at q; unfold tw_fLists; omega)), hTb.cg (fun k j q => e k j (by unfold tw_fTw at q; unfold tw_fLists; omega))⟩
end tw_M1
/-! the cards' cells -/
set_option maxRecDepth 100000 in
theorem tw_cds : ∀ c, c < 10 → tw_isO (2 * c + 18) 0 none = true ∧ tw_sh (2 * c + 18) = (0, 4) ∧ tw_kd (2 * c + 18) 0 = (1, 2 * c + 19) ∧ tw_kd (2 * c + 18) 1 = (0, 0) ∧ tw_kd (2 * c + 18) 2 = (0, 0) ∧ tw_kd (2 * c + 18) 3 = (0, 0) ∧ tw_sh (2 * c + 19) = (20, 4) ∧ tw_live (2 * c + 19) none = true ∧ tw_kd 7 c = (1, 2 * c + 18) ∧ Nat.beq (2 * c + 19) 0 = false := by decide +kernel
section tw_M2
variable {σ : tw_Mem} {c : Nat}
theorem tw_cdO (h : c < 10) : tw_isO (2 * c + 18) 0 none = true := (tw_cds c h).1
theorem tw_cdB (h : c < 10) {b : Nat} (hb : b < 4) : Nat.blt b (tw_sh (2 * c + 18)).2 = true := by
  rw [(tw_cds c h).2.1]
  simpa [Nat.blt_eq] using hb
theorem tw_cdV0 (h : c < 10) : tw_val none σ (2 * c + 18) 0 = .ref (2 * c + 19) := by
  unfold tw_val
  rw [(tw_cds c h).2.2.1]
  rfl
theorem tw_cdK1 (h : c < 10) : (tw_kd (2 * c + 18) 1).1 = 0 := by rw [(tw_cds c h).2.2.2.1]
theorem tw_cdK2 (h : c < 10) : (tw_kd (2 * c + 18) 2).1 = 0 := by rw [(tw_cds c h).2.2.2.2.1]
theorem tw_cdK3 (h : c < 10) : (tw_kd (2 * c + 18) 3).1 = 0 := by rw [(tw_cds c h).2.2.2.2.2.1]
theorem tw_cdV1 (h : c < 10) : tw_val none σ (2 * c + 18) 1 = .int (σ (2 * c + 18) 1) := by
  unfold tw_val
  rw [(tw_cds c h).2.2.2.1]
theorem tw_cdV2 (h : c < 10) : tw_val none σ (2 * c + 18) 2 = .int (σ (2 * c + 18) 2) := by
  unfold tw_val
  rw [(tw_cds c h).2.2.2.2.1]
theorem tw_cdV3 (h : c < 10) : tw_val none σ (2 * c + 18) 3 = .int (σ (2 * c + 18) 3) := by
  unfold tw_val
  rw [(tw_cds c h).2.2.2.2.2.1]
theorem tw_cdS (h : c < 10) : tw_sh (2 * c + 19) = (20, 4) := (tw_cds c h).2.2.2.2.2.2.1
theorem tw_cdL (h : c < 10) : tw_live (2 * c + 19) none = true := (tw_cds c h).2.2.2.2.2.2.2.1
theorem tw_cdN (h : c < 10) : Nat.beq (2 * c + 19) 0 = false := (tw_cds c h).2.2.2.2.2.2.2.2.2
theorem tw_cdA (h : c < 10) : tw_val none σ 7 c = .ref (2 * c + 18) := by
  unfold tw_val
  rw [(tw_cds c h).2.2.2.2.2.2.2.2.1]
  rfl
end tw_M2
theorem tw_aln {L : Nat} {xs : Nat → Int32} {d m i : Nat} {ls st : List Value} {σ : tw_Mem} {Q : Option Value → tw_Mem → Prop} {pc ln a b k tag len : Nat} {z : Int32} {ts : List Nat} (h : tw_fetch m i = some (pc, ln, .arraylength, a, b, z, ts)) (hk : Nat.beq k 0 = false) (hs : tw_sh k = (tag, len)) (ht : Nat.ble 20 tag = true) (hl : tw_live k none = true) (kk : tw_P L xs d m (i + 1) ls (.int (nI len) :: st) σ Q) : tw_P L xs d m i ls (.ref k :: st) σ Q := by
  refine tw_onestep h ?_ kk
  show (if Nat.beq k 0 then tw_go (i + 1) ls (.int (Int32.ofNat L) :: st) none σ else if tw_live k none && Nat.ble 20 (tw_sh k).1 then tw_go (i + 1) ls (.int (Int32.ofNat (tw_sh k).2) :: st) none σ else none) = _
  rw [hk, hl, hs, if_neg (by decide), ht]
  rfl
theorem tw_asy {L : Nat} {xs : Nat → Int32} {d m i : Nat} {ls st : List Value} {σ : tw_Mem} {Q : Option Value → tw_Mem → Prop} {pc ln a b k : Nat} {z : Int32} {ts : List Nat} {x v w : Int32} {j len : Nat} (h : tw_fetch m i = some (pc, ln, .bastore, a, b, z, ts)) (hs : tw_sh k = (21, len)) (hl : tw_live k none = true) (hx : x = nI j) (hj : j < len) (hm : len < 2147483648) (hv : vp_nar .byte v = w) (kk : tw_P L xs d m (i + 1) ls st (tw_upd σ k j w) Q) : tw_P L xs d m i ls (.int v :: .int x :: .ref k :: st) σ Q := by
  subst hx
  refine tw_onestep h ?_ kk
  show (if tw_isA k 21 none (nI j) then tw_go (i + 1) ls st none (tw_upd σ k (nI j).toNatClampNeg (vp_nar .byte v)) else if tw_isA k 23 none (nI j) then tw_go (i + 1) ls st none (tw_upd σ k (nI j).toNatClampNeg (vp_nar .boolean v)) else none) = _
  rw [if_pos (tw_isA_nI hs hl hj hm)]
  have e1 : (nI j).toNatClampNeg = j := by unfold nI; exact Int32.toNatClampNeg_ofNat_of_lt (by omega)
  rw [e1, hv]
  rfl
theorem tw_asb {L : Nat} {xs : Nat → Int32} {d m i : Nat} {ls st : List Value} {σ : tw_Mem} {Q : Option Value → tw_Mem → Prop} {pc ln a b k : Nat} {z : Int32} {ts : List Nat} {x v w : Int32} {j len : Nat} (h : tw_fetch m i = some (pc, ln, .bastore, a, b, z, ts)) (hs : tw_sh k = (23, len)) (hl : tw_live k none = true) (hx : x = nI j) (hj : j < len) (hm : len < 2147483648) (hv : vp_nar .boolean v = w) (kk : tw_P L xs d m (i + 1) ls st (tw_upd σ k j w) Q) : tw_P L xs d m i ls (.int v :: .int x :: .ref k :: st) σ Q := by
  subst hx
  refine tw_onestep h ?_ kk
  show (if tw_isA k 21 none (nI j) then tw_go (i + 1) ls st none (tw_upd σ k (nI j).toNatClampNeg (vp_nar .byte v)) else if tw_isA k 23 none (nI j) then tw_go (i + 1) ls st none (tw_upd σ k (nI j).toNatClampNeg (vp_nar .boolean v)) else none) = _
  rw [if_neg (by unfold tw_isA; rw [hs]; simp)]
  rw [if_pos (tw_isA_nI hs hl hj hm)]
  have e1 : (nI j).toNatClampNeg = j := by unfold nI; exact Int32.toNatClampNeg_ofNat_of_lt (by omega)
  rw [e1, hv]
  rfl
theorem tw_asch {L : Nat} {xs : Nat → Int32} {d m i : Nat} {ls st : List Value} {σ : tw_Mem} {Q : Option Value → tw_Mem → Prop} {pc ln a b k : Nat} {z : Int32} {ts : List Nat} {x v w : Int32} {j len : Nat} (h : tw_fetch m i = some (pc, ln, .castore, a, b, z, ts)) (hs : tw_sh k = (22, len)) (hl : tw_live k none = true) (hx : x = nI j) (hj : j < len) (hm : len < 2147483648) (hv : vp_nar .char v = w) (kk : tw_P L xs d m (i + 1) ls st (tw_upd σ k j w) Q) : tw_P L xs d m i ls (.int v :: .int x :: .ref k :: st) σ Q := by
  subst hx
  refine tw_onestep h ?_ kk
  show (if tw_isA k 22 none (nI j) then tw_go (i + 1) ls st none (tw_upd σ k (nI j).toNatClampNeg (vp_nar .char v)) else none) = _
  rw [if_pos (tw_isA_nI hs hl hj hm)]
  have e1 : (nI j).toNatClampNeg = j := by unfold nI; exact Int32.toNatClampNeg_ofNat_of_lt (by omega)
  rw [e1, hv]
  rfl
/-- deeper is as good -/
theorem tw_R_le {L : Nat} {xs : Nat → Int32} {d d1 m : Nat} {g : tw_Cfg} {r : tw_Ret} (h : tw_R L xs d m g r) (hd : d ≤ d1) : tw_R L xs d1 m g r := by
  refine h (fun d m g r => ∀ d1, d ≤ d1 → tw_R L xs d1 m g r) ⟨?_, ?_, ?_, ?_, ?_⟩ d1 hd
  · intro d m i ls st md σ e g r h1 h2 h3 d1 hd P hP
    exact hP.1 _ _ _ _ _ _ _ _ _ _ h1 h2 (h3 d1 hd P hP)
  · intro d m i ls st md σ e v h1 h2 d1 hd P hP
    exact hP.2.1 _ _ _ _ _ _ _ _ _ h1 h2
  · intro d d2 m i ls st md σ e y as rest v md1 σ1 r h1 h2 h3 h4 h5 d1 hd P hP
    exact hP.2.2.1 _ _ _ _ _ _ _ _ _ _ _ _ _ _ _ _ h1 h2 (Nat.lt_of_lt_of_le h3 hd) (h4 d2 (Nat.le_refl _) P hP) (h5 d1 hd P hP)
  · intro d m i ls rest σ pc ln idx b z ts k q sp dp n r h1 h2 h3 h4 h5 h6 h7 h8 h9 h10 h11 h12 h13 h14 h15 d1 hd P hP
    exact hP.2.2.2.1 _ _ _ _ _ _ _ _ _ _ _ _ _ _ _ _ _ _ h1 h2 h3 h4 h5 h6 h7 h8 h9 h10 h11 h12 h13 h14 (h15 d1 hd P hP)
  · intro d m i ls st σ r h1 h2 d1 hd P hP
    exact hP.2.2.2.2 _ _ _ _ _ _ _ h1 (h2 d1 hd P hP)
theorem tw_P_le {L : Nat} {xs : Nat → Int32} {d d1 m i : Nat} {ls st : List Value} {σ : tw_Mem} {Q : Option Value → tw_Mem → Prop} (h : tw_P L xs d m i ls st σ Q) (hd : d ≤ d1) : tw_P L xs d1 m i ls st σ Q := by
  obtain ⟨v, σ1, h1, h2⟩ := h
  exact ⟨v, σ1, tw_R_le h1 hd, h2⟩
/-- one card of the loom, in both -/
def tw_iCard1 (σ : tw_Mem) (c : Nat) : Prop := (∀ h, h < 4 → σ (2 * c + 19) h = σ 91 (4 * c + h) ∧ ∃ q, q < 10 ∧ σ 91 (4 * c + h) = nI q) ∧ (σ (2 * c + 18) 1 = σ 92 c ∧ ∃ q, q < 2 ∧ σ 92 c = nI q) ∧ (σ (2 * c + 18) 2 = σ 93 c ∧ ∃ q, q < 4 ∧ σ 93 c = nI q) ∧ σ (2 * c + 18) 3 = σ 94 c
theorem tw_iCards0 {σ : tw_Mem} {n : Nat} : tw_iCards σ 6 0 n ↔ ∀ c, c < n → tw_iCard1 σ c := Iff.rfl
theorem tw_iCards.one {σ τ : tw_Mem} {n c : Nat} (h : tw_iCards σ 6 0 n) (hn : n ≤ 10) (hc10 : c < 10) (e : ∀ k j, ¬ (k = 2 * c + 18) → ¬ (k = 2 * c + 19) → ¬ (k = 91 ∧ 4 * c ≤ j ∧ j < 4 * c + 4) → ¬ (92 ≤ k ∧ k ≤ 94 ∧ j = c) → τ k j = σ k j) (hc : tw_iCard1 τ c) : tw_iCards τ 6 0 n := by
  rw [tw_iCards0] at h ⊢
  intro c2 hc2
  by_cases hcc : c2 = c
  · rw [hcc]; exact hc
  · obtain ⟨h1, ⟨h2, h3⟩, ⟨h4, h5⟩, h6⟩ := h c2 hc2
    refine ⟨fun q hq => ?_, ⟨?_, ?_⟩, ⟨?_, ?_⟩, ?_⟩
    · rw [e (2 * c2 + 19) q (by omega) (by omega) (by omega) (by omega), e 91 (4 * c2 + q) (by omega) (by omega) (by omega) (by omega)]
      exact h1 q hq
    · rw [e (2 * c2 + 18) 1 (by omega) (by omega) (by omega) (by omega), e 92 c2 (by omega) (by omega) (by omega) (by omega)]
      exact h2
    · rw [e 92 c2 (by omega) (by omega) (by omega) (by omega)]
      exact h3
    · rw [e (2 * c2 + 18) 2 (by omega) (by omega) (by omega) (by omega), e 93 c2 (by omega) (by omega) (by omega) (by omega)]
      exact h4
    · rw [e 93 c2 (by omega) (by omega) (by omega) (by omega)]
      exact h5
    · rw [e (2 * c2 + 18) 3 (by omega) (by omega) (by omega) (by omega), e 94 c2 (by omega) (by omega) (by omega) (by omega)]
      exact h6
theorem tw_Inv_card {σ τ : tw_Mem} {c : Nat} (hI : tw_Inv σ) (hc : c < 10) (e : ∀ k j, ¬ (k = 2 * c + 18) → ¬ (k = 2 * c + 19) → ¬ (k = 91 ∧ 4 * c ≤ j ∧ j < 4 * c + 4) → ¬ (92 ≤ k ∧ k ≤ 94 ∧ j = c) → τ k j = σ k j) (e94 : τ 94 c = σ 94 c) (h1 : tw_iCard1 τ c) : tw_Inv τ := by
  obtain ⟨⟨n, r, hL⟩, -⟩ := id hI
  refine hI.loom ⟨n, r, ?_⟩ (tw_iTw.cg hI.2.2.2.2.2.2.2.2.2.1 (fun k j q => ?_)) (fun k j h => e k j (by unfold tw_fRest tw_fLoom tw_fCards tw_fRows tw_fLaw at h; omega) (by unfold tw_fRest tw_fLoom tw_fCards tw_fRows tw_fLaw at h; omega) (by unfold tw_fRest tw_fLoom tw_fCards tw_fRows tw_fLaw at h; omega) (by unfold tw_fRest tw_fLoom tw_fCards tw_fRows tw_fLaw at h; omega))
  rotate_left
  · by_cases z : k = 94 ∧ j = c
    · rw [z.1, z.2]; exact e94
    · exact e k j (by unfold tw_fTw at q; omega) (by unfold tw_fTw at q; omega) (by unfold tw_fTw at q; omega) (by unfold tw_fTw at q; omega)
  obtain ⟨g1, g2, g3, g4, g5, g6⟩ := hL
  refine ⟨g1, ?_, ?_, g4.one g1.1 hc e h1, g5.cg g1.1 g1.2 (fun k j h => e k j (by unfold tw_fRows at h; omega) (by unfold tw_fRows at h; omega) (by unfold tw_fRows at h; omega) (by unfold tw_fRows at h; omega)), g6.cg (fun k j h => e k j (by unfold tw_fLaw at h; omega) (by unfold tw_fLaw at h; omega) (by unfold tw_fLaw at h; omega) (by unfold tw_fLaw at h; omega))⟩
  · rw [e 6 4 (by omega) (by omega) (by omega) (by omega), e 89 0 (by omega) (by omega) (by omega) (by omega)]
    exact g2
  · rw [e (6 + 3) 3 (by omega) (by omega) (by omega) (by omega), e (6 + 3) 4 (by omega) (by omega) (by omega) (by omega), e 90 0 (by omega) (by omega) (by omega) (by omega)]
    exact g3
