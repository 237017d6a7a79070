/-! law -/
section tw_s69
variable {L : Nat} {xs : Nat → Int32} {σ : tw_Mem} {x y w : Int32} {n r i c k h q a b e : Nat}
theorem tw_Inv_law {σ ω : tw_Mem} (hI : tw_Inv σ) (hF : ∀ k j, ¬ (k = 2 ∧ j = 1) → ¬ (13 ≤ k ∧ k ≤ 17) → ¬ (70 ≤ k ∧ k ≤ 75) → ¬ (k = 88 ∧ 17 ≤ j ∧ j ≤ 22) → ¬ (99 ≤ k ∧ k ≤ 102 ∧ j < 80) → ¬ (104 ≤ k ∧ k ≤ 107) → ω k j = σ k j) (h2 : ω 2 1 = nI 0) (h17 : ω 88 17 = nI 0) (hc14 : tw_iChars ω 14) (hc72 : tw_iChars ω 72) (hL : tw_iLaw ω 6 0) : tw_Inv ω := by
  obtain ⟨⟨n, r, g1, g2, g3, g4, g5, g6⟩, i2, i3, i4, i5, i6, i7, i8, i9, iA, iB⟩ := hI
  have G : ∀ k j, ¬ (k = 2 ∧ j = 1) → ¬ (13 ≤ k ∧ k ≤ 17) → ¬ (70 ≤ k ∧ k ≤ 75) → ¬ (k = 88 ∧ 17 ≤ j ∧ j ≤ 22) → ¬ (99 ≤ k ∧ k ≤ 102 ∧ j < 80) → ¬ (104 ≤ k ∧ k ≤ 107) → ω k j = σ k j := hF
  refine ⟨⟨n, r, g1, ?_, ?_, g4.cg g1.1 (fun k j q => hF k j (by unfold tw_fCards at q; omega) (by unfold tw_fCards at q; omega) (by unfold tw_fCards at q; omega) (by unfold tw_fCards at q; omega) (by unfold tw_fCards at q; omega) (by unfold tw_fCards at q; omega)), g5.cg g1.1 g1.2 (fun k j q => hF k j (by unfold tw_fRows at q; omega) (by unfold tw_fRows at q; omega) (by unfold tw_fRows at q; omega) (by unfold tw_fRows at q; omega) (by unfold tw_fRows at q; omega) (by unfold tw_fRows at q; omega)), hL⟩, ⟨0, by omega, h2, h17, fun j hj => by omega⟩, i3.cg (fun k j q => hF k j (by unfold tw_fPaper at q; omega) (by unfold tw_fPaper at q; omega) (by unfold tw_fPaper at q; omega) (by unfold tw_fPaper at q; omega) (by unfold tw_fPaper at q; omega) (by unfold tw_fPaper at q; omega)), i4.cg (fun k j q => hF k j (by unfold tw_fPic at q; omega) (by unfold tw_fPic at q; omega) (by unfold tw_fPic at q; omega) (by unfold tw_fPic at q; omega) (by unfold tw_fPic at q; omega) (by unfold tw_fPic at q; omega)), i5.cg (fun k j q => hF k j (by unfold tw_fLists at q; omega) (by unfold tw_fLists at q; omega) (by unfold tw_fLists at q; omega) (by unfold tw_fLists at q; omega) (by unfold tw_fLists at q; omega) (by unfold tw_fLists at q; omega)), ?_, hc14, ?_, hc72, iA.cg (fun k j q => hF k j (by unfold tw_fTw at q; omega) (by unfold tw_fTw at q; omega) (by unfold tw_fTw at q; omega) (by unfold tw_fTw at q; omega) (by unfold tw_fTw at q; omega) (by unfold tw_fTw at q; omega)), iB.cg (fun k j q => hF k j (by unfold tw_fTw at q; omega) (by unfold tw_fTw at q; omega) (by unfold tw_fTw at q; omega) (by unfold tw_fTw at q; omega) (by unfold tw_fTw at q; omega) (by unfold tw_fTw at q; omega))⟩
  · rw [hF 6 4 (by omega) (by omega) (by omega) (by omega) (by omega) (by omega), hF 89 0 (by omega) (by omega) (by omega) (by omega) (by omega) (by omega)]; exact g2
  · rw [hF (6 + 3) 3 (by omega) (by omega) (by omega) (by omega) (by omega) (by omega), hF (6 + 3) 4 (by omega) (by omega) (by omega) (by omega) (by omega) (by omega), hF 90 0 (by omega) (by omega) (by omega) (by omega) (by omega) (by omega)]; exact g3
  · exact i6.cg (fun k j q => hF k j (by unfold tw_fImg at q; omega) (by unfold tw_fImg at q; omega) (by unfold tw_fImg at q; omega) (by unfold tw_fImg at q; omega) (by unfold tw_fImg at q; omega) (by unfold tw_fImg at q; omega)) (fun k j q => hF k j (by unfold tw_fLoom tw_fCards tw_fRows tw_fLaw at q; omega) (by unfold tw_fLoom tw_fCards tw_fRows tw_fLaw at q; omega) (by unfold tw_fLoom tw_fCards tw_fRows tw_fLaw at q; omega) (by unfold tw_fLoom tw_fCards tw_fRows tw_fLaw at q; omega) (by unfold tw_fLoom tw_fCards tw_fRows tw_fLaw at q; omega) (by unfold tw_fLoom tw_fCards tw_fRows tw_fLaw at q; omega))
  · exact i8.cg (fun j _ => hF _ _ (by omega) (by omega) (by omega) (by omega) (by omega) (by omega))
set_option maxHeartbeats 4000000 in
set_option maxRecDepth 100000 in
theorem tw_e_obey (hch : tw_iChars σ 72) : tw_E L xs 3 88 [.ref 6, .ref 71] σ (fun v τ => v = none ∧ (∀ k j, 14 ≤ k → k ≤ 17 → j < 80 → τ k j = σ (k + 58) j) ∧ τ 13 4 = σ 71 4 ∧ τ 13 5 = σ 71 5 ∧ ∀ k j, ¬ (13 ≤ k ∧ k ≤ 17) → τ k j = σ k j) := by
  show tw_P L xs _ 88 0 [.ref 6, .ref 71] [] σ _
  refine tw_sg 3 (i1 := 3) (ls1 := [.ref 6, .ref 71]) (st1 := [.ref 71, .ref 13]) (σ1 := σ) rfl ?_
  refine tw_cl0 2 rfl (rfl) (by decide) ?_
  show tw_P L xs _ 60 0 [.ref 13, .ref 71] [] σ _
  refine tw_sg 7 (i1 := 7) (ls1 := [.ref 13, .ref 71]) (st1 := [.int (nI 80), .int (nI 0), .ref 14, .int (nI 0), .ref 72]) (σ1 := σ) rfl ?_
  refine tw_cpP (k := 72) (q := 14) (N := 80) rfl (by decide) (rfl) (rfl) (Or.inr ⟨rfl, fun j hj => by obtain ⟨q, hq, e⟩ := hch j hj; rw [e]; exact tw_chb hq⟩) (rfl) (rfl) (by omega) (by decide) (by decide) (by decide) (fun τc1 hτc1a hτc1b => ?_)
  show tw_P L xs _ 60 8 [.ref 13, .ref 71] [] τc1 _
  refine tw_sg 7 (i1 := 15) (ls1 := [.ref 13, .ref 71]) (st1 := [.int (nI 80), .int (nI 0), .ref 15, .int (nI 0), .ref 73]) (σ1 := τc1) rfl ?_
  refine tw_cpP (k := 73) (q := 15) (N := 80) rfl (by decide) (rfl) (rfl) (Or.inl rfl) (rfl) (rfl) (by omega) (by decide) (by decide) (by decide) (fun τc2 hτc2a hτc2b => ?_)
  show tw_P L xs _ 60 16 [.ref 13, .ref 71] [] τc2 _
  refine tw_sg 7 (i1 := 23) (ls1 := [.ref 13, .ref 71]) (st1 := [.int (nI 80), .int (nI 0), .ref 16, .int (nI 0), .ref 74]) (σ1 := τc2) rfl ?_
  refine tw_cpP (k := 74) (q := 16) (N := 80) rfl (by decide) (rfl) (rfl) (Or.inl rfl) (rfl) (rfl) (by omega) (by decide) (by decide) (by decide) (fun τc3 hτc3a hτc3b => ?_)
  show tw_P L xs _ 60 24 [.ref 13, .ref 71] [] τc3 _
  refine tw_sg 7 (i1 := 31) (ls1 := [.ref 13, .ref 71]) (st1 := [.int (nI 80), .int (nI 0), .ref 17, .int (nI 0), .ref 75]) (σ1 := τc3) rfl ?_
  refine tw_cpP (k := 75) (q := 17) (N := 80) rfl (by decide) (rfl) (rfl) (Or.inl rfl) (rfl) (rfl) (by omega) (by decide) (by decide) (by decide) (fun τc4 hτc4a hτc4b => ?_)
  show tw_P L xs _ 60 32 [.ref 13, .ref 71] [] τc4 _
  refine tw_sg 8 (i1 := 40) (ls1 := [.ref 13, .ref 71]) (st1 := []) (σ1 := (tw_upd (tw_upd τc4 13 4 (τc4 71 4)) 13 5 (τc4 71 5))) rfl ?_
  refine tw_rv rfl ?_
  show tw_P L xs _ 88 4 [.ref 6, .ref 71] [] (tw_upd (tw_upd τc4 13 4 (τc4 71 4)) 13 5 (τc4 71 5)) _
  refine tw_rv rfl ?_
  refine ⟨rfl, fun k j k1 k2 hj => ?_, ?_, ?_, fun k j g => ?_⟩
  · rcases (show k = 14 ∨ k = 15 ∨ k = 16 ∨ k = 17 by omega) with rfl | rfl | rfl | rfl
    · rw [tw_upd_off (by omega), tw_upd_off (by omega), hτc4b _ _ (by omega), hτc3b _ _ (by omega), hτc2b _ _ (by omega), hτc1a j hj]
    · rw [tw_upd_off (by omega), tw_upd_off (by omega), hτc4b _ _ (by omega), hτc3b _ _ (by omega), hτc2a j hj, hτc1b _ _ (by omega)]
    · rw [tw_upd_off (by omega), tw_upd_off (by omega), hτc4b _ _ (by omega), hτc3a j hj, hτc2b _ _ (by omega), hτc1b _ _ (by omega)]
    · rw [tw_upd_off (by omega), tw_upd_off (by omega), hτc4a j hj, hτc3b _ _ (by omega), hτc2b _ _ (by omega), hτc1b _ _ (by omega)]
  · rw [tw_upd_off (by omega), tw_upd_at, hτc4b _ _ (by omega), hτc3b _ _ (by omega), hτc2b _ _ (by omega), hτc1b _ _ (by omega)]
  · rw [tw_upd_at]; repeat (first | exact rfl | rw [tw_upd_off (by omega)] | rw [hτc4b _ _ (by omega)] | rw [hτc3b _ _ (by omega)] | rw [hτc2b _ _ (by omega)] | rw [hτc1b _ _ (by omega)])
  · rw [tw_upd_off (by omega), tw_upd_off (by omega), hτc4b k j (by omega), hτc3b k j (by omega), hτc2b k j (by omega), hτc1b k j (by omega)]
def tw_lcp (σ0 σ : tw_Mem) (i : Nat) : Prop := (∀ k j, ¬ (99 ≤ k ∧ k ≤ 102 ∧ j < i) → σ k j = σ0 k j) ∧ ∀ d, d < i → ∀ z, z < 4 → σ (99 + z) d = σ0 (104 + z) d
theorem tw_lcp.step {σ0 σ : tw_Mem} {i : Nat} (h : tw_lcp σ0 σ i) : tw_lcp σ0 (tw_upd (tw_upd (tw_upd (tw_upd σ 99 i (σ 104 i)) 100 i (σ 105 i)) 101 i (σ 106 i)) 102 i (σ 107 i)) (i + 1) := by
  refine ⟨fun k j g => ?_, fun d hd z hz => ?_⟩
  · rw [tw_upd_off (by omega), tw_upd_off (by omega), tw_upd_off (by omega), tw_upd_off (by omega)]; exact h.1 k j (by omega)
  · have E : ∀ z, z < 4 → σ (104 + z) i = σ0 (104 + z) i := fun z hz => h.1 _ _ (by omega)
    by_cases g : d = i
    · subst g
      rcases (show z = 0 ∨ z = 1 ∨ z = 2 ∨ z = 3 by omega) with rfl | rfl | rfl | rfl
      · rw [tw_upd_off (by omega), tw_upd_off (by omega), tw_upd_off (by omega), tw_upd_at]; exact E 0 hz
      · rw [tw_upd_off (by omega), tw_upd_off (by omega), tw_upd_at]; exact E 1 hz
      · rw [tw_upd_off (by omega), tw_upd_at]; exact E 2 hz
      · rw [tw_upd_at]; exact E 3 hz
    · rw [tw_upd_off (by omega), tw_upd_off (by omega), tw_upd_off (by omega), tw_upd_off (by omega)]; exact h.2 d (by omega) z hz
set_option maxHeartbeats 4000000 in
set_option maxRecDepth 100000 in
theorem tw_l_lcp {L : Nat} {xs : Nat → Int32} {Q : Option Value → tw_Mem → Prop} {σ0 : tw_Mem} {n : Nat} (hn : n ≤ 80) (h21 : σ0 88 21 = nI n) : ∀ (f : Nat) (i : Nat) (σ : tw_Mem), i + f = n → (tw_lcp σ0 σ i ∧ ∀ τ, tw_lcp σ0 τ n → tw_P L xs 60 194 81 [.ref 88, .int (nI n)] [] τ Q) → tw_P L xs 60 194 43 [.ref 88, .int (nI i)] [] σ Q := by
  intro f
  induction f with
  | zero =>
    intro i σ hf hQ
    refine tw_sgn 3 (i1 := 46) (ls0 := [.ref 88, .int (nI i)]) (st0 := [.int (σ 88 21), .int (nI i)]) (σ0 := σ) (ls1 := [.ref 88, .int (nI i)]) (st1 := [.int (nI n), .int (nI i)]) (σ1 := σ) rfl (rfl) (by simp only [((hQ.1.1 88 21 (by omega)).trans h21), tw_nadd, tw_nmul]) (rfl) ?_
    refine tw_biT (c := .ge) rfl (by rw [tw_cge, tw_nle (by omega) (by omega)] <;> omega) ?_
    show tw_P L xs _ 194 81 [.ref 88, .int (nI i)] [] σ _
    have hf : n = i := Eq.symm hf
    subst hf
    exact hQ.2 σ hQ.1
  | succ f ih =>
    intro i σ hf hQ
    refine tw_sgn 3 (i1 := 46) (ls0 := [.ref 88, .int (nI i)]) (st0 := [.int (σ 88 21), .int (nI i)]) (σ0 := σ) (ls1 := [.ref 88, .int (nI i)]) (st1 := [.int (nI n), .int (nI i)]) (σ1 := σ) rfl (rfl) (by simp only [((hQ.1.1 88 21 (by omega)).trans h21), tw_nadd, tw_nmul]) (rfl) ?_
    refine tw_biF (c := .ge) rfl (by rw [tw_cge', tw_nle (by omega) (by omega)] <;> omega) ?_
    show tw_P L xs _ 194 47 [.ref 88, .int (nI i)] [] σ _
    refine tw_sg 6 (i1 := 53) (ls1 := [.ref 88, .int (nI i)]) (st1 := [.int (nI i), .ref 104, .int (nI i), .ref 99]) (σ1 := σ) rfl ?_
    refine tw_al (k := 104) (j := i) (len := 80) rfl rfl rfl rfl (rfl) (by omega) (by decide) ?_
    refine tw_as (k := 99) (j := i) (len := 160) rfl rfl rfl (rfl) (by omega) (by decide) ?_
    refine tw_sg 6 (i1 := 61) (ls1 := [.ref 88, .int (nI i)]) (st1 := [.int (nI i), .ref 105, .int (nI i), .ref 100]) (σ1 := (tw_upd σ 99 i (σ 104 i))) rfl ?_
    refine tw_al (k := 105) (j := i) (len := 80) rfl rfl rfl rfl (rfl) (by omega) (by decide) ?_
    rw [show (tw_upd σ 99 i (σ 104 i)) 105 i = σ 105 i from by repeat (first | exact rfl | exact tw_upd_at | rw [tw_upd_off (by omega)])]
    refine tw_as (k := 100) (j := i) (len := 160) rfl rfl rfl (rfl) (by omega) (by decide) ?_
    refine tw_sg 6 (i1 := 69) (ls1 := [.ref 88, .int (nI i)]) (st1 := [.int (nI i), .ref 106, .int (nI i), .ref 101]) (σ1 := (tw_upd (tw_upd σ 99 i (σ 104 i)) 100 i (σ 105 i))) rfl ?_
    refine tw_al (k := 106) (j := i) (len := 80) rfl rfl rfl rfl (rfl) (by omega) (by decide) ?_
    rw [show (tw_upd (tw_upd σ 99 i (σ 104 i)) 100 i (σ 105 i)) 106 i = σ 106 i from by repeat (first | exact rfl | exact tw_upd_at | rw [tw_upd_off (by omega)])]
    refine tw_as (k := 101) (j := i) (len := 160) rfl rfl rfl (rfl) (by omega) (by decide) ?_
    refine tw_sg 6 (i1 := 77) (ls1 := [.ref 88, .int (nI i)]) (st1 := [.int (nI i), .ref 107, .int (nI i), .ref 102]) (σ1 := (tw_upd (tw_upd (tw_upd σ 99 i (σ 104 i)) 100 i (σ 105 i)) 101 i (σ 106 i))) rfl ?_
    refine tw_al (k := 107) (j := i) (len := 80) rfl rfl rfl rfl (rfl) (by omega) (by decide) ?_
    rw [show (tw_upd (tw_upd (tw_upd σ 99 i (σ 104 i)) 100 i (σ 105 i)) 101 i (σ 106 i)) 107 i = σ 107 i from by repeat (first | exact rfl | exact tw_upd_at | rw [tw_upd_off (by omega)])]
    refine tw_as (k := 102) (j := i) (len := 160) rfl rfl rfl (rfl) (by omega) (by decide) ?_
    refine tw_sgn 2 (i1 := 43) (ls0 := [.ref 88, .int (nI i + nI 1)]) (st0 := []) (σ0 := (tw_upd (tw_upd (tw_upd (tw_upd σ 99 i (σ 104 i)) 100 i (σ 105 i)) 101 i (σ 106 i)) 102 i (σ 107 i))) (ls1 := [.ref 88, .int (nI (i + 1))]) (st1 := []) (σ1 := (tw_upd (tw_upd (tw_upd (tw_upd σ 99 i (σ 104 i)) 100 i (σ 105 i)) 101 i (σ 106 i)) 102 i (σ 107 i))) rfl (by simp only [tw_nadd, tw_nmul]) (rfl) (rfl) ?_
    exact ih (i + 1) _ (by omega) ⟨hQ.1.step, hQ.2⟩
set_option maxHeartbeats 4000000 in
set_option maxRecDepth 100000 in
theorem tw_o_law {L : Nat} {xs : Nat → Int32} : tw_op L xs 135 194 [] := by
  intro σ hI
  obtain ⟨⟨n, r, hL⟩, hT, hPp, hPc, hLs, hIm, hC14, hC46, hC72⟩ := id hI
  obtain ⟨⟨hn10, hr50⟩, ⟨hn6, hn89⟩, ⟨hr9, hw9, hr90⟩, hCa, hRo, hLa⟩ := hL
  have hn6 : σ 6 4 = nI n := hn6
  have hn89 : σ 89 0 = nI n := hn89
  have hr9 : σ 9 3 = nI r := hr9
  have hw9 : σ 9 4 = nI n := hw9
  have hr90 : σ 90 0 = nI r := hr90
  obtain ⟨k, hk80, hk2, hk88, hTj⟩ := id hT
  obtain ⟨ch, hch⟩ : ∃ ch : Nat → Nat, ∀ j, ch j = if j < k then (σ 103 j).toNatClampNeg else 0 := ⟨_, fun _ => rfl⟩
  have hci : ∀ j, j < k → (1 ≤ ch j ∧ ch j < 128) ∧ σ 103 j = nI (ch j) := fun j hj => by
    obtain ⟨-, q, q1, q2, q3⟩ := hTj j hj
    rw [hch j, if_pos hj, q3, tw_nclamp (by omega)]
    exact ⟨⟨q1, q2⟩, rfl⟩
  have hC : tw_chs ch k := ⟨hk80, fun j hj => (hci j hj).1, fun j hj => by rw [hch j, if_neg (by omega)]⟩
  have h3 : ∀ j, j < k → σ 3 j = nI (ch j) := fun j hj => (hTj j hj).1.trans (hci j hj).2
  rcases tw_rd (L := L) (xs := xs) hC 6 (Nat.le_refl _) 0 0 0 (Nat.zero_le _) (Nat.zero_le _) with ⟨e, he, rC, rM⟩ | ⟨p2, nd2, lv2, K, i1, i2, i3, i4, i5, rC, rM⟩
  · skip
    show tw_P L xs _ 135 0 [.ref 1, tw_U] [] σ _
    refine tw_sg 4 (i1 := 4) (ls1 := [.ref 1, tw_U]) (st1 := [.ref 2, .ref 70]) (σ1 := σ) rfl ?_
    refine tw_cl0 59 rfl (rfl) (by decide) ?_
    show tw_P L xs _ 63 0 [.ref 70, .ref 2] [] σ _
    refine tw_sg 11 (i1 := 11) (ls1 := [.ref 70, .ref 2]) (st1 := [.ref 71]) (σ1 := (tw_upd (tw_upd (tw_upd σ 70 1 (nI 1)) 70 2 (nI 0)) 70 3 (-1))) rfl ?_
    refine tw_cl0 58 rfl (rfl) (by decide) ?_
    show tw_P L xs _ 51 0 [.ref 71] [] (tw_upd (tw_upd (tw_upd σ 70 1 (nI 1)) 70 2 (nI 0)) 70 3 (-1)) _
    refine tw_sg 6 (i1 := 6) (ls1 := [.ref 71]) (st1 := []) (σ1 := (tw_upd (tw_upd (tw_upd (tw_upd (tw_upd σ 70 1 (nI 1)) 70 2 (nI 0)) 70 3 (-1)) 71 4 (nI 0)) 71 5 (nI 0))) rfl ?_
    refine tw_rv rfl ?_
    show tw_P L xs _ 63 12 [.ref 70, .ref 2] [] (tw_upd (tw_upd (tw_upd (tw_upd (tw_upd σ 70 1 (nI 1)) 70 2 (nI 0)) 70 3 (-1)) 71 4 (nI 0)) 71 5 (nI 0)) _
    refine tw_sg 2 (i1 := 14) (ls1 := [.ref 70, .ref 2]) (st1 := [.int (nI 0), .ref 70]) (σ1 := (tw_upd (tw_upd (tw_upd (tw_upd (tw_upd σ 70 1 (nI 1)) 70 2 (nI 0)) 70 3 (-1)) 71 4 (nI 0)) 71 5 (nI 0))) rfl ?_
    refine tw_cl1 rfl (rfl) (by decide) (rC ((tw_upd (tw_upd (tw_upd (tw_upd (tw_upd σ 70 1 (nI 1)) 70 2 (nI 0)) 70 3 (-1)) 71 4 (nI 0)) 71 5 (nI 0))) 0 (by decide) ⟨⟨by repeat (first | exact tw_upd_at | assumption | rw [tw_upd_off (by omega)]), by repeat (first | exact tw_upd_at | assumption | rw [tw_upd_off (by omega)]), fun j hj => by rw [tw_upd_off (by omega), tw_upd_off (by omega), tw_upd_off (by omega), tw_upd_off (by omega), tw_upd_off (by omega)]; exact h3 j hj⟩, by repeat (first | exact tw_upd_at | assumption | rw [tw_upd_off (by omega)]), by repeat (first | exact tw_upd_at | assumption | rw [tw_upd_off (by omega)]), by repeat (first | exact tw_upd_at | assumption | rw [tw_upd_off (by omega)]), by repeat (first | exact tw_upd_at | assumption | rw [tw_upd_off (by omega)])⟩) ?_
    rintro _ τ ⟨⟨w, rfl⟩, hf, hr⟩
    show tw_P L xs _ 63 15 [.ref 70, .ref 2] [.int w] τ _
    refine tw_sgn 4 (i1 := 19) (ls0 := [.ref 70, .ref 2]) (st0 := [.int (-1), .int (τ 70 3)]) (σ0 := τ) (ls1 := [.ref 70, .ref 2]) (st1 := [.int (-1), .int (nI e)]) (σ1 := τ) rfl (rfl) (by simp only [hf, tw_nadd, tw_nmul]) (rfl) ?_
    refine tw_biT (c := .ne) rfl (by rw [tw_cne] <;> (exact (tw_nne1 (by omega)))) ?_
    show tw_P L xs _ 63 29 [.ref 70, .ref 2] [] τ _
    refine tw_sgn 2 (i1 := 31) (ls0 := [.ref 70, .ref 2]) (st0 := [.int (τ 70 3)]) (σ0 := τ) (ls1 := [.ref 70, .ref 2]) (st1 := [.int (nI e)]) (σ1 := τ) rfl (rfl) (by simp only [hf, tw_nadd, tw_nmul]) (rfl) ?_
    refine tw_ri rfl (rfl) ?_
    show tw_P L xs _ 135 5 [.ref 1, tw_U] [.int (nI e)] τ _
    refine tw_sg 3 (i1 := 8) (ls1 := [.ref 1, .int (nI e)]) (st1 := [.ref 2]) (σ1 := τ) rfl ?_
    refine tw_cl0 59 rfl (rfl) (by decide) ?_
    show tw_P L xs _ 124 0 [.ref 2] [] τ _
    refine tw_sg 3 (i1 := 3) (ls1 := [.ref 2]) (st1 := []) (σ1 := (tw_upd τ 2 1 (nI 0))) rfl ?_
    refine tw_rv rfl ?_
    show tw_P L xs _ 135 9 [.ref 1, .int (nI e)] [] (tw_upd τ 2 1 (nI 0)) _
    refine tw_sg 2 (i1 := 11) (ls1 := [.ref 1, .int (nI e)]) (st1 := [.int (-1), .int (nI e)]) (σ1 := (tw_upd τ 2 1 (nI 0))) rfl ?_
    refine tw_biF (c := .eq) rfl (by rw [tw_ceq'] <;> (exact (tw_nne1 (by omega)))) ?_
    show tw_P L xs _ 135 12 [.ref 1, .int (nI e)] [] (tw_upd τ 2 1 (nI 0)) _
    refine tw_sg 3 (i1 := 15) (ls1 := [.ref 1, .int (nI e)]) (st1 := [.int ((-100) - nI e)]) (σ1 := (tw_upd τ 2 1 (nI 0))) rfl ?_
    refine tw_ri rfl (rfl) ?_
    refine ⟨_, rfl, ?_⟩
    generalize hα : (tw_upd τ 2 1 (nI 0)) = α
    have hA : ∀ k j, ¬ (k = 2 ∧ j = 1) → ¬ (13 ≤ k ∧ k ≤ 17) → ¬ (70 ≤ k ∧ k ≤ 75) → α k j = σ k j := fun k j g1 g2 g3 => by rw [← hα, tw_upd_off g1, hr.1 _ _ (by omega) (by omega) (by omega), tw_upd_off (by omega), tw_upd_off (by omega), tw_upd_off (by omega), tw_upd_off (by omega), tw_upd_off (by omega)]
    have hA2 : α 2 1 = nI 0 := by rw [← hα, tw_upd_at]
    have hA72 : tw_iChars α 72 := fun j hj => by
      obtain ⟨q, q1, q2⟩ := hr.2 (fun j hj => by rw [tw_upd_off (by omega), tw_upd_off (by omega), tw_upd_off (by omega), tw_upd_off (by omega), tw_upd_off (by omega)]; exact hC72.1 j hj) j hj
      exact ⟨q, q1, by rw [← hα]; repeat (first | exact q2 | rw [tw_upd_off (by omega)])⟩
    have a17 : α 88 17 = nI k := (hA 88 17 (by omega) (by omega) (by omega)).trans hk88
    have a103 : ∀ j, j < k → α 103 j = nI (ch j) := fun j hj => (hA 103 j (by omega) (by omega) (by omega)).trans (hci j hj).2
    show tw_P L xs _ 194 0 [.ref 88, tw_U] [] α _
    refine tw_sg 16 (i1 := 16) (ls1 := [.ref 88, tw_U]) (st1 := [.ref 88]) (σ1 := (tw_upd (tw_upd (tw_upd (tw_upd (tw_upd α 88 18 (nI 0)) 88 19 (-1)) 88 20 (nI 0)) 88 21 (nI 0)) 88 22 (nI 0))) rfl ?_
    refine tw_cl1 rfl (rfl) (by decide) (rM ((tw_upd (tw_upd (tw_upd (tw_upd (tw_upd α 88 18 (nI 0)) 88 19 (-1)) 88 20 (nI 0)) 88 21 (nI 0)) 88 22 (nI 0))) 0 (by decide) ⟨⟨by repeat (first | exact tw_upd_at | assumption | rw [tw_upd_off (by omega)]), fun j hj => by repeat (first | exact a103 j hj | rw [tw_upd_off (by omega)])⟩, by repeat (first | exact tw_upd_at | assumption | rw [tw_upd_off (by omega)]), by repeat (first | exact tw_upd_at | assumption | rw [tw_upd_off (by omega)]), by repeat (first | exact tw_upd_at | assumption | rw [tw_upd_off (by omega)]), by repeat (first | exact tw_upd_at | assumption | rw [tw_upd_off (by omega)]), by repeat (first | exact tw_upd_at | assumption | rw [tw_upd_off (by omega)])⟩) ?_
    rintro _ ρ ⟨⟨w2, rfl⟩, hf2, hr2⟩
    show tw_P L xs _ 194 17 [.ref 88, tw_U] [.int w2] ρ _
    refine tw_sgn 3 (i1 := 20) (ls0 := [.ref 88, tw_U]) (st0 := [.int (ρ 88 19)]) (σ0 := ρ) (ls1 := [.ref 88, tw_U]) (st1 := [.int (nI e)]) (σ1 := ρ) rfl (rfl) (by simp only [hf2, tw_nadd, tw_nmul]) (rfl) ?_
    refine tw_bzT (c := .ge) rfl (by rw [tw_cge] <;> (exact tw_not_lt.mp (tw_nge0 (by omega)))) ?_
    show tw_P L xs _ 194 30 [.ref 88, tw_U] [] ρ _
    refine tw_sgn 5 (i1 := 35) (ls0 := [.ref 88, tw_U]) (st0 := [.int (ρ 88 19)]) (σ0 := (tw_upd ρ 88 17 (nI 0))) (ls1 := [.ref 88, tw_U]) (st1 := [.int (nI e)]) (σ1 := (tw_upd ρ 88 17 (nI 0))) rfl (rfl) (by simp only [hf2, tw_nadd, tw_nmul]) (rfl) ?_
    refine tw_bzF (c := .lt) rfl (by rw [tw_clt'] <;> (exact (tw_nge0 (by omega)))) ?_
    show tw_P L xs _ 194 36 [.ref 88, tw_U] [] (tw_upd ρ 88 17 (nI 0)) _
    refine tw_sgn 4 (i1 := 40) (ls0 := [.ref 88, tw_U]) (st0 := [.int ((-100) - (ρ 88 19))]) (σ0 := (tw_upd ρ 88 17 (nI 0))) (ls1 := [.ref 88, tw_U]) (st1 := [.int ((-100) - nI e)]) (σ1 := (tw_upd ρ 88 17 (nI 0))) rfl (rfl) (by simp only [hf2, tw_nadd, tw_nmul]) (rfl) ?_
    refine tw_ri rfl (rfl) ?_
    generalize hω : (tw_upd ρ 88 17 (nI 0)) = ω
    have hF : ∀ k j, ¬ (k = 2 ∧ j = 1) → ¬ (13 ≤ k ∧ k ≤ 17) → ¬ (70 ≤ k ∧ k ≤ 75) → ¬ (k = 88 ∧ 17 ≤ j ∧ j ≤ 22) → ¬ (99 ≤ k ∧ k ≤ 102 ∧ j < 80) → ¬ (104 ≤ k ∧ k ≤ 107) → ω k j = σ k j := fun k j g1 g2 g3 g4 g5 g6 => by rw [← hω, tw_upd_off (by omega), hr2 k j (by omega) (by omega), tw_upd_off (by omega), tw_upd_off (by omega), tw_upd_off (by omega), tw_upd_off (by omega), tw_upd_off (by omega)]; exact hA k j g1 g2 g3
    have w2 : ω 2 1 = nI 0 := by rw [← hω]; rw [tw_upd_off (by omega), hr2 _ _ (by omega) (by omega), tw_upd_off (by omega), tw_upd_off (by omega), tw_upd_off (by omega), tw_upd_off (by omega), tw_upd_off (by omega)]; exact hA2
    have w17 : ω 88 17 = nI 0 := by rw [← hω]; exact tw_upd_at
    have w72 : tw_iChars ω 72 := fun j hj => by
      obtain ⟨q, q1, q2⟩ := hA72 j hj
      exact ⟨q, q1, by rw [← hω]; rw [tw_upd_off (by omega), hr2 _ _ (by omega) (by omega), tw_upd_off (by omega), tw_upd_off (by omega), tw_upd_off (by omega), tw_upd_off (by omega), tw_upd_off (by omega)]; exact q2⟩
    have hB : ∀ k j, 13 ≤ k → k ≤ 17 → α k j = σ k j := fun k j g1 g2 => by rw [← hα, tw_upd_off (by omega), hr.1 _ _ (by omega) (by omega) (by omega), tw_upd_off (by omega), tw_upd_off (by omega), tw_upd_off (by omega), tw_upd_off (by omega), tw_upd_off (by omega)]
    have hB2 : ∀ k j, 13 ≤ k → k ≤ 17 → ω k j = σ k j := fun k j g1 g2 => by rw [← hω, tw_upd_off (by omega), hr2 _ _ (by omega) (by omega), tw_upd_off (by omega), tw_upd_off (by omega), tw_upd_off (by omega), tw_upd_off (by omega), tw_upd_off (by omega)]; exact hB k j g1 g2
    have hB3 : ∀ k j, 99 ≤ k → k ≤ 102 → ω k j = σ k j := fun k j g1 g2 => by rw [← hω, tw_upd_off (by omega), hr2 _ _ (by omega) (by omega), tw_upd_off (by omega), tw_upd_off (by omega), tw_upd_off (by omega), tw_upd_off (by omega), tw_upd_off (by omega)]; exact hA k j (by omega) (by omega) (by omega)
    exact ⟨rfl, tw_Inv_law hI hF w2 w17 (hC14.cg (fun j _ => hB2 14 j (by omega) (by omega))) w72 (hLa.cg (fun k j q => by unfold tw_fLaw at q; rcases q with q | q; exact hB2 k j (by omega) (by omega); exact hB3 k j (by omega) (by omega)))⟩
  · by_cases hz : p2 < k
    · skip
      show tw_P L xs _ 135 0 [.ref 1, tw_U] [] σ _
      refine tw_sg 4 (i1 := 4) (ls1 := [.ref 1, tw_U]) (st1 := [.ref 2, .ref 70]) (σ1 := σ) rfl ?_
      refine tw_cl0 59 rfl (rfl) (by decide) ?_
      show tw_P L xs _ 63 0 [.ref 70, .ref 2] [] σ _
      refine tw_sg 11 (i1 := 11) (ls1 := [.ref 70, .ref 2]) (st1 := [.ref 71]) (σ1 := (tw_upd (tw_upd (tw_upd σ 70 1 (nI 1)) 70 2 (nI 0)) 70 3 (-1))) rfl ?_
      refine tw_cl0 58 rfl (rfl) (by decide) ?_
      show tw_P L xs _ 51 0 [.ref 71] [] (tw_upd (tw_upd (tw_upd σ 70 1 (nI 1)) 70 2 (nI 0)) 70 3 (-1)) _
      refine tw_sg 6 (i1 := 6) (ls1 := [.ref 71]) (st1 := []) (σ1 := (tw_upd (tw_upd (tw_upd (tw_upd (tw_upd σ 70 1 (nI 1)) 70 2 (nI 0)) 70 3 (-1)) 71 4 (nI 0)) 71 5 (nI 0))) rfl ?_
      refine tw_rv rfl ?_
      show tw_P L xs _ 63 12 [.ref 70, .ref 2] [] (tw_upd (tw_upd (tw_upd (tw_upd (tw_upd σ 70 1 (nI 1)) 70 2 (nI 0)) 70 3 (-1)) 71 4 (nI 0)) 71 5 (nI 0)) _
      refine tw_sg 2 (i1 := 14) (ls1 := [.ref 70, .ref 2]) (st1 := [.int (nI 0), .ref 70]) (σ1 := (tw_upd (tw_upd (tw_upd (tw_upd (tw_upd σ 70 1 (nI 1)) 70 2 (nI 0)) 70 3 (-1)) 71 4 (nI 0)) 71 5 (nI 0))) rfl ?_
      refine tw_cl1 rfl (rfl) (by decide) (rC ((tw_upd (tw_upd (tw_upd (tw_upd (tw_upd σ 70 1 (nI 1)) 70 2 (nI 0)) 70 3 (-1)) 71 4 (nI 0)) 71 5 (nI 0))) 0 (by decide) ⟨⟨by repeat (first | exact tw_upd_at | assumption | rw [tw_upd_off (by omega)]), by repeat (first | exact tw_upd_at | assumption | rw [tw_upd_off (by omega)]), fun j hj => by rw [tw_upd_off (by omega), tw_upd_off (by omega), tw_upd_off (by omega), tw_upd_off (by omega), tw_upd_off (by omega)]; exact h3 j hj⟩, by repeat (first | exact tw_upd_at | assumption | rw [tw_upd_off (by omega)]), by repeat (first | exact tw_upd_at | assumption | rw [tw_upd_off (by omega)]), by repeat (first | exact tw_upd_at | assumption | rw [tw_upd_off (by omega)]), by repeat (first | exact tw_upd_at | assumption | rw [tw_upd_off (by omega)])⟩) ?_
      rintro _ τ ⟨rfl, hS2, hr, hl, hk3⟩
      show tw_P L xs _ 63 15 [.ref 70, .ref 2] [.int (nI 0)] τ _
      obtain ⟨⟨t1, t2, t3⟩, s2, s3, s4, s5⟩ := id hS2
      refine tw_sgn 4 (i1 := 19) (ls0 := [.ref 70, .ref 2]) (st0 := [.int (-1), .int (τ 70 3)]) (σ0 := τ) (ls1 := [.ref 70, .ref 2]) (st1 := [.int (-1), .int (-1)]) (σ1 := τ) rfl (rfl) (by simp only [s3, tw_nadd, tw_nmul]) (rfl) ?_
      refine tw_biF (c := .ne) rfl (by rw [tw_cne'] <;> (exact rfl)) ?_
      show tw_P L xs _ 63 20 [.ref 70, .ref 2] [] τ _
      refine tw_sgn 3 (i1 := 23) (ls0 := [.ref 70, .ref 2]) (st0 := [.ref 2, .int (τ 70 2)]) (σ0 := τ) (ls1 := [.ref 70, .ref 2]) (st1 := [.ref 2, .int (nI p2)]) (σ1 := τ) rfl (rfl) (by simp only [s2, tw_nadd, tw_nmul]) (rfl) ?_
      refine tw_cl0 58 rfl (rfl) (by decide) ?_
      show tw_P L xs _ 121 0 [.ref 2] [] τ _
      refine tw_sgn 2 (i1 := 2) (ls0 := [.ref 2]) (st0 := [.int (τ 2 1)]) (σ0 := τ) (ls1 := [.ref 2]) (st1 := [.int (nI k)]) (σ1 := τ) rfl (rfl) (by simp only [t2, tw_nadd, tw_nmul]) (rfl) ?_
      refine tw_ri rfl (rfl) ?_
      show tw_P L xs _ 63 24 [.ref 70, .ref 2] [.int (nI k), .int (nI p2)] τ _
      refine tw_biF (c := .ge) rfl (by rw [tw_cge', tw_nle (by omega) (by omega)] <;> omega) ?_
      show tw_P L xs _ 63 25 [.ref 70, .ref 2] [] τ _
      refine tw_sgn 6 (i1 := 31) (ls0 := [.ref 70, .ref 2]) (st0 := [.int (τ 70 2)]) (σ0 := (tw_upd τ 70 3 (τ 70 2))) (ls1 := [.ref 70, .ref 2]) (st1 := [.int (nI p2)]) (σ1 := (tw_upd τ 70 3 (nI p2))) rfl (rfl) (by simp only [s2, tw_nadd, tw_nmul]) (by simp only [s2, tw_nadd, tw_nmul]) ?_
      refine tw_ri rfl (rfl) ?_
      show tw_P L xs _ 135 5 [.ref 1, tw_U] [.int (nI p2)] (tw_upd τ 70 3 (nI p2)) _
      refine tw_sg 3 (i1 := 8) (ls1 := [.ref 1, .int (nI p2)]) (st1 := [.ref 2]) (σ1 := (tw_upd τ 70 3 (nI p2))) rfl ?_
      refine tw_cl0 59 rfl (rfl) (by decide) ?_
      show tw_P L xs _ 124 0 [.ref 2] [] (tw_upd τ 70 3 (nI p2)) _
      refine tw_sg 3 (i1 := 3) (ls1 := [.ref 2]) (st1 := []) (σ1 := (tw_upd (tw_upd τ 70 3 (nI p2)) 2 1 (nI 0))) rfl ?_
      refine tw_rv rfl ?_
      show tw_P L xs _ 135 9 [.ref 1, .int (nI p2)] [] (tw_upd (tw_upd τ 70 3 (nI p2)) 2 1 (nI 0)) _
      refine tw_sg 2 (i1 := 11) (ls1 := [.ref 1, .int (nI p2)]) (st1 := [.int (-1), .int (nI p2)]) (σ1 := (tw_upd (tw_upd τ 70 3 (nI p2)) 2 1 (nI 0))) rfl ?_
      refine tw_biF (c := .eq) rfl (by rw [tw_ceq'] <;> (exact (tw_nne1 (by omega)))) ?_
      show tw_P L xs _ 135 12 [.ref 1, .int (nI p2)] [] (tw_upd (tw_upd τ 70 3 (nI p2)) 2 1 (nI 0)) _
      refine tw_sg 3 (i1 := 15) (ls1 := [.ref 1, .int (nI p2)]) (st1 := [.int ((-100) - nI p2)]) (σ1 := (tw_upd (tw_upd τ 70 3 (nI p2)) 2 1 (nI 0))) rfl ?_
      refine tw_ri rfl (rfl) ?_
      refine ⟨_, rfl, ?_⟩
      generalize hα : (tw_upd (tw_upd τ 70 3 (nI p2)) 2 1 (nI 0)) = α
      have hA : ∀ k j, ¬ (k = 2 ∧ j = 1) → ¬ (13 ≤ k ∧ k ≤ 17) → ¬ (70 ≤ k ∧ k ≤ 75) → α k j = σ k j := fun k j g1 g2 g3 => by rw [← hα, tw_upd_off g1, tw_upd_off (by omega), hr.1 _ _ (by omega) (by omega) (by omega), tw_upd_off (by omega), tw_upd_off (by omega), tw_upd_off (by omega), tw_upd_off (by omega), tw_upd_off (by omega)]
      have hA2 : α 2 1 = nI 0 := by rw [← hα, tw_upd_at]
      have hA72 : tw_iChars α 72 := fun j hj => by
        obtain ⟨q, q1, q2⟩ := hr.2 (fun j hj => by rw [tw_upd_off (by omega), tw_upd_off (by omega), tw_upd_off (by omega), tw_upd_off (by omega), tw_upd_off (by omega)]; exact hC72.1 j hj) j hj
        exact ⟨q, q1, by rw [← hα]; repeat (first | exact q2 | rw [tw_upd_off (by omega)])⟩
      have a17 : α 88 17 = nI k := (hA 88 17 (by omega) (by omega) (by omega)).trans hk88
      have a103 : ∀ j, j < k → α 103 j = nI (ch j) := fun j hj => (hA 103 j (by omega) (by omega) (by omega)).trans (hci j hj).2
      show tw_P L xs _ 194 0 [.ref 88, tw_U] [] α _
      refine tw_sg 16 (i1 := 16) (ls1 := [.ref 88, tw_U]) (st1 := [.ref 88]) (σ1 := (tw_upd (tw_upd (tw_upd (tw_upd (tw_upd α 88 18 (nI 0)) 88 19 (-1)) 88 20 (nI 0)) 88 21 (nI 0)) 88 22 (nI 0))) rfl ?_
      refine tw_cl1 rfl (rfl) (by decide) (rM ((tw_upd (tw_upd (tw_upd (tw_upd (tw_upd α 88 18 (nI 0)) 88 19 (-1)) 88 20 (nI 0)) 88 21 (nI 0)) 88 22 (nI 0))) 0 (by decide) ⟨⟨by repeat (first | exact tw_upd_at | assumption | rw [tw_upd_off (by omega)]), fun j hj => by repeat (first | exact a103 j hj | rw [tw_upd_off (by omega)])⟩, by repeat (first | exact tw_upd_at | assumption | rw [tw_upd_off (by omega)]), by repeat (first | exact tw_upd_at | assumption | rw [tw_upd_off (by omega)]), by repeat (first | exact tw_upd_at | assumption | rw [tw_upd_off (by omega)]), by repeat (first | exact tw_upd_at | assumption | rw [tw_upd_off (by omega)]), by repeat (first | exact tw_upd_at | assumption | rw [tw_upd_off (by omega)])⟩) ?_
      rintro _ ρ ⟨rfl, hS3, hr2, hl2, hk4⟩
      show tw_P L xs _ 194 17 [.ref 88, tw_U] [.int (nI 0)] ρ _
      obtain ⟨⟨u1, u2⟩, v2, v3, v4, v5, v6⟩ := id hS3
      refine tw_sgn 3 (i1 := 20) (ls0 := [.ref 88, tw_U]) (st0 := [.int (ρ 88 19)]) (σ0 := ρ) (ls1 := [.ref 88, tw_U]) (st1 := [.int (-1)]) (σ1 := ρ) rfl (rfl) (by simp only [v3, tw_nadd, tw_nmul]) (rfl) ?_
      refine tw_bzF (c := .ge) rfl (by rw [tw_cge'] <;> (exact tw_not_le.mpr (by decide))) ?_
      show tw_P L xs _ 194 21 [.ref 88, tw_U] [] ρ _
      refine tw_sgn 4 (i1 := 25) (ls0 := [.ref 88, tw_U]) (st0 := [.int (ρ 88 17), .int (ρ 88 18)]) (σ0 := ρ) (ls1 := [.ref 88, tw_U]) (st1 := [.int (nI k), .int (nI p2)]) (σ1 := ρ) rfl (rfl) (by simp only [v2, u1, tw_nadd, tw_nmul]) (rfl) ?_
      refine tw_biF (c := .ge) rfl (by rw [tw_cge', tw_nle (by omega) (by omega)] <;> omega) ?_
      show tw_P L xs _ 194 26 [.ref 88, tw_U] [] ρ _
      refine tw_sgn 3 (i1 := 29) (ls0 := [.ref 88, tw_U]) (st0 := [.int (ρ 88 18), .ref 88]) (σ0 := ρ) (ls1 := [.ref 88, tw_U]) (st1 := [.int (nI p2), .ref 88]) (σ1 := ρ) rfl (rfl) (by simp only [v2, tw_nadd, tw_nmul]) (rfl) ?_
      refine tw_cl0 59 rfl (rfl) (by decide) ?_
      show tw_P L xs _ 190 0 [.ref 88, .int (nI p2)] [] ρ _
      refine tw_sgn 2 (i1 := 2) (ls0 := [.ref 88, .int (nI p2)]) (st0 := [.int (ρ 88 19)]) (σ0 := ρ) (ls1 := [.ref 88, .int (nI p2)]) (st1 := [.int (-1)]) (σ1 := ρ) rfl (rfl) (by simp only [v3, tw_nadd, tw_nmul]) (rfl) ?_
      refine tw_bzF (c := .ge) rfl (by rw [tw_cge'] <;> (exact tw_not_le.mpr (by decide))) ?_
      show tw_P L xs _ 190 3 [.ref 88, .int (nI p2)] [] ρ _
      refine tw_sg 3 (i1 := 6) (ls1 := [.ref 88, .int (nI p2)]) (st1 := []) (σ1 := (tw_upd ρ 88 19 (nI p2))) rfl ?_
      refine tw_rv rfl ?_
      show tw_P L xs _ 194 30 [.ref 88, tw_U] [] (tw_upd ρ 88 19 (nI p2)) _
      refine tw_sg 5 (i1 := 35) (ls1 := [.ref 88, tw_U]) (st1 := [.int (nI p2)]) (σ1 := (tw_upd (tw_upd ρ 88 19 (nI p2)) 88 17 (nI 0))) rfl ?_
      refine tw_bzF (c := .lt) rfl (by rw [tw_clt', tw_nlt (by omega) (by omega)] <;> omega) ?_
      show tw_P L xs _ 194 36 [.ref 88, tw_U] [] (tw_upd (tw_upd ρ 88 19 (nI p2)) 88 17 (nI 0)) _
      refine tw_sg 4 (i1 := 40) (ls1 := [.ref 88, tw_U]) (st1 := [.int ((-100) - nI p2)]) (σ1 := (tw_upd (tw_upd ρ 88 19 (nI p2)) 88 17 (nI 0))) rfl ?_
      refine tw_ri rfl (rfl) ?_
      generalize hω : (tw_upd (tw_upd ρ 88 19 (nI p2)) 88 17 (nI 0)) = ω
      have hF : ∀ k j, ¬ (k = 2 ∧ j = 1) → ¬ (13 ≤ k ∧ k ≤ 17) → ¬ (70 ≤ k ∧ k ≤ 75) → ¬ (k = 88 ∧ 17 ≤ j ∧ j ≤ 22) → ¬ (99 ≤ k ∧ k ≤ 102 ∧ j < 80) → ¬ (104 ≤ k ∧ k ≤ 107) → ω k j = σ k j := fun k j g1 g2 g3 g4 g5 g6 => by rw [← hω, tw_upd_off (by omega), tw_upd_off (by omega), hr2 k j (by omega) (by omega), tw_upd_off (by omega), tw_upd_off (by omega), tw_upd_off (by omega), tw_upd_off (by omega), tw_upd_off (by omega)]; exact hA k j g1 g2 g3
      have w2 : ω 2 1 = nI 0 := by rw [← hω]; rw [tw_upd_off (by omega), tw_upd_off (by omega), hr2 _ _ (by omega) (by omega), tw_upd_off (by omega), tw_upd_off (by omega), tw_upd_off (by omega), tw_upd_off (by omega), tw_upd_off (by omega)]; exact hA2
      have w17 : ω 88 17 = nI 0 := by rw [← hω]; exact tw_upd_at
      have w72 : tw_iChars ω 72 := fun j hj => by
        obtain ⟨q, q1, q2⟩ := hA72 j hj
        exact ⟨q, q1, by rw [← hω]; rw [tw_upd_off (by omega), tw_upd_off (by omega), hr2 _ _ (by omega) (by omega), tw_upd_off (by omega), tw_upd_off (by omega), tw_upd_off (by omega), tw_upd_off (by omega), tw_upd_off (by omega)]; exact q2⟩
      have hB : ∀ k j, 13 ≤ k → k ≤ 17 → α k j = σ k j := fun k j g1 g2 => by rw [← hα, tw_upd_off (by omega), tw_upd_off (by omega), hr.1 _ _ (by omega) (by omega) (by omega), tw_upd_off (by omega), tw_upd_off (by omega), tw_upd_off (by omega), tw_upd_off (by omega), tw_upd_off (by omega)]
      have hB2 : ∀ k j, 13 ≤ k → k ≤ 17 → ω k j = σ k j := fun k j g1 g2 => by rw [← hω, tw_upd_off (by omega), tw_upd_off (by omega), hr2 _ _ (by omega) (by omega), tw_upd_off (by omega), tw_upd_off (by omega), tw_upd_off (by omega), tw_upd_off (by omega), tw_upd_off (by omega)]; exact hB k j g1 g2
      have hB3 : ∀ k j, 99 ≤ k → k ≤ 102 → ω k j = σ k j := fun k j g1 g2 => by rw [← hω, tw_upd_off (by omega), tw_upd_off (by omega), hr2 _ _ (by omega) (by omega), tw_upd_off (by omega), tw_upd_off (by omega), tw_upd_off (by omega), tw_upd_off (by omega), tw_upd_off (by omega)]; exact hA k j (by omega) (by omega) (by omega)
      exact ⟨rfl, tw_Inv_law hI hF w2 w17 (hC14.cg (fun j _ => hB2 14 j (by omega) (by omega))) w72 (hLa.cg (fun k j q => by unfold tw_fLaw at q; rcases q with q | q; exact hB2 k j (by omega) (by omega); exact hB3 k j (by omega) (by omega)))⟩
    · skip
      show tw_P L xs _ 135 0 [.ref 1, tw_U] [] σ _
      refine tw_sg 4 (i1 := 4) (ls1 := [.ref 1, tw_U]) (st1 := [.ref 2, .ref 70]) (σ1 := σ) rfl ?_
      refine tw_cl0 59 rfl (rfl) (by decide) ?_
      show tw_P L xs _ 63 0 [.ref 70, .ref 2] [] σ _
      refine tw_sg 11 (i1 := 11) (ls1 := [.ref 70, .ref 2]) (st1 := [.ref 71]) (σ1 := (tw_upd (tw_upd (tw_upd σ 70 1 (nI 1)) 70 2 (nI 0)) 70 3 (-1))) rfl ?_
      refine tw_cl0 58 rfl (rfl) (by decide) ?_
      show tw_P L xs _ 51 0 [.ref 71] [] (tw_upd (tw_upd (tw_upd σ 70 1 (nI 1)) 70 2 (nI 0)) 70 3 (-1)) _
      refine tw_sg 6 (i1 := 6) (ls1 := [.ref 71]) (st1 := []) (σ1 := (tw_upd (tw_upd (tw_upd (tw_upd (tw_upd σ 70 1 (nI 1)) 70 2 (nI 0)) 70 3 (-1)) 71 4 (nI 0)) 71 5 (nI 0))) rfl ?_
      refine tw_rv rfl ?_
      show tw_P L xs _ 63 12 [.ref 70, .ref 2] [] (tw_upd (tw_upd (tw_upd (tw_upd (tw_upd σ 70 1 (nI 1)) 70 2 (nI 0)) 70 3 (-1)) 71 4 (nI 0)) 71 5 (nI 0)) _
      refine tw_sg 2 (i1 := 14) (ls1 := [.ref 70, .ref 2]) (st1 := [.int (nI 0), .ref 70]) (σ1 := (tw_upd (tw_upd (tw_upd (tw_upd (tw_upd σ 70 1 (nI 1)) 70 2 (nI 0)) 70 3 (-1)) 71 4 (nI 0)) 71 5 (nI 0))) rfl ?_
      refine tw_cl1 rfl (rfl) (by decide) (rC ((tw_upd (tw_upd (tw_upd (tw_upd (tw_upd σ 70 1 (nI 1)) 70 2 (nI 0)) 70 3 (-1)) 71 4 (nI 0)) 71 5 (nI 0))) 0 (by decide) ⟨⟨by repeat (first | exact tw_upd_at | assumption | rw [tw_upd_off (by omega)]), by repeat (first | exact tw_upd_at | assumption | rw [tw_upd_off (by omega)]), fun j hj => by rw [tw_upd_off (by omega), tw_upd_off (by omega), tw_upd_off (by omega), tw_upd_off (by omega), tw_upd_off (by omega)]; exact h3 j hj⟩, by repeat (first | exact tw_upd_at | assumption | rw [tw_upd_off (by omega)]), by repeat (first | exact tw_upd_at | assumption | rw [tw_upd_off (by omega)]), by repeat (first | exact tw_upd_at | assumption | rw [tw_upd_off (by omega)]), by repeat (first | exact tw_upd_at | assumption | rw [tw_upd_off (by omega)])⟩) ?_
      rintro _ τ ⟨rfl, hS2, hr, hl, hk3⟩
      show tw_P L xs _ 63 15 [.ref 70, .ref 2] [.int (nI 0)] τ _
      obtain ⟨⟨t1, t2, t3⟩, s2, s3, s4, s5⟩ := id hS2
      refine tw_sgn 4 (i1 := 19) (ls0 := [.ref 70, .ref 2]) (st0 := [.int (-1), .int (τ 70 3)]) (σ0 := τ) (ls1 := [.ref 70, .ref 2]) (st1 := [.int (-1), .int (-1)]) (σ1 := τ) rfl (rfl) (by simp only [s3, tw_nadd, tw_nmul]) (rfl) ?_
      refine tw_biF (c := .ne) rfl (by rw [tw_cne'] <;> (exact rfl)) ?_
      show tw_P L xs _ 63 20 [.ref 70, .ref 2] [] τ _
      refine tw_sgn 3 (i1 := 23) (ls0 := [.ref 70, .ref 2]) (st0 := [.ref 2, .int (τ 70 2)]) (σ0 := τ) (ls1 := [.ref 70, .ref 2]) (st1 := [.ref 2, .int (nI p2)]) (σ1 := τ) rfl (rfl) (by simp only [s2, tw_nadd, tw_nmul]) (rfl) ?_
      refine tw_cl0 58 rfl (rfl) (by decide) ?_
      show tw_P L xs _ 121 0 [.ref 2] [] τ _
      refine tw_sgn 2 (i1 := 2) (ls0 := [.ref 2]) (st0 := [.int (τ 2 1)]) (σ0 := τ) (ls1 := [.ref 2]) (st1 := [.int (nI k)]) (σ1 := τ) rfl (rfl) (by simp only [t2, tw_nadd, tw_nmul]) (rfl) ?_
      refine tw_ri rfl (rfl) ?_
      show tw_P L xs _ 63 24 [.ref 70, .ref 2] [.int (nI k), .int (nI p2)] τ _
      refine tw_biT (c := .ge) rfl (by rw [tw_cge, tw_nle (by omega) (by omega)] <;> omega) ?_
      show tw_P L xs _ 63 29 [.ref 70, .ref 2] [] τ _
      refine tw_sgn 2 (i1 := 31) (ls0 := [.ref 70, .ref 2]) (st0 := [.int (τ 70 3)]) (σ0 := τ) (ls1 := [.ref 70, .ref 2]) (st1 := [.int (-1)]) (σ1 := τ) rfl (rfl) (by simp only [s3, tw_nadd, tw_nmul]) (rfl) ?_
      refine tw_ri rfl (rfl) ?_
      show tw_P L xs _ 135 5 [.ref 1, tw_U] [.int (-1)] τ _
      refine tw_sg 3 (i1 := 8) (ls1 := [.ref 1, .int (-1)]) (st1 := [.ref 2]) (σ1 := τ) rfl ?_
      refine tw_cl0 59 rfl (rfl) (by decide) ?_
      show tw_P L xs _ 124 0 [.ref 2] [] τ _
      refine tw_sg 3 (i1 := 3) (ls1 := [.ref 2]) (st1 := []) (σ1 := (tw_upd τ 2 1 (nI 0))) rfl ?_
      refine tw_rv rfl ?_
      show tw_P L xs _ 135 9 [.ref 1, .int (-1)] [] (tw_upd τ 2 1 (nI 0)) _
      refine tw_sg 2 (i1 := 11) (ls1 := [.ref 1, .int (-1)]) (st1 := [.int (-1), .int (-1)]) (σ1 := (tw_upd τ 2 1 (nI 0))) rfl ?_
      refine tw_biT (c := .eq) rfl (by rw [tw_ceq] <;> (exact rfl)) ?_
      show tw_P L xs _ 135 16 [.ref 1, .int (-1)] [] (tw_upd τ 2 1 (nI 0)) _
      refine tw_sg 4 (i1 := 20) (ls1 := [.ref 1, .int (-1)]) (st1 := [.ref 70, .ref 6]) (σ1 := (tw_upd τ 2 1 (nI 0))) rfl ?_
      refine tw_cl0 59 rfl (rfl) (by decide) ?_
      show tw_P L xs _ 62 0 [.ref 70] [] (tw_upd τ 2 1 (nI 0)) _
      refine tw_sg 2 (i1 := 2) (ls1 := [.ref 70]) (st1 := [.ref 71]) (σ1 := (tw_upd τ 2 1 (nI 0))) rfl ?_
      refine tw_ra rfl ?_
      show tw_P L xs _ 135 21 [.ref 1, .int (-1)] [.ref 71, .ref 6] (tw_upd τ 2 1 (nI 0)) _
      refine tw_cl1 rfl (rfl) (by decide) (tw_e_obey (fun j hj => by obtain ⟨q, q1, q2⟩ := hr.2 (fun j hj => by rw [tw_upd_off (by omega), tw_upd_off (by omega), tw_upd_off (by omega), tw_upd_off (by omega), tw_upd_off (by omega)]; exact hC72.1 j hj) j hj; exact ⟨q, q1, by rw [tw_upd_off (by omega)]; exact q2⟩)) ?_
      rintro _ υ ⟨rfl, hO1, hO2, hO3, hO4⟩
      show tw_P L xs _ 135 22 [.ref 1, .int (-1)] [] υ _
      refine tw_sg 2 (i1 := 24) (ls1 := [.ref 1, .int (-1)]) (st1 := [.ref 70]) (σ1 := υ) rfl ?_
      refine tw_cl0 59 rfl (rfl) (by decide) ?_
      show tw_P L xs _ 62 0 [.ref 70] [] υ _
      refine tw_sg 2 (i1 := 2) (ls1 := [.ref 70]) (st1 := [.ref 71]) (σ1 := υ) rfl ?_
      refine tw_ra rfl ?_
      show tw_P L xs _ 135 25 [.ref 1, .int (-1)] [.ref 71] υ _
      refine tw_cl0 59 rfl (rfl) (by decide) ?_
      show tw_P L xs _ 50 0 [.ref 71] [] υ _
      refine tw_sgn 2 (i1 := 2) (ls0 := [.ref 71]) (st0 := [.int (υ 71 5)]) (σ0 := υ) (ls1 := [.ref 71]) (st1 := [.int (nI lv2)]) (σ1 := υ) rfl (rfl) (by simp only [(hO4 71 5 (by omega)).trans ((tw_upd_off (by omega)).trans s5), tw_nadd, tw_nmul]) (rfl) ?_
      refine tw_ri rfl (rfl) ?_
      show tw_P L xs _ 135 26 [.ref 1, .int (-1)] [.int (nI lv2)] υ _
      refine tw_ri rfl (rfl) ?_
      refine ⟨_, rfl, ?_⟩
      generalize hα : υ = α
      have hA : ∀ k j, ¬ (k = 2 ∧ j = 1) → ¬ (13 ≤ k ∧ k ≤ 17) → ¬ (70 ≤ k ∧ k ≤ 75) → α k j = σ k j := fun k j g1 g2 g3 => by rw [← hα, hO4 k j (by omega), tw_upd_off g1, hr.1 _ _ (by omega) (by omega) (by omega), tw_upd_off (by omega), tw_upd_off (by omega), tw_upd_off (by omega), tw_upd_off (by omega), tw_upd_off (by omega)]
      have hA2 : α 2 1 = nI 0 := by rw [← hα, hO4 2 1 (by omega), tw_upd_at]
      have hA72 : tw_iChars α 72 := fun j hj => by
        obtain ⟨q, q1, q2⟩ := hr.2 (fun j hj => by rw [tw_upd_off (by omega), tw_upd_off (by omega), tw_upd_off (by omega), tw_upd_off (by omega), tw_upd_off (by omega)]; exact hC72.1 j hj) j hj
        exact ⟨q, q1, by rw [← hα]; rw [hO4 72 j (by omega)]; repeat (first | exact q2 | rw [tw_upd_off (by omega)])⟩
      have a17 : α 88 17 = nI k := (hA 88 17 (by omega) (by omega) (by omega)).trans hk88
      have a103 : ∀ j, j < k → α 103 j = nI (ch j) := fun j hj => (hA 103 j (by omega) (by omega) (by omega)).trans (hci j hj).2
      show tw_P L xs _ 194 0 [.ref 88, tw_U] [] α _
      refine tw_sg 16 (i1 := 16) (ls1 := [.ref 88, tw_U]) (st1 := [.ref 88]) (σ1 := (tw_upd (tw_upd (tw_upd (tw_upd (tw_upd α 88 18 (nI 0)) 88 19 (-1)) 88 20 (nI 0)) 88 21 (nI 0)) 88 22 (nI 0))) rfl ?_
      refine tw_cl1 rfl (rfl) (by decide) (rM ((tw_upd (tw_upd (tw_upd (tw_upd (tw_upd α 88 18 (nI 0)) 88 19 (-1)) 88 20 (nI 0)) 88 21 (nI 0)) 88 22 (nI 0))) 0 (by decide) ⟨⟨by repeat (first | exact tw_upd_at | assumption | rw [tw_upd_off (by omega)]), fun j hj => by repeat (first | exact a103 j hj | rw [tw_upd_off (by omega)])⟩, by repeat (first | exact tw_upd_at | assumption | rw [tw_upd_off (by omega)]), by repeat (first | exact tw_upd_at | assumption | rw [tw_upd_off (by omega)]), by repeat (first | exact tw_upd_at | assumption | rw [tw_upd_off (by omega)]), by repeat (first | exact tw_upd_at | assumption | rw [tw_upd_off (by omega)]), by repeat (first | exact tw_upd_at | assumption | rw [tw_upd_off (by omega)])⟩) ?_
      rintro _ ρ ⟨rfl, hS3, hr2, hl2, hk4⟩
      show tw_P L xs _ 194 17 [.ref 88, tw_U] [.int (nI 0)] ρ _
      obtain ⟨⟨u1, u2⟩, v2, v3, v4, v5, v6⟩ := id hS3
      refine tw_sgn 3 (i1 := 20) (ls0 := [.ref 88, tw_U]) (st0 := [.int (ρ 88 19)]) (σ0 := ρ) (ls1 := [.ref 88, tw_U]) (st1 := [.int (-1)]) (σ1 := ρ) rfl (rfl) (by simp only [v3, tw_nadd, tw_nmul]) (rfl) ?_
      refine tw_bzF (c := .ge) rfl (by rw [tw_cge'] <;> (exact tw_not_le.mpr (by decide))) ?_
      show tw_P L xs _ 194 21 [.ref 88, tw_U] [] ρ _
      refine tw_sgn 4 (i1 := 25) (ls0 := [.ref 88, tw_U]) (st0 := [.int (ρ 88 17), .int (ρ 88 18)]) (σ0 := ρ) (ls1 := [.ref 88, tw_U]) (st1 := [.int (nI k), .int (nI p2)]) (σ1 := ρ) rfl (rfl) (by simp only [v2, u1, tw_nadd, tw_nmul]) (rfl) ?_
      refine tw_biT (c := .ge) rfl (by rw [tw_cge, tw_nle (by omega) (by omega)] <;> omega) ?_
      show tw_P L xs _ 194 30 [.ref 88, tw_U] [] ρ _
      refine tw_sgn 5 (i1 := 35) (ls0 := [.ref 88, tw_U]) (st0 := [.int (ρ 88 19)]) (σ0 := (tw_upd ρ 88 17 (nI 0))) (ls1 := [.ref 88, tw_U]) (st1 := [.int (-1)]) (σ1 := (tw_upd ρ 88 17 (nI 0))) rfl (rfl) (by simp only [v3, tw_nadd, tw_nmul]) (rfl) ?_
      refine tw_bzT (c := .lt) rfl (by rw [tw_clt] <;> (exact (by decide))) ?_
      show tw_P L xs _ 194 41 [.ref 88, tw_U] [] (tw_upd ρ 88 17 (nI 0)) _
      refine tw_sg 2 (i1 := 43) (ls1 := [.ref 88, .int (nI 0)]) (st1 := []) (σ1 := (tw_upd ρ 88 17 (nI 0))) rfl ?_
      refine tw_l_lcp (σ0 := (tw_upd ρ 88 17 (nI 0))) (n := nd2) (by omega) (by rw [tw_upd_off (by omega)]; exact v5) nd2 0 _ (by omega) ⟨⟨fun _ _ _ => rfl, fun d hd => by omega⟩, fun π hP => ?_⟩
      refine tw_sgn 2 (i1 := 83) (ls0 := [.ref 88, .int (nI nd2)]) (st0 := [.int (π 88 22)]) (σ0 := π) (ls1 := [.ref 88, .int (nI nd2)]) (st1 := [.int (nI lv2)]) (σ1 := π) rfl (rfl) (by simp only [((hP.1 88 22 (by omega)).trans ((tw_upd_off (by omega)).trans v6)), tw_nadd, tw_nmul]) (rfl) ?_
      refine tw_ri rfl (rfl) ?_
      generalize hω : π = ω
      have hF : ∀ k j, ¬ (k = 2 ∧ j = 1) → ¬ (13 ≤ k ∧ k ≤ 17) → ¬ (70 ≤ k ∧ k ≤ 75) → ¬ (k = 88 ∧ 17 ≤ j ∧ j ≤ 22) → ¬ (99 ≤ k ∧ k ≤ 102 ∧ j < 80) → ¬ (104 ≤ k ∧ k ≤ 107) → ω k j = σ k j := fun k j g1 g2 g3 g4 g5 g6 => by rw [← hω, hP.1 k j (by omega), tw_upd_off (by omega), hr2 k j (by omega) (by omega), tw_upd_off (by omega), tw_upd_off (by omega), tw_upd_off (by omega), tw_upd_off (by omega), tw_upd_off (by omega)]; exact hA k j g1 g2 g3
      have w2 : ω 2 1 = nI 0 := by rw [← hω, hP.1 2 1 (by omega)]; rw [tw_upd_off (by omega), hr2 _ _ (by omega) (by omega), tw_upd_off (by omega), tw_upd_off (by omega), tw_upd_off (by omega), tw_upd_off (by omega), tw_upd_off (by omega)]; exact hA2
      have w17 : ω 88 17 = nI 0 := by rw [← hω]; rw [hP.1 88 17 (by omega)]; exact tw_upd_at
      have w72 : tw_iChars ω 72 := fun j hj => by
        obtain ⟨q, q1, q2⟩ := hA72 j hj
        exact ⟨q, q1, by rw [← hω, hP.1 72 j (by omega)]; rw [tw_upd_off (by omega), hr2 _ _ (by omega) (by omega), tw_upd_off (by omega), tw_upd_off (by omega), tw_upd_off (by omega), tw_upd_off (by omega), tw_upd_off (by omega)]; exact q2⟩
      have wC : ∀ k j, 13 ≤ k → k ≤ 17 → ω k j = α k j := fun k j g1 g2 => by rw [← hω, hP.1 _ _ (by omega), tw_upd_off (by omega), hr2 _ _ (by omega) (by omega), tw_upd_off (by omega), tw_upd_off (by omega), tw_upd_off (by omega), tw_upd_off (by omega), tw_upd_off (by omega)]
      have aC : ∀ k j, 14 ≤ k → k ≤ 17 → j < 80 → α k j = τ (k + 58) j := fun k j g1 g2 g3 => by rw [← hα, hO1 k j g1 g2 g3, tw_upd_off (by omega)]
      have n80 : nd2 ≤ 80 := by omega
      have h14 : tw_hk 14 K 0 nd2 ω := fun j j1 j2 => by
        have q := hk3 j j1 j2
        rw [wC 14 j (by omega) (by omega), wC (14 + 1) j (by omega) (by omega), wC (14 + 2) j (by omega) (by omega), wC (14 + 3) j (by omega) (by omega), aC 14 j (by omega) (by omega) (by omega), aC (14 + 1) j (by omega) (by omega) (by omega), aC (14 + 2) j (by omega) (by omega) (by omega), aC (14 + 3) j (by omega) (by omega) (by omega)]
        exact q
      have h99 : tw_hk 99 K 0 nd2 ω := fun j j1 j2 => by
        have q := hk4 j j1 j2
        have E : ∀ z, z < 4 → ω (99 + z) j = ρ (104 + z) j := fun z hz => by rw [← hω, hP.2 j j2 z hz, tw_upd_off (by omega)]
        have E0 : ω 99 j = ρ 104 j := E 0 (by omega)
        rw [E0, E 1 (by omega), E 2 (by omega), E 3 (by omega)]
        exact q
      have hc14 : tw_iChars ω 14 := fun j hj => by
        obtain ⟨q, q1, q2⟩ := hA72 j hj
        refine ⟨q, q1, ?_⟩
        rw [wC 14 j (by omega) (by omega), aC 14 j (by omega) (by omega) hj]
        rw [← hα, hO4 72 j (by omega), tw_upd_off (by omega)] at q2
        exact q2
      exact ⟨rfl, tw_Inv_law hI hF w2 w17 hc14 w72 (Or.inr ⟨nd2, n80, (wC 13 4 (by omega) (by omega)).trans (by rw [← hα, hO2, tw_upd_off (by omega)]; exact s4), tw_tr.tree h14 h99 7 0 i5⟩)⟩
end tw_s69
