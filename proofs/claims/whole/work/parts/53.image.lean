/-! image, undo -/
section tw_s53
variable {L : Nat} {xs : Nat → Int32} {σ : tw_Mem} {x y w : Int32} {n r i c k h q a b e : Nat}
set_option maxHeartbeats 4000000 in
set_option maxRecDepth 100000 in
theorem tw_o_image {L : Nat} {xs : Nat → Int32} : tw_op L xs 175 258 [] := by
  intro σ hI
  obtain ⟨⟨n, r, hL⟩, hT, hPp, hPc, hLs, hIm, hC14, hC46, hC72⟩ := id hI
  have hLo := hL
  obtain ⟨⟨hn10, hr50⟩, ⟨hn6, hn89⟩, ⟨hr9, hw9, hr90⟩, hCa, hRo, hLa⟩ := hL
  have hn6 : σ 6 4 = nI n := hn6
  have hn89 : σ 89 0 = nI n := hn89
  have hr9 : σ 9 3 = nI r := hr9
  have hw9 : σ 9 4 = nI n := hw9
  have hr90 : σ 90 0 = nI r := hr90
  show tw_P L xs _ 175 0 [.ref 1] [] σ _
  refine tw_sg 4 (i1 := 4) (ls1 := [.ref 1]) (st1 := [.ref 6, .ref 38]) (σ1 := σ) rfl ?_
  refine tw_cl1 rfl (rfl) (by decide) (tw_e_cpLi hC14) ?_
  rintro _ τ1 ⟨rfl, hcp⟩
  show tw_P L xs _ 175 5 [.ref 1] [] τ1 _
  refine tw_sg 5 (i1 := 10) (ls1 := [.ref 1]) (st1 := [.ref 38]) (σ1 := (tw_upd τ1 1 9 (nI 1))) rfl ?_
  refine tw_cl0 59 rfl (rfl) (by decide) ?_
  show tw_P L xs _ 83 0 [.ref 38] [] (tw_upd τ1 1 9 (nI 1)) _
  refine tw_sg 2 (i1 := 2) (ls1 := [.ref 38]) (st1 := [.ref 41]) (σ1 := (tw_upd τ1 1 9 (nI 1))) rfl ?_
  refine tw_ra rfl ?_
  show tw_P L xs _ 175 11 [.ref 1] [.ref 41] (tw_upd τ1 1 9 (nI 1)) _
  refine tw_cl0 59 rfl (rfl) (by decide) ?_
  show tw_P L xs _ 17 0 [.ref 41] [] (tw_upd τ1 1 9 (nI 1)) _
  refine tw_sg 2 (i1 := 2) (ls1 := [.ref 41]) (st1 := [.int (τ1 41 3)]) (σ1 := (tw_upd τ1 1 9 (nI 1))) rfl ?_
  refine tw_ri rfl (rfl) ?_
  show tw_P L xs _ 175 12 [.ref 1] [.int (τ1 41 3)] (tw_upd τ1 1 9 (nI 1)) _
  refine tw_ri rfl (rfl) ?_
  refine ⟨_, rfl, ?_⟩
  show tw_P L xs _ 258 0 [.ref 88] [] (tw_upd τ1 1 9 (nI 1)) _
  refine tw_sg 5 (i1 := 5) (ls1 := [.ref 88]) (st1 := [.int (nI 0), .ref 88]) (σ1 := (tw_upd (tw_upd τ1 1 9 (nI 1)) 88 11 (nI 1))) rfl ?_
  refine tw_cl1 rfl (rfl) (by decide) (tw_e_cpDi (σ := (tw_upd (tw_upd τ1 1 9 (nI 1)) 88 11 (nI 1)))) ?_
  rintro _ ω ⟨rfl, hD⟩
  show tw_P L xs _ 258 6 [.ref 88] [] ω _
  refine tw_sg 3 (i1 := 9) (ls1 := [.ref 88]) (st1 := [.int (nI 0), .ref 90]) (σ1 := ω) rfl ?_
  refine tw_al (k := 90) (j := 0) (len := 2) rfl rfl rfl rfl (rfl) (by omega) (by decide) ?_
  refine tw_ri rfl (rfl) ?_
  have F : ∀ k j, ¬ (38 ≤ k ∧ k ≤ 69) → ¬ tw_fmU k j → ¬ (k = 1 ∧ j = 9) → ¬ (k = 88 ∧ j = 11) → ω k j = σ k j := fun k j g1 g2 g3 g4 => by rw [hD.2 k j (fun q => g2 q.2), tw_upd_off g4, tw_upd_off g3, hcp.2 k j g1]
  have e1 : ∀ k j, tw_fcl k j → ω (k + 32) j = σ k j := fun k j h => by have h0 := h; unfold tw_fcl at h0; rw [hD.2 _ _ (by unfold tw_fmU; omega), tw_upd_off (by omega), tw_upd_off (by omega)]; exact hcp.1 k j h
  have e2 : ∀ k j j2, tw_fmL k j j2 → ω k j2 = σ k j := fun k j j2 h => by have h0 := h; unfold tw_fmL at h0; rw [hD.1 k j j2 (by omega) h, tw_upd_off (by omega), tw_upd_off (by omega), hcp.2 _ _ (by omega)]
  have f19 : ω 1 9 = nI 1 := by rw [hD.2 1 9 (by unfold tw_fmU; omega), tw_upd_off (by omega), tw_upd_at]
  have f88 : ω 88 11 = nI 1 := by rw [hD.2 88 11 (by unfold tw_fmU; omega), tw_upd_at]
  refine ⟨?_, ?_⟩
  · rw [F 90 0 (by omega) (by unfold tw_fmU; omega) (by omega) (by omega), hr90]; show _ = some (Value.int (τ1 41 3)); rw [show τ1 41 3 = nI r from (hcp.1 9 3 (by unfold tw_fcl; omega)).trans hr9]
  · exact ⟨⟨n, r, hLo.cg (fun k j q => F k j (by unfold tw_fLoom tw_fCards tw_fRows tw_fLaw at q; omega) (by unfold tw_fLoom tw_fCards tw_fRows tw_fLaw at q; unfold tw_fmU; omega) (by unfold tw_fLoom tw_fCards tw_fRows tw_fLaw at q; omega) (by unfold tw_fLoom tw_fCards tw_fRows tw_fLaw at q; omega))⟩, hT.cg (fun k j q => F k j (by unfold tw_fTape at q; omega) (by unfold tw_fTape at q; unfold tw_fmU; omega) (by unfold tw_fTape at q; omega) (by unfold tw_fTape at q; omega)), hPp.cg (fun k j q => F k j (by unfold tw_fPaper at q; omega) (by unfold tw_fPaper at q; unfold tw_fmU; omega) (by unfold tw_fPaper at q; omega) (by unfold tw_fPaper at q; omega)), hPc.cg (fun k j q => F k j (by unfold tw_fPic at q; omega) (by unfold tw_fPic at q; unfold tw_fmU; omega) (by unfold tw_fPic at q; omega) (by unfold tw_fPic at q; omega)), hLs.cg (fun k j q => F k j (by unfold tw_fLists at q; omega) (by unfold tw_fLists at q; unfold tw_fmU; omega) (by unfold tw_fLists at q; omega) (by unfold tw_fLists at q; omega)), Or.inr ⟨f19, f88, n, r, hLo.mvi e1 e2⟩, hC14.cg (fun j _ => F _ _ (by omega) (by unfold tw_fmU; omega) (by omega) (by omega)), fun j hj => by rw [show ω 46 j = σ 14 j from e1 14 j (by unfold tw_fcl; omega)]; exact hC14 j hj, hC72.1.cg (fun j _ => F _ _ (by omega) (by unfold tw_fmU; omega) (by omega) (by omega)), hC72.2.1.cg (fun k j q => F k j (by unfold tw_fTw at q; omega) (by unfold tw_fTw at q; unfold tw_fmU; omega) (by unfold tw_fTw at q; omega) (by unfold tw_fTw at q; omega)), tw_iTw.mvi hC72.2.1 e2⟩
set_option maxHeartbeats 4000000 in
set_option maxRecDepth 100000 in
theorem tw_o_undo {L : Nat} {xs : Nat → Int32} : tw_op L xs 176 259 [] := by
  intro σ hI
  obtain ⟨⟨n, r, hL⟩, hT, hPp, hPc, hLs, hIm, hC14, hC46, hC72⟩ := id hI
  obtain ⟨⟨hn10, hr50⟩, ⟨hn6, hn89⟩, ⟨hr9, hw9, hr90⟩, hCa, hRo, hLa⟩ := hL
  have hn6 : σ 6 4 = nI n := hn6
  have hn89 : σ 89 0 = nI n := hn89
  have hr9 : σ 9 3 = nI r := hr9
  have hw9 : σ 9 4 = nI n := hw9
  have hr90 : σ 90 0 = nI r := hr90
  rcases hIm with ⟨i1, i2⟩ | ⟨i1, i2, n1, r1, hL1⟩
  · skip
    show tw_P L xs _ 176 0 [.ref 1] [] σ _
    refine tw_sgn 2 (i1 := 2) (ls0 := [.ref 1]) (st0 := [.int (σ 1 9)]) (σ0 := σ) (ls1 := [.ref 1]) (st1 := [.int (nI 0)]) (σ1 := σ) rfl (rfl) (by simp only [i1, tw_nadd, tw_nmul]) (rfl) ?_
    refine tw_bzF (c := .ne) rfl (by rw [tw_cne', tw_neq (by omega) (by omega)] <;> omega) ?_
    show tw_P L xs _ 176 3 [.ref 1] [] σ _
    refine tw_sg 1 (i1 := 4) (ls1 := [.ref 1]) (st1 := [.int (-3)]) (σ1 := σ) rfl ?_
    refine tw_ri rfl (rfl) ?_
    refine ⟨_, rfl, ?_⟩
    show tw_P L xs _ 259 0 [.ref 88] [] σ _
    refine tw_sgn 2 (i1 := 2) (ls0 := [.ref 88]) (st0 := [.int (σ 88 11)]) (σ0 := σ) (ls1 := [.ref 88]) (st1 := [.int (nI 0)]) (σ1 := σ) rfl (rfl) (by simp only [i2, tw_nadd, tw_nmul]) (rfl) ?_
    refine tw_bzF (c := .ne) rfl (by rw [tw_cne', tw_neq (by omega) (by omega)] <;> omega) ?_
    show tw_P L xs _ 259 3 [.ref 88] [] σ _
    refine tw_sg 1 (i1 := 4) (ls1 := [.ref 88]) (st1 := [.int (-3)]) (σ1 := σ) rfl ?_
    refine tw_ri rfl (rfl) ?_
    exact ⟨rfl, hI⟩
  · have hr41 : σ 41 3 = nI r1 := hL1.2.2.1.1
    have hr901 : σ 90 1 = nI r1 := hL1.2.2.1.2.2
    show tw_P L xs _ 176 0 [.ref 1] [] σ _
    refine tw_sgn 2 (i1 := 2) (ls0 := [.ref 1]) (st0 := [.int (σ 1 9)]) (σ0 := σ) (ls1 := [.ref 1]) (st1 := [.int (nI 1)]) (σ1 := σ) rfl (rfl) (by simp only [i1, tw_nadd, tw_nmul]) (rfl) ?_
    refine tw_bzT (c := .ne) rfl (by rw [tw_cne, tw_neq (by omega) (by omega)] <;> omega) ?_
    show tw_P L xs _ 176 5 [.ref 1] [] σ _
    refine tw_sg 4 (i1 := 9) (ls1 := [.ref 1]) (st1 := [.ref 38, .ref 6]) (σ1 := σ) rfl ?_
    refine tw_cl1 rfl (rfl) (by decide) (tw_e_cpLu hC46) ?_
    rintro _ τ1 ⟨rfl, hcp⟩
    show tw_P L xs _ 176 10 [.ref 1] [] τ1 _
    refine tw_sg 2 (i1 := 12) (ls1 := [.ref 1]) (st1 := [.ref 6]) (σ1 := τ1) rfl ?_
    refine tw_cl0 59 rfl (rfl) (by decide) ?_
    show tw_P L xs _ 83 0 [.ref 6] [] τ1 _
    refine tw_sg 2 (i1 := 2) (ls1 := [.ref 6]) (st1 := [.ref 9]) (σ1 := τ1) rfl ?_
    refine tw_ra rfl ?_
    show tw_P L xs _ 176 13 [.ref 1] [.ref 9] τ1 _
    refine tw_cl0 59 rfl (rfl) (by decide) ?_
    show tw_P L xs _ 17 0 [.ref 9] [] τ1 _
    refine tw_sg 2 (i1 := 2) (ls1 := [.ref 9]) (st1 := [.int (τ1 9 3)]) (σ1 := τ1) rfl ?_
    refine tw_ri rfl (rfl) ?_
    show tw_P L xs _ 176 14 [.ref 1] [.int (τ1 9 3)] τ1 _
    refine tw_ri rfl (rfl) ?_
    refine ⟨_, rfl, ?_⟩
    show tw_P L xs _ 259 0 [.ref 88] [] τ1 _
    refine tw_sgn 2 (i1 := 2) (ls0 := [.ref 88]) (st0 := [.int (τ1 88 11)]) (σ0 := τ1) (ls1 := [.ref 88]) (st1 := [.int (nI 1)]) (σ1 := τ1) rfl (rfl) (by simp only [((hcp.2 88 11 (by omega)).trans i2), tw_nadd, tw_nmul]) (rfl) ?_
    refine tw_bzT (c := .ne) rfl (by rw [tw_cne, tw_neq (by omega) (by omega)] <;> omega) ?_
    show tw_P L xs _ 259 5 [.ref 88] [] τ1 _
    refine tw_sg 2 (i1 := 7) (ls1 := [.ref 88]) (st1 := [.int (nI 1), .ref 88]) (σ1 := τ1) rfl ?_
    refine tw_cl1 rfl (rfl) (by decide) (tw_e_cpDu (σ := τ1)) ?_
    rintro _ ω ⟨rfl, hD⟩
    show tw_P L xs _ 259 8 [.ref 88] [] ω _
    refine tw_sg 3 (i1 := 11) (ls1 := [.ref 88]) (st1 := [.int (nI 0), .ref 90]) (σ1 := ω) rfl ?_
    refine tw_al (k := 90) (j := 0) (len := 2) rfl rfl rfl rfl (rfl) (by omega) (by decide) ?_
    refine tw_ri rfl (rfl) ?_
    have F : ∀ k j, ¬ (6 ≤ k ∧ k ≤ 37) → ¬ tw_fmLo k j → ω k j = σ k j := fun k j g1 g2 => by rw [hD.2 k j (fun q => g2 q.2), hcp.2 k j g1]
    have e1 : ∀ k j, tw_fcl k j → ω k j = σ (k + 32) j := fun k j h => by have h0 := h; unfold tw_fcl at h0; rw [hD.2 _ _ (by unfold tw_fmLo; omega)]; exact hcp.1 k j h
    have e2 : ∀ k j j2, tw_fmL k j j2 → ω k j = σ k j2 := fun k j j2 h => by have h0 := h; unfold tw_fmL at h0; rw [hD.1 k j j2 (by omega) h, hcp.2 _ _ (by omega)]
    refine ⟨?_, ?_⟩
    · rw [show ω 90 0 = σ 90 1 from e2 90 0 1 (by unfold tw_fmL; omega), hr901]; show _ = some (Value.int (τ1 9 3)); rw [show τ1 9 3 = nI r1 from (hcp.1 9 3 (by unfold tw_fcl; omega)).trans hr41]
    · exact ⟨⟨n1, r1, hL1.mvu e1 e2⟩, hT.cg (fun k j q => F k j (by unfold tw_fTape at q; omega) (by unfold tw_fTape at q; unfold tw_fmLo; omega)), hPp.cg (fun k j q => F k j (by unfold tw_fPaper at q; omega) (by unfold tw_fPaper at q; unfold tw_fmLo; omega)), hPc.cg (fun k j q => F k j (by unfold tw_fPic at q; omega) (by unfold tw_fPic at q; unfold tw_fmLo; omega)), hLs.cg (fun k j q => F k j (by unfold tw_fLists at q; omega) (by unfold tw_fLists at q; unfold tw_fmLo; omega)), Or.inr ⟨(F 1 9 (by omega) (by unfold tw_fmLo; omega)).trans i1, (F 88 11 (by omega) (by unfold tw_fmLo; omega)).trans i2, n1, r1, hL1.cg (fun k j q => F k j (by unfold tw_fLoom tw_fCards tw_fRows tw_fLaw at q; omega) (by unfold tw_fLoom tw_fCards tw_fRows tw_fLaw at q; unfold tw_fmLo; omega))⟩, fun j hj => by rw [show ω 14 j = σ 46 j from e1 14 j (by unfold tw_fcl; omega)]; exact hC46 j hj, hC46.cg (fun j _ => F _ _ (by omega) (by unfold tw_fmLo; omega)), hC72.1.cg (fun j _ => F _ _ (by omega) (by unfold tw_fmLo; omega)), tw_iTw.mvu hC72.2.2 e2, hC72.2.2.cg (fun k j q => F k j (by unfold tw_fTw at q; omega) (by unfold tw_fTw at q; unfold tw_fmLo; omega))⟩
end tw_s53
