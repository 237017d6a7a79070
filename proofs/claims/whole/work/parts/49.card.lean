/-! card, undoing -/
section tw_s49
variable {L : Nat} {xs : Nat → Int32} {σ : tw_Mem} {x y w : Int32} {n r i c k h q a b e : Nat}
set_option maxHeartbeats 4000000 in
set_option maxRecDepth 100000 in
theorem tw_o_card {L : Nat} {xs : Nat → Int32} (x : Int32) (y : Int32) : tw_op L xs 136 199 [.int x, .int y] := by
  intro σ hI
  obtain ⟨⟨n, r, hL⟩, hT, hPp, hPc, hLs, hIm, hC14, hC46, hC72⟩ := id hI
  obtain ⟨⟨hn10, hr50⟩, ⟨hn6, hn89⟩, ⟨hr9, hw9, hr90⟩, hCa, hRo, hLa⟩ := hL
  have hn6 : σ 6 4 = nI n := hn6
  have hn89 : σ 89 0 = nI n := hn89
  have hr9 : σ 9 3 = nI r := hr9
  have hw9 : σ 9 4 = nI n := hw9
  have hr90 : σ 90 0 = nI r := hr90
  rcases tw_within x n (by omega) with ⟨c, hc, rfl⟩ | hx
  · obtain ⟨g1, ⟨g2, q, g3, g4⟩, ⟨g5, q5, g7, g8⟩, g6⟩ := tw_iCards0.mp hCa c hc
    rcases tw_within y 9 (by decide) with ⟨e, he, rfl⟩ | hy
    · rcases (show e = 0 ∨ e = 1 ∨ e = 2 ∨ e = 3 ∨ e = 4 ∨ e = 5 ∨ e = 6 ∨ e = 7 ∨ e = 8 by omega) with rfl | rfl | rfl | rfl | rfl | rfl | rfl | rfl | rfl
      · skip
        show tw_P L xs _ 136 0 [.ref 1, .int (nI c), .int (nI 0), tw_U] [] σ _
        refine tw_sg 3 (i1 := 3) (ls1 := [.ref 1, .int (nI c), .int (nI 0), tw_U]) (st1 := [.int (nI c), .ref 6]) (σ1 := σ) rfl ?_
        refine tw_cl1 rfl (rfl) (by decide) (tw_e_cardAt1 hn6 hn10 hc) ?_
        rintro _ _ ⟨rfl, rfl⟩
        show tw_P L xs _ 136 4 [.ref 1, .int (nI c), .int (nI 0), tw_U] [.ref (2 * c + 18)] σ _
        refine tw_sg 4 (i1 := 10) (ls1 := [.ref 1, .int (nI c), .int (nI 0), .ref (2 * c + 18)]) (st1 := [.int (nI 0)]) (σ1 := σ) rfl ?_
        refine tw_sw (j := 0) rfl (rfl) (by decide) (by decide) rfl ?_
        show tw_P L xs _ 136 11 [.ref 1, .int (nI c), .int (nI 0), .ref (2 * c + 18)] [] σ _
        refine tw_sg 2 (i1 := 13) (ls1 := [.ref 1, .int (nI c), .int (nI 0), .ref (2 * c + 18)]) (st1 := [.int (nI 0), .ref (2 * c + 18)]) (σ1 := σ) rfl ?_
        refine tw_cl1 rfl (tw_inv_ok (y := 1) (b := 1) (st := [.int (nI 0), .ref (2 * c + 18)]) (k := (2 * c + 18)) (r := []) rfl rfl (tw_cdO (by omega))) (by decide) (tw_e_colourIn1 (h := 0) (by omega) (by omega)) ?_
        rintro _ _ ⟨rfl, rfl⟩
        show tw_P L xs _ 136 14 [.ref 1, .int (nI c), .int (nI 0), .ref (2 * c + 18)] [.int (σ (2 * c + 19) 0)] σ _
        refine tw_ri rfl (rfl) ?_
        refine ⟨_, rfl, ?_⟩
        show tw_P L xs _ 199 0 [.ref 88, .int (nI c), .int (nI 0)] [] σ _
        refine tw_sg 2 (i1 := 2) (ls1 := [.ref 88, .int (nI c), .int (nI 0)]) (st1 := [.int (nI c), .ref 88]) (σ1 := σ) rfl ?_
        refine tw_cl1 rfl (rfl) (by decide) (tw_e_isCard1 hn89 hn10 hc) ?_
        rintro _ _ ⟨rfl, rfl⟩
        show tw_P L xs _ 199 3 [.ref 88, .int (nI c), .int (nI 0)] [.int (nI 1)] σ _
        refine tw_bzF (c := .eq) rfl (by rw [tw_ceq', tw_neq (by omega) (by omega)] <;> omega) ?_
        show tw_P L xs _ 199 4 [.ref 88, .int (nI c), .int (nI 0)] [] σ _
        refine tw_sg 3 (i1 := 7) (ls1 := [.ref 88, .int (nI c), .int (nI 0)]) (st1 := [.int (nI 8), .int (nI 0), .int (nI 0)]) (σ1 := σ) rfl ?_
        refine tw_cl1 rfl (rfl) (by decide) (tw_e_in1 (by decide) (by decide)) ?_
        rintro _ _ ⟨rfl, rfl⟩
        show tw_P L xs _ 199 8 [.ref 88, .int (nI c), .int (nI 0)] [.int (nI 1)] σ _
        refine tw_bzT (c := .ne) rfl (by rw [tw_cne, tw_neq (by omega) (by omega)] <;> omega) ?_
        show tw_P L xs _ 199 11 [.ref 88, .int (nI c), .int (nI 0)] [] σ _
        refine tw_sg 1 (i1 := 12) (ls1 := [.ref 88, .int (nI c), .int (nI 0)]) (st1 := [.int (nI 0)]) (σ1 := σ) rfl ?_
        refine tw_swoz (lo := 4) (j := 0) rfl (rfl) (by omega) (by decide) ?_
        show tw_P L xs _ 199 43 [.ref 88, .int (nI c), .int (nI 0)] [] σ _
        refine tw_sgn 7 (i1 := 50) (ls0 := [.ref 88, .int (nI c), .int (nI 0)]) (st0 := [.int ((nI 4 * nI c) + nI 0), .ref 91]) (σ0 := σ) (ls1 := [.ref 88, .int (nI c), .int (nI 0)]) (st1 := [.int (nI ((4 * c) + 0)), .ref 91]) (σ1 := σ) rfl (rfl) (by simp only [tw_nadd, tw_nmul]) (rfl) ?_
        refine tw_al (k := 91) (j := ((4 * c) + 0)) (len := 80) rfl rfl rfl rfl (rfl) (by omega) (by decide) ?_
        refine tw_ri rfl (rfl) ?_
        exact ⟨by rw [(g1 0 (by omega)).1], hI⟩
      · skip
        show tw_P L xs _ 136 0 [.ref 1, .int (nI c), .int (nI 1), tw_U] [] σ _
        refine tw_sg 3 (i1 := 3) (ls1 := [.ref 1, .int (nI c), .int (nI 1), tw_U]) (st1 := [.int (nI c), .ref 6]) (σ1 := σ) rfl ?_
        refine tw_cl1 rfl (rfl) (by decide) (tw_e_cardAt1 hn6 hn10 hc) ?_
        rintro _ _ ⟨rfl, rfl⟩
        show tw_P L xs _ 136 4 [.ref 1, .int (nI c), .int (nI 1), tw_U] [.ref (2 * c + 18)] σ _
        refine tw_sg 4 (i1 := 10) (ls1 := [.ref 1, .int (nI c), .int (nI 1), .ref (2 * c + 18)]) (st1 := [.int (nI 1)]) (σ1 := σ) rfl ?_
        refine tw_sw (j := 1) rfl (rfl) (by decide) (by decide) rfl ?_
        show tw_P L xs _ 136 11 [.ref 1, .int (nI c), .int (nI 1), .ref (2 * c + 18)] [] σ _
        refine tw_sg 2 (i1 := 13) (ls1 := [.ref 1, .int (nI c), .int (nI 1), .ref (2 * c + 18)]) (st1 := [.int (nI 1), .ref (2 * c + 18)]) (σ1 := σ) rfl ?_
        refine tw_cl1 rfl (tw_inv_ok (y := 1) (b := 1) (st := [.int (nI 1), .ref (2 * c + 18)]) (k := (2 * c + 18)) (r := []) rfl rfl (tw_cdO (by omega))) (by decide) (tw_e_colourIn1 (h := 1) (by omega) (by omega)) ?_
        rintro _ _ ⟨rfl, rfl⟩
        show tw_P L xs _ 136 14 [.ref 1, .int (nI c), .int (nI 1), .ref (2 * c + 18)] [.int (σ (2 * c + 19) 1)] σ _
        refine tw_ri rfl (rfl) ?_
        refine ⟨_, rfl, ?_⟩
        show tw_P L xs _ 199 0 [.ref 88, .int (nI c), .int (nI 1)] [] σ _
        refine tw_sg 2 (i1 := 2) (ls1 := [.ref 88, .int (nI c), .int (nI 1)]) (st1 := [.int (nI c), .ref 88]) (σ1 := σ) rfl ?_
        refine tw_cl1 rfl (rfl) (by decide) (tw_e_isCard1 hn89 hn10 hc) ?_
        rintro _ _ ⟨rfl, rfl⟩
        show tw_P L xs _ 199 3 [.ref 88, .int (nI c), .int (nI 1)] [.int (nI 1)] σ _
        refine tw_bzF (c := .eq) rfl (by rw [tw_ceq', tw_neq (by omega) (by omega)] <;> omega) ?_
        show tw_P L xs _ 199 4 [.ref 88, .int (nI c), .int (nI 1)] [] σ _
        refine tw_sg 3 (i1 := 7) (ls1 := [.ref 88, .int (nI c), .int (nI 1)]) (st1 := [.int (nI 8), .int (nI 0), .int (nI 1)]) (σ1 := σ) rfl ?_
        refine tw_cl1 rfl (rfl) (by decide) (tw_e_in1 (by decide) (by decide)) ?_
        rintro _ _ ⟨rfl, rfl⟩
        show tw_P L xs _ 199 8 [.ref 88, .int (nI c), .int (nI 1)] [.int (nI 1)] σ _
        refine tw_bzT (c := .ne) rfl (by rw [tw_cne, tw_neq (by omega) (by omega)] <;> omega) ?_
        show tw_P L xs _ 199 11 [.ref 88, .int (nI c), .int (nI 1)] [] σ _
        refine tw_sg 1 (i1 := 12) (ls1 := [.ref 88, .int (nI c), .int (nI 1)]) (st1 := [.int (nI 1)]) (σ1 := σ) rfl ?_
        refine tw_swoz (lo := 4) (j := 1) rfl (rfl) (by omega) (by decide) ?_
        show tw_P L xs _ 199 43 [.ref 88, .int (nI c), .int (nI 1)] [] σ _
        refine tw_sgn 7 (i1 := 50) (ls0 := [.ref 88, .int (nI c), .int (nI 1)]) (st0 := [.int ((nI 4 * nI c) + nI 1), .ref 91]) (σ0 := σ) (ls1 := [.ref 88, .int (nI c), .int (nI 1)]) (st1 := [.int (nI ((4 * c) + 1)), .ref 91]) (σ1 := σ) rfl (rfl) (by simp only [tw_nadd, tw_nmul]) (rfl) ?_
        refine tw_al (k := 91) (j := ((4 * c) + 1)) (len := 80) rfl rfl rfl rfl (rfl) (by omega) (by decide) ?_
        refine tw_ri rfl (rfl) ?_
        exact ⟨by rw [(g1 1 (by omega)).1], hI⟩
      · skip
        show tw_P L xs _ 136 0 [.ref 1, .int (nI c), .int (nI 2), tw_U] [] σ _
        refine tw_sg 3 (i1 := 3) (ls1 := [.ref 1, .int (nI c), .int (nI 2), tw_U]) (st1 := [.int (nI c), .ref 6]) (σ1 := σ) rfl ?_
        refine tw_cl1 rfl (rfl) (by decide) (tw_e_cardAt1 hn6 hn10 hc) ?_
        rintro _ _ ⟨rfl, rfl⟩
        show tw_P L xs _ 136 4 [.ref 1, .int (nI c), .int (nI 2), tw_U] [.ref (2 * c + 18)] σ _
        refine tw_sg 4 (i1 := 10) (ls1 := [.ref 1, .int (nI c), .int (nI 2), .ref (2 * c + 18)]) (st1 := [.int (nI 2)]) (σ1 := σ) rfl ?_
        refine tw_sw (j := 2) rfl (rfl) (by decide) (by decide) rfl ?_
        show tw_P L xs _ 136 11 [.ref 1, .int (nI c), .int (nI 2), .ref (2 * c + 18)] [] σ _
        refine tw_sg 2 (i1 := 13) (ls1 := [.ref 1, .int (nI c), .int (nI 2), .ref (2 * c + 18)]) (st1 := [.int (nI 2), .ref (2 * c + 18)]) (σ1 := σ) rfl ?_
        refine tw_cl1 rfl (tw_inv_ok (y := 1) (b := 1) (st := [.int (nI 2), .ref (2 * c + 18)]) (k := (2 * c + 18)) (r := []) rfl rfl (tw_cdO (by omega))) (by decide) (tw_e_colourIn1 (h := 2) (by omega) (by omega)) ?_
        rintro _ _ ⟨rfl, rfl⟩
        show tw_P L xs _ 136 14 [.ref 1, .int (nI c), .int (nI 2), .ref (2 * c + 18)] [.int (σ (2 * c + 19) 2)] σ _
        refine tw_ri rfl (rfl) ?_
        refine ⟨_, rfl, ?_⟩
        show tw_P L xs _ 199 0 [.ref 88, .int (nI c), .int (nI 2)] [] σ _
        refine tw_sg 2 (i1 := 2) (ls1 := [.ref 88, .int (nI c), .int (nI 2)]) (st1 := [.int (nI c), .ref 88]) (σ1 := σ) rfl ?_
        refine tw_cl1 rfl (rfl) (by decide) (tw_e_isCard1 hn89 hn10 hc) ?_
        rintro _ _ ⟨rfl, rfl⟩
        show tw_P L xs _ 199 3 [.ref 88, .int (nI c), .int (nI 2)] [.int (nI 1)] σ _
        refine tw_bzF (c := .eq) rfl (by rw [tw_ceq', tw_neq (by omega) (by omega)] <;> omega) ?_
        show tw_P L xs _ 199 4 [.ref 88, .int (nI c), .int (nI 2)] [] σ _
        refine tw_sg 3 (i1 := 7) (ls1 := [.ref 88, .int (nI c), .int (nI 2)]) (st1 := [.int (nI 8), .int (nI 0), .int (nI 2)]) (σ1 := σ) rfl ?_
        refine tw_cl1 rfl (rfl) (by decide) (tw_e_in1 (by decide) (by decide)) ?_
        rintro _ _ ⟨rfl, rfl⟩
        show tw_P L xs _ 199 8 [.ref 88, .int (nI c), .int (nI 2)] [.int (nI 1)] σ _
        refine tw_bzT (c := .ne) rfl (by rw [tw_cne, tw_neq (by omega) (by omega)] <;> omega) ?_
        show tw_P L xs _ 199 11 [.ref 88, .int (nI c), .int (nI 2)] [] σ _
        refine tw_sg 1 (i1 := 12) (ls1 := [.ref 88, .int (nI c), .int (nI 2)]) (st1 := [.int (nI 2)]) (σ1 := σ) rfl ?_
        refine tw_swoz (lo := 4) (j := 2) rfl (rfl) (by omega) (by decide) ?_
        show tw_P L xs _ 199 43 [.ref 88, .int (nI c), .int (nI 2)] [] σ _
        refine tw_sgn 7 (i1 := 50) (ls0 := [.ref 88, .int (nI c), .int (nI 2)]) (st0 := [.int ((nI 4 * nI c) + nI 2), .ref 91]) (σ0 := σ) (ls1 := [.ref 88, .int (nI c), .int (nI 2)]) (st1 := [.int (nI ((4 * c) + 2)), .ref 91]) (σ1 := σ) rfl (rfl) (by simp only [tw_nadd, tw_nmul]) (rfl) ?_
        refine tw_al (k := 91) (j := ((4 * c) + 2)) (len := 80) rfl rfl rfl rfl (rfl) (by omega) (by decide) ?_
        refine tw_ri rfl (rfl) ?_
        exact ⟨by rw [(g1 2 (by omega)).1], hI⟩
      · skip
        show tw_P L xs _ 136 0 [.ref 1, .int (nI c), .int (nI 3), tw_U] [] σ _
        refine tw_sg 3 (i1 := 3) (ls1 := [.ref 1, .int (nI c), .int (nI 3), tw_U]) (st1 := [.int (nI c), .ref 6]) (σ1 := σ) rfl ?_
        refine tw_cl1 rfl (rfl) (by decide) (tw_e_cardAt1 hn6 hn10 hc) ?_
        rintro _ _ ⟨rfl, rfl⟩
        show tw_P L xs _ 136 4 [.ref 1, .int (nI c), .int (nI 3), tw_U] [.ref (2 * c + 18)] σ _
        refine tw_sg 4 (i1 := 10) (ls1 := [.ref 1, .int (nI c), .int (nI 3), .ref (2 * c + 18)]) (st1 := [.int (nI 3)]) (σ1 := σ) rfl ?_
        refine tw_sw (j := 3) rfl (rfl) (by decide) (by decide) rfl ?_
        show tw_P L xs _ 136 11 [.ref 1, .int (nI c), .int (nI 3), .ref (2 * c + 18)] [] σ _
        refine tw_sg 2 (i1 := 13) (ls1 := [.ref 1, .int (nI c), .int (nI 3), .ref (2 * c + 18)]) (st1 := [.int (nI 3), .ref (2 * c + 18)]) (σ1 := σ) rfl ?_
        refine tw_cl1 rfl (tw_inv_ok (y := 1) (b := 1) (st := [.int (nI 3), .ref (2 * c + 18)]) (k := (2 * c + 18)) (r := []) rfl rfl (tw_cdO (by omega))) (by decide) (tw_e_colourIn1 (h := 3) (by omega) (by omega)) ?_
        rintro _ _ ⟨rfl, rfl⟩
        show tw_P L xs _ 136 14 [.ref 1, .int (nI c), .int (nI 3), .ref (2 * c + 18)] [.int (σ (2 * c + 19) 3)] σ _
        refine tw_ri rfl (rfl) ?_
        refine ⟨_, rfl, ?_⟩
        show tw_P L xs _ 199 0 [.ref 88, .int (nI c), .int (nI 3)] [] σ _
        refine tw_sg 2 (i1 := 2) (ls1 := [.ref 88, .int (nI c), .int (nI 3)]) (st1 := [.int (nI c), .ref 88]) (σ1 := σ) rfl ?_
        refine tw_cl1 rfl (rfl) (by decide) (tw_e_isCard1 hn89 hn10 hc) ?_
        rintro _ _ ⟨rfl, rfl⟩
        show tw_P L xs _ 199 3 [.ref 88, .int (nI c), .int (nI 3)] [.int (nI 1)] σ _
        refine tw_bzF (c := .eq) rfl (by rw [tw_ceq', tw_neq (by omega) (by omega)] <;> omega) ?_
        show tw_P L xs _ 199 4 [.ref 88, .int (nI c), .int (nI 3)] [] σ _
        refine tw_sg 3 (i1 := 7) (ls1 := [.ref 88, .int (nI c), .int (nI 3)]) (st1 := [.int (nI 8), .int (nI 0), .int (nI 3)]) (σ1 := σ) rfl ?_
        refine tw_cl1 rfl (rfl) (by decide) (tw_e_in1 (by decide) (by decide)) ?_
        rintro _ _ ⟨rfl, rfl⟩
        show tw_P L xs _ 199 8 [.ref 88, .int (nI c), .int (nI 3)] [.int (nI 1)] σ _
        refine tw_bzT (c := .ne) rfl (by rw [tw_cne, tw_neq (by omega) (by omega)] <;> omega) ?_
        show tw_P L xs _ 199 11 [.ref 88, .int (nI c), .int (nI 3)] [] σ _
        refine tw_sg 1 (i1 := 12) (ls1 := [.ref 88, .int (nI c), .int (nI 3)]) (st1 := [.int (nI 3)]) (σ1 := σ) rfl ?_
        refine tw_swoz (lo := 4) (j := 3) rfl (rfl) (by omega) (by decide) ?_
        show tw_P L xs _ 199 43 [.ref 88, .int (nI c), .int (nI 3)] [] σ _
        refine tw_sgn 7 (i1 := 50) (ls0 := [.ref 88, .int (nI c), .int (nI 3)]) (st0 := [.int ((nI 4 * nI c) + nI 3), .ref 91]) (σ0 := σ) (ls1 := [.ref 88, .int (nI c), .int (nI 3)]) (st1 := [.int (nI ((4 * c) + 3)), .ref 91]) (σ1 := σ) rfl (rfl) (by simp only [tw_nadd, tw_nmul]) (rfl) ?_
        refine tw_al (k := 91) (j := ((4 * c) + 3)) (len := 80) rfl rfl rfl rfl (rfl) (by omega) (by decide) ?_
        refine tw_ri rfl (rfl) ?_
        exact ⟨by rw [(g1 3 (by omega)).1], hI⟩
      · skip
        show tw_P L xs _ 136 0 [.ref 1, .int (nI c), .int (nI 4), tw_U] [] σ _
        refine tw_sg 3 (i1 := 3) (ls1 := [.ref 1, .int (nI c), .int (nI 4), tw_U]) (st1 := [.int (nI c), .ref 6]) (σ1 := σ) rfl ?_
        refine tw_cl1 rfl (rfl) (by decide) (tw_e_cardAt1 hn6 hn10 hc) ?_
        rintro _ _ ⟨rfl, rfl⟩
        show tw_P L xs _ 136 4 [.ref 1, .int (nI c), .int (nI 4), tw_U] [.ref (2 * c + 18)] σ _
        refine tw_sg 4 (i1 := 10) (ls1 := [.ref 1, .int (nI c), .int (nI 4), .ref (2 * c + 18)]) (st1 := [.int (nI 4)]) (σ1 := σ) rfl ?_
        refine tw_sw (j := 4) rfl (rfl) (by decide) (by decide) rfl ?_
        show tw_P L xs _ 136 15 [.ref 1, .int (nI c), .int (nI 4), .ref (2 * c + 18)] [] σ _
        refine tw_sg 1 (i1 := 16) (ls1 := [.ref 1, .int (nI c), .int (nI 4), .ref (2 * c + 18)]) (st1 := [.ref (2 * c + 18)]) (σ1 := σ) rfl ?_
        refine tw_cl0 59 rfl (tw_inv_ok (y := 3) (b := 0) (st := [.ref (2 * c + 18)]) (k := (2 * c + 18)) (r := []) rfl rfl (tw_cdO (by omega))) (by decide) ?_
        show tw_P L xs _ 3 0 [.ref (2 * c + 18)] [] σ _
        refine tw_sg 1 (i1 := 1) (ls1 := [.ref (2 * c + 18)]) (st1 := [.ref (2 * c + 18)]) (σ1 := σ) rfl ?_
        refine tw_gf rfl (tw_cdO (by omega)) (tw_cdB (by omega) (by decide)) (v := .int (σ (2 * c + 18) 1)) (tw_cdV1 (by omega)) ?_
        refine tw_ri rfl (rfl) ?_
        show tw_P L xs _ 136 17 [.ref 1, .int (nI c), .int (nI 4), .ref (2 * c + 18)] [.int (σ (2 * c + 18) 1)] σ _
        refine tw_ri rfl (rfl) ?_
        refine ⟨_, rfl, ?_⟩
        show tw_P L xs _ 199 0 [.ref 88, .int (nI c), .int (nI 4)] [] σ _
        refine tw_sg 2 (i1 := 2) (ls1 := [.ref 88, .int (nI c), .int (nI 4)]) (st1 := [.int (nI c), .ref 88]) (σ1 := σ) rfl ?_
        refine tw_cl1 rfl (rfl) (by decide) (tw_e_isCard1 hn89 hn10 hc) ?_
        rintro _ _ ⟨rfl, rfl⟩
        show tw_P L xs _ 199 3 [.ref 88, .int (nI c), .int (nI 4)] [.int (nI 1)] σ _
        refine tw_bzF (c := .eq) rfl (by rw [tw_ceq', tw_neq (by omega) (by omega)] <;> omega) ?_
        show tw_P L xs _ 199 4 [.ref 88, .int (nI c), .int (nI 4)] [] σ _
        refine tw_sg 3 (i1 := 7) (ls1 := [.ref 88, .int (nI c), .int (nI 4)]) (st1 := [.int (nI 8), .int (nI 0), .int (nI 4)]) (σ1 := σ) rfl ?_
        refine tw_cl1 rfl (rfl) (by decide) (tw_e_in1 (by decide) (by decide)) ?_
        rintro _ _ ⟨rfl, rfl⟩
        show tw_P L xs _ 199 8 [.ref 88, .int (nI c), .int (nI 4)] [.int (nI 1)] σ _
        refine tw_bzT (c := .ne) rfl (by rw [tw_cne, tw_neq (by omega) (by omega)] <;> omega) ?_
        show tw_P L xs _ 199 11 [.ref 88, .int (nI c), .int (nI 4)] [] σ _
        refine tw_sg 1 (i1 := 12) (ls1 := [.ref 88, .int (nI c), .int (nI 4)]) (st1 := [.int (nI 4)]) (σ1 := σ) rfl ?_
        refine tw_swz (lo := 4) (j := 4) rfl (rfl) (by decide) (by decide) (by decide) rfl ?_
        show tw_P L xs _ 199 13 [.ref 88, .int (nI c), .int (nI 4)] [] σ _
        refine tw_sg 3 (i1 := 16) (ls1 := [.ref 88, .int (nI c), .int (nI 4)]) (st1 := [.int (nI c), .ref 92]) (σ1 := σ) rfl ?_
        refine tw_al (k := 92) (j := c) (len := 20) rfl rfl rfl rfl (rfl) (by omega) (by decide) ?_
        refine tw_ri rfl (rfl) ?_
        exact ⟨by rw [g2], hI⟩
      · skip
        show tw_P L xs _ 136 0 [.ref 1, .int (nI c), .int (nI 5), tw_U] [] σ _
        refine tw_sg 3 (i1 := 3) (ls1 := [.ref 1, .int (nI c), .int (nI 5), tw_U]) (st1 := [.int (nI c), .ref 6]) (σ1 := σ) rfl ?_
        refine tw_cl1 rfl (rfl) (by decide) (tw_e_cardAt1 hn6 hn10 hc) ?_
        rintro _ _ ⟨rfl, rfl⟩
        show tw_P L xs _ 136 4 [.ref 1, .int (nI c), .int (nI 5), tw_U] [.ref (2 * c + 18)] σ _
        refine tw_sg 4 (i1 := 10) (ls1 := [.ref 1, .int (nI c), .int (nI 5), .ref (2 * c + 18)]) (st1 := [.int (nI 5)]) (σ1 := σ) rfl ?_
        refine tw_sw (j := 5) rfl (rfl) (by decide) (by decide) rfl ?_
        show tw_P L xs _ 136 18 [.ref 1, .int (nI c), .int (nI 5), .ref (2 * c + 18)] [] σ _
        refine tw_sg 1 (i1 := 19) (ls1 := [.ref 1, .int (nI c), .int (nI 5), .ref (2 * c + 18)]) (st1 := [.ref (2 * c + 18)]) (σ1 := σ) rfl ?_
        refine tw_cl0 59 rfl (tw_inv_ok (y := 5) (b := 0) (st := [.ref (2 * c + 18)]) (k := (2 * c + 18)) (r := []) rfl rfl (tw_cdO (by omega))) (by decide) ?_
        show tw_P L xs _ 5 0 [.ref (2 * c + 18)] [] σ _
        refine tw_sg 1 (i1 := 1) (ls1 := [.ref (2 * c + 18)]) (st1 := [.ref (2 * c + 18)]) (σ1 := σ) rfl ?_
        refine tw_gf rfl (tw_cdO (by omega)) (tw_cdB (by omega) (by decide)) (v := .int (σ (2 * c + 18) 2)) (tw_cdV2 (by omega)) ?_
        refine tw_ri rfl (rfl) ?_
        show tw_P L xs _ 136 20 [.ref 1, .int (nI c), .int (nI 5), .ref (2 * c + 18)] [.int (σ (2 * c + 18) 2)] σ _
        refine tw_ri rfl (rfl) ?_
        refine ⟨_, rfl, ?_⟩
        show tw_P L xs _ 199 0 [.ref 88, .int (nI c), .int (nI 5)] [] σ _
        refine tw_sg 2 (i1 := 2) (ls1 := [.ref 88, .int (nI c), .int (nI 5)]) (st1 := [.int (nI c), .ref 88]) (σ1 := σ) rfl ?_
        refine tw_cl1 rfl (rfl) (by decide) (tw_e_isCard1 hn89 hn10 hc) ?_
        rintro _ _ ⟨rfl, rfl⟩
        show tw_P L xs _ 199 3 [.ref 88, .int (nI c), .int (nI 5)] [.int (nI 1)] σ _
        refine tw_bzF (c := .eq) rfl (by rw [tw_ceq', tw_neq (by omega) (by omega)] <;> omega) ?_
        show tw_P L xs _ 199 4 [.ref 88, .int (nI c), .int (nI 5)] [] σ _
        refine tw_sg 3 (i1 := 7) (ls1 := [.ref 88, .int (nI c), .int (nI 5)]) (st1 := [.int (nI 8), .int (nI 0), .int (nI 5)]) (σ1 := σ) rfl ?_
        refine tw_cl1 rfl (rfl) (by decide) (tw_e_in1 (by decide) (by decide)) ?_
        rintro _ _ ⟨rfl, rfl⟩
        show tw_P L xs _ 199 8 [.ref 88, .int (nI c), .int (nI 5)] [.int (nI 1)] σ _
        refine tw_bzT (c := .ne) rfl (by rw [tw_cne, tw_neq (by omega) (by omega)] <;> omega) ?_
        show tw_P L xs _ 199 11 [.ref 88, .int (nI c), .int (nI 5)] [] σ _
        refine tw_sg 1 (i1 := 12) (ls1 := [.ref 88, .int (nI c), .int (nI 5)]) (st1 := [.int (nI 5)]) (σ1 := σ) rfl ?_
        refine tw_swz (lo := 4) (j := 5) rfl (rfl) (by decide) (by decide) (by decide) rfl ?_
        show tw_P L xs _ 199 18 [.ref 88, .int (nI c), .int (nI 5)] [] σ _
        refine tw_sg 3 (i1 := 21) (ls1 := [.ref 88, .int (nI c), .int (nI 5)]) (st1 := [.int (nI c), .ref 93]) (σ1 := σ) rfl ?_
        refine tw_al (k := 93) (j := c) (len := 20) rfl rfl rfl rfl (rfl) (by omega) (by decide) ?_
        refine tw_ri rfl (rfl) ?_
        exact ⟨by rw [g5], hI⟩
      · skip
        show tw_P L xs _ 136 0 [.ref 1, .int (nI c), .int (nI 6), tw_U] [] σ _
        refine tw_sg 3 (i1 := 3) (ls1 := [.ref 1, .int (nI c), .int (nI 6), tw_U]) (st1 := [.int (nI c), .ref 6]) (σ1 := σ) rfl ?_
        refine tw_cl1 rfl (rfl) (by decide) (tw_e_cardAt1 hn6 hn10 hc) ?_
        rintro _ _ ⟨rfl, rfl⟩
        show tw_P L xs _ 136 4 [.ref 1, .int (nI c), .int (nI 6), tw_U] [.ref (2 * c + 18)] σ _
        refine tw_sg 4 (i1 := 10) (ls1 := [.ref 1, .int (nI c), .int (nI 6), .ref (2 * c + 18)]) (st1 := [.int (nI 6)]) (σ1 := σ) rfl ?_
        refine tw_sw (j := 6) rfl (rfl) (by decide) (by decide) rfl ?_
        show tw_P L xs _ 136 21 [.ref 1, .int (nI c), .int (nI 6), .ref (2 * c + 18)] [] σ _
        refine tw_sg 1 (i1 := 22) (ls1 := [.ref 1, .int (nI c), .int (nI 6), .ref (2 * c + 18)]) (st1 := [.ref (2 * c + 18)]) (σ1 := σ) rfl ?_
        refine tw_cl0 59 rfl (tw_inv_ok (y := 7) (b := 0) (st := [.ref (2 * c + 18)]) (k := (2 * c + 18)) (r := []) rfl rfl (tw_cdO (by omega))) (by decide) ?_
        show tw_P L xs _ 7 0 [.ref (2 * c + 18)] [] σ _
        refine tw_sg 1 (i1 := 1) (ls1 := [.ref (2 * c + 18)]) (st1 := [.ref (2 * c + 18)]) (σ1 := σ) rfl ?_
        refine tw_gf rfl (tw_cdO (by omega)) (tw_cdB (by omega) (by decide)) (v := .int (σ (2 * c + 18) 3)) (tw_cdV3 (by omega)) ?_
        refine tw_ri rfl (rfl) ?_
        show tw_P L xs _ 136 23 [.ref 1, .int (nI c), .int (nI 6), .ref (2 * c + 18)] [.int (σ (2 * c + 18) 3)] σ _
        refine tw_sg 2 (i1 := 25) (ls1 := [.ref 1, .int (nI c), .int (nI 6), .ref (2 * c + 18)]) (st1 := [.int ((σ (2 * c + 18) 3) + nI 100)]) (σ1 := σ) rfl ?_
        refine tw_ri rfl (rfl) ?_
        refine ⟨_, rfl, ?_⟩
        show tw_P L xs _ 199 0 [.ref 88, .int (nI c), .int (nI 6)] [] σ _
        refine tw_sg 2 (i1 := 2) (ls1 := [.ref 88, .int (nI c), .int (nI 6)]) (st1 := [.int (nI c), .ref 88]) (σ1 := σ) rfl ?_
        refine tw_cl1 rfl (rfl) (by decide) (tw_e_isCard1 hn89 hn10 hc) ?_
        rintro _ _ ⟨rfl, rfl⟩
        show tw_P L xs _ 199 3 [.ref 88, .int (nI c), .int (nI 6)] [.int (nI 1)] σ _
        refine tw_bzF (c := .eq) rfl (by rw [tw_ceq', tw_neq (by omega) (by omega)] <;> omega) ?_
        show tw_P L xs _ 199 4 [.ref 88, .int (nI c), .int (nI 6)] [] σ _
        refine tw_sg 3 (i1 := 7) (ls1 := [.ref 88, .int (nI c), .int (nI 6)]) (st1 := [.int (nI 8), .int (nI 0), .int (nI 6)]) (σ1 := σ) rfl ?_
        refine tw_cl1 rfl (rfl) (by decide) (tw_e_in1 (by decide) (by decide)) ?_
        rintro _ _ ⟨rfl, rfl⟩
        show tw_P L xs _ 199 8 [.ref 88, .int (nI c), .int (nI 6)] [.int (nI 1)] σ _
        refine tw_bzT (c := .ne) rfl (by rw [tw_cne, tw_neq (by omega) (by omega)] <;> omega) ?_
        show tw_P L xs _ 199 11 [.ref 88, .int (nI c), .int (nI 6)] [] σ _
        refine tw_sg 1 (i1 := 12) (ls1 := [.ref 88, .int (nI c), .int (nI 6)]) (st1 := [.int (nI 6)]) (σ1 := σ) rfl ?_
        refine tw_swz (lo := 4) (j := 6) rfl (rfl) (by decide) (by decide) (by decide) rfl ?_
        show tw_P L xs _ 199 23 [.ref 88, .int (nI c), .int (nI 6)] [] σ _
        refine tw_sg 3 (i1 := 26) (ls1 := [.ref 88, .int (nI c), .int (nI 6)]) (st1 := [.int (nI c), .ref 94]) (σ1 := σ) rfl ?_
        refine tw_al (k := 94) (j := c) (len := 20) rfl rfl rfl rfl (rfl) (by omega) (by decide) ?_
        refine tw_sg 2 (i1 := 29) (ls1 := [.ref 88, .int (nI c), .int (nI 6)]) (st1 := [.int ((σ 94 c) + nI 100)]) (σ1 := σ) rfl ?_
        refine tw_ri rfl (rfl) ?_
        exact ⟨by rw [g6], hI⟩
      · skip
        show tw_P L xs _ 136 0 [.ref 1, .int (nI c), .int (nI 7), tw_U] [] σ _
        refine tw_sg 3 (i1 := 3) (ls1 := [.ref 1, .int (nI c), .int (nI 7), tw_U]) (st1 := [.int (nI c), .ref 6]) (σ1 := σ) rfl ?_
        refine tw_cl1 rfl (rfl) (by decide) (tw_e_cardAt1 hn6 hn10 hc) ?_
        rintro _ _ ⟨rfl, rfl⟩
        show tw_P L xs _ 136 4 [.ref 1, .int (nI c), .int (nI 7), tw_U] [.ref (2 * c + 18)] σ _
        refine tw_sg 4 (i1 := 10) (ls1 := [.ref 1, .int (nI c), .int (nI 7), .ref (2 * c + 18)]) (st1 := [.int (nI 7)]) (σ1 := σ) rfl ?_
        refine tw_sw (j := 7) rfl (rfl) (by decide) (by decide) rfl ?_
        show tw_P L xs _ 136 26 [.ref 1, .int (nI c), .int (nI 7), .ref (2 * c + 18)] [] σ _
        refine tw_sg 2 (i1 := 28) (ls1 := [.ref 1, .int (nI c), .int (nI 7), .ref (2 * c + 18)]) (st1 := [.ref 6]) (σ1 := σ) rfl ?_
        refine tw_cl0 59 rfl (rfl) (by decide) ?_
        show tw_P L xs _ 83 0 [.ref 6] [] σ _
        refine tw_sg 2 (i1 := 2) (ls1 := [.ref 6]) (st1 := [.ref 9]) (σ1 := σ) rfl ?_
        refine tw_ra rfl ?_
        show tw_P L xs _ 136 29 [.ref 1, .int (nI c), .int (nI 7), .ref (2 * c + 18)] [.ref 9] σ _
        refine tw_sg 3 (i1 := 32) (ls1 := [.ref 1, .int (nI c), .int (nI 7), .ref (2 * c + 18)]) (st1 := [.int (nI 0), .int (nI 3), .int (nI c), .ref 9]) (σ1 := σ) rfl ?_
        refine tw_cl1 rfl (rfl) (by decide) (tw_e_long hr9 hw9 hr50 hn10 hc (fun i hi => (hRo i hi c hc).2.2.2.1)) ?_
        rintro _ _ ⟨rfl, rfl⟩
        show tw_P L xs _ 136 33 [.ref 1, .int (nI c), .int (nI 7), .ref (2 * c + 18)] [.int ((tw_fo (tw_gFl σ c) 0 r (nI 0, nI 0)).1)] σ _
        refine tw_ri rfl (rfl) ?_
        refine ⟨_, rfl, ?_⟩
        show tw_P L xs _ 199 0 [.ref 88, .int (nI c), .int (nI 7)] [] σ _
        refine tw_sg 2 (i1 := 2) (ls1 := [.ref 88, .int (nI c), .int (nI 7)]) (st1 := [.int (nI c), .ref 88]) (σ1 := σ) rfl ?_
        refine tw_cl1 rfl (rfl) (by decide) (tw_e_isCard1 hn89 hn10 hc) ?_
        rintro _ _ ⟨rfl, rfl⟩
        show tw_P L xs _ 199 3 [.ref 88, .int (nI c), .int (nI 7)] [.int (nI 1)] σ _
        refine tw_bzF (c := .eq) rfl (by rw [tw_ceq', tw_neq (by omega) (by omega)] <;> omega) ?_
        show tw_P L xs _ 199 4 [.ref 88, .int (nI c), .int (nI 7)] [] σ _
        refine tw_sg 3 (i1 := 7) (ls1 := [.ref 88, .int (nI c), .int (nI 7)]) (st1 := [.int (nI 8), .int (nI 0), .int (nI 7)]) (σ1 := σ) rfl ?_
        refine tw_cl1 rfl (rfl) (by decide) (tw_e_in1 (by decide) (by decide)) ?_
        rintro _ _ ⟨rfl, rfl⟩
        show tw_P L xs _ 199 8 [.ref 88, .int (nI c), .int (nI 7)] [.int (nI 1)] σ _
        refine tw_bzT (c := .ne) rfl (by rw [tw_cne, tw_neq (by omega) (by omega)] <;> omega) ?_
        show tw_P L xs _ 199 11 [.ref 88, .int (nI c), .int (nI 7)] [] σ _
        refine tw_sg 1 (i1 := 12) (ls1 := [.ref 88, .int (nI c), .int (nI 7)]) (st1 := [.int (nI 7)]) (σ1 := σ) rfl ?_
        refine tw_swz (lo := 4) (j := 7) rfl (rfl) (by decide) (by decide) (by decide) rfl ?_
        show tw_P L xs _ 199 30 [.ref 88, .int (nI c), .int (nI 7)] [] σ _
        refine tw_sg 2 (i1 := 32) (ls1 := [.ref 88, .int (nI c), .int (nI 7)]) (st1 := [.int (nI c), .ref 88]) (σ1 := σ) rfl ?_
        refine tw_cl1 rfl (rfl) (by decide) (tw_e_floatOf hr90 hr50 hn10 hc) ?_
        rintro _ _ ⟨rfl, rfl⟩
        show tw_P L xs _ 199 33 [.ref 88, .int (nI c), .int (nI 7)] [.int ((tw_fo (tw_gFl σ c) 0 r (nI 0, nI 0)).1)] σ _
        refine tw_ri rfl (rfl) ?_
        exact ⟨rfl, hI⟩
      · skip
        show tw_P L xs _ 136 0 [.ref 1, .int (nI c), .int (nI 8), tw_U] [] σ _
        refine tw_sg 3 (i1 := 3) (ls1 := [.ref 1, .int (nI c), .int (nI 8), tw_U]) (st1 := [.int (nI c), .ref 6]) (σ1 := σ) rfl ?_
        refine tw_cl1 rfl (rfl) (by decide) (tw_e_cardAt1 hn6 hn10 hc) ?_
        rintro _ _ ⟨rfl, rfl⟩
        show tw_P L xs _ 136 4 [.ref 1, .int (nI c), .int (nI 8), tw_U] [.ref (2 * c + 18)] σ _
        refine tw_sg 4 (i1 := 10) (ls1 := [.ref 1, .int (nI c), .int (nI 8), .ref (2 * c + 18)]) (st1 := [.int (nI 8)]) (σ1 := σ) rfl ?_
        refine tw_sw (j := 8) rfl (rfl) (by decide) (by decide) rfl ?_
        show tw_P L xs _ 136 34 [.ref 1, .int (nI c), .int (nI 8), .ref (2 * c + 18)] [] σ _
        refine tw_sg 4 (i1 := 38) (ls1 := [.ref 1, .int (nI c), .int (nI 8), .ref (2 * c + 18)]) (st1 := [.int (nI 0), .int (nI c), .ref 6]) (σ1 := σ) rfl ?_
        refine tw_cl1 rfl (rfl) (by decide) (tw_E_mono (tw_e_nextC (b := 0) hn6 hr9 (fun _ _ _ _ => rfl) hLa hn10 (by omega)) (fun v σ1 h => (⟨by obtain ⟨⟨u, e, hu⟩, _⟩ := h; rw [e, hu hc], h.2⟩ : v = some (.int (nI (tw_lvm σ n 7 0 c (r + 0)))) ∧ σ = σ1))) ?_
        rintro _ _ ⟨rfl, rfl⟩
        show tw_P L xs _ 136 39 [.ref 1, .int (nI c), .int (nI 8), .ref (2 * c + 18)] [.int (nI (tw_lvm σ n 7 0 c (r + 0)))] σ _
        refine tw_ri rfl (rfl) ?_
        refine ⟨_, rfl, ?_⟩
        show tw_P L xs _ 199 0 [.ref 88, .int (nI c), .int (nI 8)] [] σ _
        refine tw_sg 2 (i1 := 2) (ls1 := [.ref 88, .int (nI c), .int (nI 8)]) (st1 := [.int (nI c), .ref 88]) (σ1 := σ) rfl ?_
        refine tw_cl1 rfl (rfl) (by decide) (tw_e_isCard1 hn89 hn10 hc) ?_
        rintro _ _ ⟨rfl, rfl⟩
        show tw_P L xs _ 199 3 [.ref 88, .int (nI c), .int (nI 8)] [.int (nI 1)] σ _
        refine tw_bzF (c := .eq) rfl (by rw [tw_ceq', tw_neq (by omega) (by omega)] <;> omega) ?_
        show tw_P L xs _ 199 4 [.ref 88, .int (nI c), .int (nI 8)] [] σ _
        refine tw_sg 3 (i1 := 7) (ls1 := [.ref 88, .int (nI c), .int (nI 8)]) (st1 := [.int (nI 8), .int (nI 0), .int (nI 8)]) (σ1 := σ) rfl ?_
        refine tw_cl1 rfl (rfl) (by decide) (tw_e_in1 (by decide) (by decide)) ?_
        rintro _ _ ⟨rfl, rfl⟩
        show tw_P L xs _ 199 8 [.ref 88, .int (nI c), .int (nI 8)] [.int (nI 1)] σ _
        refine tw_bzT (c := .ne) rfl (by rw [tw_cne, tw_neq (by omega) (by omega)] <;> omega) ?_
        show tw_P L xs _ 199 11 [.ref 88, .int (nI c), .int (nI 8)] [] σ _
        refine tw_sg 1 (i1 := 12) (ls1 := [.ref 88, .int (nI c), .int (nI 8)]) (st1 := [.int (nI 8)]) (σ1 := σ) rfl ?_
        refine tw_swz (lo := 4) (j := 8) rfl (rfl) (by decide) (by decide) (by decide) rfl ?_
        show tw_P L xs _ 199 34 [.ref 88, .int (nI c), .int (nI 8)] [] σ _
        refine tw_sg 6 (i1 := 40) (ls1 := [.ref 88, .int (nI c), .int (nI 8)]) (st1 := [.int (nI 0), .ref 90, .int (nI c), .int (nI 0), .ref 88]) (σ1 := σ) rfl ?_
        refine tw_al (k := 90) (j := 0) (len := 2) rfl rfl rfl rfl (rfl) (by omega) (by decide) ?_
        rw [hr90]
        refine tw_cl1 rfl (rfl) (by decide) (tw_e_turnM (p := r) hn89 (fun _ _ _ _ => rfl) hLa hn10 hc (by omega)) ?_
        rintro _ _ ⟨rfl, rfl⟩
        show tw_P L xs _ 199 42 [.ref 88, .int (nI c), .int (nI 8)] [.int (nI (tw_lvm σ n 7 0 c r))] σ _
        refine tw_ri rfl (rfl) ?_
        exact ⟨rfl, hI⟩
    · skip
      have hy1 : ∀ σ : tw_Mem, tw_E L xs 0 182 [.int y, .int (nI 0), .int (nI 8)] σ (fun v σ1 => v = some (.int (nI 0)) ∧ σ = σ1) := fun σ => by
        rcases hy with hy | ⟨hy, hy2⟩
        · exact tw_e_in0a hy
        · exact tw_e_in0b hy (tw_lt_le1 (n := 8) (by decide) hy2)
      show tw_P L xs _ 136 0 [.ref 1, .int (nI c), .int y, tw_U] [] σ _
      refine tw_sg 3 (i1 := 3) (ls1 := [.ref 1, .int (nI c), .int y, tw_U]) (st1 := [.int (nI c), .ref 6]) (σ1 := σ) rfl ?_
      refine tw_cl1 rfl (rfl) (by decide) (tw_e_cardAt1 hn6 hn10 hc) ?_
      rintro _ _ ⟨rfl, rfl⟩
      show tw_P L xs _ 136 4 [.ref 1, .int (nI c), .int y, tw_U] [.ref (2 * c + 18)] σ _
      refine tw_sg 4 (i1 := 10) (ls1 := [.ref 1, .int (nI c), .int y, .ref (2 * c + 18)]) (st1 := [.int y]) (σ1 := σ) rfl ?_
      refine tw_swo rfl (hy.imp id (fun h => tw_lt_le1 (n := 8) (by decide) h.2)) (by decide) ?_
      show tw_P L xs _ 136 40 [.ref 1, .int (nI c), .int y, .ref (2 * c + 18)] [] σ _
      refine tw_sg 1 (i1 := 41) (ls1 := [.ref 1, .int (nI c), .int y, .ref (2 * c + 18)]) (st1 := [.int (-1)]) (σ1 := σ) rfl ?_
      refine tw_ri rfl (rfl) ?_
      refine ⟨_, rfl, ?_⟩
      show tw_P L xs _ 199 0 [.ref 88, .int (nI c), .int y] [] σ _
      refine tw_sg 2 (i1 := 2) (ls1 := [.ref 88, .int (nI c), .int y]) (st1 := [.int (nI c), .ref 88]) (σ1 := σ) rfl ?_
      refine tw_cl1 rfl (rfl) (by decide) (tw_e_isCard1 hn89 hn10 hc) ?_
      rintro _ _ ⟨rfl, rfl⟩
      show tw_P L xs _ 199 3 [.ref 88, .int (nI c), .int y] [.int (nI 1)] σ _
      refine tw_bzF (c := .eq) rfl (by rw [tw_ceq', tw_neq (by omega) (by omega)] <;> omega) ?_
      show tw_P L xs _ 199 4 [.ref 88, .int (nI c), .int y] [] σ _
      refine tw_sg 3 (i1 := 7) (ls1 := [.ref 88, .int (nI c), .int y]) (st1 := [.int (nI 8), .int (nI 0), .int y]) (σ1 := σ) rfl ?_
      refine tw_cl1 rfl (rfl) (by decide) (hy1 σ) ?_
      rintro _ _ ⟨rfl, rfl⟩
      show tw_P L xs _ 199 8 [.ref 88, .int (nI c), .int y] [.int (nI 0)] σ _
      refine tw_bzF (c := .ne) rfl (by rw [tw_cne', tw_neq (by omega) (by omega)] <;> omega) ?_
      show tw_P L xs _ 199 9 [.ref 88, .int (nI c), .int y] [] σ _
      refine tw_sg 1 (i1 := 10) (ls1 := [.ref 88, .int (nI c), .int y]) (st1 := [.int (-1)]) (σ1 := σ) rfl ?_
      refine tw_ri rfl (rfl) ?_
      exact ⟨rfl, hI⟩
  · skip
    show tw_P L xs _ 136 0 [.ref 1, .int x, .int y, tw_U] [] σ _
    refine tw_sg 3 (i1 := 3) (ls1 := [.ref 1, .int x, .int y, tw_U]) (st1 := [.int x, .ref 6]) (σ1 := σ) rfl ?_
    refine tw_cl1 rfl (rfl) (by decide) (tw_e_cardAt0 hn6 hx) ?_
    rintro _ _ ⟨rfl, rfl⟩
    show tw_P L xs _ 136 4 [.ref 1, .int x, .int y, tw_U] [.null] σ _
    refine tw_sg 4 (i1 := 8) (ls1 := [.ref 1, .int x, .int y, .null]) (st1 := [.int (-1)]) (σ1 := σ) rfl ?_
    refine tw_ri rfl (rfl) ?_
    refine ⟨_, rfl, ?_⟩
    show tw_P L xs _ 199 0 [.ref 88, .int x, .int y] [] σ _
    refine tw_sg 2 (i1 := 2) (ls1 := [.ref 88, .int x, .int y]) (st1 := [.int x, .ref 88]) (σ1 := σ) rfl ?_
    refine tw_cl1 rfl (rfl) (by decide) (tw_e_isCard0 hn89 hn10 hx) ?_
    rintro _ _ ⟨rfl, rfl⟩
    show tw_P L xs _ 199 3 [.ref 88, .int x, .int y] [.int (nI 0)] σ _
    refine tw_bzT (c := .eq) rfl (by rw [tw_ceq, tw_neq (by omega) (by omega)] <;> omega) ?_
    show tw_P L xs _ 199 9 [.ref 88, .int x, .int y] [] σ _
    refine tw_sg 1 (i1 := 10) (ls1 := [.ref 88, .int x, .int y]) (st1 := [.int (-1)]) (σ1 := σ) rfl ?_
    refine tw_ri rfl (rfl) ?_
    exact ⟨rfl, hI⟩
theorem tw_gW_b (x : Int32) : -1 ≤ (tw_gW x).toInt ∧ (tw_gW x).toInt ≤ 2 := by
  have h1 : (nI 1).toInt = 1 := by decide
  have h2 : (nI 2).toInt = 2 := by decide
  have h3 : (-1 : Int32).toInt = -1 := by decide
  have h4 : (nI 0).toInt = 0 := by decide
  unfold tw_gW
  split
  · omega
  · split
    · omega
    · split <;> omega
theorem tw_sm_b {w : Nat → Int32} : ∀ r : Nat, r ≤ 50 → -(r : Int) ≤ (tw_sm w r).toInt ∧ (tw_sm w r).toInt ≤ 2 * r
  | 0, _ => by
    have h4 : (nI 0).toInt = 0 := by decide
    rw [tw_sm]
    omega
  | r + 1, h => by
    have h1 := tw_sm_b (w := w) r (by omega)
    have h2 := tw_gW_b (w r)
    rw [tw_sm, Int32.toInt_add, Int.bmod_eq_of_le (by omega) (by omega)]
    omega
def tw_gG (t : Nat → Int32) : Nat → Int32 → Int32 := fun c a => tw_maxI a (t c)
def tw_gB (t : Nat → Int32) (x : Int32) : Nat → Int32 → Int32 := fun c s => if x < t c then s ||| (nI 1 <<< (nI c &&& 31)) else s
theorem tw_gG_b {t : Nat → Int32} {n : Nat} (ht : ∀ c, c < n → (t c).toInt ≤ 100) : ∀ (f i A : Nat), A ≤ 100 → i + f ≤ n → ∃ B, B ≤ 100 ∧ tw_fo (tw_gG t) i f (nI A) = nI B
  | 0, i, A, hA, _ => ⟨A, hA, rfl⟩
  | f + 1, i, A, hA, hf => by
    have h0 : ∃ A1, A1 ≤ 100 ∧ tw_gG t i (nI A) = nI A1 := by
      unfold tw_gG tw_maxI
      by_cases h : nI A < t i
      · rw [if_pos h]
        rcases tw_nany (t i) with hz | ⟨a, ha, e⟩
        · exact absurd (tw_lt_tr h hz) (tw_nge0 (by omega))
        · have h1 := ht i (by omega)
          rw [e, tw_ntoI ha] at h1
          exact ⟨a, by omega, e⟩
      · rw [if_neg h]
        exact ⟨A, hA, rfl⟩
    obtain ⟨A1, h1, h2⟩ := h0
    rw [tw_fo, h2]
    exact tw_gG_b ht f (i + 1) A1 h1 (by omega)
theorem tw_mulm (x : Int32) : x * (-1) = -x := by
  rw [Int32.mul_neg, Int32.mul_one]
set_option maxHeartbeats 4000000 in
set_option maxRecDepth 100000 in
theorem tw_l_great {L : Nat} {xs : Nat → Int32} {Q : Option Value → tw_Mem → Prop} {σ : tw_Mem} {n : Nat} {s : Int32} (hn6 : σ 6 4 = nI n) (hn10 : n ≤ 10) (hCa : ∀ c, c < n → σ (2 * c + 18) 3 = σ 94 c) : ∀ (f c : Nat) (a : Int32), c + f = n → tw_P L xs 2 98 18 [.ref 6, .int s, .int (tw_fo (tw_gG (fun c => σ 94 c * s)) c f a), .int (nI n)] [] σ Q → tw_P L xs 2 98 4 [.ref 6, .int s, .int a, .int (nI c)] [] σ Q := by
  intro f
  induction f with
  | zero =>
    intro c a  hf hQ
    have hf : n = c := Eq.symm hf
    subst hf
    refine tw_sgn 3 (i1 := 7) (ls0 := [.ref 6, .int s, .int a, .int (nI n)]) (st0 := [.int (σ 6 4), .int (nI n)]) (σ0 := σ) (ls1 := [.ref 6, .int s, .int a, .int (nI n)]) (st1 := [.int (nI n), .int (nI n)]) (σ1 := σ) rfl (rfl) (by simp only [hn6, tw_nadd, tw_nmul]) (rfl) ?_
    refine tw_biT (c := .ge) rfl (by rw [tw_cge, tw_nle (by omega) (by omega)] <;> omega) ?_
    show tw_P L xs _ 98 18 [.ref 6, .int s, .int a, .int (nI n)] [] σ _
    exact hQ
  | succ f ih =>
    intro c a  hf hQ
    refine tw_sgn 3 (i1 := 7) (ls0 := [.ref 6, .int s, .int a, .int (nI c)]) (st0 := [.int (σ 6 4), .int (nI c)]) (σ0 := σ) (ls1 := [.ref 6, .int s, .int a, .int (nI c)]) (st1 := [.int (nI n), .int (nI c)]) (σ1 := σ) rfl (rfl) (by simp only [hn6, tw_nadd, tw_nmul]) (rfl) ?_
    refine tw_biF (c := .ge) rfl (by rw [tw_cge', tw_nle (by omega) (by omega)] <;> omega) ?_
    show tw_P L xs _ 98 8 [.ref 6, .int s, .int a, .int (nI c)] [] σ _
    refine tw_sg 3 (i1 := 11) (ls1 := [.ref 6, .int s, .int a, .int (nI c)]) (st1 := [.int (nI c), .ref 6, .int a]) (σ1 := σ) rfl ?_
    refine tw_cl0 1 rfl (rfl) (by decide) ?_
    show tw_P L xs _ 100 0 [.ref 6, .int (nI c), tw_U] [] σ _
    refine tw_sg 2 (i1 := 2) (ls1 := [.ref 6, .int (nI c), tw_U]) (st1 := [.int (nI c), .ref 6]) (σ1 := σ) rfl ?_
    refine tw_cl1 rfl (rfl) (by decide) (tw_e_cardAt1 hn6 hn10 (by omega)) ?_
    rintro _ _ ⟨rfl, rfl⟩
    show tw_P L xs _ 100 3 [.ref 6, .int (nI c), tw_U] [.ref (2 * c + 18)] σ _
    refine tw_sg 4 (i1 := 9) (ls1 := [.ref 6, .int (nI c), .ref (2 * c + 18)]) (st1 := [.ref (2 * c + 18)]) (σ1 := σ) rfl ?_
    refine tw_cl0 0 rfl (tw_inv_ok (y := 7) (b := 0) (st := [.ref (2 * c + 18)]) (k := (2 * c + 18)) (r := []) rfl rfl (tw_cdO (by omega))) (by decide) ?_
    show tw_P L xs _ 7 0 [.ref (2 * c + 18)] [] σ _
    refine tw_sg 1 (i1 := 1) (ls1 := [.ref (2 * c + 18)]) (st1 := [.ref (2 * c + 18)]) (σ1 := σ) rfl ?_
    refine tw_gf rfl (tw_cdO (by omega)) (tw_cdB (by omega) (by decide)) (v := .int (σ (2 * c + 18) 3)) (tw_cdV3 (by omega)) ?_
    rw [(hCa c (by omega))]
    refine tw_ri rfl (rfl) ?_
    show tw_P L xs _ 100 10 [.ref 6, .int (nI c), .ref (2 * c + 18)] [.int (σ 94 c)] σ _
    refine tw_ri rfl (rfl) ?_
    show tw_P L xs _ 98 12 [.ref 6, .int s, .int a, .int (nI c)] [.int (σ 94 c), .int a] σ _
    refine tw_sg 2 (i1 := 14) (ls1 := [.ref 6, .int s, .int a, .int (nI c)]) (st1 := [.int ((σ 94 c) * s), .int a]) (σ1 := σ) rfl ?_
    refine tw_cl1 rfl (rfl) (by decide) (tw_e_maxI) ?_
    rintro _ _ ⟨rfl, rfl⟩
    show tw_P L xs _ 98 15 [.ref 6, .int s, .int a, .int (nI c)] [.int (tw_maxI a ((σ 94 c) * s))] σ _
    refine tw_sgn 3 (i1 := 4) (ls0 := [.ref 6, .int s, .int (tw_maxI a ((σ 94 c) * s)), .int (nI c + nI 1)]) (st0 := []) (σ0 := σ) (ls1 := [.ref 6, .int s, .int (tw_maxI a ((σ 94 c) * s)), .int (nI (c + 1))]) (st1 := []) (σ1 := σ) rfl (by simp only [tw_nadd, tw_nmul]) (rfl) (rfl) ?_
    exact ih (c + 1) _ (by omega) hQ
set_option maxHeartbeats 4000000 in
set_option maxRecDepth 100000 in
theorem tw_e_great {s : Int32} (hn6 : σ 6 4 = nI n) (hn10 : n ≤ 10) (hCa : ∀ c, c < n → σ (2 * c + 18) 3 = σ 94 c) : tw_E L xs 2 98 [.ref 6, .int s] σ (fun v σ1 => v = some (.int (tw_fo (tw_gG (fun c => σ 94 c * s)) 0 n (nI 0))) ∧ σ = σ1) := by
  show tw_P L xs _ 98 0 [.ref 6, .int s, tw_U, tw_U] [] σ _
  refine tw_sg 4 (i1 := 4) (ls1 := [.ref 6, .int s, .int (nI 0), .int (nI 0)]) (st1 := []) (σ1 := σ) rfl ?_
  refine tw_l_great hn6 hn10 hCa n 0 _ (by omega) ?_
  refine tw_sg 1 (i1 := 19) (ls1 := _) (st1 := [.int (tw_fo (tw_gG (fun c => σ 94 c * s)) 0 n (nI 0))]) (σ1 := σ) rfl ?_
  exact tw_ri rfl rfl ⟨rfl, rfl⟩
set_option maxHeartbeats 4000000 in
set_option maxRecDepth 100000 in
theorem tw_l_beyond {L : Nat} {xs : Nat → Int32} {Q : Option Value → tw_Mem → Prop} {σ : tw_Mem} {x : Int32} {n : Nat} {s : Int32} (hn6 : σ 6 4 = nI n) (hn10 : n ≤ 10) (hCa : ∀ c, c < n → σ (2 * c + 18) 3 = σ 94 c) : ∀ (f c : Nat) (a : Int32), c + f = n → tw_P L xs 2 99 23 [.ref 6, .int x, .int s, .int (tw_fo (tw_gB (fun c => σ 94 c * s) x) c f a), .int (nI n)] [] σ Q → tw_P L xs 2 99 4 [.ref 6, .int x, .int s, .int a, .int (nI c)] [] σ Q := by
  intro f
  induction f with
  | zero =>
    intro c a  hf hQ
    have hf : n = c := Eq.symm hf
    subst hf
    refine tw_sgn 3 (i1 := 7) (ls0 := [.ref 6, .int x, .int s, .int a, .int (nI n)]) (st0 := [.int (σ 6 4), .int (nI n)]) (σ0 := σ) (ls1 := [.ref 6, .int x, .int s, .int a, .int (nI n)]) (st1 := [.int (nI n), .int (nI n)]) (σ1 := σ) rfl (rfl) (by simp only [hn6, tw_nadd, tw_nmul]) (rfl) ?_
    refine tw_biT (c := .ge) rfl (by rw [tw_cge, tw_nle (by omega) (by omega)] <;> omega) ?_
    show tw_P L xs _ 99 23 [.ref 6, .int x, .int s, .int a, .int (nI n)] [] σ _
    exact hQ
  | succ f ih =>
    intro c a  hf hQ
    refine tw_sgn 3 (i1 := 7) (ls0 := [.ref 6, .int x, .int s, .int a, .int (nI c)]) (st0 := [.int (σ 6 4), .int (nI c)]) (σ0 := σ) (ls1 := [.ref 6, .int x, .int s, .int a, .int (nI c)]) (st1 := [.int (nI n), .int (nI c)]) (σ1 := σ) rfl (rfl) (by simp only [hn6, tw_nadd, tw_nmul]) (rfl) ?_
    refine tw_biF (c := .ge) rfl (by rw [tw_cge', tw_nle (by omega) (by omega)] <;> omega) ?_
    show tw_P L xs _ 99 8 [.ref 6, .int x, .int s, .int a, .int (nI c)] [] σ _
    refine tw_sg 2 (i1 := 10) (ls1 := [.ref 6, .int x, .int s, .int a, .int (nI c)]) (st1 := [.int (nI c), .ref 6]) (σ1 := σ) rfl ?_
    refine tw_cl0 1 rfl (rfl) (by decide) ?_
    show tw_P L xs _ 100 0 [.ref 6, .int (nI c), tw_U] [] σ _
    refine tw_sg 2 (i1 := 2) (ls1 := [.ref 6, .int (nI c), tw_U]) (st1 := [.int (nI c), .ref 6]) (σ1 := σ) rfl ?_
    refine tw_cl1 rfl (rfl) (by decide) (tw_e_cardAt1 hn6 hn10 (by omega)) ?_
    rintro _ _ ⟨rfl, rfl⟩
    show tw_P L xs _ 100 3 [.ref 6, .int (nI c), tw_U] [.ref (2 * c + 18)] σ _
    refine tw_sg 4 (i1 := 9) (ls1 := [.ref 6, .int (nI c), .ref (2 * c + 18)]) (st1 := [.ref (2 * c + 18)]) (σ1 := σ) rfl ?_
    refine tw_cl0 0 rfl (tw_inv_ok (y := 7) (b := 0) (st := [.ref (2 * c + 18)]) (k := (2 * c + 18)) (r := []) rfl rfl (tw_cdO (by omega))) (by decide) ?_
    show tw_P L xs _ 7 0 [.ref (2 * c + 18)] [] σ _
    refine tw_sg 1 (i1 := 1) (ls1 := [.ref (2 * c + 18)]) (st1 := [.ref (2 * c + 18)]) (σ1 := σ) rfl ?_
    refine tw_gf rfl (tw_cdO (by omega)) (tw_cdB (by omega) (by decide)) (v := .int (σ (2 * c + 18) 3)) (tw_cdV3 (by omega)) ?_
    rw [(hCa c (by omega))]
    refine tw_ri rfl (rfl) ?_
    show tw_P L xs _ 100 10 [.ref 6, .int (nI c), .ref (2 * c + 18)] [.int (σ 94 c)] σ _
    refine tw_ri rfl (rfl) ?_
    show tw_P L xs _ 99 11 [.ref 6, .int x, .int s, .int a, .int (nI c)] [.int (σ 94 c)] σ _
    refine tw_sg 3 (i1 := 14) (ls1 := [.ref 6, .int x, .int s, .int a, .int (nI c)]) (st1 := [.int x, .int ((σ 94 c) * s)]) (σ1 := σ) rfl ?_
    refine tw_bi (c := .le) rfl (fun h1 => ?_) (fun h1 => ?_)
    · rw [tw_cle] at h1
      refine tw_sgn 2 (i1 := 4) (ls0 := [.ref 6, .int x, .int s, .int a, .int (nI c + nI 1)]) (st0 := []) (σ0 := σ) (ls1 := [.ref 6, .int x, .int s, .int a, .int (nI (c + 1))]) (st1 := []) (σ1 := σ) rfl (by simp only [tw_nadd, tw_nmul]) (rfl) (rfl) ?_
      have e : (tw_gB (fun c => σ 94 c * s) x) c a = a := by
        unfold tw_gB
        first | rw [if_pos (tw_not_lt.mpr h1)] | rw [if_neg (tw_not_lt.mpr h1)]
      rw [tw_fo, e] at hQ
      exact ih (c + 1) _ (by omega) hQ
    · rw [tw_cle'] at h1
      refine tw_sgn 8 (i1 := 4) (ls0 := [.ref 6, .int x, .int s, .int (a ||| (nI 1 <<< (nI c &&& 31))), .int (nI c + nI 1)]) (st0 := []) (σ0 := σ) (ls1 := [.ref 6, .int x, .int s, .int (a ||| (nI 1 <<< (nI c &&& 31))), .int (nI (c + 1))]) (st1 := []) (σ1 := σ) rfl (by simp only [tw_nadd, tw_nmul]) (rfl) (rfl) ?_
      have e : (tw_gB (fun c => σ 94 c * s) x) c a = a ||| (nI 1 <<< (nI c &&& 31)) := by
        unfold tw_gB
        first | rw [if_pos (tw_not_le.mp h1)] | rw [if_neg (tw_not_le.mp h1)]
      rw [tw_fo, e] at hQ
      exact ih (c + 1) _ (by omega) hQ
set_option maxHeartbeats 4000000 in
set_option maxRecDepth 100000 in
theorem tw_e_beyond {s : Int32} (hn6 : σ 6 4 = nI n) (hn10 : n ≤ 10) (hCa : ∀ c, c < n → σ (2 * c + 18) 3 = σ 94 c) : tw_E L xs 2 99 [.ref 6, .int x, .int s] σ (fun v σ1 => v = some (.int (tw_fo (tw_gB (fun c => σ 94 c * s) x) 0 n (nI 0))) ∧ σ = σ1) := by
  show tw_P L xs _ 99 0 [.ref 6, .int x, .int s, tw_U, tw_U] [] σ _
  refine tw_sg 4 (i1 := 4) (ls1 := [.ref 6, .int x, .int s, .int (nI 0), .int (nI 0)]) (st1 := []) (σ1 := σ) rfl ?_
  refine tw_l_beyond hn6 hn10 hCa n 0 _ (by omega) ?_
  refine tw_sg 1 (i1 := 24) (ls1 := _) (st1 := [.int (tw_fo (tw_gB (fun c => σ 94 c * s) x) 0 n (nI 0))]) (σ1 := σ) rfl ?_
  exact tw_ri rfl rfl ⟨rfl, rfl⟩
set_option maxHeartbeats 4000000 in
set_option maxRecDepth 100000 in
theorem tw_l_mgreat {L : Nat} {xs : Nat → Int32} {Q : Option Value → tw_Mem → Prop} {σ : tw_Mem} {n : Nat} {s : Int32} (hn89 : σ 89 0 = nI n) (hn10 : n ≤ 10) : ∀ (f c : Nat) (a : Int32), c + f = n → tw_P L xs 1 226 21 [.ref 88, .int s, .int (tw_fo (tw_gG (fun c => s * σ 94 c)) c f a), .int (nI n)] [] σ Q → tw_P L xs 1 226 4 [.ref 88, .int s, .int a, .int (nI c)] [] σ Q := by
  intro f
  induction f with
  | zero =>
    intro c a  hf hQ
    have hf : n = c := Eq.symm hf
    subst hf
    refine tw_sg 4 (i1 := 8) (ls1 := [.ref 88, .int s, .int a, .int (nI n)]) (st1 := [.int (nI 0), .ref 89, .int (nI n)]) (σ1 := σ) rfl ?_
    refine tw_al (k := 89) (j := 0) (len := 2) rfl rfl rfl rfl (rfl) (by omega) (by decide) ?_
    rw [hn89]
    refine tw_biT (c := .ge) rfl (by rw [tw_cge, tw_nle (by omega) (by omega)] <;> omega) ?_
    show tw_P L xs _ 226 21 [.ref 88, .int s, .int a, .int (nI n)] [] σ _
    exact hQ
  | succ f ih =>
    intro c a  hf hQ
    refine tw_sg 4 (i1 := 8) (ls1 := [.ref 88, .int s, .int a, .int (nI c)]) (st1 := [.int (nI 0), .ref 89, .int (nI c)]) (σ1 := σ) rfl ?_
    refine tw_al (k := 89) (j := 0) (len := 2) rfl rfl rfl rfl (rfl) (by omega) (by decide) ?_
    rw [hn89]
    refine tw_biF (c := .ge) rfl (by rw [tw_cge', tw_nle (by omega) (by omega)] <;> omega) ?_
    show tw_P L xs _ 226 10 [.ref 88, .int s, .int a, .int (nI c)] [] σ _
    refine tw_sg 5 (i1 := 15) (ls1 := [.ref 88, .int s, .int a, .int (nI c)]) (st1 := [.int (nI c), .ref 94, .int s, .int a]) (σ1 := σ) rfl ?_
    refine tw_al (k := 94) (j := c) (len := 20) rfl rfl rfl rfl (rfl) (by omega) (by decide) ?_
    refine tw_sg 1 (i1 := 17) (ls1 := [.ref 88, .int s, .int a, .int (nI c)]) (st1 := [.int (s * (σ 94 c)), .int a]) (σ1 := σ) rfl ?_
    refine tw_cl1 rfl (rfl) (by decide) (tw_e_maxI) ?_
    rintro _ _ ⟨rfl, rfl⟩
    show tw_P L xs _ 226 18 [.ref 88, .int s, .int a, .int (nI c)] [.int (tw_maxI a (s * (σ 94 c)))] σ _
    refine tw_sgn 3 (i1 := 4) (ls0 := [.ref 88, .int s, .int (tw_maxI a (s * (σ 94 c))), .int (nI c + nI 1)]) (st0 := []) (σ0 := σ) (ls1 := [.ref 88, .int s, .int (tw_maxI a (s * (σ 94 c))), .int (nI (c + 1))]) (st1 := []) (σ1 := σ) rfl (by simp only [tw_nadd, tw_nmul]) (rfl) (rfl) ?_
    exact ih (c + 1) _ (by omega) hQ
set_option maxHeartbeats 4000000 in
set_option maxRecDepth 100000 in
theorem tw_e_mgreat {s : Int32} (hn89 : σ 89 0 = nI n) (hn10 : n ≤ 10) : tw_E L xs 1 226 [.ref 88, .int s] σ (fun v σ1 => v = some (.int (tw_fo (tw_gG (fun c => s * σ 94 c)) 0 n (nI 0))) ∧ σ = σ1) := by
  show tw_P L xs _ 226 0 [.ref 88, .int s, tw_U, tw_U] [] σ _
  refine tw_sg 4 (i1 := 4) (ls1 := [.ref 88, .int s, .int (nI 0), .int (nI 0)]) (st1 := []) (σ1 := σ) rfl ?_
  refine tw_l_mgreat hn89 hn10 n 0 _ (by omega) ?_
  refine tw_sg 1 (i1 := 22) (ls1 := _) (st1 := [.int (tw_fo (tw_gG (fun c => s * σ 94 c)) 0 n (nI 0))]) (σ1 := σ) rfl ?_
  exact tw_ri rfl rfl ⟨rfl, rfl⟩
set_option maxHeartbeats 4000000 in
set_option maxRecDepth 100000 in
theorem tw_l_setA {L : Nat} {xs : Nat → Int32} {Q : Option Value → tw_Mem → Prop} {σ : tw_Mem} {n a A : Nat} {u1 u2 : Value} (hn89 : σ 89 0 = nI n) (hn10 : n ≤ 10) (ha1 : a < 1000) (hA : A < 1000) (ha : a < A) : ∀ (f c : Nat) (b : Int32), c + f = n → tw_P L xs 0 227 78 [.ref 88, .int (nI a), u1, .int (nI A), u2, .int (tw_fo (tw_gB (σ 94) (nI a)) c f b), .int (nI n)] [] σ Q → tw_P L xs 0 227 45 [.ref 88, .int (nI a), u1, .int (nI A), u2, .int b, .int (nI c)] [] σ Q := by
  intro f
  induction f with
  | zero =>
    intro c b  hf hQ
    have hf : n = c := Eq.symm hf
    subst hf
    refine tw_sg 4 (i1 := 49) (ls1 := [.ref 88, .int (nI a), u1, .int (nI A), u2, .int b, .int (nI n)]) (st1 := [.int (nI 0), .ref 89, .int (nI n)]) (σ1 := σ) rfl ?_
    refine tw_al (k := 89) (j := 0) (len := 2) rfl rfl rfl rfl (rfl) (by omega) (by decide) ?_
    rw [hn89]
    refine tw_biT (c := .ge) rfl (by rw [tw_cge, tw_nle (by omega) (by omega)] <;> omega) ?_
    show tw_P L xs _ 227 78 [.ref 88, .int (nI a), u1, .int (nI A), u2, .int b, .int (nI n)] [] σ _
    exact hQ
  | succ f ih =>
    intro c b  hf hQ
    refine tw_sg 4 (i1 := 49) (ls1 := [.ref 88, .int (nI a), u1, .int (nI A), u2, .int b, .int (nI c)]) (st1 := [.int (nI 0), .ref 89, .int (nI c)]) (σ1 := σ) rfl ?_
    refine tw_al (k := 89) (j := 0) (len := 2) rfl rfl rfl rfl (rfl) (by omega) (by decide) ?_
    rw [hn89]
    refine tw_biF (c := .ge) rfl (by rw [tw_cge', tw_nle (by omega) (by omega)] <;> omega) ?_
    show tw_P L xs _ 227 51 [.ref 88, .int (nI a), u1, .int (nI A), u2, .int b, .int (nI c)] [] σ _
    refine tw_sg 2 (i1 := 53) (ls1 := [.ref 88, .int (nI a), u1, .int (nI A), u2, .int b, .int (nI c)]) (st1 := [.int (nI A), .int (nI a)]) (σ1 := σ) rfl ?_
    refine tw_biF (c := .ge) rfl (by rw [tw_cge', tw_nle (by omega) (by omega)] <;> omega) ?_
    show tw_P L xs _ 227 54 [.ref 88, .int (nI a), u1, .int (nI A), u2, .int b, .int (nI c)] [] σ _
    refine tw_sg 3 (i1 := 57) (ls1 := [.ref 88, .int (nI a), u1, .int (nI A), u2, .int b, .int (nI c)]) (st1 := [.int (nI c), .ref 94]) (σ1 := σ) rfl ?_
    refine tw_al (k := 94) (j := c) (len := 20) rfl rfl rfl rfl (rfl) (by omega) (by decide) ?_
    refine tw_sg 1 (i1 := 59) (ls1 := [.ref 88, .int (nI a), u1, .int (nI A), u2, .int b, .int (nI c)]) (st1 := [.int (nI a), .int (σ 94 c)]) (σ1 := σ) rfl ?_
    refine tw_bi (c := .le) rfl (fun h1 => ?_) (fun h1 => ?_)
    · rw [tw_cle] at h1
      refine tw_sgn 2 (i1 := 45) (ls0 := [.ref 88, .int (nI a), u1, .int (nI A), u2, .int b, .int (nI c + nI 1)]) (st0 := []) (σ0 := σ) (ls1 := [.ref 88, .int (nI a), u1, .int (nI A), u2, .int b, .int (nI (c + 1))]) (st1 := []) (σ1 := σ) rfl (by simp only [tw_nadd, tw_nmul]) (rfl) (rfl) ?_
      have e : (tw_gB (σ 94) (nI a)) c b = b := by
        unfold tw_gB
        first | rw [if_pos (tw_not_lt.mpr h1)] | rw [if_neg (tw_not_lt.mpr h1)]
      rw [tw_fo, e] at hQ
      exact ih (c + 1) _ (by omega) hQ
    · rw [tw_cle'] at h1
      refine tw_sgn 9 (i1 := 45) (ls0 := [.ref 88, .int (nI a), u1, .int (nI A), u2, .int (b ||| (nI 1 <<< (nI c &&& 31))), .int (nI c + nI 1)]) (st0 := []) (σ0 := σ) (ls1 := [.ref 88, .int (nI a), u1, .int (nI A), u2, .int (b ||| (nI 1 <<< (nI c &&& 31))), .int (nI (c + 1))]) (st1 := []) (σ1 := σ) rfl (by simp only [tw_nadd, tw_nmul]) (rfl) (rfl) ?_
      have e : (tw_gB (σ 94) (nI a)) c b = b ||| (nI 1 <<< (nI c &&& 31)) := by
        unfold tw_gB
        first | rw [if_pos (tw_not_le.mp h1)] | rw [if_neg (tw_not_le.mp h1)]
      rw [tw_fo, e] at hQ
      exact ih (c + 1) _ (by omega) hQ
set_option maxHeartbeats 4000000 in
set_option maxRecDepth 100000 in
theorem tw_l_setB {L : Nat} {xs : Nat → Int32} {Q : Option Value → tw_Mem → Prop} {σ : tw_Mem} {n a A : Nat} {u1 u2 : Value} (hn89 : σ 89 0 = nI n) (hn10 : n ≤ 10) (ha1 : a < 1000) (hA : A < 1000) (ha : ¬ a < A) : ∀ (f c : Nat) (b : Int32), c + f = n → tw_P L xs 0 227 78 [.ref 88, .int (nI a), u1, .int (nI A), u2, .int (tw_fo (tw_gB (fun c => -(σ 94 c)) ((nI a - nI A))) c f b), .int (nI n)] [] σ Q → tw_P L xs 0 227 45 [.ref 88, .int (nI a), u1, .int (nI A), u2, .int b, .int (nI c)] [] σ Q := by
  intro f
  induction f with
  | zero =>
    intro c b  hf hQ
    have hf : n = c := Eq.symm hf
    subst hf
    refine tw_sg 4 (i1 := 49) (ls1 := [.ref 88, .int (nI a), u1, .int (nI A), u2, .int b, .int (nI n)]) (st1 := [.int (nI 0), .ref 89, .int (nI n)]) (σ1 := σ) rfl ?_
    refine tw_al (k := 89) (j := 0) (len := 2) rfl rfl rfl rfl (rfl) (by omega) (by decide) ?_
    rw [hn89]
    refine tw_biT (c := .ge) rfl (by rw [tw_cge, tw_nle (by omega) (by omega)] <;> omega) ?_
    show tw_P L xs _ 227 78 [.ref 88, .int (nI a), u1, .int (nI A), u2, .int b, .int (nI n)] [] σ _
    exact hQ
  | succ f ih =>
    intro c b  hf hQ
    refine tw_sg 4 (i1 := 49) (ls1 := [.ref 88, .int (nI a), u1, .int (nI A), u2, .int b, .int (nI c)]) (st1 := [.int (nI 0), .ref 89, .int (nI c)]) (σ1 := σ) rfl ?_
    refine tw_al (k := 89) (j := 0) (len := 2) rfl rfl rfl rfl (rfl) (by omega) (by decide) ?_
    rw [hn89]
    refine tw_biF (c := .ge) rfl (by rw [tw_cge', tw_nle (by omega) (by omega)] <;> omega) ?_
    show tw_P L xs _ 227 51 [.ref 88, .int (nI a), u1, .int (nI A), u2, .int b, .int (nI c)] [] σ _
    refine tw_sg 2 (i1 := 53) (ls1 := [.ref 88, .int (nI a), u1, .int (nI A), u2, .int b, .int (nI c)]) (st1 := [.int (nI A), .int (nI a)]) (σ1 := σ) rfl ?_
    refine tw_biT (c := .ge) rfl (by rw [tw_cge, tw_nle (by omega) (by omega)] <;> omega) ?_
    show tw_P L xs _ 227 61 [.ref 88, .int (nI a), u1, .int (nI A), u2, .int b, .int (nI c)] [] σ _
    refine tw_sg 3 (i1 := 64) (ls1 := [.ref 88, .int (nI a), u1, .int (nI A), u2, .int b, .int (nI c)]) (st1 := [.int (nI c), .ref 94]) (σ1 := σ) rfl ?_
    refine tw_al (k := 94) (j := c) (len := 20) rfl rfl rfl rfl (rfl) (by omega) (by decide) ?_
    refine tw_sg 4 (i1 := 69) (ls1 := [.ref 88, .int (nI a), u1, .int (nI A), u2, .int b, .int (nI c)]) (st1 := [.int (nI a - nI A), .int (-(σ 94 c))]) (σ1 := σ) rfl ?_
    refine tw_bi (c := .le) rfl (fun h1 => ?_) (fun h1 => ?_)
    · rw [tw_cle] at h1
      refine tw_sgn 2 (i1 := 45) (ls0 := [.ref 88, .int (nI a), u1, .int (nI A), u2, .int b, .int (nI c + nI 1)]) (st0 := []) (σ0 := σ) (ls1 := [.ref 88, .int (nI a), u1, .int (nI A), u2, .int b, .int (nI (c + 1))]) (st1 := []) (σ1 := σ) rfl (by simp only [tw_nadd, tw_nmul]) (rfl) (rfl) ?_
      have e : (tw_gB (fun c => -(σ 94 c)) ((nI a - nI A))) c b = b := by
        unfold tw_gB
        first | rw [if_pos (tw_not_lt.mpr h1)] | rw [if_neg (tw_not_lt.mpr h1)]
      rw [tw_fo, e] at hQ
      exact ih (c + 1) _ (by omega) hQ
    · rw [tw_cle'] at h1
      refine tw_sgn 8 (i1 := 45) (ls0 := [.ref 88, .int (nI a), u1, .int (nI A), u2, .int (b ||| (nI 1 <<< (nI c &&& 31))), .int (nI c + nI 1)]) (st0 := []) (σ0 := σ) (ls1 := [.ref 88, .int (nI a), u1, .int (nI A), u2, .int (b ||| (nI 1 <<< (nI c &&& 31))), .int (nI (c + 1))]) (st1 := []) (σ1 := σ) rfl (by simp only [tw_nadd, tw_nmul]) (rfl) (rfl) ?_
      have e : (tw_gB (fun c => -(σ 94 c)) ((nI a - nI A))) c b = b ||| (nI 1 <<< (nI c &&& 31)) := by
        unfold tw_gB
        first | rw [if_pos (tw_not_le.mp h1)] | rw [if_neg (tw_not_le.mp h1)]
      rw [tw_fo, e] at hQ
      exact ih (c + 1) _ (by omega) hQ
set_option maxHeartbeats 4000000 in
set_option maxRecDepth 100000 in
theorem tw_o_undoing {L : Nat} {xs : Nat → Int32} (x : Int32) (y : Int32) : tw_op L xs 152 227 [.int x, .int y] := by
  intro σ hI
  obtain ⟨⟨n, r, hL⟩, hT, hPp, hPc, hLs, hIm, hC14, hC46, hC72⟩ := id hI
  obtain ⟨⟨hn10, hr50⟩, ⟨hn6, hn89⟩, ⟨hr9, hw9, hr90⟩, hCa, hRo, hLa⟩ := hL
  have hn6 : σ 6 4 = nI n := hn6
  have hn89 : σ 89 0 = nI n := hn89
  have hr9 : σ 9 3 = nI r := hr9
  have hw9 : σ 9 4 = nI n := hw9
  have hr90 : σ 90 0 = nI r := hr90
  have hTw : ∀ c, c < n → -50 ≤ (σ 94 c).toInt ∧ (σ 94 c).toInt ≤ 100 := fun c hc => by
    have h1 : σ 94 c = tw_sm (fun i => σ 98 (10 * i + c)) r := hI.2.2.2.2.2.2.2.2.2.1 n r hn10 hr50 hn89 hr90 c hc
    have h2 := tw_sm_b (w := fun i => σ 98 (10 * i + c)) r hr50
    rw [h1]; omega
  have hC3 : ∀ c, c < n → σ (2 * c + 18) 3 = σ 94 c := fun c hc => (tw_iCards0.mp hCa c hc).2.2.2
  have t1 : (fun c => σ 94 c * nI 1) = σ 94 := funext fun c => Int32.mul_one _
  have t2 : (fun c => nI 1 * σ 94 c) = σ 94 := funext fun c => Int32.one_mul _
  have t3 : (fun c => σ 94 c * (-1)) = fun c => -(σ 94 c) := funext fun c => tw_mulm _
  have t4 : (fun c => (-1) * σ 94 c) = fun c => -(σ 94 c) := funext fun c => by rw [Int32.mul_comm, tw_mulm]
  obtain ⟨A, hA, eA⟩ := tw_gG_b (t := σ 94) (n := n) (fun c hc => (hTw c hc).2) n 0 0 (by omega) (by omega)
  obtain ⟨B, hB, eB⟩ := tw_gG_b (t := fun c => -(σ 94 c)) (n := n) (fun c hc => by have := hTw c hc; show (-(σ 94 c)).toInt ≤ 100; rw [Int32.toInt_neg, Int.bmod_eq_of_le (by omega) (by omega)]; omega) n 0 0 (by omega) (by omega)
  rcases tw_within y 2 (by decide) with ⟨e, he, rfl⟩ | hy
  · rcases tw_within x (A + B) (by omega) with ⟨a, ha, rfl⟩ | hx
    · have hm : ¬ nI a < (-1) := fun h => tw_nge0 (a := a) (by omega) (tw_lt_tr h (by decide))
      have hm2 : ¬ nI a = (-1) := tw_nne1 (by omega)
      rcases (show e = 0 ∨ e = 1 by omega) with rfl | rfl
      · by_cases hz : a < A
        · skip
          show tw_P L xs _ 152 0 [.ref 1, .int (nI a), .int (nI 0), tw_U, tw_U, tw_U] [] σ _
          refine tw_sg 3 (i1 := 3) (ls1 := [.ref 1, .int (nI a), .int (nI 0), tw_U, tw_U, tw_U]) (st1 := [.int (nI 1), .ref 6]) (σ1 := σ) rfl ?_
          refine tw_cl1 rfl (rfl) (by decide) (tw_E_mono (tw_e_great (s := nI 1) hn6 hn10 hC3) (fun v σ1 h => (⟨by rw [h.1, t1, eA], h.2⟩ : v = some (.int (nI A)) ∧ σ = σ1))) ?_
          rintro _ _ ⟨rfl, rfl⟩
          show tw_P L xs _ 152 4 [.ref 1, .int (nI a), .int (nI 0), tw_U, tw_U, tw_U] [.int (nI A)] σ _
          refine tw_sg 5 (i1 := 9) (ls1 := [.ref 1, .int (nI a), .int (nI 0), .int (nI A), tw_U, tw_U]) (st1 := [.int (-1), .ref 6, .int (nI A)]) (σ1 := σ) rfl ?_
          refine tw_cl1 rfl (rfl) (by decide) (tw_E_mono (tw_e_great (s := (-1)) hn6 hn10 hC3) (fun v σ1 h => (⟨by rw [h.1, t3, eB], h.2⟩ : v = some (.int (nI B)) ∧ σ = σ1))) ?_
          rintro _ _ ⟨rfl, rfl⟩
          show tw_P L xs _ 152 10 [.ref 1, .int (nI a), .int (nI 0), .int (nI A), tw_U, tw_U] [.int (nI B), .int (nI A)] σ _
          refine tw_sgn 4 (i1 := 14) (ls0 := [.ref 1, .int (nI a), .int (nI 0), .int (nI A), .int (nI A + nI B), tw_U]) (st0 := [.int (-1), .int (nI a)]) (σ0 := σ) (ls1 := [.ref 1, .int (nI a), .int (nI 0), .int (nI A), .int (nI (A + B)), tw_U]) (st1 := [.int (-1), .int (nI a)]) (σ1 := σ) rfl (by simp only [tw_nadd, tw_nmul]) (rfl) (rfl) ?_
          refine tw_biF (c := .lt) rfl (by rw [tw_clt'] <;> (exact hm)) ?_
          show tw_P L xs _ 152 15 [.ref 1, .int (nI a), .int (nI 0), .int (nI A), .int (nI (A + B)), tw_U] [] σ _
          refine tw_sg 2 (i1 := 17) (ls1 := [.ref 1, .int (nI a), .int (nI 0), .int (nI A), .int (nI (A + B)), tw_U]) (st1 := [.int (nI (A + B)), .int (nI a)]) (σ1 := σ) rfl ?_
          refine tw_biF (c := .ge) rfl (by rw [tw_cge', tw_nle (by omega) (by omega)] <;> omega) ?_
          show tw_P L xs _ 152 18 [.ref 1, .int (nI a), .int (nI 0), .int (nI A), .int (nI (A + B)), tw_U] [] σ _
          refine tw_sg 1 (i1 := 19) (ls1 := [.ref 1, .int (nI a), .int (nI 0), .int (nI A), .int (nI (A + B)), tw_U]) (st1 := [.int (nI 0)]) (σ1 := σ) rfl ?_
          refine tw_bzF (c := .lt) rfl (by rw [tw_clt', tw_nlt (by omega) (by omega)] <;> omega) ?_
          show tw_P L xs _ 152 20 [.ref 1, .int (nI a), .int (nI 0), .int (nI A), .int (nI (A + B)), tw_U] [] σ _
          refine tw_sg 2 (i1 := 22) (ls1 := [.ref 1, .int (nI a), .int (nI 0), .int (nI A), .int (nI (A + B)), tw_U]) (st1 := [.int (nI 1), .int (nI 0)]) (σ1 := σ) rfl ?_
          refine tw_biT (c := .le) rfl (by rw [tw_cle, tw_nle (by omega) (by omega)] <;> omega) ?_
          show tw_P L xs _ 152 25 [.ref 1, .int (nI a), .int (nI 0), .int (nI A), .int (nI (A + B)), tw_U] [] σ _
          refine tw_sg 2 (i1 := 27) (ls1 := [.ref 1, .int (nI a), .int (nI 0), .int (nI A), .int (nI (A + B)), tw_U]) (st1 := [.int (-1), .int (nI a)]) (σ1 := σ) rfl ?_
          refine tw_biT (c := .ne) rfl (by rw [tw_cne] <;> (exact hm2)) ?_
          show tw_P L xs _ 152 30 [.ref 1, .int (nI a), .int (nI 0), .int (nI A), .int (nI (A + B)), tw_U] [] σ _
          refine tw_sg 2 (i1 := 32) (ls1 := [.ref 1, .int (nI a), .int (nI 0), .int (nI A), .int (nI (A + B)), tw_U]) (st1 := [.int (nI A), .int (nI a)]) (σ1 := σ) rfl ?_
          refine tw_biF (c := .ge) rfl (by rw [tw_cge', tw_nle (by omega) (by omega)] <;> omega) ?_
          show tw_P L xs _ 152 33 [.ref 1, .int (nI a), .int (nI 0), .int (nI A), .int (nI (A + B)), tw_U] [] σ _
          refine tw_sg 5 (i1 := 39) (ls1 := [.ref 1, .int (nI a), .int (nI 0), .int (nI A), .int (nI (A + B)), .int (nI 1)]) (st1 := [.int (nI 1), .int (nI 0)]) (σ1 := σ) rfl ?_
          refine tw_biT (c := .ne) rfl (by rw [tw_cne, tw_neq (by omega) (by omega)] <;> omega) ?_
          show tw_P L xs _ 152 46 [.ref 1, .int (nI a), .int (nI 0), .int (nI A), .int (nI (A + B)), .int (nI 1)] [] σ _
          refine tw_sg 1 (i1 := 47) (ls1 := [.ref 1, .int (nI a), .int (nI 0), .int (nI A), .int (nI (A + B)), .int (nI 1)]) (st1 := [.int (nI 1)]) (σ1 := σ) rfl ?_
          refine tw_bzF (c := .eq) rfl (by rw [tw_ceq', tw_neq (by omega) (by omega)] <;> omega) ?_
          show tw_P L xs _ 152 48 [.ref 1, .int (nI a), .int (nI 0), .int (nI A), .int (nI (A + B)), .int (nI 1)] [] σ _
          refine tw_sg 4 (i1 := 52) (ls1 := [.ref 1, .int (nI a), .int (nI 0), .int (nI A), .int (nI (A + B)), .int (nI 1)]) (st1 := [.int (nI 1), .int (nI a), .ref 6]) (σ1 := σ) rfl ?_
          refine tw_cl1 rfl (rfl) (by decide) (tw_E_mono (tw_e_beyond (x := nI a) (s := nI 1) hn6 hn10 hC3) (fun v σ1 h => (⟨by rw [h.1, t1], h.2⟩ : v = some (.int (tw_fo (tw_gB (σ 94) (nI a)) 0 n (nI 0))) ∧ σ = σ1))) ?_
          rintro _ _ ⟨rfl, rfl⟩
          show tw_P L xs _ 152 53 [.ref 1, .int (nI a), .int (nI 0), .int (nI A), .int (nI (A + B)), .int (nI 1)] [.int (tw_fo (tw_gB (σ 94) (nI a)) 0 n (nI 0))] σ _
          refine tw_sg 1 (i1 := 61) (ls1 := [.ref 1, .int (nI a), .int (nI 0), .int (nI A), .int (nI (A + B)), .int (nI 1)]) (st1 := [.int (tw_fo (tw_gB (σ 94) (nI a)) 0 n (nI 0))]) (σ1 := σ) rfl ?_
          refine tw_ri rfl (rfl) ?_
          refine ⟨_, rfl, ?_⟩
          show tw_P L xs _ 227 0 [.ref 88, .int (nI a), .int (nI 0), tw_U, tw_U, tw_U, tw_U] [] σ _
          refine tw_sg 3 (i1 := 3) (ls1 := [.ref 88, .int (nI a), .int (nI 0), tw_U, tw_U, tw_U, tw_U]) (st1 := [.int (nI 1), .int (nI 0), .int (nI 0)]) (σ1 := σ) rfl ?_
          refine tw_cl1 rfl (rfl) (by decide) (tw_e_in1 (tw_nge0 (by omega)) (by rw [tw_nlt (by omega) (by omega)]; omega)) ?_
          rintro _ _ ⟨rfl, rfl⟩
          show tw_P L xs _ 227 4 [.ref 88, .int (nI a), .int (nI 0), tw_U, tw_U, tw_U, tw_U] [.int (nI 1)] σ _
          refine tw_bzT (c := .ne) rfl (by rw [tw_cne, tw_neq (by omega) (by omega)] <;> omega) ?_
          show tw_P L xs _ 227 7 [.ref 88, .int (nI a), .int (nI 0), tw_U, tw_U, tw_U, tw_U] [] σ _
          refine tw_sg 2 (i1 := 9) (ls1 := [.ref 88, .int (nI a), .int (nI 0), tw_U, tw_U, tw_U, tw_U]) (st1 := [.int (nI 1), .ref 88]) (σ1 := σ) rfl ?_
          refine tw_cl1 rfl (rfl) (by decide) (tw_E_mono (tw_e_mgreat (s := nI 1) hn89 hn10) (fun v σ1 h => (⟨by rw [h.1, t2, eA], h.2⟩ : v = some (.int (nI A)) ∧ σ = σ1))) ?_
          rintro _ _ ⟨rfl, rfl⟩
          show tw_P L xs _ 227 10 [.ref 88, .int (nI a), .int (nI 0), tw_U, tw_U, tw_U, tw_U] [.int (nI A)] σ _
          refine tw_sg 4 (i1 := 14) (ls1 := [.ref 88, .int (nI a), .int (nI 0), .int (nI A), tw_U, tw_U, tw_U]) (st1 := [.int (-1), .ref 88, .int (nI A)]) (σ1 := σ) rfl ?_
          refine tw_cl1 rfl (rfl) (by decide) (tw_E_mono (tw_e_mgreat (s := (-1)) hn89 hn10) (fun v σ1 h => (⟨by rw [h.1, t4, eB], h.2⟩ : v = some (.int (nI B)) ∧ σ = σ1))) ?_
          rintro _ _ ⟨rfl, rfl⟩
          show tw_P L xs _ 227 15 [.ref 88, .int (nI a), .int (nI 0), .int (nI A), tw_U, tw_U, tw_U] [.int (nI B), .int (nI A)] σ _
          refine tw_sgn 4 (i1 := 19) (ls0 := [.ref 88, .int (nI a), .int (nI 0), .int (nI A), .int (nI A + nI B), tw_U, tw_U]) (st0 := [.int (-1), .int (nI a)]) (σ0 := σ) (ls1 := [.ref 88, .int (nI a), .int (nI 0), .int (nI A), .int (nI (A + B)), tw_U, tw_U]) (st1 := [.int (-1), .int (nI a)]) (σ1 := σ) rfl (by simp only [tw_nadd, tw_nmul]) (rfl) (rfl) ?_
          refine tw_biT (c := .ne) rfl (by rw [tw_cne] <;> (exact hm2)) ?_
          show tw_P L xs _ 227 22 [.ref 88, .int (nI a), .int (nI 0), .int (nI A), .int (nI (A + B)), tw_U, tw_U] [] σ _
          refine tw_sg 5 (i1 := 27) (ls1 := [.ref 88, .int (nI a), .int (nI 0), .int (nI A), .int (nI (A + B)), tw_U, tw_U]) (st1 := [.int (nI (A + B) - nI 1), .int (nI 0), .int (nI a)]) (σ1 := σ) rfl ?_
          refine tw_cl1 rfl (rfl) (by decide) (tw_e_inN1 (n := A + B) ha (by omega)) ?_
          rintro _ _ ⟨rfl, rfl⟩
          show tw_P L xs _ 227 28 [.ref 88, .int (nI a), .int (nI 0), .int (nI A), .int (nI (A + B)), tw_U, tw_U] [.int (nI 1)] σ _
          refine tw_bzT (c := .ne) rfl (by rw [tw_cne, tw_neq (by omega) (by omega)] <;> omega) ?_
          show tw_P L xs _ 227 31 [.ref 88, .int (nI a), .int (nI 0), .int (nI A), .int (nI (A + B)), tw_U, tw_U] [] σ _
          refine tw_sg 2 (i1 := 33) (ls1 := [.ref 88, .int (nI a), .int (nI 0), .int (nI A), .int (nI (A + B)), tw_U, tw_U]) (st1 := [.int (nI 1), .int (nI 0)]) (σ1 := σ) rfl ?_
          refine tw_biT (c := .ne) rfl (by rw [tw_cne, tw_neq (by omega) (by omega)] <;> omega) ?_
          show tw_P L xs _ 227 41 [.ref 88, .int (nI a), .int (nI 0), .int (nI A), .int (nI (A + B)), tw_U, tw_U] [] σ _
          refine tw_sg 4 (i1 := 45) (ls1 := [.ref 88, .int (nI a), .int (nI 0), .int (nI A), .int (nI (A + B)), .int (nI 0), .int (nI 0)]) (st1 := []) (σ1 := σ) rfl ?_
          refine tw_P_le (d := 0) (tw_l_setA hn89 hn10 (by omega) (by omega) hz n 0 _ (by omega) ?_) (by decide)
          refine tw_sg 1 (i1 := 79) (ls1 := _) (st1 := [.int (tw_fo (tw_gB (σ 94) (nI a)) 0 n (nI 0))]) (σ1 := σ) rfl ?_
          exact tw_ri rfl rfl ⟨rfl, hI⟩
        · skip
          show tw_P L xs _ 152 0 [.ref 1, .int (nI a), .int (nI 0), tw_U, tw_U, tw_U] [] σ _
          refine tw_sg 3 (i1 := 3) (ls1 := [.ref 1, .int (nI a), .int (nI 0), tw_U, tw_U, tw_U]) (st1 := [.int (nI 1), .ref 6]) (σ1 := σ) rfl ?_
          refine tw_cl1 rfl (rfl) (by decide) (tw_E_mono (tw_e_great (s := nI 1) hn6 hn10 hC3) (fun v σ1 h => (⟨by rw [h.1, t1, eA], h.2⟩ : v = some (.int (nI A)) ∧ σ = σ1))) ?_
          rintro _ _ ⟨rfl, rfl⟩
          show tw_P L xs _ 152 4 [.ref 1, .int (nI a), .int (nI 0), tw_U, tw_U, tw_U] [.int (nI A)] σ _
          refine tw_sg 5 (i1 := 9) (ls1 := [.ref 1, .int (nI a), .int (nI 0), .int (nI A), tw_U, tw_U]) (st1 := [.int (-1), .ref 6, .int (nI A)]) (σ1 := σ) rfl ?_
          refine tw_cl1 rfl (rfl) (by decide) (tw_E_mono (tw_e_great (s := (-1)) hn6 hn10 hC3) (fun v σ1 h => (⟨by rw [h.1, t3, eB], h.2⟩ : v = some (.int (nI B)) ∧ σ = σ1))) ?_
          rintro _ _ ⟨rfl, rfl⟩
          show tw_P L xs _ 152 10 [.ref 1, .int (nI a), .int (nI 0), .int (nI A), tw_U, tw_U] [.int (nI B), .int (nI A)] σ _
          refine tw_sgn 4 (i1 := 14) (ls0 := [.ref 1, .int (nI a), .int (nI 0), .int (nI A), .int (nI A + nI B), tw_U]) (st0 := [.int (-1), .int (nI a)]) (σ0 := σ) (ls1 := [.ref 1, .int (nI a), .int (nI 0), .int (nI A), .int (nI (A + B)), tw_U]) (st1 := [.int (-1), .int (nI a)]) (σ1 := σ) rfl (by simp only [tw_nadd, tw_nmul]) (rfl) (rfl) ?_
          refine tw_biF (c := .lt) rfl (by rw [tw_clt'] <;> (exact hm)) ?_
          show tw_P L xs _ 152 15 [.ref 1, .int (nI a), .int (nI 0), .int (nI A), .int (nI (A + B)), tw_U] [] σ _
          refine tw_sg 2 (i1 := 17) (ls1 := [.ref 1, .int (nI a), .int (nI 0), .int (nI A), .int (nI (A + B)), tw_U]) (st1 := [.int (nI (A + B)), .int (nI a)]) (σ1 := σ) rfl ?_
          refine tw_biF (c := .ge) rfl (by rw [tw_cge', tw_nle (by omega) (by omega)] <;> omega) ?_
          show tw_P L xs _ 152 18 [.ref 1, .int (nI a), .int (nI 0), .int (nI A), .int (nI (A + B)), tw_U] [] σ _
          refine tw_sg 1 (i1 := 19) (ls1 := [.ref 1, .int (nI a), .int (nI 0), .int (nI A), .int (nI (A + B)), tw_U]) (st1 := [.int (nI 0)]) (σ1 := σ) rfl ?_
          refine tw_bzF (c := .lt) rfl (by rw [tw_clt', tw_nlt (by omega) (by omega)] <;> omega) ?_
          show tw_P L xs _ 152 20 [.ref 1, .int (nI a), .int (nI 0), .int (nI A), .int (nI (A + B)), tw_U] [] σ _
          refine tw_sg 2 (i1 := 22) (ls1 := [.ref 1, .int (nI a), .int (nI 0), .int (nI A), .int (nI (A + B)), tw_U]) (st1 := [.int (nI 1), .int (nI 0)]) (σ1 := σ) rfl ?_
          refine tw_biT (c := .le) rfl (by rw [tw_cle, tw_nle (by omega) (by omega)] <;> omega) ?_
          show tw_P L xs _ 152 25 [.ref 1, .int (nI a), .int (nI 0), .int (nI A), .int (nI (A + B)), tw_U] [] σ _
          refine tw_sg 2 (i1 := 27) (ls1 := [.ref 1, .int (nI a), .int (nI 0), .int (nI A), .int (nI (A + B)), tw_U]) (st1 := [.int (-1), .int (nI a)]) (σ1 := σ) rfl ?_
          refine tw_biT (c := .ne) rfl (by rw [tw_cne] <;> (exact hm2)) ?_
          show tw_P L xs _ 152 30 [.ref 1, .int (nI a), .int (nI 0), .int (nI A), .int (nI (A + B)), tw_U] [] σ _
          refine tw_sg 2 (i1 := 32) (ls1 := [.ref 1, .int (nI a), .int (nI 0), .int (nI A), .int (nI (A + B)), tw_U]) (st1 := [.int (nI A), .int (nI a)]) (σ1 := σ) rfl ?_
          refine tw_biT (c := .ge) rfl (by rw [tw_cge, tw_nle (by omega) (by omega)] <;> omega) ?_
          show tw_P L xs _ 152 35 [.ref 1, .int (nI a), .int (nI 0), .int (nI A), .int (nI (A + B)), tw_U] [] σ _
          refine tw_sg 4 (i1 := 39) (ls1 := [.ref 1, .int (nI a), .int (nI 0), .int (nI A), .int (nI (A + B)), .int (nI 0)]) (st1 := [.int (nI 1), .int (nI 0)]) (σ1 := σ) rfl ?_
          refine tw_biT (c := .ne) rfl (by rw [tw_cne, tw_neq (by omega) (by omega)] <;> omega) ?_
          show tw_P L xs _ 152 46 [.ref 1, .int (nI a), .int (nI 0), .int (nI A), .int (nI (A + B)), .int (nI 0)] [] σ _
          refine tw_sg 1 (i1 := 47) (ls1 := [.ref 1, .int (nI a), .int (nI 0), .int (nI A), .int (nI (A + B)), .int (nI 0)]) (st1 := [.int (nI 0)]) (σ1 := σ) rfl ?_
          refine tw_bzT (c := .eq) rfl (by rw [tw_ceq, tw_neq (by omega) (by omega)] <;> omega) ?_
          show tw_P L xs _ 152 54 [.ref 1, .int (nI a), .int (nI 0), .int (nI A), .int (nI (A + B)), .int (nI 0)] [] σ _
          refine tw_sg 6 (i1 := 60) (ls1 := [.ref 1, .int (nI a), .int (nI 0), .int (nI A), .int (nI (A + B)), .int (nI 0)]) (st1 := [.int (-1), .int (nI a - nI A), .ref 6]) (σ1 := σ) rfl ?_
          refine tw_cl1 rfl (rfl) (by decide) (tw_E_mono (tw_e_beyond (x := nI a - nI A) (s := (-1)) hn6 hn10 hC3) (fun v σ1 h => (⟨by rw [h.1, t3], h.2⟩ : v = some (.int (tw_fo (tw_gB (fun c => -(σ 94 c)) (nI a - nI A)) 0 n (nI 0))) ∧ σ = σ1))) ?_
          rintro _ _ ⟨rfl, rfl⟩
          show tw_P L xs _ 152 61 [.ref 1, .int (nI a), .int (nI 0), .int (nI A), .int (nI (A + B)), .int (nI 0)] [.int (tw_fo (tw_gB (fun c => -(σ 94 c)) (nI a - nI A)) 0 n (nI 0))] σ _
          refine tw_ri rfl (rfl) ?_
          refine ⟨_, rfl, ?_⟩
          show tw_P L xs _ 227 0 [.ref 88, .int (nI a), .int (nI 0), tw_U, tw_U, tw_U, tw_U] [] σ _
          refine tw_sg 3 (i1 := 3) (ls1 := [.ref 88, .int (nI a), .int (nI 0), tw_U, tw_U, tw_U, tw_U]) (st1 := [.int (nI 1), .int (nI 0), .int (nI 0)]) (σ1 := σ) rfl ?_
          refine tw_cl1 rfl (rfl) (by decide) (tw_e_in1 (tw_nge0 (by omega)) (by rw [tw_nlt (by omega) (by omega)]; omega)) ?_
          rintro _ _ ⟨rfl, rfl⟩
          show tw_P L xs _ 227 4 [.ref 88, .int (nI a), .int (nI 0), tw_U, tw_U, tw_U, tw_U] [.int (nI 1)] σ _
          refine tw_bzT (c := .ne) rfl (by rw [tw_cne, tw_neq (by omega) (by omega)] <;> omega) ?_
          show tw_P L xs _ 227 7 [.ref 88, .int (nI a), .int (nI 0), tw_U, tw_U, tw_U, tw_U] [] σ _
          refine tw_sg 2 (i1 := 9) (ls1 := [.ref 88, .int (nI a), .int (nI 0), tw_U, tw_U, tw_U, tw_U]) (st1 := [.int (nI 1), .ref 88]) (σ1 := σ) rfl ?_
          refine tw_cl1 rfl (rfl) (by decide) (tw_E_mono (tw_e_mgreat (s := nI 1) hn89 hn10) (fun v σ1 h => (⟨by rw [h.1, t2, eA], h.2⟩ : v = some (.int (nI A)) ∧ σ = σ1))) ?_
          rintro _ _ ⟨rfl, rfl⟩
          show tw_P L xs _ 227 10 [.ref 88, .int (nI a), .int (nI 0), tw_U, tw_U, tw_U, tw_U] [.int (nI A)] σ _
          refine tw_sg 4 (i1 := 14) (ls1 := [.ref 88, .int (nI a), .int (nI 0), .int (nI A), tw_U, tw_U, tw_U]) (st1 := [.int (-1), .ref 88, .int (nI A)]) (σ1 := σ) rfl ?_
          refine tw_cl1 rfl (rfl) (by decide) (tw_E_mono (tw_e_mgreat (s := (-1)) hn89 hn10) (fun v σ1 h => (⟨by rw [h.1, t4, eB], h.2⟩ : v = some (.int (nI B)) ∧ σ = σ1))) ?_
          rintro _ _ ⟨rfl, rfl⟩
          show tw_P L xs _ 227 15 [.ref 88, .int (nI a), .int (nI 0), .int (nI A), tw_U, tw_U, tw_U] [.int (nI B), .int (nI A)] σ _
          refine tw_sgn 4 (i1 := 19) (ls0 := [.ref 88, .int (nI a), .int (nI 0), .int (nI A), .int (nI A + nI B), tw_U, tw_U]) (st0 := [.int (-1), .int (nI a)]) (σ0 := σ) (ls1 := [.ref 88, .int (nI a), .int (nI 0), .int (nI A), .int (nI (A + B)), tw_U, tw_U]) (st1 := [.int (-1), .int (nI a)]) (σ1 := σ) rfl (by simp only [tw_nadd, tw_nmul]) (rfl) (rfl) ?_
          refine tw_biT (c := .ne) rfl (by rw [tw_cne] <;> (exact hm2)) ?_
          show tw_P L xs _ 227 22 [.ref 88, .int (nI a), .int (nI 0), .int (nI A), .int (nI (A + B)), tw_U, tw_U] [] σ _
          refine tw_sg 5 (i1 := 27) (ls1 := [.ref 88, .int (nI a), .int (nI 0), .int (nI A), .int (nI (A + B)), tw_U, tw_U]) (st1 := [.int (nI (A + B) - nI 1), .int (nI 0), .int (nI a)]) (σ1 := σ) rfl ?_
          refine tw_cl1 rfl (rfl) (by decide) (tw_e_inN1 (n := A + B) ha (by omega)) ?_
          rintro _ _ ⟨rfl, rfl⟩
          show tw_P L xs _ 227 28 [.ref 88, .int (nI a), .int (nI 0), .int (nI A), .int (nI (A + B)), tw_U, tw_U] [.int (nI 1)] σ _
          refine tw_bzT (c := .ne) rfl (by rw [tw_cne, tw_neq (by omega) (by omega)] <;> omega) ?_
          show tw_P L xs _ 227 31 [.ref 88, .int (nI a), .int (nI 0), .int (nI A), .int (nI (A + B)), tw_U, tw_U] [] σ _
          refine tw_sg 2 (i1 := 33) (ls1 := [.ref 88, .int (nI a), .int (nI 0), .int (nI A), .int (nI (A + B)), tw_U, tw_U]) (st1 := [.int (nI 1), .int (nI 0)]) (σ1 := σ) rfl ?_
          refine tw_biT (c := .ne) rfl (by rw [tw_cne, tw_neq (by omega) (by omega)] <;> omega) ?_
          show tw_P L xs _ 227 41 [.ref 88, .int (nI a), .int (nI 0), .int (nI A), .int (nI (A + B)), tw_U, tw_U] [] σ _
          refine tw_sg 4 (i1 := 45) (ls1 := [.ref 88, .int (nI a), .int (nI 0), .int (nI A), .int (nI (A + B)), .int (nI 0), .int (nI 0)]) (st1 := []) (σ1 := σ) rfl ?_
          refine tw_P_le (d := 0) (tw_l_setB hn89 hn10 (by omega) (by omega) hz n 0 _ (by omega) ?_) (by decide)
          refine tw_sg 1 (i1 := 79) (ls1 := _) (st1 := [.int (tw_fo (tw_gB (fun c => -(σ 94 c)) (nI a - nI A)) 0 n (nI 0))]) (σ1 := σ) rfl ?_
          exact tw_ri rfl rfl ⟨rfl, hI⟩
      · by_cases hz : a < A
        · skip
          show tw_P L xs _ 152 0 [.ref 1, .int (nI a), .int (nI 1), tw_U, tw_U, tw_U] [] σ _
          refine tw_sg 3 (i1 := 3) (ls1 := [.ref 1, .int (nI a), .int (nI 1), tw_U, tw_U, tw_U]) (st1 := [.int (nI 1), .ref 6]) (σ1 := σ) rfl ?_
          refine tw_cl1 rfl (rfl) (by decide) (tw_E_mono (tw_e_great (s := nI 1) hn6 hn10 hC3) (fun v σ1 h => (⟨by rw [h.1, t1, eA], h.2⟩ : v = some (.int (nI A)) ∧ σ = σ1))) ?_
          rintro _ _ ⟨rfl, rfl⟩
          show tw_P L xs _ 152 4 [.ref 1, .int (nI a), .int (nI 1), tw_U, tw_U, tw_U] [.int (nI A)] σ _
          refine tw_sg 5 (i1 := 9) (ls1 := [.ref 1, .int (nI a), .int (nI 1), .int (nI A), tw_U, tw_U]) (st1 := [.int (-1), .ref 6, .int (nI A)]) (σ1 := σ) rfl ?_
          refine tw_cl1 rfl (rfl) (by decide) (tw_E_mono (tw_e_great (s := (-1)) hn6 hn10 hC3) (fun v σ1 h => (⟨by rw [h.1, t3, eB], h.2⟩ : v = some (.int (nI B)) ∧ σ = σ1))) ?_
          rintro _ _ ⟨rfl, rfl⟩
          show tw_P L xs _ 152 10 [.ref 1, .int (nI a), .int (nI 1), .int (nI A), tw_U, tw_U] [.int (nI B), .int (nI A)] σ _
          refine tw_sgn 4 (i1 := 14) (ls0 := [.ref 1, .int (nI a), .int (nI 1), .int (nI A), .int (nI A + nI B), tw_U]) (st0 := [.int (-1), .int (nI a)]) (σ0 := σ) (ls1 := [.ref 1, .int (nI a), .int (nI 1), .int (nI A), .int (nI (A + B)), tw_U]) (st1 := [.int (-1), .int (nI a)]) (σ1 := σ) rfl (by simp only [tw_nadd, tw_nmul]) (rfl) (rfl) ?_
          refine tw_biF (c := .lt) rfl (by rw [tw_clt'] <;> (exact hm)) ?_
          show tw_P L xs _ 152 15 [.ref 1, .int (nI a), .int (nI 1), .int (nI A), .int (nI (A + B)), tw_U] [] σ _
          refine tw_sg 2 (i1 := 17) (ls1 := [.ref 1, .int (nI a), .int (nI 1), .int (nI A), .int (nI (A + B)), tw_U]) (st1 := [.int (nI (A + B)), .int (nI a)]) (σ1 := σ) rfl ?_
          refine tw_biF (c := .ge) rfl (by rw [tw_cge', tw_nle (by omega) (by omega)] <;> omega) ?_
          show tw_P L xs _ 152 18 [.ref 1, .int (nI a), .int (nI 1), .int (nI A), .int (nI (A + B)), tw_U] [] σ _
          refine tw_sg 1 (i1 := 19) (ls1 := [.ref 1, .int (nI a), .int (nI 1), .int (nI A), .int (nI (A + B)), tw_U]) (st1 := [.int (nI 1)]) (σ1 := σ) rfl ?_
          refine tw_bzF (c := .lt) rfl (by rw [tw_clt', tw_nlt (by omega) (by omega)] <;> omega) ?_
          show tw_P L xs _ 152 20 [.ref 1, .int (nI a), .int (nI 1), .int (nI A), .int (nI (A + B)), tw_U] [] σ _
          refine tw_sg 2 (i1 := 22) (ls1 := [.ref 1, .int (nI a), .int (nI 1), .int (nI A), .int (nI (A + B)), tw_U]) (st1 := [.int (nI 1), .int (nI 1)]) (σ1 := σ) rfl ?_
          refine tw_biT (c := .le) rfl (by rw [tw_cle, tw_nle (by omega) (by omega)] <;> omega) ?_
          show tw_P L xs _ 152 25 [.ref 1, .int (nI a), .int (nI 1), .int (nI A), .int (nI (A + B)), tw_U] [] σ _
          refine tw_sg 2 (i1 := 27) (ls1 := [.ref 1, .int (nI a), .int (nI 1), .int (nI A), .int (nI (A + B)), tw_U]) (st1 := [.int (-1), .int (nI a)]) (σ1 := σ) rfl ?_
          refine tw_biT (c := .ne) rfl (by rw [tw_cne] <;> (exact hm2)) ?_
          show tw_P L xs _ 152 30 [.ref 1, .int (nI a), .int (nI 1), .int (nI A), .int (nI (A + B)), tw_U] [] σ _
          refine tw_sg 2 (i1 := 32) (ls1 := [.ref 1, .int (nI a), .int (nI 1), .int (nI A), .int (nI (A + B)), tw_U]) (st1 := [.int (nI A), .int (nI a)]) (σ1 := σ) rfl ?_
          refine tw_biF (c := .ge) rfl (by rw [tw_cge', tw_nle (by omega) (by omega)] <;> omega) ?_
          show tw_P L xs _ 152 33 [.ref 1, .int (nI a), .int (nI 1), .int (nI A), .int (nI (A + B)), tw_U] [] σ _
          refine tw_sg 5 (i1 := 39) (ls1 := [.ref 1, .int (nI a), .int (nI 1), .int (nI A), .int (nI (A + B)), .int (nI 1)]) (st1 := [.int (nI 1), .int (nI 1)]) (σ1 := σ) rfl ?_
          refine tw_biF (c := .ne) rfl (by rw [tw_cne', tw_neq (by omega) (by omega)] <;> omega) ?_
          show tw_P L xs _ 152 40 [.ref 1, .int (nI a), .int (nI 1), .int (nI A), .int (nI (A + B)), .int (nI 1)] [] σ _
          refine tw_sg 1 (i1 := 41) (ls1 := [.ref 1, .int (nI a), .int (nI 1), .int (nI A), .int (nI (A + B)), .int (nI 1)]) (st1 := [.int (nI 1)]) (σ1 := σ) rfl ?_
          refine tw_bzF (c := .eq) rfl (by rw [tw_ceq', tw_neq (by omega) (by omega)] <;> omega) ?_
          show tw_P L xs _ 152 42 [.ref 1, .int (nI a), .int (nI 1), .int (nI A), .int (nI (A + B)), .int (nI 1)] [] σ _
          refine tw_sg 2 (i1 := 45) (ls1 := [.ref 1, .int (nI a), .int (nI 1), .int (nI A), .int (nI (A + B)), .int (nI 1)]) (st1 := [.int (nI 2)]) (σ1 := σ) rfl ?_
          refine tw_ri rfl (rfl) ?_
          refine ⟨_, rfl, ?_⟩
          show tw_P L xs _ 227 0 [.ref 88, .int (nI a), .int (nI 1), tw_U, tw_U, tw_U, tw_U] [] σ _
          refine tw_sg 3 (i1 := 3) (ls1 := [.ref 88, .int (nI a), .int (nI 1), tw_U, tw_U, tw_U, tw_U]) (st1 := [.int (nI 1), .int (nI 0), .int (nI 1)]) (σ1 := σ) rfl ?_
          refine tw_cl1 rfl (rfl) (by decide) (tw_e_in1 (tw_nge0 (by omega)) (by rw [tw_nlt (by omega) (by omega)]; omega)) ?_
          rintro _ _ ⟨rfl, rfl⟩
          show tw_P L xs _ 227 4 [.ref 88, .int (nI a), .int (nI 1), tw_U, tw_U, tw_U, tw_U] [.int (nI 1)] σ _
          refine tw_bzT (c := .ne) rfl (by rw [tw_cne, tw_neq (by omega) (by omega)] <;> omega) ?_
          show tw_P L xs _ 227 7 [.ref 88, .int (nI a), .int (nI 1), tw_U, tw_U, tw_U, tw_U] [] σ _
          refine tw_sg 2 (i1 := 9) (ls1 := [.ref 88, .int (nI a), .int (nI 1), tw_U, tw_U, tw_U, tw_U]) (st1 := [.int (nI 1), .ref 88]) (σ1 := σ) rfl ?_
          refine tw_cl1 rfl (rfl) (by decide) (tw_E_mono (tw_e_mgreat (s := nI 1) hn89 hn10) (fun v σ1 h => (⟨by rw [h.1, t2, eA], h.2⟩ : v = some (.int (nI A)) ∧ σ = σ1))) ?_
          rintro _ _ ⟨rfl, rfl⟩
          show tw_P L xs _ 227 10 [.ref 88, .int (nI a), .int (nI 1), tw_U, tw_U, tw_U, tw_U] [.int (nI A)] σ _
          refine tw_sg 4 (i1 := 14) (ls1 := [.ref 88, .int (nI a), .int (nI 1), .int (nI A), tw_U, tw_U, tw_U]) (st1 := [.int (-1), .ref 88, .int (nI A)]) (σ1 := σ) rfl ?_
          refine tw_cl1 rfl (rfl) (by decide) (tw_E_mono (tw_e_mgreat (s := (-1)) hn89 hn10) (fun v σ1 h => (⟨by rw [h.1, t4, eB], h.2⟩ : v = some (.int (nI B)) ∧ σ = σ1))) ?_
          rintro _ _ ⟨rfl, rfl⟩
          show tw_P L xs _ 227 15 [.ref 88, .int (nI a), .int (nI 1), .int (nI A), tw_U, tw_U, tw_U] [.int (nI B), .int (nI A)] σ _
          refine tw_sgn 4 (i1 := 19) (ls0 := [.ref 88, .int (nI a), .int (nI 1), .int (nI A), .int (nI A + nI B), tw_U, tw_U]) (st0 := [.int (-1), .int (nI a)]) (σ0 := σ) (ls1 := [.ref 88, .int (nI a), .int (nI 1), .int (nI A), .int (nI (A + B)), tw_U, tw_U]) (st1 := [.int (-1), .int (nI a)]) (σ1 := σ) rfl (by simp only [tw_nadd, tw_nmul]) (rfl) (rfl) ?_
          refine tw_biT (c := .ne) rfl (by rw [tw_cne] <;> (exact hm2)) ?_
          show tw_P L xs _ 227 22 [.ref 88, .int (nI a), .int (nI 1), .int (nI A), .int (nI (A + B)), tw_U, tw_U] [] σ _
          refine tw_sg 5 (i1 := 27) (ls1 := [.ref 88, .int (nI a), .int (nI 1), .int (nI A), .int (nI (A + B)), tw_U, tw_U]) (st1 := [.int (nI (A + B) - nI 1), .int (nI 0), .int (nI a)]) (σ1 := σ) rfl ?_
          refine tw_cl1 rfl (rfl) (by decide) (tw_e_inN1 (n := A + B) ha (by omega)) ?_
          rintro _ _ ⟨rfl, rfl⟩
          show tw_P L xs _ 227 28 [.ref 88, .int (nI a), .int (nI 1), .int (nI A), .int (nI (A + B)), tw_U, tw_U] [.int (nI 1)] σ _
          refine tw_bzT (c := .ne) rfl (by rw [tw_cne, tw_neq (by omega) (by omega)] <;> omega) ?_
          show tw_P L xs _ 227 31 [.ref 88, .int (nI a), .int (nI 1), .int (nI A), .int (nI (A + B)), tw_U, tw_U] [] σ _
          refine tw_sg 2 (i1 := 33) (ls1 := [.ref 88, .int (nI a), .int (nI 1), .int (nI A), .int (nI (A + B)), tw_U, tw_U]) (st1 := [.int (nI 1), .int (nI 1)]) (σ1 := σ) rfl ?_
          refine tw_biF (c := .ne) rfl (by rw [tw_cne', tw_neq (by omega) (by omega)] <;> omega) ?_
          show tw_P L xs _ 227 34 [.ref 88, .int (nI a), .int (nI 1), .int (nI A), .int (nI (A + B)), tw_U, tw_U] [] σ _
          refine tw_sg 2 (i1 := 36) (ls1 := [.ref 88, .int (nI a), .int (nI 1), .int (nI A), .int (nI (A + B)), tw_U, tw_U]) (st1 := [.int (nI A), .int (nI a)]) (σ1 := σ) rfl ?_
          refine tw_biF (c := .ge) rfl (by rw [tw_cge', tw_nle (by omega) (by omega)] <;> omega) ?_
          show tw_P L xs _ 227 37 [.ref 88, .int (nI a), .int (nI 1), .int (nI A), .int (nI (A + B)), tw_U, tw_U] [] σ _
          refine tw_sg 2 (i1 := 40) (ls1 := [.ref 88, .int (nI a), .int (nI 1), .int (nI A), .int (nI (A + B)), tw_U, tw_U]) (st1 := [.int (nI 2)]) (σ1 := σ) rfl ?_
          refine tw_ri rfl (rfl) ?_
          exact ⟨rfl, hI⟩
        · skip
          show tw_P L xs _ 152 0 [.ref 1, .int (nI a), .int (nI 1), tw_U, tw_U, tw_U] [] σ _
          refine tw_sg 3 (i1 := 3) (ls1 := [.ref 1, .int (nI a), .int (nI 1), tw_U, tw_U, tw_U]) (st1 := [.int (nI 1), .ref 6]) (σ1 := σ) rfl ?_
          refine tw_cl1 rfl (rfl) (by decide) (tw_E_mono (tw_e_great (s := nI 1) hn6 hn10 hC3) (fun v σ1 h => (⟨by rw [h.1, t1, eA], h.2⟩ : v = some (.int (nI A)) ∧ σ = σ1))) ?_
          rintro _ _ ⟨rfl, rfl⟩
          show tw_P L xs _ 152 4 [.ref 1, .int (nI a), .int (nI 1), tw_U, tw_U, tw_U] [.int (nI A)] σ _
          refine tw_sg 5 (i1 := 9) (ls1 := [.ref 1, .int (nI a), .int (nI 1), .int (nI A), tw_U, tw_U]) (st1 := [.int (-1), .ref 6, .int (nI A)]) (σ1 := σ) rfl ?_
          refine tw_cl1 rfl (rfl) (by decide) (tw_E_mono (tw_e_great (s := (-1)) hn6 hn10 hC3) (fun v σ1 h => (⟨by rw [h.1, t3, eB], h.2⟩ : v = some (.int (nI B)) ∧ σ = σ1))) ?_
          rintro _ _ ⟨rfl, rfl⟩
          show tw_P L xs _ 152 10 [.ref 1, .int (nI a), .int (nI 1), .int (nI A), tw_U, tw_U] [.int (nI B), .int (nI A)] σ _
          refine tw_sgn 4 (i1 := 14) (ls0 := [.ref 1, .int (nI a), .int (nI 1), .int (nI A), .int (nI A + nI B), tw_U]) (st0 := [.int (-1), .int (nI a)]) (σ0 := σ) (ls1 := [.ref 1, .int (nI a), .int (nI 1), .int (nI A), .int (nI (A + B)), tw_U]) (st1 := [.int (-1), .int (nI a)]) (σ1 := σ) rfl (by simp only [tw_nadd, tw_nmul]) (rfl) (rfl) ?_
          refine tw_biF (c := .lt) rfl (by rw [tw_clt'] <;> (exact hm)) ?_
          show tw_P L xs _ 152 15 [.ref 1, .int (nI a), .int (nI 1), .int (nI A), .int (nI (A + B)), tw_U] [] σ _
          refine tw_sg 2 (i1 := 17) (ls1 := [.ref 1, .int (nI a), .int (nI 1), .int (nI A), .int (nI (A + B)), tw_U]) (st1 := [.int (nI (A + B)), .int (nI a)]) (σ1 := σ) rfl ?_
          refine tw_biF (c := .ge) rfl (by rw [tw_cge', tw_nle (by omega) (by omega)] <;> omega) ?_
          show tw_P L xs _ 152 18 [.ref 1, .int (nI a), .int (nI 1), .int (nI A), .int (nI (A + B)), tw_U] [] σ _
          refine tw_sg 1 (i1 := 19) (ls1 := [.ref 1, .int (nI a), .int (nI 1), .int (nI A), .int (nI (A + B)), tw_U]) (st1 := [.int (nI 1)]) (σ1 := σ) rfl ?_
          refine tw_bzF (c := .lt) rfl (by rw [tw_clt', tw_nlt (by omega) (by omega)] <;> omega) ?_
          show tw_P L xs _ 152 20 [.ref 1, .int (nI a), .int (nI 1), .int (nI A), .int (nI (A + B)), tw_U] [] σ _
          refine tw_sg 2 (i1 := 22) (ls1 := [.ref 1, .int (nI a), .int (nI 1), .int (nI A), .int (nI (A + B)), tw_U]) (st1 := [.int (nI 1), .int (nI 1)]) (σ1 := σ) rfl ?_
          refine tw_biT (c := .le) rfl (by rw [tw_cle, tw_nle (by omega) (by omega)] <;> omega) ?_
          show tw_P L xs _ 152 25 [.ref 1, .int (nI a), .int (nI 1), .int (nI A), .int (nI (A + B)), tw_U] [] σ _
          refine tw_sg 2 (i1 := 27) (ls1 := [.ref 1, .int (nI a), .int (nI 1), .int (nI A), .int (nI (A + B)), tw_U]) (st1 := [.int (-1), .int (nI a)]) (σ1 := σ) rfl ?_
          refine tw_biT (c := .ne) rfl (by rw [tw_cne] <;> (exact hm2)) ?_
          show tw_P L xs _ 152 30 [.ref 1, .int (nI a), .int (nI 1), .int (nI A), .int (nI (A + B)), tw_U] [] σ _
          refine tw_sg 2 (i1 := 32) (ls1 := [.ref 1, .int (nI a), .int (nI 1), .int (nI A), .int (nI (A + B)), tw_U]) (st1 := [.int (nI A), .int (nI a)]) (σ1 := σ) rfl ?_
          refine tw_biT (c := .ge) rfl (by rw [tw_cge, tw_nle (by omega) (by omega)] <;> omega) ?_
          show tw_P L xs _ 152 35 [.ref 1, .int (nI a), .int (nI 1), .int (nI A), .int (nI (A + B)), tw_U] [] σ _
          refine tw_sg 4 (i1 := 39) (ls1 := [.ref 1, .int (nI a), .int (nI 1), .int (nI A), .int (nI (A + B)), .int (nI 0)]) (st1 := [.int (nI 1), .int (nI 1)]) (σ1 := σ) rfl ?_
          refine tw_biF (c := .ne) rfl (by rw [tw_cne', tw_neq (by omega) (by omega)] <;> omega) ?_
          show tw_P L xs _ 152 40 [.ref 1, .int (nI a), .int (nI 1), .int (nI A), .int (nI (A + B)), .int (nI 0)] [] σ _
          refine tw_sg 1 (i1 := 41) (ls1 := [.ref 1, .int (nI a), .int (nI 1), .int (nI A), .int (nI (A + B)), .int (nI 0)]) (st1 := [.int (nI 0)]) (σ1 := σ) rfl ?_
          refine tw_bzT (c := .eq) rfl (by rw [tw_ceq, tw_neq (by omega) (by omega)] <;> omega) ?_
          show tw_P L xs _ 152 44 [.ref 1, .int (nI a), .int (nI 1), .int (nI A), .int (nI (A + B)), .int (nI 0)] [] σ _
          refine tw_sg 1 (i1 := 45) (ls1 := [.ref 1, .int (nI a), .int (nI 1), .int (nI A), .int (nI (A + B)), .int (nI 0)]) (st1 := [.int (nI 1)]) (σ1 := σ) rfl ?_
          refine tw_ri rfl (rfl) ?_
          refine ⟨_, rfl, ?_⟩
          show tw_P L xs _ 227 0 [.ref 88, .int (nI a), .int (nI 1), tw_U, tw_U, tw_U, tw_U] [] σ _
          refine tw_sg 3 (i1 := 3) (ls1 := [.ref 88, .int (nI a), .int (nI 1), tw_U, tw_U, tw_U, tw_U]) (st1 := [.int (nI 1), .int (nI 0), .int (nI 1)]) (σ1 := σ) rfl ?_
          refine tw_cl1 rfl (rfl) (by decide) (tw_e_in1 (tw_nge0 (by omega)) (by rw [tw_nlt (by omega) (by omega)]; omega)) ?_
          rintro _ _ ⟨rfl, rfl⟩
          show tw_P L xs _ 227 4 [.ref 88, .int (nI a), .int (nI 1), tw_U, tw_U, tw_U, tw_U] [.int (nI 1)] σ _
          refine tw_bzT (c := .ne) rfl (by rw [tw_cne, tw_neq (by omega) (by omega)] <;> omega) ?_
          show tw_P L xs _ 227 7 [.ref 88, .int (nI a), .int (nI 1), tw_U, tw_U, tw_U, tw_U] [] σ _
          refine tw_sg 2 (i1 := 9) (ls1 := [.ref 88, .int (nI a), .int (nI 1), tw_U, tw_U, tw_U, tw_U]) (st1 := [.int (nI 1), .ref 88]) (σ1 := σ) rfl ?_
          refine tw_cl1 rfl (rfl) (by decide) (tw_E_mono (tw_e_mgreat (s := nI 1) hn89 hn10) (fun v σ1 h => (⟨by rw [h.1, t2, eA], h.2⟩ : v = some (.int (nI A)) ∧ σ = σ1))) ?_
          rintro _ _ ⟨rfl, rfl⟩
          show tw_P L xs _ 227 10 [.ref 88, .int (nI a), .int (nI 1), tw_U, tw_U, tw_U, tw_U] [.int (nI A)] σ _
          refine tw_sg 4 (i1 := 14) (ls1 := [.ref 88, .int (nI a), .int (nI 1), .int (nI A), tw_U, tw_U, tw_U]) (st1 := [.int (-1), .ref 88, .int (nI A)]) (σ1 := σ) rfl ?_
          refine tw_cl1 rfl (rfl) (by decide) (tw_E_mono (tw_e_mgreat (s := (-1)) hn89 hn10) (fun v σ1 h => (⟨by rw [h.1, t4, eB], h.2⟩ : v = some (.int (nI B)) ∧ σ = σ1))) ?_
          rintro _ _ ⟨rfl, rfl⟩
          show tw_P L xs _ 227 15 [.ref 88, .int (nI a), .int (nI 1), .int (nI A), tw_U, tw_U, tw_U] [.int (nI B), .int (nI A)] σ _
          refine tw_sgn 4 (i1 := 19) (ls0 := [.ref 88, .int (nI a), .int (nI 1), .int (nI A), .int (nI A + nI B), tw_U, tw_U]) (st0 := [.int (-1), .int (nI a)]) (σ0 := σ) (ls1 := [.ref 88, .int (nI a), .int (nI 1), .int (nI A), .int (nI (A + B)), tw_U, tw_U]) (st1 := [.int (-1), .int (nI a)]) (σ1 := σ) rfl (by simp only [tw_nadd, tw_nmul]) (rfl) (rfl) ?_
          refine tw_biT (c := .ne) rfl (by rw [tw_cne] <;> (exact hm2)) ?_
          show tw_P L xs _ 227 22 [.ref 88, .int (nI a), .int (nI 1), .int (nI A), .int (nI (A + B)), tw_U, tw_U] [] σ _
          refine tw_sg 5 (i1 := 27) (ls1 := [.ref 88, .int (nI a), .int (nI 1), .int (nI A), .int (nI (A + B)), tw_U, tw_U]) (st1 := [.int (nI (A + B) - nI 1), .int (nI 0), .int (nI a)]) (σ1 := σ) rfl ?_
          refine tw_cl1 rfl (rfl) (by decide) (tw_e_inN1 (n := A + B) ha (by omega)) ?_
          rintro _ _ ⟨rfl, rfl⟩
          show tw_P L xs _ 227 28 [.ref 88, .int (nI a), .int (nI 1), .int (nI A), .int (nI (A + B)), tw_U, tw_U] [.int (nI 1)] σ _
          refine tw_bzT (c := .ne) rfl (by rw [tw_cne, tw_neq (by omega) (by omega)] <;> omega) ?_
          show tw_P L xs _ 227 31 [.ref 88, .int (nI a), .int (nI 1), .int (nI A), .int (nI (A + B)), tw_U, tw_U] [] σ _
          refine tw_sg 2 (i1 := 33) (ls1 := [.ref 88, .int (nI a), .int (nI 1), .int (nI A), .int (nI (A + B)), tw_U, tw_U]) (st1 := [.int (nI 1), .int (nI 1)]) (σ1 := σ) rfl ?_
          refine tw_biF (c := .ne) rfl (by rw [tw_cne', tw_neq (by omega) (by omega)] <;> omega) ?_
          show tw_P L xs _ 227 34 [.ref 88, .int (nI a), .int (nI 1), .int (nI A), .int (nI (A + B)), tw_U, tw_U] [] σ _
          refine tw_sg 2 (i1 := 36) (ls1 := [.ref 88, .int (nI a), .int (nI 1), .int (nI A), .int (nI (A + B)), tw_U, tw_U]) (st1 := [.int (nI A), .int (nI a)]) (σ1 := σ) rfl ?_
          refine tw_biT (c := .ge) rfl (by rw [tw_cge, tw_nle (by omega) (by omega)] <;> omega) ?_
          show tw_P L xs _ 227 39 [.ref 88, .int (nI a), .int (nI 1), .int (nI A), .int (nI (A + B)), tw_U, tw_U] [] σ _
          refine tw_sg 1 (i1 := 40) (ls1 := [.ref 88, .int (nI a), .int (nI 1), .int (nI A), .int (nI (A + B)), tw_U, tw_U]) (st1 := [.int (nI 1)]) (σ1 := σ) rfl ?_
          refine tw_ri rfl (rfl) ?_
          exact ⟨rfl, hI⟩
    · by_cases hm : x = (-1)
      · subst hm
        rcases (show e = 0 ∨ e = 1 by omega) with rfl | rfl
        · skip
          show tw_P L xs _ 152 0 [.ref 1, .int (-1), .int (nI 0), tw_U, tw_U, tw_U] [] σ _
          refine tw_sg 3 (i1 := 3) (ls1 := [.ref 1, .int (-1), .int (nI 0), tw_U, tw_U, tw_U]) (st1 := [.int (nI 1), .ref 6]) (σ1 := σ) rfl ?_
          refine tw_cl1 rfl (rfl) (by decide) (tw_E_mono (tw_e_great (s := nI 1) hn6 hn10 hC3) (fun v σ1 h => (⟨by rw [h.1, t1, eA], h.2⟩ : v = some (.int (nI A)) ∧ σ = σ1))) ?_
          rintro _ _ ⟨rfl, rfl⟩
          show tw_P L xs _ 152 4 [.ref 1, .int (-1), .int (nI 0), tw_U, tw_U, tw_U] [.int (nI A)] σ _
          refine tw_sg 5 (i1 := 9) (ls1 := [.ref 1, .int (-1), .int (nI 0), .int (nI A), tw_U, tw_U]) (st1 := [.int (-1), .ref 6, .int (nI A)]) (σ1 := σ) rfl ?_
          refine tw_cl1 rfl (rfl) (by decide) (tw_E_mono (tw_e_great (s := (-1)) hn6 hn10 hC3) (fun v σ1 h => (⟨by rw [h.1, t3, eB], h.2⟩ : v = some (.int (nI B)) ∧ σ = σ1))) ?_
          rintro _ _ ⟨rfl, rfl⟩
          show tw_P L xs _ 152 10 [.ref 1, .int (-1), .int (nI 0), .int (nI A), tw_U, tw_U] [.int (nI B), .int (nI A)] σ _
          refine tw_sgn 4 (i1 := 14) (ls0 := [.ref 1, .int (-1), .int (nI 0), .int (nI A), .int (nI A + nI B), tw_U]) (st0 := [.int (-1), .int (-1)]) (σ0 := σ) (ls1 := [.ref 1, .int (-1), .int (nI 0), .int (nI A), .int (nI (A + B)), tw_U]) (st1 := [.int (-1), .int (-1)]) (σ1 := σ) rfl (by simp only [tw_nadd, tw_nmul]) (rfl) (rfl) ?_
          refine tw_biF (c := .lt) rfl (by rw [tw_clt'] <;> (exact (by decide))) ?_
          show tw_P L xs _ 152 15 [.ref 1, .int (-1), .int (nI 0), .int (nI A), .int (nI (A + B)), tw_U] [] σ _
          refine tw_sg 2 (i1 := 17) (ls1 := [.ref 1, .int (-1), .int (nI 0), .int (nI A), .int (nI (A + B)), tw_U]) (st1 := [.int (nI (A + B)), .int (-1)]) (σ1 := σ) rfl ?_
          refine tw_biF (c := .ge) rfl (by rw [tw_cge'] <;> (exact tw_not_le.mpr (tw_neg_lt (by decide) (by omega)))) ?_
          show tw_P L xs _ 152 18 [.ref 1, .int (-1), .int (nI 0), .int (nI A), .int (nI (A + B)), tw_U] [] σ _
          refine tw_sg 1 (i1 := 19) (ls1 := [.ref 1, .int (-1), .int (nI 0), .int (nI A), .int (nI (A + B)), tw_U]) (st1 := [.int (nI 0)]) (σ1 := σ) rfl ?_
          refine tw_bzF (c := .lt) rfl (by rw [tw_clt', tw_nlt (by omega) (by omega)] <;> omega) ?_
          show tw_P L xs _ 152 20 [.ref 1, .int (-1), .int (nI 0), .int (nI A), .int (nI (A + B)), tw_U] [] σ _
          refine tw_sg 2 (i1 := 22) (ls1 := [.ref 1, .int (-1), .int (nI 0), .int (nI A), .int (nI (A + B)), tw_U]) (st1 := [.int (nI 1), .int (nI 0)]) (σ1 := σ) rfl ?_
          refine tw_biT (c := .le) rfl (by rw [tw_cle, tw_nle (by omega) (by omega)] <;> omega) ?_
          show tw_P L xs _ 152 25 [.ref 1, .int (-1), .int (nI 0), .int (nI A), .int (nI (A + B)), tw_U] [] σ _
          refine tw_sg 2 (i1 := 27) (ls1 := [.ref 1, .int (-1), .int (nI 0), .int (nI A), .int (nI (A + B)), tw_U]) (st1 := [.int (-1), .int (-1)]) (σ1 := σ) rfl ?_
          refine tw_biF (c := .ne) rfl (by rw [tw_cne'] <;> (exact rfl)) ?_
          show tw_P L xs _ 152 28 [.ref 1, .int (-1), .int (nI 0), .int (nI A), .int (nI (A + B)), tw_U] [] σ _
          refine tw_sg 1 (i1 := 29) (ls1 := [.ref 1, .int (-1), .int (nI 0), .int (nI A), .int (nI (A + B)), tw_U]) (st1 := [.int (nI (A + B))]) (σ1 := σ) rfl ?_
          refine tw_ri rfl (rfl) ?_
          refine ⟨_, rfl, ?_⟩
          show tw_P L xs _ 227 0 [.ref 88, .int (-1), .int (nI 0), tw_U, tw_U, tw_U, tw_U] [] σ _
          refine tw_sg 3 (i1 := 3) (ls1 := [.ref 88, .int (-1), .int (nI 0), tw_U, tw_U, tw_U, tw_U]) (st1 := [.int (nI 1), .int (nI 0), .int (nI 0)]) (σ1 := σ) rfl ?_
          refine tw_cl1 rfl (rfl) (by decide) (tw_e_in1 (tw_nge0 (by omega)) (by rw [tw_nlt (by omega) (by omega)]; omega)) ?_
          rintro _ _ ⟨rfl, rfl⟩
          show tw_P L xs _ 227 4 [.ref 88, .int (-1), .int (nI 0), tw_U, tw_U, tw_U, tw_U] [.int (nI 1)] σ _
          refine tw_bzT (c := .ne) rfl (by rw [tw_cne, tw_neq (by omega) (by omega)] <;> omega) ?_
          show tw_P L xs _ 227 7 [.ref 88, .int (-1), .int (nI 0), tw_U, tw_U, tw_U, tw_U] [] σ _
          refine tw_sg 2 (i1 := 9) (ls1 := [.ref 88, .int (-1), .int (nI 0), tw_U, tw_U, tw_U, tw_U]) (st1 := [.int (nI 1), .ref 88]) (σ1 := σ) rfl ?_
          refine tw_cl1 rfl (rfl) (by decide) (tw_E_mono (tw_e_mgreat (s := nI 1) hn89 hn10) (fun v σ1 h => (⟨by rw [h.1, t2, eA], h.2⟩ : v = some (.int (nI A)) ∧ σ = σ1))) ?_
          rintro _ _ ⟨rfl, rfl⟩
          show tw_P L xs _ 227 10 [.ref 88, .int (-1), .int (nI 0), tw_U, tw_U, tw_U, tw_U] [.int (nI A)] σ _
          refine tw_sg 4 (i1 := 14) (ls1 := [.ref 88, .int (-1), .int (nI 0), .int (nI A), tw_U, tw_U, tw_U]) (st1 := [.int (-1), .ref 88, .int (nI A)]) (σ1 := σ) rfl ?_
          refine tw_cl1 rfl (rfl) (by decide) (tw_E_mono (tw_e_mgreat (s := (-1)) hn89 hn10) (fun v σ1 h => (⟨by rw [h.1, t4, eB], h.2⟩ : v = some (.int (nI B)) ∧ σ = σ1))) ?_
          rintro _ _ ⟨rfl, rfl⟩
          show tw_P L xs _ 227 15 [.ref 88, .int (-1), .int (nI 0), .int (nI A), tw_U, tw_U, tw_U] [.int (nI B), .int (nI A)] σ _
          refine tw_sgn 4 (i1 := 19) (ls0 := [.ref 88, .int (-1), .int (nI 0), .int (nI A), .int (nI A + nI B), tw_U, tw_U]) (st0 := [.int (-1), .int (-1)]) (σ0 := σ) (ls1 := [.ref 88, .int (-1), .int (nI 0), .int (nI A), .int (nI (A + B)), tw_U, tw_U]) (st1 := [.int (-1), .int (-1)]) (σ1 := σ) rfl (by simp only [tw_nadd, tw_nmul]) (rfl) (rfl) ?_
          refine tw_biF (c := .ne) rfl (by rw [tw_cne'] <;> (exact rfl)) ?_
          show tw_P L xs _ 227 20 [.ref 88, .int (-1), .int (nI 0), .int (nI A), .int (nI (A + B)), tw_U, tw_U] [] σ _
          refine tw_sg 1 (i1 := 21) (ls1 := [.ref 88, .int (-1), .int (nI 0), .int (nI A), .int (nI (A + B)), tw_U, tw_U]) (st1 := [.int (nI (A + B))]) (σ1 := σ) rfl ?_
          refine tw_ri rfl (rfl) ?_
          exact ⟨rfl, hI⟩
        · skip
          show tw_P L xs _ 152 0 [.ref 1, .int (-1), .int (nI 1), tw_U, tw_U, tw_U] [] σ _
          refine tw_sg 3 (i1 := 3) (ls1 := [.ref 1, .int (-1), .int (nI 1), tw_U, tw_U, tw_U]) (st1 := [.int (nI 1), .ref 6]) (σ1 := σ) rfl ?_
          refine tw_cl1 rfl (rfl) (by decide) (tw_E_mono (tw_e_great (s := nI 1) hn6 hn10 hC3) (fun v σ1 h => (⟨by rw [h.1, t1, eA], h.2⟩ : v = some (.int (nI A)) ∧ σ = σ1))) ?_
          rintro _ _ ⟨rfl, rfl⟩
          show tw_P L xs _ 152 4 [.ref 1, .int (-1), .int (nI 1), tw_U, tw_U, tw_U] [.int (nI A)] σ _
          refine tw_sg 5 (i1 := 9) (ls1 := [.ref 1, .int (-1), .int (nI 1), .int (nI A), tw_U, tw_U]) (st1 := [.int (-1), .ref 6, .int (nI A)]) (σ1 := σ) rfl ?_
          refine tw_cl1 rfl (rfl) (by decide) (tw_E_mono (tw_e_great (s := (-1)) hn6 hn10 hC3) (fun v σ1 h => (⟨by rw [h.1, t3, eB], h.2⟩ : v = some (.int (nI B)) ∧ σ = σ1))) ?_
          rintro _ _ ⟨rfl, rfl⟩
          show tw_P L xs _ 152 10 [.ref 1, .int (-1), .int (nI 1), .int (nI A), tw_U, tw_U] [.int (nI B), .int (nI A)] σ _
          refine tw_sgn 4 (i1 := 14) (ls0 := [.ref 1, .int (-1), .int (nI 1), .int (nI A), .int (nI A + nI B), tw_U]) (st0 := [.int (-1), .int (-1)]) (σ0 := σ) (ls1 := [.ref 1, .int (-1), .int (nI 1), .int (nI A), .int (nI (A + B)), tw_U]) (st1 := [.int (-1), .int (-1)]) (σ1 := σ) rfl (by simp only [tw_nadd, tw_nmul]) (rfl) (rfl) ?_
          refine tw_biF (c := .lt) rfl (by rw [tw_clt'] <;> (exact (by decide))) ?_
          show tw_P L xs _ 152 15 [.ref 1, .int (-1), .int (nI 1), .int (nI A), .int (nI (A + B)), tw_U] [] σ _
          refine tw_sg 2 (i1 := 17) (ls1 := [.ref 1, .int (-1), .int (nI 1), .int (nI A), .int (nI (A + B)), tw_U]) (st1 := [.int (nI (A + B)), .int (-1)]) (σ1 := σ) rfl ?_
          refine tw_biF (c := .ge) rfl (by rw [tw_cge'] <;> (exact tw_not_le.mpr (tw_neg_lt (by decide) (by omega)))) ?_
          show tw_P L xs _ 152 18 [.ref 1, .int (-1), .int (nI 1), .int (nI A), .int (nI (A + B)), tw_U] [] σ _
          refine tw_sg 1 (i1 := 19) (ls1 := [.ref 1, .int (-1), .int (nI 1), .int (nI A), .int (nI (A + B)), tw_U]) (st1 := [.int (nI 1)]) (σ1 := σ) rfl ?_
          refine tw_bzF (c := .lt) rfl (by rw [tw_clt', tw_nlt (by omega) (by omega)] <;> omega) ?_
          show tw_P L xs _ 152 20 [.ref 1, .int (-1), .int (nI 1), .int (nI A), .int (nI (A + B)), tw_U] [] σ _
          refine tw_sg 2 (i1 := 22) (ls1 := [.ref 1, .int (-1), .int (nI 1), .int (nI A), .int (nI (A + B)), tw_U]) (st1 := [.int (nI 1), .int (nI 1)]) (σ1 := σ) rfl ?_
          refine tw_biT (c := .le) rfl (by rw [tw_cle, tw_nle (by omega) (by omega)] <;> omega) ?_
          show tw_P L xs _ 152 25 [.ref 1, .int (-1), .int (nI 1), .int (nI A), .int (nI (A + B)), tw_U] [] σ _
          refine tw_sg 2 (i1 := 27) (ls1 := [.ref 1, .int (-1), .int (nI 1), .int (nI A), .int (nI (A + B)), tw_U]) (st1 := [.int (-1), .int (-1)]) (σ1 := σ) rfl ?_
          refine tw_biF (c := .ne) rfl (by rw [tw_cne'] <;> (exact rfl)) ?_
          show tw_P L xs _ 152 28 [.ref 1, .int (-1), .int (nI 1), .int (nI A), .int (nI (A + B)), tw_U] [] σ _
          refine tw_sg 1 (i1 := 29) (ls1 := [.ref 1, .int (-1), .int (nI 1), .int (nI A), .int (nI (A + B)), tw_U]) (st1 := [.int (nI (A + B))]) (σ1 := σ) rfl ?_
          refine tw_ri rfl (rfl) ?_
          refine ⟨_, rfl, ?_⟩
          show tw_P L xs _ 227 0 [.ref 88, .int (-1), .int (nI 1), tw_U, tw_U, tw_U, tw_U] [] σ _
          refine tw_sg 3 (i1 := 3) (ls1 := [.ref 88, .int (-1), .int (nI 1), tw_U, tw_U, tw_U, tw_U]) (st1 := [.int (nI 1), .int (nI 0), .int (nI 1)]) (σ1 := σ) rfl ?_
          refine tw_cl1 rfl (rfl) (by decide) (tw_e_in1 (tw_nge0 (by omega)) (by rw [tw_nlt (by omega) (by omega)]; omega)) ?_
          rintro _ _ ⟨rfl, rfl⟩
          show tw_P L xs _ 227 4 [.ref 88, .int (-1), .int (nI 1), tw_U, tw_U, tw_U, tw_U] [.int (nI 1)] σ _
          refine tw_bzT (c := .ne) rfl (by rw [tw_cne, tw_neq (by omega) (by omega)] <;> omega) ?_
          show tw_P L xs _ 227 7 [.ref 88, .int (-1), .int (nI 1), tw_U, tw_U, tw_U, tw_U] [] σ _
          refine tw_sg 2 (i1 := 9) (ls1 := [.ref 88, .int (-1), .int (nI 1), tw_U, tw_U, tw_U, tw_U]) (st1 := [.int (nI 1), .ref 88]) (σ1 := σ) rfl ?_
          refine tw_cl1 rfl (rfl) (by decide) (tw_E_mono (tw_e_mgreat (s := nI 1) hn89 hn10) (fun v σ1 h => (⟨by rw [h.1, t2, eA], h.2⟩ : v = some (.int (nI A)) ∧ σ = σ1))) ?_
          rintro _ _ ⟨rfl, rfl⟩
          show tw_P L xs _ 227 10 [.ref 88, .int (-1), .int (nI 1), tw_U, tw_U, tw_U, tw_U] [.int (nI A)] σ _
          refine tw_sg 4 (i1 := 14) (ls1 := [.ref 88, .int (-1), .int (nI 1), .int (nI A), tw_U, tw_U, tw_U]) (st1 := [.int (-1), .ref 88, .int (nI A)]) (σ1 := σ) rfl ?_
          refine tw_cl1 rfl (rfl) (by decide) (tw_E_mono (tw_e_mgreat (s := (-1)) hn89 hn10) (fun v σ1 h => (⟨by rw [h.1, t4, eB], h.2⟩ : v = some (.int (nI B)) ∧ σ = σ1))) ?_
          rintro _ _ ⟨rfl, rfl⟩
          show tw_P L xs _ 227 15 [.ref 88, .int (-1), .int (nI 1), .int (nI A), tw_U, tw_U, tw_U] [.int (nI B), .int (nI A)] σ _
          refine tw_sgn 4 (i1 := 19) (ls0 := [.ref 88, .int (-1), .int (nI 1), .int (nI A), .int (nI A + nI B), tw_U, tw_U]) (st0 := [.int (-1), .int (-1)]) (σ0 := σ) (ls1 := [.ref 88, .int (-1), .int (nI 1), .int (nI A), .int (nI (A + B)), tw_U, tw_U]) (st1 := [.int (-1), .int (-1)]) (σ1 := σ) rfl (by simp only [tw_nadd, tw_nmul]) (rfl) (rfl) ?_
          refine tw_biF (c := .ne) rfl (by rw [tw_cne'] <;> (exact rfl)) ?_
          show tw_P L xs _ 227 20 [.ref 88, .int (-1), .int (nI 1), .int (nI A), .int (nI (A + B)), tw_U, tw_U] [] σ _
          refine tw_sg 1 (i1 := 21) (ls1 := [.ref 88, .int (-1), .int (nI 1), .int (nI A), .int (nI (A + B)), tw_U, tw_U]) (st1 := [.int (nI (A + B))]) (σ1 := σ) rfl ?_
          refine tw_ri rfl (rfl) ?_
          exact ⟨rfl, hI⟩
      · have hx0 := hx
        rcases hx with hx | ⟨hx, hx2⟩
        · have hx3 : x < (-1) := by
            rw [Int32.lt_iff_toInt_lt] at hx ⊢
            have e1 : (-1 : Int32).toInt = -1 := by decide
            have e2 : (nI 0).toInt = 0 := by decide
            have e3 : ¬ x.toInt = (-1 : Int32).toInt := fun h => hm (Int32.toInt.inj h)
            omega
          show tw_P L xs _ 152 0 [.ref 1, .int x, .int (nI e), tw_U, tw_U, tw_U] [] σ _
          refine tw_sg 3 (i1 := 3) (ls1 := [.ref 1, .int x, .int (nI e), tw_U, tw_U, tw_U]) (st1 := [.int (nI 1), .ref 6]) (σ1 := σ) rfl ?_
          refine tw_cl1 rfl (rfl) (by decide) (tw_E_mono (tw_e_great (s := nI 1) hn6 hn10 hC3) (fun v σ1 h => (⟨by rw [h.1, t1, eA], h.2⟩ : v = some (.int (nI A)) ∧ σ = σ1))) ?_
          rintro _ _ ⟨rfl, rfl⟩
          show tw_P L xs _ 152 4 [.ref 1, .int x, .int (nI e), tw_U, tw_U, tw_U] [.int (nI A)] σ _
          refine tw_sg 5 (i1 := 9) (ls1 := [.ref 1, .int x, .int (nI e), .int (nI A), tw_U, tw_U]) (st1 := [.int (-1), .ref 6, .int (nI A)]) (σ1 := σ) rfl ?_
          refine tw_cl1 rfl (rfl) (by decide) (tw_E_mono (tw_e_great (s := (-1)) hn6 hn10 hC3) (fun v σ1 h => (⟨by rw [h.1, t3, eB], h.2⟩ : v = some (.int (nI B)) ∧ σ = σ1))) ?_
          rintro _ _ ⟨rfl, rfl⟩
          show tw_P L xs _ 152 10 [.ref 1, .int x, .int (nI e), .int (nI A), tw_U, tw_U] [.int (nI B), .int (nI A)] σ _
          refine tw_sgn 4 (i1 := 14) (ls0 := [.ref 1, .int x, .int (nI e), .int (nI A), .int (nI A + nI B), tw_U]) (st0 := [.int (-1), .int x]) (σ0 := σ) (ls1 := [.ref 1, .int x, .int (nI e), .int (nI A), .int (nI (A + B)), tw_U]) (st1 := [.int (-1), .int x]) (σ1 := σ) rfl (by simp only [tw_nadd, tw_nmul]) (rfl) (rfl) ?_
          refine tw_biT (c := .lt) rfl (by rw [tw_clt] <;> (exact hx3)) ?_
          show tw_P L xs _ 152 23 [.ref 1, .int x, .int (nI e), .int (nI A), .int (nI (A + B)), tw_U] [] σ _
          refine tw_sg 1 (i1 := 24) (ls1 := [.ref 1, .int x, .int (nI e), .int (nI A), .int (nI (A + B)), tw_U]) (st1 := [.int (-1)]) (σ1 := σ) rfl ?_
          refine tw_ri rfl (rfl) ?_
          refine ⟨_, rfl, ?_⟩
          show tw_P L xs _ 227 0 [.ref 88, .int x, .int (nI e), tw_U, tw_U, tw_U, tw_U] [] σ _
          refine tw_sg 3 (i1 := 3) (ls1 := [.ref 88, .int x, .int (nI e), tw_U, tw_U, tw_U, tw_U]) (st1 := [.int (nI 1), .int (nI 0), .int (nI e)]) (σ1 := σ) rfl ?_
          refine tw_cl1 rfl (rfl) (by decide) (tw_e_in1 (tw_nge0 (by omega)) (by rw [tw_nlt (by omega) (by omega)]; omega)) ?_
          rintro _ _ ⟨rfl, rfl⟩
          show tw_P L xs _ 227 4 [.ref 88, .int x, .int (nI e), tw_U, tw_U, tw_U, tw_U] [.int (nI 1)] σ _
          refine tw_bzT (c := .ne) rfl (by rw [tw_cne, tw_neq (by omega) (by omega)] <;> omega) ?_
          show tw_P L xs _ 227 7 [.ref 88, .int x, .int (nI e), tw_U, tw_U, tw_U, tw_U] [] σ _
          refine tw_sg 2 (i1 := 9) (ls1 := [.ref 88, .int x, .int (nI e), tw_U, tw_U, tw_U, tw_U]) (st1 := [.int (nI 1), .ref 88]) (σ1 := σ) rfl ?_
          refine tw_cl1 rfl (rfl) (by decide) (tw_E_mono (tw_e_mgreat (s := nI 1) hn89 hn10) (fun v σ1 h => (⟨by rw [h.1, t2, eA], h.2⟩ : v = some (.int (nI A)) ∧ σ = σ1))) ?_
          rintro _ _ ⟨rfl, rfl⟩
          show tw_P L xs _ 227 10 [.ref 88, .int x, .int (nI e), tw_U, tw_U, tw_U, tw_U] [.int (nI A)] σ _
          refine tw_sg 4 (i1 := 14) (ls1 := [.ref 88, .int x, .int (nI e), .int (nI A), tw_U, tw_U, tw_U]) (st1 := [.int (-1), .ref 88, .int (nI A)]) (σ1 := σ) rfl ?_
          refine tw_cl1 rfl (rfl) (by decide) (tw_E_mono (tw_e_mgreat (s := (-1)) hn89 hn10) (fun v σ1 h => (⟨by rw [h.1, t4, eB], h.2⟩ : v = some (.int (nI B)) ∧ σ = σ1))) ?_
          rintro _ _ ⟨rfl, rfl⟩
          show tw_P L xs _ 227 15 [.ref 88, .int x, .int (nI e), .int (nI A), tw_U, tw_U, tw_U] [.int (nI B), .int (nI A)] σ _
          refine tw_sgn 4 (i1 := 19) (ls0 := [.ref 88, .int x, .int (nI e), .int (nI A), .int (nI A + nI B), tw_U, tw_U]) (st0 := [.int (-1), .int x]) (σ0 := σ) (ls1 := [.ref 88, .int x, .int (nI e), .int (nI A), .int (nI (A + B)), tw_U, tw_U]) (st1 := [.int (-1), .int x]) (σ1 := σ) rfl (by simp only [tw_nadd, tw_nmul]) (rfl) (rfl) ?_
          refine tw_biT (c := .ne) rfl (by rw [tw_cne] <;> (exact hm)) ?_
          show tw_P L xs _ 227 22 [.ref 88, .int x, .int (nI e), .int (nI A), .int (nI (A + B)), tw_U, tw_U] [] σ _
          refine tw_sg 5 (i1 := 27) (ls1 := [.ref 88, .int x, .int (nI e), .int (nI A), .int (nI (A + B)), tw_U, tw_U]) (st1 := [.int (nI (A + B) - nI 1), .int (nI 0), .int x]) (σ1 := σ) rfl ?_
          refine tw_cl1 rfl (rfl) (by decide) (tw_e_inN0 (n := A + B) (by omega) hx0) ?_
          rintro _ _ ⟨rfl, rfl⟩
          show tw_P L xs _ 227 28 [.ref 88, .int x, .int (nI e), .int (nI A), .int (nI (A + B)), tw_U, tw_U] [.int (nI 0)] σ _
          refine tw_bzF (c := .ne) rfl (by rw [tw_cne', tw_neq (by omega) (by omega)] <;> omega) ?_
          show tw_P L xs _ 227 29 [.ref 88, .int x, .int (nI e), .int (nI A), .int (nI (A + B)), tw_U, tw_U] [] σ _
          refine tw_sg 1 (i1 := 30) (ls1 := [.ref 88, .int x, .int (nI e), .int (nI A), .int (nI (A + B)), tw_U, tw_U]) (st1 := [.int (-1)]) (σ1 := σ) rfl ?_
          refine tw_ri rfl (rfl) ?_
          exact ⟨rfl, hI⟩
        · have hx3 : ¬ x < (-1) := fun h => hx (tw_lt_tr h (by decide))
          show tw_P L xs _ 152 0 [.ref 1, .int x, .int (nI e), tw_U, tw_U, tw_U] [] σ _
          refine tw_sg 3 (i1 := 3) (ls1 := [.ref 1, .int x, .int (nI e), tw_U, tw_U, tw_U]) (st1 := [.int (nI 1), .ref 6]) (σ1 := σ) rfl ?_
          refine tw_cl1 rfl (rfl) (by decide) (tw_E_mono (tw_e_great (s := nI 1) hn6 hn10 hC3) (fun v σ1 h => (⟨by rw [h.1, t1, eA], h.2⟩ : v = some (.int (nI A)) ∧ σ = σ1))) ?_
          rintro _ _ ⟨rfl, rfl⟩
          show tw_P L xs _ 152 4 [.ref 1, .int x, .int (nI e), tw_U, tw_U, tw_U] [.int (nI A)] σ _
          refine tw_sg 5 (i1 := 9) (ls1 := [.ref 1, .int x, .int (nI e), .int (nI A), tw_U, tw_U]) (st1 := [.int (-1), .ref 6, .int (nI A)]) (σ1 := σ) rfl ?_
          refine tw_cl1 rfl (rfl) (by decide) (tw_E_mono (tw_e_great (s := (-1)) hn6 hn10 hC3) (fun v σ1 h => (⟨by rw [h.1, t3, eB], h.2⟩ : v = some (.int (nI B)) ∧ σ = σ1))) ?_
          rintro _ _ ⟨rfl, rfl⟩
          show tw_P L xs _ 152 10 [.ref 1, .int x, .int (nI e), .int (nI A), tw_U, tw_U] [.int (nI B), .int (nI A)] σ _
          refine tw_sgn 4 (i1 := 14) (ls0 := [.ref 1, .int x, .int (nI e), .int (nI A), .int (nI A + nI B), tw_U]) (st0 := [.int (-1), .int x]) (σ0 := σ) (ls1 := [.ref 1, .int x, .int (nI e), .int (nI A), .int (nI (A + B)), tw_U]) (st1 := [.int (-1), .int x]) (σ1 := σ) rfl (by simp only [tw_nadd, tw_nmul]) (rfl) (rfl) ?_
          refine tw_biF (c := .lt) rfl (by rw [tw_clt'] <;> (exact hx3)) ?_
          show tw_P L xs _ 152 15 [.ref 1, .int x, .int (nI e), .int (nI A), .int (nI (A + B)), tw_U] [] σ _
          refine tw_sg 2 (i1 := 17) (ls1 := [.ref 1, .int x, .int (nI e), .int (nI A), .int (nI (A + B)), tw_U]) (st1 := [.int (nI (A + B)), .int x]) (σ1 := σ) rfl ?_
          refine tw_biT (c := .ge) rfl (by rw [tw_cge] <;> (exact tw_not_lt.mp (tw_not_lt.mpr hx2))) ?_
          show tw_P L xs _ 152 23 [.ref 1, .int x, .int (nI e), .int (nI A), .int (nI (A + B)), tw_U] [] σ _
          refine tw_sg 1 (i1 := 24) (ls1 := [.ref 1, .int x, .int (nI e), .int (nI A), .int (nI (A + B)), tw_U]) (st1 := [.int (-1)]) (σ1 := σ) rfl ?_
          refine tw_ri rfl (rfl) ?_
          refine ⟨_, rfl, ?_⟩
          show tw_P L xs _ 227 0 [.ref 88, .int x, .int (nI e), tw_U, tw_U, tw_U, tw_U] [] σ _
          refine tw_sg 3 (i1 := 3) (ls1 := [.ref 88, .int x, .int (nI e), tw_U, tw_U, tw_U, tw_U]) (st1 := [.int (nI 1), .int (nI 0), .int (nI e)]) (σ1 := σ) rfl ?_
          refine tw_cl1 rfl (rfl) (by decide) (tw_e_in1 (tw_nge0 (by omega)) (by rw [tw_nlt (by omega) (by omega)]; omega)) ?_
          rintro _ _ ⟨rfl, rfl⟩
          show tw_P L xs _ 227 4 [.ref 88, .int x, .int (nI e), tw_U, tw_U, tw_U, tw_U] [.int (nI 1)] σ _
          refine tw_bzT (c := .ne) rfl (by rw [tw_cne, tw_neq (by omega) (by omega)] <;> omega) ?_
          show tw_P L xs _ 227 7 [.ref 88, .int x, .int (nI e), tw_U, tw_U, tw_U, tw_U] [] σ _
          refine tw_sg 2 (i1 := 9) (ls1 := [.ref 88, .int x, .int (nI e), tw_U, tw_U, tw_U, tw_U]) (st1 := [.int (nI 1), .ref 88]) (σ1 := σ) rfl ?_
          refine tw_cl1 rfl (rfl) (by decide) (tw_E_mono (tw_e_mgreat (s := nI 1) hn89 hn10) (fun v σ1 h => (⟨by rw [h.1, t2, eA], h.2⟩ : v = some (.int (nI A)) ∧ σ = σ1))) ?_
          rintro _ _ ⟨rfl, rfl⟩
          show tw_P L xs _ 227 10 [.ref 88, .int x, .int (nI e), tw_U, tw_U, tw_U, tw_U] [.int (nI A)] σ _
          refine tw_sg 4 (i1 := 14) (ls1 := [.ref 88, .int x, .int (nI e), .int (nI A), tw_U, tw_U, tw_U]) (st1 := [.int (-1), .ref 88, .int (nI A)]) (σ1 := σ) rfl ?_
          refine tw_cl1 rfl (rfl) (by decide) (tw_E_mono (tw_e_mgreat (s := (-1)) hn89 hn10) (fun v σ1 h => (⟨by rw [h.1, t4, eB], h.2⟩ : v = some (.int (nI B)) ∧ σ = σ1))) ?_
          rintro _ _ ⟨rfl, rfl⟩
          show tw_P L xs _ 227 15 [.ref 88, .int x, .int (nI e), .int (nI A), tw_U, tw_U, tw_U] [.int (nI B), .int (nI A)] σ _
          refine tw_sgn 4 (i1 := 19) (ls0 := [.ref 88, .int x, .int (nI e), .int (nI A), .int (nI A + nI B), tw_U, tw_U]) (st0 := [.int (-1), .int x]) (σ0 := σ) (ls1 := [.ref 88, .int x, .int (nI e), .int (nI A), .int (nI (A + B)), tw_U, tw_U]) (st1 := [.int (-1), .int x]) (σ1 := σ) rfl (by simp only [tw_nadd, tw_nmul]) (rfl) (rfl) ?_
          refine tw_biT (c := .ne) rfl (by rw [tw_cne] <;> (exact hm)) ?_
          show tw_P L xs _ 227 22 [.ref 88, .int x, .int (nI e), .int (nI A), .int (nI (A + B)), tw_U, tw_U] [] σ _
          refine tw_sg 5 (i1 := 27) (ls1 := [.ref 88, .int x, .int (nI e), .int (nI A), .int (nI (A + B)), tw_U, tw_U]) (st1 := [.int (nI (A + B) - nI 1), .int (nI 0), .int x]) (σ1 := σ) rfl ?_
          refine tw_cl1 rfl (rfl) (by decide) (tw_e_inN0 (n := A + B) (by omega) hx0) ?_
          rintro _ _ ⟨rfl, rfl⟩
          show tw_P L xs _ 227 28 [.ref 88, .int x, .int (nI e), .int (nI A), .int (nI (A + B)), tw_U, tw_U] [.int (nI 0)] σ _
          refine tw_bzF (c := .ne) rfl (by rw [tw_cne', tw_neq (by omega) (by omega)] <;> omega) ?_
          show tw_P L xs _ 227 29 [.ref 88, .int x, .int (nI e), .int (nI A), .int (nI (A + B)), tw_U, tw_U] [] σ _
          refine tw_sg 1 (i1 := 30) (ls1 := [.ref 88, .int x, .int (nI e), .int (nI A), .int (nI (A + B)), tw_U, tw_U]) (st1 := [.int (-1)]) (σ1 := σ) rfl ?_
          refine tw_ri rfl (rfl) ?_
          exact ⟨rfl, hI⟩
  · rcases hy with hy | ⟨hy, hy2⟩
    · skip
      show tw_P L xs _ 152 0 [.ref 1, .int x, .int y, tw_U, tw_U, tw_U] [] σ _
      refine tw_sg 3 (i1 := 3) (ls1 := [.ref 1, .int x, .int y, tw_U, tw_U, tw_U]) (st1 := [.int (nI 1), .ref 6]) (σ1 := σ) rfl ?_
      refine tw_cl1 rfl (rfl) (by decide) (tw_E_mono (tw_e_great (s := nI 1) hn6 hn10 hC3) (fun v σ1 h => (⟨by rw [h.1, t1, eA], h.2⟩ : v = some (.int (nI A)) ∧ σ = σ1))) ?_
      rintro _ _ ⟨rfl, rfl⟩
      show tw_P L xs _ 152 4 [.ref 1, .int x, .int y, tw_U, tw_U, tw_U] [.int (nI A)] σ _
      refine tw_sg 5 (i1 := 9) (ls1 := [.ref 1, .int x, .int y, .int (nI A), tw_U, tw_U]) (st1 := [.int (-1), .ref 6, .int (nI A)]) (σ1 := σ) rfl ?_
      refine tw_cl1 rfl (rfl) (by decide) (tw_E_mono (tw_e_great (s := (-1)) hn6 hn10 hC3) (fun v σ1 h => (⟨by rw [h.1, t3, eB], h.2⟩ : v = some (.int (nI B)) ∧ σ = σ1))) ?_
      rintro _ _ ⟨rfl, rfl⟩
      show tw_P L xs _ 152 10 [.ref 1, .int x, .int y, .int (nI A), tw_U, tw_U] [.int (nI B), .int (nI A)] σ _
      refine tw_sgn 4 (i1 := 14) (ls0 := [.ref 1, .int x, .int y, .int (nI A), .int (nI A + nI B), tw_U]) (st0 := [.int (-1), .int x]) (σ0 := σ) (ls1 := [.ref 1, .int x, .int y, .int (nI A), .int (nI (A + B)), tw_U]) (st1 := [.int (-1), .int x]) (σ1 := σ) rfl (by simp only [tw_nadd, tw_nmul]) (rfl) (rfl) ?_
      refine tw_bi (c := .lt) rfl (fun h1 => ?_) (fun h1 => ?_)
      · rw [tw_clt] at h1
        refine tw_sg 1 (i1 := 24) (ls1 := [.ref 1, .int x, .int y, .int (nI A), .int (nI (A + B)), tw_U]) (st1 := [.int (-1)]) (σ1 := σ) rfl ?_
        refine tw_ri rfl (rfl) ?_
        refine ⟨_, rfl, ?_⟩
        show tw_P L xs _ 227 0 [.ref 88, .int x, .int y, tw_U, tw_U, tw_U, tw_U] [] σ _
        refine tw_sg 3 (i1 := 3) (ls1 := [.ref 88, .int x, .int y, tw_U, tw_U, tw_U, tw_U]) (st1 := [.int (nI 1), .int (nI 0), .int y]) (σ1 := σ) rfl ?_
        refine tw_cl1 rfl (rfl) (by decide) (tw_e_in0a hy) ?_
        rintro _ _ ⟨rfl, rfl⟩
        show tw_P L xs _ 227 4 [.ref 88, .int x, .int y, tw_U, tw_U, tw_U, tw_U] [.int (nI 0)] σ _
        refine tw_bzF (c := .ne) rfl (by rw [tw_cne', tw_neq (by omega) (by omega)] <;> omega) ?_
        show tw_P L xs _ 227 5 [.ref 88, .int x, .int y, tw_U, tw_U, tw_U, tw_U] [] σ _
        refine tw_sg 1 (i1 := 6) (ls1 := [.ref 88, .int x, .int y, tw_U, tw_U, tw_U, tw_U]) (st1 := [.int (-1)]) (σ1 := σ) rfl ?_
        refine tw_ri rfl (rfl) ?_
        exact ⟨rfl, hI⟩
      · rw [tw_clt'] at h1
        refine tw_sg 2 (i1 := 17) (ls1 := [.ref 1, .int x, .int y, .int (nI A), .int (nI (A + B)), tw_U]) (st1 := [.int (nI (A + B)), .int x]) (σ1 := σ) rfl ?_
        refine tw_bi (c := .ge) rfl (fun h2 => ?_) (fun h2 => ?_)
        · rw [tw_cge] at h2
          refine tw_sg 1 (i1 := 24) (ls1 := [.ref 1, .int x, .int y, .int (nI A), .int (nI (A + B)), tw_U]) (st1 := [.int (-1)]) (σ1 := σ) rfl ?_
          refine tw_ri rfl (rfl) ?_
          refine ⟨_, rfl, ?_⟩
          show tw_P L xs _ 227 0 [.ref 88, .int x, .int y, tw_U, tw_U, tw_U, tw_U] [] σ _
          refine tw_sg 3 (i1 := 3) (ls1 := [.ref 88, .int x, .int y, tw_U, tw_U, tw_U, tw_U]) (st1 := [.int (nI 1), .int (nI 0), .int y]) (σ1 := σ) rfl ?_
          refine tw_cl1 rfl (rfl) (by decide) (tw_e_in0a hy) ?_
          rintro _ _ ⟨rfl, rfl⟩
          show tw_P L xs _ 227 4 [.ref 88, .int x, .int y, tw_U, tw_U, tw_U, tw_U] [.int (nI 0)] σ _
          refine tw_bzF (c := .ne) rfl (by rw [tw_cne', tw_neq (by omega) (by omega)] <;> omega) ?_
          show tw_P L xs _ 227 5 [.ref 88, .int x, .int y, tw_U, tw_U, tw_U, tw_U] [] σ _
          refine tw_sg 1 (i1 := 6) (ls1 := [.ref 88, .int x, .int y, tw_U, tw_U, tw_U, tw_U]) (st1 := [.int (-1)]) (σ1 := σ) rfl ?_
          refine tw_ri rfl (rfl) ?_
          exact ⟨rfl, hI⟩
        · rw [tw_cge'] at h2
          refine tw_sg 1 (i1 := 19) (ls1 := [.ref 1, .int x, .int y, .int (nI A), .int (nI (A + B)), tw_U]) (st1 := [.int y]) (σ1 := σ) rfl ?_
          refine tw_bzT (c := .lt) rfl (by rw [tw_clt] <;> (exact hy)) ?_
          show tw_P L xs _ 152 23 [.ref 1, .int x, .int y, .int (nI A), .int (nI (A + B)), tw_U] [] σ _
          refine tw_sg 1 (i1 := 24) (ls1 := [.ref 1, .int x, .int y, .int (nI A), .int (nI (A + B)), tw_U]) (st1 := [.int (-1)]) (σ1 := σ) rfl ?_
          refine tw_ri rfl (rfl) ?_
          refine ⟨_, rfl, ?_⟩
          show tw_P L xs _ 227 0 [.ref 88, .int x, .int y, tw_U, tw_U, tw_U, tw_U] [] σ _
          refine tw_sg 3 (i1 := 3) (ls1 := [.ref 88, .int x, .int y, tw_U, tw_U, tw_U, tw_U]) (st1 := [.int (nI 1), .int (nI 0), .int y]) (σ1 := σ) rfl ?_
          refine tw_cl1 rfl (rfl) (by decide) (tw_e_in0a hy) ?_
          rintro _ _ ⟨rfl, rfl⟩
          show tw_P L xs _ 227 4 [.ref 88, .int x, .int y, tw_U, tw_U, tw_U, tw_U] [.int (nI 0)] σ _
          refine tw_bzF (c := .ne) rfl (by rw [tw_cne', tw_neq (by omega) (by omega)] <;> omega) ?_
          show tw_P L xs _ 227 5 [.ref 88, .int x, .int y, tw_U, tw_U, tw_U, tw_U] [] σ _
          refine tw_sg 1 (i1 := 6) (ls1 := [.ref 88, .int x, .int y, tw_U, tw_U, tw_U, tw_U]) (st1 := [.int (-1)]) (σ1 := σ) rfl ?_
          refine tw_ri rfl (rfl) ?_
          exact ⟨rfl, hI⟩
    · skip
      show tw_P L xs _ 152 0 [.ref 1, .int x, .int y, tw_U, tw_U, tw_U] [] σ _
      refine tw_sg 3 (i1 := 3) (ls1 := [.ref 1, .int x, .int y, tw_U, tw_U, tw_U]) (st1 := [.int (nI 1), .ref 6]) (σ1 := σ) rfl ?_
      refine tw_cl1 rfl (rfl) (by decide) (tw_E_mono (tw_e_great (s := nI 1) hn6 hn10 hC3) (fun v σ1 h => (⟨by rw [h.1, t1, eA], h.2⟩ : v = some (.int (nI A)) ∧ σ = σ1))) ?_
      rintro _ _ ⟨rfl, rfl⟩
      show tw_P L xs _ 152 4 [.ref 1, .int x, .int y, tw_U, tw_U, tw_U] [.int (nI A)] σ _
      refine tw_sg 5 (i1 := 9) (ls1 := [.ref 1, .int x, .int y, .int (nI A), tw_U, tw_U]) (st1 := [.int (-1), .ref 6, .int (nI A)]) (σ1 := σ) rfl ?_
      refine tw_cl1 rfl (rfl) (by decide) (tw_E_mono (tw_e_great (s := (-1)) hn6 hn10 hC3) (fun v σ1 h => (⟨by rw [h.1, t3, eB], h.2⟩ : v = some (.int (nI B)) ∧ σ = σ1))) ?_
      rintro _ _ ⟨rfl, rfl⟩
      show tw_P L xs _ 152 10 [.ref 1, .int x, .int y, .int (nI A), tw_U, tw_U] [.int (nI B), .int (nI A)] σ _
      refine tw_sgn 4 (i1 := 14) (ls0 := [.ref 1, .int x, .int y, .int (nI A), .int (nI A + nI B), tw_U]) (st0 := [.int (-1), .int x]) (σ0 := σ) (ls1 := [.ref 1, .int x, .int y, .int (nI A), .int (nI (A + B)), tw_U]) (st1 := [.int (-1), .int x]) (σ1 := σ) rfl (by simp only [tw_nadd, tw_nmul]) (rfl) (rfl) ?_
      refine tw_bi (c := .lt) rfl (fun h1 => ?_) (fun h1 => ?_)
      · rw [tw_clt] at h1
        refine tw_sg 1 (i1 := 24) (ls1 := [.ref 1, .int x, .int y, .int (nI A), .int (nI (A + B)), tw_U]) (st1 := [.int (-1)]) (σ1 := σ) rfl ?_
        refine tw_ri rfl (rfl) ?_
        refine ⟨_, rfl, ?_⟩
        show tw_P L xs _ 227 0 [.ref 88, .int x, .int y, tw_U, tw_U, tw_U, tw_U] [] σ _
        refine tw_sg 3 (i1 := 3) (ls1 := [.ref 88, .int x, .int y, tw_U, tw_U, tw_U, tw_U]) (st1 := [.int (nI 1), .int (nI 0), .int y]) (σ1 := σ) rfl ?_
        refine tw_cl1 rfl (rfl) (by decide) (tw_e_in0b hy (tw_lt_le1 (n := 1) (by decide) hy2)) ?_
        rintro _ _ ⟨rfl, rfl⟩
        show tw_P L xs _ 227 4 [.ref 88, .int x, .int y, tw_U, tw_U, tw_U, tw_U] [.int (nI 0)] σ _
        refine tw_bzF (c := .ne) rfl (by rw [tw_cne', tw_neq (by omega) (by omega)] <;> omega) ?_
        show tw_P L xs _ 227 5 [.ref 88, .int x, .int y, tw_U, tw_U, tw_U, tw_U] [] σ _
        refine tw_sg 1 (i1 := 6) (ls1 := [.ref 88, .int x, .int y, tw_U, tw_U, tw_U, tw_U]) (st1 := [.int (-1)]) (σ1 := σ) rfl ?_
        refine tw_ri rfl (rfl) ?_
        exact ⟨rfl, hI⟩
      · rw [tw_clt'] at h1
        refine tw_sg 2 (i1 := 17) (ls1 := [.ref 1, .int x, .int y, .int (nI A), .int (nI (A + B)), tw_U]) (st1 := [.int (nI (A + B)), .int x]) (σ1 := σ) rfl ?_
        refine tw_bi (c := .ge) rfl (fun h2 => ?_) (fun h2 => ?_)
        · rw [tw_cge] at h2
          refine tw_sg 1 (i1 := 24) (ls1 := [.ref 1, .int x, .int y, .int (nI A), .int (nI (A + B)), tw_U]) (st1 := [.int (-1)]) (σ1 := σ) rfl ?_
          refine tw_ri rfl (rfl) ?_
          refine ⟨_, rfl, ?_⟩
          show tw_P L xs _ 227 0 [.ref 88, .int x, .int y, tw_U, tw_U, tw_U, tw_U] [] σ _
          refine tw_sg 3 (i1 := 3) (ls1 := [.ref 88, .int x, .int y, tw_U, tw_U, tw_U, tw_U]) (st1 := [.int (nI 1), .int (nI 0), .int y]) (σ1 := σ) rfl ?_
          refine tw_cl1 rfl (rfl) (by decide) (tw_e_in0b hy (tw_lt_le1 (n := 1) (by decide) hy2)) ?_
          rintro _ _ ⟨rfl, rfl⟩
          show tw_P L xs _ 227 4 [.ref 88, .int x, .int y, tw_U, tw_U, tw_U, tw_U] [.int (nI 0)] σ _
          refine tw_bzF (c := .ne) rfl (by rw [tw_cne', tw_neq (by omega) (by omega)] <;> omega) ?_
          show tw_P L xs _ 227 5 [.ref 88, .int x, .int y, tw_U, tw_U, tw_U, tw_U] [] σ _
          refine tw_sg 1 (i1 := 6) (ls1 := [.ref 88, .int x, .int y, tw_U, tw_U, tw_U, tw_U]) (st1 := [.int (-1)]) (σ1 := σ) rfl ?_
          refine tw_ri rfl (rfl) ?_
          exact ⟨rfl, hI⟩
        · rw [tw_cge'] at h2
          refine tw_sg 1 (i1 := 19) (ls1 := [.ref 1, .int x, .int y, .int (nI A), .int (nI (A + B)), tw_U]) (st1 := [.int y]) (σ1 := σ) rfl ?_
          refine tw_bzF (c := .lt) rfl (by rw [tw_clt'] <;> (exact hy)) ?_
          show tw_P L xs _ 152 20 [.ref 1, .int x, .int y, .int (nI A), .int (nI (A + B)), tw_U] [] σ _
          refine tw_sg 2 (i1 := 22) (ls1 := [.ref 1, .int x, .int y, .int (nI A), .int (nI (A + B)), tw_U]) (st1 := [.int (nI 1), .int y]) (σ1 := σ) rfl ?_
          refine tw_biF (c := .le) rfl (by rw [tw_cle'] <;> (exact tw_not_le.mpr (tw_lt_le1 (n := 1) (by decide) hy2))) ?_
          show tw_P L xs _ 152 23 [.ref 1, .int x, .int y, .int (nI A), .int (nI (A + B)), tw_U] [] σ _
          refine tw_sg 1 (i1 := 24) (ls1 := [.ref 1, .int x, .int y, .int (nI A), .int (nI (A + B)), tw_U]) (st1 := [.int (-1)]) (σ1 := σ) rfl ?_
          refine tw_ri rfl (rfl) ?_
          refine ⟨_, rfl, ?_⟩
          show tw_P L xs _ 227 0 [.ref 88, .int x, .int y, tw_U, tw_U, tw_U, tw_U] [] σ _
          refine tw_sg 3 (i1 := 3) (ls1 := [.ref 88, .int x, .int y, tw_U, tw_U, tw_U, tw_U]) (st1 := [.int (nI 1), .int (nI 0), .int y]) (σ1 := σ) rfl ?_
          refine tw_cl1 rfl (rfl) (by decide) (tw_e_in0b hy (tw_lt_le1 (n := 1) (by decide) hy2)) ?_
          rintro _ _ ⟨rfl, rfl⟩
          show tw_P L xs _ 227 4 [.ref 88, .int x, .int y, tw_U, tw_U, tw_U, tw_U] [.int (nI 0)] σ _
          refine tw_bzF (c := .ne) rfl (by rw [tw_cne', tw_neq (by omega) (by omega)] <;> omega) ?_
          show tw_P L xs _ 227 5 [.ref 88, .int x, .int y, tw_U, tw_U, tw_U, tw_U] [] σ _
          refine tw_sg 1 (i1 := 6) (ls1 := [.ref 88, .int x, .int y, tw_U, tw_U, tw_U, tw_U]) (st1 := [.int (-1)]) (σ1 := σ) rfl ?_
          refine tw_ri rfl (rfl) ?_
          exact ⟨rfl, hI⟩
end tw_s49
