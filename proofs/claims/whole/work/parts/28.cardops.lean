/-! slant, place, recolour -/
section tw_s28
variable {L : Nat} {xs : Nat → Int32} {σ : tw_Mem} {x y w : Int32} {n r i c k h q a b e : Nat}
theorem tw_one_sub {q : Nat} (h : q < 2) : nI 1 - nI q = nI (1 - q) := by
  rcases (show q = 0 ∨ q = 1 by omega) with rfl | rfl <;> decide
set_option maxHeartbeats 4000000 in
set_option maxRecDepth 100000 in
theorem tw_o_slant {L : Nat} {xs : Nat → Int32} (x : Int32) : tw_op L xs 137 200 [.int x] := by
  intro σ hI
  obtain ⟨⟨n, r, hL⟩, hT, hPp, hPc, hLs, hIm, hC14, hC46, hC72⟩ := id hI
  obtain ⟨⟨hn10, hr50⟩, ⟨hn6, hn89⟩, ⟨hr9, hw9, hr90⟩, hCa, hRo, hLa⟩ := hL
  have hn6 : σ 6 4 = nI n := hn6
  have hn89 : σ 89 0 = nI n := hn89
  have hr9 : σ 9 3 = nI r := hr9
  have hw9 : σ 9 4 = nI n := hw9
  have hr90 : σ 90 0 = nI r := hr90
  rcases tw_within x n (by omega) with ⟨c, hc, rfl⟩ | hx
  · obtain ⟨g1, ⟨g2, q, g3, g4⟩, ⟨g5, q5, g7, g8⟩, g6⟩ := (tw_iCards0.mp hCa) c hc
    show tw_P L xs _ 137 0 [.ref 1, .int (nI c), tw_U] [] σ _
    refine tw_sg 3 (i1 := 3) (ls1 := [.ref 1, .int (nI c), tw_U]) (st1 := [.int (nI c), .ref 6]) (σ1 := σ) rfl ?_
    refine tw_cl1 rfl (rfl) (by decide) (tw_e_cardAt1 hn6 hn10 hc) ?_
    rintro _ _ ⟨rfl, rfl⟩
    show tw_P L xs _ 137 4 [.ref 1, .int (nI c), tw_U] [.ref (2 * c + 18)] σ _
    refine tw_sg 4 (i1 := 10) (ls1 := [.ref 1, .int (nI c), .ref (2 * c + 18)]) (st1 := [.ref (2 * c + 18)]) (σ1 := σ) rfl ?_
    refine tw_cl1 rfl (tw_inv_ok (y := 4) (b := 0) (st := [.ref (2 * c + 18)]) (k := (2 * c + 18)) (r := []) rfl rfl (tw_cdO (by omega))) (by decide) (tw_e_flip (by omega)) ?_
    rintro _ _ ⟨rfl, rfl⟩
    show tw_P L xs _ 137 11 [.ref 1, .int (nI c), .ref (2 * c + 18)] [.int (nI 1 - σ (2 * c + 18) 1)] (tw_upd σ (2 * c + 18) 1 (nI 1 - σ (2 * c + 18) 1)) _
    refine tw_ri rfl (rfl) ?_
    refine ⟨_, rfl, ?_⟩
    show tw_P L xs _ 200 0 [.ref 88, .int (nI c)] [] (tw_upd σ (2 * c + 18) 1 (nI 1 - σ (2 * c + 18) 1)) _
    refine tw_sg 2 (i1 := 2) (ls1 := [.ref 88, .int (nI c)]) (st1 := [.int (nI c), .ref 88]) (σ1 := (tw_upd σ (2 * c + 18) 1 (nI 1 - σ (2 * c + 18) 1))) rfl ?_
    refine tw_cl1 rfl (rfl) (by decide) (tw_e_isCard1 (σ := tw_upd σ (2 * c + 18) 1 (nI 1 - σ (2 * c + 18) 1)) (by rw [tw_upd_off (by omega)]; exact hn89) hn10 hc) ?_
    rintro _ _ ⟨rfl, rfl⟩
    show tw_P L xs _ 200 3 [.ref 88, .int (nI c)] [.int (nI 1)] (tw_upd σ (2 * c + 18) 1 (nI 1 - σ (2 * c + 18) 1)) _
    refine tw_bzT (c := .ne) rfl (by rw [tw_cne, tw_neq (by omega) (by omega)] <;> omega) ?_
    show tw_P L xs _ 200 6 [.ref 88, .int (nI c)] [] (tw_upd σ (2 * c + 18) 1 (nI 1 - σ (2 * c + 18) 1)) _
    refine tw_sg 7 (i1 := 13) (ls1 := [.ref 88, .int (nI c)]) (st1 := [.int (nI c), .ref 92, .int (nI 1), .int (nI c), .ref 92]) (σ1 := (tw_upd σ (2 * c + 18) 1 (nI 1 - σ (2 * c + 18) 1))) rfl ?_
    refine tw_al (k := 92) (j := c) (len := 20) rfl rfl rfl rfl (rfl) (by omega) (by decide) ?_
    rw [show (tw_upd σ (2 * c + 18) 1 (nI 1 - σ (2 * c + 18) 1)) 92 c = σ 92 c from by repeat (first | exact rfl | exact tw_upd_at | rw [tw_upd_off (by omega)])]
    refine tw_sg 1 (i1 := 15) (ls1 := [.ref 88, .int (nI c)]) (st1 := [.int (nI 1 - (σ 92 c)), .int (nI c), .ref 92]) (σ1 := (tw_upd σ (2 * c + 18) 1 (nI 1 - σ (2 * c + 18) 1))) rfl ?_
    refine tw_as (k := 92) (j := c) (len := 20) rfl rfl rfl (rfl) (by omega) (by decide) ?_
    refine tw_sg 3 (i1 := 19) (ls1 := [.ref 88, .int (nI c)]) (st1 := [.int (nI c), .ref 92]) (σ1 := (tw_upd (tw_upd σ (2 * c + 18) 1 (nI 1 - σ (2 * c + 18) 1)) 92 c (nI 1 - (σ 92 c)))) rfl ?_
    refine tw_al (k := 92) (j := c) (len := 20) rfl rfl rfl rfl (rfl) (by omega) (by decide) ?_
    rw [show (tw_upd (tw_upd σ (2 * c + 18) 1 (nI 1 - σ (2 * c + 18) 1)) 92 c (nI 1 - (σ 92 c))) 92 c = nI 1 - (σ 92 c) from by repeat (first | exact rfl | exact tw_upd_at | rw [tw_upd_off (by omega)])]
    refine tw_ri rfl (rfl) ?_
    refine ⟨by rw [g2], ?_⟩
    generalize hτ : tw_upd (tw_upd σ (2 * c + 18) 1 (nI 1 - σ (2 * c + 18) 1)) 92 c (nI 1 - σ 92 c) = τ
    have t1 : τ (2 * c + 18) 1 = nI 1 - σ (2 * c + 18) 1 := by rw [← hτ, tw_upd_off (by omega)]; exact tw_upd_at
    have t2 : τ 92 c = nI 1 - σ 92 c := by rw [← hτ]; exact tw_upd_at
    have t3 : ∀ k j, ¬ (k = 2 * c + 18 ∧ j = 1) → ¬ (k = 92 ∧ j = c) → τ k j = σ k j := fun k j h1 h2 => by rw [← hτ, tw_upd_off h2, tw_upd_off h1]
    refine tw_Inv_card (c := c) hI (by omega) (fun k j h1 h2 h3 h4 => t3 k j (by omega) (by omega)) (t3 94 c (by omega) (by omega)) ⟨fun h hh => ?_, ⟨by rw [t1, t2, g2], 1 - q, by omega, by rw [t2, g4, tw_one_sub g3]⟩, ⟨?_, q5, g7, ?_⟩, ?_⟩
    · rw [t3 (2 * c + 19) h (by omega) (by omega), t3 91 (4 * c + h) (by omega) (by omega)]; exact g1 h hh
    · rw [t3 (2 * c + 18) 2 (by omega) (by omega), t3 93 c (by omega) (by omega)]; exact g5
    · rw [t3 93 c (by omega) (by omega)]; exact g8
    · rw [t3 (2 * c + 18) 3 (by omega) (by omega), t3 94 c (by omega) (by omega)]; exact g6
  · skip
    show tw_P L xs _ 137 0 [.ref 1, .int x, tw_U] [] σ _
    refine tw_sg 3 (i1 := 3) (ls1 := [.ref 1, .int x, tw_U]) (st1 := [.int x, .ref 6]) (σ1 := σ) rfl ?_
    refine tw_cl1 rfl (rfl) (by decide) (tw_e_cardAt0 hn6 hx) ?_
    rintro _ _ ⟨rfl, rfl⟩
    show tw_P L xs _ 137 4 [.ref 1, .int x, tw_U] [.null] σ _
    refine tw_sg 5 (i1 := 11) (ls1 := [.ref 1, .int x, .null]) (st1 := [.int (-1)]) (σ1 := σ) rfl ?_
    refine tw_ri rfl (rfl) ?_
    refine ⟨_, rfl, ?_⟩
    show tw_P L xs _ 200 0 [.ref 88, .int x] [] σ _
    refine tw_sg 2 (i1 := 2) (ls1 := [.ref 88, .int x]) (st1 := [.int x, .ref 88]) (σ1 := σ) rfl ?_
    refine tw_cl1 rfl (rfl) (by decide) (tw_e_isCard0 hn89 hn10 hx) ?_
    rintro _ _ ⟨rfl, rfl⟩
    show tw_P L xs _ 200 3 [.ref 88, .int x] [.int (nI 0)] σ _
    refine tw_bzF (c := .ne) rfl (by rw [tw_cne', tw_neq (by omega) (by omega)] <;> omega) ?_
    show tw_P L xs _ 200 4 [.ref 88, .int x] [] σ _
    refine tw_sg 1 (i1 := 5) (ls1 := [.ref 88, .int x]) (st1 := [.int (-1)]) (σ1 := σ) rfl ?_
    refine tw_ri rfl (rfl) ?_
    exact ⟨rfl, hI⟩
theorem tw_lt_le1 {x : Int32} {n : Nat} (hn : n < 2147483647) (h : nI (n + 1) ≤ x) : nI n < x := by
  rw [Int32.le_iff_toInt_le, tw_ntoI (by omega)] at h
  rw [Int32.lt_iff_toInt_lt, tw_ntoI (by omega)]
  omega
set_option maxHeartbeats 4000000 in
set_option maxRecDepth 100000 in
theorem tw_o_place {L : Nat} {xs : Nat → Int32} (x : Int32) (y : Int32) : tw_op L xs 138 201 [.int x, .int y] := by
  intro σ hI
  obtain ⟨⟨n, r, hL⟩, hT, hPp, hPc, hLs, hIm, hC14, hC46, hC72⟩ := id hI
  obtain ⟨⟨hn10, hr50⟩, ⟨hn6, hn89⟩, ⟨hr9, hw9, hr90⟩, hCa, hRo, hLa⟩ := hL
  have hn6 : σ 6 4 = nI n := hn6
  have hn89 : σ 89 0 = nI n := hn89
  have hr9 : σ 9 3 = nI r := hr9
  have hw9 : σ 9 4 = nI n := hw9
  have hr90 : σ 90 0 = nI r := hr90
  rcases tw_within x n (by omega) with ⟨c, hc, rfl⟩ | hx
  · obtain ⟨g1, ⟨g2, q, g3, g4⟩, ⟨g5, q5, g7, g8⟩, g6⟩ := (tw_iCards0.mp hCa) c hc
    rcases tw_within y 4 (by decide) with ⟨e, he, rfl⟩ | hy
    · skip
      show tw_P L xs _ 138 0 [.ref 1, .int (nI c), .int (nI e), tw_U] [] σ _
      refine tw_sg 3 (i1 := 3) (ls1 := [.ref 1, .int (nI c), .int (nI e), tw_U]) (st1 := [.int (nI c), .ref 6]) (σ1 := σ) rfl ?_
      refine tw_cl1 rfl (rfl) (by decide) (tw_e_cardAt1 hn6 hn10 hc) ?_
      rintro _ _ ⟨rfl, rfl⟩
      show tw_P L xs _ 138 4 [.ref 1, .int (nI c), .int (nI e), tw_U] [.ref (2 * c + 18)] σ _
      refine tw_sg 4 (i1 := 10) (ls1 := [.ref 1, .int (nI c), .int (nI e), .ref (2 * c + 18)]) (st1 := [.int (nI e)]) (σ1 := σ) rfl ?_
      refine tw_bzF (c := .lt) rfl (by rw [tw_clt', tw_nlt (by omega) (by omega)] <;> omega) ?_
      show tw_P L xs _ 138 11 [.ref 1, .int (nI c), .int (nI e), .ref (2 * c + 18)] [] σ _
      refine tw_sg 2 (i1 := 13) (ls1 := [.ref 1, .int (nI c), .int (nI e), .ref (2 * c + 18)]) (st1 := [.int (nI 4), .int (nI e)]) (σ1 := σ) rfl ?_
      refine tw_biT (c := .lt) rfl (by rw [tw_clt, tw_nlt (by omega) (by omega)] <;> omega) ?_
      show tw_P L xs _ 138 16 [.ref 1, .int (nI c), .int (nI e), .ref (2 * c + 18)] [] σ _
      refine tw_sg 2 (i1 := 18) (ls1 := [.ref 1, .int (nI c), .int (nI e), .ref (2 * c + 18)]) (st1 := [.int (nI e), .ref (2 * c + 18)]) (σ1 := σ) rfl ?_
      refine tw_cl1 rfl (tw_inv_ok (y := 6) (b := 1) (st := [.int (nI e), .ref (2 * c + 18)]) (k := (2 * c + 18)) (r := []) rfl rfl (tw_cdO (by omega))) (by decide) (tw_e_putOnTop (by omega)) ?_
      rintro _ _ ⟨rfl, rfl⟩
      show tw_P L xs _ 138 19 [.ref 1, .int (nI c), .int (nI e), .ref (2 * c + 18)] [.int (σ (2 * c + 18) 2)] (tw_upd σ (2 * c + 18) 2 (nI e)) _
      refine tw_ri rfl (rfl) ?_
      refine ⟨_, rfl, ?_⟩
      show tw_P L xs _ 201 0 [.ref 88, .int (nI c), .int (nI e), tw_U] [] (tw_upd σ (2 * c + 18) 2 (nI e)) _
      refine tw_sg 2 (i1 := 2) (ls1 := [.ref 88, .int (nI c), .int (nI e), tw_U]) (st1 := [.int (nI c), .ref 88]) (σ1 := (tw_upd σ (2 * c + 18) 2 (nI e))) rfl ?_
      refine tw_cl1 rfl (rfl) (by decide) (tw_e_isCard1 (σ := tw_upd σ (2 * c + 18) 2 (nI e)) (by rw [tw_upd_off (by omega)]; exact hn89) hn10 hc) ?_
      rintro _ _ ⟨rfl, rfl⟩
      show tw_P L xs _ 201 3 [.ref 88, .int (nI c), .int (nI e), tw_U] [.int (nI 1)] (tw_upd σ (2 * c + 18) 2 (nI e)) _
      refine tw_bzT (c := .ne) rfl (by rw [tw_cne, tw_neq (by omega) (by omega)] <;> omega) ?_
      show tw_P L xs _ 201 6 [.ref 88, .int (nI c), .int (nI e), tw_U] [] (tw_upd σ (2 * c + 18) 2 (nI e)) _
      refine tw_sg 3 (i1 := 9) (ls1 := [.ref 88, .int (nI c), .int (nI e), tw_U]) (st1 := [.int (nI 3), .int (nI 0), .int (nI e)]) (σ1 := (tw_upd σ (2 * c + 18) 2 (nI e))) rfl ?_
      refine tw_cl1 rfl (rfl) (by decide) (tw_e_in1 (tw_nge0 (by omega)) (by rw [tw_nlt (by omega) (by omega)]; omega)) ?_
      rintro _ _ ⟨rfl, rfl⟩
      show tw_P L xs _ 201 10 [.ref 88, .int (nI c), .int (nI e), tw_U] [.int (nI 1)] (tw_upd σ (2 * c + 18) 2 (nI e)) _
      refine tw_bzT (c := .ne) rfl (by rw [tw_cne, tw_neq (by omega) (by omega)] <;> omega) ?_
      show tw_P L xs _ 201 13 [.ref 88, .int (nI c), .int (nI e), tw_U] [] (tw_upd σ (2 * c + 18) 2 (nI e)) _
      refine tw_sg 3 (i1 := 16) (ls1 := [.ref 88, .int (nI c), .int (nI e), tw_U]) (st1 := [.int (nI c), .ref 93]) (σ1 := (tw_upd σ (2 * c + 18) 2 (nI e))) rfl ?_
      refine tw_al (k := 93) (j := c) (len := 20) rfl rfl rfl rfl (rfl) (by omega) (by decide) ?_
      rw [show (tw_upd σ (2 * c + 18) 2 (nI e)) 93 c = σ 93 c from by repeat (first | exact rfl | exact tw_upd_at | rw [tw_upd_off (by omega)])]
      refine tw_sg 5 (i1 := 22) (ls1 := [.ref 88, .int (nI c), .int (nI e), .int (σ 93 c)]) (st1 := [.int (nI e), .int (nI c), .ref 93]) (σ1 := (tw_upd σ (2 * c + 18) 2 (nI e))) rfl ?_
      refine tw_as (k := 93) (j := c) (len := 20) rfl rfl rfl (rfl) (by omega) (by decide) ?_
      refine tw_sg 1 (i1 := 24) (ls1 := [.ref 88, .int (nI c), .int (nI e), .int (σ 93 c)]) (st1 := [.int (σ 93 c)]) (σ1 := (tw_upd (tw_upd σ (2 * c + 18) 2 (nI e)) 93 c (nI e))) rfl ?_
      refine tw_ri rfl (rfl) ?_
      refine ⟨by rw [g5], ?_⟩
      generalize hτ : tw_upd (tw_upd σ (2 * c + 18) 2 (nI e)) 93 c (nI e) = τ
      have t1 : τ (2 * c + 18) 2 = nI e := by rw [← hτ, tw_upd_off (by omega)]; exact tw_upd_at
      have t2 : τ 93 c = nI e := by rw [← hτ]; exact tw_upd_at
      have t3 : ∀ k j, ¬ (k = 2 * c + 18 ∧ j = 2) → ¬ (k = 93 ∧ j = c) → τ k j = σ k j := fun k j h1 h2 => by rw [← hτ, tw_upd_off h2, tw_upd_off h1]
      refine tw_Inv_card (c := c) hI (by omega) (fun k j h1 h2 h3 h4 => t3 k j (by omega) (by omega)) (t3 94 c (by omega) (by omega)) ⟨fun h hh => ?_, ⟨?_, q, g3, ?_⟩, ⟨by rw [t1, t2], e, he, t2⟩, ?_⟩
      · rw [t3 (2 * c + 19) h (by omega) (by omega), t3 91 (4 * c + h) (by omega) (by omega)]; exact g1 h hh
      · rw [t3 (2 * c + 18) 1 (by omega) (by omega), t3 92 c (by omega) (by omega)]; exact g2
      · rw [t3 92 c (by omega) (by omega)]; exact g4
      · rw [t3 (2 * c + 18) 3 (by omega) (by omega), t3 94 c (by omega) (by omega)]; exact g6
    · rcases hy with hy | ⟨hy, hy2⟩
      · skip
        show tw_P L xs _ 138 0 [.ref 1, .int (nI c), .int y, tw_U] [] σ _
        refine tw_sg 3 (i1 := 3) (ls1 := [.ref 1, .int (nI c), .int y, tw_U]) (st1 := [.int (nI c), .ref 6]) (σ1 := σ) rfl ?_
        refine tw_cl1 rfl (rfl) (by decide) (tw_e_cardAt1 hn6 hn10 hc) ?_
        rintro _ _ ⟨rfl, rfl⟩
        show tw_P L xs _ 138 4 [.ref 1, .int (nI c), .int y, tw_U] [.ref (2 * c + 18)] σ _
        refine tw_sg 4 (i1 := 10) (ls1 := [.ref 1, .int (nI c), .int y, .ref (2 * c + 18)]) (st1 := [.int y]) (σ1 := σ) rfl ?_
        refine tw_bzT (c := .lt) rfl (by rw [tw_clt]; exact hy) ?_
        show tw_P L xs _ 138 14 [.ref 1, .int (nI c), .int y, .ref (2 * c + 18)] [] σ _
        refine tw_sg 2 (i1 := 19) (ls1 := [.ref 1, .int (nI c), .int y, .ref (2 * c + 18)]) (st1 := [.int (-2)]) (σ1 := σ) rfl ?_
        refine tw_ri rfl (rfl) ?_
        refine ⟨_, rfl, ?_⟩
        show tw_P L xs _ 201 0 [.ref 88, .int (nI c), .int y, tw_U] [] σ _
        refine tw_sg 2 (i1 := 2) (ls1 := [.ref 88, .int (nI c), .int y, tw_U]) (st1 := [.int (nI c), .ref 88]) (σ1 := σ) rfl ?_
        refine tw_cl1 rfl (rfl) (by decide) (tw_e_isCard1 hn89 hn10 hc) ?_
        rintro _ _ ⟨rfl, rfl⟩
        show tw_P L xs _ 201 3 [.ref 88, .int (nI c), .int y, tw_U] [.int (nI 1)] σ _
        refine tw_bzT (c := .ne) rfl (by rw [tw_cne, tw_neq (by omega) (by omega)] <;> omega) ?_
        show tw_P L xs _ 201 6 [.ref 88, .int (nI c), .int y, tw_U] [] σ _
        refine tw_sg 3 (i1 := 9) (ls1 := [.ref 88, .int (nI c), .int y, tw_U]) (st1 := [.int (nI 3), .int (nI 0), .int y]) (σ1 := σ) rfl ?_
        refine tw_cl1 rfl (rfl) (by decide) (tw_e_in0a hy) ?_
        rintro _ _ ⟨rfl, rfl⟩
        show tw_P L xs _ 201 10 [.ref 88, .int (nI c), .int y, tw_U] [.int (nI 0)] σ _
        refine tw_bzF (c := .ne) rfl (by rw [tw_cne', tw_neq (by omega) (by omega)] <;> omega) ?_
        show tw_P L xs _ 201 11 [.ref 88, .int (nI c), .int y, tw_U] [] σ _
        refine tw_sg 1 (i1 := 12) (ls1 := [.ref 88, .int (nI c), .int y, tw_U]) (st1 := [.int (-2)]) (σ1 := σ) rfl ?_
        refine tw_ri rfl (rfl) ?_
        exact ⟨rfl, hI⟩
      · skip
        show tw_P L xs _ 138 0 [.ref 1, .int (nI c), .int y, tw_U] [] σ _
        refine tw_sg 3 (i1 := 3) (ls1 := [.ref 1, .int (nI c), .int y, tw_U]) (st1 := [.int (nI c), .ref 6]) (σ1 := σ) rfl ?_
        refine tw_cl1 rfl (rfl) (by decide) (tw_e_cardAt1 hn6 hn10 hc) ?_
        rintro _ _ ⟨rfl, rfl⟩
        show tw_P L xs _ 138 4 [.ref 1, .int (nI c), .int y, tw_U] [.ref (2 * c + 18)] σ _
        refine tw_sg 4 (i1 := 10) (ls1 := [.ref 1, .int (nI c), .int y, .ref (2 * c + 18)]) (st1 := [.int y]) (σ1 := σ) rfl ?_
        refine tw_bzF (c := .lt) rfl (by rw [tw_clt']; exact hy) ?_
        show tw_P L xs _ 138 11 [.ref 1, .int (nI c), .int y, .ref (2 * c + 18)] [] σ _
        refine tw_sg 2 (i1 := 13) (ls1 := [.ref 1, .int (nI c), .int y, .ref (2 * c + 18)]) (st1 := [.int (nI 4), .int y]) (σ1 := σ) rfl ?_
        refine tw_biF (c := .lt) rfl (by rw [tw_clt']; exact tw_not_lt.mpr hy2) ?_
        show tw_P L xs _ 138 14 [.ref 1, .int (nI c), .int y, .ref (2 * c + 18)] [] σ _
        refine tw_sg 2 (i1 := 19) (ls1 := [.ref 1, .int (nI c), .int y, .ref (2 * c + 18)]) (st1 := [.int (-2)]) (σ1 := σ) rfl ?_
        refine tw_ri rfl (rfl) ?_
        refine ⟨_, rfl, ?_⟩
        show tw_P L xs _ 201 0 [.ref 88, .int (nI c), .int y, tw_U] [] σ _
        refine tw_sg 2 (i1 := 2) (ls1 := [.ref 88, .int (nI c), .int y, tw_U]) (st1 := [.int (nI c), .ref 88]) (σ1 := σ) rfl ?_
        refine tw_cl1 rfl (rfl) (by decide) (tw_e_isCard1 hn89 hn10 hc) ?_
        rintro _ _ ⟨rfl, rfl⟩
        show tw_P L xs _ 201 3 [.ref 88, .int (nI c), .int y, tw_U] [.int (nI 1)] σ _
        refine tw_bzT (c := .ne) rfl (by rw [tw_cne, tw_neq (by omega) (by omega)] <;> omega) ?_
        show tw_P L xs _ 201 6 [.ref 88, .int (nI c), .int y, tw_U] [] σ _
        refine tw_sg 3 (i1 := 9) (ls1 := [.ref 88, .int (nI c), .int y, tw_U]) (st1 := [.int (nI 3), .int (nI 0), .int y]) (σ1 := σ) rfl ?_
        refine tw_cl1 rfl (rfl) (by decide) (tw_e_in0b hy (tw_lt_le1 (n := 3) (by decide) hy2)) ?_
        rintro _ _ ⟨rfl, rfl⟩
        show tw_P L xs _ 201 10 [.ref 88, .int (nI c), .int y, tw_U] [.int (nI 0)] σ _
        refine tw_bzF (c := .ne) rfl (by rw [tw_cne', tw_neq (by omega) (by omega)] <;> omega) ?_
        show tw_P L xs _ 201 11 [.ref 88, .int (nI c), .int y, tw_U] [] σ _
        refine tw_sg 1 (i1 := 12) (ls1 := [.ref 88, .int (nI c), .int y, tw_U]) (st1 := [.int (-2)]) (σ1 := σ) rfl ?_
        refine tw_ri rfl (rfl) ?_
        exact ⟨rfl, hI⟩
  · skip
    show tw_P L xs _ 138 0 [.ref 1, .int x, .int y, tw_U] [] σ _
    refine tw_sg 3 (i1 := 3) (ls1 := [.ref 1, .int x, .int y, tw_U]) (st1 := [.int x, .ref 6]) (σ1 := σ) rfl ?_
    refine tw_cl1 rfl (rfl) (by decide) (tw_e_cardAt0 hn6 hx) ?_
    rintro _ _ ⟨rfl, rfl⟩
    show tw_P L xs _ 138 4 [.ref 1, .int x, .int y, tw_U] [.null] σ _
    refine tw_sg 4 (i1 := 8) (ls1 := [.ref 1, .int x, .int y, .null]) (st1 := [.int (-1)]) (σ1 := σ) rfl ?_
    refine tw_ri rfl (rfl) ?_
    refine ⟨_, rfl, ?_⟩
    show tw_P L xs _ 201 0 [.ref 88, .int x, .int y, tw_U] [] σ _
    refine tw_sg 2 (i1 := 2) (ls1 := [.ref 88, .int x, .int y, tw_U]) (st1 := [.int x, .ref 88]) (σ1 := σ) rfl ?_
    refine tw_cl1 rfl (rfl) (by decide) (tw_e_isCard0 hn89 hn10 hx) ?_
    rintro _ _ ⟨rfl, rfl⟩
    show tw_P L xs _ 201 3 [.ref 88, .int x, .int y, tw_U] [.int (nI 0)] σ _
    refine tw_bzF (c := .ne) rfl (by rw [tw_cne', tw_neq (by omega) (by omega)] <;> omega) ?_
    show tw_P L xs _ 201 4 [.ref 88, .int x, .int y, tw_U] [] σ _
    refine tw_sg 1 (i1 := 5) (ls1 := [.ref 88, .int x, .int y, tw_U]) (st1 := [.int (-1)]) (σ1 := σ) rfl ?_
    refine tw_ri rfl (rfl) ?_
    exact ⟨rfl, hI⟩
theorem tw_e_isColour1 (h : e < 10) : tw_E L xs 0 177 [.int (nI e)] σ (fun v σ1 => v = some (.int (nI 1)) ∧ σ = σ1) := tw_E_mono tw_e_isColour (fun v σ1 g => ⟨by rw [g.1, if_neg (by rw [tw_nlt (by omega) (by omega), tw_nle (by omega) (by omega)]; omega)], g.2⟩)
theorem tw_e_isColour0 (h : x < nI 0 ∨ (¬ x < nI 0 ∧ nI 10 ≤ x)) : tw_E L xs 0 177 [.int x] σ (fun v σ1 => v = some (.int (nI 0)) ∧ σ = σ1) := tw_E_mono tw_e_isColour (fun v σ1 g => ⟨by rw [g.1, if_pos (h.imp id (fun q => q.2))], g.2⟩)
theorem tw_e_mIsColour1 (h : e < 10) : tw_E L xs 1 186 [.int (nI e)] σ (fun v σ1 => v = some (.int (nI 1)) ∧ σ = σ1) := tw_E_mono tw_e_mIsColour (fun v σ1 g => ⟨by rw [g.1, if_neg (by rw [tw_nlt (by omega) (by omega), tw_nlt (by omega) (by omega)]; omega)], g.2⟩)
theorem tw_e_mIsColour0 (h : x < nI 0 ∨ (¬ x < nI 0 ∧ nI 10 ≤ x)) : tw_E L xs 1 186 [.int x] σ (fun v σ1 => v = some (.int (nI 0)) ∧ σ = σ1) := tw_E_mono tw_e_mIsColour (fun v σ1 g => ⟨by rw [g.1, if_pos (h.imp id (fun q => tw_lt_le1 (n := 9) (by decide) q.2))], g.2⟩)
set_option maxHeartbeats 4000000 in
set_option maxRecDepth 100000 in
theorem tw_o_recolour {L : Nat} {xs : Nat → Int32} (x : Int32) (y : Int32) (w : Int32) : tw_op L xs 139 202 [.int x, .int y, .int w] := by
  intro σ hI
  obtain ⟨⟨n, r, hL⟩, hT, hPp, hPc, hLs, hIm, hC14, hC46, hC72⟩ := id hI
  obtain ⟨⟨hn10, hr50⟩, ⟨hn6, hn89⟩, ⟨hr9, hw9, hr90⟩, hCa, hRo, hLa⟩ := hL
  have hn6 : σ 6 4 = nI n := hn6
  have hn89 : σ 89 0 = nI n := hn89
  have hr9 : σ 9 3 = nI r := hr9
  have hw9 : σ 9 4 = nI n := hw9
  have hr90 : σ 90 0 = nI r := hr90
  rcases tw_within x n (by omega) with ⟨c, hc, rfl⟩ | hx
  · obtain ⟨g1, ⟨g2, q, g3, g4⟩, ⟨g5, q5, g7, g8⟩, g6⟩ := (tw_iCards0.mp hCa) c hc
    rcases tw_within y 4 (by decide) with ⟨h, hh, rfl⟩ | hy
    · rcases tw_within w 10 (by decide) with ⟨e, he, rfl⟩ | hw
      · skip
        show tw_P L xs _ 139 0 [.ref 1, .int (nI c), .int (nI h), .int (nI e), tw_U] [] σ _
        refine tw_sg 3 (i1 := 3) (ls1 := [.ref 1, .int (nI c), .int (nI h), .int (nI e), tw_U]) (st1 := [.int (nI c), .ref 6]) (σ1 := σ) rfl ?_
        refine tw_cl1 rfl (rfl) (by decide) (tw_e_cardAt1 hn6 hn10 hc) ?_
        rintro _ _ ⟨rfl, rfl⟩
        show tw_P L xs _ 139 4 [.ref 1, .int (nI c), .int (nI h), .int (nI e), tw_U] [.ref (2 * c + 18)] σ _
        refine tw_sg 4 (i1 := 8) (ls1 := [.ref 1, .int (nI c), .int (nI h), .int (nI e), .ref (2 * c + 18)]) (st1 := [.int (nI h)]) (σ1 := σ) rfl ?_
        refine tw_bzF (c := .lt) rfl (by rw [tw_clt', tw_nlt (by omega) (by omega)] <;> omega) ?_
        show tw_P L xs _ 139 9 [.ref 1, .int (nI c), .int (nI h), .int (nI e), .ref (2 * c + 18)] [] σ _
        refine tw_sg 2 (i1 := 11) (ls1 := [.ref 1, .int (nI c), .int (nI h), .int (nI e), .ref (2 * c + 18)]) (st1 := [.int (nI 4), .int (nI h)]) (σ1 := σ) rfl ?_
        refine tw_biT (c := .lt) rfl (by rw [tw_clt, tw_nlt (by omega) (by omega)] <;> omega) ?_
        show tw_P L xs _ 139 14 [.ref 1, .int (nI c), .int (nI h), .int (nI e), .ref (2 * c + 18)] [] σ _
        refine tw_sg 1 (i1 := 15) (ls1 := [.ref 1, .int (nI c), .int (nI h), .int (nI e), .ref (2 * c + 18)]) (st1 := [.int (nI e)]) (σ1 := σ) rfl ?_
        refine tw_cl1 rfl (rfl) (by decide) (tw_e_isColour1 he) ?_
        rintro _ _ ⟨rfl, rfl⟩
        show tw_P L xs _ 139 16 [.ref 1, .int (nI c), .int (nI h), .int (nI e), .ref (2 * c + 18)] [.int (nI 1)] σ _
        refine tw_bzF (c := .eq) rfl (by rw [tw_ceq', tw_neq (by omega) (by omega)] <;> omega) ?_
        show tw_P L xs _ 139 17 [.ref 1, .int (nI c), .int (nI h), .int (nI e), .ref (2 * c + 18)] [] σ _
        refine tw_sg 3 (i1 := 20) (ls1 := [.ref 1, .int (nI c), .int (nI h), .int (nI e), .ref (2 * c + 18)]) (st1 := [.int (nI e), .int (nI h), .ref (2 * c + 18)]) (σ1 := σ) rfl ?_
        refine tw_cl1 rfl (tw_inv_ok (y := 2) (b := 2) (st := [.int (nI e), .int (nI h), .ref (2 * c + 18)]) (k := (2 * c + 18)) (r := []) rfl rfl (tw_cdO (by omega))) (by decide) (tw_e_dye (by omega) hh) ?_
        rintro _ _ ⟨rfl, rfl⟩
        show tw_P L xs _ 139 21 [.ref 1, .int (nI c), .int (nI h), .int (nI e), .ref (2 * c + 18)] [.int (σ (2 * c + 19) h)] (tw_upd σ (2 * c + 19) h (nI e)) _
        refine tw_sg 1 (i1 := 23) (ls1 := [.ref 1, .int (nI c), .int (nI h), .int (nI e), .ref (2 * c + 18)]) (st1 := [.int (σ (2 * c + 19) h)]) (σ1 := (tw_upd σ (2 * c + 19) h (nI e))) rfl ?_
        refine tw_ri rfl (rfl) ?_
        refine ⟨_, rfl, ?_⟩
        show tw_P L xs _ 202 0 [.ref 88, .int (nI c), .int (nI h), .int (nI e), tw_U] [] (tw_upd σ (2 * c + 19) h (nI e)) _
        refine tw_sg 2 (i1 := 2) (ls1 := [.ref 88, .int (nI c), .int (nI h), .int (nI e), tw_U]) (st1 := [.int (nI c), .ref 88]) (σ1 := (tw_upd σ (2 * c + 19) h (nI e))) rfl ?_
        refine tw_cl1 rfl (rfl) (by decide) (tw_e_isCard1 (σ := tw_upd σ (2 * c + 19) h (nI e)) (by rw [tw_upd_off (by omega)]; exact hn89) hn10 hc) ?_
        rintro _ _ ⟨rfl, rfl⟩
        show tw_P L xs _ 202 3 [.ref 88, .int (nI c), .int (nI h), .int (nI e), tw_U] [.int (nI 1)] (tw_upd σ (2 * c + 19) h (nI e)) _
        refine tw_bzF (c := .eq) rfl (by rw [tw_ceq', tw_neq (by omega) (by omega)] <;> omega) ?_
        show tw_P L xs _ 202 4 [.ref 88, .int (nI c), .int (nI h), .int (nI e), tw_U] [] (tw_upd σ (2 * c + 19) h (nI e)) _
        refine tw_sg 3 (i1 := 7) (ls1 := [.ref 88, .int (nI c), .int (nI h), .int (nI e), tw_U]) (st1 := [.int (nI 3), .int (nI 0), .int (nI h)]) (σ1 := (tw_upd σ (2 * c + 19) h (nI e))) rfl ?_
        refine tw_cl1 rfl (rfl) (by decide) (tw_e_in1 (tw_nge0 (by omega)) (by rw [tw_nlt (by omega) (by omega)]; omega)) ?_
        rintro _ _ ⟨rfl, rfl⟩
        show tw_P L xs _ 202 8 [.ref 88, .int (nI c), .int (nI h), .int (nI e), tw_U] [.int (nI 1)] (tw_upd σ (2 * c + 19) h (nI e)) _
        refine tw_bzT (c := .ne) rfl (by rw [tw_cne, tw_neq (by omega) (by omega)] <;> omega) ?_
        show tw_P L xs _ 202 11 [.ref 88, .int (nI c), .int (nI h), .int (nI e), tw_U] [] (tw_upd σ (2 * c + 19) h (nI e)) _
        refine tw_sg 1 (i1 := 12) (ls1 := [.ref 88, .int (nI c), .int (nI h), .int (nI e), tw_U]) (st1 := [.int (nI e)]) (σ1 := (tw_upd σ (2 * c + 19) h (nI e))) rfl ?_
        refine tw_cl1 rfl (rfl) (by decide) (tw_e_mIsColour1 he) ?_
        rintro _ _ ⟨rfl, rfl⟩
        show tw_P L xs _ 202 13 [.ref 88, .int (nI c), .int (nI h), .int (nI e), tw_U] [.int (nI 1)] (tw_upd σ (2 * c + 19) h (nI e)) _
        refine tw_bzT (c := .ne) rfl (by rw [tw_cne, tw_neq (by omega) (by omega)] <;> omega) ?_
        show tw_P L xs _ 202 16 [.ref 88, .int (nI c), .int (nI h), .int (nI e), tw_U] [] (tw_upd σ (2 * c + 19) h (nI e)) _
        refine tw_sgn 7 (i1 := 23) (ls0 := [.ref 88, .int (nI c), .int (nI h), .int (nI e), tw_U]) (st0 := [.int ((nI 4 * nI c) + nI h), .ref 91]) (σ0 := (tw_upd σ (2 * c + 19) h (nI e))) (ls1 := [.ref 88, .int (nI c), .int (nI h), .int (nI e), tw_U]) (st1 := [.int (nI ((4 * c) + h)), .ref 91]) (σ1 := (tw_upd σ (2 * c + 19) h (nI e))) rfl (rfl) (by simp only [tw_nadd, tw_nmul]) (rfl) ?_
        refine tw_al (k := 91) (j := ((4 * c) + h)) (len := 80) rfl rfl rfl rfl (rfl) (by omega) (by decide) ?_
        rw [show (tw_upd σ (2 * c + 19) h (nI e)) 91 ((4 * c) + h) = σ 91 ((4 * c) + h) from by repeat (first | exact rfl | exact tw_upd_at | rw [tw_upd_off (by omega)])]
        refine tw_sgn 9 (i1 := 33) (ls0 := [.ref 88, .int (nI c), .int (nI h), .int (nI e), .int (σ 91 ((4 * c) + h))]) (st0 := [.int (nI e), .int ((nI 4 * nI c) + nI h), .ref 91]) (σ0 := (tw_upd σ (2 * c + 19) h (nI e))) (ls1 := [.ref 88, .int (nI c), .int (nI h), .int (nI e), .int (σ 91 ((4 * c) + h))]) (st1 := [.int (nI e), .int (nI ((4 * c) + h)), .ref 91]) (σ1 := (tw_upd σ (2 * c + 19) h (nI e))) rfl (rfl) (by simp only [tw_nadd, tw_nmul]) (rfl) ?_
        refine tw_as (k := 91) (j := ((4 * c) + h)) (len := 80) rfl rfl rfl (rfl) (by omega) (by decide) ?_
        refine tw_sg 1 (i1 := 35) (ls1 := [.ref 88, .int (nI c), .int (nI h), .int (nI e), .int (σ 91 ((4 * c) + h))]) (st1 := [.int (σ 91 ((4 * c) + h))]) (σ1 := (tw_upd (tw_upd σ (2 * c + 19) h (nI e)) 91 ((4 * c) + h) (nI e))) rfl ?_
        refine tw_ri rfl (rfl) ?_
        refine ⟨by rw [(g1 h hh).1], ?_⟩
        generalize hτ : tw_upd (tw_upd σ (2 * c + 19) h (nI e)) 91 (4 * c + h) (nI e) = τ
        have t1 : τ (2 * c + 19) h = nI e := by rw [← hτ, tw_upd_off (by omega)]; exact tw_upd_at
        have t2 : τ 91 (4 * c + h) = nI e := by rw [← hτ]; exact tw_upd_at
        have t3 : ∀ k j, ¬ (k = 2 * c + 19 ∧ j = h) → ¬ (k = 91 ∧ j = 4 * c + h) → τ k j = σ k j := fun k j h1 h2 => by rw [← hτ, tw_upd_off h2, tw_upd_off h1]
        refine tw_Inv_card (c := c) hI (by omega) (fun k j h1 h2 h3 h4 => t3 k j (by omega) (by omega)) (t3 94 c (by omega) (by omega)) ⟨fun h2 hh2 => ?_, ⟨?_, q, g3, ?_⟩, ⟨?_, q5, g7, ?_⟩, ?_⟩
        · by_cases hz : h2 = h
          · subst hz
            exact ⟨by rw [t1, t2], e, he, t2⟩
          · rw [t3 (2 * c + 19) h2 (by omega) (by omega), t3 91 (4 * c + h2) (by omega) (by omega)]; exact g1 h2 hh2
        · rw [t3 (2 * c + 18) 1 (by omega) (by omega), t3 92 c (by omega) (by omega)]; exact g2
        · rw [t3 92 c (by omega) (by omega)]; exact g4
        · rw [t3 (2 * c + 18) 2 (by omega) (by omega), t3 93 c (by omega) (by omega)]; exact g5
        · rw [t3 93 c (by omega) (by omega)]; exact g8
        · rw [t3 (2 * c + 18) 3 (by omega) (by omega), t3 94 c (by omega) (by omega)]; exact g6
      · skip
        show tw_P L xs _ 139 0 [.ref 1, .int (nI c), .int (nI h), .int w, tw_U] [] σ _
        refine tw_sg 3 (i1 := 3) (ls1 := [.ref 1, .int (nI c), .int (nI h), .int w, tw_U]) (st1 := [.int (nI c), .ref 6]) (σ1 := σ) rfl ?_
        refine tw_cl1 rfl (rfl) (by decide) (tw_e_cardAt1 hn6 hn10 hc) ?_
        rintro _ _ ⟨rfl, rfl⟩
        show tw_P L xs _ 139 4 [.ref 1, .int (nI c), .int (nI h), .int w, tw_U] [.ref (2 * c + 18)] σ _
        refine tw_sg 4 (i1 := 8) (ls1 := [.ref 1, .int (nI c), .int (nI h), .int w, .ref (2 * c + 18)]) (st1 := [.int (nI h)]) (σ1 := σ) rfl ?_
        refine tw_bzF (c := .lt) rfl (by rw [tw_clt', tw_nlt (by omega) (by omega)] <;> omega) ?_
        show tw_P L xs _ 139 9 [.ref 1, .int (nI c), .int (nI h), .int w, .ref (2 * c + 18)] [] σ _
        refine tw_sg 2 (i1 := 11) (ls1 := [.ref 1, .int (nI c), .int (nI h), .int w, .ref (2 * c + 18)]) (st1 := [.int (nI 4), .int (nI h)]) (σ1 := σ) rfl ?_
        refine tw_biT (c := .lt) rfl (by rw [tw_clt, tw_nlt (by omega) (by omega)] <;> omega) ?_
        show tw_P L xs _ 139 14 [.ref 1, .int (nI c), .int (nI h), .int w, .ref (2 * c + 18)] [] σ _
        refine tw_sg 1 (i1 := 15) (ls1 := [.ref 1, .int (nI c), .int (nI h), .int w, .ref (2 * c + 18)]) (st1 := [.int w]) (σ1 := σ) rfl ?_
        refine tw_cl1 rfl (rfl) (by decide) (tw_e_isColour0 hw) ?_
        rintro _ _ ⟨rfl, rfl⟩
        show tw_P L xs _ 139 16 [.ref 1, .int (nI c), .int (nI h), .int w, .ref (2 * c + 18)] [.int (nI 0)] σ _
        refine tw_bzT (c := .eq) rfl (by rw [tw_ceq, tw_neq (by omega) (by omega)] <;> omega) ?_
        show tw_P L xs _ 139 22 [.ref 1, .int (nI c), .int (nI h), .int w, .ref (2 * c + 18)] [] σ _
        refine tw_sg 1 (i1 := 23) (ls1 := [.ref 1, .int (nI c), .int (nI h), .int w, .ref (2 * c + 18)]) (st1 := [.int (-2)]) (σ1 := σ) rfl ?_
        refine tw_ri rfl (rfl) ?_
        refine ⟨_, rfl, ?_⟩
        show tw_P L xs _ 202 0 [.ref 88, .int (nI c), .int (nI h), .int w, tw_U] [] σ _
        refine tw_sg 2 (i1 := 2) (ls1 := [.ref 88, .int (nI c), .int (nI h), .int w, tw_U]) (st1 := [.int (nI c), .ref 88]) (σ1 := σ) rfl ?_
        refine tw_cl1 rfl (rfl) (by decide) (tw_e_isCard1 hn89 hn10 hc) ?_
        rintro _ _ ⟨rfl, rfl⟩
        show tw_P L xs _ 202 3 [.ref 88, .int (nI c), .int (nI h), .int w, tw_U] [.int (nI 1)] σ _
        refine tw_bzF (c := .eq) rfl (by rw [tw_ceq', tw_neq (by omega) (by omega)] <;> omega) ?_
        show tw_P L xs _ 202 4 [.ref 88, .int (nI c), .int (nI h), .int w, tw_U] [] σ _
        refine tw_sg 3 (i1 := 7) (ls1 := [.ref 88, .int (nI c), .int (nI h), .int w, tw_U]) (st1 := [.int (nI 3), .int (nI 0), .int (nI h)]) (σ1 := σ) rfl ?_
        refine tw_cl1 rfl (rfl) (by decide) (tw_e_in1 (tw_nge0 (by omega)) (by rw [tw_nlt (by omega) (by omega)]; omega)) ?_
        rintro _ _ ⟨rfl, rfl⟩
        show tw_P L xs _ 202 8 [.ref 88, .int (nI c), .int (nI h), .int w, tw_U] [.int (nI 1)] σ _
        refine tw_bzT (c := .ne) rfl (by rw [tw_cne, tw_neq (by omega) (by omega)] <;> omega) ?_
        show tw_P L xs _ 202 11 [.ref 88, .int (nI c), .int (nI h), .int w, tw_U] [] σ _
        refine tw_sg 1 (i1 := 12) (ls1 := [.ref 88, .int (nI c), .int (nI h), .int w, tw_U]) (st1 := [.int w]) (σ1 := σ) rfl ?_
        refine tw_cl1 rfl (rfl) (by decide) (tw_e_mIsColour0 hw) ?_
        rintro _ _ ⟨rfl, rfl⟩
        show tw_P L xs _ 202 13 [.ref 88, .int (nI c), .int (nI h), .int w, tw_U] [.int (nI 0)] σ _
        refine tw_bzF (c := .ne) rfl (by rw [tw_cne', tw_neq (by omega) (by omega)] <;> omega) ?_
        show tw_P L xs _ 202 14 [.ref 88, .int (nI c), .int (nI h), .int w, tw_U] [] σ _
        refine tw_sg 1 (i1 := 15) (ls1 := [.ref 88, .int (nI c), .int (nI h), .int w, tw_U]) (st1 := [.int (-2)]) (σ1 := σ) rfl ?_
        refine tw_ri rfl (rfl) ?_
        exact ⟨rfl, hI⟩
    · rcases hy with hy | ⟨hy, hy2⟩
      · skip
        show tw_P L xs _ 139 0 [.ref 1, .int (nI c), .int y, .int w, tw_U] [] σ _
        refine tw_sg 3 (i1 := 3) (ls1 := [.ref 1, .int (nI c), .int y, .int w, tw_U]) (st1 := [.int (nI c), .ref 6]) (σ1 := σ) rfl ?_
        refine tw_cl1 rfl (rfl) (by decide) (tw_e_cardAt1 hn6 hn10 hc) ?_
        rintro _ _ ⟨rfl, rfl⟩
        show tw_P L xs _ 139 4 [.ref 1, .int (nI c), .int y, .int w, tw_U] [.ref (2 * c + 18)] σ _
        refine tw_sg 4 (i1 := 8) (ls1 := [.ref 1, .int (nI c), .int y, .int w, .ref (2 * c + 18)]) (st1 := [.int y]) (σ1 := σ) rfl ?_
        refine tw_bzT (c := .lt) rfl (by rw [tw_clt]; exact hy) ?_
        show tw_P L xs _ 139 12 [.ref 1, .int (nI c), .int y, .int w, .ref (2 * c + 18)] [] σ _
        refine tw_sg 1 (i1 := 13) (ls1 := [.ref 1, .int (nI c), .int y, .int w, .ref (2 * c + 18)]) (st1 := [.int (-1)]) (σ1 := σ) rfl ?_
        refine tw_ri rfl (rfl) ?_
        refine ⟨_, rfl, ?_⟩
        show tw_P L xs _ 202 0 [.ref 88, .int (nI c), .int y, .int w, tw_U] [] σ _
        refine tw_sg 2 (i1 := 2) (ls1 := [.ref 88, .int (nI c), .int y, .int w, tw_U]) (st1 := [.int (nI c), .ref 88]) (σ1 := σ) rfl ?_
        refine tw_cl1 rfl (rfl) (by decide) (tw_e_isCard1 hn89 hn10 hc) ?_
        rintro _ _ ⟨rfl, rfl⟩
        show tw_P L xs _ 202 3 [.ref 88, .int (nI c), .int y, .int w, tw_U] [.int (nI 1)] σ _
        refine tw_bzF (c := .eq) rfl (by rw [tw_ceq', tw_neq (by omega) (by omega)] <;> omega) ?_
        show tw_P L xs _ 202 4 [.ref 88, .int (nI c), .int y, .int w, tw_U] [] σ _
        refine tw_sg 3 (i1 := 7) (ls1 := [.ref 88, .int (nI c), .int y, .int w, tw_U]) (st1 := [.int (nI 3), .int (nI 0), .int y]) (σ1 := σ) rfl ?_
        refine tw_cl1 rfl (rfl) (by decide) (tw_e_in0a hy) ?_
        rintro _ _ ⟨rfl, rfl⟩
        show tw_P L xs _ 202 8 [.ref 88, .int (nI c), .int y, .int w, tw_U] [.int (nI 0)] σ _
        refine tw_bzF (c := .ne) rfl (by rw [tw_cne', tw_neq (by omega) (by omega)] <;> omega) ?_
        show tw_P L xs _ 202 9 [.ref 88, .int (nI c), .int y, .int w, tw_U] [] σ _
        refine tw_sg 1 (i1 := 10) (ls1 := [.ref 88, .int (nI c), .int y, .int w, tw_U]) (st1 := [.int (-1)]) (σ1 := σ) rfl ?_
        refine tw_ri rfl (rfl) ?_
        exact ⟨rfl, hI⟩
      · skip
        show tw_P L xs _ 139 0 [.ref 1, .int (nI c), .int y, .int w, tw_U] [] σ _
        refine tw_sg 3 (i1 := 3) (ls1 := [.ref 1, .int (nI c), .int y, .int w, tw_U]) (st1 := [.int (nI c), .ref 6]) (σ1 := σ) rfl ?_
        refine tw_cl1 rfl (rfl) (by decide) (tw_e_cardAt1 hn6 hn10 hc) ?_
        rintro _ _ ⟨rfl, rfl⟩
        show tw_P L xs _ 139 4 [.ref 1, .int (nI c), .int y, .int w, tw_U] [.ref (2 * c + 18)] σ _
        refine tw_sg 4 (i1 := 8) (ls1 := [.ref 1, .int (nI c), .int y, .int w, .ref (2 * c + 18)]) (st1 := [.int y]) (σ1 := σ) rfl ?_
        refine tw_bzF (c := .lt) rfl (by rw [tw_clt']; exact hy) ?_
        show tw_P L xs _ 139 9 [.ref 1, .int (nI c), .int y, .int w, .ref (2 * c + 18)] [] σ _
        refine tw_sg 2 (i1 := 11) (ls1 := [.ref 1, .int (nI c), .int y, .int w, .ref (2 * c + 18)]) (st1 := [.int (nI 4), .int y]) (σ1 := σ) rfl ?_
        refine tw_biF (c := .lt) rfl (by rw [tw_clt']; exact tw_not_lt.mpr hy2) ?_
        show tw_P L xs _ 139 12 [.ref 1, .int (nI c), .int y, .int w, .ref (2 * c + 18)] [] σ _
        refine tw_sg 1 (i1 := 13) (ls1 := [.ref 1, .int (nI c), .int y, .int w, .ref (2 * c + 18)]) (st1 := [.int (-1)]) (σ1 := σ) rfl ?_
        refine tw_ri rfl (rfl) ?_
        refine ⟨_, rfl, ?_⟩
        show tw_P L xs _ 202 0 [.ref 88, .int (nI c), .int y, .int w, tw_U] [] σ _
        refine tw_sg 2 (i1 := 2) (ls1 := [.ref 88, .int (nI c), .int y, .int w, tw_U]) (st1 := [.int (nI c), .ref 88]) (σ1 := σ) rfl ?_
        refine tw_cl1 rfl (rfl) (by decide) (tw_e_isCard1 hn89 hn10 hc) ?_
        rintro _ _ ⟨rfl, rfl⟩
        show tw_P L xs _ 202 3 [.ref 88, .int (nI c), .int y, .int w, tw_U] [.int (nI 1)] σ _
        refine tw_bzF (c := .eq) rfl (by rw [tw_ceq', tw_neq (by omega) (by omega)] <;> omega) ?_
        show tw_P L xs _ 202 4 [.ref 88, .int (nI c), .int y, .int w, tw_U] [] σ _
        refine tw_sg 3 (i1 := 7) (ls1 := [.ref 88, .int (nI c), .int y, .int w, tw_U]) (st1 := [.int (nI 3), .int (nI 0), .int y]) (σ1 := σ) rfl ?_
        refine tw_cl1 rfl (rfl) (by decide) (tw_e_in0b hy (tw_lt_le1 (n := 3) (by decide) hy2)) ?_
        rintro _ _ ⟨rfl, rfl⟩
        show tw_P L xs _ 202 8 [.ref 88, .int (nI c), .int y, .int w, tw_U] [.int (nI 0)] σ _
        refine tw_bzF (c := .ne) rfl (by rw [tw_cne', tw_neq (by omega) (by omega)] <;> omega) ?_
        show tw_P L xs _ 202 9 [.ref 88, .int (nI c), .int y, .int w, tw_U] [] σ _
        refine tw_sg 1 (i1 := 10) (ls1 := [.ref 88, .int (nI c), .int y, .int w, tw_U]) (st1 := [.int (-1)]) (σ1 := σ) rfl ?_
        refine tw_ri rfl (rfl) ?_
        exact ⟨rfl, hI⟩
  · skip
    show tw_P L xs _ 139 0 [.ref 1, .int x, .int y, .int w, tw_U] [] σ _
    refine tw_sg 3 (i1 := 3) (ls1 := [.ref 1, .int x, .int y, .int w, tw_U]) (st1 := [.int x, .ref 6]) (σ1 := σ) rfl ?_
    refine tw_cl1 rfl (rfl) (by decide) (tw_e_cardAt0 hn6 hx) ?_
    rintro _ _ ⟨rfl, rfl⟩
    show tw_P L xs _ 139 4 [.ref 1, .int x, .int y, .int w, tw_U] [.null] σ _
    refine tw_sg 4 (i1 := 13) (ls1 := [.ref 1, .int x, .int y, .int w, .null]) (st1 := [.int (-1)]) (σ1 := σ) rfl ?_
    refine tw_ri rfl (rfl) ?_
    refine ⟨_, rfl, ?_⟩
    show tw_P L xs _ 202 0 [.ref 88, .int x, .int y, .int w, tw_U] [] σ _
    refine tw_sg 2 (i1 := 2) (ls1 := [.ref 88, .int x, .int y, .int w, tw_U]) (st1 := [.int x, .ref 88]) (σ1 := σ) rfl ?_
    refine tw_cl1 rfl (rfl) (by decide) (tw_e_isCard0 hn89 hn10 hx) ?_
    rintro _ _ ⟨rfl, rfl⟩
    show tw_P L xs _ 202 3 [.ref 88, .int x, .int y, .int w, tw_U] [.int (nI 0)] σ _
    refine tw_bzT (c := .eq) rfl (by rw [tw_ceq, tw_neq (by omega) (by omega)] <;> omega) ?_
    show tw_P L xs _ 202 9 [.ref 88, .int x, .int y, .int w, tw_U] [] σ _
    refine tw_sg 1 (i1 := 10) (ls1 := [.ref 88, .int x, .int y, .int w, tw_U]) (st1 := [.int (-1)]) (σ1 := σ) rfl ?_
    refine tw_ri rfl (rfl) ?_
    exact ⟨rfl, hI⟩
end tw_s28
