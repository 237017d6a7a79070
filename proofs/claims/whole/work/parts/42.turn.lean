/-! turn, pack -/
section tw_s42
variable {L : Nat} {xs : Nat → Int32} {σ : tw_Mem} {x y w : Int32} {n r i c k h q a b e : Nat}
theorem tw_e_isTurn1 {t : Nat} (ht : t < 4) : tw_E L xs 0 178 [.int (nI t)] σ (fun v σ1 => v = some (.int (nI 1)) ∧ σ = σ1) := tw_E_mono tw_e_isTurning (fun v σ1 h => ⟨by rw [h.1, if_neg (by rw [tw_nlt (by omega) (by omega), tw_nlt (by omega) (by omega)]; omega)], h.2⟩)
theorem tw_e_isTurn0 (h : x < nI 0 ∨ (¬ x < nI 0 ∧ nI 4 ≤ x)) : tw_E L xs 0 178 [.int x] σ (fun v σ1 => v = some (.int (nI 0)) ∧ σ = σ1) := tw_E_mono tw_e_isTurning (fun v σ1 g => ⟨by rw [g.1, if_pos (h.imp id (fun q => tw_lt_le1 (n := 3) (by decide) q.2))], g.2⟩)
theorem tw_e_in03_1 {t : Nat} (ht : t < 4) : tw_E L xs 0 182 [.int (nI t), .int (nI 0), .int (nI 3)] σ (fun v σ1 => v = some (.int (nI 1)) ∧ σ = σ1) := tw_e_in1 (tw_nge0 (by omega)) (by rw [tw_nlt (by omega) (by omega)]; omega)
theorem tw_e_in03_0 (h : x < nI 0 ∨ (¬ x < nI 0 ∧ nI 4 ≤ x)) : tw_E L xs 0 182 [.int x, .int (nI 0), .int (nI 3)] σ (fun v σ1 => v = some (.int (nI 0)) ∧ σ = σ1) := by
  rcases h with h | ⟨h, h2⟩
  · exact tw_e_in0a h
  · exact tw_e_in0b h (tw_lt_le1 (n := 3) (by decide) h2)
theorem tw_shl1b : ∀ n, n ≤ 10 → nI 1 <<< (nI n &&& 31) = nI (2 ^ n) := by decide +kernel
set_option maxHeartbeats 4000000 in
set_option maxRecDepth 100000 in
theorem tw_o_turn {L : Nat} {xs : Nat → Int32} (x : Int32) (y : Int32) : tw_op L xs 140 209 [.int x, .int y] := by
  intro σ hI
  obtain ⟨⟨n, r, hL⟩, hT, hPp, hPc, hLs, hIm, hC14, hC46, hC72⟩ := id hI
  obtain ⟨⟨hn10, hr50⟩, ⟨hn6, hn89⟩, ⟨hr9, hw9, hr90⟩, hCa, hRo, hLa⟩ := hL
  have hn6 : σ 6 4 = nI n := hn6
  have hn89 : σ 89 0 = nI n := hn89
  have hr9 : σ 9 3 = nI r := hr9
  have hw9 : σ 9 4 = nI n := hw9
  have hr90 : σ 90 0 = nI r := hr90
  rcases tw_within x n (by omega) with ⟨c, hc, rfl⟩ | hx
  · rcases tw_within y 4 (by decide) with ⟨t, ht, rfl⟩ | hy
    · skip
      show tw_P L xs _ 140 0 [.ref 1, .int (nI c), .int (nI t)] [] σ _
      refine tw_sg 3 (i1 := 3) (ls1 := [.ref 1, .int (nI c), .int (nI t)]) (st1 := [.int (nI c), .ref 6]) (σ1 := σ) rfl ?_
      refine tw_cl1 rfl (rfl) (by decide) (tw_e_cardAt1 hn6 hn10 hc) ?_
      rintro _ _ ⟨rfl, rfl⟩
      show tw_P L xs _ 140 4 [.ref 1, .int (nI c), .int (nI t)] [.ref (2 * c + 18)] σ _
      refine tw_sg 2 (i1 := 8) (ls1 := [.ref 1, .int (nI c), .int (nI t)]) (st1 := [.int (nI t)]) (σ1 := σ) rfl ?_
      refine tw_cl1 rfl (rfl) (by decide) (tw_e_isTurn1 ht) ?_
      rintro _ _ ⟨rfl, rfl⟩
      show tw_P L xs _ 140 9 [.ref 1, .int (nI c), .int (nI t)] [.int (nI 1)] σ _
      refine tw_bzF (c := .eq) rfl (by rw [tw_ceq', tw_neq (by omega) (by omega)] <;> omega) ?_
      show tw_P L xs _ 140 10 [.ref 1, .int (nI c), .int (nI t)] [] σ _
      refine tw_sg 5 (i1 := 15) (ls1 := [.ref 1, .int (nI c), .int (nI t)]) (st1 := [.int (nI t), .int (nI 1 <<< (nI c &&& 31)), .ref 1]) (σ1 := σ) rfl ?_
      refine tw_cl1 rfl (rfl) (by decide) (tw_core ht σ hI) ?_
      rintro _ σ1 ⟨u, rfl, hk, hE⟩
      show tw_P L xs _ 140 16 [.ref 1, .int (nI c), .int (nI t)] [.int u] σ1 _
      refine tw_sg 1 (i1 := 18) (ls1 := [.ref 1, .int (nI c), .int (nI t)]) (st1 := [.int u]) (σ1 := σ1) rfl ?_
      refine tw_ri rfl (rfl) ?_
      refine ⟨_, rfl, ?_⟩
      show tw_P L xs _ 209 0 [.ref 88, .int (nI c), .int (nI t)] [] σ1 _
      refine tw_sg 2 (i1 := 2) (ls1 := [.ref 88, .int (nI c), .int (nI t)]) (st1 := [.int (nI c), .ref 88]) (σ1 := σ1) rfl ?_
      refine tw_cl1 rfl (rfl) (by decide) (tw_e_isCard1 (σ := σ1) (by rw [hk 89 0 (by omega)]; exact hn89) hn10 hc) ?_
      rintro _ _ ⟨rfl, rfl⟩
      show tw_P L xs _ 209 3 [.ref 88, .int (nI c), .int (nI t)] [.int (nI 1)] σ1 _
      refine tw_bzT (c := .ne) rfl (by rw [tw_cne, tw_neq (by omega) (by omega)] <;> omega) ?_
      show tw_P L xs _ 209 6 [.ref 88, .int (nI c), .int (nI t)] [] σ1 _
      refine tw_sg 3 (i1 := 9) (ls1 := [.ref 88, .int (nI c), .int (nI t)]) (st1 := [.int (nI 3), .int (nI 0), .int (nI t)]) (σ1 := σ1) rfl ?_
      refine tw_cl1 rfl (rfl) (by decide) (tw_e_in03_1 ht) ?_
      rintro _ _ ⟨rfl, rfl⟩
      show tw_P L xs _ 209 10 [.ref 88, .int (nI c), .int (nI t)] [.int (nI 1)] σ1 _
      refine tw_bzF (c := .eq) rfl (by rw [tw_ceq', tw_neq (by omega) (by omega)] <;> omega) ?_
      show tw_P L xs _ 209 11 [.ref 88, .int (nI c), .int (nI t)] [] σ1 _
      refine tw_sg 5 (i1 := 16) (ls1 := [.ref 88, .int (nI c), .int (nI t)]) (st1 := [.int (nI t), .int (nI 1 <<< (nI c &&& 31)), .ref 88]) (σ1 := σ1) rfl ?_
      refine tw_cl1 rfl (rfl) (by decide) (hE) ?_
      rintro _ σ2 ⟨rfl, hI2⟩
      show tw_P L xs _ 209 17 [.ref 88, .int (nI c), .int (nI t)] [.int u] σ2 _
      refine tw_sg 1 (i1 := 19) (ls1 := [.ref 88, .int (nI c), .int (nI t)]) (st1 := [.int u]) (σ1 := σ2) rfl ?_
      refine tw_ri rfl (rfl) ?_
      exact ⟨rfl, hI2⟩
    · skip
      show tw_P L xs _ 140 0 [.ref 1, .int (nI c), .int y] [] σ _
      refine tw_sg 3 (i1 := 3) (ls1 := [.ref 1, .int (nI c), .int y]) (st1 := [.int (nI c), .ref 6]) (σ1 := σ) rfl ?_
      refine tw_cl1 rfl (rfl) (by decide) (tw_e_cardAt1 hn6 hn10 hc) ?_
      rintro _ _ ⟨rfl, rfl⟩
      show tw_P L xs _ 140 4 [.ref 1, .int (nI c), .int y] [.ref (2 * c + 18)] σ _
      refine tw_sg 2 (i1 := 8) (ls1 := [.ref 1, .int (nI c), .int y]) (st1 := [.int y]) (σ1 := σ) rfl ?_
      refine tw_cl1 rfl (rfl) (by decide) (tw_e_isTurn0 hy) ?_
      rintro _ _ ⟨rfl, rfl⟩
      show tw_P L xs _ 140 9 [.ref 1, .int (nI c), .int y] [.int (nI 0)] σ _
      refine tw_bzT (c := .eq) rfl (by rw [tw_ceq, tw_neq (by omega) (by omega)] <;> omega) ?_
      show tw_P L xs _ 140 17 [.ref 1, .int (nI c), .int y] [] σ _
      refine tw_sg 1 (i1 := 18) (ls1 := [.ref 1, .int (nI c), .int y]) (st1 := [.int (-2)]) (σ1 := σ) rfl ?_
      refine tw_ri rfl (rfl) ?_
      refine ⟨_, rfl, ?_⟩
      show tw_P L xs _ 209 0 [.ref 88, .int (nI c), .int y] [] σ _
      refine tw_sg 2 (i1 := 2) (ls1 := [.ref 88, .int (nI c), .int y]) (st1 := [.int (nI c), .ref 88]) (σ1 := σ) rfl ?_
      refine tw_cl1 rfl (rfl) (by decide) (tw_e_isCard1 hn89 hn10 hc) ?_
      rintro _ _ ⟨rfl, rfl⟩
      show tw_P L xs _ 209 3 [.ref 88, .int (nI c), .int y] [.int (nI 1)] σ _
      refine tw_bzT (c := .ne) rfl (by rw [tw_cne, tw_neq (by omega) (by omega)] <;> omega) ?_
      show tw_P L xs _ 209 6 [.ref 88, .int (nI c), .int y] [] σ _
      refine tw_sg 3 (i1 := 9) (ls1 := [.ref 88, .int (nI c), .int y]) (st1 := [.int (nI 3), .int (nI 0), .int y]) (σ1 := σ) rfl ?_
      refine tw_cl1 rfl (rfl) (by decide) (tw_e_in03_0 hy) ?_
      rintro _ _ ⟨rfl, rfl⟩
      show tw_P L xs _ 209 10 [.ref 88, .int (nI c), .int y] [.int (nI 0)] σ _
      refine tw_bzT (c := .eq) rfl (by rw [tw_ceq, tw_neq (by omega) (by omega)] <;> omega) ?_
      show tw_P L xs _ 209 18 [.ref 88, .int (nI c), .int y] [] σ _
      refine tw_sg 1 (i1 := 19) (ls1 := [.ref 88, .int (nI c), .int y]) (st1 := [.int (-2)]) (σ1 := σ) rfl ?_
      refine tw_ri rfl (rfl) ?_
      exact ⟨rfl, hI⟩
  · skip
    show tw_P L xs _ 140 0 [.ref 1, .int x, .int y] [] σ _
    refine tw_sg 3 (i1 := 3) (ls1 := [.ref 1, .int x, .int y]) (st1 := [.int x, .ref 6]) (σ1 := σ) rfl ?_
    refine tw_cl1 rfl (rfl) (by decide) (tw_e_cardAt0 hn6 hx) ?_
    rintro _ _ ⟨rfl, rfl⟩
    show tw_P L xs _ 140 4 [.ref 1, .int x, .int y] [.null] σ _
    refine tw_sg 2 (i1 := 6) (ls1 := [.ref 1, .int x, .int y]) (st1 := [.int (-1)]) (σ1 := σ) rfl ?_
    refine tw_ri rfl (rfl) ?_
    refine ⟨_, rfl, ?_⟩
    show tw_P L xs _ 209 0 [.ref 88, .int x, .int y] [] σ _
    refine tw_sg 2 (i1 := 2) (ls1 := [.ref 88, .int x, .int y]) (st1 := [.int x, .ref 88]) (σ1 := σ) rfl ?_
    refine tw_cl1 rfl (rfl) (by decide) (tw_e_isCard0 hn89 hn10 hx) ?_
    rintro _ _ ⟨rfl, rfl⟩
    show tw_P L xs _ 209 3 [.ref 88, .int x, .int y] [.int (nI 0)] σ _
    refine tw_bzF (c := .ne) rfl (by rw [tw_cne', tw_neq (by omega) (by omega)] <;> omega) ?_
    show tw_P L xs _ 209 4 [.ref 88, .int x, .int y] [] σ _
    refine tw_sg 1 (i1 := 5) (ls1 := [.ref 88, .int x, .int y]) (st1 := [.int (-1)]) (σ1 := σ) rfl ?_
    refine tw_ri rfl (rfl) ?_
    exact ⟨rfl, hI⟩
set_option maxHeartbeats 4000000 in
set_option maxRecDepth 100000 in
theorem tw_o_pack {L : Nat} {xs : Nat → Int32} (x : Int32) (y : Int32) : tw_op L xs 141 210 [.int x, .int y] := by
  intro σ hI
  obtain ⟨⟨n, r, hL⟩, hT, hPp, hPc, hLs, hIm, hC14, hC46, hC72⟩ := id hI
  obtain ⟨⟨hn10, hr50⟩, ⟨hn6, hn89⟩, ⟨hr9, hw9, hr90⟩, hCa, hRo, hLa⟩ := hL
  have hn6 : σ 6 4 = nI n := hn6
  have hn89 : σ 89 0 = nI n := hn89
  have hr9 : σ 9 3 = nI r := hr9
  have hw9 : σ 9 4 = nI n := hw9
  have hr90 : σ 90 0 = nI r := hr90
  have hpw : 2 ^ n ≤ 1024 := tw_pow_le n hn10
  have hs0 := tw_shl1b n hn10
  rcases tw_within x (2 ^ n) (by omega) with ⟨a, ha, rfl⟩ | hx
  · rcases tw_within y 4 (by decide) with ⟨t, ht, rfl⟩ | hy
    · rcases Nat.eq_zero_or_pos n with hz | hpos
      · skip
        subst hz
        show tw_P L xs _ 141 0 [.ref 1, .int (nI a), .int (nI t)] [] σ _
        refine tw_sg 1 (i1 := 1) (ls1 := [.ref 1, .int (nI a), .int (nI t)]) (st1 := [.int (nI a)]) (σ1 := σ) rfl ?_
        refine tw_bzF (c := .lt) rfl (by rw [tw_clt'] <;> (exact (tw_nge0 (by omega)))) ?_
        show tw_P L xs _ 141 2 [.ref 1, .int (nI a), .int (nI t)] [] σ _
        refine tw_sg 4 (i1 := 6) (ls1 := [.ref 1, .int (nI a), .int (nI t)]) (st1 := [.ref 6, .int (nI 1), .int (nI a)]) (σ1 := σ) rfl ?_
        refine tw_cl0 59 rfl (rfl) (by decide) ?_
        show tw_P L xs _ 82 0 [.ref 6] [] σ _
        refine tw_sgn 2 (i1 := 2) (ls0 := [.ref 6]) (st0 := [.int (σ 6 4)]) (σ0 := σ) (ls1 := [.ref 6]) (st1 := [.int (nI 0)]) (σ1 := σ) rfl (rfl) (by simp only [hn6, tw_nadd, tw_nmul]) (rfl) ?_
        refine tw_ri rfl (rfl) ?_
        show tw_P L xs _ 141 7 [.ref 1, .int (nI a), .int (nI t)] [.int (nI 0), .int (nI 1), .int (nI a)] σ _
        refine tw_sgn 1 (i1 := 8) (ls0 := [.ref 1, .int (nI a), .int (nI t)]) (st0 := [.int (nI 1 <<< (nI 0 &&& 31)), .int (nI a)]) (σ0 := σ) (ls1 := [.ref 1, .int (nI a), .int (nI t)]) (st1 := [.int (nI (2 ^ 0)), .int (nI a)]) (σ1 := σ) rfl (rfl) (by simp only [tw_shl1b 0 hn10, tw_nadd, tw_nmul]) (rfl) ?_
        refine tw_biF (c := .ge) rfl (by rw [tw_cge'] <;> (exact tw_not_le.mpr (by rw [tw_nlt (by omega) (by omega)]; exact ha))) ?_
        show tw_P L xs _ 141 9 [.ref 1, .int (nI a), .int (nI t)] [] σ _
        refine tw_sg 1 (i1 := 10) (ls1 := [.ref 1, .int (nI a), .int (nI t)]) (st1 := [.int (nI t)]) (σ1 := σ) rfl ?_
        refine tw_cl1 rfl (rfl) (by decide) (tw_e_isTurn1 ht) ?_
        rintro _ _ ⟨rfl, rfl⟩
        show tw_P L xs _ 141 11 [.ref 1, .int (nI a), .int (nI t)] [.int (nI 1)] σ _
        refine tw_bzT (c := .ne) rfl (by rw [tw_cne, tw_neq (by omega) (by omega)] <;> omega) ?_
        show tw_P L xs _ 141 14 [.ref 1, .int (nI a), .int (nI t)] [] σ _
        refine tw_sg 2 (i1 := 16) (ls1 := [.ref 1, .int (nI a), .int (nI t)]) (st1 := [.ref 6]) (σ1 := σ) rfl ?_
        refine tw_cl0 59 rfl (rfl) (by decide) ?_
        show tw_P L xs _ 82 0 [.ref 6] [] σ _
        refine tw_sgn 2 (i1 := 2) (ls0 := [.ref 6]) (st0 := [.int (σ 6 4)]) (σ0 := σ) (ls1 := [.ref 6]) (st1 := [.int (nI 0)]) (σ1 := σ) rfl (rfl) (by simp only [hn6, tw_nadd, tw_nmul]) (rfl) ?_
        refine tw_ri rfl (rfl) ?_
        show tw_P L xs _ 141 17 [.ref 1, .int (nI a), .int (nI t)] [.int (nI 0)] σ _
        refine tw_bzF (c := .ne) rfl (by rw [tw_cne', tw_neq (by omega) (by omega)] <;> omega) ?_
        show tw_P L xs _ 141 18 [.ref 1, .int (nI a), .int (nI t)] [] σ _
        refine tw_sg 2 (i1 := 24) (ls1 := [.ref 1, .int (nI a), .int (nI t)]) (st1 := [.int (-3)]) (σ1 := σ) rfl ?_
        refine tw_ri rfl (rfl) ?_
        refine ⟨_, rfl, ?_⟩
        show tw_P L xs _ 210 0 [.ref 88, .int (nI a), .int (nI t)] [] σ _
        refine tw_sg 6 (i1 := 6) (ls1 := [.ref 88, .int (nI a), .int (nI t)]) (st1 := [.int (nI 0), .ref 89, .int (nI 1), .int (nI 0), .int (nI a)]) (σ1 := σ) rfl ?_
        refine tw_al (k := 89) (j := 0) (len := 2) rfl rfl rfl rfl (rfl) (by omega) (by decide) ?_
        rw [hn89]
        refine tw_sgn 3 (i1 := 10) (ls0 := [.ref 88, .int (nI a), .int (nI t)]) (st0 := [.int ((nI 1 <<< (nI 0 &&& 31)) - nI 1), .int (nI 0), .int (nI a)]) (σ0 := σ) (ls1 := [.ref 88, .int (nI a), .int (nI t)]) (st1 := [.int (nI (2 ^ 0) - nI 1), .int (nI 0), .int (nI a)]) (σ1 := σ) rfl (rfl) (by simp only [tw_shl1b 0 hn10, tw_nadd, tw_nmul]) (rfl) ?_
        refine tw_cl1 rfl (rfl) (by decide) (tw_e_inN1 ha (by omega)) ?_
        rintro _ _ ⟨rfl, rfl⟩
        show tw_P L xs _ 210 11 [.ref 88, .int (nI a), .int (nI t)] [.int (nI 1)] σ _
        refine tw_bzF (c := .eq) rfl (by rw [tw_ceq', tw_neq (by omega) (by omega)] <;> omega) ?_
        show tw_P L xs _ 210 12 [.ref 88, .int (nI a), .int (nI t)] [] σ _
        refine tw_sg 3 (i1 := 15) (ls1 := [.ref 88, .int (nI a), .int (nI t)]) (st1 := [.int (nI 3), .int (nI 0), .int (nI t)]) (σ1 := σ) rfl ?_
        refine tw_cl1 rfl (rfl) (by decide) (tw_e_in03_1 ht) ?_
        rintro _ _ ⟨rfl, rfl⟩
        show tw_P L xs _ 210 16 [.ref 88, .int (nI a), .int (nI t)] [.int (nI 1)] σ _
        refine tw_bzT (c := .ne) rfl (by rw [tw_cne, tw_neq (by omega) (by omega)] <;> omega) ?_
        show tw_P L xs _ 210 19 [.ref 88, .int (nI a), .int (nI t)] [] σ _
        refine tw_sg 3 (i1 := 22) (ls1 := [.ref 88, .int (nI a), .int (nI t)]) (st1 := [.int (nI 0), .ref 89]) (σ1 := σ) rfl ?_
        refine tw_al (k := 89) (j := 0) (len := 2) rfl rfl rfl rfl (rfl) (by omega) (by decide) ?_
        rw [hn89]
        refine tw_bzF (c := .ne) rfl (by rw [tw_cne', tw_neq (by omega) (by omega)] <;> omega) ?_
        show tw_P L xs _ 210 24 [.ref 88, .int (nI a), .int (nI t)] [] σ _
        refine tw_sg 2 (i1 := 30) (ls1 := [.ref 88, .int (nI a), .int (nI t)]) (st1 := [.int (-3)]) (σ1 := σ) rfl ?_
        refine tw_ri rfl (rfl) ?_
        exact ⟨rfl, hI⟩
      · skip
        show tw_P L xs _ 141 0 [.ref 1, .int (nI a), .int (nI t)] [] σ _
        refine tw_sg 1 (i1 := 1) (ls1 := [.ref 1, .int (nI a), .int (nI t)]) (st1 := [.int (nI a)]) (σ1 := σ) rfl ?_
        refine tw_bzF (c := .lt) rfl (by rw [tw_clt'] <;> (exact (tw_nge0 (by omega)))) ?_
        show tw_P L xs _ 141 2 [.ref 1, .int (nI a), .int (nI t)] [] σ _
        refine tw_sg 4 (i1 := 6) (ls1 := [.ref 1, .int (nI a), .int (nI t)]) (st1 := [.ref 6, .int (nI 1), .int (nI a)]) (σ1 := σ) rfl ?_
        refine tw_cl0 59 rfl (rfl) (by decide) ?_
        show tw_P L xs _ 82 0 [.ref 6] [] σ _
        refine tw_sgn 2 (i1 := 2) (ls0 := [.ref 6]) (st0 := [.int (σ 6 4)]) (σ0 := σ) (ls1 := [.ref 6]) (st1 := [.int (nI n)]) (σ1 := σ) rfl (rfl) (by simp only [hn6, tw_nadd, tw_nmul]) (rfl) ?_
        refine tw_ri rfl (rfl) ?_
        show tw_P L xs _ 141 7 [.ref 1, .int (nI a), .int (nI t)] [.int (nI n), .int (nI 1), .int (nI a)] σ _
        refine tw_sgn 1 (i1 := 8) (ls0 := [.ref 1, .int (nI a), .int (nI t)]) (st0 := [.int (nI 1 <<< (nI n &&& 31)), .int (nI a)]) (σ0 := σ) (ls1 := [.ref 1, .int (nI a), .int (nI t)]) (st1 := [.int (nI (2 ^ n)), .int (nI a)]) (σ1 := σ) rfl (rfl) (by simp only [tw_shl1b n hn10, tw_nadd, tw_nmul]) (rfl) ?_
        refine tw_biF (c := .ge) rfl (by rw [tw_cge'] <;> (exact tw_not_le.mpr (by rw [tw_nlt (by omega) (by omega)]; exact ha))) ?_
        show tw_P L xs _ 141 9 [.ref 1, .int (nI a), .int (nI t)] [] σ _
        refine tw_sg 1 (i1 := 10) (ls1 := [.ref 1, .int (nI a), .int (nI t)]) (st1 := [.int (nI t)]) (σ1 := σ) rfl ?_
        refine tw_cl1 rfl (rfl) (by decide) (tw_e_isTurn1 ht) ?_
        rintro _ _ ⟨rfl, rfl⟩
        show tw_P L xs _ 141 11 [.ref 1, .int (nI a), .int (nI t)] [.int (nI 1)] σ _
        refine tw_bzT (c := .ne) rfl (by rw [tw_cne, tw_neq (by omega) (by omega)] <;> omega) ?_
        show tw_P L xs _ 141 14 [.ref 1, .int (nI a), .int (nI t)] [] σ _
        refine tw_sg 2 (i1 := 16) (ls1 := [.ref 1, .int (nI a), .int (nI t)]) (st1 := [.ref 6]) (σ1 := σ) rfl ?_
        refine tw_cl0 59 rfl (rfl) (by decide) ?_
        show tw_P L xs _ 82 0 [.ref 6] [] σ _
        refine tw_sgn 2 (i1 := 2) (ls0 := [.ref 6]) (st0 := [.int (σ 6 4)]) (σ0 := σ) (ls1 := [.ref 6]) (st1 := [.int (nI n)]) (σ1 := σ) rfl (rfl) (by simp only [hn6, tw_nadd, tw_nmul]) (rfl) ?_
        refine tw_ri rfl (rfl) ?_
        show tw_P L xs _ 141 17 [.ref 1, .int (nI a), .int (nI t)] [.int (nI n)] σ _
        refine tw_bzT (c := .ne) rfl (by rw [tw_cne] <;> (exact (by rw [tw_neq (by omega) (by omega)]; omega))) ?_
        show tw_P L xs _ 141 20 [.ref 1, .int (nI a), .int (nI t)] [] σ _
        refine tw_sg 3 (i1 := 23) (ls1 := [.ref 1, .int (nI a), .int (nI t)]) (st1 := [.int (nI t), .int (nI a), .ref 1]) (σ1 := σ) rfl ?_
        refine tw_cl1 rfl (rfl) (by decide) (tw_core ht σ hI) ?_
        rintro _ σ1 ⟨u, rfl, hk, hE⟩
        show tw_P L xs _ 141 24 [.ref 1, .int (nI a), .int (nI t)] [.int u] σ1 _
        refine tw_ri rfl (rfl) ?_
        refine ⟨_, rfl, ?_⟩
        show tw_P L xs _ 210 0 [.ref 88, .int (nI a), .int (nI t)] [] σ1 _
        refine tw_sg 6 (i1 := 6) (ls1 := [.ref 88, .int (nI a), .int (nI t)]) (st1 := [.int (nI 0), .ref 89, .int (nI 1), .int (nI 0), .int (nI a)]) (σ1 := σ1) rfl ?_
        refine tw_al (k := 89) (j := 0) (len := 2) rfl rfl rfl rfl (rfl) (by omega) (by decide) ?_
        rw [(show σ1 89 0 = nI n from by rw [hk 89 0 (by omega)]; exact hn89)]
        refine tw_sgn 3 (i1 := 10) (ls0 := [.ref 88, .int (nI a), .int (nI t)]) (st0 := [.int ((nI 1 <<< (nI n &&& 31)) - nI 1), .int (nI 0), .int (nI a)]) (σ0 := σ1) (ls1 := [.ref 88, .int (nI a), .int (nI t)]) (st1 := [.int (nI (2 ^ n) - nI 1), .int (nI 0), .int (nI a)]) (σ1 := σ1) rfl (rfl) (by simp only [tw_shl1b n hn10, tw_nadd, tw_nmul]) (rfl) ?_
        refine tw_cl1 rfl (rfl) (by decide) (tw_e_inN1 ha (by omega)) ?_
        rintro _ _ ⟨rfl, rfl⟩
        show tw_P L xs _ 210 11 [.ref 88, .int (nI a), .int (nI t)] [.int (nI 1)] σ1 _
        refine tw_bzF (c := .eq) rfl (by rw [tw_ceq', tw_neq (by omega) (by omega)] <;> omega) ?_
        show tw_P L xs _ 210 12 [.ref 88, .int (nI a), .int (nI t)] [] σ1 _
        refine tw_sg 3 (i1 := 15) (ls1 := [.ref 88, .int (nI a), .int (nI t)]) (st1 := [.int (nI 3), .int (nI 0), .int (nI t)]) (σ1 := σ1) rfl ?_
        refine tw_cl1 rfl (rfl) (by decide) (tw_e_in03_1 ht) ?_
        rintro _ _ ⟨rfl, rfl⟩
        show tw_P L xs _ 210 16 [.ref 88, .int (nI a), .int (nI t)] [.int (nI 1)] σ1 _
        refine tw_bzT (c := .ne) rfl (by rw [tw_cne, tw_neq (by omega) (by omega)] <;> omega) ?_
        show tw_P L xs _ 210 19 [.ref 88, .int (nI a), .int (nI t)] [] σ1 _
        refine tw_sg 3 (i1 := 22) (ls1 := [.ref 88, .int (nI a), .int (nI t)]) (st1 := [.int (nI 0), .ref 89]) (σ1 := σ1) rfl ?_
        refine tw_al (k := 89) (j := 0) (len := 2) rfl rfl rfl rfl (rfl) (by omega) (by decide) ?_
        rw [(show σ1 89 0 = nI n from by rw [hk 89 0 (by omega)]; exact hn89)]
        refine tw_bzT (c := .ne) rfl (by rw [tw_cne] <;> (exact (by rw [tw_neq (by omega) (by omega)]; omega))) ?_
        show tw_P L xs _ 210 26 [.ref 88, .int (nI a), .int (nI t)] [] σ1 _
        refine tw_sg 3 (i1 := 29) (ls1 := [.ref 88, .int (nI a), .int (nI t)]) (st1 := [.int (nI t), .int (nI a), .ref 88]) (σ1 := σ1) rfl ?_
        refine tw_cl1 rfl (rfl) (by decide) (hE) ?_
        rintro _ σ2 ⟨rfl, hI2⟩
        show tw_P L xs _ 210 30 [.ref 88, .int (nI a), .int (nI t)] [.int u] σ2 _
        refine tw_ri rfl (rfl) ?_
        exact ⟨rfl, hI2⟩
    · skip
      show tw_P L xs _ 141 0 [.ref 1, .int (nI a), .int y] [] σ _
      refine tw_sg 1 (i1 := 1) (ls1 := [.ref 1, .int (nI a), .int y]) (st1 := [.int (nI a)]) (σ1 := σ) rfl ?_
      refine tw_bzF (c := .lt) rfl (by rw [tw_clt'] <;> (exact (tw_nge0 (by omega)))) ?_
      show tw_P L xs _ 141 2 [.ref 1, .int (nI a), .int y] [] σ _
      refine tw_sg 4 (i1 := 6) (ls1 := [.ref 1, .int (nI a), .int y]) (st1 := [.ref 6, .int (nI 1), .int (nI a)]) (σ1 := σ) rfl ?_
      refine tw_cl0 59 rfl (rfl) (by decide) ?_
      show tw_P L xs _ 82 0 [.ref 6] [] σ _
      refine tw_sgn 2 (i1 := 2) (ls0 := [.ref 6]) (st0 := [.int (σ 6 4)]) (σ0 := σ) (ls1 := [.ref 6]) (st1 := [.int (nI n)]) (σ1 := σ) rfl (rfl) (by simp only [hn6, tw_nadd, tw_nmul]) (rfl) ?_
      refine tw_ri rfl (rfl) ?_
      show tw_P L xs _ 141 7 [.ref 1, .int (nI a), .int y] [.int (nI n), .int (nI 1), .int (nI a)] σ _
      refine tw_sgn 1 (i1 := 8) (ls0 := [.ref 1, .int (nI a), .int y]) (st0 := [.int (nI 1 <<< (nI n &&& 31)), .int (nI a)]) (σ0 := σ) (ls1 := [.ref 1, .int (nI a), .int y]) (st1 := [.int (nI (2 ^ n)), .int (nI a)]) (σ1 := σ) rfl (rfl) (by simp only [tw_shl1b n hn10, tw_nadd, tw_nmul]) (rfl) ?_
      refine tw_biF (c := .ge) rfl (by rw [tw_cge'] <;> (exact tw_not_le.mpr (by rw [tw_nlt (by omega) (by omega)]; exact ha))) ?_
      show tw_P L xs _ 141 9 [.ref 1, .int (nI a), .int y] [] σ _
      refine tw_sg 1 (i1 := 10) (ls1 := [.ref 1, .int (nI a), .int y]) (st1 := [.int y]) (σ1 := σ) rfl ?_
      refine tw_cl1 rfl (rfl) (by decide) (tw_e_isTurn0 hy) ?_
      rintro _ _ ⟨rfl, rfl⟩
      show tw_P L xs _ 141 11 [.ref 1, .int (nI a), .int y] [.int (nI 0)] σ _
      refine tw_bzF (c := .ne) rfl (by rw [tw_cne', tw_neq (by omega) (by omega)] <;> omega) ?_
      show tw_P L xs _ 141 12 [.ref 1, .int (nI a), .int y] [] σ _
      refine tw_sg 1 (i1 := 13) (ls1 := [.ref 1, .int (nI a), .int y]) (st1 := [.int (-2)]) (σ1 := σ) rfl ?_
      refine tw_ri rfl (rfl) ?_
      refine ⟨_, rfl, ?_⟩
      show tw_P L xs _ 210 0 [.ref 88, .int (nI a), .int y] [] σ _
      refine tw_sg 6 (i1 := 6) (ls1 := [.ref 88, .int (nI a), .int y]) (st1 := [.int (nI 0), .ref 89, .int (nI 1), .int (nI 0), .int (nI a)]) (σ1 := σ) rfl ?_
      refine tw_al (k := 89) (j := 0) (len := 2) rfl rfl rfl rfl (rfl) (by omega) (by decide) ?_
      rw [hn89]
      refine tw_sgn 3 (i1 := 10) (ls0 := [.ref 88, .int (nI a), .int y]) (st0 := [.int ((nI 1 <<< (nI n &&& 31)) - nI 1), .int (nI 0), .int (nI a)]) (σ0 := σ) (ls1 := [.ref 88, .int (nI a), .int y]) (st1 := [.int (nI (2 ^ n) - nI 1), .int (nI 0), .int (nI a)]) (σ1 := σ) rfl (rfl) (by simp only [tw_shl1b n hn10, tw_nadd, tw_nmul]) (rfl) ?_
      refine tw_cl1 rfl (rfl) (by decide) (tw_e_inN1 ha (by omega)) ?_
      rintro _ _ ⟨rfl, rfl⟩
      show tw_P L xs _ 210 11 [.ref 88, .int (nI a), .int y] [.int (nI 1)] σ _
      refine tw_bzF (c := .eq) rfl (by rw [tw_ceq', tw_neq (by omega) (by omega)] <;> omega) ?_
      show tw_P L xs _ 210 12 [.ref 88, .int (nI a), .int y] [] σ _
      refine tw_sg 3 (i1 := 15) (ls1 := [.ref 88, .int (nI a), .int y]) (st1 := [.int (nI 3), .int (nI 0), .int y]) (σ1 := σ) rfl ?_
      refine tw_cl1 rfl (rfl) (by decide) (tw_e_in03_0 hy) ?_
      rintro _ _ ⟨rfl, rfl⟩
      show tw_P L xs _ 210 16 [.ref 88, .int (nI a), .int y] [.int (nI 0)] σ _
      refine tw_bzF (c := .ne) rfl (by rw [tw_cne', tw_neq (by omega) (by omega)] <;> omega) ?_
      show tw_P L xs _ 210 17 [.ref 88, .int (nI a), .int y] [] σ _
      refine tw_sg 1 (i1 := 18) (ls1 := [.ref 88, .int (nI a), .int y]) (st1 := [.int (-2)]) (σ1 := σ) rfl ?_
      refine tw_ri rfl (rfl) ?_
      exact ⟨rfl, hI⟩
  · have hx0 := hx
    rcases hx with hx | ⟨hx, hx2⟩
    · skip
      show tw_P L xs _ 141 0 [.ref 1, .int x, .int y] [] σ _
      refine tw_sg 1 (i1 := 1) (ls1 := [.ref 1, .int x, .int y]) (st1 := [.int x]) (σ1 := σ) rfl ?_
      refine tw_bzT (c := .lt) rfl (by rw [tw_clt] <;> (exact hx)) ?_
      show tw_P L xs _ 141 12 [.ref 1, .int x, .int y] [] σ _
      refine tw_sg 1 (i1 := 13) (ls1 := [.ref 1, .int x, .int y]) (st1 := [.int (-2)]) (σ1 := σ) rfl ?_
      refine tw_ri rfl (rfl) ?_
      refine ⟨_, rfl, ?_⟩
      show tw_P L xs _ 210 0 [.ref 88, .int x, .int y] [] σ _
      refine tw_sg 6 (i1 := 6) (ls1 := [.ref 88, .int x, .int y]) (st1 := [.int (nI 0), .ref 89, .int (nI 1), .int (nI 0), .int x]) (σ1 := σ) rfl ?_
      refine tw_al (k := 89) (j := 0) (len := 2) rfl rfl rfl rfl (rfl) (by omega) (by decide) ?_
      rw [hn89]
      refine tw_sgn 3 (i1 := 10) (ls0 := [.ref 88, .int x, .int y]) (st0 := [.int ((nI 1 <<< (nI n &&& 31)) - nI 1), .int (nI 0), .int x]) (σ0 := σ) (ls1 := [.ref 88, .int x, .int y]) (st1 := [.int (nI (2 ^ n) - nI 1), .int (nI 0), .int x]) (σ1 := σ) rfl (rfl) (by simp only [tw_shl1b n hn10, tw_nadd, tw_nmul]) (rfl) ?_
      refine tw_cl1 rfl (rfl) (by decide) (tw_e_inN0 (by omega) hx0) ?_
      rintro _ _ ⟨rfl, rfl⟩
      show tw_P L xs _ 210 11 [.ref 88, .int x, .int y] [.int (nI 0)] σ _
      refine tw_bzT (c := .eq) rfl (by rw [tw_ceq, tw_neq (by omega) (by omega)] <;> omega) ?_
      show tw_P L xs _ 210 17 [.ref 88, .int x, .int y] [] σ _
      refine tw_sg 1 (i1 := 18) (ls1 := [.ref 88, .int x, .int y]) (st1 := [.int (-2)]) (σ1 := σ) rfl ?_
      refine tw_ri rfl (rfl) ?_
      exact ⟨rfl, hI⟩
    · skip
      show tw_P L xs _ 141 0 [.ref 1, .int x, .int y] [] σ _
      refine tw_sg 1 (i1 := 1) (ls1 := [.ref 1, .int x, .int y]) (st1 := [.int x]) (σ1 := σ) rfl ?_
      refine tw_bzF (c := .lt) rfl (by rw [tw_clt'] <;> (exact hx)) ?_
      show tw_P L xs _ 141 2 [.ref 1, .int x, .int y] [] σ _
      refine tw_sg 4 (i1 := 6) (ls1 := [.ref 1, .int x, .int y]) (st1 := [.ref 6, .int (nI 1), .int x]) (σ1 := σ) rfl ?_
      refine tw_cl0 59 rfl (rfl) (by decide) ?_
      show tw_P L xs _ 82 0 [.ref 6] [] σ _
      refine tw_sgn 2 (i1 := 2) (ls0 := [.ref 6]) (st0 := [.int (σ 6 4)]) (σ0 := σ) (ls1 := [.ref 6]) (st1 := [.int (nI n)]) (σ1 := σ) rfl (rfl) (by simp only [hn6, tw_nadd, tw_nmul]) (rfl) ?_
      refine tw_ri rfl (rfl) ?_
      show tw_P L xs _ 141 7 [.ref 1, .int x, .int y] [.int (nI n), .int (nI 1), .int x] σ _
      refine tw_sgn 1 (i1 := 8) (ls0 := [.ref 1, .int x, .int y]) (st0 := [.int (nI 1 <<< (nI n &&& 31)), .int x]) (σ0 := σ) (ls1 := [.ref 1, .int x, .int y]) (st1 := [.int (nI (2 ^ n)), .int x]) (σ1 := σ) rfl (rfl) (by simp only [tw_shl1b n hn10, tw_nadd, tw_nmul]) (rfl) ?_
      refine tw_biT (c := .ge) rfl (by rw [tw_cge] <;> (exact tw_not_lt.mp (tw_not_lt.mpr hx2))) ?_
      show tw_P L xs _ 141 12 [.ref 1, .int x, .int y] [] σ _
      refine tw_sg 1 (i1 := 13) (ls1 := [.ref 1, .int x, .int y]) (st1 := [.int (-2)]) (σ1 := σ) rfl ?_
      refine tw_ri rfl (rfl) ?_
      refine ⟨_, rfl, ?_⟩
      show tw_P L xs _ 210 0 [.ref 88, .int x, .int y] [] σ _
      refine tw_sg 6 (i1 := 6) (ls1 := [.ref 88, .int x, .int y]) (st1 := [.int (nI 0), .ref 89, .int (nI 1), .int (nI 0), .int x]) (σ1 := σ) rfl ?_
      refine tw_al (k := 89) (j := 0) (len := 2) rfl rfl rfl rfl (rfl) (by omega) (by decide) ?_
      rw [hn89]
      refine tw_sgn 3 (i1 := 10) (ls0 := [.ref 88, .int x, .int y]) (st0 := [.int ((nI 1 <<< (nI n &&& 31)) - nI 1), .int (nI 0), .int x]) (σ0 := σ) (ls1 := [.ref 88, .int x, .int y]) (st1 := [.int (nI (2 ^ n) - nI 1), .int (nI 0), .int x]) (σ1 := σ) rfl (rfl) (by simp only [tw_shl1b n hn10, tw_nadd, tw_nmul]) (rfl) ?_
      refine tw_cl1 rfl (rfl) (by decide) (tw_e_inN0 (by omega) hx0) ?_
      rintro _ _ ⟨rfl, rfl⟩
      show tw_P L xs _ 210 11 [.ref 88, .int x, .int y] [.int (nI 0)] σ _
      refine tw_bzT (c := .eq) rfl (by rw [tw_ceq, tw_neq (by omega) (by omega)] <;> omega) ?_
      show tw_P L xs _ 210 17 [.ref 88, .int x, .int y] [] σ _
      refine tw_sg 1 (i1 := 18) (ls1 := [.ref 88, .int x, .int y]) (st1 := [.int (-2)]) (σ1 := σ) rfl ?_
      refine tw_ri rfl (rfl) ?_
      exact ⟨rfl, hI⟩
end tw_s42
