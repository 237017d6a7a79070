/-! the tape: feed, clear -/
section tw_s29
variable {L : Nat} {xs : Nat → Int32} {σ : tw_Mem} {x y w : Int32} {n r i c k h q a b e : Nat}
theorem tw_nar_byte : ∀ q, q < 128 → vp_nar .byte ((nI q).toInt8.toInt32) = nI q := by decide +kernel
theorem tw_nar_chr : ∀ q, q < 128 → vp_nar .char (nI q) = nI q := by decide +kernel
set_option maxHeartbeats 4000000 in
set_option maxRecDepth 100000 in
theorem tw_o_clear {L : Nat} {xs : Nat → Int32} : tw_op L xs 133 188 [] := by
  intro σ hI
  obtain ⟨hL, ⟨k, hk80, hk2, hk88, hT⟩, hPp, hPc, hLs, hIm, hC14, hC46, hC72⟩ := id hI
  show tw_P L xs _ 133 0 [.ref 1, tw_U] [] σ _
  refine tw_sg 2 (i1 := 2) (ls1 := [.ref 1, tw_U]) (st1 := [.ref 2]) (σ1 := σ) rfl ?_
  refine tw_cl0 59 rfl (rfl) (by decide) ?_
  show tw_P L xs _ 121 0 [.ref 2] [] σ _
  refine tw_sgn 2 (i1 := 2) (ls0 := [.ref 2]) (st0 := [.int (σ 2 1)]) (σ0 := σ) (ls1 := [.ref 2]) (st1 := [.int (nI k)]) (σ1 := σ) rfl (rfl) (by simp only [hk2, tw_nadd, tw_nmul]) (rfl) ?_
  refine tw_ri rfl (rfl) ?_
  show tw_P L xs _ 133 3 [.ref 1, tw_U] [.int (nI k)] σ _
  refine tw_sg 3 (i1 := 6) (ls1 := [.ref 1, .int (nI k)]) (st1 := [.ref 2]) (σ1 := σ) rfl ?_
  refine tw_cl0 59 rfl (rfl) (by decide) ?_
  show tw_P L xs _ 124 0 [.ref 2] [] σ _
  refine tw_sg 3 (i1 := 3) (ls1 := [.ref 2]) (st1 := []) (σ1 := (tw_upd σ 2 1 (nI 0))) rfl ?_
  refine tw_rv rfl ?_
  show tw_P L xs _ 133 7 [.ref 1, .int (nI k)] [] (tw_upd σ 2 1 (nI 0)) _
  refine tw_sg 1 (i1 := 8) (ls1 := [.ref 1, .int (nI k)]) (st1 := [.int (nI k)]) (σ1 := (tw_upd σ 2 1 (nI 0))) rfl ?_
  refine tw_ri rfl (rfl) ?_
  refine ⟨_, rfl, ?_⟩
  show tw_P L xs _ 188 0 [.ref 88, tw_U] [] (tw_upd σ 2 1 (nI 0)) _
  refine tw_sgn 7 (i1 := 7) (ls0 := [.ref 88, .int (σ 88 17)]) (st0 := [.int (σ 88 17)]) (σ0 := (tw_upd (tw_upd σ 2 1 (nI 0)) 88 17 (nI 0))) (ls1 := [.ref 88, .int (nI k)]) (st1 := [.int (nI k)]) (σ1 := (tw_upd (tw_upd σ 2 1 (nI 0)) 88 17 (nI 0))) rfl (by simp only [hk88, tw_nadd, tw_nmul]) (by simp only [hk88, tw_nadd, tw_nmul]) (rfl) ?_
  refine tw_ri rfl (rfl) ?_
  refine ⟨rfl, hI.tape ⟨0, by omega, ?_, ?_, fun j hj => by omega⟩ (fun k j h => ?_)⟩
  · rw [tw_upd_off (by omega)]; exact tw_upd_at
  · exact tw_upd_at
  · rw [tw_upd_off (fun g => h (by unfold tw_fTape; omega)), tw_upd_off (fun g => h (by unfold tw_fTape; omega))]
set_option maxHeartbeats 4000000 in
set_option maxRecDepth 100000 in
theorem tw_o_feed {L : Nat} {xs : Nat → Int32} (x : Int32) : tw_op L xs 132 187 [.int x] := by
  intro σ hI
  obtain ⟨hL, ⟨k, hk80, hk2, hk88, hT⟩, hPp, hPc, hLs, hIm, hC14, hC46, hC72⟩ := id hI
  by_cases hx1 : x < nI 1
  show tw_P L xs _ 132 0 [.ref 1, .int x] [] σ _
  refine tw_sg 2 (i1 := 2) (ls1 := [.ref 1, .int x]) (st1 := [.int (nI 1), .int x]) (σ1 := σ) rfl ?_
  refine tw_biT (c := .lt) rfl (by rw [tw_clt]; exact hx1) ?_
  show tw_P L xs _ 132 6 [.ref 1, .int x] [] σ _
  refine tw_sg 1 (i1 := 7) (ls1 := [.ref 1, .int x]) (st1 := [.int (-2)]) (σ1 := σ) rfl ?_
  refine tw_ri rfl (rfl) ?_
  refine ⟨_, rfl, ?_⟩
  show tw_P L xs _ 187 0 [.ref 88, .int x] [] σ _
  refine tw_sg 3 (i1 := 3) (ls1 := [.ref 88, .int x]) (st1 := [.int (nI 127), .int (nI 1), .int x]) (σ1 := σ) rfl ?_
  refine tw_cl0 59 rfl (rfl) (by decide) ?_
  show tw_P L xs _ 182 0 [.int x, .int (nI 1), .int (nI 127)] [] σ _
  refine tw_sg 2 (i1 := 2) (ls1 := [.int x, .int (nI 1), .int (nI 127)]) (st1 := [.int (nI 1), .int x]) (σ1 := σ) rfl ?_
  refine tw_biT (c := .lt) rfl (by rw [tw_clt]; exact hx1) ?_
  show tw_P L xs _ 182 8 [.int x, .int (nI 1), .int (nI 127)] [] σ _
  refine tw_sg 1 (i1 := 9) (ls1 := [.int x, .int (nI 1), .int (nI 127)]) (st1 := [.int (nI 0)]) (σ1 := σ) rfl ?_
  refine tw_ri rfl (rfl) ?_
  show tw_P L xs _ 187 4 [.ref 88, .int x] [.int (nI 0)] σ _
  refine tw_bzF (c := .ne) rfl (by rw [tw_cne', tw_neq (by omega) (by omega)] <;> omega) ?_
  show tw_P L xs _ 187 5 [.ref 88, .int x] [] σ _
  refine tw_sg 1 (i1 := 6) (ls1 := [.ref 88, .int x]) (st1 := [.int (-2)]) (σ1 := σ) rfl ?_
  refine tw_ri rfl (rfl) ?_
  exact ⟨rfl, hI⟩
  by_cases hx2 : nI 127 < x
  show tw_P L xs _ 132 0 [.ref 1, .int x] [] σ _
  refine tw_sg 2 (i1 := 2) (ls1 := [.ref 1, .int x]) (st1 := [.int (nI 1), .int x]) (σ1 := σ) rfl ?_
  refine tw_biF (c := .lt) rfl (by rw [tw_clt']; exact hx1) ?_
  show tw_P L xs _ 132 3 [.ref 1, .int x] [] σ _
  refine tw_sg 2 (i1 := 5) (ls1 := [.ref 1, .int x]) (st1 := [.int (nI 127), .int x]) (σ1 := σ) rfl ?_
  refine tw_biF (c := .le) rfl (by rw [tw_cle']; exact tw_not_le.mpr hx2) ?_
  show tw_P L xs _ 132 6 [.ref 1, .int x] [] σ _
  refine tw_sg 1 (i1 := 7) (ls1 := [.ref 1, .int x]) (st1 := [.int (-2)]) (σ1 := σ) rfl ?_
  refine tw_ri rfl (rfl) ?_
  refine ⟨_, rfl, ?_⟩
  show tw_P L xs _ 187 0 [.ref 88, .int x] [] σ _
  refine tw_sg 3 (i1 := 3) (ls1 := [.ref 88, .int x]) (st1 := [.int (nI 127), .int (nI 1), .int x]) (σ1 := σ) rfl ?_
  refine tw_cl0 59 rfl (rfl) (by decide) ?_
  show tw_P L xs _ 182 0 [.int x, .int (nI 1), .int (nI 127)] [] σ _
  refine tw_sg 2 (i1 := 2) (ls1 := [.int x, .int (nI 1), .int (nI 127)]) (st1 := [.int (nI 1), .int x]) (σ1 := σ) rfl ?_
  refine tw_biF (c := .lt) rfl (by rw [tw_clt']; exact hx1) ?_
  show tw_P L xs _ 182 3 [.int x, .int (nI 1), .int (nI 127)] [] σ _
  refine tw_sg 2 (i1 := 5) (ls1 := [.int x, .int (nI 1), .int (nI 127)]) (st1 := [.int (nI 127), .int x]) (σ1 := σ) rfl ?_
  refine tw_biT (c := .gt) rfl (by rw [tw_cgt]; exact hx2) ?_
  show tw_P L xs _ 182 8 [.int x, .int (nI 1), .int (nI 127)] [] σ _
  refine tw_sg 1 (i1 := 9) (ls1 := [.int x, .int (nI 1), .int (nI 127)]) (st1 := [.int (nI 0)]) (σ1 := σ) rfl ?_
  refine tw_ri rfl (rfl) ?_
  show tw_P L xs _ 187 4 [.ref 88, .int x] [.int (nI 0)] σ _
  refine tw_bzF (c := .ne) rfl (by rw [tw_cne', tw_neq (by omega) (by omega)] <;> omega) ?_
  show tw_P L xs _ 187 5 [.ref 88, .int x] [] σ _
  refine tw_sg 1 (i1 := 6) (ls1 := [.ref 88, .int x]) (st1 := [.int (-2)]) (σ1 := σ) rfl ?_
  refine tw_ri rfl (rfl) ?_
  exact ⟨rfl, hI⟩
  obtain ⟨q, hq, rfl⟩ : ∃ q, q < 128 ∧ x = nI q := by
    rcases tw_within x 128 (by decide) with h | ⟨h | ⟨h1, h2⟩⟩
    · exact h
    · exact absurd (tw_neg_lt h (by decide)) hx1
    · exact absurd (tw_lt_le1 (by decide) h2) hx2
  rw [tw_nlt (by omega) (by omega)] at hx1
  by_cases h80 : k = 80
  · subst h80
    show tw_P L xs _ 132 0 [.ref 1, .int (nI q)] [] σ _
    refine tw_sg 2 (i1 := 2) (ls1 := [.ref 1, .int (nI q)]) (st1 := [.int (nI 1), .int (nI q)]) (σ1 := σ) rfl ?_
    refine tw_biF (c := .lt) rfl (by rw [tw_clt', tw_nlt (by omega) (by omega)] <;> omega) ?_
    show tw_P L xs _ 132 3 [.ref 1, .int (nI q)] [] σ _
    refine tw_sg 2 (i1 := 5) (ls1 := [.ref 1, .int (nI q)]) (st1 := [.int (nI 127), .int (nI q)]) (σ1 := σ) rfl ?_
    refine tw_biT (c := .le) rfl (by rw [tw_cle, tw_nle (by omega) (by omega)] <;> omega) ?_
    show tw_P L xs _ 132 8 [.ref 1, .int (nI q)] [] σ _
    refine tw_sg 2 (i1 := 10) (ls1 := [.ref 1, .int (nI q)]) (st1 := [.ref 2]) (σ1 := σ) rfl ?_
    refine tw_cl0 59 rfl (rfl) (by decide) ?_
    show tw_P L xs _ 122 0 [.ref 2] [] σ _
    refine tw_sgn 3 (i1 := 3) (ls0 := [.ref 2]) (st0 := [.int (nI 80), .int (σ 2 1)]) (σ0 := σ) (ls1 := [.ref 2]) (st1 := [.int (nI 80), .int (nI 80)]) (σ1 := σ) rfl (rfl) (by simp only [hk2, tw_nadd, tw_nmul]) (rfl) ?_
    refine tw_biF (c := .lt) rfl (by rw [tw_clt', tw_nlt (by omega) (by omega)] <;> omega) ?_
    show tw_P L xs _ 122 4 [.ref 2] [] σ _
    refine tw_sg 2 (i1 := 7) (ls1 := [.ref 2]) (st1 := [.int (nI 1)]) (σ1 := σ) rfl ?_
    refine tw_ri rfl (rfl) ?_
    show tw_P L xs _ 132 11 [.ref 1, .int (nI q)] [.int (nI 1)] σ _
    refine tw_bzF (c := .eq) rfl (by rw [tw_ceq', tw_neq (by omega) (by omega)] <;> omega) ?_
    show tw_P L xs _ 132 12 [.ref 1, .int (nI q)] [] σ _
    refine tw_sg 1 (i1 := 13) (ls1 := [.ref 1, .int (nI q)]) (st1 := [.int (-4)]) (σ1 := σ) rfl ?_
    refine tw_ri rfl (rfl) ?_
    refine ⟨_, rfl, ?_⟩
    show tw_P L xs _ 187 0 [.ref 88, .int (nI q)] [] σ _
    refine tw_sg 3 (i1 := 3) (ls1 := [.ref 88, .int (nI q)]) (st1 := [.int (nI 127), .int (nI 1), .int (nI q)]) (σ1 := σ) rfl ?_
    refine tw_cl0 59 rfl (rfl) (by decide) ?_
    show tw_P L xs _ 182 0 [.int (nI q), .int (nI 1), .int (nI 127)] [] σ _
    refine tw_sg 2 (i1 := 2) (ls1 := [.int (nI q), .int (nI 1), .int (nI 127)]) (st1 := [.int (nI 1), .int (nI q)]) (σ1 := σ) rfl ?_
    refine tw_biF (c := .lt) rfl (by rw [tw_clt', tw_nlt (by omega) (by omega)] <;> omega) ?_
    show tw_P L xs _ 182 3 [.int (nI q), .int (nI 1), .int (nI 127)] [] σ _
    refine tw_sg 2 (i1 := 5) (ls1 := [.int (nI q), .int (nI 1), .int (nI 127)]) (st1 := [.int (nI 127), .int (nI q)]) (σ1 := σ) rfl ?_
    refine tw_biF (c := .gt) rfl (by rw [tw_cgt', tw_nlt (by omega) (by omega)] <;> omega) ?_
    show tw_P L xs _ 182 6 [.int (nI q), .int (nI 1), .int (nI 127)] [] σ _
    refine tw_sg 2 (i1 := 9) (ls1 := [.int (nI q), .int (nI 1), .int (nI 127)]) (st1 := [.int (nI 1)]) (σ1 := σ) rfl ?_
    refine tw_ri rfl (rfl) ?_
    show tw_P L xs _ 187 4 [.ref 88, .int (nI q)] [.int (nI 1)] σ _
    refine tw_bzT (c := .ne) rfl (by rw [tw_cne, tw_neq (by omega) (by omega)] <;> omega) ?_
    show tw_P L xs _ 187 7 [.ref 88, .int (nI q)] [] σ _
    refine tw_sgn 3 (i1 := 10) (ls0 := [.ref 88, .int (nI q)]) (st0 := [.int (nI 80), .int (σ 88 17)]) (σ0 := σ) (ls1 := [.ref 88, .int (nI q)]) (st1 := [.int (nI 80), .int (nI 80)]) (σ1 := σ) rfl (rfl) (by simp only [hk88, tw_nadd, tw_nmul]) (rfl) ?_
    refine tw_biF (c := .ne) rfl (by rw [tw_cne', tw_neq (by omega) (by omega)] <;> omega) ?_
    show tw_P L xs _ 187 11 [.ref 88, .int (nI q)] [] σ _
    refine tw_sg 1 (i1 := 12) (ls1 := [.ref 88, .int (nI q)]) (st1 := [.int (-4)]) (σ1 := σ) rfl ?_
    refine tw_ri rfl (rfl) ?_
    exact ⟨rfl, hI⟩
  show tw_P L xs _ 132 0 [.ref 1, .int (nI q)] [] σ _
  refine tw_sg 2 (i1 := 2) (ls1 := [.ref 1, .int (nI q)]) (st1 := [.int (nI 1), .int (nI q)]) (σ1 := σ) rfl ?_
  refine tw_biF (c := .lt) rfl (by rw [tw_clt', tw_nlt (by omega) (by omega)] <;> omega) ?_
  show tw_P L xs _ 132 3 [.ref 1, .int (nI q)] [] σ _
  refine tw_sg 2 (i1 := 5) (ls1 := [.ref 1, .int (nI q)]) (st1 := [.int (nI 127), .int (nI q)]) (σ1 := σ) rfl ?_
  refine tw_biT (c := .le) rfl (by rw [tw_cle, tw_nle (by omega) (by omega)] <;> omega) ?_
  show tw_P L xs _ 132 8 [.ref 1, .int (nI q)] [] σ _
  refine tw_sg 2 (i1 := 10) (ls1 := [.ref 1, .int (nI q)]) (st1 := [.ref 2]) (σ1 := σ) rfl ?_
  refine tw_cl0 59 rfl (rfl) (by decide) ?_
  show tw_P L xs _ 122 0 [.ref 2] [] σ _
  refine tw_sgn 3 (i1 := 3) (ls0 := [.ref 2]) (st0 := [.int (nI 80), .int (σ 2 1)]) (σ0 := σ) (ls1 := [.ref 2]) (st1 := [.int (nI 80), .int (nI k)]) (σ1 := σ) rfl (rfl) (by simp only [hk2, tw_nadd, tw_nmul]) (rfl) ?_
  refine tw_biT (c := .lt) rfl (by rw [tw_clt, tw_nlt (by omega) (by omega)] <;> omega) ?_
  show tw_P L xs _ 122 6 [.ref 2] [] σ _
  refine tw_sg 1 (i1 := 7) (ls1 := [.ref 2]) (st1 := [.int (nI 0)]) (σ1 := σ) rfl ?_
  refine tw_ri rfl (rfl) ?_
  show tw_P L xs _ 132 11 [.ref 1, .int (nI q)] [.int (nI 0)] σ _
  refine tw_bzT (c := .eq) rfl (by rw [tw_ceq, tw_neq (by omega) (by omega)] <;> omega) ?_
  show tw_P L xs _ 132 14 [.ref 1, .int (nI q)] [] σ _
  refine tw_sg 3 (i1 := 17) (ls1 := [.ref 1, .int (nI q)]) (st1 := [.int (nI q), .ref 2]) (σ1 := σ) rfl ?_
  refine tw_cl0 59 rfl (rfl) (by decide) ?_
  show tw_P L xs _ 123 0 [.ref 2, .int (nI q)] [] σ _
  refine tw_sgn 2 (i1 := 2) (ls0 := [.ref 2, .int (nI q)]) (st0 := [.int (σ 2 1)]) (σ0 := σ) (ls1 := [.ref 2, .int (nI q)]) (st1 := [.int (nI k)]) (σ1 := σ) rfl (rfl) (by simp only [hk2, tw_nadd, tw_nmul]) (rfl) ?_
  refine tw_bzF (c := .lt) rfl (by rw [tw_clt', tw_nlt (by omega) (by omega)] <;> omega) ?_
  show tw_P L xs _ 123 3 [.ref 2, .int (nI q)] [] σ _
  refine tw_sgn 5 (i1 := 8) (ls0 := [.ref 2, .int (nI q)]) (st0 := [.int (nI 80), .int (σ 2 1)]) (σ0 := σ) (ls1 := [.ref 2, .int (nI q)]) (st1 := [.int (nI 80), .int (nI k)]) (σ1 := σ) rfl (rfl) (by simp only [hk2, tw_nadd, tw_nmul]) (rfl) ?_
  refine tw_biF (c := .ge) rfl (by rw [tw_cge', tw_nle (by omega) (by omega)] <;> omega) ?_
  show tw_P L xs _ 123 9 [.ref 2, .int (nI q)] [] σ _
  refine tw_sgn 6 (i1 := 15) (ls0 := [.ref 2, .int (nI q)]) (st0 := [.int ((nI q).toInt8.toInt32), .int (σ 2 1), .ref 3]) (σ0 := σ) (ls1 := [.ref 2, .int (nI q)]) (st1 := [.int ((nI q).toInt8.toInt32), .int (nI k), .ref 3]) (σ1 := σ) rfl (rfl) (by simp only [hk2, tw_nadd, tw_nmul]) (rfl) ?_
  refine tw_asy (k := 3) (j := k) (len := 80) (w := (nI q)) rfl rfl rfl (rfl) (by omega) (by decide) (tw_nar_byte q hq) ?_
  refine tw_sgn 6 (i1 := 22) (ls0 := [.ref 2, .int (nI q)]) (st0 := []) (σ0 := (tw_upd (tw_upd σ 3 k (nI q)) 2 1 ((σ 2 1) + nI 1))) (ls1 := [.ref 2, .int (nI q)]) (st1 := []) (σ1 := (tw_upd (tw_upd σ 3 k (nI q)) 2 1 (nI (k + 1)))) rfl (rfl) (rfl) (by simp only [hk2, tw_nadd, tw_nmul]) ?_
  refine tw_rv rfl ?_
  show tw_P L xs _ 132 18 [.ref 1, .int (nI q)] [] (tw_upd (tw_upd σ 3 k (nI q)) 2 1 (nI (k + 1))) _
  refine tw_sg 2 (i1 := 20) (ls1 := [.ref 1, .int (nI q)]) (st1 := [.ref 2]) (σ1 := (tw_upd (tw_upd σ 3 k (nI q)) 2 1 (nI (k + 1)))) rfl ?_
  refine tw_cl0 59 rfl (rfl) (by decide) ?_
  show tw_P L xs _ 121 0 [.ref 2] [] (tw_upd (tw_upd σ 3 k (nI q)) 2 1 (nI (k + 1))) _
  refine tw_sg 2 (i1 := 2) (ls1 := [.ref 2]) (st1 := [.int (nI (k + 1))]) (σ1 := (tw_upd (tw_upd σ 3 k (nI q)) 2 1 (nI (k + 1)))) rfl ?_
  refine tw_ri rfl (rfl) ?_
  show tw_P L xs _ 132 21 [.ref 1, .int (nI q)] [.int (nI (k + 1))] (tw_upd (tw_upd σ 3 k (nI q)) 2 1 (nI (k + 1))) _
  refine tw_ri rfl (rfl) ?_
  refine ⟨_, rfl, ?_⟩
  show tw_P L xs _ 187 0 [.ref 88, .int (nI q)] [] (tw_upd (tw_upd σ 3 k (nI q)) 2 1 (nI (k + 1))) _
  refine tw_sg 3 (i1 := 3) (ls1 := [.ref 88, .int (nI q)]) (st1 := [.int (nI 127), .int (nI 1), .int (nI q)]) (σ1 := (tw_upd (tw_upd σ 3 k (nI q)) 2 1 (nI (k + 1)))) rfl ?_
  refine tw_cl0 59 rfl (rfl) (by decide) ?_
  show tw_P L xs _ 182 0 [.int (nI q), .int (nI 1), .int (nI 127)] [] (tw_upd (tw_upd σ 3 k (nI q)) 2 1 (nI (k + 1))) _
  refine tw_sg 2 (i1 := 2) (ls1 := [.int (nI q), .int (nI 1), .int (nI 127)]) (st1 := [.int (nI 1), .int (nI q)]) (σ1 := (tw_upd (tw_upd σ 3 k (nI q)) 2 1 (nI (k + 1)))) rfl ?_
  refine tw_biF (c := .lt) rfl (by rw [tw_clt', tw_nlt (by omega) (by omega)] <;> omega) ?_
  show tw_P L xs _ 182 3 [.int (nI q), .int (nI 1), .int (nI 127)] [] (tw_upd (tw_upd σ 3 k (nI q)) 2 1 (nI (k + 1))) _
  refine tw_sg 2 (i1 := 5) (ls1 := [.int (nI q), .int (nI 1), .int (nI 127)]) (st1 := [.int (nI 127), .int (nI q)]) (σ1 := (tw_upd (tw_upd σ 3 k (nI q)) 2 1 (nI (k + 1)))) rfl ?_
  refine tw_biF (c := .gt) rfl (by rw [tw_cgt', tw_nlt (by omega) (by omega)] <;> omega) ?_
  show tw_P L xs _ 182 6 [.int (nI q), .int (nI 1), .int (nI 127)] [] (tw_upd (tw_upd σ 3 k (nI q)) 2 1 (nI (k + 1))) _
  refine tw_sg 2 (i1 := 9) (ls1 := [.int (nI q), .int (nI 1), .int (nI 127)]) (st1 := [.int (nI 1)]) (σ1 := (tw_upd (tw_upd σ 3 k (nI q)) 2 1 (nI (k + 1)))) rfl ?_
  refine tw_ri rfl (rfl) ?_
  show tw_P L xs _ 187 4 [.ref 88, .int (nI q)] [.int (nI 1)] (tw_upd (tw_upd σ 3 k (nI q)) 2 1 (nI (k + 1))) _
  refine tw_bzT (c := .ne) rfl (by rw [tw_cne, tw_neq (by omega) (by omega)] <;> omega) ?_
  show tw_P L xs _ 187 7 [.ref 88, .int (nI q)] [] (tw_upd (tw_upd σ 3 k (nI q)) 2 1 (nI (k + 1))) _
  refine tw_sgn 3 (i1 := 10) (ls0 := [.ref 88, .int (nI q)]) (st0 := [.int (nI 80), .int (σ 88 17)]) (σ0 := (tw_upd (tw_upd σ 3 k (nI q)) 2 1 (nI (k + 1)))) (ls1 := [.ref 88, .int (nI q)]) (st1 := [.int (nI 80), .int (nI k)]) (σ1 := (tw_upd (tw_upd σ 3 k (nI q)) 2 1 (nI (k + 1)))) rfl (rfl) (by simp only [hk88, tw_nadd, tw_nmul]) (rfl) ?_
  refine tw_biT (c := .ne) rfl (by rw [tw_cne, tw_neq (by omega) (by omega)] <;> omega) ?_
  show tw_P L xs _ 187 13 [.ref 88, .int (nI q)] [] (tw_upd (tw_upd σ 3 k (nI q)) 2 1 (nI (k + 1))) _
  refine tw_sgn 5 (i1 := 18) (ls0 := [.ref 88, .int (nI q)]) (st0 := [.int (nI q), .int (σ 88 17), .ref 103]) (σ0 := (tw_upd (tw_upd σ 3 k (nI q)) 2 1 (nI (k + 1)))) (ls1 := [.ref 88, .int (nI q)]) (st1 := [.int (nI q), .int (nI k), .ref 103]) (σ1 := (tw_upd (tw_upd σ 3 k (nI q)) 2 1 (nI (k + 1)))) rfl (rfl) (by simp only [hk88, tw_nadd, tw_nmul]) (rfl) ?_
  refine tw_as (k := 103) (j := k) (len := 80) rfl rfl rfl (rfl) (by omega) (by decide) ?_
  refine tw_sgn 8 (i1 := 27) (ls0 := [.ref 88, .int (nI q)]) (st0 := [.int ((σ 88 17) + nI 1)]) (σ0 := (tw_upd (tw_upd (tw_upd (tw_upd σ 3 k (nI q)) 2 1 (nI (k + 1))) 103 k (nI q)) 88 17 ((σ 88 17) + nI 1))) (ls1 := [.ref 88, .int (nI q)]) (st1 := [.int (nI (k + 1))]) (σ1 := (tw_upd (tw_upd (tw_upd (tw_upd σ 3 k (nI q)) 2 1 (nI (k + 1))) 103 k (nI q)) 88 17 (nI (k + 1)))) rfl (rfl) (by simp only [hk88, tw_nadd, tw_nmul]) (by simp only [hk88, tw_nadd, tw_nmul]) ?_
  refine tw_ri rfl (rfl) ?_
  generalize hτ : (tw_upd (tw_upd (tw_upd (tw_upd σ 3 k (nI q)) 2 1 (nI (k + 1))) 103 k (nI q)) 88 17 (nI (k + 1))) = τ
  have t1 : τ 2 1 = nI (k + 1) := by rw [← hτ, tw_upd_off (by omega), tw_upd_off (by omega)]; exact tw_upd_at
  have t2 : τ 88 17 = nI (k + 1) := by rw [← hτ]; exact tw_upd_at
  have t3 : τ 3 k = nI q := by rw [← hτ, tw_upd_off (by omega), tw_upd_off (by omega), tw_upd_off (by omega)]; exact tw_upd_at
  have t4 : τ 103 k = nI q := by rw [← hτ, tw_upd_off (by omega)]; exact tw_upd_at
  have t5 : ∀ k1 j, ¬ (k1 = 2 ∧ j = 1) → ¬ (k1 = 88 ∧ j = 17) → ¬ (k1 = 3 ∧ j = k) → ¬ (k1 = 103 ∧ j = k) → τ k1 j = σ k1 j := fun k1 j h1 h2 h3 h4 => by rw [← hτ, tw_upd_off h2, tw_upd_off h4, tw_upd_off h1, tw_upd_off h3]
  refine ⟨by first | rfl | (rw [t1, t2]), hI.tape ⟨k + 1, by omega, t1, t2, fun j hj => ?_⟩ (fun k1 j h => t5 k1 j (by unfold tw_fTape at h; omega) (by unfold tw_fTape at h; omega) (by unfold tw_fTape at h; omega) (by unfold tw_fTape at h; omega))⟩
  by_cases hjk : j = k
  · subst hjk
    exact ⟨by rw [t3, t4], q, by omega, hq, t4⟩
  · rw [t5 3 j (by omega) (by omega) (by omega) (by omega), t5 103 j (by omega) (by omega) (by omega) (by omega)]; exact hT j (by omega)
end tw_s29
