/-! a law read by the class: how it begins -/
section tw_s65
variable {L : Nat} {xs : Nat → Int32} {σ : tw_Mem} {x y w : Int32} {n r i c k h q a b e : Nat}
set_option maxHeartbeats 4000000 in
set_option maxRecDepth 100000 in
theorem tw_c_leaf {ch : Nat → Nat} {Q : Option Value → tw_Mem → Prop} {k f op nd p lv : Nat} (hC : tw_chs ch k) (hp : p ≤ 80) (hnd : nd < 80) (hS : tw_cS ch k σ p nd lv) (hpk : p < k) (hl : tw_leaf (ch p)) : tw_P L xs (f + 5) 64 0 [.ref 70, .int (nI op), tw_U, tw_U, tw_U, tw_U, tw_U] [] σ (tw_pO ch k σ nd (fun _ _ => ch p) (p + 1) (nd + 1) (lv + 1)) := by
  obtain ⟨hT, h2, h3, h4, h5⟩ := id hS
  have hc := tw_ch_lt hC p
  refine tw_sg 2 (i1 := 2) (ls1 := [.ref 70, .int (nI op), tw_U, tw_U, tw_U, tw_U, tw_U]) (st1 := [.ref 70, .int (nI 0)]) (σ1 := σ) rfl ?_
  refine tw_cl1 rfl (rfl) (by omega) (tw_e_next hC hT h2 (by omega)) ?_
  rintro _ _ ⟨rfl, rfl⟩
  show tw_P L xs _ 64 3 [.ref 70, .int (nI op), tw_U, tw_U, tw_U, tw_U, tw_U] [.int (tw_hv ch p), .int (nI 0)] σ _
  refine tw_cl1 rfl (rfl) (by omega) (tw_e_max0 hC) ?_
  rintro _ _ ⟨rfl, rfl⟩
  show tw_P L xs _ 64 4 [.ref 70, .int (nI op), tw_U, tw_U, tw_U, tw_U, tw_U] [.int (nI (ch p))] σ _
  refine tw_sgn 3 (i1 := 7) (ls0 := [.ref 70, .int (nI op), .int (((nI (ch p)).toUInt32 % 65536).toInt32), tw_U, tw_U, tw_U, tw_U]) (st0 := [.int (((nI (ch p)).toUInt32 % 65536).toInt32)]) (σ0 := σ) (ls1 := [.ref 70, .int (nI op), .int (nI (ch p)), tw_U, tw_U, tw_U, tw_U]) (st1 := [.int (nI (ch p))]) (σ1 := σ) rfl (by simp only [tw_i2c hc, tw_nadd, tw_nmul]) (by simp only [tw_i2c hc, tw_nadd, tw_nmul]) (rfl) ?_
  refine tw_cl1 rfl (rfl) (by omega) (tw_e_isLeaf1 hl) ?_
  rintro _ _ ⟨rfl, rfl⟩
  show tw_P L xs _ 64 8 [.ref 70, .int (nI op), .int (nI (ch p)), tw_U, tw_U, tw_U, tw_U] [.int (nI 1)] σ _
  refine tw_bzF (c := .eq) rfl (by rw [tw_ceq', tw_neq (by omega) (by omega)] <;> omega) ?_
  show tw_P L xs _ 64 9 [.ref 70, .int (nI op), .int (nI (ch p)), tw_U, tw_U, tw_U, tw_U] [] σ _
  refine tw_sgn 9 (i1 := 18) (ls0 := [.ref 70, .int (nI op), .int (nI (ch p)), tw_U, tw_U, tw_U, tw_U]) (st0 := [.int (nI (ch p)), .ref 71]) (σ0 := (tw_upd σ 70 2 ((σ 70 2) + nI 1))) (ls1 := [.ref 70, .int (nI op), .int (nI (ch p)), tw_U, tw_U, tw_U, tw_U]) (st1 := [.int (nI (ch p)), .ref 71]) (σ1 := (tw_upd σ 70 2 (nI (p + 1)))) rfl (rfl) (rfl) (by simp only [h2, tw_nadd, tw_nmul]) ?_
  refine tw_cl0 1 rfl (rfl) (by omega) ?_
  show tw_P L xs _ 53 0 [.ref 71, .int (nI (ch p))] [] (tw_upd σ 70 2 (nI (p + 1))) _
  refine tw_sgn 9 (i1 := 9) (ls0 := [.ref 71, .int (nI (ch p))]) (st0 := [.int (nI 0), .int (nI (ch p)), .ref 71]) (σ0 := (tw_upd (tw_upd σ 70 2 (nI (p + 1))) 71 5 ((σ 71 5) + nI 1))) (ls1 := [.ref 71, .int (nI (ch p))]) (st1 := [.int (nI 0), .int (nI (ch p)), .ref 71]) (σ1 := (tw_upd (tw_upd σ 70 2 (nI (p + 1))) 71 5 (nI (lv + 1)))) rfl (rfl) (rfl) (by simp only [h5, tw_nadd, tw_nmul]) ?_
  refine tw_cl0 0 rfl (rfl) (by decide) ?_
  show tw_P L xs _ 52 0 [.ref 71, .int (nI (ch p)), .int (nI 0), tw_U] [] (tw_upd (tw_upd σ 70 2 (nI (p + 1))) 71 5 (nI (lv + 1))) _
  refine tw_sgn 2 (i1 := 2) (ls0 := [.ref 71, .int (nI (ch p)), .int (nI 0), tw_U]) (st0 := [.int (σ 71 4)]) (σ0 := (tw_upd (tw_upd σ 70 2 (nI (p + 1))) 71 5 (nI (lv + 1)))) (ls1 := [.ref 71, .int (nI (ch p)), .int (nI 0), tw_U]) (st1 := [.int (nI nd)]) (σ1 := (tw_upd (tw_upd σ 70 2 (nI (p + 1))) 71 5 (nI (lv + 1)))) rfl (rfl) (by simp only [h4, tw_nadd, tw_nmul]) (rfl) ?_
  refine tw_bzF (c := .lt) rfl (by rw [tw_clt', tw_nlt (by omega) (by omega)] <;> omega) ?_
  show tw_P L xs _ 52 3 [.ref 71, .int (nI (ch p)), .int (nI 0), tw_U] [] (tw_upd (tw_upd σ 70 2 (nI (p + 1))) 71 5 (nI (lv + 1))) _
  refine tw_sgn 3 (i1 := 6) (ls0 := [.ref 71, .int (nI (ch p)), .int (nI 0), tw_U]) (st0 := [.int (nI 80), .int (σ 71 4)]) (σ0 := (tw_upd (tw_upd σ 70 2 (nI (p + 1))) 71 5 (nI (lv + 1)))) (ls1 := [.ref 71, .int (nI (ch p)), .int (nI 0), tw_U]) (st1 := [.int (nI 80), .int (nI nd)]) (σ1 := (tw_upd (tw_upd σ 70 2 (nI (p + 1))) 71 5 (nI (lv + 1)))) rfl (rfl) (by simp only [h4, tw_nadd, tw_nmul]) (rfl) ?_
  refine tw_biT (c := .lt) rfl (by rw [tw_clt, tw_nlt (by omega) (by omega)] <;> omega) ?_
  show tw_P L xs _ 52 9 [.ref 71, .int (nI (ch p)), .int (nI 0), tw_U] [] (tw_upd (tw_upd σ 70 2 (nI (p + 1))) 71 5 (nI (lv + 1))) _
  refine tw_sgn 7 (i1 := 16) (ls0 := [.ref 71, .int (nI (ch p)), .int (nI 0), .int (σ 71 4)]) (st0 := [.int (nI (ch p)), .int (σ 71 4), .ref 72]) (σ0 := (tw_upd (tw_upd σ 70 2 (nI (p + 1))) 71 5 (nI (lv + 1)))) (ls1 := [.ref 71, .int (nI (ch p)), .int (nI 0), .int (nI nd)]) (st1 := [.int (nI (ch p)), .int (nI nd), .ref 72]) (σ1 := (tw_upd (tw_upd σ 70 2 (nI (p + 1))) 71 5 (nI (lv + 1)))) rfl (by simp only [h4, tw_nadd, tw_nmul]) (by simp only [h4, tw_nadd, tw_nmul]) (rfl) ?_
  refine tw_asch (k := 72) (j := nd) (len := 80) (w := (nI (ch p))) rfl rfl rfl (rfl) (by omega) (by decide) (tw_nar_chr _ hc) ?_
  refine tw_sg 4 (i1 := 21) (ls1 := [.ref 71, .int (nI (ch p)), .int (nI 0), .int (nI nd)]) (st1 := [.int (nI 0), .int (nI nd), .ref 73]) (σ1 := (tw_upd (tw_upd (tw_upd σ 70 2 (nI (p + 1))) 71 5 (nI (lv + 1))) 72 nd (nI (ch p)))) rfl ?_
  refine tw_as (k := 73) (j := nd) (len := 80) rfl rfl rfl (rfl) (by omega) (by decide) ?_
  refine tw_sg 4 (i1 := 26) (ls1 := [.ref 71, .int (nI (ch p)), .int (nI 0), .int (nI nd)]) (st1 := [.int (-1), .int (nI nd), .ref 74]) (σ1 := (tw_upd (tw_upd (tw_upd (tw_upd σ 70 2 (nI (p + 1))) 71 5 (nI (lv + 1))) 72 nd (nI (ch p))) 73 nd (nI 0))) rfl ?_
  refine tw_as (k := 74) (j := nd) (len := 80) rfl rfl rfl (rfl) (by omega) (by decide) ?_
  refine tw_sg 4 (i1 := 31) (ls1 := [.ref 71, .int (nI (ch p)), .int (nI 0), .int (nI nd)]) (st1 := [.int (-1), .int (nI nd), .ref 75]) (σ1 := (tw_upd (tw_upd (tw_upd (tw_upd (tw_upd σ 70 2 (nI (p + 1))) 71 5 (nI (lv + 1))) 72 nd (nI (ch p))) 73 nd (nI 0)) 74 nd (-1))) rfl ?_
  refine tw_as (k := 75) (j := nd) (len := 80) rfl rfl rfl (rfl) (by omega) (by decide) ?_
  refine tw_sgn 7 (i1 := 39) (ls0 := [.ref 71, .int (nI (ch p)), .int (nI 0), .int (nI nd)]) (st0 := [.int (nI nd)]) (σ0 := (tw_upd (tw_upd (tw_upd (tw_upd (tw_upd (tw_upd (tw_upd σ 70 2 (nI (p + 1))) 71 5 (nI (lv + 1))) 72 nd (nI (ch p))) 73 nd (nI 0)) 74 nd (-1)) 75 nd (-1)) 71 4 ((σ 71 4) + nI 1))) (ls1 := [.ref 71, .int (nI (ch p)), .int (nI 0), .int (nI nd)]) (st1 := [.int (nI nd)]) (σ1 := (tw_upd (tw_upd (tw_upd (tw_upd (tw_upd (tw_upd (tw_upd σ 70 2 (nI (p + 1))) 71 5 (nI (lv + 1))) 72 nd (nI (ch p))) 73 nd (nI 0)) 74 nd (-1)) 75 nd (-1)) 71 4 (nI (nd + 1)))) rfl (rfl) (rfl) (by simp only [h4, tw_nadd, tw_nmul]) ?_
  refine tw_ri rfl (rfl) ?_
  show tw_P L xs _ 53 10 [.ref 71, .int (nI (ch p))] [.int (nI nd)] (tw_upd (tw_upd (tw_upd (tw_upd (tw_upd (tw_upd (tw_upd σ 70 2 (nI (p + 1))) 71 5 (nI (lv + 1))) 72 nd (nI (ch p))) 73 nd (nI 0)) 74 nd (-1)) 75 nd (-1)) 71 4 (nI (nd + 1))) _
  refine tw_ri rfl (rfl) ?_
  show tw_P L xs _ 64 19 [.ref 70, .int (nI op), .int (nI (ch p)), tw_U, tw_U, tw_U, tw_U] [.int (nI nd)] (tw_upd (tw_upd (tw_upd (tw_upd (tw_upd (tw_upd (tw_upd σ 70 2 (nI (p + 1))) 71 5 (nI (lv + 1))) 72 nd (nI (ch p))) 73 nd (nI 0)) 74 nd (-1)) 75 nd (-1)) 71 4 (nI (nd + 1))) _
  refine tw_ri rfl (rfl) ?_
  have ho : ¬ tw_oper (ch p) := by unfold tw_oper tw_numd; unfold tw_leaf at hl; omega
  refine ⟨rfl, ⟨by repeat (first | exact hT | refine tw_cT.upd ?_ (by omega) (by omega) (by omega)), by repeat (first | exact tw_upd_at | assumption | rw [tw_upd_off (by omega)]), by repeat (first | exact tw_upd_at | assumption | rw [tw_upd_off (by omega)]), by repeat (first | exact tw_upd_at | assumption | rw [tw_upd_off (by omega)]), by repeat (first | exact tw_upd_at | assumption | rw [tw_upd_off (by omega)])⟩, by repeat (first | exact tw_rF.rf | refine tw_rF.upd ?_ (by omega) | refine tw_rF.updc ?_ (by omega)), by repeat (first | exact tw_lo.rf | refine tw_lo.upd ?_ (by omega)), fun j j1 j2 => ?_⟩
  have e : j = nd := by omega
  subst e
  exact ⟨by repeat (first | exact tw_upd_at | assumption | rw [tw_upd_off (by omega)]), fun z => absurd z ho⟩
set_option maxHeartbeats 4000000 in
set_option maxRecDepth 100000 in
theorem tw_c_bad6 {ch : Nat → Nat} {Q : Option Value → tw_Mem → Prop} {k f op nd p lv : Nat} (hC : tw_chs ch k) (hp : p ≤ 80) (hS : tw_cS ch k σ p nd lv) (hl : ¬ tw_leaf (ch p)) (h6 : op = 6) : tw_P L xs (f + 5) 64 0 [.ref 70, .int (nI op), tw_U, tw_U, tw_U, tw_U, tw_U] [] σ (tw_pF p σ) := by
  obtain ⟨hT, h2, h3, h4, h5⟩ := id hS
  have hc := tw_ch_lt hC p
  refine tw_sg 2 (i1 := 2) (ls1 := [.ref 70, .int (nI op), tw_U, tw_U, tw_U, tw_U, tw_U]) (st1 := [.ref 70, .int (nI 0)]) (σ1 := σ) rfl ?_
  refine tw_cl1 rfl (rfl) (by omega) (tw_e_next hC hT h2 (by omega)) ?_
  rintro _ _ ⟨rfl, rfl⟩
  show tw_P L xs _ 64 3 [.ref 70, .int (nI op), tw_U, tw_U, tw_U, tw_U, tw_U] [.int (tw_hv ch p), .int (nI 0)] σ _
  refine tw_cl1 rfl (rfl) (by omega) (tw_e_max0 hC) ?_
  rintro _ _ ⟨rfl, rfl⟩
  show tw_P L xs _ 64 4 [.ref 70, .int (nI op), tw_U, tw_U, tw_U, tw_U, tw_U] [.int (nI (ch p))] σ _
  refine tw_sgn 3 (i1 := 7) (ls0 := [.ref 70, .int (nI op), .int (((nI (ch p)).toUInt32 % 65536).toInt32), tw_U, tw_U, tw_U, tw_U]) (st0 := [.int (((nI (ch p)).toUInt32 % 65536).toInt32)]) (σ0 := σ) (ls1 := [.ref 70, .int (nI op), .int (nI (ch p)), tw_U, tw_U, tw_U, tw_U]) (st1 := [.int (nI (ch p))]) (σ1 := σ) rfl (by simp only [tw_i2c hc, tw_nadd, tw_nmul]) (by simp only [tw_i2c hc, tw_nadd, tw_nmul]) (rfl) ?_
  refine tw_cl1 rfl (rfl) (by omega) (tw_e_isLeaf0 hc hl) ?_
  rintro _ _ ⟨rfl, rfl⟩
  show tw_P L xs _ 64 8 [.ref 70, .int (nI op), .int (nI (ch p)), tw_U, tw_U, tw_U, tw_U] [.int (nI 0)] σ _
  refine tw_bzT (c := .eq) rfl (by rw [tw_ceq, tw_neq (by omega) (by omega)] <;> omega) ?_
  show tw_P L xs _ 64 20 [.ref 70, .int (nI op), .int (nI (ch p)), tw_U, tw_U, tw_U, tw_U] [] σ _
  refine tw_sg 2 (i1 := 22) (ls1 := [.ref 70, .int (nI op), .int (nI (ch p)), tw_U, tw_U, tw_U, tw_U]) (st1 := [.int (nI 6), .int (nI op)]) (σ1 := σ) rfl ?_
  refine tw_biT (c := .ge) rfl (by rw [tw_cge] <;> (rw [tw_nle (by omega) (by omega)]; omega)) ?_
  show tw_P L xs _ 64 26 [.ref 70, .int (nI op), .int (nI (ch p)), tw_U, tw_U, tw_U, tw_U] [] σ _
  refine tw_sgn 3 (i1 := 29) (ls0 := [.ref 70, .int (nI op), .int (nI (ch p)), tw_U, tw_U, tw_U, tw_U]) (st0 := [.int (σ 70 2), .ref 70]) (σ0 := σ) (ls1 := [.ref 70, .int (nI op), .int (nI (ch p)), tw_U, tw_U, tw_U, tw_U]) (st1 := [.int (nI p), .ref 70]) (σ1 := σ) rfl (rfl) (by simp only [h2, tw_nadd, tw_nmul]) (rfl) ?_
  refine tw_cl0 1 rfl (rfl) (by omega) ?_
  show tw_P L xs _ 67 0 [.ref 70, .int (nI p)] [] σ _
  refine tw_sgn 3 (i1 := 3) (ls0 := [.ref 70, .int (nI p)]) (st0 := [.int (-1), .int (σ 70 3)]) (σ0 := σ) (ls1 := [.ref 70, .int (nI p)]) (st1 := [.int (-1), .int (-1)]) (σ1 := σ) rfl (rfl) (by simp only [h3, tw_nadd, tw_nmul]) (rfl) ?_
  refine tw_biF (c := .ne) rfl (by rw [tw_cne'] <;> (exact rfl)) ?_
  show tw_P L xs _ 67 4 [.ref 70, .int (nI p)] [] σ _
  refine tw_sg 3 (i1 := 7) (ls1 := [.ref 70, .int (nI p)]) (st1 := []) (σ1 := (tw_upd σ 70 3 (nI p))) rfl ?_
  refine tw_rv rfl ?_
  show tw_P L xs _ 64 30 [.ref 70, .int (nI op), .int (nI (ch p)), tw_U, tw_U, tw_U, tw_U] [] (tw_upd σ 70 3 (nI p)) _
  refine tw_sg 1 (i1 := 31) (ls1 := [.ref 70, .int (nI op), .int (nI (ch p)), tw_U, tw_U, tw_U, tw_U]) (st1 := [.int (-1)]) (σ1 := (tw_upd σ 70 3 (nI p))) rfl ?_
  refine tw_ri rfl (rfl) ?_
  exact ⟨⟨_, rfl⟩, by repeat (first | exact tw_upd_at | assumption | rw [tw_upd_off (by omega)]), by repeat (first | exact tw_rF.rf | refine tw_rF.upd ?_ (by omega) | refine tw_rF.updc ?_ (by omega))⟩
set_option maxHeartbeats 4000000 in
set_option maxRecDepth 100000 in
theorem tw_c_badL {ch : Nat → Nat} {Q : Option Value → tw_Mem → Prop} {k f op nd p lv : Nat} (hC : tw_chs ch k) (hp : p ≤ 80) (hS : tw_cS ch k σ p nd lv) (hop : op < 6) (hl : ¬ tw_leaf (ch p)) (ho : ¬ tw_oper (ch p)) : tw_P L xs (f + 5) 64 0 [.ref 70, .int (nI op), tw_U, tw_U, tw_U, tw_U, tw_U] [] σ (tw_pF p σ) := by
  obtain ⟨hT, h2, h3, h4, h5⟩ := id hS
  have hc := tw_ch_lt hC p
  refine tw_sg 2 (i1 := 2) (ls1 := [.ref 70, .int (nI op), tw_U, tw_U, tw_U, tw_U, tw_U]) (st1 := [.ref 70, .int (nI 0)]) (σ1 := σ) rfl ?_
  refine tw_cl1 rfl (rfl) (by omega) (tw_e_next hC hT h2 (by omega)) ?_
  rintro _ _ ⟨rfl, rfl⟩
  show tw_P L xs _ 64 3 [.ref 70, .int (nI op), tw_U, tw_U, tw_U, tw_U, tw_U] [.int (tw_hv ch p), .int (nI 0)] σ _
  refine tw_cl1 rfl (rfl) (by omega) (tw_e_max0 hC) ?_
  rintro _ _ ⟨rfl, rfl⟩
  show tw_P L xs _ 64 4 [.ref 70, .int (nI op), tw_U, tw_U, tw_U, tw_U, tw_U] [.int (nI (ch p))] σ _
  refine tw_sgn 3 (i1 := 7) (ls0 := [.ref 70, .int (nI op), .int (((nI (ch p)).toUInt32 % 65536).toInt32), tw_U, tw_U, tw_U, tw_U]) (st0 := [.int (((nI (ch p)).toUInt32 % 65536).toInt32)]) (σ0 := σ) (ls1 := [.ref 70, .int (nI op), .int (nI (ch p)), tw_U, tw_U, tw_U, tw_U]) (st1 := [.int (nI (ch p))]) (σ1 := σ) rfl (by simp only [tw_i2c hc, tw_nadd, tw_nmul]) (by simp only [tw_i2c hc, tw_nadd, tw_nmul]) (rfl) ?_
  refine tw_cl1 rfl (rfl) (by omega) (tw_e_isLeaf0 hc hl) ?_
  rintro _ _ ⟨rfl, rfl⟩
  show tw_P L xs _ 64 8 [.ref 70, .int (nI op), .int (nI (ch p)), tw_U, tw_U, tw_U, tw_U] [.int (nI 0)] σ _
  refine tw_bzT (c := .eq) rfl (by rw [tw_ceq, tw_neq (by omega) (by omega)] <;> omega) ?_
  show tw_P L xs _ 64 20 [.ref 70, .int (nI op), .int (nI (ch p)), tw_U, tw_U, tw_U, tw_U] [] σ _
  refine tw_sg 2 (i1 := 22) (ls1 := [.ref 70, .int (nI op), .int (nI (ch p)), tw_U, tw_U, tw_U, tw_U]) (st1 := [.int (nI 6), .int (nI op)]) (σ1 := σ) rfl ?_
  refine tw_biF (c := .ge) rfl (by rw [tw_cge'] <;> (rw [tw_nle (by omega) (by omega)]; omega)) ?_
  show tw_P L xs _ 64 23 [.ref 70, .int (nI op), .int (nI (ch p)), tw_U, tw_U, tw_U, tw_U] [] σ _
  refine tw_sg 1 (i1 := 24) (ls1 := [.ref 70, .int (nI op), .int (nI (ch p)), tw_U, tw_U, tw_U, tw_U]) (st1 := [.int (nI (ch p))]) (σ1 := σ) rfl ?_
  refine tw_cl1 rfl (rfl) (by omega) (tw_e_isOpener0 hc ho) ?_
  rintro _ _ ⟨rfl, rfl⟩
  show tw_P L xs _ 64 25 [.ref 70, .int (nI op), .int (nI (ch p)), tw_U, tw_U, tw_U, tw_U] [.int (nI 0)] σ _
  refine tw_bzF (c := .ne) rfl (by rw [tw_cne', tw_neq (by omega) (by omega)] <;> omega) ?_
  show tw_P L xs _ 64 26 [.ref 70, .int (nI op), .int (nI (ch p)), tw_U, tw_U, tw_U, tw_U] [] σ _
  refine tw_sgn 3 (i1 := 29) (ls0 := [.ref 70, .int (nI op), .int (nI (ch p)), tw_U, tw_U, tw_U, tw_U]) (st0 := [.int (σ 70 2), .ref 70]) (σ0 := σ) (ls1 := [.ref 70, .int (nI op), .int (nI (ch p)), tw_U, tw_U, tw_U, tw_U]) (st1 := [.int (nI p), .ref 70]) (σ1 := σ) rfl (rfl) (by simp only [h2, tw_nadd, tw_nmul]) (rfl) ?_
  refine tw_cl0 1 rfl (rfl) (by omega) ?_
  show tw_P L xs _ 67 0 [.ref 70, .int (nI p)] [] σ _
  refine tw_sgn 3 (i1 := 3) (ls0 := [.ref 70, .int (nI p)]) (st0 := [.int (-1), .int (σ 70 3)]) (σ0 := σ) (ls1 := [.ref 70, .int (nI p)]) (st1 := [.int (-1), .int (-1)]) (σ1 := σ) rfl (rfl) (by simp only [h3, tw_nadd, tw_nmul]) (rfl) ?_
  refine tw_biF (c := .ne) rfl (by rw [tw_cne'] <;> (exact rfl)) ?_
  show tw_P L xs _ 67 4 [.ref 70, .int (nI p)] [] σ _
  refine tw_sg 3 (i1 := 7) (ls1 := [.ref 70, .int (nI p)]) (st1 := []) (σ1 := (tw_upd σ 70 3 (nI p))) rfl ?_
  refine tw_rv rfl ?_
  show tw_P L xs _ 64 30 [.ref 70, .int (nI op), .int (nI (ch p)), tw_U, tw_U, tw_U, tw_U] [] (tw_upd σ 70 3 (nI p)) _
  refine tw_sg 1 (i1 := 31) (ls1 := [.ref 70, .int (nI op), .int (nI (ch p)), tw_U, tw_U, tw_U, tw_U]) (st1 := [.int (-1)]) (σ1 := (tw_upd σ 70 3 (nI p))) rfl ?_
  refine tw_ri rfl (rfl) ?_
  exact ⟨⟨_, rfl⟩, by repeat (first | exact tw_upd_at | assumption | rw [tw_upd_off (by omega)]), by repeat (first | exact tw_rF.rf | refine tw_rF.upd ?_ (by omega) | refine tw_rF.updc ?_ (by omega))⟩
set_option maxHeartbeats 4000000 in
set_option maxRecDepth 100000 in
theorem tw_c_hd0 {ch : Nat → Nat} {Q : Option Value → tw_Mem → Prop} {k f op nd p lv : Nat} (hC : tw_chs ch k) (hp : p ≤ 80) (hnd : nd < 80) (hS : tw_cS ch k σ p nd lv) (hpk : p < k) (hop : op < 6) (hl : ¬ tw_leaf (ch p)) (ho : tw_oper (ch p)) (hn : ¬ tw_numd (ch p)) (hQ : tw_P L xs (f + 5) 64 46 [.ref 70, .int (nI op), .int (nI (ch p)), tw_U, tw_U, tw_U, tw_U] [.int (nI 0)] (tw_upd σ 70 2 (nI (p + 1))) Q) : tw_P L xs (f + 5) 64 0 [.ref 70, .int (nI op), tw_U, tw_U, tw_U, tw_U, tw_U] [] σ Q := by
  obtain ⟨hT, h2, h3, h4, h5⟩ := id hS
  have hc := tw_ch_lt hC p
  refine tw_sg 2 (i1 := 2) (ls1 := [.ref 70, .int (nI op), tw_U, tw_U, tw_U, tw_U, tw_U]) (st1 := [.ref 70, .int (nI 0)]) (σ1 := σ) rfl ?_
  refine tw_cl1 rfl (rfl) (by omega) (tw_e_next hC hT h2 (by omega)) ?_
  rintro _ _ ⟨rfl, rfl⟩
  show tw_P L xs _ 64 3 [.ref 70, .int (nI op), tw_U, tw_U, tw_U, tw_U, tw_U] [.int (tw_hv ch p), .int (nI 0)] σ _
  refine tw_cl1 rfl (rfl) (by omega) (tw_e_max0 hC) ?_
  rintro _ _ ⟨rfl, rfl⟩
  show tw_P L xs _ 64 4 [.ref 70, .int (nI op), tw_U, tw_U, tw_U, tw_U, tw_U] [.int (nI (ch p))] σ _
  refine tw_sgn 3 (i1 := 7) (ls0 := [.ref 70, .int (nI op), .int (((nI (ch p)).toUInt32 % 65536).toInt32), tw_U, tw_U, tw_U, tw_U]) (st0 := [.int (((nI (ch p)).toUInt32 % 65536).toInt32)]) (σ0 := σ) (ls1 := [.ref 70, .int (nI op), .int (nI (ch p)), tw_U, tw_U, tw_U, tw_U]) (st1 := [.int (nI (ch p))]) (σ1 := σ) rfl (by simp only [tw_i2c hc, tw_nadd, tw_nmul]) (by simp only [tw_i2c hc, tw_nadd, tw_nmul]) (rfl) ?_
  refine tw_cl1 rfl (rfl) (by omega) (tw_e_isLeaf0 hc hl) ?_
  rintro _ _ ⟨rfl, rfl⟩
  show tw_P L xs _ 64 8 [.ref 70, .int (nI op), .int (nI (ch p)), tw_U, tw_U, tw_U, tw_U] [.int (nI 0)] σ _
  refine tw_bzT (c := .eq) rfl (by rw [tw_ceq, tw_neq (by omega) (by omega)] <;> omega) ?_
  show tw_P L xs _ 64 20 [.ref 70, .int (nI op), .int (nI (ch p)), tw_U, tw_U, tw_U, tw_U] [] σ _
  refine tw_sg 2 (i1 := 22) (ls1 := [.ref 70, .int (nI op), .int (nI (ch p)), tw_U, tw_U, tw_U, tw_U]) (st1 := [.int (nI 6), .int (nI op)]) (σ1 := σ) rfl ?_
  refine tw_biF (c := .ge) rfl (by rw [tw_cge'] <;> (rw [tw_nle (by omega) (by omega)]; omega)) ?_
  show tw_P L xs _ 64 23 [.ref 70, .int (nI op), .int (nI (ch p)), tw_U, tw_U, tw_U, tw_U] [] σ _
  refine tw_sg 1 (i1 := 24) (ls1 := [.ref 70, .int (nI op), .int (nI (ch p)), tw_U, tw_U, tw_U, tw_U]) (st1 := [.int (nI (ch p))]) (σ1 := σ) rfl ?_
  refine tw_cl1 rfl (rfl) (by omega) (tw_e_isOpener1 hc ho) ?_
  rintro _ _ ⟨rfl, rfl⟩
  show tw_P L xs _ 64 25 [.ref 70, .int (nI op), .int (nI (ch p)), tw_U, tw_U, tw_U, tw_U] [.int (nI 1)] σ _
  refine tw_bzT (c := .ne) rfl (by rw [tw_cne, tw_neq (by omega) (by omega)] <;> omega) ?_
  show tw_P L xs _ 64 32 [.ref 70, .int (nI op), .int (nI (ch p)), tw_U, tw_U, tw_U, tw_U] [] σ _
  refine tw_sgn 7 (i1 := 39) (ls0 := [.ref 70, .int (nI op), .int (nI (ch p)), tw_U, tw_U, tw_U, tw_U]) (st0 := [.int (nI (ch p))]) (σ0 := (tw_upd σ 70 2 ((σ 70 2) + nI 1))) (ls1 := [.ref 70, .int (nI op), .int (nI (ch p)), tw_U, tw_U, tw_U, tw_U]) (st1 := [.int (nI (ch p))]) (σ1 := (tw_upd σ 70 2 (nI (p + 1)))) rfl (rfl) (rfl) (by simp only [h2, tw_nadd, tw_nmul]) ?_
  refine tw_cl1 rfl (rfl) (by omega) (tw_e_hasNumber0 hc hn) ?_
  rintro _ _ ⟨rfl, rfl⟩
  show tw_P L xs _ 64 40 [.ref 70, .int (nI op), .int (nI (ch p)), tw_U, tw_U, tw_U, tw_U] [.int (nI 0)] (tw_upd σ 70 2 (nI (p + 1))) _
  refine tw_bzT (c := .eq) rfl (by rw [tw_ceq, tw_neq (by omega) (by omega)] <;> omega) ?_
  show tw_P L xs _ 64 45 [.ref 70, .int (nI op), .int (nI (ch p)), tw_U, tw_U, tw_U, tw_U] [] (tw_upd σ 70 2 (nI (p + 1))) _
  refine tw_sg 1 (i1 := 46) (ls1 := [.ref 70, .int (nI op), .int (nI (ch p)), tw_U, tw_U, tw_U, tw_U]) (st1 := [.int (nI 0)]) (σ1 := (tw_upd σ 70 2 (nI (p + 1)))) rfl ?_
  exact hQ
set_option maxHeartbeats 4000000 in
set_option maxRecDepth 100000 in
theorem tw_c_hd1 {ch : Nat → Nat} {Q : Option Value → tw_Mem → Prop} {k f op nd p lv : Nat} (hC : tw_chs ch k) (hp : p ≤ 80) (hnd : nd < 80) (hS : tw_cS ch k σ p nd lv) (hpk : p < k) (hop : op < 6) (hl : ¬ tw_leaf (ch p)) (ho : tw_oper (ch p)) (hn : tw_numd (ch p)) (hok : ¬ (tw_nl ch (p + 1) = 0 ∨ tw_nv ch (p + 1) < tw_lst (ch p))) (hQ : tw_P L xs (f + 5) 64 46 [.ref 70, .int (nI op), .int (nI (ch p)), tw_U, tw_U, tw_U, tw_U] [.int (nI (tw_nv ch (p + 1)))] (tw_upd σ 70 2 (nI (p + 1 + tw_nl ch (p + 1)))) Q) : tw_P L xs (f + 5) 64 0 [.ref 70, .int (nI op), tw_U, tw_U, tw_U, tw_U, tw_U] [] σ Q := by
  obtain ⟨hT, h2, h3, h4, h5⟩ := id hS
  have hc := tw_ch_lt hC p
  refine tw_sg 2 (i1 := 2) (ls1 := [.ref 70, .int (nI op), tw_U, tw_U, tw_U, tw_U, tw_U]) (st1 := [.ref 70, .int (nI 0)]) (σ1 := σ) rfl ?_
  refine tw_cl1 rfl (rfl) (by omega) (tw_e_next hC hT h2 (by omega)) ?_
  rintro _ _ ⟨rfl, rfl⟩
  show tw_P L xs _ 64 3 [.ref 70, .int (nI op), tw_U, tw_U, tw_U, tw_U, tw_U] [.int (tw_hv ch p), .int (nI 0)] σ _
  refine tw_cl1 rfl (rfl) (by omega) (tw_e_max0 hC) ?_
  rintro _ _ ⟨rfl, rfl⟩
  show tw_P L xs _ 64 4 [.ref 70, .int (nI op), tw_U, tw_U, tw_U, tw_U, tw_U] [.int (nI (ch p))] σ _
  refine tw_sgn 3 (i1 := 7) (ls0 := [.ref 70, .int (nI op), .int (((nI (ch p)).toUInt32 % 65536).toInt32), tw_U, tw_U, tw_U, tw_U]) (st0 := [.int (((nI (ch p)).toUInt32 % 65536).toInt32)]) (σ0 := σ) (ls1 := [.ref 70, .int (nI op), .int (nI (ch p)), tw_U, tw_U, tw_U, tw_U]) (st1 := [.int (nI (ch p))]) (σ1 := σ) rfl (by simp only [tw_i2c hc, tw_nadd, tw_nmul]) (by simp only [tw_i2c hc, tw_nadd, tw_nmul]) (rfl) ?_
  refine tw_cl1 rfl (rfl) (by omega) (tw_e_isLeaf0 hc hl) ?_
  rintro _ _ ⟨rfl, rfl⟩
  show tw_P L xs _ 64 8 [.ref 70, .int (nI op), .int (nI (ch p)), tw_U, tw_U, tw_U, tw_U] [.int (nI 0)] σ _
  refine tw_bzT (c := .eq) rfl (by rw [tw_ceq, tw_neq (by omega) (by omega)] <;> omega) ?_
  show tw_P L xs _ 64 20 [.ref 70, .int (nI op), .int (nI (ch p)), tw_U, tw_U, tw_U, tw_U] [] σ _
  refine tw_sg 2 (i1 := 22) (ls1 := [.ref 70, .int (nI op), .int (nI (ch p)), tw_U, tw_U, tw_U, tw_U]) (st1 := [.int (nI 6), .int (nI op)]) (σ1 := σ) rfl ?_
  refine tw_biF (c := .ge) rfl (by rw [tw_cge'] <;> (rw [tw_nle (by omega) (by omega)]; omega)) ?_
  show tw_P L xs _ 64 23 [.ref 70, .int (nI op), .int (nI (ch p)), tw_U, tw_U, tw_U, tw_U] [] σ _
  refine tw_sg 1 (i1 := 24) (ls1 := [.ref 70, .int (nI op), .int (nI (ch p)), tw_U, tw_U, tw_U, tw_U]) (st1 := [.int (nI (ch p))]) (σ1 := σ) rfl ?_
  refine tw_cl1 rfl (rfl) (by omega) (tw_e_isOpener1 hc ho) ?_
  rintro _ _ ⟨rfl, rfl⟩
  show tw_P L xs _ 64 25 [.ref 70, .int (nI op), .int (nI (ch p)), tw_U, tw_U, tw_U, tw_U] [.int (nI 1)] σ _
  refine tw_bzT (c := .ne) rfl (by rw [tw_cne, tw_neq (by omega) (by omega)] <;> omega) ?_
  show tw_P L xs _ 64 32 [.ref 70, .int (nI op), .int (nI (ch p)), tw_U, tw_U, tw_U, tw_U] [] σ _
  refine tw_sgn 7 (i1 := 39) (ls0 := [.ref 70, .int (nI op), .int (nI (ch p)), tw_U, tw_U, tw_U, tw_U]) (st0 := [.int (nI (ch p))]) (σ0 := (tw_upd σ 70 2 ((σ 70 2) + nI 1))) (ls1 := [.ref 70, .int (nI op), .int (nI (ch p)), tw_U, tw_U, tw_U, tw_U]) (st1 := [.int (nI (ch p))]) (σ1 := (tw_upd σ 70 2 (nI (p + 1)))) rfl (rfl) (rfl) (by simp only [h2, tw_nadd, tw_nmul]) ?_
  refine tw_cl1 rfl (rfl) (by omega) (tw_e_hasNumber1 hn) ?_
  rintro _ _ ⟨rfl, rfl⟩
  show tw_P L xs _ 64 40 [.ref 70, .int (nI op), .int (nI (ch p)), tw_U, tw_U, tw_U, tw_U] [.int (nI 1)] (tw_upd σ 70 2 (nI (p + 1))) _
  refine tw_bzF (c := .eq) rfl (by rw [tw_ceq', tw_neq (by omega) (by omega)] <;> omega) ?_
  show tw_P L xs _ 64 41 [.ref 70, .int (nI op), .int (nI (ch p)), tw_U, tw_U, tw_U, tw_U] [] (tw_upd σ 70 2 (nI (p + 1))) _
  refine tw_sg 2 (i1 := 43) (ls1 := [.ref 70, .int (nI op), .int (nI (ch p)), tw_U, tw_U, tw_U, tw_U]) (st1 := [.int (nI (ch p)), .ref 70]) (σ1 := (tw_upd σ 70 2 (nI (p + 1)))) rfl ?_
  refine tw_cl1 rfl (rfl) (by omega) (tw_e_num1 (p := p + 1) hC (by repeat (first | exact hT | refine tw_cT.upd ?_ (by omega) (by omega) (by omega))) tw_upd_at (by omega) hc hok) ?_
  rintro _ τ ⟨rfl, rfl⟩
  show tw_P L xs _ 64 44 [.ref 70, .int (nI op), .int (nI (ch p)), tw_U, tw_U, tw_U, tw_U] [.int (nI (tw_nv ch (p + 1)))] (tw_upd (tw_upd σ 70 2 (nI (p + 1))) 70 2 (nI (p + 1 + tw_nl ch (p + 1)))) _
  refine tw_sg 1 (i1 := 46) (ls1 := [.ref 70, .int (nI op), .int (nI (ch p)), tw_U, tw_U, tw_U, tw_U]) (st1 := [.int (nI (tw_nv ch (p + 1)))]) (σ1 := (tw_upd (tw_upd σ 70 2 (nI (p + 1))) 70 2 (nI (p + 1 + tw_nl ch (p + 1))))) rfl ?_
  rw [tw_upd2]
  exact hQ
set_option maxHeartbeats 4000000 in
set_option maxRecDepth 100000 in
theorem tw_c_hdF {ch : Nat → Nat} {Q : Option Value → tw_Mem → Prop} {k f op nd p lv : Nat} (hC : tw_chs ch k) (hp : p ≤ 80) (hnd : nd < 80) (hS : tw_cS ch k σ p nd lv) (hpk : p < k) (hop : op < 6) (hl : ¬ tw_leaf (ch p)) (ho : tw_oper (ch p)) (hn : tw_numd (ch p)) (hok : tw_nl ch (p + 1) = 0 ∨ tw_nv ch (p + 1) < tw_lst (ch p)) : tw_P L xs (f + 5) 64 0 [.ref 70, .int (nI op), tw_U, tw_U, tw_U, tw_U, tw_U] [] σ (tw_pF (p + 1) σ) := by
  obtain ⟨hT, h2, h3, h4, h5⟩ := id hS
  have hc := tw_ch_lt hC p
  refine tw_sg 2 (i1 := 2) (ls1 := [.ref 70, .int (nI op), tw_U, tw_U, tw_U, tw_U, tw_U]) (st1 := [.ref 70, .int (nI 0)]) (σ1 := σ) rfl ?_
  refine tw_cl1 rfl (rfl) (by omega) (tw_e_next hC hT h2 (by omega)) ?_
  rintro _ _ ⟨rfl, rfl⟩
  show tw_P L xs _ 64 3 [.ref 70, .int (nI op), tw_U, tw_U, tw_U, tw_U, tw_U] [.int (tw_hv ch p), .int (nI 0)] σ _
  refine tw_cl1 rfl (rfl) (by omega) (tw_e_max0 hC) ?_
  rintro _ _ ⟨rfl, rfl⟩
  show tw_P L xs _ 64 4 [.ref 70, .int (nI op), tw_U, tw_U, tw_U, tw_U, tw_U] [.int (nI (ch p))] σ _
  refine tw_sgn 3 (i1 := 7) (ls0 := [.ref 70, .int (nI op), .int (((nI (ch p)).toUInt32 % 65536).toInt32), tw_U, tw_U, tw_U, tw_U]) (st0 := [.int (((nI (ch p)).toUInt32 % 65536).toInt32)]) (σ0 := σ) (ls1 := [.ref 70, .int (nI op), .int (nI (ch p)), tw_U, tw_U, tw_U, tw_U]) (st1 := [.int (nI (ch p))]) (σ1 := σ) rfl (by simp only [tw_i2c hc, tw_nadd, tw_nmul]) (by simp only [tw_i2c hc, tw_nadd, tw_nmul]) (rfl) ?_
  refine tw_cl1 rfl (rfl) (by omega) (tw_e_isLeaf0 hc hl) ?_
  rintro _ _ ⟨rfl, rfl⟩
  show tw_P L xs _ 64 8 [.ref 70, .int (nI op), .int (nI (ch p)), tw_U, tw_U, tw_U, tw_U] [.int (nI 0)] σ _
  refine tw_bzT (c := .eq) rfl (by rw [tw_ceq, tw_neq (by omega) (by omega)] <;> omega) ?_
  show tw_P L xs _ 64 20 [.ref 70, .int (nI op), .int (nI (ch p)), tw_U, tw_U, tw_U, tw_U] [] σ _
  refine tw_sg 2 (i1 := 22) (ls1 := [.ref 70, .int (nI op), .int (nI (ch p)), tw_U, tw_U, tw_U, tw_U]) (st1 := [.int (nI 6), .int (nI op)]) (σ1 := σ) rfl ?_
  refine tw_biF (c := .ge) rfl (by rw [tw_cge'] <;> (rw [tw_nle (by omega) (by omega)]; omega)) ?_
  show tw_P L xs _ 64 23 [.ref 70, .int (nI op), .int (nI (ch p)), tw_U, tw_U, tw_U, tw_U] [] σ _
  refine tw_sg 1 (i1 := 24) (ls1 := [.ref 70, .int (nI op), .int (nI (ch p)), tw_U, tw_U, tw_U, tw_U]) (st1 := [.int (nI (ch p))]) (σ1 := σ) rfl ?_
  refine tw_cl1 rfl (rfl) (by omega) (tw_e_isOpener1 hc ho) ?_
  rintro _ _ ⟨rfl, rfl⟩
  show tw_P L xs _ 64 25 [.ref 70, .int (nI op), .int (nI (ch p)), tw_U, tw_U, tw_U, tw_U] [.int (nI 1)] σ _
  refine tw_bzT (c := .ne) rfl (by rw [tw_cne, tw_neq (by omega) (by omega)] <;> omega) ?_
  show tw_P L xs _ 64 32 [.ref 70, .int (nI op), .int (nI (ch p)), tw_U, tw_U, tw_U, tw_U] [] σ _
  refine tw_sgn 7 (i1 := 39) (ls0 := [.ref 70, .int (nI op), .int (nI (ch p)), tw_U, tw_U, tw_U, tw_U]) (st0 := [.int (nI (ch p))]) (σ0 := (tw_upd σ 70 2 ((σ 70 2) + nI 1))) (ls1 := [.ref 70, .int (nI op), .int (nI (ch p)), tw_U, tw_U, tw_U, tw_U]) (st1 := [.int (nI (ch p))]) (σ1 := (tw_upd σ 70 2 (nI (p + 1)))) rfl (rfl) (rfl) (by simp only [h2, tw_nadd, tw_nmul]) ?_
  refine tw_cl1 rfl (rfl) (by omega) (tw_e_hasNumber1 hn) ?_
  rintro _ _ ⟨rfl, rfl⟩
  show tw_P L xs _ 64 40 [.ref 70, .int (nI op), .int (nI (ch p)), tw_U, tw_U, tw_U, tw_U] [.int (nI 1)] (tw_upd σ 70 2 (nI (p + 1))) _
  refine tw_bzF (c := .eq) rfl (by rw [tw_ceq', tw_neq (by omega) (by omega)] <;> omega) ?_
  show tw_P L xs _ 64 41 [.ref 70, .int (nI op), .int (nI (ch p)), tw_U, tw_U, tw_U, tw_U] [] (tw_upd σ 70 2 (nI (p + 1))) _
  refine tw_sg 2 (i1 := 43) (ls1 := [.ref 70, .int (nI op), .int (nI (ch p)), tw_U, tw_U, tw_U, tw_U]) (st1 := [.int (nI (ch p)), .ref 70]) (σ1 := (tw_upd σ 70 2 (nI (p + 1)))) rfl ?_
  refine tw_cl1 rfl (rfl) (by omega) (tw_e_num0 (p := p + 1) hC (by repeat (first | exact hT | refine tw_cT.upd ?_ (by omega) (by omega) (by omega))) tw_upd_at (by omega) hc hok (by repeat (first | exact tw_upd_at | assumption | rw [tw_upd_off (by omega)]))) ?_
  rintro _ τ ⟨rfl, rfl⟩
  show tw_P L xs _ 64 44 [.ref 70, .int (nI op), .int (nI (ch p)), tw_U, tw_U, tw_U, tw_U] [.int (nI (tw_nv ch (p + 1)))] (tw_upd (tw_upd (tw_upd σ 70 2 (nI (p + 1))) 70 2 (nI (p + 1 + tw_nl ch (p + 1)))) 70 3 (nI (p + 1))) _
  refine tw_sg 1 (i1 := 46) (ls1 := [.ref 70, .int (nI op), .int (nI (ch p)), tw_U, tw_U, tw_U, tw_U]) (st1 := [.int (nI (tw_nv ch (p + 1)))]) (σ1 := (tw_upd (tw_upd (tw_upd σ 70 2 (nI (p + 1))) 70 2 (nI (p + 1 + tw_nl ch (p + 1)))) 70 3 (nI (p + 1)))) rfl ?_
  exact tw_c46F (e := p + 1) hc (by repeat (first | exact tw_upd_at | assumption | rw [tw_upd_off (by omega)])) (by omega) (by repeat (first | exact tw_upd_at | assumption | rw [tw_upd_off (by omega)])) hnd (fun v τ h => ⟨h.1, h.2.1, tw_rF.tr (by repeat (first | exact tw_rF.rf | refine tw_rF.upd ?_ (by omega) | refine tw_rF.updc ?_ (by omega))) h.2.2⟩)
end tw_s65
