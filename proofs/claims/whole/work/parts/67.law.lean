/-! a law read by the reference: how it begins -/
section tw_s67
variable {L : Nat} {xs : Nat → Int32} {σ : tw_Mem} {x y w : Int32} {n r i c k h q a b e : Nat}
set_option maxHeartbeats 4000000 in
set_option maxRecDepth 100000 in
theorem tw_m_leaf {ch : Nat → Nat} {Q : Option Value → tw_Mem → Prop} {k f op nd p lv : Nat} (hC : tw_chs ch k) (hp : p ≤ 80) (hnd : nd < 80) (hS : tw_mS ch k σ p nd lv op) (hpk : p < k) (hl : tw_leaf (ch p)) : tw_P L xs (f + 5) 193 0 [.ref 88, tw_U, tw_U, tw_U, tw_U] [] σ (tw_mpO ch k σ nd (fun _ _ => ch p) (p + 1) (nd + 1) (lv + 1) op) := by
  obtain ⟨hT, h2, h3, hop, h4, h5⟩ := id hS
  rcases hl with e0 | e0 | e0 | e0
  · skip
    refine tw_sgn 2 (i1 := 2) (ls0 := [.ref 88, tw_U, tw_U, tw_U, tw_U]) (st0 := [.int (σ 88 19)]) (σ0 := σ) (ls1 := [.ref 88, tw_U, tw_U, tw_U, tw_U]) (st1 := [.int (-1)]) (σ1 := σ) rfl (rfl) (by simp only [h3, tw_nadd, tw_nmul]) (rfl) ?_
    refine tw_bzT (c := .lt) rfl (by rw [tw_clt] <;> (exact (by decide))) ?_
    show tw_P L xs _ 193 5 [.ref 88, tw_U, tw_U, tw_U, tw_U] [] σ _
    refine tw_sg 1 (i1 := 6) (ls1 := [.ref 88, tw_U, tw_U, tw_U, tw_U]) (st1 := [.ref 88]) (σ1 := σ) rfl ?_
    refine tw_cl1 rfl (rfl) (by omega) (tw_E_mono (tw_e_hre hC hT h2 (by omega)) (fun v σ1 h => (⟨h.1.trans (by rw [tw_hv1 (by omega), e0]), h.2⟩ : v = some (.int (nI 105)) ∧ σ = σ1))) ?_
    rintro _ _ ⟨rfl, rfl⟩
    show tw_P L xs _ 193 7 [.ref 88, tw_U, tw_U, tw_U, tw_U] [.int (nI 105)] σ _
    refine tw_sgn 6 (i1 := 13) (ls0 := [.ref 88, .int (nI 105), .int (σ 88 21), tw_U, tw_U]) (st0 := [.int (nI 105), .int (nI 105)]) (σ0 := σ) (ls1 := [.ref 88, .int (nI 105), .int (nI nd), tw_U, tw_U]) (st1 := [.int (nI 105), .int (nI 105)]) (σ1 := σ) rfl (by simp only [h4, tw_nadd, tw_nmul]) (rfl) (rfl) ?_
    refine tw_biT (c := .eq) rfl (by rw [tw_ceq, tw_neq (by omega) (by omega)] <;> omega) ?_
    show tw_P L xs _ 193 23 [.ref 88, .int (nI 105), .int (nI nd), tw_U, tw_U] [] σ _
    refine tw_sgn 16 (i1 := 39) (ls0 := [.ref 88, .int (nI 105), .int (nI nd), tw_U, tw_U]) (st0 := [.int (nI 105), .int (nI nd), .ref 104]) (σ0 := (tw_upd (tw_upd σ 88 21 ((σ 88 21) + nI 1)) 88 22 ((σ 88 22) + nI 1))) (ls1 := [.ref 88, .int (nI 105), .int (nI nd), tw_U, tw_U]) (st1 := [.int (nI 105), .int (nI nd), .ref 104]) (σ1 := (tw_upd (tw_upd σ 88 21 (nI (nd + 1))) 88 22 (nI (lv + 1)))) rfl (rfl) (rfl) (by simp only [h4, h5, tw_nadd, tw_nmul]) ?_
    refine tw_as (k := 104) (j := nd) (len := 80) rfl rfl rfl (rfl) (by omega) (by decide) ?_
    refine tw_sgn 7 (i1 := 47) (ls0 := [.ref 88, .int (nI 105), .int (nI nd), tw_U, tw_U]) (st0 := [.int (nI nd)]) (σ0 := (tw_upd (tw_upd (tw_upd (tw_upd σ 88 21 (nI (nd + 1))) 88 22 (nI (lv + 1))) 104 nd (nI 105)) 88 18 ((σ 88 18) + nI 1))) (ls1 := [.ref 88, .int (nI 105), .int (nI nd), tw_U, tw_U]) (st1 := [.int (nI nd)]) (σ1 := (tw_upd (tw_upd (tw_upd (tw_upd σ 88 21 (nI (nd + 1))) 88 22 (nI (lv + 1))) 104 nd (nI 105)) 88 18 (nI (p + 1)))) rfl (rfl) (rfl) (by simp only [h2, tw_nadd, tw_nmul]) ?_
    refine tw_ri rfl (rfl) ?_
    have ho : ¬ tw_oper (ch p) := by rw [e0]; unfold tw_oper tw_numd; omega
    refine ⟨rfl, ⟨by repeat (first | exact hT | refine tw_mT.upd ?_ (by omega) (by omega)), by repeat (first | exact tw_upd_at | assumption | rw [tw_upd_off (by omega)]), by repeat (first | exact tw_upd_at | assumption | rw [tw_upd_off (by omega)]), by repeat (first | exact tw_upd_at | assumption | rw [tw_upd_off (by omega)]), by repeat (first | exact tw_upd_at | assumption | rw [tw_upd_off (by omega)]), by repeat (first | exact tw_upd_at | assumption | rw [tw_upd_off (by omega)])⟩, by repeat (first | exact tw_mFr.rf | refine tw_mFr.upd ?_ (by omega)), by repeat (first | exact tw_lo.rf | refine tw_lo.upd ?_ (by omega)), fun j j1 j2 => ?_⟩
    have e : j = nd := by omega
    subst e
    exact ⟨by rw [e0]; repeat (first | exact tw_upd_at | rw [tw_upd_off (by omega)]), fun z => absurd z ho⟩
  · skip
    refine tw_sgn 2 (i1 := 2) (ls0 := [.ref 88, tw_U, tw_U, tw_U, tw_U]) (st0 := [.int (σ 88 19)]) (σ0 := σ) (ls1 := [.ref 88, tw_U, tw_U, tw_U, tw_U]) (st1 := [.int (-1)]) (σ1 := σ) rfl (rfl) (by simp only [h3, tw_nadd, tw_nmul]) (rfl) ?_
    refine tw_bzT (c := .lt) rfl (by rw [tw_clt] <;> (exact (by decide))) ?_
    show tw_P L xs _ 193 5 [.ref 88, tw_U, tw_U, tw_U, tw_U] [] σ _
    refine tw_sg 1 (i1 := 6) (ls1 := [.ref 88, tw_U, tw_U, tw_U, tw_U]) (st1 := [.ref 88]) (σ1 := σ) rfl ?_
    refine tw_cl1 rfl (rfl) (by omega) (tw_E_mono (tw_e_hre hC hT h2 (by omega)) (fun v σ1 h => (⟨h.1.trans (by rw [tw_hv1 (by omega), e0]), h.2⟩ : v = some (.int (nI 102)) ∧ σ = σ1))) ?_
    rintro _ _ ⟨rfl, rfl⟩
    show tw_P L xs _ 193 7 [.ref 88, tw_U, tw_U, tw_U, tw_U] [.int (nI 102)] σ _
    refine tw_sgn 6 (i1 := 13) (ls0 := [.ref 88, .int (nI 102), .int (σ 88 21), tw_U, tw_U]) (st0 := [.int (nI 105), .int (nI 102)]) (σ0 := σ) (ls1 := [.ref 88, .int (nI 102), .int (nI nd), tw_U, tw_U]) (st1 := [.int (nI 105), .int (nI 102)]) (σ1 := σ) rfl (by simp only [h4, tw_nadd, tw_nmul]) (rfl) (rfl) ?_
    refine tw_biF (c := .eq) rfl (by rw [tw_ceq', tw_neq (by omega) (by omega)] <;> omega) ?_
    show tw_P L xs _ 193 14 [.ref 88, .int (nI 102), .int (nI nd), tw_U, tw_U] [] σ _
    refine tw_sg 2 (i1 := 16) (ls1 := [.ref 88, .int (nI 102), .int (nI nd), tw_U, tw_U]) (st1 := [.int (nI 102), .int (nI 102)]) (σ1 := σ) rfl ?_
    refine tw_biT (c := .eq) rfl (by rw [tw_ceq, tw_neq (by omega) (by omega)] <;> omega) ?_
    show tw_P L xs _ 193 23 [.ref 88, .int (nI 102), .int (nI nd), tw_U, tw_U] [] σ _
    refine tw_sgn 16 (i1 := 39) (ls0 := [.ref 88, .int (nI 102), .int (nI nd), tw_U, tw_U]) (st0 := [.int (nI 102), .int (nI nd), .ref 104]) (σ0 := (tw_upd (tw_upd σ 88 21 ((σ 88 21) + nI 1)) 88 22 ((σ 88 22) + nI 1))) (ls1 := [.ref 88, .int (nI 102), .int (nI nd), tw_U, tw_U]) (st1 := [.int (nI 102), .int (nI nd), .ref 104]) (σ1 := (tw_upd (tw_upd σ 88 21 (nI (nd + 1))) 88 22 (nI (lv + 1)))) rfl (rfl) (rfl) (by simp only [h4, h5, tw_nadd, tw_nmul]) ?_
    refine tw_as (k := 104) (j := nd) (len := 80) rfl rfl rfl (rfl) (by omega) (by decide) ?_
    refine tw_sgn 7 (i1 := 47) (ls0 := [.ref 88, .int (nI 102), .int (nI nd), tw_U, tw_U]) (st0 := [.int (nI nd)]) (σ0 := (tw_upd (tw_upd (tw_upd (tw_upd σ 88 21 (nI (nd + 1))) 88 22 (nI (lv + 1))) 104 nd (nI 102)) 88 18 ((σ 88 18) + nI 1))) (ls1 := [.ref 88, .int (nI 102), .int (nI nd), tw_U, tw_U]) (st1 := [.int (nI nd)]) (σ1 := (tw_upd (tw_upd (tw_upd (tw_upd σ 88 21 (nI (nd + 1))) 88 22 (nI (lv + 1))) 104 nd (nI 102)) 88 18 (nI (p + 1)))) rfl (rfl) (rfl) (by simp only [h2, tw_nadd, tw_nmul]) ?_
    refine tw_ri rfl (rfl) ?_
    have ho : ¬ tw_oper (ch p) := by rw [e0]; unfold tw_oper tw_numd; omega
    refine ⟨rfl, ⟨by repeat (first | exact hT | refine tw_mT.upd ?_ (by omega) (by omega)), by repeat (first | exact tw_upd_at | assumption | rw [tw_upd_off (by omega)]), by repeat (first | exact tw_upd_at | assumption | rw [tw_upd_off (by omega)]), by repeat (first | exact tw_upd_at | assumption | rw [tw_upd_off (by omega)]), by repeat (first | exact tw_upd_at | assumption | rw [tw_upd_off (by omega)]), by repeat (first | exact tw_upd_at | assumption | rw [tw_upd_off (by omega)])⟩, by repeat (first | exact tw_mFr.rf | refine tw_mFr.upd ?_ (by omega)), by repeat (first | exact tw_lo.rf | refine tw_lo.upd ?_ (by omega)), fun j j1 j2 => ?_⟩
    have e : j = nd := by omega
    subst e
    exact ⟨by rw [e0]; repeat (first | exact tw_upd_at | rw [tw_upd_off (by omega)]), fun z => absurd z ho⟩
  · skip
    refine tw_sgn 2 (i1 := 2) (ls0 := [.ref 88, tw_U, tw_U, tw_U, tw_U]) (st0 := [.int (σ 88 19)]) (σ0 := σ) (ls1 := [.ref 88, tw_U, tw_U, tw_U, tw_U]) (st1 := [.int (-1)]) (σ1 := σ) rfl (rfl) (by simp only [h3, tw_nadd, tw_nmul]) (rfl) ?_
    refine tw_bzT (c := .lt) rfl (by rw [tw_clt] <;> (exact (by decide))) ?_
    show tw_P L xs _ 193 5 [.ref 88, tw_U, tw_U, tw_U, tw_U] [] σ _
    refine tw_sg 1 (i1 := 6) (ls1 := [.ref 88, tw_U, tw_U, tw_U, tw_U]) (st1 := [.ref 88]) (σ1 := σ) rfl ?_
    refine tw_cl1 rfl (rfl) (by omega) (tw_E_mono (tw_e_hre hC hT h2 (by omega)) (fun v σ1 h => (⟨h.1.trans (by rw [tw_hv1 (by omega), e0]), h.2⟩ : v = some (.int (nI 98)) ∧ σ = σ1))) ?_
    rintro _ _ ⟨rfl, rfl⟩
    show tw_P L xs _ 193 7 [.ref 88, tw_U, tw_U, tw_U, tw_U] [.int (nI 98)] σ _
    refine tw_sgn 6 (i1 := 13) (ls0 := [.ref 88, .int (nI 98), .int (σ 88 21), tw_U, tw_U]) (st0 := [.int (nI 105), .int (nI 98)]) (σ0 := σ) (ls1 := [.ref 88, .int (nI 98), .int (nI nd), tw_U, tw_U]) (st1 := [.int (nI 105), .int (nI 98)]) (σ1 := σ) rfl (by simp only [h4, tw_nadd, tw_nmul]) (rfl) (rfl) ?_
    refine tw_biF (c := .eq) rfl (by rw [tw_ceq', tw_neq (by omega) (by omega)] <;> omega) ?_
    show tw_P L xs _ 193 14 [.ref 88, .int (nI 98), .int (nI nd), tw_U, tw_U] [] σ _
    refine tw_sg 2 (i1 := 16) (ls1 := [.ref 88, .int (nI 98), .int (nI nd), tw_U, tw_U]) (st1 := [.int (nI 102), .int (nI 98)]) (σ1 := σ) rfl ?_
    refine tw_biF (c := .eq) rfl (by rw [tw_ceq', tw_neq (by omega) (by omega)] <;> omega) ?_
    show tw_P L xs _ 193 17 [.ref 88, .int (nI 98), .int (nI nd), tw_U, tw_U] [] σ _
    refine tw_sg 2 (i1 := 19) (ls1 := [.ref 88, .int (nI 98), .int (nI nd), tw_U, tw_U]) (st1 := [.int (nI 98), .int (nI 98)]) (σ1 := σ) rfl ?_
    refine tw_biT (c := .eq) rfl (by rw [tw_ceq, tw_neq (by omega) (by omega)] <;> omega) ?_
    show tw_P L xs _ 193 23 [.ref 88, .int (nI 98), .int (nI nd), tw_U, tw_U] [] σ _
    refine tw_sgn 16 (i1 := 39) (ls0 := [.ref 88, .int (nI 98), .int (nI nd), tw_U, tw_U]) (st0 := [.int (nI 98), .int (nI nd), .ref 104]) (σ0 := (tw_upd (tw_upd σ 88 21 ((σ 88 21) + nI 1)) 88 22 ((σ 88 22) + nI 1))) (ls1 := [.ref 88, .int (nI 98), .int (nI nd), tw_U, tw_U]) (st1 := [.int (nI 98), .int (nI nd), .ref 104]) (σ1 := (tw_upd (tw_upd σ 88 21 (nI (nd + 1))) 88 22 (nI (lv + 1)))) rfl (rfl) (rfl) (by simp only [h4, h5, tw_nadd, tw_nmul]) ?_
    refine tw_as (k := 104) (j := nd) (len := 80) rfl rfl rfl (rfl) (by omega) (by decide) ?_
    refine tw_sgn 7 (i1 := 47) (ls0 := [.ref 88, .int (nI 98), .int (nI nd), tw_U, tw_U]) (st0 := [.int (nI nd)]) (σ0 := (tw_upd (tw_upd (tw_upd (tw_upd σ 88 21 (nI (nd + 1))) 88 22 (nI (lv + 1))) 104 nd (nI 98)) 88 18 ((σ 88 18) + nI 1))) (ls1 := [.ref 88, .int (nI 98), .int (nI nd), tw_U, tw_U]) (st1 := [.int (nI nd)]) (σ1 := (tw_upd (tw_upd (tw_upd (tw_upd σ 88 21 (nI (nd + 1))) 88 22 (nI (lv + 1))) 104 nd (nI 98)) 88 18 (nI (p + 1)))) rfl (rfl) (rfl) (by simp only [h2, tw_nadd, tw_nmul]) ?_
    refine tw_ri rfl (rfl) ?_
    have ho : ¬ tw_oper (ch p) := by rw [e0]; unfold tw_oper tw_numd; omega
    refine ⟨rfl, ⟨by repeat (first | exact hT | refine tw_mT.upd ?_ (by omega) (by omega)), by repeat (first | exact tw_upd_at | assumption | rw [tw_upd_off (by omega)]), by repeat (first | exact tw_upd_at | assumption | rw [tw_upd_off (by omega)]), by repeat (first | exact tw_upd_at | assumption | rw [tw_upd_off (by omega)]), by repeat (first | exact tw_upd_at | assumption | rw [tw_upd_off (by omega)]), by repeat (first | exact tw_upd_at | assumption | rw [tw_upd_off (by omega)])⟩, by repeat (first | exact tw_mFr.rf | refine tw_mFr.upd ?_ (by omega)), by repeat (first | exact tw_lo.rf | refine tw_lo.upd ?_ (by omega)), fun j j1 j2 => ?_⟩
    have e : j = nd := by omega
    subst e
    exact ⟨by rw [e0]; repeat (first | exact tw_upd_at | rw [tw_upd_off (by omega)]), fun z => absurd z ho⟩
  · skip
    refine tw_sgn 2 (i1 := 2) (ls0 := [.ref 88, tw_U, tw_U, tw_U, tw_U]) (st0 := [.int (σ 88 19)]) (σ0 := σ) (ls1 := [.ref 88, tw_U, tw_U, tw_U, tw_U]) (st1 := [.int (-1)]) (σ1 := σ) rfl (rfl) (by simp only [h3, tw_nadd, tw_nmul]) (rfl) ?_
    refine tw_bzT (c := .lt) rfl (by rw [tw_clt] <;> (exact (by decide))) ?_
    show tw_P L xs _ 193 5 [.ref 88, tw_U, tw_U, tw_U, tw_U] [] σ _
    refine tw_sg 1 (i1 := 6) (ls1 := [.ref 88, tw_U, tw_U, tw_U, tw_U]) (st1 := [.ref 88]) (σ1 := σ) rfl ?_
    refine tw_cl1 rfl (rfl) (by omega) (tw_E_mono (tw_e_hre hC hT h2 (by omega)) (fun v σ1 h => (⟨h.1.trans (by rw [tw_hv1 (by omega), e0]), h.2⟩ : v = some (.int (nI 104)) ∧ σ = σ1))) ?_
    rintro _ _ ⟨rfl, rfl⟩
    show tw_P L xs _ 193 7 [.ref 88, tw_U, tw_U, tw_U, tw_U] [.int (nI 104)] σ _
    refine tw_sgn 6 (i1 := 13) (ls0 := [.ref 88, .int (nI 104), .int (σ 88 21), tw_U, tw_U]) (st0 := [.int (nI 105), .int (nI 104)]) (σ0 := σ) (ls1 := [.ref 88, .int (nI 104), .int (nI nd), tw_U, tw_U]) (st1 := [.int (nI 105), .int (nI 104)]) (σ1 := σ) rfl (by simp only [h4, tw_nadd, tw_nmul]) (rfl) (rfl) ?_
    refine tw_biF (c := .eq) rfl (by rw [tw_ceq', tw_neq (by omega) (by omega)] <;> omega) ?_
    show tw_P L xs _ 193 14 [.ref 88, .int (nI 104), .int (nI nd), tw_U, tw_U] [] σ _
    refine tw_sg 2 (i1 := 16) (ls1 := [.ref 88, .int (nI 104), .int (nI nd), tw_U, tw_U]) (st1 := [.int (nI 102), .int (nI 104)]) (σ1 := σ) rfl ?_
    refine tw_biF (c := .eq) rfl (by rw [tw_ceq', tw_neq (by omega) (by omega)] <;> omega) ?_
    show tw_P L xs _ 193 17 [.ref 88, .int (nI 104), .int (nI nd), tw_U, tw_U] [] σ _
    refine tw_sg 2 (i1 := 19) (ls1 := [.ref 88, .int (nI 104), .int (nI nd), tw_U, tw_U]) (st1 := [.int (nI 98), .int (nI 104)]) (σ1 := σ) rfl ?_
    refine tw_biF (c := .eq) rfl (by rw [tw_ceq', tw_neq (by omega) (by omega)] <;> omega) ?_
    show tw_P L xs _ 193 20 [.ref 88, .int (nI 104), .int (nI nd), tw_U, tw_U] [] σ _
    refine tw_sg 2 (i1 := 22) (ls1 := [.ref 88, .int (nI 104), .int (nI nd), tw_U, tw_U]) (st1 := [.int (nI 104), .int (nI 104)]) (σ1 := σ) rfl ?_
    refine tw_biF (c := .ne) rfl (by rw [tw_cne', tw_neq (by omega) (by omega)] <;> omega) ?_
    show tw_P L xs _ 193 23 [.ref 88, .int (nI 104), .int (nI nd), tw_U, tw_U] [] σ _
    refine tw_sgn 16 (i1 := 39) (ls0 := [.ref 88, .int (nI 104), .int (nI nd), tw_U, tw_U]) (st0 := [.int (nI 104), .int (nI nd), .ref 104]) (σ0 := (tw_upd (tw_upd σ 88 21 ((σ 88 21) + nI 1)) 88 22 ((σ 88 22) + nI 1))) (ls1 := [.ref 88, .int (nI 104), .int (nI nd), tw_U, tw_U]) (st1 := [.int (nI 104), .int (nI nd), .ref 104]) (σ1 := (tw_upd (tw_upd σ 88 21 (nI (nd + 1))) 88 22 (nI (lv + 1)))) rfl (rfl) (rfl) (by simp only [h4, h5, tw_nadd, tw_nmul]) ?_
    refine tw_as (k := 104) (j := nd) (len := 80) rfl rfl rfl (rfl) (by omega) (by decide) ?_
    refine tw_sgn 7 (i1 := 47) (ls0 := [.ref 88, .int (nI 104), .int (nI nd), tw_U, tw_U]) (st0 := [.int (nI nd)]) (σ0 := (tw_upd (tw_upd (tw_upd (tw_upd σ 88 21 (nI (nd + 1))) 88 22 (nI (lv + 1))) 104 nd (nI 104)) 88 18 ((σ 88 18) + nI 1))) (ls1 := [.ref 88, .int (nI 104), .int (nI nd), tw_U, tw_U]) (st1 := [.int (nI nd)]) (σ1 := (tw_upd (tw_upd (tw_upd (tw_upd σ 88 21 (nI (nd + 1))) 88 22 (nI (lv + 1))) 104 nd (nI 104)) 88 18 (nI (p + 1)))) rfl (rfl) (rfl) (by simp only [h2, tw_nadd, tw_nmul]) ?_
    refine tw_ri rfl (rfl) ?_
    have ho : ¬ tw_oper (ch p) := by rw [e0]; unfold tw_oper tw_numd; omega
    refine ⟨rfl, ⟨by repeat (first | exact hT | refine tw_mT.upd ?_ (by omega) (by omega)), by repeat (first | exact tw_upd_at | assumption | rw [tw_upd_off (by omega)]), by repeat (first | exact tw_upd_at | assumption | rw [tw_upd_off (by omega)]), by repeat (first | exact tw_upd_at | assumption | rw [tw_upd_off (by omega)]), by repeat (first | exact tw_upd_at | assumption | rw [tw_upd_off (by omega)]), by repeat (first | exact tw_upd_at | assumption | rw [tw_upd_off (by omega)])⟩, by repeat (first | exact tw_mFr.rf | refine tw_mFr.upd ?_ (by omega)), by repeat (first | exact tw_lo.rf | refine tw_lo.upd ?_ (by omega)), fun j j1 j2 => ?_⟩
    have e : j = nd := by omega
    subst e
    exact ⟨by rw [e0]; repeat (first | exact tw_upd_at | rw [tw_upd_off (by omega)]), fun z => absurd z ho⟩
set_option maxHeartbeats 4000000 in
set_option maxRecDepth 100000 in
theorem tw_m_badL {ch : Nat → Nat} {Q : Option Value → tw_Mem → Prop} {k f op nd p lv : Nat} (hC : tw_chs ch k) (hp : p ≤ 80) (hS : tw_mS ch k σ p nd lv op) (hl : ¬ tw_leaf (ch p)) (ho : ¬ tw_oper (ch p)) : tw_P L xs (f + 5) 193 0 [.ref 88, tw_U, tw_U, tw_U, tw_U] [] σ (tw_mpF p σ) := by
  obtain ⟨hT, h2, h3, hop, h4, h5⟩ := id hS
  unfold tw_leaf at hl
  unfold tw_oper tw_numd at ho
  refine tw_sgn 2 (i1 := 2) (ls0 := [.ref 88, tw_U, tw_U, tw_U, tw_U]) (st0 := [.int (σ 88 19)]) (σ0 := σ) (ls1 := [.ref 88, tw_U, tw_U, tw_U, tw_U]) (st1 := [.int (-1)]) (σ1 := σ) rfl (rfl) (by simp only [h3, tw_nadd, tw_nmul]) (rfl) ?_
  refine tw_bzT (c := .lt) rfl (by rw [tw_clt] <;> (exact (by decide))) ?_
  show tw_P L xs _ 193 5 [.ref 88, tw_U, tw_U, tw_U, tw_U] [] σ _
  refine tw_sg 1 (i1 := 6) (ls1 := [.ref 88, tw_U, tw_U, tw_U, tw_U]) (st1 := [.ref 88]) (σ1 := σ) rfl ?_
  refine tw_cl1 rfl (rfl) (by omega) (tw_e_hre hC hT h2 (by omega)) ?_
  rintro _ _ ⟨rfl, rfl⟩
  show tw_P L xs _ 193 7 [.ref 88, tw_U, tw_U, tw_U, tw_U] [.int (tw_hv ch p)] σ _
  refine tw_sgn 6 (i1 := 13) (ls0 := [.ref 88, .int (tw_hv ch p), .int (σ 88 21), tw_U, tw_U]) (st0 := [.int (nI 105), .int (tw_hv ch p)]) (σ0 := σ) (ls1 := [.ref 88, .int (tw_hv ch p), .int (nI nd), tw_U, tw_U]) (st1 := [.int (nI 105), .int (tw_hv ch p)]) (σ1 := σ) rfl (by simp only [h4, tw_nadd, tw_nmul]) (rfl) (rfl) ?_
  refine tw_biF (c := .eq) rfl (by rw [tw_ceq'] <;> (exact (tw_hvne hC (by decide) (by omega)))) ?_
  show tw_P L xs _ 193 14 [.ref 88, .int (tw_hv ch p), .int (nI nd), tw_U, tw_U] [] σ _
  refine tw_sg 2 (i1 := 16) (ls1 := [.ref 88, .int (tw_hv ch p), .int (nI nd), tw_U, tw_U]) (st1 := [.int (nI 102), .int (tw_hv ch p)]) (σ1 := σ) rfl ?_
  refine tw_biF (c := .eq) rfl (by rw [tw_ceq'] <;> (exact (tw_hvne hC (by decide) (by omega)))) ?_
  show tw_P L xs _ 193 17 [.ref 88, .int (tw_hv ch p), .int (nI nd), tw_U, tw_U] [] σ _
  refine tw_sg 2 (i1 := 19) (ls1 := [.ref 88, .int (tw_hv ch p), .int (nI nd), tw_U, tw_U]) (st1 := [.int (nI 98), .int (tw_hv ch p)]) (σ1 := σ) rfl ?_
  refine tw_biF (c := .eq) rfl (by rw [tw_ceq'] <;> (exact (tw_hvne hC (by decide) (by omega)))) ?_
  show tw_P L xs _ 193 20 [.ref 88, .int (tw_hv ch p), .int (nI nd), tw_U, tw_U] [] σ _
  refine tw_sg 2 (i1 := 22) (ls1 := [.ref 88, .int (tw_hv ch p), .int (nI nd), tw_U, tw_U]) (st1 := [.int (nI 104), .int (tw_hv ch p)]) (σ1 := σ) rfl ?_
  refine tw_biT (c := .ne) rfl (by rw [tw_cne] <;> (exact (tw_hvne hC (by decide) (by omega)))) ?_
  show tw_P L xs _ 193 48 [.ref 88, .int (tw_hv ch p), .int (nI nd), tw_U, tw_U] [] σ _
  refine tw_sg 2 (i1 := 50) (ls1 := [.ref 88, .int (tw_hv ch p), .int (nI nd), tw_U, tw_U]) (st1 := [.int (nI 107), .int (tw_hv ch p)]) (σ1 := σ) rfl ?_
  refine tw_biF (c := .eq) rfl (by rw [tw_ceq'] <;> (exact (tw_hvne hC (by decide) (by omega)))) ?_
  show tw_P L xs _ 193 51 [.ref 88, .int (tw_hv ch p), .int (nI nd), tw_U, tw_U] [] σ _
  refine tw_sg 2 (i1 := 53) (ls1 := [.ref 88, .int (tw_hv ch p), .int (nI nd), tw_U, tw_U]) (st1 := [.int (nI 99), .int (tw_hv ch p)]) (σ1 := σ) rfl ?_
  refine tw_biF (c := .eq) rfl (by rw [tw_ceq'] <;> (exact (tw_hvne hC (by decide) (by omega)))) ?_
  show tw_P L xs _ 193 54 [.ref 88, .int (tw_hv ch p), .int (nI nd), tw_U, tw_U] [] σ _
  refine tw_sg 2 (i1 := 56) (ls1 := [.ref 88, .int (tw_hv ch p), .int (nI nd), tw_U, tw_U]) (st1 := [.int (nI 120), .int (tw_hv ch p)]) (σ1 := σ) rfl ?_
  refine tw_biF (c := .eq) rfl (by rw [tw_ceq'] <;> (exact (tw_hvne hC (by decide) (by omega)))) ?_
  show tw_P L xs _ 193 57 [.ref 88, .int (tw_hv ch p), .int (nI nd), tw_U, tw_U] [] σ _
  refine tw_sg 2 (i1 := 59) (ls1 := [.ref 88, .int (tw_hv ch p), .int (nI nd), tw_U, tw_U]) (st1 := [.int (nI 115), .int (tw_hv ch p)]) (σ1 := σ) rfl ?_
  refine tw_biT (c := .ne) rfl (by rw [tw_cne] <;> (exact (tw_hvne hC (by decide) (by omega)))) ?_
  show tw_P L xs _ 193 62 [.ref 88, .int (tw_hv ch p), .int (nI nd), tw_U, tw_U] [] σ _
  refine tw_sg 4 (i1 := 66) (ls1 := [.ref 88, .int (tw_hv ch p), .int (nI nd), .int (nI 0), tw_U]) (st1 := [.int (nI 115), .int (tw_hv ch p)]) (σ1 := σ) rfl ?_
  refine tw_biF (c := .eq) rfl (by rw [tw_ceq'] <;> (exact (tw_hvne hC (by decide) (by omega)))) ?_
  show tw_P L xs _ 193 67 [.ref 88, .int (tw_hv ch p), .int (nI nd), .int (nI 0), tw_U] [] σ _
  refine tw_sg 2 (i1 := 69) (ls1 := [.ref 88, .int (tw_hv ch p), .int (nI nd), .int (nI 0), tw_U]) (st1 := [.int (nI 100), .int (tw_hv ch p)]) (σ1 := σ) rfl ?_
  refine tw_biF (c := .eq) rfl (by rw [tw_ceq'] <;> (exact (tw_hvne hC (by decide) (by omega)))) ?_
  show tw_P L xs _ 193 70 [.ref 88, .int (tw_hv ch p), .int (nI nd), .int (nI 0), tw_U] [] σ _
  refine tw_sg 2 (i1 := 72) (ls1 := [.ref 88, .int (tw_hv ch p), .int (nI nd), .int (nI 0), tw_U]) (st1 := [.int (nI 114), .int (tw_hv ch p)]) (σ1 := σ) rfl ?_
  refine tw_biF (c := .eq) rfl (by rw [tw_ceq'] <;> (exact (tw_hvne hC (by decide) (by omega)))) ?_
  show tw_P L xs _ 193 73 [.ref 88, .int (tw_hv ch p), .int (nI nd), .int (nI 0), tw_U] [] σ _
  refine tw_sg 2 (i1 := 75) (ls1 := [.ref 88, .int (tw_hv ch p), .int (nI nd), .int (nI 0), tw_U]) (st1 := [.int (nI 109), .int (tw_hv ch p)]) (σ1 := σ) rfl ?_
  refine tw_biT (c := .ne) rfl (by rw [tw_cne] <;> (exact (tw_hvne hC (by decide) (by omega)))) ?_
  show tw_P L xs _ 193 78 [.ref 88, .int (tw_hv ch p), .int (nI nd), .int (nI 0), tw_U] [] σ _
  refine tw_sg 3 (i1 := 81) (ls1 := [.ref 88, .int (tw_hv ch p), .int (nI nd), .int (nI 0), .int (nI 0)]) (st1 := [.int (nI 0)]) (σ1 := σ) rfl ?_
  refine tw_bzF (c := .ne) rfl (by rw [tw_cne', tw_neq (by omega) (by omega)] <;> omega) ?_
  show tw_P L xs _ 193 82 [.ref 88, .int (tw_hv ch p), .int (nI nd), .int (nI 0), .int (nI 0)] [] σ _
  refine tw_sg 1 (i1 := 83) (ls1 := [.ref 88, .int (tw_hv ch p), .int (nI nd), .int (nI 0), .int (nI 0)]) (st1 := [.int (nI 0)]) (σ1 := σ) rfl ?_
  refine tw_bzF (c := .ne) rfl (by rw [tw_cne', tw_neq (by omega) (by omega)] <;> omega) ?_
  show tw_P L xs _ 193 84 [.ref 88, .int (tw_hv ch p), .int (nI nd), .int (nI 0), .int (nI 0)] [] σ _
  refine tw_sg 2 (i1 := 86) (ls1 := [.ref 88, .int (tw_hv ch p), .int (nI nd), .int (nI 0), .int (nI 0)]) (st1 := [.int (nI 116), .int (tw_hv ch p)]) (σ1 := σ) rfl ?_
  refine tw_biT (c := .ne) rfl (by rw [tw_cne] <;> (exact (tw_hvne hC (by decide) (by omega)))) ?_
  show tw_P L xs _ 193 91 [.ref 88, .int (tw_hv ch p), .int (nI nd), .int (nI 0), .int (nI 0)] [] σ _
  refine tw_sgn 3 (i1 := 94) (ls0 := [.ref 88, .int (tw_hv ch p), .int (nI nd), .int (nI 0), .int (nI 0)]) (st0 := [.int (σ 88 18), .ref 88]) (σ0 := σ) (ls1 := [.ref 88, .int (tw_hv ch p), .int (nI nd), .int (nI 0), .int (nI 0)]) (st1 := [.int (nI p), .ref 88]) (σ1 := σ) rfl (rfl) (by simp only [h2, tw_nadd, tw_nmul]) (rfl) ?_
  refine tw_cl0 1 rfl (rfl) (by omega) ?_
  show tw_P L xs _ 190 0 [.ref 88, .int (nI p)] [] σ _
  refine tw_sgn 2 (i1 := 2) (ls0 := [.ref 88, .int (nI p)]) (st0 := [.int (σ 88 19)]) (σ0 := σ) (ls1 := [.ref 88, .int (nI p)]) (st1 := [.int (-1)]) (σ1 := σ) rfl (rfl) (by simp only [h3, tw_nadd, tw_nmul]) (rfl) ?_
  refine tw_bzF (c := .ge) rfl (by rw [tw_cge'] <;> (exact tw_not_le.mpr (by decide))) ?_
  show tw_P L xs _ 190 3 [.ref 88, .int (nI p)] [] σ _
  refine tw_sg 3 (i1 := 6) (ls1 := [.ref 88, .int (nI p)]) (st1 := []) (σ1 := (tw_upd σ 88 19 (nI p))) rfl ?_
  refine tw_rv rfl ?_
  show tw_P L xs _ 193 95 [.ref 88, .int (tw_hv ch p), .int (nI nd), .int (nI 0), .int (nI 0)] [] (tw_upd σ 88 19 (nI p)) _
  refine tw_sg 1 (i1 := 96) (ls1 := [.ref 88, .int (tw_hv ch p), .int (nI nd), .int (nI 0), .int (nI 0)]) (st1 := [.int (nI 0)]) (σ1 := (tw_upd σ 88 19 (nI p))) rfl ?_
  refine tw_ri rfl (rfl) ?_
  exact ⟨⟨_, rfl⟩, by repeat (first | exact tw_upd_at | assumption | rw [tw_upd_off (by omega)]), by repeat (first | exact tw_mFr.rf | refine tw_mFr.upd ?_ (by omega))⟩
set_option maxHeartbeats 4000000 in
set_option maxRecDepth 100000 in
theorem tw_m_bad6 {ch : Nat → Nat} {Q : Option Value → tw_Mem → Prop} {k f nd p lv : Nat} (hC : tw_chs ch k) (hp : p ≤ 80) (hS : tw_mS ch k σ p nd lv 6) (ho : tw_oper (ch p)) : tw_P L xs (f + 5) 193 0 [.ref 88, tw_U, tw_U, tw_U, tw_U] [] σ (tw_mpF p σ) := by
  obtain ⟨hT, h2, h3, hop, h4, h5⟩ := id hS
  rcases (show ch p = 107 ∨ ch p = 99 ∨ ch p = 120 ∨ ch p = 115 ∨ ch p = 100 ∨ ch p = 114 ∨ ch p = 109 ∨ ch p = 116 by unfold tw_oper tw_numd at ho; omega) with e0 | e0 | e0 | e0 | e0 | e0 | e0 | e0
  · skip
    refine tw_sgn 2 (i1 := 2) (ls0 := [.ref 88, tw_U, tw_U, tw_U, tw_U]) (st0 := [.int (σ 88 19)]) (σ0 := σ) (ls1 := [.ref 88, tw_U, tw_U, tw_U, tw_U]) (st1 := [.int (-1)]) (σ1 := σ) rfl (rfl) (by simp only [h3, tw_nadd, tw_nmul]) (rfl) ?_
    refine tw_bzT (c := .lt) rfl (by rw [tw_clt] <;> (exact (by decide))) ?_
    show tw_P L xs _ 193 5 [.ref 88, tw_U, tw_U, tw_U, tw_U] [] σ _
    refine tw_sg 1 (i1 := 6) (ls1 := [.ref 88, tw_U, tw_U, tw_U, tw_U]) (st1 := [.ref 88]) (σ1 := σ) rfl ?_
    refine tw_cl1 rfl (rfl) (by omega) (tw_E_mono (tw_e_hre hC hT h2 (by omega)) (fun v σ1 h => (⟨h.1.trans (by rw [tw_hv1 (by omega), e0]), h.2⟩ : v = some (.int (nI 107)) ∧ σ = σ1))) ?_
    rintro _ _ ⟨rfl, rfl⟩
    show tw_P L xs _ 193 7 [.ref 88, tw_U, tw_U, tw_U, tw_U] [.int (nI 107)] σ _
    refine tw_sgn 6 (i1 := 13) (ls0 := [.ref 88, .int (nI 107), .int (σ 88 21), tw_U, tw_U]) (st0 := [.int (nI 105), .int (nI 107)]) (σ0 := σ) (ls1 := [.ref 88, .int (nI 107), .int (nI nd), tw_U, tw_U]) (st1 := [.int (nI 105), .int (nI 107)]) (σ1 := σ) rfl (by simp only [h4, tw_nadd, tw_nmul]) (rfl) (rfl) ?_
    refine tw_biF (c := .eq) rfl (by rw [tw_ceq', tw_neq (by omega) (by omega)] <;> omega) ?_
    show tw_P L xs _ 193 14 [.ref 88, .int (nI 107), .int (nI nd), tw_U, tw_U] [] σ _
    refine tw_sg 2 (i1 := 16) (ls1 := [.ref 88, .int (nI 107), .int (nI nd), tw_U, tw_U]) (st1 := [.int (nI 102), .int (nI 107)]) (σ1 := σ) rfl ?_
    refine tw_biF (c := .eq) rfl (by rw [tw_ceq', tw_neq (by omega) (by omega)] <;> omega) ?_
    show tw_P L xs _ 193 17 [.ref 88, .int (nI 107), .int (nI nd), tw_U, tw_U] [] σ _
    refine tw_sg 2 (i1 := 19) (ls1 := [.ref 88, .int (nI 107), .int (nI nd), tw_U, tw_U]) (st1 := [.int (nI 98), .int (nI 107)]) (σ1 := σ) rfl ?_
    refine tw_biF (c := .eq) rfl (by rw [tw_ceq', tw_neq (by omega) (by omega)] <;> omega) ?_
    show tw_P L xs _ 193 20 [.ref 88, .int (nI 107), .int (nI nd), tw_U, tw_U] [] σ _
    refine tw_sg 2 (i1 := 22) (ls1 := [.ref 88, .int (nI 107), .int (nI nd), tw_U, tw_U]) (st1 := [.int (nI 104), .int (nI 107)]) (σ1 := σ) rfl ?_
    refine tw_biT (c := .ne) rfl (by rw [tw_cne, tw_neq (by omega) (by omega)] <;> omega) ?_
    show tw_P L xs _ 193 48 [.ref 88, .int (nI 107), .int (nI nd), tw_U, tw_U] [] σ _
    refine tw_sg 2 (i1 := 50) (ls1 := [.ref 88, .int (nI 107), .int (nI nd), tw_U, tw_U]) (st1 := [.int (nI 107), .int (nI 107)]) (σ1 := σ) rfl ?_
    refine tw_biT (c := .eq) rfl (by rw [tw_ceq, tw_neq (by omega) (by omega)] <;> omega) ?_
    show tw_P L xs _ 193 60 [.ref 88, .int (nI 107), .int (nI nd), tw_U, tw_U] [] σ _
    refine tw_sg 5 (i1 := 66) (ls1 := [.ref 88, .int (nI 107), .int (nI nd), .int (nI 1), tw_U]) (st1 := [.int (nI 115), .int (nI 107)]) (σ1 := σ) rfl ?_
    refine tw_biF (c := .eq) rfl (by rw [tw_ceq', tw_neq (by omega) (by omega)] <;> omega) ?_
    show tw_P L xs _ 193 67 [.ref 88, .int (nI 107), .int (nI nd), .int (nI 1), tw_U] [] σ _
    refine tw_sg 2 (i1 := 69) (ls1 := [.ref 88, .int (nI 107), .int (nI nd), .int (nI 1), tw_U]) (st1 := [.int (nI 100), .int (nI 107)]) (σ1 := σ) rfl ?_
    refine tw_biF (c := .eq) rfl (by rw [tw_ceq', tw_neq (by omega) (by omega)] <;> omega) ?_
    show tw_P L xs _ 193 70 [.ref 88, .int (nI 107), .int (nI nd), .int (nI 1), tw_U] [] σ _
    refine tw_sg 2 (i1 := 72) (ls1 := [.ref 88, .int (nI 107), .int (nI nd), .int (nI 1), tw_U]) (st1 := [.int (nI 114), .int (nI 107)]) (σ1 := σ) rfl ?_
    refine tw_biF (c := .eq) rfl (by rw [tw_ceq', tw_neq (by omega) (by omega)] <;> omega) ?_
    show tw_P L xs _ 193 73 [.ref 88, .int (nI 107), .int (nI nd), .int (nI 1), tw_U] [] σ _
    refine tw_sg 2 (i1 := 75) (ls1 := [.ref 88, .int (nI 107), .int (nI nd), .int (nI 1), tw_U]) (st1 := [.int (nI 109), .int (nI 107)]) (σ1 := σ) rfl ?_
    refine tw_biT (c := .ne) rfl (by rw [tw_cne, tw_neq (by omega) (by omega)] <;> omega) ?_
    show tw_P L xs _ 193 78 [.ref 88, .int (nI 107), .int (nI nd), .int (nI 1), tw_U] [] σ _
    refine tw_sg 3 (i1 := 81) (ls1 := [.ref 88, .int (nI 107), .int (nI nd), .int (nI 1), .int (nI 0)]) (st1 := [.int (nI 1)]) (σ1 := σ) rfl ?_
    refine tw_bzT (c := .ne) rfl (by rw [tw_cne, tw_neq (by omega) (by omega)] <;> omega) ?_
    show tw_P L xs _ 193 87 [.ref 88, .int (nI 107), .int (nI nd), .int (nI 1), .int (nI 0)] [] σ _
    refine tw_sgn 3 (i1 := 90) (ls0 := [.ref 88, .int (nI 107), .int (nI nd), .int (nI 1), .int (nI 0)]) (st0 := [.int (nI 6), .int (σ 88 20)]) (σ0 := σ) (ls1 := [.ref 88, .int (nI 107), .int (nI nd), .int (nI 1), .int (nI 0)]) (st1 := [.int (nI 6), .int (nI 6)]) (σ1 := σ) rfl (rfl) (by simp only [hop, tw_nadd, tw_nmul]) (rfl) ?_
    refine tw_biF (c := .ne) rfl (by rw [tw_cne', tw_neq (by omega) (by omega)] <;> omega) ?_
    show tw_P L xs _ 193 91 [.ref 88, .int (nI 107), .int (nI nd), .int (nI 1), .int (nI 0)] [] σ _
    refine tw_sgn 3 (i1 := 94) (ls0 := [.ref 88, .int (nI 107), .int (nI nd), .int (nI 1), .int (nI 0)]) (st0 := [.int (σ 88 18), .ref 88]) (σ0 := σ) (ls1 := [.ref 88, .int (nI 107), .int (nI nd), .int (nI 1), .int (nI 0)]) (st1 := [.int (nI p), .ref 88]) (σ1 := σ) rfl (rfl) (by simp only [h2, tw_nadd, tw_nmul]) (rfl) ?_
    refine tw_cl0 1 rfl (rfl) (by omega) ?_
    show tw_P L xs _ 190 0 [.ref 88, .int (nI p)] [] σ _
    refine tw_sgn 2 (i1 := 2) (ls0 := [.ref 88, .int (nI p)]) (st0 := [.int (σ 88 19)]) (σ0 := σ) (ls1 := [.ref 88, .int (nI p)]) (st1 := [.int (-1)]) (σ1 := σ) rfl (rfl) (by simp only [h3, tw_nadd, tw_nmul]) (rfl) ?_
    refine tw_bzF (c := .ge) rfl (by rw [tw_cge'] <;> (exact tw_not_le.mpr (by decide))) ?_
    show tw_P L xs _ 190 3 [.ref 88, .int (nI p)] [] σ _
    refine tw_sg 3 (i1 := 6) (ls1 := [.ref 88, .int (nI p)]) (st1 := []) (σ1 := (tw_upd σ 88 19 (nI p))) rfl ?_
    refine tw_rv rfl ?_
    show tw_P L xs _ 193 95 [.ref 88, .int (nI 107), .int (nI nd), .int (nI 1), .int (nI 0)] [] (tw_upd σ 88 19 (nI p)) _
    refine tw_sg 1 (i1 := 96) (ls1 := [.ref 88, .int (nI 107), .int (nI nd), .int (nI 1), .int (nI 0)]) (st1 := [.int (nI 0)]) (σ1 := (tw_upd σ 88 19 (nI p))) rfl ?_
    refine tw_ri rfl (rfl) ?_
    exact ⟨⟨_, rfl⟩, by repeat (first | exact tw_upd_at | assumption | rw [tw_upd_off (by omega)]), by repeat (first | exact tw_mFr.rf | refine tw_mFr.upd ?_ (by omega))⟩
  · skip
    refine tw_sgn 2 (i1 := 2) (ls0 := [.ref 88, tw_U, tw_U, tw_U, tw_U]) (st0 := [.int (σ 88 19)]) (σ0 := σ) (ls1 := [.ref 88, tw_U, tw_U, tw_U, tw_U]) (st1 := [.int (-1)]) (σ1 := σ) rfl (rfl) (by simp only [h3, tw_nadd, tw_nmul]) (rfl) ?_
    refine tw_bzT (c := .lt) rfl (by rw [tw_clt] <;> (exact (by decide))) ?_
    show tw_P L xs _ 193 5 [.ref 88, tw_U, tw_U, tw_U, tw_U] [] σ _
    refine tw_sg 1 (i1 := 6) (ls1 := [.ref 88, tw_U, tw_U, tw_U, tw_U]) (st1 := [.ref 88]) (σ1 := σ) rfl ?_
    refine tw_cl1 rfl (rfl) (by omega) (tw_E_mono (tw_e_hre hC hT h2 (by omega)) (fun v σ1 h => (⟨h.1.trans (by rw [tw_hv1 (by omega), e0]), h.2⟩ : v = some (.int (nI 99)) ∧ σ = σ1))) ?_
    rintro _ _ ⟨rfl, rfl⟩
    show tw_P L xs _ 193 7 [.ref 88, tw_U, tw_U, tw_U, tw_U] [.int (nI 99)] σ _
    refine tw_sgn 6 (i1 := 13) (ls0 := [.ref 88, .int (nI 99), .int (σ 88 21), tw_U, tw_U]) (st0 := [.int (nI 105), .int (nI 99)]) (σ0 := σ) (ls1 := [.ref 88, .int (nI 99), .int (nI nd), tw_U, tw_U]) (st1 := [.int (nI 105), .int (nI 99)]) (σ1 := σ) rfl (by simp only [h4, tw_nadd, tw_nmul]) (rfl) (rfl) ?_
    refine tw_biF (c := .eq) rfl (by rw [tw_ceq', tw_neq (by omega) (by omega)] <;> omega) ?_
    show tw_P L xs _ 193 14 [.ref 88, .int (nI 99), .int (nI nd), tw_U, tw_U] [] σ _
    refine tw_sg 2 (i1 := 16) (ls1 := [.ref 88, .int (nI 99), .int (nI nd), tw_U, tw_U]) (st1 := [.int (nI 102), .int (nI 99)]) (σ1 := σ) rfl ?_
    refine tw_biF (c := .eq) rfl (by rw [tw_ceq', tw_neq (by omega) (by omega)] <;> omega) ?_
    show tw_P L xs _ 193 17 [.ref 88, .int (nI 99), .int (nI nd), tw_U, tw_U] [] σ _
    refine tw_sg 2 (i1 := 19) (ls1 := [.ref 88, .int (nI 99), .int (nI nd), tw_U, tw_U]) (st1 := [.int (nI 98), .int (nI 99)]) (σ1 := σ) rfl ?_
    refine tw_biF (c := .eq) rfl (by rw [tw_ceq', tw_neq (by omega) (by omega)] <;> omega) ?_
    show tw_P L xs _ 193 20 [.ref 88, .int (nI 99), .int (nI nd), tw_U, tw_U] [] σ _
    refine tw_sg 2 (i1 := 22) (ls1 := [.ref 88, .int (nI 99), .int (nI nd), tw_U, tw_U]) (st1 := [.int (nI 104), .int (nI 99)]) (σ1 := σ) rfl ?_
    refine tw_biT (c := .ne) rfl (by rw [tw_cne, tw_neq (by omega) (by omega)] <;> omega) ?_
    show tw_P L xs _ 193 48 [.ref 88, .int (nI 99), .int (nI nd), tw_U, tw_U] [] σ _
    refine tw_sg 2 (i1 := 50) (ls1 := [.ref 88, .int (nI 99), .int (nI nd), tw_U, tw_U]) (st1 := [.int (nI 107), .int (nI 99)]) (σ1 := σ) rfl ?_
    refine tw_biF (c := .eq) rfl (by rw [tw_ceq', tw_neq (by omega) (by omega)] <;> omega) ?_
    show tw_P L xs _ 193 51 [.ref 88, .int (nI 99), .int (nI nd), tw_U, tw_U] [] σ _
    refine tw_sg 2 (i1 := 53) (ls1 := [.ref 88, .int (nI 99), .int (nI nd), tw_U, tw_U]) (st1 := [.int (nI 99), .int (nI 99)]) (σ1 := σ) rfl ?_
    refine tw_biT (c := .eq) rfl (by rw [tw_ceq, tw_neq (by omega) (by omega)] <;> omega) ?_
    show tw_P L xs _ 193 60 [.ref 88, .int (nI 99), .int (nI nd), tw_U, tw_U] [] σ _
    refine tw_sg 5 (i1 := 66) (ls1 := [.ref 88, .int (nI 99), .int (nI nd), .int (nI 1), tw_U]) (st1 := [.int (nI 115), .int (nI 99)]) (σ1 := σ) rfl ?_
    refine tw_biF (c := .eq) rfl (by rw [tw_ceq', tw_neq (by omega) (by omega)] <;> omega) ?_
    show tw_P L xs _ 193 67 [.ref 88, .int (nI 99), .int (nI nd), .int (nI 1), tw_U] [] σ _
    refine tw_sg 2 (i1 := 69) (ls1 := [.ref 88, .int (nI 99), .int (nI nd), .int (nI 1), tw_U]) (st1 := [.int (nI 100), .int (nI 99)]) (σ1 := σ) rfl ?_
    refine tw_biF (c := .eq) rfl (by rw [tw_ceq', tw_neq (by omega) (by omega)] <;> omega) ?_
    show tw_P L xs _ 193 70 [.ref 88, .int (nI 99), .int (nI nd), .int (nI 1), tw_U] [] σ _
    refine tw_sg 2 (i1 := 72) (ls1 := [.ref 88, .int (nI 99), .int (nI nd), .int (nI 1), tw_U]) (st1 := [.int (nI 114), .int (nI 99)]) (σ1 := σ) rfl ?_
    refine tw_biF (c := .eq) rfl (by rw [tw_ceq', tw_neq (by omega) (by omega)] <;> omega) ?_
    show tw_P L xs _ 193 73 [.ref 88, .int (nI 99), .int (nI nd), .int (nI 1), tw_U] [] σ _
    refine tw_sg 2 (i1 := 75) (ls1 := [.ref 88, .int (nI 99), .int (nI nd), .int (nI 1), tw_U]) (st1 := [.int (nI 109), .int (nI 99)]) (σ1 := σ) rfl ?_
    refine tw_biT (c := .ne) rfl (by rw [tw_cne, tw_neq (by omega) (by omega)] <;> omega) ?_
    show tw_P L xs _ 193 78 [.ref 88, .int (nI 99), .int (nI nd), .int (nI 1), tw_U] [] σ _
    refine tw_sg 3 (i1 := 81) (ls1 := [.ref 88, .int (nI 99), .int (nI nd), .int (nI 1), .int (nI 0)]) (st1 := [.int (nI 1)]) (σ1 := σ) rfl ?_
    refine tw_bzT (c := .ne) rfl (by rw [tw_cne, tw_neq (by omega) (by omega)] <;> omega) ?_
    show tw_P L xs _ 193 87 [.ref 88, .int (nI 99), .int (nI nd), .int (nI 1), .int (nI 0)] [] σ _
    refine tw_sgn 3 (i1 := 90) (ls0 := [.ref 88, .int (nI 99), .int (nI nd), .int (nI 1), .int (nI 0)]) (st0 := [.int (nI 6), .int (σ 88 20)]) (σ0 := σ) (ls1 := [.ref 88, .int (nI 99), .int (nI nd), .int (nI 1), .int (nI 0)]) (st1 := [.int (nI 6), .int (nI 6)]) (σ1 := σ) rfl (rfl) (by simp only [hop, tw_nadd, tw_nmul]) (rfl) ?_
    refine tw_biF (c := .ne) rfl (by rw [tw_cne', tw_neq (by omega) (by omega)] <;> omega) ?_
    show tw_P L xs _ 193 91 [.ref 88, .int (nI 99), .int (nI nd), .int (nI 1), .int (nI 0)] [] σ _
    refine tw_sgn 3 (i1 := 94) (ls0 := [.ref 88, .int (nI 99), .int (nI nd), .int (nI 1), .int (nI 0)]) (st0 := [.int (σ 88 18), .ref 88]) (σ0 := σ) (ls1 := [.ref 88, .int (nI 99), .int (nI nd), .int (nI 1), .int (nI 0)]) (st1 := [.int (nI p), .ref 88]) (σ1 := σ) rfl (rfl) (by simp only [h2, tw_nadd, tw_nmul]) (rfl) ?_
    refine tw_cl0 1 rfl (rfl) (by omega) ?_
    show tw_P L xs _ 190 0 [.ref 88, .int (nI p)] [] σ _
    refine tw_sgn 2 (i1 := 2) (ls0 := [.ref 88, .int (nI p)]) (st0 := [.int (σ 88 19)]) (σ0 := σ) (ls1 := [.ref 88, .int (nI p)]) (st1 := [.int (-1)]) (σ1 := σ) rfl (rfl) (by simp only [h3, tw_nadd, tw_nmul]) (rfl) ?_
    refine tw_bzF (c := .ge) rfl (by rw [tw_cge'] <;> (exact tw_not_le.mpr (by decide))) ?_
    show tw_P L xs _ 190 3 [.ref 88, .int (nI p)] [] σ _
    refine tw_sg 3 (i1 := 6) (ls1 := [.ref 88, .int (nI p)]) (st1 := []) (σ1 := (tw_upd σ 88 19 (nI p))) rfl ?_
    refine tw_rv rfl ?_
    show tw_P L xs _ 193 95 [.ref 88, .int (nI 99), .int (nI nd), .int (nI 1), .int (nI 0)] [] (tw_upd σ 88 19 (nI p)) _
    refine tw_sg 1 (i1 := 96) (ls1 := [.ref 88, .int (nI 99), .int (nI nd), .int (nI 1), .int (nI 0)]) (st1 := [.int (nI 0)]) (σ1 := (tw_upd σ 88 19 (nI p))) rfl ?_
    refine tw_ri rfl (rfl) ?_
    exact ⟨⟨_, rfl⟩, by repeat (first | exact tw_upd_at | assumption | rw [tw_upd_off (by omega)]), by repeat (first | exact tw_mFr.rf | refine tw_mFr.upd ?_ (by omega))⟩
  · skip
    refine tw_sgn 2 (i1 := 2) (ls0 := [.ref 88, tw_U, tw_U, tw_U, tw_U]) (st0 := [.int (σ 88 19)]) (σ0 := σ) (ls1 := [.ref 88, tw_U, tw_U, tw_U, tw_U]) (st1 := [.int (-1)]) (σ1 := σ) rfl (rfl) (by simp only [h3, tw_nadd, tw_nmul]) (rfl) ?_
    refine tw_bzT (c := .lt) rfl (by rw [tw_clt] <;> (exact (by decide))) ?_
    show tw_P L xs _ 193 5 [.ref 88, tw_U, tw_U, tw_U, tw_U] [] σ _
    refine tw_sg 1 (i1 := 6) (ls1 := [.ref 88, tw_U, tw_U, tw_U, tw_U]) (st1 := [.ref 88]) (σ1 := σ) rfl ?_
    refine tw_cl1 rfl (rfl) (by omega) (tw_E_mono (tw_e_hre hC hT h2 (by omega)) (fun v σ1 h => (⟨h.1.trans (by rw [tw_hv1 (by omega), e0]), h.2⟩ : v = some (.int (nI 120)) ∧ σ = σ1))) ?_
    rintro _ _ ⟨rfl, rfl⟩
    show tw_P L xs _ 193 7 [.ref 88, tw_U, tw_U, tw_U, tw_U] [.int (nI 120)] σ _
    refine tw_sgn 6 (i1 := 13) (ls0 := [.ref 88, .int (nI 120), .int (σ 88 21), tw_U, tw_U]) (st0 := [.int (nI 105), .int (nI 120)]) (σ0 := σ) (ls1 := [.ref 88, .int (nI 120), .int (nI nd), tw_U, tw_U]) (st1 := [.int (nI 105), .int (nI 120)]) (σ1 := σ) rfl (by simp only [h4, tw_nadd, tw_nmul]) (rfl) (rfl) ?_
    refine tw_biF (c := .eq) rfl (by rw [tw_ceq', tw_neq (by omega) (by omega)] <;> omega) ?_
    show tw_P L xs _ 193 14 [.ref 88, .int (nI 120), .int (nI nd), tw_U, tw_U] [] σ _
    refine tw_sg 2 (i1 := 16) (ls1 := [.ref 88, .int (nI 120), .int (nI nd), tw_U, tw_U]) (st1 := [.int (nI 102), .int (nI 120)]) (σ1 := σ) rfl ?_
    refine tw_biF (c := .eq) rfl (by rw [tw_ceq', tw_neq (by omega) (by omega)] <;> omega) ?_
    show tw_P L xs _ 193 17 [.ref 88, .int (nI 120), .int (nI nd), tw_U, tw_U] [] σ _
    refine tw_sg 2 (i1 := 19) (ls1 := [.ref 88, .int (nI 120), .int (nI nd), tw_U, tw_U]) (st1 := [.int (nI 98), .int (nI 120)]) (σ1 := σ) rfl ?_
    refine tw_biF (c := .eq) rfl (by rw [tw_ceq', tw_neq (by omega) (by omega)] <;> omega) ?_
    show tw_P L xs _ 193 20 [.ref 88, .int (nI 120), .int (nI nd), tw_U, tw_U] [] σ _
    refine tw_sg 2 (i1 := 22) (ls1 := [.ref 88, .int (nI 120), .int (nI nd), tw_U, tw_U]) (st1 := [.int (nI 104), .int (nI 120)]) (σ1 := σ) rfl ?_
    refine tw_biT (c := .ne) rfl (by rw [tw_cne, tw_neq (by omega) (by omega)] <;> omega) ?_
    show tw_P L xs _ 193 48 [.ref 88, .int (nI 120), .int (nI nd), tw_U, tw_U] [] σ _
    refine tw_sg 2 (i1 := 50) (ls1 := [.ref 88, .int (nI 120), .int (nI nd), tw_U, tw_U]) (st1 := [.int (nI 107), .int (nI 120)]) (σ1 := σ) rfl ?_
    refine tw_biF (c := .eq) rfl (by rw [tw_ceq', tw_neq (by omega) (by omega)] <;> omega) ?_
    show tw_P L xs _ 193 51 [.ref 88, .int (nI 120), .int (nI nd), tw_U, tw_U] [] σ _
    refine tw_sg 2 (i1 := 53) (ls1 := [.ref 88, .int (nI 120), .int (nI nd), tw_U, tw_U]) (st1 := [.int (nI 99), .int (nI 120)]) (σ1 := σ) rfl ?_
    refine tw_biF (c := .eq) rfl (by rw [tw_ceq', tw_neq (by omega) (by omega)] <;> omega) ?_
    show tw_P L xs _ 193 54 [.ref 88, .int (nI 120), .int (nI nd), tw_U, tw_U] [] σ _
    refine tw_sg 2 (i1 := 56) (ls1 := [.ref 88, .int (nI 120), .int (nI nd), tw_U, tw_U]) (st1 := [.int (nI 120), .int (nI 120)]) (σ1 := σ) rfl ?_
    refine tw_biT (c := .eq) rfl (by rw [tw_ceq, tw_neq (by omega) (by omega)] <;> omega) ?_
    show tw_P L xs _ 193 60 [.ref 88, .int (nI 120), .int (nI nd), tw_U, tw_U] [] σ _
    refine tw_sg 5 (i1 := 66) (ls1 := [.ref 88, .int (nI 120), .int (nI nd), .int (nI 1), tw_U]) (st1 := [.int (nI 115), .int (nI 120)]) (σ1 := σ) rfl ?_
    refine tw_biF (c := .eq) rfl (by rw [tw_ceq', tw_neq (by omega) (by omega)] <;> omega) ?_
    show tw_P L xs _ 193 67 [.ref 88, .int (nI 120), .int (nI nd), .int (nI 1), tw_U] [] σ _
    refine tw_sg 2 (i1 := 69) (ls1 := [.ref 88, .int (nI 120), .int (nI nd), .int (nI 1), tw_U]) (st1 := [.int (nI 100), .int (nI 120)]) (σ1 := σ) rfl ?_
    refine tw_biF (c := .eq) rfl (by rw [tw_ceq', tw_neq (by omega) (by omega)] <;> omega) ?_
    show tw_P L xs _ 193 70 [.ref 88, .int (nI 120), .int (nI nd), .int (nI 1), tw_U] [] σ _
    refine tw_sg 2 (i1 := 72) (ls1 := [.ref 88, .int (nI 120), .int (nI nd), .int (nI 1), tw_U]) (st1 := [.int (nI 114), .int (nI 120)]) (σ1 := σ) rfl ?_
    refine tw_biF (c := .eq) rfl (by rw [tw_ceq', tw_neq (by omega) (by omega)] <;> omega) ?_
    show tw_P L xs _ 193 73 [.ref 88, .int (nI 120), .int (nI nd), .int (nI 1), tw_U] [] σ _
    refine tw_sg 2 (i1 := 75) (ls1 := [.ref 88, .int (nI 120), .int (nI nd), .int (nI 1), tw_U]) (st1 := [.int (nI 109), .int (nI 120)]) (σ1 := σ) rfl ?_
    refine tw_biT (c := .ne) rfl (by rw [tw_cne, tw_neq (by omega) (by omega)] <;> omega) ?_
    show tw_P L xs _ 193 78 [.ref 88, .int (nI 120), .int (nI nd), .int (nI 1), tw_U] [] σ _
    refine tw_sg 3 (i1 := 81) (ls1 := [.ref 88, .int (nI 120), .int (nI nd), .int (nI 1), .int (nI 0)]) (st1 := [.int (nI 1)]) (σ1 := σ) rfl ?_
    refine tw_bzT (c := .ne) rfl (by rw [tw_cne, tw_neq (by omega) (by omega)] <;> omega) ?_
    show tw_P L xs _ 193 87 [.ref 88, .int (nI 120), .int (nI nd), .int (nI 1), .int (nI 0)] [] σ _
    refine tw_sgn 3 (i1 := 90) (ls0 := [.ref 88, .int (nI 120), .int (nI nd), .int (nI 1), .int (nI 0)]) (st0 := [.int (nI 6), .int (σ 88 20)]) (σ0 := σ) (ls1 := [.ref 88, .int (nI 120), .int (nI nd), .int (nI 1), .int (nI 0)]) (st1 := [.int (nI 6), .int (nI 6)]) (σ1 := σ) rfl (rfl) (by simp only [hop, tw_nadd, tw_nmul]) (rfl) ?_
    refine tw_biF (c := .ne) rfl (by rw [tw_cne', tw_neq (by omega) (by omega)] <;> omega) ?_
    show tw_P L xs _ 193 91 [.ref 88, .int (nI 120), .int (nI nd), .int (nI 1), .int (nI 0)] [] σ _
    refine tw_sgn 3 (i1 := 94) (ls0 := [.ref 88, .int (nI 120), .int (nI nd), .int (nI 1), .int (nI 0)]) (st0 := [.int (σ 88 18), .ref 88]) (σ0 := σ) (ls1 := [.ref 88, .int (nI 120), .int (nI nd), .int (nI 1), .int (nI 0)]) (st1 := [.int (nI p), .ref 88]) (σ1 := σ) rfl (rfl) (by simp only [h2, tw_nadd, tw_nmul]) (rfl) ?_
    refine tw_cl0 1 rfl (rfl) (by omega) ?_
    show tw_P L xs _ 190 0 [.ref 88, .int (nI p)] [] σ _
    refine tw_sgn 2 (i1 := 2) (ls0 := [.ref 88, .int (nI p)]) (st0 := [.int (σ 88 19)]) (σ0 := σ) (ls1 := [.ref 88, .int (nI p)]) (st1 := [.int (-1)]) (σ1 := σ) rfl (rfl) (by simp only [h3, tw_nadd, tw_nmul]) (rfl) ?_
    refine tw_bzF (c := .ge) rfl (by rw [tw_cge'] <;> (exact tw_not_le.mpr (by decide))) ?_
    show tw_P L xs _ 190 3 [.ref 88, .int (nI p)] [] σ _
    refine tw_sg 3 (i1 := 6) (ls1 := [.ref 88, .int (nI p)]) (st1 := []) (σ1 := (tw_upd σ 88 19 (nI p))) rfl ?_
    refine tw_rv rfl ?_
    show tw_P L xs _ 193 95 [.ref 88, .int (nI 120), .int (nI nd), .int (nI 1), .int (nI 0)] [] (tw_upd σ 88 19 (nI p)) _
    refine tw_sg 1 (i1 := 96) (ls1 := [.ref 88, .int (nI 120), .int (nI nd), .int (nI 1), .int (nI 0)]) (st1 := [.int (nI 0)]) (σ1 := (tw_upd σ 88 19 (nI p))) rfl ?_
    refine tw_ri rfl (rfl) ?_
    exact ⟨⟨_, rfl⟩, by repeat (first | exact tw_upd_at | assumption | rw [tw_upd_off (by omega)]), by repeat (first | exact tw_mFr.rf | refine tw_mFr.upd ?_ (by omega))⟩
  · skip
    refine tw_sgn 2 (i1 := 2) (ls0 := [.ref 88, tw_U, tw_U, tw_U, tw_U]) (st0 := [.int (σ 88 19)]) (σ0 := σ) (ls1 := [.ref 88, tw_U, tw_U, tw_U, tw_U]) (st1 := [.int (-1)]) (σ1 := σ) rfl (rfl) (by simp only [h3, tw_nadd, tw_nmul]) (rfl) ?_
    refine tw_bzT (c := .lt) rfl (by rw [tw_clt] <;> (exact (by decide))) ?_
    show tw_P L xs _ 193 5 [.ref 88, tw_U, tw_U, tw_U, tw_U] [] σ _
    refine tw_sg 1 (i1 := 6) (ls1 := [.ref 88, tw_U, tw_U, tw_U, tw_U]) (st1 := [.ref 88]) (σ1 := σ) rfl ?_
    refine tw_cl1 rfl (rfl) (by omega) (tw_E_mono (tw_e_hre hC hT h2 (by omega)) (fun v σ1 h => (⟨h.1.trans (by rw [tw_hv1 (by omega), e0]), h.2⟩ : v = some (.int (nI 115)) ∧ σ = σ1))) ?_
    rintro _ _ ⟨rfl, rfl⟩
    show tw_P L xs _ 193 7 [.ref 88, tw_U, tw_U, tw_U, tw_U] [.int (nI 115)] σ _
    refine tw_sgn 6 (i1 := 13) (ls0 := [.ref 88, .int (nI 115), .int (σ 88 21), tw_U, tw_U]) (st0 := [.int (nI 105), .int (nI 115)]) (σ0 := σ) (ls1 := [.ref 88, .int (nI 115), .int (nI nd), tw_U, tw_U]) (st1 := [.int (nI 105), .int (nI 115)]) (σ1 := σ) rfl (by simp only [h4, tw_nadd, tw_nmul]) (rfl) (rfl) ?_
    refine tw_biF (c := .eq) rfl (by rw [tw_ceq', tw_neq (by omega) (by omega)] <;> omega) ?_
    show tw_P L xs _ 193 14 [.ref 88, .int (nI 115), .int (nI nd), tw_U, tw_U] [] σ _
    refine tw_sg 2 (i1 := 16) (ls1 := [.ref 88, .int (nI 115), .int (nI nd), tw_U, tw_U]) (st1 := [.int (nI 102), .int (nI 115)]) (σ1 := σ) rfl ?_
    refine tw_biF (c := .eq) rfl (by rw [tw_ceq', tw_neq (by omega) (by omega)] <;> omega) ?_
    show tw_P L xs _ 193 17 [.ref 88, .int (nI 115), .int (nI nd), tw_U, tw_U] [] σ _
    refine tw_sg 2 (i1 := 19) (ls1 := [.ref 88, .int (nI 115), .int (nI nd), tw_U, tw_U]) (st1 := [.int (nI 98), .int (nI 115)]) (σ1 := σ) rfl ?_
    refine tw_biF (c := .eq) rfl (by rw [tw_ceq', tw_neq (by omega) (by omega)] <;> omega) ?_
    show tw_P L xs _ 193 20 [.ref 88, .int (nI 115), .int (nI nd), tw_U, tw_U] [] σ _
    refine tw_sg 2 (i1 := 22) (ls1 := [.ref 88, .int (nI 115), .int (nI nd), tw_U, tw_U]) (st1 := [.int (nI 104), .int (nI 115)]) (σ1 := σ) rfl ?_
    refine tw_biT (c := .ne) rfl (by rw [tw_cne, tw_neq (by omega) (by omega)] <;> omega) ?_
    show tw_P L xs _ 193 48 [.ref 88, .int (nI 115), .int (nI nd), tw_U, tw_U] [] σ _
    refine tw_sg 2 (i1 := 50) (ls1 := [.ref 88, .int (nI 115), .int (nI nd), tw_U, tw_U]) (st1 := [.int (nI 107), .int (nI 115)]) (σ1 := σ) rfl ?_
    refine tw_biF (c := .eq) rfl (by rw [tw_ceq', tw_neq (by omega) (by omega)] <;> omega) ?_
    show tw_P L xs _ 193 51 [.ref 88, .int (nI 115), .int (nI nd), tw_U, tw_U] [] σ _
    refine tw_sg 2 (i1 := 53) (ls1 := [.ref 88, .int (nI 115), .int (nI nd), tw_U, tw_U]) (st1 := [.int (nI 99), .int (nI 115)]) (σ1 := σ) rfl ?_
    refine tw_biF (c := .eq) rfl (by rw [tw_ceq', tw_neq (by omega) (by omega)] <;> omega) ?_
    show tw_P L xs _ 193 54 [.ref 88, .int (nI 115), .int (nI nd), tw_U, tw_U] [] σ _
    refine tw_sg 2 (i1 := 56) (ls1 := [.ref 88, .int (nI 115), .int (nI nd), tw_U, tw_U]) (st1 := [.int (nI 120), .int (nI 115)]) (σ1 := σ) rfl ?_
    refine tw_biF (c := .eq) rfl (by rw [tw_ceq', tw_neq (by omega) (by omega)] <;> omega) ?_
    show tw_P L xs _ 193 57 [.ref 88, .int (nI 115), .int (nI nd), tw_U, tw_U] [] σ _
    refine tw_sg 2 (i1 := 59) (ls1 := [.ref 88, .int (nI 115), .int (nI nd), tw_U, tw_U]) (st1 := [.int (nI 115), .int (nI 115)]) (σ1 := σ) rfl ?_
    refine tw_biF (c := .ne) rfl (by rw [tw_cne', tw_neq (by omega) (by omega)] <;> omega) ?_
    show tw_P L xs _ 193 60 [.ref 88, .int (nI 115), .int (nI nd), tw_U, tw_U] [] σ _
    refine tw_sg 5 (i1 := 66) (ls1 := [.ref 88, .int (nI 115), .int (nI nd), .int (nI 1), tw_U]) (st1 := [.int (nI 115), .int (nI 115)]) (σ1 := σ) rfl ?_
    refine tw_biT (c := .eq) rfl (by rw [tw_ceq, tw_neq (by omega) (by omega)] <;> omega) ?_
    show tw_P L xs _ 193 76 [.ref 88, .int (nI 115), .int (nI nd), .int (nI 1), tw_U] [] σ _
    refine tw_sg 4 (i1 := 81) (ls1 := [.ref 88, .int (nI 115), .int (nI nd), .int (nI 1), .int (nI 1)]) (st1 := [.int (nI 1)]) (σ1 := σ) rfl ?_
    refine tw_bzT (c := .ne) rfl (by rw [tw_cne, tw_neq (by omega) (by omega)] <;> omega) ?_
    show tw_P L xs _ 193 87 [.ref 88, .int (nI 115), .int (nI nd), .int (nI 1), .int (nI 1)] [] σ _
    refine tw_sgn 3 (i1 := 90) (ls0 := [.ref 88, .int (nI 115), .int (nI nd), .int (nI 1), .int (nI 1)]) (st0 := [.int (nI 6), .int (σ 88 20)]) (σ0 := σ) (ls1 := [.ref 88, .int (nI 115), .int (nI nd), .int (nI 1), .int (nI 1)]) (st1 := [.int (nI 6), .int (nI 6)]) (σ1 := σ) rfl (rfl) (by simp only [hop, tw_nadd, tw_nmul]) (rfl) ?_
    refine tw_biF (c := .ne) rfl (by rw [tw_cne', tw_neq (by omega) (by omega)] <;> omega) ?_
    show tw_P L xs _ 193 91 [.ref 88, .int (nI 115), .int (nI nd), .int (nI 1), .int (nI 1)] [] σ _
    refine tw_sgn 3 (i1 := 94) (ls0 := [.ref 88, .int (nI 115), .int (nI nd), .int (nI 1), .int (nI 1)]) (st0 := [.int (σ 88 18), .ref 88]) (σ0 := σ) (ls1 := [.ref 88, .int (nI 115), .int (nI nd), .int (nI 1), .int (nI 1)]) (st1 := [.int (nI p), .ref 88]) (σ1 := σ) rfl (rfl) (by simp only [h2, tw_nadd, tw_nmul]) (rfl) ?_
    refine tw_cl0 1 rfl (rfl) (by omega) ?_
    show tw_P L xs _ 190 0 [.ref 88, .int (nI p)] [] σ _
    refine tw_sgn 2 (i1 := 2) (ls0 := [.ref 88, .int (nI p)]) (st0 := [.int (σ 88 19)]) (σ0 := σ) (ls1 := [.ref 88, .int (nI p)]) (st1 := [.int (-1)]) (σ1 := σ) rfl (rfl) (by simp only [h3, tw_nadd, tw_nmul]) (rfl) ?_
    refine tw_bzF (c := .ge) rfl (by rw [tw_cge'] <;> (exact tw_not_le.mpr (by decide))) ?_
    show tw_P L xs _ 190 3 [.ref 88, .int (nI p)] [] σ _
    refine tw_sg 3 (i1 := 6) (ls1 := [.ref 88, .int (nI p)]) (st1 := []) (σ1 := (tw_upd σ 88 19 (nI p))) rfl ?_
    refine tw_rv rfl ?_
    show tw_P L xs _ 193 95 [.ref 88, .int (nI 115), .int (nI nd), .int (nI 1), .int (nI 1)] [] (tw_upd σ 88 19 (nI p)) _
    refine tw_sg 1 (i1 := 96) (ls1 := [.ref 88, .int (nI 115), .int (nI nd), .int (nI 1), .int (nI 1)]) (st1 := [.int (nI 0)]) (σ1 := (tw_upd σ 88 19 (nI p))) rfl ?_
    refine tw_ri rfl (rfl) ?_
    exact ⟨⟨_, rfl⟩, by repeat (first | exact tw_upd_at | assumption | rw [tw_upd_off (by omega)]), by repeat (first | exact tw_mFr.rf | refine tw_mFr.upd ?_ (by omega))⟩
  · skip
    refine tw_sgn 2 (i1 := 2) (ls0 := [.ref 88, tw_U, tw_U, tw_U, tw_U]) (st0 := [.int (σ 88 19)]) (σ0 := σ) (ls1 := [.ref 88, tw_U, tw_U, tw_U, tw_U]) (st1 := [.int (-1)]) (σ1 := σ) rfl (rfl) (by simp only [h3, tw_nadd, tw_nmul]) (rfl) ?_
    refine tw_bzT (c := .lt) rfl (by rw [tw_clt] <;> (exact (by decide))) ?_
    show tw_P L xs _ 193 5 [.ref 88, tw_U, tw_U, tw_U, tw_U] [] σ _
    refine tw_sg 1 (i1 := 6) (ls1 := [.ref 88, tw_U, tw_U, tw_U, tw_U]) (st1 := [.ref 88]) (σ1 := σ) rfl ?_
    refine tw_cl1 rfl (rfl) (by omega) (tw_E_mono (tw_e_hre hC hT h2 (by omega)) (fun v σ1 h => (⟨h.1.trans (by rw [tw_hv1 (by omega), e0]), h.2⟩ : v = some (.int (nI 100)) ∧ σ = σ1))) ?_
    rintro _ _ ⟨rfl, rfl⟩
    show tw_P L xs _ 193 7 [.ref 88, tw_U, tw_U, tw_U, tw_U] [.int (nI 100)] σ _
    refine tw_sgn 6 (i1 := 13) (ls0 := [.ref 88, .int (nI 100), .int (σ 88 21), tw_U, tw_U]) (st0 := [.int (nI 105), .int (nI 100)]) (σ0 := σ) (ls1 := [.ref 88, .int (nI 100), .int (nI nd), tw_U, tw_U]) (st1 := [.int (nI 105), .int (nI 100)]) (σ1 := σ) rfl (by simp only [h4, tw_nadd, tw_nmul]) (rfl) (rfl) ?_
    refine tw_biF (c := .eq) rfl (by rw [tw_ceq', tw_neq (by omega) (by omega)] <;> omega) ?_
    show tw_P L xs _ 193 14 [.ref 88, .int (nI 100), .int (nI nd), tw_U, tw_U] [] σ _
    refine tw_sg 2 (i1 := 16) (ls1 := [.ref 88, .int (nI 100), .int (nI nd), tw_U, tw_U]) (st1 := [.int (nI 102), .int (nI 100)]) (σ1 := σ) rfl ?_
    refine tw_biF (c := .eq) rfl (by rw [tw_ceq', tw_neq (by omega) (by omega)] <;> omega) ?_
    show tw_P L xs _ 193 17 [.ref 88, .int (nI 100), .int (nI nd), tw_U, tw_U] [] σ _
    refine tw_sg 2 (i1 := 19) (ls1 := [.ref 88, .int (nI 100), .int (nI nd), tw_U, tw_U]) (st1 := [.int (nI 98), .int (nI 100)]) (σ1 := σ) rfl ?_
    refine tw_biF (c := .eq) rfl (by rw [tw_ceq', tw_neq (by omega) (by omega)] <;> omega) ?_
    show tw_P L xs _ 193 20 [.ref 88, .int (nI 100), .int (nI nd), tw_U, tw_U] [] σ _
    refine tw_sg 2 (i1 := 22) (ls1 := [.ref 88, .int (nI 100), .int (nI nd), tw_U, tw_U]) (st1 := [.int (nI 104), .int (nI 100)]) (σ1 := σ) rfl ?_
    refine tw_biT (c := .ne) rfl (by rw [tw_cne, tw_neq (by omega) (by omega)] <;> omega) ?_
    show tw_P L xs _ 193 48 [.ref 88, .int (nI 100), .int (nI nd), tw_U, tw_U] [] σ _
    refine tw_sg 2 (i1 := 50) (ls1 := [.ref 88, .int (nI 100), .int (nI nd), tw_U, tw_U]) (st1 := [.int (nI 107), .int (nI 100)]) (σ1 := σ) rfl ?_
    refine tw_biF (c := .eq) rfl (by rw [tw_ceq', tw_neq (by omega) (by omega)] <;> omega) ?_
    show tw_P L xs _ 193 51 [.ref 88, .int (nI 100), .int (nI nd), tw_U, tw_U] [] σ _
    refine tw_sg 2 (i1 := 53) (ls1 := [.ref 88, .int (nI 100), .int (nI nd), tw_U, tw_U]) (st1 := [.int (nI 99), .int (nI 100)]) (σ1 := σ) rfl ?_
    refine tw_biF (c := .eq) rfl (by rw [tw_ceq', tw_neq (by omega) (by omega)] <;> omega) ?_
    show tw_P L xs _ 193 54 [.ref 88, .int (nI 100), .int (nI nd), tw_U, tw_U] [] σ _
    refine tw_sg 2 (i1 := 56) (ls1 := [.ref 88, .int (nI 100), .int (nI nd), tw_U, tw_U]) (st1 := [.int (nI 120), .int (nI 100)]) (σ1 := σ) rfl ?_
    refine tw_biF (c := .eq) rfl (by rw [tw_ceq', tw_neq (by omega) (by omega)] <;> omega) ?_
    show tw_P L xs _ 193 57 [.ref 88, .int (nI 100), .int (nI nd), tw_U, tw_U] [] σ _
    refine tw_sg 2 (i1 := 59) (ls1 := [.ref 88, .int (nI 100), .int (nI nd), tw_U, tw_U]) (st1 := [.int (nI 115), .int (nI 100)]) (σ1 := σ) rfl ?_
    refine tw_biT (c := .ne) rfl (by rw [tw_cne, tw_neq (by omega) (by omega)] <;> omega) ?_
    show tw_P L xs _ 193 62 [.ref 88, .int (nI 100), .int (nI nd), tw_U, tw_U] [] σ _
    refine tw_sg 4 (i1 := 66) (ls1 := [.ref 88, .int (nI 100), .int (nI nd), .int (nI 0), tw_U]) (st1 := [.int (nI 115), .int (nI 100)]) (σ1 := σ) rfl ?_
    refine tw_biF (c := .eq) rfl (by rw [tw_ceq', tw_neq (by omega) (by omega)] <;> omega) ?_
    show tw_P L xs _ 193 67 [.ref 88, .int (nI 100), .int (nI nd), .int (nI 0), tw_U] [] σ _
    refine tw_sg 2 (i1 := 69) (ls1 := [.ref 88, .int (nI 100), .int (nI nd), .int (nI 0), tw_U]) (st1 := [.int (nI 100), .int (nI 100)]) (σ1 := σ) rfl ?_
    refine tw_biT (c := .eq) rfl (by rw [tw_ceq, tw_neq (by omega) (by omega)] <;> omega) ?_
    show tw_P L xs _ 193 76 [.ref 88, .int (nI 100), .int (nI nd), .int (nI 0), tw_U] [] σ _
    refine tw_sg 4 (i1 := 81) (ls1 := [.ref 88, .int (nI 100), .int (nI nd), .int (nI 0), .int (nI 1)]) (st1 := [.int (nI 0)]) (σ1 := σ) rfl ?_
    refine tw_bzF (c := .ne) rfl (by rw [tw_cne', tw_neq (by omega) (by omega)] <;> omega) ?_
    show tw_P L xs _ 193 82 [.ref 88, .int (nI 100), .int (nI nd), .int (nI 0), .int (nI 1)] [] σ _
    refine tw_sg 1 (i1 := 83) (ls1 := [.ref 88, .int (nI 100), .int (nI nd), .int (nI 0), .int (nI 1)]) (st1 := [.int (nI 1)]) (σ1 := σ) rfl ?_
    refine tw_bzT (c := .ne) rfl (by rw [tw_cne, tw_neq (by omega) (by omega)] <;> omega) ?_
    show tw_P L xs _ 193 87 [.ref 88, .int (nI 100), .int (nI nd), .int (nI 0), .int (nI 1)] [] σ _
    refine tw_sgn 3 (i1 := 90) (ls0 := [.ref 88, .int (nI 100), .int (nI nd), .int (nI 0), .int (nI 1)]) (st0 := [.int (nI 6), .int (σ 88 20)]) (σ0 := σ) (ls1 := [.ref 88, .int (nI 100), .int (nI nd), .int (nI 0), .int (nI 1)]) (st1 := [.int (nI 6), .int (nI 6)]) (σ1 := σ) rfl (rfl) (by simp only [hop, tw_nadd, tw_nmul]) (rfl) ?_
    refine tw_biF (c := .ne) rfl (by rw [tw_cne', tw_neq (by omega) (by omega)] <;> omega) ?_
    show tw_P L xs _ 193 91 [.ref 88, .int (nI 100), .int (nI nd), .int (nI 0), .int (nI 1)] [] σ _
    refine tw_sgn 3 (i1 := 94) (ls0 := [.ref 88, .int (nI 100), .int (nI nd), .int (nI 0), .int (nI 1)]) (st0 := [.int (σ 88 18), .ref 88]) (σ0 := σ) (ls1 := [.ref 88, .int (nI 100), .int (nI nd), .int (nI 0), .int (nI 1)]) (st1 := [.int (nI p), .ref 88]) (σ1 := σ) rfl (rfl) (by simp only [h2, tw_nadd, tw_nmul]) (rfl) ?_
    refine tw_cl0 1 rfl (rfl) (by omega) ?_
    show tw_P L xs _ 190 0 [.ref 88, .int (nI p)] [] σ _
    refine tw_sgn 2 (i1 := 2) (ls0 := [.ref 88, .int (nI p)]) (st0 := [.int (σ 88 19)]) (σ0 := σ) (ls1 := [.ref 88, .int (nI p)]) (st1 := [.int (-1)]) (σ1 := σ) rfl (rfl) (by simp only [h3, tw_nadd, tw_nmul]) (rfl) ?_
    refine tw_bzF (c := .ge) rfl (by rw [tw_cge'] <;> (exact tw_not_le.mpr (by decide))) ?_
    show tw_P L xs _ 190 3 [.ref 88, .int (nI p)] [] σ _
    refine tw_sg 3 (i1 := 6) (ls1 := [.ref 88, .int (nI p)]) (st1 := []) (σ1 := (tw_upd σ 88 19 (nI p))) rfl ?_
    refine tw_rv rfl ?_
    show tw_P L xs _ 193 95 [.ref 88, .int (nI 100), .int (nI nd), .int (nI 0), .int (nI 1)] [] (tw_upd σ 88 19 (nI p)) _
    refine tw_sg 1 (i1 := 96) (ls1 := [.ref 88, .int (nI 100), .int (nI nd), .int (nI 0), .int (nI 1)]) (st1 := [.int (nI 0)]) (σ1 := (tw_upd σ 88 19 (nI p))) rfl ?_
    refine tw_ri rfl (rfl) ?_
    exact ⟨⟨_, rfl⟩, by repeat (first | exact tw_upd_at | assumption | rw [tw_upd_off (by omega)]), by repeat (first | exact tw_mFr.rf | refine tw_mFr.upd ?_ (by omega))⟩
  · skip
    refine tw_sgn 2 (i1 := 2) (ls0 := [.ref 88, tw_U, tw_U, tw_U, tw_U]) (st0 := [.int (σ 88 19)]) (σ0 := σ) (ls1 := [.ref 88, tw_U, tw_U, tw_U, tw_U]) (st1 := [.int (-1)]) (σ1 := σ) rfl (rfl) (by simp only [h3, tw_nadd, tw_nmul]) (rfl) ?_
    refine tw_bzT (c := .lt) rfl (by rw [tw_clt] <;> (exact (by decide))) ?_
    show tw_P L xs _ 193 5 [.ref 88, tw_U, tw_U, tw_U, tw_U] [] σ _
    refine tw_sg 1 (i1 := 6) (ls1 := [.ref 88, tw_U, tw_U, tw_U, tw_U]) (st1 := [.ref 88]) (σ1 := σ) rfl ?_
    refine tw_cl1 rfl (rfl) (by omega) (tw_E_mono (tw_e_hre hC hT h2 (by omega)) (fun v σ1 h => (⟨h.1.trans (by rw [tw_hv1 (by omega), e0]), h.2⟩ : v = some (.int (nI 114)) ∧ σ = σ1))) ?_
    rintro _ _ ⟨rfl, rfl⟩
    show tw_P L xs _ 193 7 [.ref 88, tw_U, tw_U, tw_U, tw_U] [.int (nI 114)] σ _
    refine tw_sgn 6 (i1 := 13) (ls0 := [.ref 88, .int (nI 114), .int (σ 88 21), tw_U, tw_U]) (st0 := [.int (nI 105), .int (nI 114)]) (σ0 := σ) (ls1 := [.ref 88, .int (nI 114), .int (nI nd), tw_U, tw_U]) (st1 := [.int (nI 105), .int (nI 114)]) (σ1 := σ) rfl (by simp only [h4, tw_nadd, tw_nmul]) (rfl) (rfl) ?_
    refine tw_biF (c := .eq) rfl (by rw [tw_ceq', tw_neq (by omega) (by omega)] <;> omega) ?_
    show tw_P L xs _ 193 14 [.ref 88, .int (nI 114), .int (nI nd), tw_U, tw_U] [] σ _
    refine tw_sg 2 (i1 := 16) (ls1 := [.ref 88, .int (nI 114), .int (nI nd), tw_U, tw_U]) (st1 := [.int (nI 102), .int (nI 114)]) (σ1 := σ) rfl ?_
    refine tw_biF (c := .eq) rfl (by rw [tw_ceq', tw_neq (by omega) (by omega)] <;> omega) ?_
    show tw_P L xs _ 193 17 [.ref 88, .int (nI 114), .int (nI nd), tw_U, tw_U] [] σ _
    refine tw_sg 2 (i1 := 19) (ls1 := [.ref 88, .int (nI 114), .int (nI nd), tw_U, tw_U]) (st1 := [.int (nI 98), .int (nI 114)]) (σ1 := σ) rfl ?_
    refine tw_biF (c := .eq) rfl (by rw [tw_ceq', tw_neq (by omega) (by omega)] <;> omega) ?_
    show tw_P L xs _ 193 20 [.ref 88, .int (nI 114), .int (nI nd), tw_U, tw_U] [] σ _
    refine tw_sg 2 (i1 := 22) (ls1 := [.ref 88, .int (nI 114), .int (nI nd), tw_U, tw_U]) (st1 := [.int (nI 104), .int (nI 114)]) (σ1 := σ) rfl ?_
    refine tw_biT (c := .ne) rfl (by rw [tw_cne, tw_neq (by omega) (by omega)] <;> omega) ?_
    show tw_P L xs _ 193 48 [.ref 88, .int (nI 114), .int (nI nd), tw_U, tw_U] [] σ _
    refine tw_sg 2 (i1 := 50) (ls1 := [.ref 88, .int (nI 114), .int (nI nd), tw_U, tw_U]) (st1 := [.int (nI 107), .int (nI 114)]) (σ1 := σ) rfl ?_
    refine tw_biF (c := .eq) rfl (by rw [tw_ceq', tw_neq (by omega) (by omega)] <;> omega) ?_
    show tw_P L xs _ 193 51 [.ref 88, .int (nI 114), .int (nI nd), tw_U, tw_U] [] σ _
    refine tw_sg 2 (i1 := 53) (ls1 := [.ref 88, .int (nI 114), .int (nI nd), tw_U, tw_U]) (st1 := [.int (nI 99), .int (nI 114)]) (σ1 := σ) rfl ?_
    refine tw_biF (c := .eq) rfl (by rw [tw_ceq', tw_neq (by omega) (by omega)] <;> omega) ?_
    show tw_P L xs _ 193 54 [.ref 88, .int (nI 114), .int (nI nd), tw_U, tw_U] [] σ _
    refine tw_sg 2 (i1 := 56) (ls1 := [.ref 88, .int (nI 114), .int (nI nd), tw_U, tw_U]) (st1 := [.int (nI 120), .int (nI 114)]) (σ1 := σ) rfl ?_
    refine tw_biF (c := .eq) rfl (by rw [tw_ceq', tw_neq (by omega) (by omega)] <;> omega) ?_
    show tw_P L xs _ 193 57 [.ref 88, .int (nI 114), .int (nI nd), tw_U, tw_U] [] σ _
    refine tw_sg 2 (i1 := 59) (ls1 := [.ref 88, .int (nI 114), .int (nI nd), tw_U, tw_U]) (st1 := [.int (nI 115), .int (nI 114)]) (σ1 := σ) rfl ?_
    refine tw_biT (c := .ne) rfl (by rw [tw_cne, tw_neq (by omega) (by omega)] <;> omega) ?_
    show tw_P L xs _ 193 62 [.ref 88, .int (nI 114), .int (nI nd), tw_U, tw_U] [] σ _
    refine tw_sg 4 (i1 := 66) (ls1 := [.ref 88, .int (nI 114), .int (nI nd), .int (nI 0), tw_U]) (st1 := [.int (nI 115), .int (nI 114)]) (σ1 := σ) rfl ?_
    refine tw_biF (c := .eq) rfl (by rw [tw_ceq', tw_neq (by omega) (by omega)] <;> omega) ?_
    show tw_P L xs _ 193 67 [.ref 88, .int (nI 114), .int (nI nd), .int (nI 0), tw_U] [] σ _
    refine tw_sg 2 (i1 := 69) (ls1 := [.ref 88, .int (nI 114), .int (nI nd), .int (nI 0), tw_U]) (st1 := [.int (nI 100), .int (nI 114)]) (σ1 := σ) rfl ?_
    refine tw_biF (c := .eq) rfl (by rw [tw_ceq', tw_neq (by omega) (by omega)] <;> omega) ?_
    show tw_P L xs _ 193 70 [.ref 88, .int (nI 114), .int (nI nd), .int (nI 0), tw_U] [] σ _
    refine tw_sg 2 (i1 := 72) (ls1 := [.ref 88, .int (nI 114), .int (nI nd), .int (nI 0), tw_U]) (st1 := [.int (nI 114), .int (nI 114)]) (σ1 := σ) rfl ?_
    refine tw_biT (c := .eq) rfl (by rw [tw_ceq, tw_neq (by omega) (by omega)] <;> omega) ?_
    show tw_P L xs _ 193 76 [.ref 88, .int (nI 114), .int (nI nd), .int (nI 0), tw_U] [] σ _
    refine tw_sg 4 (i1 := 81) (ls1 := [.ref 88, .int (nI 114), .int (nI nd), .int (nI 0), .int (nI 1)]) (st1 := [.int (nI 0)]) (σ1 := σ) rfl ?_
    refine tw_bzF (c := .ne) rfl (by rw [tw_cne', tw_neq (by omega) (by omega)] <;> omega) ?_
    show tw_P L xs _ 193 82 [.ref 88, .int (nI 114), .int (nI nd), .int (nI 0), .int (nI 1)] [] σ _
    refine tw_sg 1 (i1 := 83) (ls1 := [.ref 88, .int (nI 114), .int (nI nd), .int (nI 0), .int (nI 1)]) (st1 := [.int (nI 1)]) (σ1 := σ) rfl ?_
    refine tw_bzT (c := .ne) rfl (by rw [tw_cne, tw_neq (by omega) (by omega)] <;> omega) ?_
    show tw_P L xs _ 193 87 [.ref 88, .int (nI 114), .int (nI nd), .int (nI 0), .int (nI 1)] [] σ _
    refine tw_sgn 3 (i1 := 90) (ls0 := [.ref 88, .int (nI 114), .int (nI nd), .int (nI 0), .int (nI 1)]) (st0 := [.int (nI 6), .int (σ 88 20)]) (σ0 := σ) (ls1 := [.ref 88, .int (nI 114), .int (nI nd), .int (nI 0), .int (nI 1)]) (st1 := [.int (nI 6), .int (nI 6)]) (σ1 := σ) rfl (rfl) (by simp only [hop, tw_nadd, tw_nmul]) (rfl) ?_
    refine tw_biF (c := .ne) rfl (by rw [tw_cne', tw_neq (by omega) (by omega)] <;> omega) ?_
    show tw_P L xs _ 193 91 [.ref 88, .int (nI 114), .int (nI nd), .int (nI 0), .int (nI 1)] [] σ _
    refine tw_sgn 3 (i1 := 94) (ls0 := [.ref 88, .int (nI 114), .int (nI nd), .int (nI 0), .int (nI 1)]) (st0 := [.int (σ 88 18), .ref 88]) (σ0 := σ) (ls1 := [.ref 88, .int (nI 114), .int (nI nd), .int (nI 0), .int (nI 1)]) (st1 := [.int (nI p), .ref 88]) (σ1 := σ) rfl (rfl) (by simp only [h2, tw_nadd, tw_nmul]) (rfl) ?_
    refine tw_cl0 1 rfl (rfl) (by omega) ?_
    show tw_P L xs _ 190 0 [.ref 88, .int (nI p)] [] σ _
    refine tw_sgn 2 (i1 := 2) (ls0 := [.ref 88, .int (nI p)]) (st0 := [.int (σ 88 19)]) (σ0 := σ) (ls1 := [.ref 88, .int (nI p)]) (st1 := [.int (-1)]) (σ1 := σ) rfl (rfl) (by simp only [h3, tw_nadd, tw_nmul]) (rfl) ?_
    refine tw_bzF (c := .ge) rfl (by rw [tw_cge'] <;> (exact tw_not_le.mpr (by decide))) ?_
    show tw_P L xs _ 190 3 [.ref 88, .int (nI p)] [] σ _
    refine tw_sg 3 (i1 := 6) (ls1 := [.ref 88, .int (nI p)]) (st1 := []) (σ1 := (tw_upd σ 88 19 (nI p))) rfl ?_
    refine tw_rv rfl ?_
    show tw_P L xs _ 193 95 [.ref 88, .int (nI 114), .int (nI nd), .int (nI 0), .int (nI 1)] [] (tw_upd σ 88 19 (nI p)) _
    refine tw_sg 1 (i1 := 96) (ls1 := [.ref 88, .int (nI 114), .int (nI nd), .int (nI 0), .int (nI 1)]) (st1 := [.int (nI 0)]) (σ1 := (tw_upd σ 88 19 (nI p))) rfl ?_
    refine tw_ri rfl (rfl) ?_
    exact ⟨⟨_, rfl⟩, by repeat (first | exact tw_upd_at | assumption | rw [tw_upd_off (by omega)]), by repeat (first | exact tw_mFr.rf | refine tw_mFr.upd ?_ (by omega))⟩
  · skip
    refine tw_sgn 2 (i1 := 2) (ls0 := [.ref 88, tw_U, tw_U, tw_U, tw_U]) (st0 := [.int (σ 88 19)]) (σ0 := σ) (ls1 := [.ref 88, tw_U, tw_U, tw_U, tw_U]) (st1 := [.int (-1)]) (σ1 := σ) rfl (rfl) (by simp only [h3, tw_nadd, tw_nmul]) (rfl) ?_
    refine tw_bzT (c := .lt) rfl (by rw [tw_clt] <;> (exact (by decide))) ?_
    show tw_P L xs _ 193 5 [.ref 88, tw_U, tw_U, tw_U, tw_U] [] σ _
    refine tw_sg 1 (i1 := 6) (ls1 := [.ref 88, tw_U, tw_U, tw_U, tw_U]) (st1 := [.ref 88]) (σ1 := σ) rfl ?_
    refine tw_cl1 rfl (rfl) (by omega) (tw_E_mono (tw_e_hre hC hT h2 (by omega)) (fun v σ1 h => (⟨h.1.trans (by rw [tw_hv1 (by omega), e0]), h.2⟩ : v = some (.int (nI 109)) ∧ σ = σ1))) ?_
    rintro _ _ ⟨rfl, rfl⟩
    show tw_P L xs _ 193 7 [.ref 88, tw_U, tw_U, tw_U, tw_U] [.int (nI 109)] σ _
    refine tw_sgn 6 (i1 := 13) (ls0 := [.ref 88, .int (nI 109), .int (σ 88 21), tw_U, tw_U]) (st0 := [.int (nI 105), .int (nI 109)]) (σ0 := σ) (ls1 := [.ref 88, .int (nI 109), .int (nI nd), tw_U, tw_U]) (st1 := [.int (nI 105), .int (nI 109)]) (σ1 := σ) rfl (by simp only [h4, tw_nadd, tw_nmul]) (rfl) (rfl) ?_
    refine tw_biF (c := .eq) rfl (by rw [tw_ceq', tw_neq (by omega) (by omega)] <;> omega) ?_
    show tw_P L xs _ 193 14 [.ref 88, .int (nI 109), .int (nI nd), tw_U, tw_U] [] σ _
    refine tw_sg 2 (i1 := 16) (ls1 := [.ref 88, .int (nI 109), .int (nI nd), tw_U, tw_U]) (st1 := [.int (nI 102), .int (nI 109)]) (σ1 := σ) rfl ?_
    refine tw_biF (c := .eq) rfl (by rw [tw_ceq', tw_neq (by omega) (by omega)] <;> omega) ?_
    show tw_P L xs _ 193 17 [.ref 88, .int (nI 109), .int (nI nd), tw_U, tw_U] [] σ _
    refine tw_sg 2 (i1 := 19) (ls1 := [.ref 88, .int (nI 109), .int (nI nd), tw_U, tw_U]) (st1 := [.int (nI 98), .int (nI 109)]) (σ1 := σ) rfl ?_
    refine tw_biF (c := .eq) rfl (by rw [tw_ceq', tw_neq (by omega) (by omega)] <;> omega) ?_
    show tw_P L xs _ 193 20 [.ref 88, .int (nI 109), .int (nI nd), tw_U, tw_U] [] σ _
    refine tw_sg 2 (i1 := 22) (ls1 := [.ref 88, .int (nI 109), .int (nI nd), tw_U, tw_U]) (st1 := [.int (nI 104), .int (nI 109)]) (σ1 := σ) rfl ?_
    refine tw_biT (c := .ne) rfl (by rw [tw_cne, tw_neq (by omega) (by omega)] <;> omega) ?_
    show tw_P L xs _ 193 48 [.ref 88, .int (nI 109), .int (nI nd), tw_U, tw_U] [] σ _
    refine tw_sg 2 (i1 := 50) (ls1 := [.ref 88, .int (nI 109), .int (nI nd), tw_U, tw_U]) (st1 := [.int (nI 107), .int (nI 109)]) (σ1 := σ) rfl ?_
    refine tw_biF (c := .eq) rfl (by rw [tw_ceq', tw_neq (by omega) (by omega)] <;> omega) ?_
    show tw_P L xs _ 193 51 [.ref 88, .int (nI 109), .int (nI nd), tw_U, tw_U] [] σ _
    refine tw_sg 2 (i1 := 53) (ls1 := [.ref 88, .int (nI 109), .int (nI nd), tw_U, tw_U]) (st1 := [.int (nI 99), .int (nI 109)]) (σ1 := σ) rfl ?_
    refine tw_biF (c := .eq) rfl (by rw [tw_ceq', tw_neq (by omega) (by omega)] <;> omega) ?_
    show tw_P L xs _ 193 54 [.ref 88, .int (nI 109), .int (nI nd), tw_U, tw_U] [] σ _
    refine tw_sg 2 (i1 := 56) (ls1 := [.ref 88, .int (nI 109), .int (nI nd), tw_U, tw_U]) (st1 := [.int (nI 120), .int (nI 109)]) (σ1 := σ) rfl ?_
    refine tw_biF (c := .eq) rfl (by rw [tw_ceq', tw_neq (by omega) (by omega)] <;> omega) ?_
    show tw_P L xs _ 193 57 [.ref 88, .int (nI 109), .int (nI nd), tw_U, tw_U] [] σ _
    refine tw_sg 2 (i1 := 59) (ls1 := [.ref 88, .int (nI 109), .int (nI nd), tw_U, tw_U]) (st1 := [.int (nI 115), .int (nI 109)]) (σ1 := σ) rfl ?_
    refine tw_biT (c := .ne) rfl (by rw [tw_cne, tw_neq (by omega) (by omega)] <;> omega) ?_
    show tw_P L xs _ 193 62 [.ref 88, .int (nI 109), .int (nI nd), tw_U, tw_U] [] σ _
    refine tw_sg 4 (i1 := 66) (ls1 := [.ref 88, .int (nI 109), .int (nI nd), .int (nI 0), tw_U]) (st1 := [.int (nI 115), .int (nI 109)]) (σ1 := σ) rfl ?_
    refine tw_biF (c := .eq) rfl (by rw [tw_ceq', tw_neq (by omega) (by omega)] <;> omega) ?_
    show tw_P L xs _ 193 67 [.ref 88, .int (nI 109), .int (nI nd), .int (nI 0), tw_U] [] σ _
    refine tw_sg 2 (i1 := 69) (ls1 := [.ref 88, .int (nI 109), .int (nI nd), .int (nI 0), tw_U]) (st1 := [.int (nI 100), .int (nI 109)]) (σ1 := σ) rfl ?_
    refine tw_biF (c := .eq) rfl (by rw [tw_ceq', tw_neq (by omega) (by omega)] <;> omega) ?_
    show tw_P L xs _ 193 70 [.ref 88, .int (nI 109), .int (nI nd), .int (nI 0), tw_U] [] σ _
    refine tw_sg 2 (i1 := 72) (ls1 := [.ref 88, .int (nI 109), .int (nI nd), .int (nI 0), tw_U]) (st1 := [.int (nI 114), .int (nI 109)]) (σ1 := σ) rfl ?_
    refine tw_biF (c := .eq) rfl (by rw [tw_ceq', tw_neq (by omega) (by omega)] <;> omega) ?_
    show tw_P L xs _ 193 73 [.ref 88, .int (nI 109), .int (nI nd), .int (nI 0), tw_U] [] σ _
    refine tw_sg 2 (i1 := 75) (ls1 := [.ref 88, .int (nI 109), .int (nI nd), .int (nI 0), tw_U]) (st1 := [.int (nI 109), .int (nI 109)]) (σ1 := σ) rfl ?_
    refine tw_biF (c := .ne) rfl (by rw [tw_cne', tw_neq (by omega) (by omega)] <;> omega) ?_
    show tw_P L xs _ 193 76 [.ref 88, .int (nI 109), .int (nI nd), .int (nI 0), tw_U] [] σ _
    refine tw_sg 4 (i1 := 81) (ls1 := [.ref 88, .int (nI 109), .int (nI nd), .int (nI 0), .int (nI 1)]) (st1 := [.int (nI 0)]) (σ1 := σ) rfl ?_
    refine tw_bzF (c := .ne) rfl (by rw [tw_cne', tw_neq (by omega) (by omega)] <;> omega) ?_
    show tw_P L xs _ 193 82 [.ref 88, .int (nI 109), .int (nI nd), .int (nI 0), .int (nI 1)] [] σ _
    refine tw_sg 1 (i1 := 83) (ls1 := [.ref 88, .int (nI 109), .int (nI nd), .int (nI 0), .int (nI 1)]) (st1 := [.int (nI 1)]) (σ1 := σ) rfl ?_
    refine tw_bzT (c := .ne) rfl (by rw [tw_cne, tw_neq (by omega) (by omega)] <;> omega) ?_
    show tw_P L xs _ 193 87 [.ref 88, .int (nI 109), .int (nI nd), .int (nI 0), .int (nI 1)] [] σ _
    refine tw_sgn 3 (i1 := 90) (ls0 := [.ref 88, .int (nI 109), .int (nI nd), .int (nI 0), .int (nI 1)]) (st0 := [.int (nI 6), .int (σ 88 20)]) (σ0 := σ) (ls1 := [.ref 88, .int (nI 109), .int (nI nd), .int (nI 0), .int (nI 1)]) (st1 := [.int (nI 6), .int (nI 6)]) (σ1 := σ) rfl (rfl) (by simp only [hop, tw_nadd, tw_nmul]) (rfl) ?_
    refine tw_biF (c := .ne) rfl (by rw [tw_cne', tw_neq (by omega) (by omega)] <;> omega) ?_
    show tw_P L xs _ 193 91 [.ref 88, .int (nI 109), .int (nI nd), .int (nI 0), .int (nI 1)] [] σ _
    refine tw_sgn 3 (i1 := 94) (ls0 := [.ref 88, .int (nI 109), .int (nI nd), .int (nI 0), .int (nI 1)]) (st0 := [.int (σ 88 18), .ref 88]) (σ0 := σ) (ls1 := [.ref 88, .int (nI 109), .int (nI nd), .int (nI 0), .int (nI 1)]) (st1 := [.int (nI p), .ref 88]) (σ1 := σ) rfl (rfl) (by simp only [h2, tw_nadd, tw_nmul]) (rfl) ?_
    refine tw_cl0 1 rfl (rfl) (by omega) ?_
    show tw_P L xs _ 190 0 [.ref 88, .int (nI p)] [] σ _
    refine tw_sgn 2 (i1 := 2) (ls0 := [.ref 88, .int (nI p)]) (st0 := [.int (σ 88 19)]) (σ0 := σ) (ls1 := [.ref 88, .int (nI p)]) (st1 := [.int (-1)]) (σ1 := σ) rfl (rfl) (by simp only [h3, tw_nadd, tw_nmul]) (rfl) ?_
    refine tw_bzF (c := .ge) rfl (by rw [tw_cge'] <;> (exact tw_not_le.mpr (by decide))) ?_
    show tw_P L xs _ 190 3 [.ref 88, .int (nI p)] [] σ _
    refine tw_sg 3 (i1 := 6) (ls1 := [.ref 88, .int (nI p)]) (st1 := []) (σ1 := (tw_upd σ 88 19 (nI p))) rfl ?_
    refine tw_rv rfl ?_
    show tw_P L xs _ 193 95 [.ref 88, .int (nI 109), .int (nI nd), .int (nI 0), .int (nI 1)] [] (tw_upd σ 88 19 (nI p)) _
    refine tw_sg 1 (i1 := 96) (ls1 := [.ref 88, .int (nI 109), .int (nI nd), .int (nI 0), .int (nI 1)]) (st1 := [.int (nI 0)]) (σ1 := (tw_upd σ 88 19 (nI p))) rfl ?_
    refine tw_ri rfl (rfl) ?_
    exact ⟨⟨_, rfl⟩, by repeat (first | exact tw_upd_at | assumption | rw [tw_upd_off (by omega)]), by repeat (first | exact tw_mFr.rf | refine tw_mFr.upd ?_ (by omega))⟩
  · skip
    refine tw_sgn 2 (i1 := 2) (ls0 := [.ref 88, tw_U, tw_U, tw_U, tw_U]) (st0 := [.int (σ 88 19)]) (σ0 := σ) (ls1 := [.ref 88, tw_U, tw_U, tw_U, tw_U]) (st1 := [.int (-1)]) (σ1 := σ) rfl (rfl) (by simp only [h3, tw_nadd, tw_nmul]) (rfl) ?_
    refine tw_bzT (c := .lt) rfl (by rw [tw_clt] <;> (exact (by decide))) ?_
    show tw_P L xs _ 193 5 [.ref 88, tw_U, tw_U, tw_U, tw_U] [] σ _
    refine tw_sg 1 (i1 := 6) (ls1 := [.ref 88, tw_U, tw_U, tw_U, tw_U]) (st1 := [.ref 88]) (σ1 := σ) rfl ?_
    refine tw_cl1 rfl (rfl) (by omega) (tw_E_mono (tw_e_hre hC hT h2 (by omega)) (fun v σ1 h => (⟨h.1.trans (by rw [tw_hv1 (by omega), e0]), h.2⟩ : v = some (.int (nI 116)) ∧ σ = σ1))) ?_
    rintro _ _ ⟨rfl, rfl⟩
    show tw_P L xs _ 193 7 [.ref 88, tw_U, tw_U, tw_U, tw_U] [.int (nI 116)] σ _
    refine tw_sgn 6 (i1 := 13) (ls0 := [.ref 88, .int (nI 116), .int (σ 88 21), tw_U, tw_U]) (st0 := [.int (nI 105), .int (nI 116)]) (σ0 := σ) (ls1 := [.ref 88, .int (nI 116), .int (nI nd), tw_U, tw_U]) (st1 := [.int (nI 105), .int (nI 116)]) (σ1 := σ) rfl (by simp only [h4, tw_nadd, tw_nmul]) (rfl) (rfl) ?_
    refine tw_biF (c := .eq) rfl (by rw [tw_ceq', tw_neq (by omega) (by omega)] <;> omega) ?_
    show tw_P L xs _ 193 14 [.ref 88, .int (nI 116), .int (nI nd), tw_U, tw_U] [] σ _
    refine tw_sg 2 (i1 := 16) (ls1 := [.ref 88, .int (nI 116), .int (nI nd), tw_U, tw_U]) (st1 := [.int (nI 102), .int (nI 116)]) (σ1 := σ) rfl ?_
    refine tw_biF (c := .eq) rfl (by rw [tw_ceq', tw_neq (by omega) (by omega)] <;> omega) ?_
    show tw_P L xs _ 193 17 [.ref 88, .int (nI 116), .int (nI nd), tw_U, tw_U] [] σ _
    refine tw_sg 2 (i1 := 19) (ls1 := [.ref 88, .int (nI 116), .int (nI nd), tw_U, tw_U]) (st1 := [.int (nI 98), .int (nI 116)]) (σ1 := σ) rfl ?_
    refine tw_biF (c := .eq) rfl (by rw [tw_ceq', tw_neq (by omega) (by omega)] <;> omega) ?_
    show tw_P L xs _ 193 20 [.ref 88, .int (nI 116), .int (nI nd), tw_U, tw_U] [] σ _
    refine tw_sg 2 (i1 := 22) (ls1 := [.ref 88, .int (nI 116), .int (nI nd), tw_U, tw_U]) (st1 := [.int (nI 104), .int (nI 116)]) (σ1 := σ) rfl ?_
    refine tw_biT (c := .ne) rfl (by rw [tw_cne, tw_neq (by omega) (by omega)] <;> omega) ?_
    show tw_P L xs _ 193 48 [.ref 88, .int (nI 116), .int (nI nd), tw_U, tw_U] [] σ _
    refine tw_sg 2 (i1 := 50) (ls1 := [.ref 88, .int (nI 116), .int (nI nd), tw_U, tw_U]) (st1 := [.int (nI 107), .int (nI 116)]) (σ1 := σ) rfl ?_
    refine tw_biF (c := .eq) rfl (by rw [tw_ceq', tw_neq (by omega) (by omega)] <;> omega) ?_
    show tw_P L xs _ 193 51 [.ref 88, .int (nI 116), .int (nI nd), tw_U, tw_U] [] σ _
    refine tw_sg 2 (i1 := 53) (ls1 := [.ref 88, .int (nI 116), .int (nI nd), tw_U, tw_U]) (st1 := [.int (nI 99), .int (nI 116)]) (σ1 := σ) rfl ?_
    refine tw_biF (c := .eq) rfl (by rw [tw_ceq', tw_neq (by omega) (by omega)] <;> omega) ?_
    show tw_P L xs _ 193 54 [.ref 88, .int (nI 116), .int (nI nd), tw_U, tw_U] [] σ _
    refine tw_sg 2 (i1 := 56) (ls1 := [.ref 88, .int (nI 116), .int (nI nd), tw_U, tw_U]) (st1 := [.int (nI 120), .int (nI 116)]) (σ1 := σ) rfl ?_
    refine tw_biF (c := .eq) rfl (by rw [tw_ceq', tw_neq (by omega) (by omega)] <;> omega) ?_
    show tw_P L xs _ 193 57 [.ref 88, .int (nI 116), .int (nI nd), tw_U, tw_U] [] σ _
    refine tw_sg 2 (i1 := 59) (ls1 := [.ref 88, .int (nI 116), .int (nI nd), tw_U, tw_U]) (st1 := [.int (nI 115), .int (nI 116)]) (σ1 := σ) rfl ?_
    refine tw_biT (c := .ne) rfl (by rw [tw_cne, tw_neq (by omega) (by omega)] <;> omega) ?_
    show tw_P L xs _ 193 62 [.ref 88, .int (nI 116), .int (nI nd), tw_U, tw_U] [] σ _
    refine tw_sg 4 (i1 := 66) (ls1 := [.ref 88, .int (nI 116), .int (nI nd), .int (nI 0), tw_U]) (st1 := [.int (nI 115), .int (nI 116)]) (σ1 := σ) rfl ?_
    refine tw_biF (c := .eq) rfl (by rw [tw_ceq', tw_neq (by omega) (by omega)] <;> omega) ?_
    show tw_P L xs _ 193 67 [.ref 88, .int (nI 116), .int (nI nd), .int (nI 0), tw_U] [] σ _
    refine tw_sg 2 (i1 := 69) (ls1 := [.ref 88, .int (nI 116), .int (nI nd), .int (nI 0), tw_U]) (st1 := [.int (nI 100), .int (nI 116)]) (σ1 := σ) rfl ?_
    refine tw_biF (c := .eq) rfl (by rw [tw_ceq', tw_neq (by omega) (by omega)] <;> omega) ?_
    show tw_P L xs _ 193 70 [.ref 88, .int (nI 116), .int (nI nd), .int (nI 0), tw_U] [] σ _
    refine tw_sg 2 (i1 := 72) (ls1 := [.ref 88, .int (nI 116), .int (nI nd), .int (nI 0), tw_U]) (st1 := [.int (nI 114), .int (nI 116)]) (σ1 := σ) rfl ?_
    refine tw_biF (c := .eq) rfl (by rw [tw_ceq', tw_neq (by omega) (by omega)] <;> omega) ?_
    show tw_P L xs _ 193 73 [.ref 88, .int (nI 116), .int (nI nd), .int (nI 0), tw_U] [] σ _
    refine tw_sg 2 (i1 := 75) (ls1 := [.ref 88, .int (nI 116), .int (nI nd), .int (nI 0), tw_U]) (st1 := [.int (nI 109), .int (nI 116)]) (σ1 := σ) rfl ?_
    refine tw_biT (c := .ne) rfl (by rw [tw_cne, tw_neq (by omega) (by omega)] <;> omega) ?_
    show tw_P L xs _ 193 78 [.ref 88, .int (nI 116), .int (nI nd), .int (nI 0), tw_U] [] σ _
    refine tw_sg 3 (i1 := 81) (ls1 := [.ref 88, .int (nI 116), .int (nI nd), .int (nI 0), .int (nI 0)]) (st1 := [.int (nI 0)]) (σ1 := σ) rfl ?_
    refine tw_bzF (c := .ne) rfl (by rw [tw_cne', tw_neq (by omega) (by omega)] <;> omega) ?_
    show tw_P L xs _ 193 82 [.ref 88, .int (nI 116), .int (nI nd), .int (nI 0), .int (nI 0)] [] σ _
    refine tw_sg 1 (i1 := 83) (ls1 := [.ref 88, .int (nI 116), .int (nI nd), .int (nI 0), .int (nI 0)]) (st1 := [.int (nI 0)]) (σ1 := σ) rfl ?_
    refine tw_bzF (c := .ne) rfl (by rw [tw_cne', tw_neq (by omega) (by omega)] <;> omega) ?_
    show tw_P L xs _ 193 84 [.ref 88, .int (nI 116), .int (nI nd), .int (nI 0), .int (nI 0)] [] σ _
    refine tw_sg 2 (i1 := 86) (ls1 := [.ref 88, .int (nI 116), .int (nI nd), .int (nI 0), .int (nI 0)]) (st1 := [.int (nI 116), .int (nI 116)]) (σ1 := σ) rfl ?_
    refine tw_biF (c := .ne) rfl (by rw [tw_cne', tw_neq (by omega) (by omega)] <;> omega) ?_
    show tw_P L xs _ 193 87 [.ref 88, .int (nI 116), .int (nI nd), .int (nI 0), .int (nI 0)] [] σ _
    refine tw_sgn 3 (i1 := 90) (ls0 := [.ref 88, .int (nI 116), .int (nI nd), .int (nI 0), .int (nI 0)]) (st0 := [.int (nI 6), .int (σ 88 20)]) (σ0 := σ) (ls1 := [.ref 88, .int (nI 116), .int (nI nd), .int (nI 0), .int (nI 0)]) (st1 := [.int (nI 6), .int (nI 6)]) (σ1 := σ) rfl (rfl) (by simp only [hop, tw_nadd, tw_nmul]) (rfl) ?_
    refine tw_biF (c := .ne) rfl (by rw [tw_cne', tw_neq (by omega) (by omega)] <;> omega) ?_
    show tw_P L xs _ 193 91 [.ref 88, .int (nI 116), .int (nI nd), .int (nI 0), .int (nI 0)] [] σ _
    refine tw_sgn 3 (i1 := 94) (ls0 := [.ref 88, .int (nI 116), .int (nI nd), .int (nI 0), .int (nI 0)]) (st0 := [.int (σ 88 18), .ref 88]) (σ0 := σ) (ls1 := [.ref 88, .int (nI 116), .int (nI nd), .int (nI 0), .int (nI 0)]) (st1 := [.int (nI p), .ref 88]) (σ1 := σ) rfl (rfl) (by simp only [h2, tw_nadd, tw_nmul]) (rfl) ?_
    refine tw_cl0 1 rfl (rfl) (by omega) ?_
    show tw_P L xs _ 190 0 [.ref 88, .int (nI p)] [] σ _
    refine tw_sgn 2 (i1 := 2) (ls0 := [.ref 88, .int (nI p)]) (st0 := [.int (σ 88 19)]) (σ0 := σ) (ls1 := [.ref 88, .int (nI p)]) (st1 := [.int (-1)]) (σ1 := σ) rfl (rfl) (by simp only [h3, tw_nadd, tw_nmul]) (rfl) ?_
    refine tw_bzF (c := .ge) rfl (by rw [tw_cge'] <;> (exact tw_not_le.mpr (by decide))) ?_
    show tw_P L xs _ 190 3 [.ref 88, .int (nI p)] [] σ _
    refine tw_sg 3 (i1 := 6) (ls1 := [.ref 88, .int (nI p)]) (st1 := []) (σ1 := (tw_upd σ 88 19 (nI p))) rfl ?_
    refine tw_rv rfl ?_
    show tw_P L xs _ 193 95 [.ref 88, .int (nI 116), .int (nI nd), .int (nI 0), .int (nI 0)] [] (tw_upd σ 88 19 (nI p)) _
    refine tw_sg 1 (i1 := 96) (ls1 := [.ref 88, .int (nI 116), .int (nI nd), .int (nI 0), .int (nI 0)]) (st1 := [.int (nI 0)]) (σ1 := (tw_upd σ 88 19 (nI p))) rfl ?_
    refine tw_ri rfl (rfl) ?_
    exact ⟨⟨_, rfl⟩, by repeat (first | exact tw_upd_at | assumption | rw [tw_upd_off (by omega)]), by repeat (first | exact tw_mFr.rf | refine tw_mFr.upd ?_ (by omega))⟩
set_option maxHeartbeats 4000000 in
set_option maxRecDepth 100000 in
theorem tw_m_hd {ch : Nat → Nat} {Q : Option Value → tw_Mem → Prop} {k f op nd p lv : Nat} (hC : tw_chs ch k) (hp : p ≤ 80) (hnd : nd < 80) (hS : tw_mS ch k σ p nd lv op) (hop6 : op < 6) (ho : tw_oper (ch p)) (hQ : ∀ b3 b4, b3 = tw_bl (tw_numd (ch p)) → b4 = tw_bl (¬ tw_pair (ch p)) → tw_P L xs (f + 5) 193 97 [.ref 88, .int (nI (ch p)), .int (nI nd), .int b3, .int b4] [] σ Q) : tw_P L xs (f + 5) 193 0 [.ref 88, tw_U, tw_U, tw_U, tw_U] [] σ Q := by
  obtain ⟨hT, h2, h3, hop, h4, h5⟩ := id hS
  rcases (show ch p = 107 ∨ ch p = 99 ∨ ch p = 120 ∨ ch p = 115 ∨ ch p = 100 ∨ ch p = 114 ∨ ch p = 109 ∨ ch p = 116 by unfold tw_oper tw_numd at ho; omega) with e0 | e0 | e0 | e0 | e0 | e0 | e0 | e0
  · skip
    refine tw_sgn 2 (i1 := 2) (ls0 := [.ref 88, tw_U, tw_U, tw_U, tw_U]) (st0 := [.int (σ 88 19)]) (σ0 := σ) (ls1 := [.ref 88, tw_U, tw_U, tw_U, tw_U]) (st1 := [.int (-1)]) (σ1 := σ) rfl (rfl) (by simp only [h3, tw_nadd, tw_nmul]) (rfl) ?_
    refine tw_bzT (c := .lt) rfl (by rw [tw_clt] <;> (exact (by decide))) ?_
    show tw_P L xs _ 193 5 [.ref 88, tw_U, tw_U, tw_U, tw_U] [] σ _
    refine tw_sg 1 (i1 := 6) (ls1 := [.ref 88, tw_U, tw_U, tw_U, tw_U]) (st1 := [.ref 88]) (σ1 := σ) rfl ?_
    refine tw_cl1 rfl (rfl) (by omega) (tw_E_mono (tw_e_hre hC hT h2 (by omega)) (fun v σ1 h => (⟨h.1.trans (by rw [tw_hv1 (by omega), e0]), h.2⟩ : v = some (.int (nI 107)) ∧ σ = σ1))) ?_
    rintro _ _ ⟨rfl, rfl⟩
    show tw_P L xs _ 193 7 [.ref 88, tw_U, tw_U, tw_U, tw_U] [.int (nI 107)] σ _
    refine tw_sgn 6 (i1 := 13) (ls0 := [.ref 88, .int (nI 107), .int (σ 88 21), tw_U, tw_U]) (st0 := [.int (nI 105), .int (nI 107)]) (σ0 := σ) (ls1 := [.ref 88, .int (nI 107), .int (nI nd), tw_U, tw_U]) (st1 := [.int (nI 105), .int (nI 107)]) (σ1 := σ) rfl (by simp only [h4, tw_nadd, tw_nmul]) (rfl) (rfl) ?_
    refine tw_biF (c := .eq) rfl (by rw [tw_ceq', tw_neq (by omega) (by omega)] <;> omega) ?_
    show tw_P L xs _ 193 14 [.ref 88, .int (nI 107), .int (nI nd), tw_U, tw_U] [] σ _
    refine tw_sg 2 (i1 := 16) (ls1 := [.ref 88, .int (nI 107), .int (nI nd), tw_U, tw_U]) (st1 := [.int (nI 102), .int (nI 107)]) (σ1 := σ) rfl ?_
    refine tw_biF (c := .eq) rfl (by rw [tw_ceq', tw_neq (by omega) (by omega)] <;> omega) ?_
    show tw_P L xs _ 193 17 [.ref 88, .int (nI 107), .int (nI nd), tw_U, tw_U] [] σ _
    refine tw_sg 2 (i1 := 19) (ls1 := [.ref 88, .int (nI 107), .int (nI nd), tw_U, tw_U]) (st1 := [.int (nI 98), .int (nI 107)]) (σ1 := σ) rfl ?_
    refine tw_biF (c := .eq) rfl (by rw [tw_ceq', tw_neq (by omega) (by omega)] <;> omega) ?_
    show tw_P L xs _ 193 20 [.ref 88, .int (nI 107), .int (nI nd), tw_U, tw_U] [] σ _
    refine tw_sg 2 (i1 := 22) (ls1 := [.ref 88, .int (nI 107), .int (nI nd), tw_U, tw_U]) (st1 := [.int (nI 104), .int (nI 107)]) (σ1 := σ) rfl ?_
    refine tw_biT (c := .ne) rfl (by rw [tw_cne, tw_neq (by omega) (by omega)] <;> omega) ?_
    show tw_P L xs _ 193 48 [.ref 88, .int (nI 107), .int (nI nd), tw_U, tw_U] [] σ _
    refine tw_sg 2 (i1 := 50) (ls1 := [.ref 88, .int (nI 107), .int (nI nd), tw_U, tw_U]) (st1 := [.int (nI 107), .int (nI 107)]) (σ1 := σ) rfl ?_
    refine tw_biT (c := .eq) rfl (by rw [tw_ceq, tw_neq (by omega) (by omega)] <;> omega) ?_
    show tw_P L xs _ 193 60 [.ref 88, .int (nI 107), .int (nI nd), tw_U, tw_U] [] σ _
    refine tw_sg 5 (i1 := 66) (ls1 := [.ref 88, .int (nI 107), .int (nI nd), .int (nI 1), tw_U]) (st1 := [.int (nI 115), .int (nI 107)]) (σ1 := σ) rfl ?_
    refine tw_biF (c := .eq) rfl (by rw [tw_ceq', tw_neq (by omega) (by omega)] <;> omega) ?_
    show tw_P L xs _ 193 67 [.ref 88, .int (nI 107), .int (nI nd), .int (nI 1), tw_U] [] σ _
    refine tw_sg 2 (i1 := 69) (ls1 := [.ref 88, .int (nI 107), .int (nI nd), .int (nI 1), tw_U]) (st1 := [.int (nI 100), .int (nI 107)]) (σ1 := σ) rfl ?_
    refine tw_biF (c := .eq) rfl (by rw [tw_ceq', tw_neq (by omega) (by omega)] <;> omega) ?_
    show tw_P L xs _ 193 70 [.ref 88, .int (nI 107), .int (nI nd), .int (nI 1), tw_U] [] σ _
    refine tw_sg 2 (i1 := 72) (ls1 := [.ref 88, .int (nI 107), .int (nI nd), .int (nI 1), tw_U]) (st1 := [.int (nI 114), .int (nI 107)]) (σ1 := σ) rfl ?_
    refine tw_biF (c := .eq) rfl (by rw [tw_ceq', tw_neq (by omega) (by omega)] <;> omega) ?_
    show tw_P L xs _ 193 73 [.ref 88, .int (nI 107), .int (nI nd), .int (nI 1), tw_U] [] σ _
    refine tw_sg 2 (i1 := 75) (ls1 := [.ref 88, .int (nI 107), .int (nI nd), .int (nI 1), tw_U]) (st1 := [.int (nI 109), .int (nI 107)]) (σ1 := σ) rfl ?_
    refine tw_biT (c := .ne) rfl (by rw [tw_cne, tw_neq (by omega) (by omega)] <;> omega) ?_
    show tw_P L xs _ 193 78 [.ref 88, .int (nI 107), .int (nI nd), .int (nI 1), tw_U] [] σ _
    refine tw_sg 3 (i1 := 81) (ls1 := [.ref 88, .int (nI 107), .int (nI nd), .int (nI 1), .int (nI 0)]) (st1 := [.int (nI 1)]) (σ1 := σ) rfl ?_
    refine tw_bzT (c := .ne) rfl (by rw [tw_cne, tw_neq (by omega) (by omega)] <;> omega) ?_
    show tw_P L xs _ 193 87 [.ref 88, .int (nI 107), .int (nI nd), .int (nI 1), .int (nI 0)] [] σ _
    refine tw_sgn 3 (i1 := 90) (ls0 := [.ref 88, .int (nI 107), .int (nI nd), .int (nI 1), .int (nI 0)]) (st0 := [.int (nI 6), .int (σ 88 20)]) (σ0 := σ) (ls1 := [.ref 88, .int (nI 107), .int (nI nd), .int (nI 1), .int (nI 0)]) (st1 := [.int (nI 6), .int (nI op)]) (σ1 := σ) rfl (rfl) (by simp only [hop, tw_nadd, tw_nmul]) (rfl) ?_
    refine tw_biT (c := .ne) rfl (by rw [tw_cne] <;> (rw [tw_neq (by omega) (by omega)]; omega)) ?_
    show tw_P L xs _ 193 97 [.ref 88, .int (nI 107), .int (nI nd), .int (nI 1), .int (nI 0)] [] σ _
    rw [e0] at hQ
    exact hQ _ _ (tw_blT (by unfold tw_numd; omega)).symm (tw_blF (fun g => g (by unfold tw_pair; omega))).symm
  · skip
    refine tw_sgn 2 (i1 := 2) (ls0 := [.ref 88, tw_U, tw_U, tw_U, tw_U]) (st0 := [.int (σ 88 19)]) (σ0 := σ) (ls1 := [.ref 88, tw_U, tw_U, tw_U, tw_U]) (st1 := [.int (-1)]) (σ1 := σ) rfl (rfl) (by simp only [h3, tw_nadd, tw_nmul]) (rfl) ?_
    refine tw_bzT (c := .lt) rfl (by rw [tw_clt] <;> (exact (by decide))) ?_
    show tw_P L xs _ 193 5 [.ref 88, tw_U, tw_U, tw_U, tw_U] [] σ _
    refine tw_sg 1 (i1 := 6) (ls1 := [.ref 88, tw_U, tw_U, tw_U, tw_U]) (st1 := [.ref 88]) (σ1 := σ) rfl ?_
    refine tw_cl1 rfl (rfl) (by omega) (tw_E_mono (tw_e_hre hC hT h2 (by omega)) (fun v σ1 h => (⟨h.1.trans (by rw [tw_hv1 (by omega), e0]), h.2⟩ : v = some (.int (nI 99)) ∧ σ = σ1))) ?_
    rintro _ _ ⟨rfl, rfl⟩
    show tw_P L xs _ 193 7 [.ref 88, tw_U, tw_U, tw_U, tw_U] [.int (nI 99)] σ _
    refine tw_sgn 6 (i1 := 13) (ls0 := [.ref 88, .int (nI 99), .int (σ 88 21), tw_U, tw_U]) (st0 := [.int (nI 105), .int (nI 99)]) (σ0 := σ) (ls1 := [.ref 88, .int (nI 99), .int (nI nd), tw_U, tw_U]) (st1 := [.int (nI 105), .int (nI 99)]) (σ1 := σ) rfl (by simp only [h4, tw_nadd, tw_nmul]) (rfl) (rfl) ?_
    refine tw_biF (c := .eq) rfl (by rw [tw_ceq', tw_neq (by omega) (by omega)] <;> omega) ?_
    show tw_P L xs _ 193 14 [.ref 88, .int (nI 99), .int (nI nd), tw_U, tw_U] [] σ _
    refine tw_sg 2 (i1 := 16) (ls1 := [.ref 88, .int (nI 99), .int (nI nd), tw_U, tw_U]) (st1 := [.int (nI 102), .int (nI 99)]) (σ1 := σ) rfl ?_
    refine tw_biF (c := .eq) rfl (by rw [tw_ceq', tw_neq (by omega) (by omega)] <;> omega) ?_
    show tw_P L xs _ 193 17 [.ref 88, .int (nI 99), .int (nI nd), tw_U, tw_U] [] σ _
    refine tw_sg 2 (i1 := 19) (ls1 := [.ref 88, .int (nI 99), .int (nI nd), tw_U, tw_U]) (st1 := [.int (nI 98), .int (nI 99)]) (σ1 := σ) rfl ?_
    refine tw_biF (c := .eq) rfl (by rw [tw_ceq', tw_neq (by omega) (by omega)] <;> omega) ?_
    show tw_P L xs _ 193 20 [.ref 88, .int (nI 99), .int (nI nd), tw_U, tw_U] [] σ _
    refine tw_sg 2 (i1 := 22) (ls1 := [.ref 88, .int (nI 99), .int (nI nd), tw_U, tw_U]) (st1 := [.int (nI 104), .int (nI 99)]) (σ1 := σ) rfl ?_
    refine tw_biT (c := .ne) rfl (by rw [tw_cne, tw_neq (by omega) (by omega)] <;> omega) ?_
    show tw_P L xs _ 193 48 [.ref 88, .int (nI 99), .int (nI nd), tw_U, tw_U] [] σ _
    refine tw_sg 2 (i1 := 50) (ls1 := [.ref 88, .int (nI 99), .int (nI nd), tw_U, tw_U]) (st1 := [.int (nI 107), .int (nI 99)]) (σ1 := σ) rfl ?_
    refine tw_biF (c := .eq) rfl (by rw [tw_ceq', tw_neq (by omega) (by omega)] <;> omega) ?_
    show tw_P L xs _ 193 51 [.ref 88, .int (nI 99), .int (nI nd), tw_U, tw_U] [] σ _
    refine tw_sg 2 (i1 := 53) (ls1 := [.ref 88, .int (nI 99), .int (nI nd), tw_U, tw_U]) (st1 := [.int (nI 99), .int (nI 99)]) (σ1 := σ) rfl ?_
    refine tw_biT (c := .eq) rfl (by rw [tw_ceq, tw_neq (by omega) (by omega)] <;> omega) ?_
    show tw_P L xs _ 193 60 [.ref 88, .int (nI 99), .int (nI nd), tw_U, tw_U] [] σ _
    refine tw_sg 5 (i1 := 66) (ls1 := [.ref 88, .int (nI 99), .int (nI nd), .int (nI 1), tw_U]) (st1 := [.int (nI 115), .int (nI 99)]) (σ1 := σ) rfl ?_
    refine tw_biF (c := .eq) rfl (by rw [tw_ceq', tw_neq (by omega) (by omega)] <;> omega) ?_
    show tw_P L xs _ 193 67 [.ref 88, .int (nI 99), .int (nI nd), .int (nI 1), tw_U] [] σ _
    refine tw_sg 2 (i1 := 69) (ls1 := [.ref 88, .int (nI 99), .int (nI nd), .int (nI 1), tw_U]) (st1 := [.int (nI 100), .int (nI 99)]) (σ1 := σ) rfl ?_
    refine tw_biF (c := .eq) rfl (by rw [tw_ceq', tw_neq (by omega) (by omega)] <;> omega) ?_
    show tw_P L xs _ 193 70 [.ref 88, .int (nI 99), .int (nI nd), .int (nI 1), tw_U] [] σ _
    refine tw_sg 2 (i1 := 72) (ls1 := [.ref 88, .int (nI 99), .int (nI nd), .int (nI 1), tw_U]) (st1 := [.int (nI 114), .int (nI 99)]) (σ1 := σ) rfl ?_
    refine tw_biF (c := .eq) rfl (by rw [tw_ceq', tw_neq (by omega) (by omega)] <;> omega) ?_
    show tw_P L xs _ 193 73 [.ref 88, .int (nI 99), .int (nI nd), .int (nI 1), tw_U] [] σ _
    refine tw_sg 2 (i1 := 75) (ls1 := [.ref 88, .int (nI 99), .int (nI nd), .int (nI 1), tw_U]) (st1 := [.int (nI 109), .int (nI 99)]) (σ1 := σ) rfl ?_
    refine tw_biT (c := .ne) rfl (by rw [tw_cne, tw_neq (by omega) (by omega)] <;> omega) ?_
    show tw_P L xs _ 193 78 [.ref 88, .int (nI 99), .int (nI nd), .int (nI 1), tw_U] [] σ _
    refine tw_sg 3 (i1 := 81) (ls1 := [.ref 88, .int (nI 99), .int (nI nd), .int (nI 1), .int (nI 0)]) (st1 := [.int (nI 1)]) (σ1 := σ) rfl ?_
    refine tw_bzT (c := .ne) rfl (by rw [tw_cne, tw_neq (by omega) (by omega)] <;> omega) ?_
    show tw_P L xs _ 193 87 [.ref 88, .int (nI 99), .int (nI nd), .int (nI 1), .int (nI 0)] [] σ _
    refine tw_sgn 3 (i1 := 90) (ls0 := [.ref 88, .int (nI 99), .int (nI nd), .int (nI 1), .int (nI 0)]) (st0 := [.int (nI 6), .int (σ 88 20)]) (σ0 := σ) (ls1 := [.ref 88, .int (nI 99), .int (nI nd), .int (nI 1), .int (nI 0)]) (st1 := [.int (nI 6), .int (nI op)]) (σ1 := σ) rfl (rfl) (by simp only [hop, tw_nadd, tw_nmul]) (rfl) ?_
    refine tw_biT (c := .ne) rfl (by rw [tw_cne] <;> (rw [tw_neq (by omega) (by omega)]; omega)) ?_
    show tw_P L xs _ 193 97 [.ref 88, .int (nI 99), .int (nI nd), .int (nI 1), .int (nI 0)] [] σ _
    rw [e0] at hQ
    exact hQ _ _ (tw_blT (by unfold tw_numd; omega)).symm (tw_blF (fun g => g (by unfold tw_pair; omega))).symm
  · skip
    refine tw_sgn 2 (i1 := 2) (ls0 := [.ref 88, tw_U, tw_U, tw_U, tw_U]) (st0 := [.int (σ 88 19)]) (σ0 := σ) (ls1 := [.ref 88, tw_U, tw_U, tw_U, tw_U]) (st1 := [.int (-1)]) (σ1 := σ) rfl (rfl) (by simp only [h3, tw_nadd, tw_nmul]) (rfl) ?_
    refine tw_bzT (c := .lt) rfl (by rw [tw_clt] <;> (exact (by decide))) ?_
    show tw_P L xs _ 193 5 [.ref 88, tw_U, tw_U, tw_U, tw_U] [] σ _
    refine tw_sg 1 (i1 := 6) (ls1 := [.ref 88, tw_U, tw_U, tw_U, tw_U]) (st1 := [.ref 88]) (σ1 := σ) rfl ?_
    refine tw_cl1 rfl (rfl) (by omega) (tw_E_mono (tw_e_hre hC hT h2 (by omega)) (fun v σ1 h => (⟨h.1.trans (by rw [tw_hv1 (by omega), e0]), h.2⟩ : v = some (.int (nI 120)) ∧ σ = σ1))) ?_
    rintro _ _ ⟨rfl, rfl⟩
    show tw_P L xs _ 193 7 [.ref 88, tw_U, tw_U, tw_U, tw_U] [.int (nI 120)] σ _
    refine tw_sgn 6 (i1 := 13) (ls0 := [.ref 88, .int (nI 120), .int (σ 88 21), tw_U, tw_U]) (st0 := [.int (nI 105), .int (nI 120)]) (σ0 := σ) (ls1 := [.ref 88, .int (nI 120), .int (nI nd), tw_U, tw_U]) (st1 := [.int (nI 105), .int (nI 120)]) (σ1 := σ) rfl (by simp only [h4, tw_nadd, tw_nmul]) (rfl) (rfl) ?_
    refine tw_biF (c := .eq) rfl (by rw [tw_ceq', tw_neq (by omega) (by omega)] <;> omega) ?_
    show tw_P L xs _ 193 14 [.ref 88, .int (nI 120), .int (nI nd), tw_U, tw_U] [] σ _
    refine tw_sg 2 (i1 := 16) (ls1 := [.ref 88, .int (nI 120), .int (nI nd), tw_U, tw_U]) (st1 := [.int (nI 102), .int (nI 120)]) (σ1 := σ) rfl ?_
    refine tw_biF (c := .eq) rfl (by rw [tw_ceq', tw_neq (by omega) (by omega)] <;> omega) ?_
    show tw_P L xs _ 193 17 [.ref 88, .int (nI 120), .int (nI nd), tw_U, tw_U] [] σ _
    refine tw_sg 2 (i1 := 19) (ls1 := [.ref 88, .int (nI 120), .int (nI nd), tw_U, tw_U]) (st1 := [.int (nI 98), .int (nI 120)]) (σ1 := σ) rfl ?_
    refine tw_biF (c := .eq) rfl (by rw [tw_ceq', tw_neq (by omega) (by omega)] <;> omega) ?_
    show tw_P L xs _ 193 20 [.ref 88, .int (nI 120), .int (nI nd), tw_U, tw_U] [] σ _
    refine tw_sg 2 (i1 := 22) (ls1 := [.ref 88, .int (nI 120), .int (nI nd), tw_U, tw_U]) (st1 := [.int (nI 104), .int (nI 120)]) (σ1 := σ) rfl ?_
    refine tw_biT (c := .ne) rfl (by rw [tw_cne, tw_neq (by omega) (by omega)] <;> omega) ?_
    show tw_P L xs _ 193 48 [.ref 88, .int (nI 120), .int (nI nd), tw_U, tw_U] [] σ _
    refine tw_sg 2 (i1 := 50) (ls1 := [.ref 88, .int (nI 120), .int (nI nd), tw_U, tw_U]) (st1 := [.int (nI 107), .int (nI 120)]) (σ1 := σ) rfl ?_
    refine tw_biF (c := .eq) rfl (by rw [tw_ceq', tw_neq (by omega) (by omega)] <;> omega) ?_
    show tw_P L xs _ 193 51 [.ref 88, .int (nI 120), .int (nI nd), tw_U, tw_U] [] σ _
    refine tw_sg 2 (i1 := 53) (ls1 := [.ref 88, .int (nI 120), .int (nI nd), tw_U, tw_U]) (st1 := [.int (nI 99), .int (nI 120)]) (σ1 := σ) rfl ?_
    refine tw_biF (c := .eq) rfl (by rw [tw_ceq', tw_neq (by omega) (by omega)] <;> omega) ?_
    show tw_P L xs _ 193 54 [.ref 88, .int (nI 120), .int (nI nd), tw_U, tw_U] [] σ _
    refine tw_sg 2 (i1 := 56) (ls1 := [.ref 88, .int (nI 120), .int (nI nd), tw_U, tw_U]) (st1 := [.int (nI 120), .int (nI 120)]) (σ1 := σ) rfl ?_
    refine tw_biT (c := .eq) rfl (by rw [tw_ceq, tw_neq (by omega) (by omega)] <;> omega) ?_
    show tw_P L xs _ 193 60 [.ref 88, .int (nI 120), .int (nI nd), tw_U, tw_U] [] σ _
    refine tw_sg 5 (i1 := 66) (ls1 := [.ref 88, .int (nI 120), .int (nI nd), .int (nI 1), tw_U]) (st1 := [.int (nI 115), .int (nI 120)]) (σ1 := σ) rfl ?_
    refine tw_biF (c := .eq) rfl (by rw [tw_ceq', tw_neq (by omega) (by omega)] <;> omega) ?_
    show tw_P L xs _ 193 67 [.ref 88, .int (nI 120), .int (nI nd), .int (nI 1), tw_U] [] σ _
    refine tw_sg 2 (i1 := 69) (ls1 := [.ref 88, .int (nI 120), .int (nI nd), .int (nI 1), tw_U]) (st1 := [.int (nI 100), .int (nI 120)]) (σ1 := σ) rfl ?_
    refine tw_biF (c := .eq) rfl (by rw [tw_ceq', tw_neq (by omega) (by omega)] <;> omega) ?_
    show tw_P L xs _ 193 70 [.ref 88, .int (nI 120), .int (nI nd), .int (nI 1), tw_U] [] σ _
    refine tw_sg 2 (i1 := 72) (ls1 := [.ref 88, .int (nI 120), .int (nI nd), .int (nI 1), tw_U]) (st1 := [.int (nI 114), .int (nI 120)]) (σ1 := σ) rfl ?_
    refine tw_biF (c := .eq) rfl (by rw [tw_ceq', tw_neq (by omega) (by omega)] <;> omega) ?_
    show tw_P L xs _ 193 73 [.ref 88, .int (nI 120), .int (nI nd), .int (nI 1), tw_U] [] σ _
    refine tw_sg 2 (i1 := 75) (ls1 := [.ref 88, .int (nI 120), .int (nI nd), .int (nI 1), tw_U]) (st1 := [.int (nI 109), .int (nI 120)]) (σ1 := σ) rfl ?_
    refine tw_biT (c := .ne) rfl (by rw [tw_cne, tw_neq (by omega) (by omega)] <;> omega) ?_
    show tw_P L xs _ 193 78 [.ref 88, .int (nI 120), .int (nI nd), .int (nI 1), tw_U] [] σ _
    refine tw_sg 3 (i1 := 81) (ls1 := [.ref 88, .int (nI 120), .int (nI nd), .int (nI 1), .int (nI 0)]) (st1 := [.int (nI 1)]) (σ1 := σ) rfl ?_
    refine tw_bzT (c := .ne) rfl (by rw [tw_cne, tw_neq (by omega) (by omega)] <;> omega) ?_
    show tw_P L xs _ 193 87 [.ref 88, .int (nI 120), .int (nI nd), .int (nI 1), .int (nI 0)] [] σ _
    refine tw_sgn 3 (i1 := 90) (ls0 := [.ref 88, .int (nI 120), .int (nI nd), .int (nI 1), .int (nI 0)]) (st0 := [.int (nI 6), .int (σ 88 20)]) (σ0 := σ) (ls1 := [.ref 88, .int (nI 120), .int (nI nd), .int (nI 1), .int (nI 0)]) (st1 := [.int (nI 6), .int (nI op)]) (σ1 := σ) rfl (rfl) (by simp only [hop, tw_nadd, tw_nmul]) (rfl) ?_
    refine tw_biT (c := .ne) rfl (by rw [tw_cne] <;> (rw [tw_neq (by omega) (by omega)]; omega)) ?_
    show tw_P L xs _ 193 97 [.ref 88, .int (nI 120), .int (nI nd), .int (nI 1), .int (nI 0)] [] σ _
    rw [e0] at hQ
    exact hQ _ _ (tw_blT (by unfold tw_numd; omega)).symm (tw_blF (fun g => g (by unfold tw_pair; omega))).symm
  · skip
    refine tw_sgn 2 (i1 := 2) (ls0 := [.ref 88, tw_U, tw_U, tw_U, tw_U]) (st0 := [.int (σ 88 19)]) (σ0 := σ) (ls1 := [.ref 88, tw_U, tw_U, tw_U, tw_U]) (st1 := [.int (-1)]) (σ1 := σ) rfl (rfl) (by simp only [h3, tw_nadd, tw_nmul]) (rfl) ?_
    refine tw_bzT (c := .lt) rfl (by rw [tw_clt] <;> (exact (by decide))) ?_
    show tw_P L xs _ 193 5 [.ref 88, tw_U, tw_U, tw_U, tw_U] [] σ _
    refine tw_sg 1 (i1 := 6) (ls1 := [.ref 88, tw_U, tw_U, tw_U, tw_U]) (st1 := [.ref 88]) (σ1 := σ) rfl ?_
    refine tw_cl1 rfl (rfl) (by omega) (tw_E_mono (tw_e_hre hC hT h2 (by omega)) (fun v σ1 h => (⟨h.1.trans (by rw [tw_hv1 (by omega), e0]), h.2⟩ : v = some (.int (nI 115)) ∧ σ = σ1))) ?_
    rintro _ _ ⟨rfl, rfl⟩
    show tw_P L xs _ 193 7 [.ref 88, tw_U, tw_U, tw_U, tw_U] [.int (nI 115)] σ _
    refine tw_sgn 6 (i1 := 13) (ls0 := [.ref 88, .int (nI 115), .int (σ 88 21), tw_U, tw_U]) (st0 := [.int (nI 105), .int (nI 115)]) (σ0 := σ) (ls1 := [.ref 88, .int (nI 115), .int (nI nd), tw_U, tw_U]) (st1 := [.int (nI 105), .int (nI 115)]) (σ1 := σ) rfl (by simp only [h4, tw_nadd, tw_nmul]) (rfl) (rfl) ?_
    refine tw_biF (c := .eq) rfl (by rw [tw_ceq', tw_neq (by omega) (by omega)] <;> omega) ?_
    show tw_P L xs _ 193 14 [.ref 88, .int (nI 115), .int (nI nd), tw_U, tw_U] [] σ _
    refine tw_sg 2 (i1 := 16) (ls1 := [.ref 88, .int (nI 115), .int (nI nd), tw_U, tw_U]) (st1 := [.int (nI 102), .int (nI 115)]) (σ1 := σ) rfl ?_
    refine tw_biF (c := .eq) rfl (by rw [tw_ceq', tw_neq (by omega) (by omega)] <;> omega) ?_
    show tw_P L xs _ 193 17 [.ref 88, .int (nI 115), .int (nI nd), tw_U, tw_U] [] σ _
    refine tw_sg 2 (i1 := 19) (ls1 := [.ref 88, .int (nI 115), .int (nI nd), tw_U, tw_U]) (st1 := [.int (nI 98), .int (nI 115)]) (σ1 := σ) rfl ?_
    refine tw_biF (c := .eq) rfl (by rw [tw_ceq', tw_neq (by omega) (by omega)] <;> omega) ?_
    show tw_P L xs _ 193 20 [.ref 88, .int (nI 115), .int (nI nd), tw_U, tw_U] [] σ _
    refine tw_sg 2 (i1 := 22) (ls1 := [.ref 88, .int (nI 115), .int (nI nd), tw_U, tw_U]) (st1 := [.int (nI 104), .int (nI 115)]) (σ1 := σ) rfl ?_
    refine tw_biT (c := .ne) rfl (by rw [tw_cne, tw_neq (by omega) (by omega)] <;> omega) ?_
    show tw_P L xs _ 193 48 [.ref 88, .int (nI 115), .int (nI nd), tw_U, tw_U] [] σ _
    refine tw_sg 2 (i1 := 50) (ls1 := [.ref 88, .int (nI 115), .int (nI nd), tw_U, tw_U]) (st1 := [.int (nI 107), .int (nI 115)]) (σ1 := σ) rfl ?_
    refine tw_biF (c := .eq) rfl (by rw [tw_ceq', tw_neq (by omega) (by omega)] <;> omega) ?_
    show tw_P L xs _ 193 51 [.ref 88, .int (nI 115), .int (nI nd), tw_U, tw_U] [] σ _
    refine tw_sg 2 (i1 := 53) (ls1 := [.ref 88, .int (nI 115), .int (nI nd), tw_U, tw_U]) (st1 := [.int (nI 99), .int (nI 115)]) (σ1 := σ) rfl ?_
    refine tw_biF (c := .eq) rfl (by rw [tw_ceq', tw_neq (by omega) (by omega)] <;> omega) ?_
    show tw_P L xs _ 193 54 [.ref 88, .int (nI 115), .int (nI nd), tw_U, tw_U] [] σ _
    refine tw_sg 2 (i1 := 56) (ls1 := [.ref 88, .int (nI 115), .int (nI nd), tw_U, tw_U]) (st1 := [.int (nI 120), .int (nI 115)]) (σ1 := σ) rfl ?_
    refine tw_biF (c := .eq) rfl (by rw [tw_ceq', tw_neq (by omega) (by omega)] <;> omega) ?_
    show tw_P L xs _ 193 57 [.ref 88, .int (nI 115), .int (nI nd), tw_U, tw_U] [] σ _
    refine tw_sg 2 (i1 := 59) (ls1 := [.ref 88, .int (nI 115), .int (nI nd), tw_U, tw_U]) (st1 := [.int (nI 115), .int (nI 115)]) (σ1 := σ) rfl ?_
    refine tw_biF (c := .ne) rfl (by rw [tw_cne', tw_neq (by omega) (by omega)] <;> omega) ?_
    show tw_P L xs _ 193 60 [.ref 88, .int (nI 115), .int (nI nd), tw_U, tw_U] [] σ _
    refine tw_sg 5 (i1 := 66) (ls1 := [.ref 88, .int (nI 115), .int (nI nd), .int (nI 1), tw_U]) (st1 := [.int (nI 115), .int (nI 115)]) (σ1 := σ) rfl ?_
    refine tw_biT (c := .eq) rfl (by rw [tw_ceq, tw_neq (by omega) (by omega)] <;> omega) ?_
    show tw_P L xs _ 193 76 [.ref 88, .int (nI 115), .int (nI nd), .int (nI 1), tw_U] [] σ _
    refine tw_sg 4 (i1 := 81) (ls1 := [.ref 88, .int (nI 115), .int (nI nd), .int (nI 1), .int (nI 1)]) (st1 := [.int (nI 1)]) (σ1 := σ) rfl ?_
    refine tw_bzT (c := .ne) rfl (by rw [tw_cne, tw_neq (by omega) (by omega)] <;> omega) ?_
    show tw_P L xs _ 193 87 [.ref 88, .int (nI 115), .int (nI nd), .int (nI 1), .int (nI 1)] [] σ _
    refine tw_sgn 3 (i1 := 90) (ls0 := [.ref 88, .int (nI 115), .int (nI nd), .int (nI 1), .int (nI 1)]) (st0 := [.int (nI 6), .int (σ 88 20)]) (σ0 := σ) (ls1 := [.ref 88, .int (nI 115), .int (nI nd), .int (nI 1), .int (nI 1)]) (st1 := [.int (nI 6), .int (nI op)]) (σ1 := σ) rfl (rfl) (by simp only [hop, tw_nadd, tw_nmul]) (rfl) ?_
    refine tw_biT (c := .ne) rfl (by rw [tw_cne] <;> (rw [tw_neq (by omega) (by omega)]; omega)) ?_
    show tw_P L xs _ 193 97 [.ref 88, .int (nI 115), .int (nI nd), .int (nI 1), .int (nI 1)] [] σ _
    rw [e0] at hQ
    exact hQ _ _ (tw_blT (by unfold tw_numd; omega)).symm (tw_blT (by unfold tw_pair; omega)).symm
  · skip
    refine tw_sgn 2 (i1 := 2) (ls0 := [.ref 88, tw_U, tw_U, tw_U, tw_U]) (st0 := [.int (σ 88 19)]) (σ0 := σ) (ls1 := [.ref 88, tw_U, tw_U, tw_U, tw_U]) (st1 := [.int (-1)]) (σ1 := σ) rfl (rfl) (by simp only [h3, tw_nadd, tw_nmul]) (rfl) ?_
    refine tw_bzT (c := .lt) rfl (by rw [tw_clt] <;> (exact (by decide))) ?_
    show tw_P L xs _ 193 5 [.ref 88, tw_U, tw_U, tw_U, tw_U] [] σ _
    refine tw_sg 1 (i1 := 6) (ls1 := [.ref 88, tw_U, tw_U, tw_U, tw_U]) (st1 := [.ref 88]) (σ1 := σ) rfl ?_
    refine tw_cl1 rfl (rfl) (by omega) (tw_E_mono (tw_e_hre hC hT h2 (by omega)) (fun v σ1 h => (⟨h.1.trans (by rw [tw_hv1 (by omega), e0]), h.2⟩ : v = some (.int (nI 100)) ∧ σ = σ1))) ?_
    rintro _ _ ⟨rfl, rfl⟩
    show tw_P L xs _ 193 7 [.ref 88, tw_U, tw_U, tw_U, tw_U] [.int (nI 100)] σ _
    refine tw_sgn 6 (i1 := 13) (ls0 := [.ref 88, .int (nI 100), .int (σ 88 21), tw_U, tw_U]) (st0 := [.int (nI 105), .int (nI 100)]) (σ0 := σ) (ls1 := [.ref 88, .int (nI 100), .int (nI nd), tw_U, tw_U]) (st1 := [.int (nI 105), .int (nI 100)]) (σ1 := σ) rfl (by simp only [h4, tw_nadd, tw_nmul]) (rfl) (rfl) ?_
    refine tw_biF (c := .eq) rfl (by rw [tw_ceq', tw_neq (by omega) (by omega)] <;> omega) ?_
    show tw_P L xs _ 193 14 [.ref 88, .int (nI 100), .int (nI nd), tw_U, tw_U] [] σ _
    refine tw_sg 2 (i1 := 16) (ls1 := [.ref 88, .int (nI 100), .int (nI nd), tw_U, tw_U]) (st1 := [.int (nI 102), .int (nI 100)]) (σ1 := σ) rfl ?_
    refine tw_biF (c := .eq) rfl (by rw [tw_ceq', tw_neq (by omega) (by omega)] <;> omega) ?_
    show tw_P L xs _ 193 17 [.ref 88, .int (nI 100), .int (nI nd), tw_U, tw_U] [] σ _
    refine tw_sg 2 (i1 := 19) (ls1 := [.ref 88, .int (nI 100), .int (nI nd), tw_U, tw_U]) (st1 := [.int (nI 98), .int (nI 100)]) (σ1 := σ) rfl ?_
    refine tw_biF (c := .eq) rfl (by rw [tw_ceq', tw_neq (by omega) (by omega)] <;> omega) ?_
    show tw_P L xs _ 193 20 [.ref 88, .int (nI 100), .int (nI nd), tw_U, tw_U] [] σ _
    refine tw_sg 2 (i1 := 22) (ls1 := [.ref 88, .int (nI 100), .int (nI nd), tw_U, tw_U]) (st1 := [.int (nI 104), .int (nI 100)]) (σ1 := σ) rfl ?_
    refine tw_biT (c := .ne) rfl (by rw [tw_cne, tw_neq (by omega) (by omega)] <;> omega) ?_
    show tw_P L xs _ 193 48 [.ref 88, .int (nI 100), .int (nI nd), tw_U, tw_U] [] σ _
    refine tw_sg 2 (i1 := 50) (ls1 := [.ref 88, .int (nI 100), .int (nI nd), tw_U, tw_U]) (st1 := [.int (nI 107), .int (nI 100)]) (σ1 := σ) rfl ?_
    refine tw_biF (c := .eq) rfl (by rw [tw_ceq', tw_neq (by omega) (by omega)] <;> omega) ?_
    show tw_P L xs _ 193 51 [.ref 88, .int (nI 100), .int (nI nd), tw_U, tw_U] [] σ _
    refine tw_sg 2 (i1 := 53) (ls1 := [.ref 88, .int (nI 100), .int (nI nd), tw_U, tw_U]) (st1 := [.int (nI 99), .int (nI 100)]) (σ1 := σ) rfl ?_
    refine tw_biF (c := .eq) rfl (by rw [tw_ceq', tw_neq (by omega) (by omega)] <;> omega) ?_
    show tw_P L xs _ 193 54 [.ref 88, .int (nI 100), .int (nI nd), tw_U, tw_U] [] σ _
    refine tw_sg 2 (i1 := 56) (ls1 := [.ref 88, .int (nI 100), .int (nI nd), tw_U, tw_U]) (st1 := [.int (nI 120), .int (nI 100)]) (σ1 := σ) rfl ?_
    refine tw_biF (c := .eq) rfl (by rw [tw_ceq', tw_neq (by omega) (by omega)] <;> omega) ?_
    show tw_P L xs _ 193 57 [.ref 88, .int (nI 100), .int (nI nd), tw_U, tw_U] [] σ _
    refine tw_sg 2 (i1 := 59) (ls1 := [.ref 88, .int (nI 100), .int (nI nd), tw_U, tw_U]) (st1 := [.int (nI 115), .int (nI 100)]) (σ1 := σ) rfl ?_
    refine tw_biT (c := .ne) rfl (by rw [tw_cne, tw_neq (by omega) (by omega)] <;> omega) ?_
    show tw_P L xs _ 193 62 [.ref 88, .int (nI 100), .int (nI nd), tw_U, tw_U] [] σ _
    refine tw_sg 4 (i1 := 66) (ls1 := [.ref 88, .int (nI 100), .int (nI nd), .int (nI 0), tw_U]) (st1 := [.int (nI 115), .int (nI 100)]) (σ1 := σ) rfl ?_
    refine tw_biF (c := .eq) rfl (by rw [tw_ceq', tw_neq (by omega) (by omega)] <;> omega) ?_
    show tw_P L xs _ 193 67 [.ref 88, .int (nI 100), .int (nI nd), .int (nI 0), tw_U] [] σ _
    refine tw_sg 2 (i1 := 69) (ls1 := [.ref 88, .int (nI 100), .int (nI nd), .int (nI 0), tw_U]) (st1 := [.int (nI 100), .int (nI 100)]) (σ1 := σ) rfl ?_
    refine tw_biT (c := .eq) rfl (by rw [tw_ceq, tw_neq (by omega) (by omega)] <;> omega) ?_
    show tw_P L xs _ 193 76 [.ref 88, .int (nI 100), .int (nI nd), .int (nI 0), tw_U] [] σ _
    refine tw_sg 4 (i1 := 81) (ls1 := [.ref 88, .int (nI 100), .int (nI nd), .int (nI 0), .int (nI 1)]) (st1 := [.int (nI 0)]) (σ1 := σ) rfl ?_
    refine tw_bzF (c := .ne) rfl (by rw [tw_cne', tw_neq (by omega) (by omega)] <;> omega) ?_
    show tw_P L xs _ 193 82 [.ref 88, .int (nI 100), .int (nI nd), .int (nI 0), .int (nI 1)] [] σ _
    refine tw_sg 1 (i1 := 83) (ls1 := [.ref 88, .int (nI 100), .int (nI nd), .int (nI 0), .int (nI 1)]) (st1 := [.int (nI 1)]) (σ1 := σ) rfl ?_
    refine tw_bzT (c := .ne) rfl (by rw [tw_cne, tw_neq (by omega) (by omega)] <;> omega) ?_
    show tw_P L xs _ 193 87 [.ref 88, .int (nI 100), .int (nI nd), .int (nI 0), .int (nI 1)] [] σ _
    refine tw_sgn 3 (i1 := 90) (ls0 := [.ref 88, .int (nI 100), .int (nI nd), .int (nI 0), .int (nI 1)]) (st0 := [.int (nI 6), .int (σ 88 20)]) (σ0 := σ) (ls1 := [.ref 88, .int (nI 100), .int (nI nd), .int (nI 0), .int (nI 1)]) (st1 := [.int (nI 6), .int (nI op)]) (σ1 := σ) rfl (rfl) (by simp only [hop, tw_nadd, tw_nmul]) (rfl) ?_
    refine tw_biT (c := .ne) rfl (by rw [tw_cne] <;> (rw [tw_neq (by omega) (by omega)]; omega)) ?_
    show tw_P L xs _ 193 97 [.ref 88, .int (nI 100), .int (nI nd), .int (nI 0), .int (nI 1)] [] σ _
    rw [e0] at hQ
    exact hQ _ _ (tw_blF (by unfold tw_numd; omega)).symm (tw_blT (by unfold tw_pair; omega)).symm
  · skip
    refine tw_sgn 2 (i1 := 2) (ls0 := [.ref 88, tw_U, tw_U, tw_U, tw_U]) (st0 := [.int (σ 88 19)]) (σ0 := σ) (ls1 := [.ref 88, tw_U, tw_U, tw_U, tw_U]) (st1 := [.int (-1)]) (σ1 := σ) rfl (rfl) (by simp only [h3, tw_nadd, tw_nmul]) (rfl) ?_
    refine tw_bzT (c := .lt) rfl (by rw [tw_clt] <;> (exact (by decide))) ?_
    show tw_P L xs _ 193 5 [.ref 88, tw_U, tw_U, tw_U, tw_U] [] σ _
    refine tw_sg 1 (i1 := 6) (ls1 := [.ref 88, tw_U, tw_U, tw_U, tw_U]) (st1 := [.ref 88]) (σ1 := σ) rfl ?_
    refine tw_cl1 rfl (rfl) (by omega) (tw_E_mono (tw_e_hre hC hT h2 (by omega)) (fun v σ1 h => (⟨h.1.trans (by rw [tw_hv1 (by omega), e0]), h.2⟩ : v = some (.int (nI 114)) ∧ σ = σ1))) ?_
    rintro _ _ ⟨rfl, rfl⟩
    show tw_P L xs _ 193 7 [.ref 88, tw_U, tw_U, tw_U, tw_U] [.int (nI 114)] σ _
    refine tw_sgn 6 (i1 := 13) (ls0 := [.ref 88, .int (nI 114), .int (σ 88 21), tw_U, tw_U]) (st0 := [.int (nI 105), .int (nI 114)]) (σ0 := σ) (ls1 := [.ref 88, .int (nI 114), .int (nI nd), tw_U, tw_U]) (st1 := [.int (nI 105), .int (nI 114)]) (σ1 := σ) rfl (by simp only [h4, tw_nadd, tw_nmul]) (rfl) (rfl) ?_
    refine tw_biF (c := .eq) rfl (by rw [tw_ceq', tw_neq (by omega) (by omega)] <;> omega) ?_
    show tw_P L xs _ 193 14 [.ref 88, .int (nI 114), .int (nI nd), tw_U, tw_U] [] σ _
    refine tw_sg 2 (i1 := 16) (ls1 := [.ref 88, .int (nI 114), .int (nI nd), tw_U, tw_U]) (st1 := [.int (nI 102), .int (nI 114)]) (σ1 := σ) rfl ?_
    refine tw_biF (c := .eq) rfl (by rw [tw_ceq', tw_neq (by omega) (by omega)] <;> omega) ?_
    show tw_P L xs _ 193 17 [.ref 88, .int (nI 114), .int (nI nd), tw_U, tw_U] [] σ _
    refine tw_sg 2 (i1 := 19) (ls1 := [.ref 88, .int (nI 114), .int (nI nd), tw_U, tw_U]) (st1 := [.int (nI 98), .int (nI 114)]) (σ1 := σ) rfl ?_
    refine tw_biF (c := .eq) rfl (by rw [tw_ceq', tw_neq (by omega) (by omega)] <;> omega) ?_
    show tw_P L xs _ 193 20 [.ref 88, .int (nI 114), .int (nI nd), tw_U, tw_U] [] σ _
    refine tw_sg 2 (i1 := 22) (ls1 := [.ref 88, .int (nI 114), .int (nI nd), tw_U, tw_U]) (st1 := [.int (nI 104), .int (nI 114)]) (σ1 := σ) rfl ?_
    refine tw_biT (c := .ne) rfl (by rw [tw_cne, tw_neq (by omega) (by omega)] <;> omega) ?_
    show tw_P L xs _ 193 48 [.ref 88, .int (nI 114), .int (nI nd), tw_U, tw_U] [] σ _
    refine tw_sg 2 (i1 := 50) (ls1 := [.ref 88, .int (nI 114), .int (nI nd), tw_U, tw_U]) (st1 := [.int (nI 107), .int (nI 114)]) (σ1 := σ) rfl ?_
    refine tw_biF (c := .eq) rfl (by rw [tw_ceq', tw_neq (by omega) (by omega)] <;> omega) ?_
    show tw_P L xs _ 193 51 [.ref 88, .int (nI 114), .int (nI nd), tw_U, tw_U] [] σ _
    refine tw_sg 2 (i1 := 53) (ls1 := [.ref 88, .int (nI 114), .int (nI nd), tw_U, tw_U]) (st1 := [.int (nI 99), .int (nI 114)]) (σ1 := σ) rfl ?_
    refine tw_biF (c := .eq) rfl (by rw [tw_ceq', tw_neq (by omega) (by omega)] <;> omega) ?_
    show tw_P L xs _ 193 54 [.ref 88, .int (nI 114), .int (nI nd), tw_U, tw_U] [] σ _
    refine tw_sg 2 (i1 := 56) (ls1 := [.ref 88, .int (nI 114), .int (nI nd), tw_U, tw_U]) (st1 := [.int (nI 120), .int (nI 114)]) (σ1 := σ) rfl ?_
    refine tw_biF (c := .eq) rfl (by rw [tw_ceq', tw_neq (by omega) (by omega)] <;> omega) ?_
    show tw_P L xs _ 193 57 [.ref 88, .int (nI 114), .int (nI nd), tw_U, tw_U] [] σ _
    refine tw_sg 2 (i1 := 59) (ls1 := [.ref 88, .int (nI 114), .int (nI nd), tw_U, tw_U]) (st1 := [.int (nI 115), .int (nI 114)]) (σ1 := σ) rfl ?_
    refine tw_biT (c := .ne) rfl (by rw [tw_cne, tw_neq (by omega) (by omega)] <;> omega) ?_
    show tw_P L xs _ 193 62 [.ref 88, .int (nI 114), .int (nI nd), tw_U, tw_U] [] σ _
    refine tw_sg 4 (i1 := 66) (ls1 := [.ref 88, .int (nI 114), .int (nI nd), .int (nI 0), tw_U]) (st1 := [.int (nI 115), .int (nI 114)]) (σ1 := σ) rfl ?_
    refine tw_biF (c := .eq) rfl (by rw [tw_ceq', tw_neq (by omega) (by omega)] <;> omega) ?_
    show tw_P L xs _ 193 67 [.ref 88, .int (nI 114), .int (nI nd), .int (nI 0), tw_U] [] σ _
    refine tw_sg 2 (i1 := 69) (ls1 := [.ref 88, .int (nI 114), .int (nI nd), .int (nI 0), tw_U]) (st1 := [.int (nI 100), .int (nI 114)]) (σ1 := σ) rfl ?_
    refine tw_biF (c := .eq) rfl (by rw [tw_ceq', tw_neq (by omega) (by omega)] <;> omega) ?_
    show tw_P L xs _ 193 70 [.ref 88, .int (nI 114), .int (nI nd), .int (nI 0), tw_U] [] σ _
    refine tw_sg 2 (i1 := 72) (ls1 := [.ref 88, .int (nI 114), .int (nI nd), .int (nI 0), tw_U]) (st1 := [.int (nI 114), .int (nI 114)]) (σ1 := σ) rfl ?_
    refine tw_biT (c := .eq) rfl (by rw [tw_ceq, tw_neq (by omega) (by omega)] <;> omega) ?_
    show tw_P L xs _ 193 76 [.ref 88, .int (nI 114), .int (nI nd), .int (nI 0), tw_U] [] σ _
    refine tw_sg 4 (i1 := 81) (ls1 := [.ref 88, .int (nI 114), .int (nI nd), .int (nI 0), .int (nI 1)]) (st1 := [.int (nI 0)]) (σ1 := σ) rfl ?_
    refine tw_bzF (c := .ne) rfl (by rw [tw_cne', tw_neq (by omega) (by omega)] <;> omega) ?_
    show tw_P L xs _ 193 82 [.ref 88, .int (nI 114), .int (nI nd), .int (nI 0), .int (nI 1)] [] σ _
    refine tw_sg 1 (i1 := 83) (ls1 := [.ref 88, .int (nI 114), .int (nI nd), .int (nI 0), .int (nI 1)]) (st1 := [.int (nI 1)]) (σ1 := σ) rfl ?_
    refine tw_bzT (c := .ne) rfl (by rw [tw_cne, tw_neq (by omega) (by omega)] <;> omega) ?_
    show tw_P L xs _ 193 87 [.ref 88, .int (nI 114), .int (nI nd), .int (nI 0), .int (nI 1)] [] σ _
    refine tw_sgn 3 (i1 := 90) (ls0 := [.ref 88, .int (nI 114), .int (nI nd), .int (nI 0), .int (nI 1)]) (st0 := [.int (nI 6), .int (σ 88 20)]) (σ0 := σ) (ls1 := [.ref 88, .int (nI 114), .int (nI nd), .int (nI 0), .int (nI 1)]) (st1 := [.int (nI 6), .int (nI op)]) (σ1 := σ) rfl (rfl) (by simp only [hop, tw_nadd, tw_nmul]) (rfl) ?_
    refine tw_biT (c := .ne) rfl (by rw [tw_cne] <;> (rw [tw_neq (by omega) (by omega)]; omega)) ?_
    show tw_P L xs _ 193 97 [.ref 88, .int (nI 114), .int (nI nd), .int (nI 0), .int (nI 1)] [] σ _
    rw [e0] at hQ
    exact hQ _ _ (tw_blF (by unfold tw_numd; omega)).symm (tw_blT (by unfold tw_pair; omega)).symm
  · skip
    refine tw_sgn 2 (i1 := 2) (ls0 := [.ref 88, tw_U, tw_U, tw_U, tw_U]) (st0 := [.int (σ 88 19)]) (σ0 := σ) (ls1 := [.ref 88, tw_U, tw_U, tw_U, tw_U]) (st1 := [.int (-1)]) (σ1 := σ) rfl (rfl) (by simp only [h3, tw_nadd, tw_nmul]) (rfl) ?_
    refine tw_bzT (c := .lt) rfl (by rw [tw_clt] <;> (exact (by decide))) ?_
    show tw_P L xs _ 193 5 [.ref 88, tw_U, tw_U, tw_U, tw_U] [] σ _
    refine tw_sg 1 (i1 := 6) (ls1 := [.ref 88, tw_U, tw_U, tw_U, tw_U]) (st1 := [.ref 88]) (σ1 := σ) rfl ?_
    refine tw_cl1 rfl (rfl) (by omega) (tw_E_mono (tw_e_hre hC hT h2 (by omega)) (fun v σ1 h => (⟨h.1.trans (by rw [tw_hv1 (by omega), e0]), h.2⟩ : v = some (.int (nI 109)) ∧ σ = σ1))) ?_
    rintro _ _ ⟨rfl, rfl⟩
    show tw_P L xs _ 193 7 [.ref 88, tw_U, tw_U, tw_U, tw_U] [.int (nI 109)] σ _
    refine tw_sgn 6 (i1 := 13) (ls0 := [.ref 88, .int (nI 109), .int (σ 88 21), tw_U, tw_U]) (st0 := [.int (nI 105), .int (nI 109)]) (σ0 := σ) (ls1 := [.ref 88, .int (nI 109), .int (nI nd), tw_U, tw_U]) (st1 := [.int (nI 105), .int (nI 109)]) (σ1 := σ) rfl (by simp only [h4, tw_nadd, tw_nmul]) (rfl) (rfl) ?_
    refine tw_biF (c := .eq) rfl (by rw [tw_ceq', tw_neq (by omega) (by omega)] <;> omega) ?_
    show tw_P L xs _ 193 14 [.ref 88, .int (nI 109), .int (nI nd), tw_U, tw_U] [] σ _
    refine tw_sg 2 (i1 := 16) (ls1 := [.ref 88, .int (nI 109), .int (nI nd), tw_U, tw_U]) (st1 := [.int (nI 102), .int (nI 109)]) (σ1 := σ) rfl ?_
    refine tw_biF (c := .eq) rfl (by rw [tw_ceq', tw_neq (by omega) (by omega)] <;> omega) ?_
    show tw_P L xs _ 193 17 [.ref 88, .int (nI 109), .int (nI nd), tw_U, tw_U] [] σ _
    refine tw_sg 2 (i1 := 19) (ls1 := [.ref 88, .int (nI 109), .int (nI nd), tw_U, tw_U]) (st1 := [.int (nI 98), .int (nI 109)]) (σ1 := σ) rfl ?_
    refine tw_biF (c := .eq) rfl (by rw [tw_ceq', tw_neq (by omega) (by omega)] <;> omega) ?_
    show tw_P L xs _ 193 20 [.ref 88, .int (nI 109), .int (nI nd), tw_U, tw_U] [] σ _
    refine tw_sg 2 (i1 := 22) (ls1 := [.ref 88, .int (nI 109), .int (nI nd), tw_U, tw_U]) (st1 := [.int (nI 104), .int (nI 109)]) (σ1 := σ) rfl ?_
    refine tw_biT (c := .ne) rfl (by rw [tw_cne, tw_neq (by omega) (by omega)] <;> omega) ?_
    show tw_P L xs _ 193 48 [.ref 88, .int (nI 109), .int (nI nd), tw_U, tw_U] [] σ _
    refine tw_sg 2 (i1 := 50) (ls1 := [.ref 88, .int (nI 109), .int (nI nd), tw_U, tw_U]) (st1 := [.int (nI 107), .int (nI 109)]) (σ1 := σ) rfl ?_
    refine tw_biF (c := .eq) rfl (by rw [tw_ceq', tw_neq (by omega) (by omega)] <;> omega) ?_
    show tw_P L xs _ 193 51 [.ref 88, .int (nI 109), .int (nI nd), tw_U, tw_U] [] σ _
    refine tw_sg 2 (i1 := 53) (ls1 := [.ref 88, .int (nI 109), .int (nI nd), tw_U, tw_U]) (st1 := [.int (nI 99), .int (nI 109)]) (σ1 := σ) rfl ?_
    refine tw_biF (c := .eq) rfl (by rw [tw_ceq', tw_neq (by omega) (by omega)] <;> omega) ?_
    show tw_P L xs _ 193 54 [.ref 88, .int (nI 109), .int (nI nd), tw_U, tw_U] [] σ _
    refine tw_sg 2 (i1 := 56) (ls1 := [.ref 88, .int (nI 109), .int (nI nd), tw_U, tw_U]) (st1 := [.int (nI 120), .int (nI 109)]) (σ1 := σ) rfl ?_
    refine tw_biF (c := .eq) rfl (by rw [tw_ceq', tw_neq (by omega) (by omega)] <;> omega) ?_
    show tw_P L xs _ 193 57 [.ref 88, .int (nI 109), .int (nI nd), tw_U, tw_U] [] σ _
    refine tw_sg 2 (i1 := 59) (ls1 := [.ref 88, .int (nI 109), .int (nI nd), tw_U, tw_U]) (st1 := [.int (nI 115), .int (nI 109)]) (σ1 := σ) rfl ?_
    refine tw_biT (c := .ne) rfl (by rw [tw_cne, tw_neq (by omega) (by omega)] <;> omega) ?_
    show tw_P L xs _ 193 62 [.ref 88, .int (nI 109), .int (nI nd), tw_U, tw_U] [] σ _
    refine tw_sg 4 (i1 := 66) (ls1 := [.ref 88, .int (nI 109), .int (nI nd), .int (nI 0), tw_U]) (st1 := [.int (nI 115), .int (nI 109)]) (σ1 := σ) rfl ?_
    refine tw_biF (c := .eq) rfl (by rw [tw_ceq', tw_neq (by omega) (by omega)] <;> omega) ?_
    show tw_P L xs _ 193 67 [.ref 88, .int (nI 109), .int (nI nd), .int (nI 0), tw_U] [] σ _
    refine tw_sg 2 (i1 := 69) (ls1 := [.ref 88, .int (nI 109), .int (nI nd), .int (nI 0), tw_U]) (st1 := [.int (nI 100), .int (nI 109)]) (σ1 := σ) rfl ?_
    refine tw_biF (c := .eq) rfl (by rw [tw_ceq', tw_neq (by omega) (by omega)] <;> omega) ?_
    show tw_P L xs _ 193 70 [.ref 88, .int (nI 109), .int (nI nd), .int (nI 0), tw_U] [] σ _
    refine tw_sg 2 (i1 := 72) (ls1 := [.ref 88, .int (nI 109), .int (nI nd), .int (nI 0), tw_U]) (st1 := [.int (nI 114), .int (nI 109)]) (σ1 := σ) rfl ?_
    refine tw_biF (c := .eq) rfl (by rw [tw_ceq', tw_neq (by omega) (by omega)] <;> omega) ?_
    show tw_P L xs _ 193 73 [.ref 88, .int (nI 109), .int (nI nd), .int (nI 0), tw_U] [] σ _
    refine tw_sg 2 (i1 := 75) (ls1 := [.ref 88, .int (nI 109), .int (nI nd), .int (nI 0), tw_U]) (st1 := [.int (nI 109), .int (nI 109)]) (σ1 := σ) rfl ?_
    refine tw_biF (c := .ne) rfl (by rw [tw_cne', tw_neq (by omega) (by omega)] <;> omega) ?_
    show tw_P L xs _ 193 76 [.ref 88, .int (nI 109), .int (nI nd), .int (nI 0), tw_U] [] σ _
    refine tw_sg 4 (i1 := 81) (ls1 := [.ref 88, .int (nI 109), .int (nI nd), .int (nI 0), .int (nI 1)]) (st1 := [.int (nI 0)]) (σ1 := σ) rfl ?_
    refine tw_bzF (c := .ne) rfl (by rw [tw_cne', tw_neq (by omega) (by omega)] <;> omega) ?_
    show tw_P L xs _ 193 82 [.ref 88, .int (nI 109), .int (nI nd), .int (nI 0), .int (nI 1)] [] σ _
    refine tw_sg 1 (i1 := 83) (ls1 := [.ref 88, .int (nI 109), .int (nI nd), .int (nI 0), .int (nI 1)]) (st1 := [.int (nI 1)]) (σ1 := σ) rfl ?_
    refine tw_bzT (c := .ne) rfl (by rw [tw_cne, tw_neq (by omega) (by omega)] <;> omega) ?_
    show tw_P L xs _ 193 87 [.ref 88, .int (nI 109), .int (nI nd), .int (nI 0), .int (nI 1)] [] σ _
    refine tw_sgn 3 (i1 := 90) (ls0 := [.ref 88, .int (nI 109), .int (nI nd), .int (nI 0), .int (nI 1)]) (st0 := [.int (nI 6), .int (σ 88 20)]) (σ0 := σ) (ls1 := [.ref 88, .int (nI 109), .int (nI nd), .int (nI 0), .int (nI 1)]) (st1 := [.int (nI 6), .int (nI op)]) (σ1 := σ) rfl (rfl) (by simp only [hop, tw_nadd, tw_nmul]) (rfl) ?_
    refine tw_biT (c := .ne) rfl (by rw [tw_cne] <;> (rw [tw_neq (by omega) (by omega)]; omega)) ?_
    show tw_P L xs _ 193 97 [.ref 88, .int (nI 109), .int (nI nd), .int (nI 0), .int (nI 1)] [] σ _
    rw [e0] at hQ
    exact hQ _ _ (tw_blF (by unfold tw_numd; omega)).symm (tw_blT (by unfold tw_pair; omega)).symm
  · skip
    refine tw_sgn 2 (i1 := 2) (ls0 := [.ref 88, tw_U, tw_U, tw_U, tw_U]) (st0 := [.int (σ 88 19)]) (σ0 := σ) (ls1 := [.ref 88, tw_U, tw_U, tw_U, tw_U]) (st1 := [.int (-1)]) (σ1 := σ) rfl (rfl) (by simp only [h3, tw_nadd, tw_nmul]) (rfl) ?_
    refine tw_bzT (c := .lt) rfl (by rw [tw_clt] <;> (exact (by decide))) ?_
    show tw_P L xs _ 193 5 [.ref 88, tw_U, tw_U, tw_U, tw_U] [] σ _
    refine tw_sg 1 (i1 := 6) (ls1 := [.ref 88, tw_U, tw_U, tw_U, tw_U]) (st1 := [.ref 88]) (σ1 := σ) rfl ?_
    refine tw_cl1 rfl (rfl) (by omega) (tw_E_mono (tw_e_hre hC hT h2 (by omega)) (fun v σ1 h => (⟨h.1.trans (by rw [tw_hv1 (by omega), e0]), h.2⟩ : v = some (.int (nI 116)) ∧ σ = σ1))) ?_
    rintro _ _ ⟨rfl, rfl⟩
    show tw_P L xs _ 193 7 [.ref 88, tw_U, tw_U, tw_U, tw_U] [.int (nI 116)] σ _
    refine tw_sgn 6 (i1 := 13) (ls0 := [.ref 88, .int (nI 116), .int (σ 88 21), tw_U, tw_U]) (st0 := [.int (nI 105), .int (nI 116)]) (σ0 := σ) (ls1 := [.ref 88, .int (nI 116), .int (nI nd), tw_U, tw_U]) (st1 := [.int (nI 105), .int (nI 116)]) (σ1 := σ) rfl (by simp only [h4, tw_nadd, tw_nmul]) (rfl) (rfl) ?_
    refine tw_biF (c := .eq) rfl (by rw [tw_ceq', tw_neq (by omega) (by omega)] <;> omega) ?_
    show tw_P L xs _ 193 14 [.ref 88, .int (nI 116), .int (nI nd), tw_U, tw_U] [] σ _
    refine tw_sg 2 (i1 := 16) (ls1 := [.ref 88, .int (nI 116), .int (nI nd), tw_U, tw_U]) (st1 := [.int (nI 102), .int (nI 116)]) (σ1 := σ) rfl ?_
    refine tw_biF (c := .eq) rfl (by rw [tw_ceq', tw_neq (by omega) (by omega)] <;> omega) ?_
    show tw_P L xs _ 193 17 [.ref 88, .int (nI 116), .int (nI nd), tw_U, tw_U] [] σ _
    refine tw_sg 2 (i1 := 19) (ls1 := [.ref 88, .int (nI 116), .int (nI nd), tw_U, tw_U]) (st1 := [.int (nI 98), .int (nI 116)]) (σ1 := σ) rfl ?_
    refine tw_biF (c := .eq) rfl (by rw [tw_ceq', tw_neq (by omega) (by omega)] <;> omega) ?_
    show tw_P L xs _ 193 20 [.ref 88, .int (nI 116), .int (nI nd), tw_U, tw_U] [] σ _
    refine tw_sg 2 (i1 := 22) (ls1 := [.ref 88, .int (nI 116), .int (nI nd), tw_U, tw_U]) (st1 := [.int (nI 104), .int (nI 116)]) (σ1 := σ) rfl ?_
    refine tw_biT (c := .ne) rfl (by rw [tw_cne, tw_neq (by omega) (by omega)] <;> omega) ?_
    show tw_P L xs _ 193 48 [.ref 88, .int (nI 116), .int (nI nd), tw_U, tw_U] [] σ _
    refine tw_sg 2 (i1 := 50) (ls1 := [.ref 88, .int (nI 116), .int (nI nd), tw_U, tw_U]) (st1 := [.int (nI 107), .int (nI 116)]) (σ1 := σ) rfl ?_
    refine tw_biF (c := .eq) rfl (by rw [tw_ceq', tw_neq (by omega) (by omega)] <;> omega) ?_
    show tw_P L xs _ 193 51 [.ref 88, .int (nI 116), .int (nI nd), tw_U, tw_U] [] σ _
    refine tw_sg 2 (i1 := 53) (ls1 := [.ref 88, .int (nI 116), .int (nI nd), tw_U, tw_U]) (st1 := [.int (nI 99), .int (nI 116)]) (σ1 := σ) rfl ?_
    refine tw_biF (c := .eq) rfl (by rw [tw_ceq', tw_neq (by omega) (by omega)] <;> omega) ?_
    show tw_P L xs _ 193 54 [.ref 88, .int (nI 116), .int (nI nd), tw_U, tw_U] [] σ _
    refine tw_sg 2 (i1 := 56) (ls1 := [.ref 88, .int (nI 116), .int (nI nd), tw_U, tw_U]) (st1 := [.int (nI 120), .int (nI 116)]) (σ1 := σ) rfl ?_
    refine tw_biF (c := .eq) rfl (by rw [tw_ceq', tw_neq (by omega) (by omega)] <;> omega) ?_
    show tw_P L xs _ 193 57 [.ref 88, .int (nI 116), .int (nI nd), tw_U, tw_U] [] σ _
    refine tw_sg 2 (i1 := 59) (ls1 := [.ref 88, .int (nI 116), .int (nI nd), tw_U, tw_U]) (st1 := [.int (nI 115), .int (nI 116)]) (σ1 := σ) rfl ?_
    refine tw_biT (c := .ne) rfl (by rw [tw_cne, tw_neq (by omega) (by omega)] <;> omega) ?_
    show tw_P L xs _ 193 62 [.ref 88, .int (nI 116), .int (nI nd), tw_U, tw_U] [] σ _
    refine tw_sg 4 (i1 := 66) (ls1 := [.ref 88, .int (nI 116), .int (nI nd), .int (nI 0), tw_U]) (st1 := [.int (nI 115), .int (nI 116)]) (σ1 := σ) rfl ?_
    refine tw_biF (c := .eq) rfl (by rw [tw_ceq', tw_neq (by omega) (by omega)] <;> omega) ?_
    show tw_P L xs _ 193 67 [.ref 88, .int (nI 116), .int (nI nd), .int (nI 0), tw_U] [] σ _
    refine tw_sg 2 (i1 := 69) (ls1 := [.ref 88, .int (nI 116), .int (nI nd), .int (nI 0), tw_U]) (st1 := [.int (nI 100), .int (nI 116)]) (σ1 := σ) rfl ?_
    refine tw_biF (c := .eq) rfl (by rw [tw_ceq', tw_neq (by omega) (by omega)] <;> omega) ?_
    show tw_P L xs _ 193 70 [.ref 88, .int (nI 116), .int (nI nd), .int (nI 0), tw_U] [] σ _
    refine tw_sg 2 (i1 := 72) (ls1 := [.ref 88, .int (nI 116), .int (nI nd), .int (nI 0), tw_U]) (st1 := [.int (nI 114), .int (nI 116)]) (σ1 := σ) rfl ?_
    refine tw_biF (c := .eq) rfl (by rw [tw_ceq', tw_neq (by omega) (by omega)] <;> omega) ?_
    show tw_P L xs _ 193 73 [.ref 88, .int (nI 116), .int (nI nd), .int (nI 0), tw_U] [] σ _
    refine tw_sg 2 (i1 := 75) (ls1 := [.ref 88, .int (nI 116), .int (nI nd), .int (nI 0), tw_U]) (st1 := [.int (nI 109), .int (nI 116)]) (σ1 := σ) rfl ?_
    refine tw_biT (c := .ne) rfl (by rw [tw_cne, tw_neq (by omega) (by omega)] <;> omega) ?_
    show tw_P L xs _ 193 78 [.ref 88, .int (nI 116), .int (nI nd), .int (nI 0), tw_U] [] σ _
    refine tw_sg 3 (i1 := 81) (ls1 := [.ref 88, .int (nI 116), .int (nI nd), .int (nI 0), .int (nI 0)]) (st1 := [.int (nI 0)]) (σ1 := σ) rfl ?_
    refine tw_bzF (c := .ne) rfl (by rw [tw_cne', tw_neq (by omega) (by omega)] <;> omega) ?_
    show tw_P L xs _ 193 82 [.ref 88, .int (nI 116), .int (nI nd), .int (nI 0), .int (nI 0)] [] σ _
    refine tw_sg 1 (i1 := 83) (ls1 := [.ref 88, .int (nI 116), .int (nI nd), .int (nI 0), .int (nI 0)]) (st1 := [.int (nI 0)]) (σ1 := σ) rfl ?_
    refine tw_bzF (c := .ne) rfl (by rw [tw_cne', tw_neq (by omega) (by omega)] <;> omega) ?_
    show tw_P L xs _ 193 84 [.ref 88, .int (nI 116), .int (nI nd), .int (nI 0), .int (nI 0)] [] σ _
    refine tw_sg 2 (i1 := 86) (ls1 := [.ref 88, .int (nI 116), .int (nI nd), .int (nI 0), .int (nI 0)]) (st1 := [.int (nI 116), .int (nI 116)]) (σ1 := σ) rfl ?_
    refine tw_biF (c := .ne) rfl (by rw [tw_cne', tw_neq (by omega) (by omega)] <;> omega) ?_
    show tw_P L xs _ 193 87 [.ref 88, .int (nI 116), .int (nI nd), .int (nI 0), .int (nI 0)] [] σ _
    refine tw_sgn 3 (i1 := 90) (ls0 := [.ref 88, .int (nI 116), .int (nI nd), .int (nI 0), .int (nI 0)]) (st0 := [.int (nI 6), .int (σ 88 20)]) (σ0 := σ) (ls1 := [.ref 88, .int (nI 116), .int (nI nd), .int (nI 0), .int (nI 0)]) (st1 := [.int (nI 6), .int (nI op)]) (σ1 := σ) rfl (rfl) (by simp only [hop, tw_nadd, tw_nmul]) (rfl) ?_
    refine tw_biT (c := .ne) rfl (by rw [tw_cne] <;> (rw [tw_neq (by omega) (by omega)]; omega)) ?_
    show tw_P L xs _ 193 97 [.ref 88, .int (nI 116), .int (nI nd), .int (nI 0), .int (nI 0)] [] σ _
    rw [e0] at hQ
    exact hQ _ _ (tw_blF (by unfold tw_numd; omega)).symm (tw_blF (fun g => g (by unfold tw_pair; omega))).symm
set_option maxHeartbeats 4000000 in
set_option maxRecDepth 100000 in
theorem tw_m97z {ch : Nat → Nat} {Q : Option Value → tw_Mem → Prop} {k f op c nd p lv : Nat} (hC : tw_chs ch k) (hp : p ≤ 80) (hnd : nd < 80) (hS : tw_mS ch k σ p nd lv op) {b3 b4 : Int32} (hc : c < 128) (hb3 : b3 = tw_bl (tw_numd c)) (hn : ¬ tw_numd c) (hQ : ∀ τ, tw_mS ch k τ (p + 1) (nd + 1) lv op → tw_mFr σ τ → tw_lo 104 nd σ τ → τ 104 nd = nI c → tw_P L xs (f + 5) 193 132 [.ref 88, .int (nI c), .int (nI nd), .int b3, .int b4] [.int (nI (0)), .int (nI nd), .ref 105] τ Q) : tw_P L xs (f + 5) 193 97 [.ref 88, .int (nI c), .int (nI nd), .int b3, .int b4] [] σ Q := by
  obtain ⟨hT, h2, h3, hop, h4, h5⟩ := id hS
  refine tw_sgn 10 (i1 := 107) (ls0 := [.ref 88, .int (nI c), .int (nI nd), .int b3, .int b4]) (st0 := [.int (nI c), .int (nI nd), .ref 104]) (σ0 := (tw_upd σ 88 21 ((σ 88 21) + nI 1))) (ls1 := [.ref 88, .int (nI c), .int (nI nd), .int b3, .int b4]) (st1 := [.int (nI c), .int (nI nd), .ref 104]) (σ1 := (tw_upd σ 88 21 (nI (nd + 1)))) rfl (rfl) (rfl) (by simp only [h4, tw_nadd, tw_nmul]) ?_
  refine tw_as (k := 104) (j := nd) (len := 80) rfl rfl rfl (rfl) (by omega) (by decide) ?_
  refine tw_sgn 10 (i1 := 118) (ls0 := [.ref 88, .int (nI c), .int (nI nd), .int b3, .int b4]) (st0 := [.int b3, .int (nI nd), .ref 105]) (σ0 := (tw_upd (tw_upd (tw_upd σ 88 21 (nI (nd + 1))) 104 nd (nI c)) 88 18 ((σ 88 18) + nI 1))) (ls1 := [.ref 88, .int (nI c), .int (nI nd), .int b3, .int b4]) (st1 := [.int b3, .int (nI nd), .ref 105]) (σ1 := (tw_upd (tw_upd (tw_upd σ 88 21 (nI (nd + 1))) 104 nd (nI c)) 88 18 (nI (p + 1)))) rfl (rfl) (rfl) (by simp only [h2, tw_nadd, tw_nmul]) ?_
  refine tw_bzT (c := .eq) rfl (by rw [tw_ceq] <;> (exact (by rw [hb3, tw_blF hn]))) ?_
  show tw_P L xs _ 193 131 [.ref 88, .int (nI c), .int (nI nd), .int b3, .int b4] [.int (nI nd), .ref 105] (tw_upd (tw_upd (tw_upd σ 88 21 (nI (nd + 1))) 104 nd (nI c)) 88 18 (nI (p + 1))) _
  refine tw_sg 1 (i1 := 132) (ls1 := [.ref 88, .int (nI c), .int (nI nd), .int b3, .int b4]) (st1 := [.int (nI 0), .int (nI nd), .ref 105]) (σ1 := (tw_upd (tw_upd (tw_upd σ 88 21 (nI (nd + 1))) 104 nd (nI c)) 88 18 (nI (p + 1)))) rfl ?_
  exact hQ _ ⟨by repeat (first | exact hT | refine tw_mT.upd ?_ (by omega) (by omega)), by repeat (first | exact tw_upd_at | assumption | rw [tw_upd_off (by omega)]), by repeat (first | exact tw_upd_at | assumption | rw [tw_upd_off (by omega)]), by repeat (first | exact tw_upd_at | assumption | rw [tw_upd_off (by omega)]), by repeat (first | exact tw_upd_at | assumption | rw [tw_upd_off (by omega)]), by repeat (first | exact tw_upd_at | assumption | rw [tw_upd_off (by omega)])⟩ (by repeat (first | exact tw_mFr.rf | refine tw_mFr.upd ?_ (by omega))) (by repeat (first | exact tw_lo.rf | refine tw_lo.upd ?_ (by omega))) (by repeat (first | exact tw_upd_at | assumption | rw [tw_upd_off (by omega)]))
set_option maxHeartbeats 4000000 in
set_option maxRecDepth 100000 in
theorem tw_m97n {ch : Nat → Nat} {Q : Option Value → tw_Mem → Prop} {k f op c nd p lv : Nat} (hC : tw_chs ch k) (hp : p ≤ 80) (hnd : nd < 80) (hS : tw_mS ch k σ p nd lv op) {b3 b4 : Int32} (hc : c < 128) (hb3 : b3 = tw_bl (tw_numd c)) (hn : tw_numd c) (hok : ¬ (tw_nl ch (p + 1) = 0 ∨ tw_nv ch (p + 1) < tw_lst c)) (hQ : ∀ τ, tw_mS ch k τ (p + 1 + tw_nl ch (p + 1)) (nd + 1) lv op → tw_mFr σ τ → tw_lo 104 nd σ τ → τ 104 nd = nI c → tw_P L xs (f + 5) 193 132 [.ref 88, .int (nI c), .int (nI nd), .int b3, .int b4] [.int (nI (tw_nv ch (p + 1))), .int (nI nd), .ref 105] τ Q) : tw_P L xs (f + 5) 193 97 [.ref 88, .int (nI c), .int (nI nd), .int b3, .int b4] [] σ Q := by
  obtain ⟨hT, h2, h3, hop, h4, h5⟩ := id hS
  rcases (show (c = 107 ∧ tw_lst c = 1) ∨ (c = 120 ∧ tw_lst c = 1) ∨ (¬ c = 107 ∧ ¬ c = 120 ∧ tw_lst c = 0) by unfold tw_lst; split <;> omega) with ⟨hx, hl1⟩ | ⟨hx, hl1⟩ | ⟨hx, hx2, hl0⟩
  · skip
    refine tw_sgn 10 (i1 := 107) (ls0 := [.ref 88, .int (nI c), .int (nI nd), .int b3, .int b4]) (st0 := [.int (nI c), .int (nI nd), .ref 104]) (σ0 := (tw_upd σ 88 21 ((σ 88 21) + nI 1))) (ls1 := [.ref 88, .int (nI c), .int (nI nd), .int b3, .int b4]) (st1 := [.int (nI c), .int (nI nd), .ref 104]) (σ1 := (tw_upd σ 88 21 (nI (nd + 1)))) rfl (rfl) (rfl) (by simp only [h4, tw_nadd, tw_nmul]) ?_
    refine tw_as (k := 104) (j := nd) (len := 80) rfl rfl rfl (rfl) (by omega) (by decide) ?_
    refine tw_sgn 10 (i1 := 118) (ls0 := [.ref 88, .int (nI c), .int (nI nd), .int b3, .int b4]) (st0 := [.int b3, .int (nI nd), .ref 105]) (σ0 := (tw_upd (tw_upd (tw_upd σ 88 21 (nI (nd + 1))) 104 nd (nI c)) 88 18 ((σ 88 18) + nI 1))) (ls1 := [.ref 88, .int (nI c), .int (nI nd), .int b3, .int b4]) (st1 := [.int b3, .int (nI nd), .ref 105]) (σ1 := (tw_upd (tw_upd (tw_upd σ 88 21 (nI (nd + 1))) 104 nd (nI c)) 88 18 (nI (p + 1)))) rfl (rfl) (rfl) (by simp only [h2, tw_nadd, tw_nmul]) ?_
    refine tw_bzF (c := .eq) rfl (by rw [tw_ceq'] <;> (exact (by rw [hb3, tw_blT hn]; decide))) ?_
    show tw_P L xs _ 193 119 [.ref 88, .int (nI c), .int (nI nd), .int b3, .int b4] [.int (nI nd), .ref 105] (tw_upd (tw_upd (tw_upd σ 88 21 (nI (nd + 1))) 104 nd (nI c)) 88 18 (nI (p + 1))) _
    refine tw_sg 3 (i1 := 122) (ls1 := [.ref 88, .int (nI c), .int (nI nd), .int b3, .int b4]) (st1 := [.int (nI 107), .int (nI c), .ref 88, .int (nI nd), .ref 105]) (σ1 := (tw_upd (tw_upd (tw_upd σ 88 21 (nI (nd + 1))) 104 nd (nI c)) 88 18 (nI (p + 1)))) rfl ?_
    refine tw_biT (c := .eq) rfl (by rw [tw_ceq] <;> (exact (by rw [hx]))) ?_
    show tw_P L xs _ 193 126 [.ref 88, .int (nI c), .int (nI nd), .int b3, .int b4] [.ref 88, .int (nI nd), .ref 105] (tw_upd (tw_upd (tw_upd σ 88 21 (nI (nd + 1))) 104 nd (nI c)) 88 18 (nI (p + 1))) _
    refine tw_sg 2 (i1 := 129) (ls1 := [.ref 88, .int (nI c), .int (nI nd), .int b3, .int b4]) (st1 := [.int (nI 1), .ref 88, .int (nI nd), .ref 105]) (σ1 := (tw_upd (tw_upd (tw_upd σ 88 21 (nI (nd + 1))) 104 nd (nI c)) 88 18 (nI (p + 1)))) rfl ?_
    refine tw_cl1 rfl (rfl) (by omega) (tw_m_num1 (p := p + 1) (c := 1) hC (by repeat (first | exact hT | refine tw_mT.upd ?_ (by omega) (by omega))) (by repeat (first | exact tw_upd_at | assumption | rw [tw_upd_off (by omega)])) (by omega) (by decide) (by rw [hl1] at hok; exact hok)) ?_
    rintro _ τ ⟨rfl, rfl⟩
    show tw_P L xs _ 193 130 [.ref 88, .int (nI c), .int (nI nd), .int b3, .int b4] [.int (nI (tw_nv ch (p + 1))), .int (nI nd), .ref 105] (tw_upd (tw_upd (tw_upd (tw_upd σ 88 21 (nI (nd + 1))) 104 nd (nI c)) 88 18 (nI (p + 1))) 88 18 (nI (p + 1 + tw_nl ch (p + 1)))) _
    refine tw_sg 1 (i1 := 132) (ls1 := [.ref 88, .int (nI c), .int (nI nd), .int b3, .int b4]) (st1 := [.int (nI (tw_nv ch (p + 1))), .int (nI nd), .ref 105]) (σ1 := (tw_upd (tw_upd (tw_upd (tw_upd σ 88 21 (nI (nd + 1))) 104 nd (nI c)) 88 18 (nI (p + 1))) 88 18 (nI (p + 1 + tw_nl ch (p + 1))))) rfl ?_
    exact hQ _ ⟨by repeat (first | exact hT | refine tw_mT.upd ?_ (by omega) (by omega)), by repeat (first | exact tw_upd_at | assumption | rw [tw_upd_off (by omega)]), by repeat (first | exact tw_upd_at | assumption | rw [tw_upd_off (by omega)]), by repeat (first | exact tw_upd_at | assumption | rw [tw_upd_off (by omega)]), by repeat (first | exact tw_upd_at | assumption | rw [tw_upd_off (by omega)]), by repeat (first | exact tw_upd_at | assumption | rw [tw_upd_off (by omega)])⟩ (by repeat (first | exact tw_mFr.rf | refine tw_mFr.upd ?_ (by omega))) (by repeat (first | exact tw_lo.rf | refine tw_lo.upd ?_ (by omega))) (by repeat (first | exact tw_upd_at | assumption | rw [tw_upd_off (by omega)]))
  · skip
    refine tw_sgn 10 (i1 := 107) (ls0 := [.ref 88, .int (nI c), .int (nI nd), .int b3, .int b4]) (st0 := [.int (nI c), .int (nI nd), .ref 104]) (σ0 := (tw_upd σ 88 21 ((σ 88 21) + nI 1))) (ls1 := [.ref 88, .int (nI c), .int (nI nd), .int b3, .int b4]) (st1 := [.int (nI c), .int (nI nd), .ref 104]) (σ1 := (tw_upd σ 88 21 (nI (nd + 1)))) rfl (rfl) (rfl) (by simp only [h4, tw_nadd, tw_nmul]) ?_
    refine tw_as (k := 104) (j := nd) (len := 80) rfl rfl rfl (rfl) (by omega) (by decide) ?_
    refine tw_sgn 10 (i1 := 118) (ls0 := [.ref 88, .int (nI c), .int (nI nd), .int b3, .int b4]) (st0 := [.int b3, .int (nI nd), .ref 105]) (σ0 := (tw_upd (tw_upd (tw_upd σ 88 21 (nI (nd + 1))) 104 nd (nI c)) 88 18 ((σ 88 18) + nI 1))) (ls1 := [.ref 88, .int (nI c), .int (nI nd), .int b3, .int b4]) (st1 := [.int b3, .int (nI nd), .ref 105]) (σ1 := (tw_upd (tw_upd (tw_upd σ 88 21 (nI (nd + 1))) 104 nd (nI c)) 88 18 (nI (p + 1)))) rfl (rfl) (rfl) (by simp only [h2, tw_nadd, tw_nmul]) ?_
    refine tw_bzF (c := .eq) rfl (by rw [tw_ceq'] <;> (exact (by rw [hb3, tw_blT hn]; decide))) ?_
    show tw_P L xs _ 193 119 [.ref 88, .int (nI c), .int (nI nd), .int b3, .int b4] [.int (nI nd), .ref 105] (tw_upd (tw_upd (tw_upd σ 88 21 (nI (nd + 1))) 104 nd (nI c)) 88 18 (nI (p + 1))) _
    refine tw_sg 3 (i1 := 122) (ls1 := [.ref 88, .int (nI c), .int (nI nd), .int b3, .int b4]) (st1 := [.int (nI 107), .int (nI c), .ref 88, .int (nI nd), .ref 105]) (σ1 := (tw_upd (tw_upd (tw_upd σ 88 21 (nI (nd + 1))) 104 nd (nI c)) 88 18 (nI (p + 1)))) rfl ?_
    refine tw_biF (c := .eq) rfl (by rw [tw_ceq'] <;> (exact (by rw [hx]; decide))) ?_
    show tw_P L xs _ 193 123 [.ref 88, .int (nI c), .int (nI nd), .int b3, .int b4] [.ref 88, .int (nI nd), .ref 105] (tw_upd (tw_upd (tw_upd σ 88 21 (nI (nd + 1))) 104 nd (nI c)) 88 18 (nI (p + 1))) _
    refine tw_sg 2 (i1 := 125) (ls1 := [.ref 88, .int (nI c), .int (nI nd), .int b3, .int b4]) (st1 := [.int (nI 120), .int (nI c), .ref 88, .int (nI nd), .ref 105]) (σ1 := (tw_upd (tw_upd (tw_upd σ 88 21 (nI (nd + 1))) 104 nd (nI c)) 88 18 (nI (p + 1)))) rfl ?_
    refine tw_biF (c := .ne) rfl (by rw [tw_cne'] <;> (exact (by rw [hx]))) ?_
    show tw_P L xs _ 193 126 [.ref 88, .int (nI c), .int (nI nd), .int b3, .int b4] [.ref 88, .int (nI nd), .ref 105] (tw_upd (tw_upd (tw_upd σ 88 21 (nI (nd + 1))) 104 nd (nI c)) 88 18 (nI (p + 1))) _
    refine tw_sg 2 (i1 := 129) (ls1 := [.ref 88, .int (nI c), .int (nI nd), .int b3, .int b4]) (st1 := [.int (nI 1), .ref 88, .int (nI nd), .ref 105]) (σ1 := (tw_upd (tw_upd (tw_upd σ 88 21 (nI (nd + 1))) 104 nd (nI c)) 88 18 (nI (p + 1)))) rfl ?_
    refine tw_cl1 rfl (rfl) (by omega) (tw_m_num1 (p := p + 1) (c := 1) hC (by repeat (first | exact hT | refine tw_mT.upd ?_ (by omega) (by omega))) (by repeat (first | exact tw_upd_at | assumption | rw [tw_upd_off (by omega)])) (by omega) (by decide) (by rw [hl1] at hok; exact hok)) ?_
    rintro _ τ ⟨rfl, rfl⟩
    show tw_P L xs _ 193 130 [.ref 88, .int (nI c), .int (nI nd), .int b3, .int b4] [.int (nI (tw_nv ch (p + 1))), .int (nI nd), .ref 105] (tw_upd (tw_upd (tw_upd (tw_upd σ 88 21 (nI (nd + 1))) 104 nd (nI c)) 88 18 (nI (p + 1))) 88 18 (nI (p + 1 + tw_nl ch (p + 1)))) _
    refine tw_sg 1 (i1 := 132) (ls1 := [.ref 88, .int (nI c), .int (nI nd), .int b3, .int b4]) (st1 := [.int (nI (tw_nv ch (p + 1))), .int (nI nd), .ref 105]) (σ1 := (tw_upd (tw_upd (tw_upd (tw_upd σ 88 21 (nI (nd + 1))) 104 nd (nI c)) 88 18 (nI (p + 1))) 88 18 (nI (p + 1 + tw_nl ch (p + 1))))) rfl ?_
    exact hQ _ ⟨by repeat (first | exact hT | refine tw_mT.upd ?_ (by omega) (by omega)), by repeat (first | exact tw_upd_at | assumption | rw [tw_upd_off (by omega)]), by repeat (first | exact tw_upd_at | assumption | rw [tw_upd_off (by omega)]), by repeat (first | exact tw_upd_at | assumption | rw [tw_upd_off (by omega)]), by repeat (first | exact tw_upd_at | assumption | rw [tw_upd_off (by omega)]), by repeat (first | exact tw_upd_at | assumption | rw [tw_upd_off (by omega)])⟩ (by repeat (first | exact tw_mFr.rf | refine tw_mFr.upd ?_ (by omega))) (by repeat (first | exact tw_lo.rf | refine tw_lo.upd ?_ (by omega))) (by repeat (first | exact tw_upd_at | assumption | rw [tw_upd_off (by omega)]))
  · skip
    refine tw_sgn 10 (i1 := 107) (ls0 := [.ref 88, .int (nI c), .int (nI nd), .int b3, .int b4]) (st0 := [.int (nI c), .int (nI nd), .ref 104]) (σ0 := (tw_upd σ 88 21 ((σ 88 21) + nI 1))) (ls1 := [.ref 88, .int (nI c), .int (nI nd), .int b3, .int b4]) (st1 := [.int (nI c), .int (nI nd), .ref 104]) (σ1 := (tw_upd σ 88 21 (nI (nd + 1)))) rfl (rfl) (rfl) (by simp only [h4, tw_nadd, tw_nmul]) ?_
    refine tw_as (k := 104) (j := nd) (len := 80) rfl rfl rfl (rfl) (by omega) (by decide) ?_
    refine tw_sgn 10 (i1 := 118) (ls0 := [.ref 88, .int (nI c), .int (nI nd), .int b3, .int b4]) (st0 := [.int b3, .int (nI nd), .ref 105]) (σ0 := (tw_upd (tw_upd (tw_upd σ 88 21 (nI (nd + 1))) 104 nd (nI c)) 88 18 ((σ 88 18) + nI 1))) (ls1 := [.ref 88, .int (nI c), .int (nI nd), .int b3, .int b4]) (st1 := [.int b3, .int (nI nd), .ref 105]) (σ1 := (tw_upd (tw_upd (tw_upd σ 88 21 (nI (nd + 1))) 104 nd (nI c)) 88 18 (nI (p + 1)))) rfl (rfl) (rfl) (by simp only [h2, tw_nadd, tw_nmul]) ?_
    refine tw_bzF (c := .eq) rfl (by rw [tw_ceq'] <;> (exact (by rw [hb3, tw_blT hn]; decide))) ?_
    show tw_P L xs _ 193 119 [.ref 88, .int (nI c), .int (nI nd), .int b3, .int b4] [.int (nI nd), .ref 105] (tw_upd (tw_upd (tw_upd σ 88 21 (nI (nd + 1))) 104 nd (nI c)) 88 18 (nI (p + 1))) _
    refine tw_sg 3 (i1 := 122) (ls1 := [.ref 88, .int (nI c), .int (nI nd), .int b3, .int b4]) (st1 := [.int (nI 107), .int (nI c), .ref 88, .int (nI nd), .ref 105]) (σ1 := (tw_upd (tw_upd (tw_upd σ 88 21 (nI (nd + 1))) 104 nd (nI c)) 88 18 (nI (p + 1)))) rfl ?_
    refine tw_biF (c := .eq) rfl (by rw [tw_ceq'] <;> (exact (by rw [tw_neq (by omega) (by omega)]; omega))) ?_
    show tw_P L xs _ 193 123 [.ref 88, .int (nI c), .int (nI nd), .int b3, .int b4] [.ref 88, .int (nI nd), .ref 105] (tw_upd (tw_upd (tw_upd σ 88 21 (nI (nd + 1))) 104 nd (nI c)) 88 18 (nI (p + 1))) _
    refine tw_sg 2 (i1 := 125) (ls1 := [.ref 88, .int (nI c), .int (nI nd), .int b3, .int b4]) (st1 := [.int (nI 120), .int (nI c), .ref 88, .int (nI nd), .ref 105]) (σ1 := (tw_upd (tw_upd (tw_upd σ 88 21 (nI (nd + 1))) 104 nd (nI c)) 88 18 (nI (p + 1)))) rfl ?_
    refine tw_biT (c := .ne) rfl (by rw [tw_cne] <;> (exact (by rw [tw_neq (by omega) (by omega)]; omega))) ?_
    show tw_P L xs _ 193 128 [.ref 88, .int (nI c), .int (nI nd), .int b3, .int b4] [.ref 88, .int (nI nd), .ref 105] (tw_upd (tw_upd (tw_upd σ 88 21 (nI (nd + 1))) 104 nd (nI c)) 88 18 (nI (p + 1))) _
    refine tw_sg 1 (i1 := 129) (ls1 := [.ref 88, .int (nI c), .int (nI nd), .int b3, .int b4]) (st1 := [.int (nI 0), .ref 88, .int (nI nd), .ref 105]) (σ1 := (tw_upd (tw_upd (tw_upd σ 88 21 (nI (nd + 1))) 104 nd (nI c)) 88 18 (nI (p + 1)))) rfl ?_
    refine tw_cl1 rfl (rfl) (by omega) (tw_m_num1 (p := p + 1) (c := 0) hC (by repeat (first | exact hT | refine tw_mT.upd ?_ (by omega) (by omega))) (by repeat (first | exact tw_upd_at | assumption | rw [tw_upd_off (by omega)])) (by omega) (by decide) (by rw [hl0] at hok; exact hok)) ?_
    rintro _ τ ⟨rfl, rfl⟩
    show tw_P L xs _ 193 130 [.ref 88, .int (nI c), .int (nI nd), .int b3, .int b4] [.int (nI (tw_nv ch (p + 1))), .int (nI nd), .ref 105] (tw_upd (tw_upd (tw_upd (tw_upd σ 88 21 (nI (nd + 1))) 104 nd (nI c)) 88 18 (nI (p + 1))) 88 18 (nI (p + 1 + tw_nl ch (p + 1)))) _
    refine tw_sg 1 (i1 := 132) (ls1 := [.ref 88, .int (nI c), .int (nI nd), .int b3, .int b4]) (st1 := [.int (nI (tw_nv ch (p + 1))), .int (nI nd), .ref 105]) (σ1 := (tw_upd (tw_upd (tw_upd (tw_upd σ 88 21 (nI (nd + 1))) 104 nd (nI c)) 88 18 (nI (p + 1))) 88 18 (nI (p + 1 + tw_nl ch (p + 1))))) rfl ?_
    exact hQ _ ⟨by repeat (first | exact hT | refine tw_mT.upd ?_ (by omega) (by omega)), by repeat (first | exact tw_upd_at | assumption | rw [tw_upd_off (by omega)]), by repeat (first | exact tw_upd_at | assumption | rw [tw_upd_off (by omega)]), by repeat (first | exact tw_upd_at | assumption | rw [tw_upd_off (by omega)]), by repeat (first | exact tw_upd_at | assumption | rw [tw_upd_off (by omega)]), by repeat (first | exact tw_upd_at | assumption | rw [tw_upd_off (by omega)])⟩ (by repeat (first | exact tw_mFr.rf | refine tw_mFr.upd ?_ (by omega))) (by repeat (first | exact tw_lo.rf | refine tw_lo.upd ?_ (by omega))) (by repeat (first | exact tw_upd_at | assumption | rw [tw_upd_off (by omega)]))
set_option maxHeartbeats 4000000 in
set_option maxRecDepth 100000 in
theorem tw_m97F {ch : Nat → Nat} {Q : Option Value → tw_Mem → Prop} {k f op c nd p lv : Nat} (hC : tw_chs ch k) (hp : p ≤ 80) (hnd : nd < 80) (hS : tw_mS ch k σ p nd lv op) {b3 b4 : Int32} (hc : c < 128) (hb3 : b3 = tw_bl (tw_numd c)) (hb : b4 = tw_bl (¬ tw_pair c)) (hn : tw_numd c) (hok : tw_nl ch (p + 1) = 0 ∨ tw_nv ch (p + 1) < tw_lst c) (hQ : ∀ v τ, tw_mpF (p + 1) σ v τ → Q v τ) : tw_P L xs (f + 5) 193 97 [.ref 88, .int (nI c), .int (nI nd), .int b3, .int b4] [] σ Q := by
  obtain ⟨hT, h2, h3, hop, h4, h5⟩ := id hS
  rcases (show (c = 107 ∧ tw_lst c = 1) ∨ (c = 120 ∧ tw_lst c = 1) ∨ (¬ c = 107 ∧ ¬ c = 120 ∧ tw_lst c = 0) by unfold tw_lst; split <;> omega) with ⟨hx, hl1⟩ | ⟨hx, hl1⟩ | ⟨hx, hx2, hl0⟩
  · skip
    refine tw_sgn 10 (i1 := 107) (ls0 := [.ref 88, .int (nI c), .int (nI nd), .int b3, .int b4]) (st0 := [.int (nI c), .int (nI nd), .ref 104]) (σ0 := (tw_upd σ 88 21 ((σ 88 21) + nI 1))) (ls1 := [.ref 88, .int (nI c), .int (nI nd), .int b3, .int b4]) (st1 := [.int (nI c), .int (nI nd), .ref 104]) (σ1 := (tw_upd σ 88 21 (nI (nd + 1)))) rfl (rfl) (rfl) (by simp only [h4, tw_nadd, tw_nmul]) ?_
    refine tw_as (k := 104) (j := nd) (len := 80) rfl rfl rfl (rfl) (by omega) (by decide) ?_
    refine tw_sgn 10 (i1 := 118) (ls0 := [.ref 88, .int (nI c), .int (nI nd), .int b3, .int b4]) (st0 := [.int b3, .int (nI nd), .ref 105]) (σ0 := (tw_upd (tw_upd (tw_upd σ 88 21 (nI (nd + 1))) 104 nd (nI c)) 88 18 ((σ 88 18) + nI 1))) (ls1 := [.ref 88, .int (nI c), .int (nI nd), .int b3, .int b4]) (st1 := [.int b3, .int (nI nd), .ref 105]) (σ1 := (tw_upd (tw_upd (tw_upd σ 88 21 (nI (nd + 1))) 104 nd (nI c)) 88 18 (nI (p + 1)))) rfl (rfl) (rfl) (by simp only [h2, tw_nadd, tw_nmul]) ?_
    refine tw_bzF (c := .eq) rfl (by rw [tw_ceq'] <;> (exact (by rw [hb3, tw_blT hn]; decide))) ?_
    show tw_P L xs _ 193 119 [.ref 88, .int (nI c), .int (nI nd), .int b3, .int b4] [.int (nI nd), .ref 105] (tw_upd (tw_upd (tw_upd σ 88 21 (nI (nd + 1))) 104 nd (nI c)) 88 18 (nI (p + 1))) _
    refine tw_sg 3 (i1 := 122) (ls1 := [.ref 88, .int (nI c), .int (nI nd), .int b3, .int b4]) (st1 := [.int (nI 107), .int (nI c), .ref 88, .int (nI nd), .ref 105]) (σ1 := (tw_upd (tw_upd (tw_upd σ 88 21 (nI (nd + 1))) 104 nd (nI c)) 88 18 (nI (p + 1)))) rfl ?_
    refine tw_biT (c := .eq) rfl (by rw [tw_ceq] <;> (exact (by rw [hx]))) ?_
    show tw_P L xs _ 193 126 [.ref 88, .int (nI c), .int (nI nd), .int b3, .int b4] [.ref 88, .int (nI nd), .ref 105] (tw_upd (tw_upd (tw_upd σ 88 21 (nI (nd + 1))) 104 nd (nI c)) 88 18 (nI (p + 1))) _
    refine tw_sg 2 (i1 := 129) (ls1 := [.ref 88, .int (nI c), .int (nI nd), .int b3, .int b4]) (st1 := [.int (nI 1), .ref 88, .int (nI nd), .ref 105]) (σ1 := (tw_upd (tw_upd (tw_upd σ 88 21 (nI (nd + 1))) 104 nd (nI c)) 88 18 (nI (p + 1)))) rfl ?_
    refine tw_cl1 rfl (rfl) (by omega) (tw_m_num0 (p := p + 1) (c := 1) hC (by repeat (first | exact hT | refine tw_mT.upd ?_ (by omega) (by omega))) (by repeat (first | exact tw_upd_at | assumption | rw [tw_upd_off (by omega)])) (by omega) (by decide) (by rw [hl1] at hok; exact hok) (by repeat (first | exact tw_upd_at | assumption | rw [tw_upd_off (by omega)]))) ?_
    rintro _ τ ⟨rfl, rfl⟩
    show tw_P L xs _ 193 130 [.ref 88, .int (nI c), .int (nI nd), .int b3, .int b4] [.int (nI (tw_nv ch (p + 1))), .int (nI nd), .ref 105] (tw_upd (tw_upd (tw_upd (tw_upd (tw_upd σ 88 21 (nI (nd + 1))) 104 nd (nI c)) 88 18 (nI (p + 1))) 88 18 (nI (p + 1 + tw_nl ch (p + 1)))) 88 19 (nI (p + 1))) _
    refine tw_sg 1 (i1 := 132) (ls1 := [.ref 88, .int (nI c), .int (nI nd), .int b3, .int b4]) (st1 := [.int (nI (tw_nv ch (p + 1))), .int (nI nd), .ref 105]) (σ1 := (tw_upd (tw_upd (tw_upd (tw_upd (tw_upd σ 88 21 (nI (nd + 1))) 104 nd (nI c)) 88 18 (nI (p + 1))) 88 18 (nI (p + 1 + tw_nl ch (p + 1)))) 88 19 (nI (p + 1)))) rfl ?_
    exact tw_m132F (e := p + 1) hb hnd (by repeat (first | exact tw_upd_at | assumption | rw [tw_upd_off (by omega)])) (by omega) (fun v υ h => hQ v υ ⟨h.1, h.2.1, tw_mFr.tr (by repeat (first | exact tw_mFr.rf | refine tw_mFr.upd ?_ (by omega))) h.2.2⟩)
  · skip
    refine tw_sgn 10 (i1 := 107) (ls0 := [.ref 88, .int (nI c), .int (nI nd), .int b3, .int b4]) (st0 := [.int (nI c), .int (nI nd), .ref 104]) (σ0 := (tw_upd σ 88 21 ((σ 88 21) + nI 1))) (ls1 := [.ref 88, .int (nI c), .int (nI nd), .int b3, .int b4]) (st1 := [.int (nI c), .int (nI nd), .ref 104]) (σ1 := (tw_upd σ 88 21 (nI (nd + 1)))) rfl (rfl) (rfl) (by simp only [h4, tw_nadd, tw_nmul]) ?_
    refine tw_as (k := 104) (j := nd) (len := 80) rfl rfl rfl (rfl) (by omega) (by decide) ?_
    refine tw_sgn 10 (i1 := 118) (ls0 := [.ref 88, .int (nI c), .int (nI nd), .int b3, .int b4]) (st0 := [.int b3, .int (nI nd), .ref 105]) (σ0 := (tw_upd (tw_upd (tw_upd σ 88 21 (nI (nd + 1))) 104 nd (nI c)) 88 18 ((σ 88 18) + nI 1))) (ls1 := [.ref 88, .int (nI c), .int (nI nd), .int b3, .int b4]) (st1 := [.int b3, .int (nI nd), .ref 105]) (σ1 := (tw_upd (tw_upd (tw_upd σ 88 21 (nI (nd + 1))) 104 nd (nI c)) 88 18 (nI (p + 1)))) rfl (rfl) (rfl) (by simp only [h2, tw_nadd, tw_nmul]) ?_
    refine tw_bzF (c := .eq) rfl (by rw [tw_ceq'] <;> (exact (by rw [hb3, tw_blT hn]; decide))) ?_
    show tw_P L xs _ 193 119 [.ref 88, .int (nI c), .int (nI nd), .int b3, .int b4] [.int (nI nd), .ref 105] (tw_upd (tw_upd (tw_upd σ 88 21 (nI (nd + 1))) 104 nd (nI c)) 88 18 (nI (p + 1))) _
    refine tw_sg 3 (i1 := 122) (ls1 := [.ref 88, .int (nI c), .int (nI nd), .int b3, .int b4]) (st1 := [.int (nI 107), .int (nI c), .ref 88, .int (nI nd), .ref 105]) (σ1 := (tw_upd (tw_upd (tw_upd σ 88 21 (nI (nd + 1))) 104 nd (nI c)) 88 18 (nI (p + 1)))) rfl ?_
    refine tw_biF (c := .eq) rfl (by rw [tw_ceq'] <;> (exact (by rw [hx]; decide))) ?_
    show tw_P L xs _ 193 123 [.ref 88, .int (nI c), .int (nI nd), .int b3, .int b4] [.ref 88, .int (nI nd), .ref 105] (tw_upd (tw_upd (tw_upd σ 88 21 (nI (nd + 1))) 104 nd (nI c)) 88 18 (nI (p + 1))) _
    refine tw_sg 2 (i1 := 125) (ls1 := [.ref 88, .int (nI c), .int (nI nd), .int b3, .int b4]) (st1 := [.int (nI 120), .int (nI c), .ref 88, .int (nI nd), .ref 105]) (σ1 := (tw_upd (tw_upd (tw_upd σ 88 21 (nI (nd + 1))) 104 nd (nI c)) 88 18 (nI (p + 1)))) rfl ?_
    refine tw_biF (c := .ne) rfl (by rw [tw_cne'] <;> (exact (by rw [hx]))) ?_
    show tw_P L xs _ 193 126 [.ref 88, .int (nI c), .int (nI nd), .int b3, .int b4] [.ref 88, .int (nI nd), .ref 105] (tw_upd (tw_upd (tw_upd σ 88 21 (nI (nd + 1))) 104 nd (nI c)) 88 18 (nI (p + 1))) _
    refine tw_sg 2 (i1 := 129) (ls1 := [.ref 88, .int (nI c), .int (nI nd), .int b3, .int b4]) (st1 := [.int (nI 1), .ref 88, .int (nI nd), .ref 105]) (σ1 := (tw_upd (tw_upd (tw_upd σ 88 21 (nI (nd + 1))) 104 nd (nI c)) 88 18 (nI (p + 1)))) rfl ?_
    refine tw_cl1 rfl (rfl) (by omega) (tw_m_num0 (p := p + 1) (c := 1) hC (by repeat (first | exact hT | refine tw_mT.upd ?_ (by omega) (by omega))) (by repeat (first | exact tw_upd_at | assumption | rw [tw_upd_off (by omega)])) (by omega) (by decide) (by rw [hl1] at hok; exact hok) (by repeat (first | exact tw_upd_at | assumption | rw [tw_upd_off (by omega)]))) ?_
    rintro _ τ ⟨rfl, rfl⟩
    show tw_P L xs _ 193 130 [.ref 88, .int (nI c), .int (nI nd), .int b3, .int b4] [.int (nI (tw_nv ch (p + 1))), .int (nI nd), .ref 105] (tw_upd (tw_upd (tw_upd (tw_upd (tw_upd σ 88 21 (nI (nd + 1))) 104 nd (nI c)) 88 18 (nI (p + 1))) 88 18 (nI (p + 1 + tw_nl ch (p + 1)))) 88 19 (nI (p + 1))) _
    refine tw_sg 1 (i1 := 132) (ls1 := [.ref 88, .int (nI c), .int (nI nd), .int b3, .int b4]) (st1 := [.int (nI (tw_nv ch (p + 1))), .int (nI nd), .ref 105]) (σ1 := (tw_upd (tw_upd (tw_upd (tw_upd (tw_upd σ 88 21 (nI (nd + 1))) 104 nd (nI c)) 88 18 (nI (p + 1))) 88 18 (nI (p + 1 + tw_nl ch (p + 1)))) 88 19 (nI (p + 1)))) rfl ?_
    exact tw_m132F (e := p + 1) hb hnd (by repeat (first | exact tw_upd_at | assumption | rw [tw_upd_off (by omega)])) (by omega) (fun v υ h => hQ v υ ⟨h.1, h.2.1, tw_mFr.tr (by repeat (first | exact tw_mFr.rf | refine tw_mFr.upd ?_ (by omega))) h.2.2⟩)
  · skip
    refine tw_sgn 10 (i1 := 107) (ls0 := [.ref 88, .int (nI c), .int (nI nd), .int b3, .int b4]) (st0 := [.int (nI c), .int (nI nd), .ref 104]) (σ0 := (tw_upd σ 88 21 ((σ 88 21) + nI 1))) (ls1 := [.ref 88, .int (nI c), .int (nI nd), .int b3, .int b4]) (st1 := [.int (nI c), .int (nI nd), .ref 104]) (σ1 := (tw_upd σ 88 21 (nI (nd + 1)))) rfl (rfl) (rfl) (by simp only [h4, tw_nadd, tw_nmul]) ?_
    refine tw_as (k := 104) (j := nd) (len := 80) rfl rfl rfl (rfl) (by omega) (by decide) ?_
    refine tw_sgn 10 (i1 := 118) (ls0 := [.ref 88, .int (nI c), .int (nI nd), .int b3, .int b4]) (st0 := [.int b3, .int (nI nd), .ref 105]) (σ0 := (tw_upd (tw_upd (tw_upd σ 88 21 (nI (nd + 1))) 104 nd (nI c)) 88 18 ((σ 88 18) + nI 1))) (ls1 := [.ref 88, .int (nI c), .int (nI nd), .int b3, .int b4]) (st1 := [.int b3, .int (nI nd), .ref 105]) (σ1 := (tw_upd (tw_upd (tw_upd σ 88 21 (nI (nd + 1))) 104 nd (nI c)) 88 18 (nI (p + 1)))) rfl (rfl) (rfl) (by simp only [h2, tw_nadd, tw_nmul]) ?_
    refine tw_bzF (c := .eq) rfl (by rw [tw_ceq'] <;> (exact (by rw [hb3, tw_blT hn]; decide))) ?_
    show tw_P L xs _ 193 119 [.ref 88, .int (nI c), .int (nI nd), .int b3, .int b4] [.int (nI nd), .ref 105] (tw_upd (tw_upd (tw_upd σ 88 21 (nI (nd + 1))) 104 nd (nI c)) 88 18 (nI (p + 1))) _
    refine tw_sg 3 (i1 := 122) (ls1 := [.ref 88, .int (nI c), .int (nI nd), .int b3, .int b4]) (st1 := [.int (nI 107), .int (nI c), .ref 88, .int (nI nd), .ref 105]) (σ1 := (tw_upd (tw_upd (tw_upd σ 88 21 (nI (nd + 1))) 104 nd (nI c)) 88 18 (nI (p + 1)))) rfl ?_
    refine tw_biF (c := .eq) rfl (by rw [tw_ceq'] <;> (exact (by rw [tw_neq (by omega) (by omega)]; omega))) ?_
    show tw_P L xs _ 193 123 [.ref 88, .int (nI c), .int (nI nd), .int b3, .int b4] [.ref 88, .int (nI nd), .ref 105] (tw_upd (tw_upd (tw_upd σ 88 21 (nI (nd + 1))) 104 nd (nI c)) 88 18 (nI (p + 1))) _
    refine tw_sg 2 (i1 := 125) (ls1 := [.ref 88, .int (nI c), .int (nI nd), .int b3, .int b4]) (st1 := [.int (nI 120), .int (nI c), .ref 88, .int (nI nd), .ref 105]) (σ1 := (tw_upd (tw_upd (tw_upd σ 88 21 (nI (nd + 1))) 104 nd (nI c)) 88 18 (nI (p + 1)))) rfl ?_
    refine tw_biT (c := .ne) rfl (by rw [tw_cne] <;> (exact (by rw [tw_neq (by omega) (by omega)]; omega))) ?_
    show tw_P L xs _ 193 128 [.ref 88, .int (nI c), .int (nI nd), .int b3, .int b4] [.ref 88, .int (nI nd), .ref 105] (tw_upd (tw_upd (tw_upd σ 88 21 (nI (nd + 1))) 104 nd (nI c)) 88 18 (nI (p + 1))) _
    refine tw_sg 1 (i1 := 129) (ls1 := [.ref 88, .int (nI c), .int (nI nd), .int b3, .int b4]) (st1 := [.int (nI 0), .ref 88, .int (nI nd), .ref 105]) (σ1 := (tw_upd (tw_upd (tw_upd σ 88 21 (nI (nd + 1))) 104 nd (nI c)) 88 18 (nI (p + 1)))) rfl ?_
    refine tw_cl1 rfl (rfl) (by omega) (tw_m_num0 (p := p + 1) (c := 0) hC (by repeat (first | exact hT | refine tw_mT.upd ?_ (by omega) (by omega))) (by repeat (first | exact tw_upd_at | assumption | rw [tw_upd_off (by omega)])) (by omega) (by decide) (by rw [hl0] at hok; exact hok) (by repeat (first | exact tw_upd_at | assumption | rw [tw_upd_off (by omega)]))) ?_
    rintro _ τ ⟨rfl, rfl⟩
    show tw_P L xs _ 193 130 [.ref 88, .int (nI c), .int (nI nd), .int b3, .int b4] [.int (nI (tw_nv ch (p + 1))), .int (nI nd), .ref 105] (tw_upd (tw_upd (tw_upd (tw_upd (tw_upd σ 88 21 (nI (nd + 1))) 104 nd (nI c)) 88 18 (nI (p + 1))) 88 18 (nI (p + 1 + tw_nl ch (p + 1)))) 88 19 (nI (p + 1))) _
    refine tw_sg 1 (i1 := 132) (ls1 := [.ref 88, .int (nI c), .int (nI nd), .int b3, .int b4]) (st1 := [.int (nI (tw_nv ch (p + 1))), .int (nI nd), .ref 105]) (σ1 := (tw_upd (tw_upd (tw_upd (tw_upd (tw_upd σ 88 21 (nI (nd + 1))) 104 nd (nI c)) 88 18 (nI (p + 1))) 88 18 (nI (p + 1 + tw_nl ch (p + 1)))) 88 19 (nI (p + 1)))) rfl ?_
    exact tw_m132F (e := p + 1) hb hnd (by repeat (first | exact tw_upd_at | assumption | rw [tw_upd_off (by omega)])) (by omega) (fun v υ h => hQ v υ ⟨h.1, h.2.1, tw_mFr.tr (by repeat (first | exact tw_mFr.rf | refine tw_mFr.upd ?_ (by omega))) h.2.2⟩)
end tw_s67
