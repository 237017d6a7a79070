/-! a law read: what is read next, letters, numbers -/
section tw_s63
variable {L : Nat} {xs : Nat → Int32} {σ : tw_Mem} {x y w : Int32} {n r i c k h q a b e : Nat}
/-- a text's bytes as numbers: 0 behind its end -/
def tw_chs (ch : Nat → Nat) (k : Nat) : Prop := k ≤ 80 ∧ (∀ j, j < k → 1 ≤ ch j ∧ ch j < 128) ∧ ∀ j, k ≤ j → ch j = 0
/-- what a reader sees there -/
def tw_hv (ch : Nat → Nat) (j : Nat) : Int32 := if ch j = 0 then (-1) else nI (ch j)
theorem tw_hv0 {ch : Nat → Nat} {j : Nat} (h : ch j = 0) : tw_hv ch j = (-1) := if_pos h
theorem tw_hv1 {ch : Nat → Nat} {j : Nat} (h : ¬ ch j = 0) : tw_hv ch j = nI (ch j) := if_neg h
theorem tw_ch_lt {ch : Nat → Nat} {k : Nat} (h : tw_chs ch k) (j : Nat) : ch j < 128 := by
  by_cases z : j < k
  · exact (h.2.1 j z).2
  · rw [h.2.2 j (by omega)]; decide
theorem tw_ch_in {ch : Nat → Nat} {k j : Nat} (h : tw_chs ch k) (g : ¬ ch j = 0) : j < k := Classical.byContradiction fun z => g (h.2.2 j (by omega))
def tw_cT (ch : Nat → Nat) (k : Nat) (σ : tw_Mem) : Prop := σ 70 1 = nI 1 ∧ σ 2 1 = nI k ∧ ∀ j, j < k → σ 3 j = nI (ch j)
def tw_cS (ch : Nat → Nat) (k : Nat) (σ : tw_Mem) (p nd lv : Nat) : Prop := tw_cT ch k σ ∧ σ 70 2 = nI p ∧ σ 70 3 = (-1) ∧ σ 71 4 = nI nd ∧ σ 71 5 = nI lv
def tw_mT (ch : Nat → Nat) (k : Nat) (σ : tw_Mem) : Prop := σ 88 17 = nI k ∧ ∀ j, j < k → σ 103 j = nI (ch j)
def tw_mS (ch : Nat → Nat) (k : Nat) (σ : tw_Mem) (p nd lv op : Nat) : Prop := tw_mT ch k σ ∧ σ 88 18 = nI p ∧ σ 88 19 = (-1) ∧ σ 88 20 = nI op ∧ σ 88 21 = nI nd ∧ σ 88 22 = nI lv
theorem tw_cT.upd {ch : Nat → Nat} {k k0 j0 : Nat} {z : Int32} (h : tw_cT ch k σ) (h1 : ¬ (70 = k0 ∧ 1 = j0)) (h2 : ¬ (2 = k0 ∧ 1 = j0)) (h3 : ¬ 3 = k0) : tw_cT ch k (tw_upd σ k0 j0 z) :=
  ⟨(tw_upd_off h1).trans h.1, (tw_upd_off h2).trans h.2.1, fun j hj => (tw_upd_off (fun q => h3 q.1)).trans (h.2.2 j hj)⟩
theorem tw_mT.upd {ch : Nat → Nat} {k k0 j0 : Nat} {z : Int32} (h : tw_mT ch k σ) (h1 : ¬ (88 = k0 ∧ 17 = j0)) (h3 : ¬ 103 = k0) : tw_mT ch k (tw_upd σ k0 j0 z) :=
  ⟨(tw_upd_off h1).trans h.1, fun j hj => (tw_upd_off (fun q => h3 q.1)).trans (h.2 j hj)⟩
theorem tw_drf (h : σ 70 1 = nI 1) : tw_val none σ 70 1 = .ref 2 := by
  unfold tw_val
  rw [show tw_kd 70 1 = (2, 2) by decide +kernel]
  show (if (1 : Nat) = 0 then (Value.ref 2) else if σ 70 1 = 0 then Value.null else .ref 2) = _
  rw [h, if_neg (by decide), if_neg (by decide)]
theorem tw_i2c {a : Nat} (h : a < 128) : ((nI a).toUInt32 % 65536).toInt32 = nI a := by
  have : ∀ a, a < 128 → ((nI a).toUInt32 % 65536).toInt32 = nI a := by decide +kernel
  exact this a h
theorem tw_upd2 {k j : Nat} {u z : Int32} : tw_upd (tw_upd σ k j u) k j z = tw_upd σ k j z := funext fun k' => funext fun j' => by
  unfold tw_upd
  by_cases g : k' = k ∧ j' = j
  · rw [if_pos g, if_pos g]
  · rw [if_neg g, if_neg g, if_neg g]
theorem tw_upd_id {k j : Nat} {u : Int32} (h : σ k j = u) : tw_upd σ k j u = σ := funext fun k' => funext fun j' => by
  unfold tw_upd
  by_cases g : k' = k ∧ j' = j
  · rw [if_pos g, g.1, g.2, h]
  · rw [if_neg g]
theorem tw_nsb0 {p : Nat} : nI p - nI p = nI 0 := by rw [tw_nsub (Nat.le_refl _), Nat.sub_self]
theorem tw_nsb1 {p : Nat} : nI (p + 1) - nI p = nI 1 := by rw [tw_nsub (by omega), show p + 1 - p = 1 by omega]
theorem tw_nsb2 {p : Nat} : nI (p + 1 + 1) - nI p = nI 2 := by rw [tw_nsub (by omega), show p + 1 + 1 - p = 2 by omega]
theorem tw_e_max0 {ch : Nat → Nat} {k p : Nat} (hC : tw_chs ch k) : tw_E L xs 0 262 [.int (nI 0), .int (tw_hv ch p)] σ (fun v σ1 => v = some (.int (nI (ch p))) ∧ σ = σ1) := by
  have h1 := tw_ch_lt hC p
  by_cases z : ch p = 0
  · rw [tw_hv0 z, z]
    exact tw_E_mono tw_e_maxI (fun v σ1 h => ⟨h.1.trans (congrArg (fun x => some (Value.int x)) (by decide)), h.2⟩)
  · rw [tw_hv1 z]
    exact tw_E_mono (tw_e_maxN (by decide) (by omega)) (fun v σ1 h => ⟨h.1.trans (by rw [Nat.zero_max]), h.2⟩)
set_option maxHeartbeats 4000000 in
set_option maxRecDepth 100000 in
theorem tw_e_next {ch : Nat → Nat} {k p : Nat} (hC : tw_chs ch k) (hT : tw_cT ch k σ) (h2 : σ 70 2 = nI p) (hp : p ≤ 100) : tw_E L xs 1 68 [.ref 70] σ (fun v σ1 => v = some (.int (tw_hv ch p)) ∧ σ = σ1) := by
  have hk := hC.1
  by_cases hz : p < k
  · skip
    show tw_P L xs _ 68 0 [.ref 70] [] σ _
    refine tw_sg 1 (i1 := 1) (ls1 := [.ref 70]) (st1 := [.ref 70]) (σ1 := σ) rfl ?_
    refine tw_gf rfl rfl rfl (v := .ref 2) (tw_drf hT.1) ?_
    refine tw_sg 2 (i1 := 6) (ls1 := [.ref 70]) (st1 := [.ref 70]) (σ1 := σ) rfl ?_
    refine tw_gf rfl rfl rfl (v := .ref 2) (tw_drf hT.1) ?_
    refine tw_sgn 2 (i1 := 9) (ls0 := [.ref 70]) (st0 := [.int (σ 70 2), .ref 2]) (σ0 := σ) (ls1 := [.ref 70]) (st1 := [.int (nI p), .ref 2]) (σ1 := σ) rfl (rfl) (by simp only [h2, tw_nadd, tw_nmul]) (rfl) ?_
    refine tw_cl0 0 rfl (rfl) (by decide) ?_
    show tw_P L xs _ 125 0 [.ref 2, .int (nI p)] [] σ _
    refine tw_sg 1 (i1 := 1) (ls1 := [.ref 2, .int (nI p)]) (st1 := [.int (nI p)]) (σ1 := σ) rfl ?_
    refine tw_bzF (c := .lt) rfl (by rw [tw_clt', tw_nlt (by omega) (by omega)] <;> omega) ?_
    show tw_P L xs _ 125 2 [.ref 2, .int (nI p)] [] σ _
    refine tw_sgn 3 (i1 := 5) (ls0 := [.ref 2, .int (nI p)]) (st0 := [.int (σ 2 1), .int (nI p)]) (σ0 := σ) (ls1 := [.ref 2, .int (nI p)]) (st1 := [.int (nI k), .int (nI p)]) (σ1 := σ) rfl (rfl) (by simp only [hT.2.1, tw_nadd, tw_nmul]) (rfl) ?_
    refine tw_biF (c := .ge) rfl (by rw [tw_cge', tw_nle (by omega) (by omega)] <;> omega) ?_
    show tw_P L xs _ 125 6 [.ref 2, .int (nI p)] [] σ _
    refine tw_sg 4 (i1 := 10) (ls1 := [.ref 2, .int (nI p)]) (st1 := [.int (nI 80), .int (nI p)]) (σ1 := σ) rfl ?_
    refine tw_biF (c := .ge) rfl (by rw [tw_cge', tw_nle (by omega) (by omega)] <;> omega) ?_
    show tw_P L xs _ 125 11 [.ref 2, .int (nI p)] [] σ _
    refine tw_sg 3 (i1 := 14) (ls1 := [.ref 2, .int (nI p)]) (st1 := [.int (nI p), .ref 3]) (σ1 := σ) rfl ?_
    refine tw_alb (k := 3) (j := p) (len := 80) rfl rfl (by decide) rfl (rfl) (by omega) (by decide) ?_
    rw [(hT.2.2 p (by omega))]
    refine tw_sg 1 (i1 := 17) (ls1 := [.ref 2, .int (nI p)]) (st1 := [.int (nI (ch p))]) (σ1 := σ) rfl ?_
    refine tw_ri rfl (rfl) ?_
    show tw_P L xs _ 68 10 [.ref 70] [.int (nI (ch p))] σ _
    refine tw_ri rfl (rfl) ?_
    exact ⟨by rw [tw_hv1 (by have := (hC.2.1 p hz).1; omega)], rfl⟩
  · skip
    show tw_P L xs _ 68 0 [.ref 70] [] σ _
    refine tw_sg 1 (i1 := 1) (ls1 := [.ref 70]) (st1 := [.ref 70]) (σ1 := σ) rfl ?_
    refine tw_gf rfl rfl rfl (v := .ref 2) (tw_drf hT.1) ?_
    refine tw_sg 2 (i1 := 6) (ls1 := [.ref 70]) (st1 := [.ref 70]) (σ1 := σ) rfl ?_
    refine tw_gf rfl rfl rfl (v := .ref 2) (tw_drf hT.1) ?_
    refine tw_sgn 2 (i1 := 9) (ls0 := [.ref 70]) (st0 := [.int (σ 70 2), .ref 2]) (σ0 := σ) (ls1 := [.ref 70]) (st1 := [.int (nI p), .ref 2]) (σ1 := σ) rfl (rfl) (by simp only [h2, tw_nadd, tw_nmul]) (rfl) ?_
    refine tw_cl0 0 rfl (rfl) (by decide) ?_
    show tw_P L xs _ 125 0 [.ref 2, .int (nI p)] [] σ _
    refine tw_sg 1 (i1 := 1) (ls1 := [.ref 2, .int (nI p)]) (st1 := [.int (nI p)]) (σ1 := σ) rfl ?_
    refine tw_bzF (c := .lt) rfl (by rw [tw_clt', tw_nlt (by omega) (by omega)] <;> omega) ?_
    show tw_P L xs _ 125 2 [.ref 2, .int (nI p)] [] σ _
    refine tw_sgn 3 (i1 := 5) (ls0 := [.ref 2, .int (nI p)]) (st0 := [.int (σ 2 1), .int (nI p)]) (σ0 := σ) (ls1 := [.ref 2, .int (nI p)]) (st1 := [.int (nI k), .int (nI p)]) (σ1 := σ) rfl (rfl) (by simp only [hT.2.1, tw_nadd, tw_nmul]) (rfl) ?_
    refine tw_biT (c := .ge) rfl (by rw [tw_cge, tw_nle (by omega) (by omega)] <;> omega) ?_
    show tw_P L xs _ 125 16 [.ref 2, .int (nI p)] [] σ _
    refine tw_sg 1 (i1 := 17) (ls1 := [.ref 2, .int (nI p)]) (st1 := [.int (-1)]) (σ1 := σ) rfl ?_
    refine tw_ri rfl (rfl) ?_
    show tw_P L xs _ 68 10 [.ref 70] [.int (-1)] σ _
    refine tw_ri rfl (rfl) ?_
    exact ⟨by rw [tw_hv0 (hC.2.2 p (by omega))], rfl⟩
set_option maxHeartbeats 4000000 in
set_option maxRecDepth 100000 in
theorem tw_e_hre {ch : Nat → Nat} {k p : Nat} (hC : tw_chs ch k) (hT : tw_mT ch k σ) (h2 : σ 88 18 = nI p) (hp : p ≤ 100) : tw_E L xs 0 189 [.ref 88] σ (fun v σ1 => v = some (.int (tw_hv ch p)) ∧ σ = σ1) := by
  have hk := hC.1
  by_cases hz : p < k
  · skip
    show tw_P L xs _ 189 0 [.ref 88] [] σ _
    refine tw_sgn 4 (i1 := 4) (ls0 := [.ref 88]) (st0 := [.int (σ 88 17), .int (σ 88 18)]) (σ0 := σ) (ls1 := [.ref 88]) (st1 := [.int (nI k), .int (nI p)]) (σ1 := σ) rfl (rfl) (by simp only [h2, hT.1, tw_nadd, tw_nmul]) (rfl) ?_
    refine tw_biF (c := .ge) rfl (by rw [tw_cge', tw_nle (by omega) (by omega)] <;> omega) ?_
    show tw_P L xs _ 189 5 [.ref 88] [] σ _
    refine tw_sgn 4 (i1 := 9) (ls0 := [.ref 88]) (st0 := [.int (σ 88 18), .ref 103]) (σ0 := σ) (ls1 := [.ref 88]) (st1 := [.int (nI p), .ref 103]) (σ1 := σ) rfl (rfl) (by simp only [h2, tw_nadd, tw_nmul]) (rfl) ?_
    refine tw_al (k := 103) (j := p) (len := 80) rfl rfl rfl rfl (rfl) (by omega) (by decide) ?_
    rw [(hT.2 p (by omega))]
    refine tw_sg 1 (i1 := 12) (ls1 := [.ref 88]) (st1 := [.int (nI (ch p))]) (σ1 := σ) rfl ?_
    refine tw_ri rfl (rfl) ?_
    exact ⟨by rw [tw_hv1 (by have := (hC.2.1 p hz).1; omega)], rfl⟩
  · skip
    show tw_P L xs _ 189 0 [.ref 88] [] σ _
    refine tw_sgn 4 (i1 := 4) (ls0 := [.ref 88]) (st0 := [.int (σ 88 17), .int (σ 88 18)]) (σ0 := σ) (ls1 := [.ref 88]) (st1 := [.int (nI k), .int (nI p)]) (σ1 := σ) rfl (rfl) (by simp only [h2, hT.1, tw_nadd, tw_nmul]) (rfl) ?_
    refine tw_biT (c := .ge) rfl (by rw [tw_cge, tw_nle (by omega) (by omega)] <;> omega) ?_
    show tw_P L xs _ 189 11 [.ref 88] [] σ _
    refine tw_sg 1 (i1 := 12) (ls1 := [.ref 88]) (st1 := [.int (-1)]) (σ1 := σ) rfl ?_
    refine tw_ri rfl (rfl) ?_
    exact ⟨by rw [tw_hv0 (hC.2.2 p (by omega))], rfl⟩
set_option maxHeartbeats 4000000 in
set_option maxRecDepth 100000 in
theorem tw_e_isLeaf1 (h : tw_leaf c) : tw_E L xs 0 69 [.int (nI c)] σ (fun v σ1 => v = some (.int (nI 1)) ∧ σ = σ1) := by
  rcases h with rfl | rfl | rfl | rfl
  · skip
    show tw_P L xs _ 69 0 [.int (nI 105)] [] σ _
    refine tw_sg 2 (i1 := 2) (ls1 := [.int (nI 105)]) (st1 := [.int (nI 105), .int (nI 105)]) (σ1 := σ) rfl ?_
    refine tw_biT (c := .eq) rfl (by rw [tw_ceq, tw_neq (by omega) (by omega)] <;> omega) ?_
    show tw_P L xs _ 69 12 [.int (nI 105)] [] σ _
    refine tw_sg 2 (i1 := 15) (ls1 := [.int (nI 105)]) (st1 := [.int (nI 1)]) (σ1 := σ) rfl ?_
    refine tw_ri rfl (rfl) ?_
    exact ⟨rfl, rfl⟩
  · skip
    show tw_P L xs _ 69 0 [.int (nI 102)] [] σ _
    refine tw_sg 2 (i1 := 2) (ls1 := [.int (nI 102)]) (st1 := [.int (nI 105), .int (nI 102)]) (σ1 := σ) rfl ?_
    refine tw_biF (c := .eq) rfl (by rw [tw_ceq', tw_neq (by omega) (by omega)] <;> omega) ?_
    show tw_P L xs _ 69 3 [.int (nI 102)] [] σ _
    refine tw_sg 2 (i1 := 5) (ls1 := [.int (nI 102)]) (st1 := [.int (nI 102), .int (nI 102)]) (σ1 := σ) rfl ?_
    refine tw_biT (c := .eq) rfl (by rw [tw_ceq, tw_neq (by omega) (by omega)] <;> omega) ?_
    show tw_P L xs _ 69 12 [.int (nI 102)] [] σ _
    refine tw_sg 2 (i1 := 15) (ls1 := [.int (nI 102)]) (st1 := [.int (nI 1)]) (σ1 := σ) rfl ?_
    refine tw_ri rfl (rfl) ?_
    exact ⟨rfl, rfl⟩
  · skip
    show tw_P L xs _ 69 0 [.int (nI 98)] [] σ _
    refine tw_sg 2 (i1 := 2) (ls1 := [.int (nI 98)]) (st1 := [.int (nI 105), .int (nI 98)]) (σ1 := σ) rfl ?_
    refine tw_biF (c := .eq) rfl (by rw [tw_ceq', tw_neq (by omega) (by omega)] <;> omega) ?_
    show tw_P L xs _ 69 3 [.int (nI 98)] [] σ _
    refine tw_sg 2 (i1 := 5) (ls1 := [.int (nI 98)]) (st1 := [.int (nI 102), .int (nI 98)]) (σ1 := σ) rfl ?_
    refine tw_biF (c := .eq) rfl (by rw [tw_ceq', tw_neq (by omega) (by omega)] <;> omega) ?_
    show tw_P L xs _ 69 6 [.int (nI 98)] [] σ _
    refine tw_sg 2 (i1 := 8) (ls1 := [.int (nI 98)]) (st1 := [.int (nI 98), .int (nI 98)]) (σ1 := σ) rfl ?_
    refine tw_biT (c := .eq) rfl (by rw [tw_ceq, tw_neq (by omega) (by omega)] <;> omega) ?_
    show tw_P L xs _ 69 12 [.int (nI 98)] [] σ _
    refine tw_sg 2 (i1 := 15) (ls1 := [.int (nI 98)]) (st1 := [.int (nI 1)]) (σ1 := σ) rfl ?_
    refine tw_ri rfl (rfl) ?_
    exact ⟨rfl, rfl⟩
  · skip
    show tw_P L xs _ 69 0 [.int (nI 104)] [] σ _
    refine tw_sg 2 (i1 := 2) (ls1 := [.int (nI 104)]) (st1 := [.int (nI 105), .int (nI 104)]) (σ1 := σ) rfl ?_
    refine tw_biF (c := .eq) rfl (by rw [tw_ceq', tw_neq (by omega) (by omega)] <;> omega) ?_
    show tw_P L xs _ 69 3 [.int (nI 104)] [] σ _
    refine tw_sg 2 (i1 := 5) (ls1 := [.int (nI 104)]) (st1 := [.int (nI 102), .int (nI 104)]) (σ1 := σ) rfl ?_
    refine tw_biF (c := .eq) rfl (by rw [tw_ceq', tw_neq (by omega) (by omega)] <;> omega) ?_
    show tw_P L xs _ 69 6 [.int (nI 104)] [] σ _
    refine tw_sg 2 (i1 := 8) (ls1 := [.int (nI 104)]) (st1 := [.int (nI 98), .int (nI 104)]) (σ1 := σ) rfl ?_
    refine tw_biF (c := .eq) rfl (by rw [tw_ceq', tw_neq (by omega) (by omega)] <;> omega) ?_
    show tw_P L xs _ 69 9 [.int (nI 104)] [] σ _
    refine tw_sg 2 (i1 := 11) (ls1 := [.int (nI 104)]) (st1 := [.int (nI 104), .int (nI 104)]) (σ1 := σ) rfl ?_
    refine tw_biF (c := .ne) rfl (by rw [tw_cne', tw_neq (by omega) (by omega)] <;> omega) ?_
    show tw_P L xs _ 69 12 [.int (nI 104)] [] σ _
    refine tw_sg 2 (i1 := 15) (ls1 := [.int (nI 104)]) (st1 := [.int (nI 1)]) (σ1 := σ) rfl ?_
    refine tw_ri rfl (rfl) ?_
    exact ⟨rfl, rfl⟩
set_option maxHeartbeats 4000000 in
set_option maxRecDepth 100000 in
theorem tw_e_isLeaf0 (hc : c < 128) (h : ¬ tw_leaf c) : tw_E L xs 0 69 [.int (nI c)] σ (fun v σ1 => v = some (.int (nI 0)) ∧ σ = σ1) := by
  unfold tw_leaf at h
  show tw_P L xs _ 69 0 [.int (nI c)] [] σ _
  refine tw_sg 2 (i1 := 2) (ls1 := [.int (nI c)]) (st1 := [.int (nI 105), .int (nI c)]) (σ1 := σ) rfl ?_
  refine tw_biF (c := .eq) rfl (by rw [tw_ceq'] <;> (exact (fun e => h (by have := tw_ninj (by omega) (by omega) e; omega)))) ?_
  show tw_P L xs _ 69 3 [.int (nI c)] [] σ _
  refine tw_sg 2 (i1 := 5) (ls1 := [.int (nI c)]) (st1 := [.int (nI 102), .int (nI c)]) (σ1 := σ) rfl ?_
  refine tw_biF (c := .eq) rfl (by rw [tw_ceq'] <;> (exact (fun e => h (by have := tw_ninj (by omega) (by omega) e; omega)))) ?_
  show tw_P L xs _ 69 6 [.int (nI c)] [] σ _
  refine tw_sg 2 (i1 := 8) (ls1 := [.int (nI c)]) (st1 := [.int (nI 98), .int (nI c)]) (σ1 := σ) rfl ?_
  refine tw_biF (c := .eq) rfl (by rw [tw_ceq'] <;> (exact (fun e => h (by have := tw_ninj (by omega) (by omega) e; omega)))) ?_
  show tw_P L xs _ 69 9 [.int (nI c)] [] σ _
  refine tw_sg 2 (i1 := 11) (ls1 := [.int (nI c)]) (st1 := [.int (nI 104), .int (nI c)]) (σ1 := σ) rfl ?_
  refine tw_biT (c := .ne) rfl (by rw [tw_cne] <;> (exact (fun e => h (by have := tw_ninj (by omega) (by omega) e; omega)))) ?_
  show tw_P L xs _ 69 14 [.int (nI c)] [] σ _
  refine tw_sg 1 (i1 := 15) (ls1 := [.int (nI c)]) (st1 := [.int (nI 0)]) (σ1 := σ) rfl ?_
  refine tw_ri rfl (rfl) ?_
  exact ⟨rfl, rfl⟩
set_option maxHeartbeats 4000000 in
set_option maxRecDepth 100000 in
theorem tw_e_hasNumber1 (h : tw_numd c) : tw_E L xs 0 70 [.int (nI c)] σ (fun v σ1 => v = some (.int (nI 1)) ∧ σ = σ1) := by
  rcases h with rfl | rfl | rfl | rfl
  · skip
    show tw_P L xs _ 70 0 [.int (nI 107)] [] σ _
    refine tw_sg 2 (i1 := 2) (ls1 := [.int (nI 107)]) (st1 := [.int (nI 107), .int (nI 107)]) (σ1 := σ) rfl ?_
    refine tw_biT (c := .eq) rfl (by rw [tw_ceq, tw_neq (by omega) (by omega)] <;> omega) ?_
    show tw_P L xs _ 70 12 [.int (nI 107)] [] σ _
    refine tw_sg 2 (i1 := 15) (ls1 := [.int (nI 107)]) (st1 := [.int (nI 1)]) (σ1 := σ) rfl ?_
    refine tw_ri rfl (rfl) ?_
    exact ⟨rfl, rfl⟩
  · skip
    show tw_P L xs _ 70 0 [.int (nI 99)] [] σ _
    refine tw_sg 2 (i1 := 2) (ls1 := [.int (nI 99)]) (st1 := [.int (nI 107), .int (nI 99)]) (σ1 := σ) rfl ?_
    refine tw_biF (c := .eq) rfl (by rw [tw_ceq', tw_neq (by omega) (by omega)] <;> omega) ?_
    show tw_P L xs _ 70 3 [.int (nI 99)] [] σ _
    refine tw_sg 2 (i1 := 5) (ls1 := [.int (nI 99)]) (st1 := [.int (nI 99), .int (nI 99)]) (σ1 := σ) rfl ?_
    refine tw_biT (c := .eq) rfl (by rw [tw_ceq, tw_neq (by omega) (by omega)] <;> omega) ?_
    show tw_P L xs _ 70 12 [.int (nI 99)] [] σ _
    refine tw_sg 2 (i1 := 15) (ls1 := [.int (nI 99)]) (st1 := [.int (nI 1)]) (σ1 := σ) rfl ?_
    refine tw_ri rfl (rfl) ?_
    exact ⟨rfl, rfl⟩
  · skip
    show tw_P L xs _ 70 0 [.int (nI 120)] [] σ _
    refine tw_sg 2 (i1 := 2) (ls1 := [.int (nI 120)]) (st1 := [.int (nI 107), .int (nI 120)]) (σ1 := σ) rfl ?_
    refine tw_biF (c := .eq) rfl (by rw [tw_ceq', tw_neq (by omega) (by omega)] <;> omega) ?_
    show tw_P L xs _ 70 3 [.int (nI 120)] [] σ _
    refine tw_sg 2 (i1 := 5) (ls1 := [.int (nI 120)]) (st1 := [.int (nI 99), .int (nI 120)]) (σ1 := σ) rfl ?_
    refine tw_biF (c := .eq) rfl (by rw [tw_ceq', tw_neq (by omega) (by omega)] <;> omega) ?_
    show tw_P L xs _ 70 6 [.int (nI 120)] [] σ _
    refine tw_sg 2 (i1 := 8) (ls1 := [.int (nI 120)]) (st1 := [.int (nI 120), .int (nI 120)]) (σ1 := σ) rfl ?_
    refine tw_biT (c := .eq) rfl (by rw [tw_ceq, tw_neq (by omega) (by omega)] <;> omega) ?_
    show tw_P L xs _ 70 12 [.int (nI 120)] [] σ _
    refine tw_sg 2 (i1 := 15) (ls1 := [.int (nI 120)]) (st1 := [.int (nI 1)]) (σ1 := σ) rfl ?_
    refine tw_ri rfl (rfl) ?_
    exact ⟨rfl, rfl⟩
  · skip
    show tw_P L xs _ 70 0 [.int (nI 115)] [] σ _
    refine tw_sg 2 (i1 := 2) (ls1 := [.int (nI 115)]) (st1 := [.int (nI 107), .int (nI 115)]) (σ1 := σ) rfl ?_
    refine tw_biF (c := .eq) rfl (by rw [tw_ceq', tw_neq (by omega) (by omega)] <;> omega) ?_
    show tw_P L xs _ 70 3 [.int (nI 115)] [] σ _
    refine tw_sg 2 (i1 := 5) (ls1 := [.int (nI 115)]) (st1 := [.int (nI 99), .int (nI 115)]) (σ1 := σ) rfl ?_
    refine tw_biF (c := .eq) rfl (by rw [tw_ceq', tw_neq (by omega) (by omega)] <;> omega) ?_
    show tw_P L xs _ 70 6 [.int (nI 115)] [] σ _
    refine tw_sg 2 (i1 := 8) (ls1 := [.int (nI 115)]) (st1 := [.int (nI 120), .int (nI 115)]) (σ1 := σ) rfl ?_
    refine tw_biF (c := .eq) rfl (by rw [tw_ceq', tw_neq (by omega) (by omega)] <;> omega) ?_
    show tw_P L xs _ 70 9 [.int (nI 115)] [] σ _
    refine tw_sg 2 (i1 := 11) (ls1 := [.int (nI 115)]) (st1 := [.int (nI 115), .int (nI 115)]) (σ1 := σ) rfl ?_
    refine tw_biF (c := .ne) rfl (by rw [tw_cne', tw_neq (by omega) (by omega)] <;> omega) ?_
    show tw_P L xs _ 70 12 [.int (nI 115)] [] σ _
    refine tw_sg 2 (i1 := 15) (ls1 := [.int (nI 115)]) (st1 := [.int (nI 1)]) (σ1 := σ) rfl ?_
    refine tw_ri rfl (rfl) ?_
    exact ⟨rfl, rfl⟩
set_option maxHeartbeats 4000000 in
set_option maxRecDepth 100000 in
theorem tw_e_hasNumber0 (hc : c < 128) (h : ¬ tw_numd c) : tw_E L xs 0 70 [.int (nI c)] σ (fun v σ1 => v = some (.int (nI 0)) ∧ σ = σ1) := by
  unfold tw_numd at h
  show tw_P L xs _ 70 0 [.int (nI c)] [] σ _
  refine tw_sg 2 (i1 := 2) (ls1 := [.int (nI c)]) (st1 := [.int (nI 107), .int (nI c)]) (σ1 := σ) rfl ?_
  refine tw_biF (c := .eq) rfl (by rw [tw_ceq'] <;> (exact (fun e => h (by have := tw_ninj (by omega) (by omega) e; omega)))) ?_
  show tw_P L xs _ 70 3 [.int (nI c)] [] σ _
  refine tw_sg 2 (i1 := 5) (ls1 := [.int (nI c)]) (st1 := [.int (nI 99), .int (nI c)]) (σ1 := σ) rfl ?_
  refine tw_biF (c := .eq) rfl (by rw [tw_ceq'] <;> (exact (fun e => h (by have := tw_ninj (by omega) (by omega) e; omega)))) ?_
  show tw_P L xs _ 70 6 [.int (nI c)] [] σ _
  refine tw_sg 2 (i1 := 8) (ls1 := [.int (nI c)]) (st1 := [.int (nI 120), .int (nI c)]) (σ1 := σ) rfl ?_
  refine tw_biF (c := .eq) rfl (by rw [tw_ceq'] <;> (exact (fun e => h (by have := tw_ninj (by omega) (by omega) e; omega)))) ?_
  show tw_P L xs _ 70 9 [.int (nI c)] [] σ _
  refine tw_sg 2 (i1 := 11) (ls1 := [.int (nI c)]) (st1 := [.int (nI 115), .int (nI c)]) (σ1 := σ) rfl ?_
  refine tw_biT (c := .ne) rfl (by rw [tw_cne] <;> (exact (fun e => h (by have := tw_ninj (by omega) (by omega) e; omega)))) ?_
  show tw_P L xs _ 70 14 [.int (nI c)] [] σ _
  refine tw_sg 1 (i1 := 15) (ls1 := [.int (nI c)]) (st1 := [.int (nI 0)]) (σ1 := σ) rfl ?_
  refine tw_ri rfl (rfl) ?_
  exact ⟨rfl, rfl⟩
set_option maxHeartbeats 4000000 in
set_option maxRecDepth 100000 in
theorem tw_e_isPair1 (h : tw_pair c) : tw_E L xs 0 72 [.int (nI c)] σ (fun v σ1 => v = some (.int (nI 1)) ∧ σ = σ1) := by
  rcases h with rfl | rfl | rfl | rfl
  · skip
    show tw_P L xs _ 72 0 [.int (nI 107)] [] σ _
    refine tw_sg 2 (i1 := 2) (ls1 := [.int (nI 107)]) (st1 := [.int (nI 107), .int (nI 107)]) (σ1 := σ) rfl ?_
    refine tw_biT (c := .eq) rfl (by rw [tw_ceq, tw_neq (by omega) (by omega)] <;> omega) ?_
    show tw_P L xs _ 72 12 [.int (nI 107)] [] σ _
    refine tw_sg 2 (i1 := 15) (ls1 := [.int (nI 107)]) (st1 := [.int (nI 1)]) (σ1 := σ) rfl ?_
    refine tw_ri rfl (rfl) ?_
    exact ⟨rfl, rfl⟩
  · skip
    show tw_P L xs _ 72 0 [.int (nI 99)] [] σ _
    refine tw_sg 2 (i1 := 2) (ls1 := [.int (nI 99)]) (st1 := [.int (nI 107), .int (nI 99)]) (σ1 := σ) rfl ?_
    refine tw_biF (c := .eq) rfl (by rw [tw_ceq', tw_neq (by omega) (by omega)] <;> omega) ?_
    show tw_P L xs _ 72 3 [.int (nI 99)] [] σ _
    refine tw_sg 2 (i1 := 5) (ls1 := [.int (nI 99)]) (st1 := [.int (nI 99), .int (nI 99)]) (σ1 := σ) rfl ?_
    refine tw_biT (c := .eq) rfl (by rw [tw_ceq, tw_neq (by omega) (by omega)] <;> omega) ?_
    show tw_P L xs _ 72 12 [.int (nI 99)] [] σ _
    refine tw_sg 2 (i1 := 15) (ls1 := [.int (nI 99)]) (st1 := [.int (nI 1)]) (σ1 := σ) rfl ?_
    refine tw_ri rfl (rfl) ?_
    exact ⟨rfl, rfl⟩
  · skip
    show tw_P L xs _ 72 0 [.int (nI 120)] [] σ _
    refine tw_sg 2 (i1 := 2) (ls1 := [.int (nI 120)]) (st1 := [.int (nI 107), .int (nI 120)]) (σ1 := σ) rfl ?_
    refine tw_biF (c := .eq) rfl (by rw [tw_ceq', tw_neq (by omega) (by omega)] <;> omega) ?_
    show tw_P L xs _ 72 3 [.int (nI 120)] [] σ _
    refine tw_sg 2 (i1 := 5) (ls1 := [.int (nI 120)]) (st1 := [.int (nI 99), .int (nI 120)]) (σ1 := σ) rfl ?_
    refine tw_biF (c := .eq) rfl (by rw [tw_ceq', tw_neq (by omega) (by omega)] <;> omega) ?_
    show tw_P L xs _ 72 6 [.int (nI 120)] [] σ _
    refine tw_sg 2 (i1 := 8) (ls1 := [.int (nI 120)]) (st1 := [.int (nI 120), .int (nI 120)]) (σ1 := σ) rfl ?_
    refine tw_biT (c := .eq) rfl (by rw [tw_ceq, tw_neq (by omega) (by omega)] <;> omega) ?_
    show tw_P L xs _ 72 12 [.int (nI 120)] [] σ _
    refine tw_sg 2 (i1 := 15) (ls1 := [.int (nI 120)]) (st1 := [.int (nI 1)]) (σ1 := σ) rfl ?_
    refine tw_ri rfl (rfl) ?_
    exact ⟨rfl, rfl⟩
  · skip
    show tw_P L xs _ 72 0 [.int (nI 116)] [] σ _
    refine tw_sg 2 (i1 := 2) (ls1 := [.int (nI 116)]) (st1 := [.int (nI 107), .int (nI 116)]) (σ1 := σ) rfl ?_
    refine tw_biF (c := .eq) rfl (by rw [tw_ceq', tw_neq (by omega) (by omega)] <;> omega) ?_
    show tw_P L xs _ 72 3 [.int (nI 116)] [] σ _
    refine tw_sg 2 (i1 := 5) (ls1 := [.int (nI 116)]) (st1 := [.int (nI 99), .int (nI 116)]) (σ1 := σ) rfl ?_
    refine tw_biF (c := .eq) rfl (by rw [tw_ceq', tw_neq (by omega) (by omega)] <;> omega) ?_
    show tw_P L xs _ 72 6 [.int (nI 116)] [] σ _
    refine tw_sg 2 (i1 := 8) (ls1 := [.int (nI 116)]) (st1 := [.int (nI 120), .int (nI 116)]) (σ1 := σ) rfl ?_
    refine tw_biF (c := .eq) rfl (by rw [tw_ceq', tw_neq (by omega) (by omega)] <;> omega) ?_
    show tw_P L xs _ 72 9 [.int (nI 116)] [] σ _
    refine tw_sg 2 (i1 := 11) (ls1 := [.int (nI 116)]) (st1 := [.int (nI 116), .int (nI 116)]) (σ1 := σ) rfl ?_
    refine tw_biF (c := .ne) rfl (by rw [tw_cne', tw_neq (by omega) (by omega)] <;> omega) ?_
    show tw_P L xs _ 72 12 [.int (nI 116)] [] σ _
    refine tw_sg 2 (i1 := 15) (ls1 := [.int (nI 116)]) (st1 := [.int (nI 1)]) (σ1 := σ) rfl ?_
    refine tw_ri rfl (rfl) ?_
    exact ⟨rfl, rfl⟩
set_option maxHeartbeats 4000000 in
set_option maxRecDepth 100000 in
theorem tw_e_isPair0 (hc : c < 128) (h : ¬ tw_pair c) : tw_E L xs 0 72 [.int (nI c)] σ (fun v σ1 => v = some (.int (nI 0)) ∧ σ = σ1) := by
  unfold tw_pair at h
  show tw_P L xs _ 72 0 [.int (nI c)] [] σ _
  refine tw_sg 2 (i1 := 2) (ls1 := [.int (nI c)]) (st1 := [.int (nI 107), .int (nI c)]) (σ1 := σ) rfl ?_
  refine tw_biF (c := .eq) rfl (by rw [tw_ceq'] <;> (exact (fun e => h (by have := tw_ninj (by omega) (by omega) e; omega)))) ?_
  show tw_P L xs _ 72 3 [.int (nI c)] [] σ _
  refine tw_sg 2 (i1 := 5) (ls1 := [.int (nI c)]) (st1 := [.int (nI 99), .int (nI c)]) (σ1 := σ) rfl ?_
  refine tw_biF (c := .eq) rfl (by rw [tw_ceq'] <;> (exact (fun e => h (by have := tw_ninj (by omega) (by omega) e; omega)))) ?_
  show tw_P L xs _ 72 6 [.int (nI c)] [] σ _
  refine tw_sg 2 (i1 := 8) (ls1 := [.int (nI c)]) (st1 := [.int (nI 120), .int (nI c)]) (σ1 := σ) rfl ?_
  refine tw_biF (c := .eq) rfl (by rw [tw_ceq'] <;> (exact (fun e => h (by have := tw_ninj (by omega) (by omega) e; omega)))) ?_
  show tw_P L xs _ 72 9 [.int (nI c)] [] σ _
  refine tw_sg 2 (i1 := 11) (ls1 := [.int (nI c)]) (st1 := [.int (nI 116), .int (nI c)]) (σ1 := σ) rfl ?_
  refine tw_biT (c := .ne) rfl (by rw [tw_cne] <;> (exact (fun e => h (by have := tw_ninj (by omega) (by omega) e; omega)))) ?_
  show tw_P L xs _ 72 14 [.int (nI c)] [] σ _
  refine tw_sg 1 (i1 := 15) (ls1 := [.int (nI c)]) (st1 := [.int (nI 0)]) (σ1 := σ) rfl ?_
  refine tw_ri rfl (rfl) ?_
  exact ⟨rfl, rfl⟩
set_option maxHeartbeats 4000000 in
set_option maxRecDepth 100000 in
theorem tw_e_isOpener1 (hc : c < 128) (h : tw_oper c) : tw_E L xs 1 71 [.int (nI c)] σ (fun v σ1 => v = some (.int (nI 1)) ∧ σ = σ1) := by
  rcases h with h | rfl | rfl | rfl | rfl
  · skip
    show tw_P L xs _ 71 0 [.int (nI c)] [] σ _
    refine tw_sg 1 (i1 := 1) (ls1 := [.int (nI c)]) (st1 := [.int (nI c)]) (σ1 := σ) rfl ?_
    refine tw_cl1 rfl (rfl) (by decide) (tw_e_hasNumber1 h) ?_
    rintro _ _ ⟨rfl, rfl⟩
    show tw_P L xs _ 71 2 [.int (nI c)] [.int (nI 1)] σ _
    refine tw_bzT (c := .ne) rfl (by rw [tw_cne, tw_neq (by omega) (by omega)] <;> omega) ?_
    show tw_P L xs _ 71 15 [.int (nI c)] [] σ _
    refine tw_sg 2 (i1 := 18) (ls1 := [.int (nI c)]) (st1 := [.int (nI 1)]) (σ1 := σ) rfl ?_
    refine tw_ri rfl (rfl) ?_
    exact ⟨rfl, rfl⟩
  · skip
    show tw_P L xs _ 71 0 [.int (nI 100)] [] σ _
    refine tw_sg 1 (i1 := 1) (ls1 := [.int (nI 100)]) (st1 := [.int (nI 100)]) (σ1 := σ) rfl ?_
    refine tw_cl1 rfl (rfl) (by decide) (tw_e_hasNumber0 (by decide) (by unfold tw_numd; omega)) ?_
    rintro _ _ ⟨rfl, rfl⟩
    show tw_P L xs _ 71 2 [.int (nI 100)] [.int (nI 0)] σ _
    refine tw_bzF (c := .ne) rfl (by rw [tw_cne', tw_neq (by omega) (by omega)] <;> omega) ?_
    show tw_P L xs _ 71 3 [.int (nI 100)] [] σ _
    refine tw_sg 2 (i1 := 5) (ls1 := [.int (nI 100)]) (st1 := [.int (nI 100), .int (nI 100)]) (σ1 := σ) rfl ?_
    refine tw_biT (c := .eq) rfl (by rw [tw_ceq, tw_neq (by omega) (by omega)] <;> omega) ?_
    show tw_P L xs _ 71 15 [.int (nI 100)] [] σ _
    refine tw_sg 2 (i1 := 18) (ls1 := [.int (nI 100)]) (st1 := [.int (nI 1)]) (σ1 := σ) rfl ?_
    refine tw_ri rfl (rfl) ?_
    exact ⟨rfl, rfl⟩
  · skip
    show tw_P L xs _ 71 0 [.int (nI 114)] [] σ _
    refine tw_sg 1 (i1 := 1) (ls1 := [.int (nI 114)]) (st1 := [.int (nI 114)]) (σ1 := σ) rfl ?_
    refine tw_cl1 rfl (rfl) (by decide) (tw_e_hasNumber0 (by decide) (by unfold tw_numd; omega)) ?_
    rintro _ _ ⟨rfl, rfl⟩
    show tw_P L xs _ 71 2 [.int (nI 114)] [.int (nI 0)] σ _
    refine tw_bzF (c := .ne) rfl (by rw [tw_cne', tw_neq (by omega) (by omega)] <;> omega) ?_
    show tw_P L xs _ 71 3 [.int (nI 114)] [] σ _
    refine tw_sg 2 (i1 := 5) (ls1 := [.int (nI 114)]) (st1 := [.int (nI 100), .int (nI 114)]) (σ1 := σ) rfl ?_
    refine tw_biF (c := .eq) rfl (by rw [tw_ceq', tw_neq (by omega) (by omega)] <;> omega) ?_
    show tw_P L xs _ 71 6 [.int (nI 114)] [] σ _
    refine tw_sg 2 (i1 := 8) (ls1 := [.int (nI 114)]) (st1 := [.int (nI 114), .int (nI 114)]) (σ1 := σ) rfl ?_
    refine tw_biT (c := .eq) rfl (by rw [tw_ceq, tw_neq (by omega) (by omega)] <;> omega) ?_
    show tw_P L xs _ 71 15 [.int (nI 114)] [] σ _
    refine tw_sg 2 (i1 := 18) (ls1 := [.int (nI 114)]) (st1 := [.int (nI 1)]) (σ1 := σ) rfl ?_
    refine tw_ri rfl (rfl) ?_
    exact ⟨rfl, rfl⟩
  · skip
    show tw_P L xs _ 71 0 [.int (nI 109)] [] σ _
    refine tw_sg 1 (i1 := 1) (ls1 := [.int (nI 109)]) (st1 := [.int (nI 109)]) (σ1 := σ) rfl ?_
    refine tw_cl1 rfl (rfl) (by decide) (tw_e_hasNumber0 (by decide) (by unfold tw_numd; omega)) ?_
    rintro _ _ ⟨rfl, rfl⟩
    show tw_P L xs _ 71 2 [.int (nI 109)] [.int (nI 0)] σ _
    refine tw_bzF (c := .ne) rfl (by rw [tw_cne', tw_neq (by omega) (by omega)] <;> omega) ?_
    show tw_P L xs _ 71 3 [.int (nI 109)] [] σ _
    refine tw_sg 2 (i1 := 5) (ls1 := [.int (nI 109)]) (st1 := [.int (nI 100), .int (nI 109)]) (σ1 := σ) rfl ?_
    refine tw_biF (c := .eq) rfl (by rw [tw_ceq', tw_neq (by omega) (by omega)] <;> omega) ?_
    show tw_P L xs _ 71 6 [.int (nI 109)] [] σ _
    refine tw_sg 2 (i1 := 8) (ls1 := [.int (nI 109)]) (st1 := [.int (nI 114), .int (nI 109)]) (σ1 := σ) rfl ?_
    refine tw_biF (c := .eq) rfl (by rw [tw_ceq', tw_neq (by omega) (by omega)] <;> omega) ?_
    show tw_P L xs _ 71 9 [.int (nI 109)] [] σ _
    refine tw_sg 2 (i1 := 11) (ls1 := [.int (nI 109)]) (st1 := [.int (nI 109), .int (nI 109)]) (σ1 := σ) rfl ?_
    refine tw_biT (c := .eq) rfl (by rw [tw_ceq, tw_neq (by omega) (by omega)] <;> omega) ?_
    show tw_P L xs _ 71 15 [.int (nI 109)] [] σ _
    refine tw_sg 2 (i1 := 18) (ls1 := [.int (nI 109)]) (st1 := [.int (nI 1)]) (σ1 := σ) rfl ?_
    refine tw_ri rfl (rfl) ?_
    exact ⟨rfl, rfl⟩
  · skip
    show tw_P L xs _ 71 0 [.int (nI 116)] [] σ _
    refine tw_sg 1 (i1 := 1) (ls1 := [.int (nI 116)]) (st1 := [.int (nI 116)]) (σ1 := σ) rfl ?_
    refine tw_cl1 rfl (rfl) (by decide) (tw_e_hasNumber0 (by decide) (by unfold tw_numd; omega)) ?_
    rintro _ _ ⟨rfl, rfl⟩
    show tw_P L xs _ 71 2 [.int (nI 116)] [.int (nI 0)] σ _
    refine tw_bzF (c := .ne) rfl (by rw [tw_cne', tw_neq (by omega) (by omega)] <;> omega) ?_
    show tw_P L xs _ 71 3 [.int (nI 116)] [] σ _
    refine tw_sg 2 (i1 := 5) (ls1 := [.int (nI 116)]) (st1 := [.int (nI 100), .int (nI 116)]) (σ1 := σ) rfl ?_
    refine tw_biF (c := .eq) rfl (by rw [tw_ceq', tw_neq (by omega) (by omega)] <;> omega) ?_
    show tw_P L xs _ 71 6 [.int (nI 116)] [] σ _
    refine tw_sg 2 (i1 := 8) (ls1 := [.int (nI 116)]) (st1 := [.int (nI 114), .int (nI 116)]) (σ1 := σ) rfl ?_
    refine tw_biF (c := .eq) rfl (by rw [tw_ceq', tw_neq (by omega) (by omega)] <;> omega) ?_
    show tw_P L xs _ 71 9 [.int (nI 116)] [] σ _
    refine tw_sg 2 (i1 := 11) (ls1 := [.int (nI 116)]) (st1 := [.int (nI 109), .int (nI 116)]) (σ1 := σ) rfl ?_
    refine tw_biF (c := .eq) rfl (by rw [tw_ceq', tw_neq (by omega) (by omega)] <;> omega) ?_
    show tw_P L xs _ 71 12 [.int (nI 116)] [] σ _
    refine tw_sg 2 (i1 := 14) (ls1 := [.int (nI 116)]) (st1 := [.int (nI 116), .int (nI 116)]) (σ1 := σ) rfl ?_
    refine tw_biF (c := .ne) rfl (by rw [tw_cne', tw_neq (by omega) (by omega)] <;> omega) ?_
    show tw_P L xs _ 71 15 [.int (nI 116)] [] σ _
    refine tw_sg 2 (i1 := 18) (ls1 := [.int (nI 116)]) (st1 := [.int (nI 1)]) (σ1 := σ) rfl ?_
    refine tw_ri rfl (rfl) ?_
    exact ⟨rfl, rfl⟩
set_option maxHeartbeats 4000000 in
set_option maxRecDepth 100000 in
theorem tw_e_isOpener0 (hc : c < 128) (h : ¬ tw_oper c) : tw_E L xs 1 71 [.int (nI c)] σ (fun v σ1 => v = some (.int (nI 0)) ∧ σ = σ1) := by
  show tw_P L xs _ 71 0 [.int (nI c)] [] σ _
  refine tw_sg 1 (i1 := 1) (ls1 := [.int (nI c)]) (st1 := [.int (nI c)]) (σ1 := σ) rfl ?_
  refine tw_cl1 rfl (rfl) (by decide) (tw_e_hasNumber0 hc (fun z => h (Or.inl z))) ?_
  rintro _ _ ⟨rfl, rfl⟩
  show tw_P L xs _ 71 2 [.int (nI c)] [.int (nI 0)] σ _
  refine tw_bzF (c := .ne) rfl (by rw [tw_cne', tw_neq (by omega) (by omega)] <;> omega) ?_
  show tw_P L xs _ 71 3 [.int (nI c)] [] σ _
  refine tw_sg 2 (i1 := 5) (ls1 := [.int (nI c)]) (st1 := [.int (nI 100), .int (nI c)]) (σ1 := σ) rfl ?_
  refine tw_biF (c := .eq) rfl (by rw [tw_ceq'] <;> (exact (fun e => h (by unfold tw_oper; have := tw_ninj (by omega) (by omega) e; omega)))) ?_
  show tw_P L xs _ 71 6 [.int (nI c)] [] σ _
  refine tw_sg 2 (i1 := 8) (ls1 := [.int (nI c)]) (st1 := [.int (nI 114), .int (nI c)]) (σ1 := σ) rfl ?_
  refine tw_biF (c := .eq) rfl (by rw [tw_ceq'] <;> (exact (fun e => h (by unfold tw_oper; have := tw_ninj (by omega) (by omega) e; omega)))) ?_
  show tw_P L xs _ 71 9 [.int (nI c)] [] σ _
  refine tw_sg 2 (i1 := 11) (ls1 := [.int (nI c)]) (st1 := [.int (nI 109), .int (nI c)]) (σ1 := σ) rfl ?_
  refine tw_biF (c := .eq) rfl (by rw [tw_ceq'] <;> (exact (fun e => h (by unfold tw_oper; have := tw_ninj (by omega) (by omega) e; omega)))) ?_
  show tw_P L xs _ 71 12 [.int (nI c)] [] σ _
  refine tw_sg 2 (i1 := 14) (ls1 := [.int (nI c)]) (st1 := [.int (nI 116), .int (nI c)]) (σ1 := σ) rfl ?_
  refine tw_biT (c := .ne) rfl (by rw [tw_cne] <;> (exact (fun e => h (by unfold tw_oper; have := tw_ninj (by omega) (by omega) e; omega)))) ?_
  show tw_P L xs _ 71 17 [.int (nI c)] [] σ _
  refine tw_sg 1 (i1 := 18) (ls1 := [.int (nI c)]) (st1 := [.int (nI 0)]) (σ1 := σ) rfl ?_
  refine tw_ri rfl (rfl) ?_
  exact ⟨rfl, rfl⟩
def tw_dg (c : Nat) : Prop := 48 ≤ c ∧ c ≤ 57
noncomputable def tw_nl (ch : Nat → Nat) (p : Nat) : Nat := @ite _ (tw_dg (ch p)) (Classical.propDecidable _) (@ite _ (tw_dg (ch (p + 1))) (Classical.propDecidable _) 2 1) 0
def tw_lst (c : Nat) : Nat := if c = 107 ∨ c = 120 then 1 else 0
noncomputable def tw_nv (ch : Nat → Nat) (p : Nat) : Nat := if tw_nl ch p = 0 then 0 else if tw_nl ch p = 1 then 0 * 10 + ch p - 48 else (0 * 10 + ch p - 48) * 10 + ch (p + 1) - 48
theorem tw_nl0 {ch : Nat → Nat} {p : Nat} (h : ¬ tw_dg (ch p)) : tw_nl ch p = 0 := by unfold tw_nl; rw [if_neg h]
theorem tw_nl1 {ch : Nat → Nat} {p : Nat} (h : tw_dg (ch p)) (g : ¬ tw_dg (ch (p + 1))) : tw_nl ch p = 1 := by unfold tw_nl; rw [if_pos h, if_neg g]
theorem tw_nl2 {ch : Nat → Nat} {p : Nat} (h : tw_dg (ch p)) (g : tw_dg (ch (p + 1))) : tw_nl ch p = 2 := by unfold tw_nl; rw [if_pos h, if_pos g]
theorem tw_nl_le {ch : Nat → Nat} {p : Nat} : tw_nl ch p ≤ 2 := by
  by_cases h : tw_dg (ch p)
  · by_cases g : tw_dg (ch (p + 1))
    · rw [tw_nl2 h g]; decide
    · rw [tw_nl1 h g]; decide
  · rw [tw_nl0 h]; decide
theorem tw_nl_in {ch : Nat → Nat} {k p : Nat} (hC : tw_chs ch k) (hp : p ≤ k) : p + tw_nl ch p ≤ k := by
  by_cases h : tw_dg (ch p)
  · have h1 := tw_ch_in (j := p) hC (by unfold tw_dg at h; omega)
    by_cases g : tw_dg (ch (p + 1))
    · have := tw_ch_in (j := p + 1) hC (by unfold tw_dg at g; omega)
      rw [tw_nl2 h g]; omega
    · rw [tw_nl1 h g]; omega
  · rw [tw_nl0 h]; omega
theorem tw_nv_lt {ch : Nat → Nat} {p : Nat} : tw_nv ch p < 100 := by
  by_cases h : tw_dg (ch p)
  · by_cases g : tw_dg (ch (p + 1))
    · unfold tw_nv; rw [tw_nl2 h g]; unfold tw_dg at h g; simp; omega
    · unfold tw_nv; rw [tw_nl1 h g]; unfold tw_dg at h; simp; omega
  · unfold tw_nv; rw [tw_nl0 h, if_pos rfl]; decide
theorem tw_ndg {ch : Nat → Nat} {k p : Nat} (hC : tw_chs ch k) (h : ¬ tw_dg (ch p)) : tw_hv ch p < nI 48 ∨ (¬ tw_hv ch p < nI 48 ∧ nI 57 < tw_hv ch p) := by
  have hc := tw_ch_lt hC p
  unfold tw_dg at h
  by_cases z : ch p = 0
  · rw [tw_hv0 z]; exact Or.inl (by decide)
  · rw [tw_hv1 z, tw_nlt (by omega) (by omega), tw_nlt (by omega) (by omega)]; omega
theorem tw_isdg {ch : Nat → Nat} {k p : Nat} (hC : tw_chs ch k) (h : tw_dg (ch p)) : tw_hv ch p = nI (ch p) ∧ ¬ nI (ch p) < nI 48 ∧ ¬ nI 57 < nI (ch p) := by
  have hc := tw_ch_lt hC p
  unfold tw_dg at h
  rw [tw_hv1 (by omega), tw_nlt (by omega) (by omega), tw_nlt (by omega) (by omega)]; exact ⟨rfl, by omega, by omega⟩
set_option maxHeartbeats 4000000 in
set_option maxRecDepth 100000 in
theorem tw_l_nT1 {p p2 v : Nat} {u : Value} {Q : Option Value → tw_Mem → Prop} (hc : c < 128) (hp : p ≤ 100) (hp2 : p2 ≤ 100) (hv : v < 1000) (h2 : σ 70 2 = nI p2) (h0 : ¬ p2 = p) (h1 : tw_lst c ≤ v) (hQ : Q (some (.int (nI v))) σ) : tw_P L xs 2 65 35 [.ref 70, .int (nI c), .int (nI p), .int (nI v), u] [] σ Q := by
  rcases (show c = 107 ∨ c = 120 ∨ (¬ c = 107 ∧ ¬ c = 120) by omega) with rfl | rfl | ⟨hx1, hx2⟩
  · have hl : tw_lst 107 = 1 := by decide
    refine tw_sg 2 (i1 := 37) (ls1 := [.ref 70, .int (nI 107), .int (nI p), .int (nI v), u]) (st1 := [.int (nI 107), .int (nI 107)]) (σ1 := σ) rfl ?_
    refine tw_biT (c := .eq) rfl (by rw [tw_ceq, tw_neq (by omega) (by omega)] <;> omega) ?_
    show tw_P L xs _ 65 41 [.ref 70, .int (nI 107), .int (nI p), .int (nI v), u] [] σ _
    refine tw_sgn 6 (i1 := 48) (ls0 := [.ref 70, .int (nI 107), .int (nI p), .int (nI v), .int (nI 1)]) (st0 := [.int (nI p), .int (σ 70 2)]) (σ0 := σ) (ls1 := [.ref 70, .int (nI 107), .int (nI p), .int (nI v), .int (nI 1)]) (st1 := [.int (nI p), .int (nI p2)]) (σ1 := σ) rfl (rfl) (by simp only [h2, tw_nadd, tw_nmul]) (rfl) ?_
    refine tw_biF (c := .eq) rfl (by rw [tw_ceq'] <;> (exact (by rw [tw_neq (by omega) (by omega)]; omega))) ?_
    show tw_P L xs _ 65 49 [.ref 70, .int (nI 107), .int (nI p), .int (nI v), .int (nI 1)] [] σ _
    refine tw_sg 2 (i1 := 51) (ls1 := [.ref 70, .int (nI 107), .int (nI p), .int (nI v), .int (nI 1)]) (st1 := [.int (nI 1), .int (nI v)]) (σ1 := σ) rfl ?_
    refine tw_biT (c := .ge) rfl (by rw [tw_cge] <;> (exact tw_not_lt.mp (by rw [tw_nlt (by omega) (by omega)]; omega))) ?_
    show tw_P L xs _ 65 55 [.ref 70, .int (nI 107), .int (nI p), .int (nI v), .int (nI 1)] [] σ _
    refine tw_sg 1 (i1 := 56) (ls1 := [.ref 70, .int (nI 107), .int (nI p), .int (nI v), .int (nI 1)]) (st1 := [.int (nI v)]) (σ1 := σ) rfl ?_
    refine tw_ri rfl (rfl) ?_
    exact hQ
  · have hl : tw_lst 120 = 1 := by decide
    refine tw_sg 2 (i1 := 37) (ls1 := [.ref 70, .int (nI 120), .int (nI p), .int (nI v), u]) (st1 := [.int (nI 107), .int (nI 120)]) (σ1 := σ) rfl ?_
    refine tw_biF (c := .eq) rfl (by rw [tw_ceq', tw_neq (by omega) (by omega)] <;> omega) ?_
    show tw_P L xs _ 65 38 [.ref 70, .int (nI 120), .int (nI p), .int (nI v), u] [] σ _
    refine tw_sg 2 (i1 := 40) (ls1 := [.ref 70, .int (nI 120), .int (nI p), .int (nI v), u]) (st1 := [.int (nI 120), .int (nI 120)]) (σ1 := σ) rfl ?_
    refine tw_biF (c := .ne) rfl (by rw [tw_cne', tw_neq (by omega) (by omega)] <;> omega) ?_
    show tw_P L xs _ 65 41 [.ref 70, .int (nI 120), .int (nI p), .int (nI v), u] [] σ _
    refine tw_sgn 6 (i1 := 48) (ls0 := [.ref 70, .int (nI 120), .int (nI p), .int (nI v), .int (nI 1)]) (st0 := [.int (nI p), .int (σ 70 2)]) (σ0 := σ) (ls1 := [.ref 70, .int (nI 120), .int (nI p), .int (nI v), .int (nI 1)]) (st1 := [.int (nI p), .int (nI p2)]) (σ1 := σ) rfl (rfl) (by simp only [h2, tw_nadd, tw_nmul]) (rfl) ?_
    refine tw_biF (c := .eq) rfl (by rw [tw_ceq'] <;> (exact (by rw [tw_neq (by omega) (by omega)]; omega))) ?_
    show tw_P L xs _ 65 49 [.ref 70, .int (nI 120), .int (nI p), .int (nI v), .int (nI 1)] [] σ _
    refine tw_sg 2 (i1 := 51) (ls1 := [.ref 70, .int (nI 120), .int (nI p), .int (nI v), .int (nI 1)]) (st1 := [.int (nI 1), .int (nI v)]) (σ1 := σ) rfl ?_
    refine tw_biT (c := .ge) rfl (by rw [tw_cge] <;> (exact tw_not_lt.mp (by rw [tw_nlt (by omega) (by omega)]; omega))) ?_
    show tw_P L xs _ 65 55 [.ref 70, .int (nI 120), .int (nI p), .int (nI v), .int (nI 1)] [] σ _
    refine tw_sg 1 (i1 := 56) (ls1 := [.ref 70, .int (nI 120), .int (nI p), .int (nI v), .int (nI 1)]) (st1 := [.int (nI v)]) (σ1 := σ) rfl ?_
    refine tw_ri rfl (rfl) ?_
    exact hQ
  · have hl : tw_lst c = 0 := if_neg (by omega)
    refine tw_sg 2 (i1 := 37) (ls1 := [.ref 70, .int (nI c), .int (nI p), .int (nI v), u]) (st1 := [.int (nI 107), .int (nI c)]) (σ1 := σ) rfl ?_
    refine tw_biF (c := .eq) rfl (by rw [tw_ceq'] <;> (exact (by rw [tw_neq (by omega) (by omega)]; omega))) ?_
    show tw_P L xs _ 65 38 [.ref 70, .int (nI c), .int (nI p), .int (nI v), u] [] σ _
    refine tw_sg 2 (i1 := 40) (ls1 := [.ref 70, .int (nI c), .int (nI p), .int (nI v), u]) (st1 := [.int (nI 120), .int (nI c)]) (σ1 := σ) rfl ?_
    refine tw_biT (c := .ne) rfl (by rw [tw_cne] <;> (exact (by rw [tw_neq (by omega) (by omega)]; omega))) ?_
    show tw_P L xs _ 65 43 [.ref 70, .int (nI c), .int (nI p), .int (nI v), u] [] σ _
    refine tw_sgn 5 (i1 := 48) (ls0 := [.ref 70, .int (nI c), .int (nI p), .int (nI v), .int (nI 0)]) (st0 := [.int (nI p), .int (σ 70 2)]) (σ0 := σ) (ls1 := [.ref 70, .int (nI c), .int (nI p), .int (nI v), .int (nI 0)]) (st1 := [.int (nI p), .int (nI p2)]) (σ1 := σ) rfl (rfl) (by simp only [h2, tw_nadd, tw_nmul]) (rfl) ?_
    refine tw_biF (c := .eq) rfl (by rw [tw_ceq'] <;> (exact (by rw [tw_neq (by omega) (by omega)]; omega))) ?_
    show tw_P L xs _ 65 49 [.ref 70, .int (nI c), .int (nI p), .int (nI v), .int (nI 0)] [] σ _
    refine tw_sg 2 (i1 := 51) (ls1 := [.ref 70, .int (nI c), .int (nI p), .int (nI v), .int (nI 0)]) (st1 := [.int (nI 0), .int (nI v)]) (σ1 := σ) rfl ?_
    refine tw_biT (c := .ge) rfl (by rw [tw_cge] <;> (exact tw_not_lt.mp (by rw [tw_nlt (by omega) (by omega)]; omega))) ?_
    show tw_P L xs _ 65 55 [.ref 70, .int (nI c), .int (nI p), .int (nI v), .int (nI 0)] [] σ _
    refine tw_sg 1 (i1 := 56) (ls1 := [.ref 70, .int (nI c), .int (nI p), .int (nI v), .int (nI 0)]) (st1 := [.int (nI v)]) (σ1 := σ) rfl ?_
    refine tw_ri rfl (rfl) ?_
    exact hQ
set_option maxHeartbeats 4000000 in
set_option maxRecDepth 100000 in
theorem tw_l_nT0 {p p2 v : Nat} {u : Value} {Q : Option Value → tw_Mem → Prop} (hc : c < 128) (hp : p ≤ 100) (hp2 : p2 ≤ 100) (hv : v < 1000) (h2 : σ 70 2 = nI p2) (h3 : σ 70 3 = (-1)) (h0 : p2 = p ∨ v < tw_lst c) (hQ : Q (some (.int (nI v))) (tw_upd σ 70 3 (nI p))) : tw_P L xs 2 65 35 [.ref 70, .int (nI c), .int (nI p), .int (nI v), u] [] σ Q := by
  rcases (show c = 107 ∨ c = 120 ∨ (¬ c = 107 ∧ ¬ c = 120) by omega) with rfl | rfl | ⟨hx1, hx2⟩
  · have hl : tw_lst 107 = 1 := by decide
    by_cases hz : p2 = p
    · skip
      refine tw_sg 2 (i1 := 37) (ls1 := [.ref 70, .int (nI 107), .int (nI p), .int (nI v), u]) (st1 := [.int (nI 107), .int (nI 107)]) (σ1 := σ) rfl ?_
      refine tw_biT (c := .eq) rfl (by rw [tw_ceq, tw_neq (by omega) (by omega)] <;> omega) ?_
      show tw_P L xs _ 65 41 [.ref 70, .int (nI 107), .int (nI p), .int (nI v), u] [] σ _
      refine tw_sgn 6 (i1 := 48) (ls0 := [.ref 70, .int (nI 107), .int (nI p), .int (nI v), .int (nI 1)]) (st0 := [.int (nI p), .int (σ 70 2)]) (σ0 := σ) (ls1 := [.ref 70, .int (nI 107), .int (nI p), .int (nI v), .int (nI 1)]) (st1 := [.int (nI p), .int (nI p2)]) (σ1 := σ) rfl (rfl) (by simp only [h2, tw_nadd, tw_nmul]) (rfl) ?_
      refine tw_biT (c := .eq) rfl (by rw [tw_ceq] <;> (exact (by rw [hz]))) ?_
      show tw_P L xs _ 65 52 [.ref 70, .int (nI 107), .int (nI p), .int (nI v), .int (nI 1)] [] σ _
      refine tw_sg 2 (i1 := 54) (ls1 := [.ref 70, .int (nI 107), .int (nI p), .int (nI v), .int (nI 1)]) (st1 := [.int (nI p), .ref 70]) (σ1 := σ) rfl ?_
      refine tw_cl0 1 rfl (rfl) (by decide) ?_
      show tw_P L xs _ 67 0 [.ref 70, .int (nI p)] [] σ _
      refine tw_sgn 3 (i1 := 3) (ls0 := [.ref 70, .int (nI p)]) (st0 := [.int (-1), .int (σ 70 3)]) (σ0 := σ) (ls1 := [.ref 70, .int (nI p)]) (st1 := [.int (-1), .int (-1)]) (σ1 := σ) rfl (rfl) (by simp only [h3, tw_nadd, tw_nmul]) (rfl) ?_
      refine tw_biF (c := .ne) rfl (by rw [tw_cne'] <;> (exact rfl)) ?_
      show tw_P L xs _ 67 4 [.ref 70, .int (nI p)] [] σ _
      refine tw_sg 3 (i1 := 7) (ls1 := [.ref 70, .int (nI p)]) (st1 := []) (σ1 := (tw_upd σ 70 3 (nI p))) rfl ?_
      refine tw_rv rfl ?_
      show tw_P L xs _ 65 55 [.ref 70, .int (nI 107), .int (nI p), .int (nI v), .int (nI 1)] [] (tw_upd σ 70 3 (nI p)) _
      refine tw_sg 1 (i1 := 56) (ls1 := [.ref 70, .int (nI 107), .int (nI p), .int (nI v), .int (nI 1)]) (st1 := [.int (nI v)]) (σ1 := (tw_upd σ 70 3 (nI p))) rfl ?_
      refine tw_ri rfl (rfl) ?_
      exact hQ
    · skip
      refine tw_sg 2 (i1 := 37) (ls1 := [.ref 70, .int (nI 107), .int (nI p), .int (nI v), u]) (st1 := [.int (nI 107), .int (nI 107)]) (σ1 := σ) rfl ?_
      refine tw_biT (c := .eq) rfl (by rw [tw_ceq, tw_neq (by omega) (by omega)] <;> omega) ?_
      show tw_P L xs _ 65 41 [.ref 70, .int (nI 107), .int (nI p), .int (nI v), u] [] σ _
      refine tw_sgn 6 (i1 := 48) (ls0 := [.ref 70, .int (nI 107), .int (nI p), .int (nI v), .int (nI 1)]) (st0 := [.int (nI p), .int (σ 70 2)]) (σ0 := σ) (ls1 := [.ref 70, .int (nI 107), .int (nI p), .int (nI v), .int (nI 1)]) (st1 := [.int (nI p), .int (nI p2)]) (σ1 := σ) rfl (rfl) (by simp only [h2, tw_nadd, tw_nmul]) (rfl) ?_
      refine tw_biF (c := .eq) rfl (by rw [tw_ceq'] <;> (exact (by rw [tw_neq (by omega) (by omega)]; omega))) ?_
      show tw_P L xs _ 65 49 [.ref 70, .int (nI 107), .int (nI p), .int (nI v), .int (nI 1)] [] σ _
      refine tw_sg 2 (i1 := 51) (ls1 := [.ref 70, .int (nI 107), .int (nI p), .int (nI v), .int (nI 1)]) (st1 := [.int (nI 1), .int (nI v)]) (σ1 := σ) rfl ?_
      refine tw_biF (c := .ge) rfl (by rw [tw_cge'] <;> (exact tw_not_le.mpr (by rw [tw_nlt (by omega) (by omega)]; omega))) ?_
      show tw_P L xs _ 65 52 [.ref 70, .int (nI 107), .int (nI p), .int (nI v), .int (nI 1)] [] σ _
      refine tw_sg 2 (i1 := 54) (ls1 := [.ref 70, .int (nI 107), .int (nI p), .int (nI v), .int (nI 1)]) (st1 := [.int (nI p), .ref 70]) (σ1 := σ) rfl ?_
      refine tw_cl0 1 rfl (rfl) (by decide) ?_
      show tw_P L xs _ 67 0 [.ref 70, .int (nI p)] [] σ _
      refine tw_sgn 3 (i1 := 3) (ls0 := [.ref 70, .int (nI p)]) (st0 := [.int (-1), .int (σ 70 3)]) (σ0 := σ) (ls1 := [.ref 70, .int (nI p)]) (st1 := [.int (-1), .int (-1)]) (σ1 := σ) rfl (rfl) (by simp only [h3, tw_nadd, tw_nmul]) (rfl) ?_
      refine tw_biF (c := .ne) rfl (by rw [tw_cne'] <;> (exact rfl)) ?_
      show tw_P L xs _ 67 4 [.ref 70, .int (nI p)] [] σ _
      refine tw_sg 3 (i1 := 7) (ls1 := [.ref 70, .int (nI p)]) (st1 := []) (σ1 := (tw_upd σ 70 3 (nI p))) rfl ?_
      refine tw_rv rfl ?_
      show tw_P L xs _ 65 55 [.ref 70, .int (nI 107), .int (nI p), .int (nI v), .int (nI 1)] [] (tw_upd σ 70 3 (nI p)) _
      refine tw_sg 1 (i1 := 56) (ls1 := [.ref 70, .int (nI 107), .int (nI p), .int (nI v), .int (nI 1)]) (st1 := [.int (nI v)]) (σ1 := (tw_upd σ 70 3 (nI p))) rfl ?_
      refine tw_ri rfl (rfl) ?_
      exact hQ
  · have hl : tw_lst 120 = 1 := by decide
    by_cases hz : p2 = p
    · skip
      refine tw_sg 2 (i1 := 37) (ls1 := [.ref 70, .int (nI 120), .int (nI p), .int (nI v), u]) (st1 := [.int (nI 107), .int (nI 120)]) (σ1 := σ) rfl ?_
      refine tw_biF (c := .eq) rfl (by rw [tw_ceq', tw_neq (by omega) (by omega)] <;> omega) ?_
      show tw_P L xs _ 65 38 [.ref 70, .int (nI 120), .int (nI p), .int (nI v), u] [] σ _
      refine tw_sg 2 (i1 := 40) (ls1 := [.ref 70, .int (nI 120), .int (nI p), .int (nI v), u]) (st1 := [.int (nI 120), .int (nI 120)]) (σ1 := σ) rfl ?_
      refine tw_biF (c := .ne) rfl (by rw [tw_cne', tw_neq (by omega) (by omega)] <;> omega) ?_
      show tw_P L xs _ 65 41 [.ref 70, .int (nI 120), .int (nI p), .int (nI v), u] [] σ _
      refine tw_sgn 6 (i1 := 48) (ls0 := [.ref 70, .int (nI 120), .int (nI p), .int (nI v), .int (nI 1)]) (st0 := [.int (nI p), .int (σ 70 2)]) (σ0 := σ) (ls1 := [.ref 70, .int (nI 120), .int (nI p), .int (nI v), .int (nI 1)]) (st1 := [.int (nI p), .int (nI p2)]) (σ1 := σ) rfl (rfl) (by simp only [h2, tw_nadd, tw_nmul]) (rfl) ?_
      refine tw_biT (c := .eq) rfl (by rw [tw_ceq] <;> (exact (by rw [hz]))) ?_
      show tw_P L xs _ 65 52 [.ref 70, .int (nI 120), .int (nI p), .int (nI v), .int (nI 1)] [] σ _
      refine tw_sg 2 (i1 := 54) (ls1 := [.ref 70, .int (nI 120), .int (nI p), .int (nI v), .int (nI 1)]) (st1 := [.int (nI p), .ref 70]) (σ1 := σ) rfl ?_
      refine tw_cl0 1 rfl (rfl) (by decide) ?_
      show tw_P L xs _ 67 0 [.ref 70, .int (nI p)] [] σ _
      refine tw_sgn 3 (i1 := 3) (ls0 := [.ref 70, .int (nI p)]) (st0 := [.int (-1), .int (σ 70 3)]) (σ0 := σ) (ls1 := [.ref 70, .int (nI p)]) (st1 := [.int (-1), .int (-1)]) (σ1 := σ) rfl (rfl) (by simp only [h3, tw_nadd, tw_nmul]) (rfl) ?_
      refine tw_biF (c := .ne) rfl (by rw [tw_cne'] <;> (exact rfl)) ?_
      show tw_P L xs _ 67 4 [.ref 70, .int (nI p)] [] σ _
      refine tw_sg 3 (i1 := 7) (ls1 := [.ref 70, .int (nI p)]) (st1 := []) (σ1 := (tw_upd σ 70 3 (nI p))) rfl ?_
      refine tw_rv rfl ?_
      show tw_P L xs _ 65 55 [.ref 70, .int (nI 120), .int (nI p), .int (nI v), .int (nI 1)] [] (tw_upd σ 70 3 (nI p)) _
      refine tw_sg 1 (i1 := 56) (ls1 := [.ref 70, .int (nI 120), .int (nI p), .int (nI v), .int (nI 1)]) (st1 := [.int (nI v)]) (σ1 := (tw_upd σ 70 3 (nI p))) rfl ?_
      refine tw_ri rfl (rfl) ?_
      exact hQ
    · skip
      refine tw_sg 2 (i1 := 37) (ls1 := [.ref 70, .int (nI 120), .int (nI p), .int (nI v), u]) (st1 := [.int (nI 107), .int (nI 120)]) (σ1 := σ) rfl ?_
      refine tw_biF (c := .eq) rfl (by rw [tw_ceq', tw_neq (by omega) (by omega)] <;> omega) ?_
      show tw_P L xs _ 65 38 [.ref 70, .int (nI 120), .int (nI p), .int (nI v), u] [] σ _
      refine tw_sg 2 (i1 := 40) (ls1 := [.ref 70, .int (nI 120), .int (nI p), .int (nI v), u]) (st1 := [.int (nI 120), .int (nI 120)]) (σ1 := σ) rfl ?_
      refine tw_biF (c := .ne) rfl (by rw [tw_cne', tw_neq (by omega) (by omega)] <;> omega) ?_
      show tw_P L xs _ 65 41 [.ref 70, .int (nI 120), .int (nI p), .int (nI v), u] [] σ _
      refine tw_sgn 6 (i1 := 48) (ls0 := [.ref 70, .int (nI 120), .int (nI p), .int (nI v), .int (nI 1)]) (st0 := [.int (nI p), .int (σ 70 2)]) (σ0 := σ) (ls1 := [.ref 70, .int (nI 120), .int (nI p), .int (nI v), .int (nI 1)]) (st1 := [.int (nI p), .int (nI p2)]) (σ1 := σ) rfl (rfl) (by simp only [h2, tw_nadd, tw_nmul]) (rfl) ?_
      refine tw_biF (c := .eq) rfl (by rw [tw_ceq'] <;> (exact (by rw [tw_neq (by omega) (by omega)]; omega))) ?_
      show tw_P L xs _ 65 49 [.ref 70, .int (nI 120), .int (nI p), .int (nI v), .int (nI 1)] [] σ _
      refine tw_sg 2 (i1 := 51) (ls1 := [.ref 70, .int (nI 120), .int (nI p), .int (nI v), .int (nI 1)]) (st1 := [.int (nI 1), .int (nI v)]) (σ1 := σ) rfl ?_
      refine tw_biF (c := .ge) rfl (by rw [tw_cge'] <;> (exact tw_not_le.mpr (by rw [tw_nlt (by omega) (by omega)]; omega))) ?_
      show tw_P L xs _ 65 52 [.ref 70, .int (nI 120), .int (nI p), .int (nI v), .int (nI 1)] [] σ _
      refine tw_sg 2 (i1 := 54) (ls1 := [.ref 70, .int (nI 120), .int (nI p), .int (nI v), .int (nI 1)]) (st1 := [.int (nI p), .ref 70]) (σ1 := σ) rfl ?_
      refine tw_cl0 1 rfl (rfl) (by decide) ?_
      show tw_P L xs _ 67 0 [.ref 70, .int (nI p)] [] σ _
      refine tw_sgn 3 (i1 := 3) (ls0 := [.ref 70, .int (nI p)]) (st0 := [.int (-1), .int (σ 70 3)]) (σ0 := σ) (ls1 := [.ref 70, .int (nI p)]) (st1 := [.int (-1), .int (-1)]) (σ1 := σ) rfl (rfl) (by simp only [h3, tw_nadd, tw_nmul]) (rfl) ?_
      refine tw_biF (c := .ne) rfl (by rw [tw_cne'] <;> (exact rfl)) ?_
      show tw_P L xs _ 67 4 [.ref 70, .int (nI p)] [] σ _
      refine tw_sg 3 (i1 := 7) (ls1 := [.ref 70, .int (nI p)]) (st1 := []) (σ1 := (tw_upd σ 70 3 (nI p))) rfl ?_
      refine tw_rv rfl ?_
      show tw_P L xs _ 65 55 [.ref 70, .int (nI 120), .int (nI p), .int (nI v), .int (nI 1)] [] (tw_upd σ 70 3 (nI p)) _
      refine tw_sg 1 (i1 := 56) (ls1 := [.ref 70, .int (nI 120), .int (nI p), .int (nI v), .int (nI 1)]) (st1 := [.int (nI v)]) (σ1 := (tw_upd σ 70 3 (nI p))) rfl ?_
      refine tw_ri rfl (rfl) ?_
      exact hQ
  · have hl : tw_lst c = 0 := if_neg (by omega)
    by_cases hz : p2 = p
    · skip
      refine tw_sg 2 (i1 := 37) (ls1 := [.ref 70, .int (nI c), .int (nI p), .int (nI v), u]) (st1 := [.int (nI 107), .int (nI c)]) (σ1 := σ) rfl ?_
      refine tw_biF (c := .eq) rfl (by rw [tw_ceq'] <;> (exact (by rw [tw_neq (by omega) (by omega)]; omega))) ?_
      show tw_P L xs _ 65 38 [.ref 70, .int (nI c), .int (nI p), .int (nI v), u] [] σ _
      refine tw_sg 2 (i1 := 40) (ls1 := [.ref 70, .int (nI c), .int (nI p), .int (nI v), u]) (st1 := [.int (nI 120), .int (nI c)]) (σ1 := σ) rfl ?_
      refine tw_biT (c := .ne) rfl (by rw [tw_cne] <;> (exact (by rw [tw_neq (by omega) (by omega)]; omega))) ?_
      show tw_P L xs _ 65 43 [.ref 70, .int (nI c), .int (nI p), .int (nI v), u] [] σ _
      refine tw_sgn 5 (i1 := 48) (ls0 := [.ref 70, .int (nI c), .int (nI p), .int (nI v), .int (nI 0)]) (st0 := [.int (nI p), .int (σ 70 2)]) (σ0 := σ) (ls1 := [.ref 70, .int (nI c), .int (nI p), .int (nI v), .int (nI 0)]) (st1 := [.int (nI p), .int (nI p2)]) (σ1 := σ) rfl (rfl) (by simp only [h2, tw_nadd, tw_nmul]) (rfl) ?_
      refine tw_biT (c := .eq) rfl (by rw [tw_ceq] <;> (exact (by rw [hz]))) ?_
      show tw_P L xs _ 65 52 [.ref 70, .int (nI c), .int (nI p), .int (nI v), .int (nI 0)] [] σ _
      refine tw_sg 2 (i1 := 54) (ls1 := [.ref 70, .int (nI c), .int (nI p), .int (nI v), .int (nI 0)]) (st1 := [.int (nI p), .ref 70]) (σ1 := σ) rfl ?_
      refine tw_cl0 1 rfl (rfl) (by decide) ?_
      show tw_P L xs _ 67 0 [.ref 70, .int (nI p)] [] σ _
      refine tw_sgn 3 (i1 := 3) (ls0 := [.ref 70, .int (nI p)]) (st0 := [.int (-1), .int (σ 70 3)]) (σ0 := σ) (ls1 := [.ref 70, .int (nI p)]) (st1 := [.int (-1), .int (-1)]) (σ1 := σ) rfl (rfl) (by simp only [h3, tw_nadd, tw_nmul]) (rfl) ?_
      refine tw_biF (c := .ne) rfl (by rw [tw_cne'] <;> (exact rfl)) ?_
      show tw_P L xs _ 67 4 [.ref 70, .int (nI p)] [] σ _
      refine tw_sg 3 (i1 := 7) (ls1 := [.ref 70, .int (nI p)]) (st1 := []) (σ1 := (tw_upd σ 70 3 (nI p))) rfl ?_
      refine tw_rv rfl ?_
      show tw_P L xs _ 65 55 [.ref 70, .int (nI c), .int (nI p), .int (nI v), .int (nI 0)] [] (tw_upd σ 70 3 (nI p)) _
      refine tw_sg 1 (i1 := 56) (ls1 := [.ref 70, .int (nI c), .int (nI p), .int (nI v), .int (nI 0)]) (st1 := [.int (nI v)]) (σ1 := (tw_upd σ 70 3 (nI p))) rfl ?_
      refine tw_ri rfl (rfl) ?_
      exact hQ
    · skip
      refine tw_sg 2 (i1 := 37) (ls1 := [.ref 70, .int (nI c), .int (nI p), .int (nI v), u]) (st1 := [.int (nI 107), .int (nI c)]) (σ1 := σ) rfl ?_
      refine tw_biF (c := .eq) rfl (by rw [tw_ceq'] <;> (exact (by rw [tw_neq (by omega) (by omega)]; omega))) ?_
      show tw_P L xs _ 65 38 [.ref 70, .int (nI c), .int (nI p), .int (nI v), u] [] σ _
      refine tw_sg 2 (i1 := 40) (ls1 := [.ref 70, .int (nI c), .int (nI p), .int (nI v), u]) (st1 := [.int (nI 120), .int (nI c)]) (σ1 := σ) rfl ?_
      refine tw_biT (c := .ne) rfl (by rw [tw_cne] <;> (exact (by rw [tw_neq (by omega) (by omega)]; omega))) ?_
      show tw_P L xs _ 65 43 [.ref 70, .int (nI c), .int (nI p), .int (nI v), u] [] σ _
      refine tw_sgn 5 (i1 := 48) (ls0 := [.ref 70, .int (nI c), .int (nI p), .int (nI v), .int (nI 0)]) (st0 := [.int (nI p), .int (σ 70 2)]) (σ0 := σ) (ls1 := [.ref 70, .int (nI c), .int (nI p), .int (nI v), .int (nI 0)]) (st1 := [.int (nI p), .int (nI p2)]) (σ1 := σ) rfl (rfl) (by simp only [h2, tw_nadd, tw_nmul]) (rfl) ?_
      refine tw_biF (c := .eq) rfl (by rw [tw_ceq'] <;> (exact (by rw [tw_neq (by omega) (by omega)]; omega))) ?_
      show tw_P L xs _ 65 49 [.ref 70, .int (nI c), .int (nI p), .int (nI v), .int (nI 0)] [] σ _
      refine tw_sg 2 (i1 := 51) (ls1 := [.ref 70, .int (nI c), .int (nI p), .int (nI v), .int (nI 0)]) (st1 := [.int (nI 0), .int (nI v)]) (σ1 := σ) rfl ?_
      refine tw_biF (c := .ge) rfl (by rw [tw_cge'] <;> (exact tw_not_le.mpr (by rw [tw_nlt (by omega) (by omega)]; omega))) ?_
      show tw_P L xs _ 65 52 [.ref 70, .int (nI c), .int (nI p), .int (nI v), .int (nI 0)] [] σ _
      refine tw_sg 2 (i1 := 54) (ls1 := [.ref 70, .int (nI c), .int (nI p), .int (nI v), .int (nI 0)]) (st1 := [.int (nI p), .ref 70]) (σ1 := σ) rfl ?_
      refine tw_cl0 1 rfl (rfl) (by decide) ?_
      show tw_P L xs _ 67 0 [.ref 70, .int (nI p)] [] σ _
      refine tw_sgn 3 (i1 := 3) (ls0 := [.ref 70, .int (nI p)]) (st0 := [.int (-1), .int (σ 70 3)]) (σ0 := σ) (ls1 := [.ref 70, .int (nI p)]) (st1 := [.int (-1), .int (-1)]) (σ1 := σ) rfl (rfl) (by simp only [h3, tw_nadd, tw_nmul]) (rfl) ?_
      refine tw_biF (c := .ne) rfl (by rw [tw_cne'] <;> (exact rfl)) ?_
      show tw_P L xs _ 67 4 [.ref 70, .int (nI p)] [] σ _
      refine tw_sg 3 (i1 := 7) (ls1 := [.ref 70, .int (nI p)]) (st1 := []) (σ1 := (tw_upd σ 70 3 (nI p))) rfl ?_
      refine tw_rv rfl ?_
      show tw_P L xs _ 65 55 [.ref 70, .int (nI c), .int (nI p), .int (nI v), .int (nI 0)] [] (tw_upd σ 70 3 (nI p)) _
      refine tw_sg 1 (i1 := 56) (ls1 := [.ref 70, .int (nI c), .int (nI p), .int (nI v), .int (nI 0)]) (st1 := [.int (nI v)]) (σ1 := (tw_upd σ 70 3 (nI p))) rfl ?_
      refine tw_ri rfl (rfl) ?_
      exact hQ
set_option maxHeartbeats 4000000 in
set_option maxRecDepth 100000 in
theorem tw_l_nM1 {p p2 v : Nat} {Q : Option Value → tw_Mem → Prop} (hc : c < 128) (hp : p ≤ 100) (hp2 : p2 ≤ 100) (hv : v < 1000) (h2 : σ 88 18 = nI p2) (h0 : ¬ p2 = p) (h1 : c ≤ v) (hQ : Q (some (.int (nI v))) σ) : tw_P L xs 2 192 33 [.ref 88, .int (nI c), .int (nI p), .int (nI v)] [] σ Q := by
  refine tw_sgn 3 (i1 := 36) (ls0 := [.ref 88, .int (nI c), .int (nI p), .int (nI v)]) (st0 := [.int (nI p), .int (σ 88 18)]) (σ0 := σ) (ls1 := [.ref 88, .int (nI c), .int (nI p), .int (nI v)]) (st1 := [.int (nI p), .int (nI p2)]) (σ1 := σ) rfl (rfl) (by simp only [h2, tw_nadd, tw_nmul]) (rfl) ?_
  refine tw_biF (c := .eq) rfl (by rw [tw_ceq'] <;> (exact (by rw [tw_neq (by omega) (by omega)]; omega))) ?_
  show tw_P L xs _ 192 37 [.ref 88, .int (nI c), .int (nI p), .int (nI v)] [] σ _
  refine tw_sg 2 (i1 := 39) (ls1 := [.ref 88, .int (nI c), .int (nI p), .int (nI v)]) (st1 := [.int (nI c), .int (nI v)]) (σ1 := σ) rfl ?_
  refine tw_biT (c := .ge) rfl (by rw [tw_cge] <;> (exact tw_not_lt.mp (by rw [tw_nlt (by omega) (by omega)]; omega))) ?_
  show tw_P L xs _ 192 43 [.ref 88, .int (nI c), .int (nI p), .int (nI v)] [] σ _
  refine tw_sg 1 (i1 := 44) (ls1 := [.ref 88, .int (nI c), .int (nI p), .int (nI v)]) (st1 := [.int (nI v)]) (σ1 := σ) rfl ?_
  refine tw_ri rfl (rfl) ?_
  exact hQ
set_option maxHeartbeats 4000000 in
set_option maxRecDepth 100000 in
theorem tw_l_nM0 {p p2 v : Nat} {Q : Option Value → tw_Mem → Prop} (hc : c < 128) (hp : p ≤ 100) (hp2 : p2 ≤ 100) (hv : v < 1000) (h2 : σ 88 18 = nI p2) (h3 : σ 88 19 = (-1)) (h0 : p2 = p ∨ v < c) (hQ : Q (some (.int (nI v))) (tw_upd σ 88 19 (nI p))) : tw_P L xs 2 192 33 [.ref 88, .int (nI c), .int (nI p), .int (nI v)] [] σ Q := by
  by_cases hz : p2 = p
  · skip
    refine tw_sgn 3 (i1 := 36) (ls0 := [.ref 88, .int (nI c), .int (nI p), .int (nI v)]) (st0 := [.int (nI p), .int (σ 88 18)]) (σ0 := σ) (ls1 := [.ref 88, .int (nI c), .int (nI p), .int (nI v)]) (st1 := [.int (nI p), .int (nI p2)]) (σ1 := σ) rfl (rfl) (by simp only [h2, tw_nadd, tw_nmul]) (rfl) ?_
    refine tw_biT (c := .eq) rfl (by rw [tw_ceq] <;> (exact (by rw [hz]))) ?_
    show tw_P L xs _ 192 40 [.ref 88, .int (nI c), .int (nI p), .int (nI v)] [] σ _
    refine tw_sg 2 (i1 := 42) (ls1 := [.ref 88, .int (nI c), .int (nI p), .int (nI v)]) (st1 := [.int (nI p), .ref 88]) (σ1 := σ) rfl ?_
    refine tw_cl0 1 rfl (rfl) (by decide) ?_
    show tw_P L xs _ 190 0 [.ref 88, .int (nI p)] [] σ _
    refine tw_sgn 2 (i1 := 2) (ls0 := [.ref 88, .int (nI p)]) (st0 := [.int (σ 88 19)]) (σ0 := σ) (ls1 := [.ref 88, .int (nI p)]) (st1 := [.int (-1)]) (σ1 := σ) rfl (rfl) (by simp only [h3, tw_nadd, tw_nmul]) (rfl) ?_
    refine tw_bzF (c := .ge) rfl (by rw [tw_cge'] <;> (exact tw_not_le.mpr (by decide))) ?_
    show tw_P L xs _ 190 3 [.ref 88, .int (nI p)] [] σ _
    refine tw_sg 3 (i1 := 6) (ls1 := [.ref 88, .int (nI p)]) (st1 := []) (σ1 := (tw_upd σ 88 19 (nI p))) rfl ?_
    refine tw_rv rfl ?_
    show tw_P L xs _ 192 43 [.ref 88, .int (nI c), .int (nI p), .int (nI v)] [] (tw_upd σ 88 19 (nI p)) _
    refine tw_sg 1 (i1 := 44) (ls1 := [.ref 88, .int (nI c), .int (nI p), .int (nI v)]) (st1 := [.int (nI v)]) (σ1 := (tw_upd σ 88 19 (nI p))) rfl ?_
    refine tw_ri rfl (rfl) ?_
    exact hQ
  · skip
    refine tw_sgn 3 (i1 := 36) (ls0 := [.ref 88, .int (nI c), .int (nI p), .int (nI v)]) (st0 := [.int (nI p), .int (σ 88 18)]) (σ0 := σ) (ls1 := [.ref 88, .int (nI c), .int (nI p), .int (nI v)]) (st1 := [.int (nI p), .int (nI p2)]) (σ1 := σ) rfl (rfl) (by simp only [h2, tw_nadd, tw_nmul]) (rfl) ?_
    refine tw_biF (c := .eq) rfl (by rw [tw_ceq'] <;> (exact (by rw [tw_neq (by omega) (by omega)]; omega))) ?_
    show tw_P L xs _ 192 37 [.ref 88, .int (nI c), .int (nI p), .int (nI v)] [] σ _
    refine tw_sg 2 (i1 := 39) (ls1 := [.ref 88, .int (nI c), .int (nI p), .int (nI v)]) (st1 := [.int (nI c), .int (nI v)]) (σ1 := σ) rfl ?_
    refine tw_biF (c := .ge) rfl (by rw [tw_cge'] <;> (exact tw_not_le.mpr (by rw [tw_nlt (by omega) (by omega)]; omega))) ?_
    show tw_P L xs _ 192 40 [.ref 88, .int (nI c), .int (nI p), .int (nI v)] [] σ _
    refine tw_sg 2 (i1 := 42) (ls1 := [.ref 88, .int (nI c), .int (nI p), .int (nI v)]) (st1 := [.int (nI p), .ref 88]) (σ1 := σ) rfl ?_
    refine tw_cl0 1 rfl (rfl) (by decide) ?_
    show tw_P L xs _ 190 0 [.ref 88, .int (nI p)] [] σ _
    refine tw_sgn 2 (i1 := 2) (ls0 := [.ref 88, .int (nI p)]) (st0 := [.int (σ 88 19)]) (σ0 := σ) (ls1 := [.ref 88, .int (nI p)]) (st1 := [.int (-1)]) (σ1 := σ) rfl (rfl) (by simp only [h3, tw_nadd, tw_nmul]) (rfl) ?_
    refine tw_bzF (c := .ge) rfl (by rw [tw_cge'] <;> (exact tw_not_le.mpr (by decide))) ?_
    show tw_P L xs _ 190 3 [.ref 88, .int (nI p)] [] σ _
    refine tw_sg 3 (i1 := 6) (ls1 := [.ref 88, .int (nI p)]) (st1 := []) (σ1 := (tw_upd σ 88 19 (nI p))) rfl ?_
    refine tw_rv rfl ?_
    show tw_P L xs _ 192 43 [.ref 88, .int (nI c), .int (nI p), .int (nI v)] [] (tw_upd σ 88 19 (nI p)) _
    refine tw_sg 1 (i1 := 44) (ls1 := [.ref 88, .int (nI c), .int (nI p), .int (nI v)]) (st1 := [.int (nI v)]) (σ1 := (tw_upd σ 88 19 (nI p))) rfl ?_
    refine tw_ri rfl (rfl) ?_
    exact hQ
set_option maxHeartbeats 4000000 in
set_option maxRecDepth 100000 in
theorem tw_e_num1 {ch : Nat → Nat} {k p : Nat} (hC : tw_chs ch k) (hT : tw_cT ch k σ) (h2 : σ 70 2 = nI p) (hp : p ≤ 90) (hc : c < 128) (hok : ¬ (tw_nl ch p = 0 ∨ tw_nv ch p < tw_lst c)) : tw_E L xs 2 65 [.ref 70, .int (nI c)] σ (fun v τ => v = some (.int (nI (tw_nv ch p))) ∧ τ = tw_upd σ 70 2 (nI (p + tw_nl ch p))) := by
  have b0 := tw_ch_lt hC p
  have b1 := tw_ch_lt hC (p + 1)
  by_cases d0 : tw_dg (ch p)
  · obtain ⟨s1, s2, s3⟩ := tw_isdg hC d0
    by_cases d1 : tw_dg (ch (p + 1))
    · obtain ⟨t1, t2, t3⟩ := tw_isdg hC d1
      have hn := tw_nl2 d0 d1
      have hv : tw_nv ch p = (0 * 10 + ch p - 48) * 10 + ch (p + 1) - 48 := by unfold tw_nv; rw [hn]; rfl
      unfold tw_dg at d0 d1
      show tw_P L xs _ 65 0 [.ref 70, .int (nI c), tw_U, tw_U, tw_U] [] σ _
      refine tw_sgn 10 (i1 := 10) (ls0 := [.ref 70, .int (nI c), .int (σ 70 2), .int (nI 0), tw_U]) (st0 := [.int (nI 2), .int ((σ 70 2) - (σ 70 2))]) (σ0 := σ) (ls1 := [.ref 70, .int (nI c), .int (nI p), .int (nI 0), tw_U]) (st1 := [.int (nI 2), .int (nI 0)]) (σ1 := σ) rfl (by simp only [h2, h2, tw_nsb0, tw_nadd, tw_nmul]) (by simp only [h2, h2, tw_nsb0, tw_nadd, tw_nmul]) (rfl) ?_
      refine tw_biF (c := .ge) rfl (by rw [tw_cge', tw_nle (by omega) (by omega)] <;> omega) ?_
      show tw_P L xs _ 65 11 [.ref 70, .int (nI c), .int (nI p), .int (nI 0), tw_U] [] σ _
      refine tw_sg 1 (i1 := 12) (ls1 := [.ref 70, .int (nI c), .int (nI p), .int (nI 0), tw_U]) (st1 := [.ref 70]) (σ1 := σ) rfl ?_
      refine tw_cl1 rfl (rfl) (by decide) (tw_E_mono (tw_e_next (p := p) hC (by repeat (first | exact hT | refine tw_cT.upd ?_ (by omega) (by omega) (by omega))) (by first | exact h2 | exact tw_upd_at) (by omega)) (fun v σ1 h => (⟨h.1.trans (by rw [s1]), h.2⟩ : v = some (.int (nI (ch p))) ∧ σ = σ1))) ?_
      rintro _ _ ⟨rfl, rfl⟩
      show tw_P L xs _ 65 13 [.ref 70, .int (nI c), .int (nI p), .int (nI 0), tw_U] [.int (nI (ch p))] σ _
      refine tw_sg 1 (i1 := 14) (ls1 := [.ref 70, .int (nI c), .int (nI p), .int (nI 0), tw_U]) (st1 := [.int (nI 48), .int (nI (ch p))]) (σ1 := σ) rfl ?_
      refine tw_biF (c := .lt) rfl (by rw [tw_clt'] <;> (exact s2)) ?_
      show tw_P L xs _ 65 15 [.ref 70, .int (nI c), .int (nI p), .int (nI 0), tw_U] [] σ _
      refine tw_sg 1 (i1 := 16) (ls1 := [.ref 70, .int (nI c), .int (nI p), .int (nI 0), tw_U]) (st1 := [.ref 70]) (σ1 := σ) rfl ?_
      refine tw_cl1 rfl (rfl) (by decide) (tw_E_mono (tw_e_next (p := p) hC (by repeat (first | exact hT | refine tw_cT.upd ?_ (by omega) (by omega) (by omega))) (by first | exact h2 | exact tw_upd_at) (by omega)) (fun v σ1 h => (⟨h.1.trans (by rw [s1]), h.2⟩ : v = some (.int (nI (ch p))) ∧ σ = σ1))) ?_
      rintro _ _ ⟨rfl, rfl⟩
      show tw_P L xs _ 65 17 [.ref 70, .int (nI c), .int (nI p), .int (nI 0), tw_U] [.int (nI (ch p))] σ _
      refine tw_sg 1 (i1 := 18) (ls1 := [.ref 70, .int (nI c), .int (nI p), .int (nI 0), tw_U]) (st1 := [.int (nI 57), .int (nI (ch p))]) (σ1 := σ) rfl ?_
      refine tw_biF (c := .gt) rfl (by rw [tw_cgt'] <;> (exact s3)) ?_
      show tw_P L xs _ 65 19 [.ref 70, .int (nI c), .int (nI p), .int (nI 0), tw_U] [] σ _
      refine tw_sgn 4 (i1 := 23) (ls0 := [.ref 70, .int (nI c), .int (nI p), .int (nI 0), tw_U]) (st0 := [.ref 70, .int (nI 0 * nI 10)]) (σ0 := σ) (ls1 := [.ref 70, .int (nI c), .int (nI p), .int (nI 0), tw_U]) (st1 := [.ref 70, .int (nI (0 * 10))]) (σ1 := σ) rfl (rfl) (by simp only [tw_nadd, tw_nmul]) (rfl) ?_
      refine tw_cl1 rfl (rfl) (by decide) (tw_E_mono (tw_e_next (p := p) hC (by repeat (first | exact hT | refine tw_cT.upd ?_ (by omega) (by omega) (by omega))) (by first | exact h2 | exact tw_upd_at) (by omega)) (fun v σ1 h => (⟨h.1.trans (by rw [s1]), h.2⟩ : v = some (.int (nI (ch p))) ∧ σ = σ1))) ?_
      rintro _ _ ⟨rfl, rfl⟩
      show tw_P L xs _ 65 24 [.ref 70, .int (nI c), .int (nI p), .int (nI 0), tw_U] [.int (nI (ch p)), .int (nI (0 * 10))] σ _
      refine tw_sgn 16 (i1 := 10) (ls0 := [.ref 70, .int (nI c), .int (nI p), .int ((nI (0 * 10) + nI (ch p)) - nI 48), tw_U]) (st0 := [.int (nI 2), .int (((σ 70 2) + nI 1) - nI p)]) (σ0 := (tw_upd σ 70 2 ((σ 70 2) + nI 1))) (ls1 := [.ref 70, .int (nI c), .int (nI p), .int (nI ((0 * 10) + (ch p) - 48)), tw_U]) (st1 := [.int (nI 2), .int (nI 1)]) (σ1 := (tw_upd σ 70 2 (nI (p + 1)))) rfl (by simp only [tw_nsub (show 48 ≤ (0 * 10) + (ch p) by omega), h2, tw_nsb1, tw_nadd, tw_nmul]) (by simp only [tw_nsub (show 48 ≤ (0 * 10) + (ch p) by omega), h2, tw_nsb1, tw_nadd, tw_nmul]) (by simp only [tw_nsub (show 48 ≤ (0 * 10) + (ch p) by omega), h2, tw_nsb1, tw_nadd, tw_nmul]) ?_
      refine tw_biF (c := .ge) rfl (by rw [tw_cge', tw_nle (by omega) (by omega)] <;> omega) ?_
      show tw_P L xs _ 65 11 [.ref 70, .int (nI c), .int (nI p), .int (nI ((0 * 10) + (ch p) - 48)), tw_U] [] (tw_upd σ 70 2 (nI (p + 1))) _
      refine tw_sg 1 (i1 := 12) (ls1 := [.ref 70, .int (nI c), .int (nI p), .int (nI ((0 * 10) + (ch p) - 48)), tw_U]) (st1 := [.ref 70]) (σ1 := (tw_upd σ 70 2 (nI (p + 1)))) rfl ?_
      refine tw_cl1 rfl (rfl) (by decide) (tw_E_mono (tw_e_next (p := (p + 1)) hC (by repeat (first | exact hT | refine tw_cT.upd ?_ (by omega) (by omega) (by omega))) (by first | exact h2 | exact tw_upd_at) (by omega)) (fun v σ1 h => (⟨h.1.trans (by rw [t1]), h.2⟩ : v = some (.int (nI (ch (p + 1)))) ∧ (tw_upd σ 70 2 (nI (p + 1))) = σ1))) ?_
      rintro _ _ ⟨rfl, rfl⟩
      show tw_P L xs _ 65 13 [.ref 70, .int (nI c), .int (nI p), .int (nI ((0 * 10) + (ch p) - 48)), tw_U] [.int (nI (ch (p + 1)))] (tw_upd σ 70 2 (nI (p + 1))) _
      refine tw_sg 1 (i1 := 14) (ls1 := [.ref 70, .int (nI c), .int (nI p), .int (nI ((0 * 10) + (ch p) - 48)), tw_U]) (st1 := [.int (nI 48), .int (nI (ch (p + 1)))]) (σ1 := (tw_upd σ 70 2 (nI (p + 1)))) rfl ?_
      refine tw_biF (c := .lt) rfl (by rw [tw_clt'] <;> (exact t2)) ?_
      show tw_P L xs _ 65 15 [.ref 70, .int (nI c), .int (nI p), .int (nI ((0 * 10) + (ch p) - 48)), tw_U] [] (tw_upd σ 70 2 (nI (p + 1))) _
      refine tw_sg 1 (i1 := 16) (ls1 := [.ref 70, .int (nI c), .int (nI p), .int (nI ((0 * 10) + (ch p) - 48)), tw_U]) (st1 := [.ref 70]) (σ1 := (tw_upd σ 70 2 (nI (p + 1)))) rfl ?_
      refine tw_cl1 rfl (rfl) (by decide) (tw_E_mono (tw_e_next (p := (p + 1)) hC (by repeat (first | exact hT | refine tw_cT.upd ?_ (by omega) (by omega) (by omega))) (by first | exact h2 | exact tw_upd_at) (by omega)) (fun v σ1 h => (⟨h.1.trans (by rw [t1]), h.2⟩ : v = some (.int (nI (ch (p + 1)))) ∧ (tw_upd σ 70 2 (nI (p + 1))) = σ1))) ?_
      rintro _ _ ⟨rfl, rfl⟩
      show tw_P L xs _ 65 17 [.ref 70, .int (nI c), .int (nI p), .int (nI ((0 * 10) + (ch p) - 48)), tw_U] [.int (nI (ch (p + 1)))] (tw_upd σ 70 2 (nI (p + 1))) _
      refine tw_sg 1 (i1 := 18) (ls1 := [.ref 70, .int (nI c), .int (nI p), .int (nI ((0 * 10) + (ch p) - 48)), tw_U]) (st1 := [.int (nI 57), .int (nI (ch (p + 1)))]) (σ1 := (tw_upd σ 70 2 (nI (p + 1)))) rfl ?_
      refine tw_biF (c := .gt) rfl (by rw [tw_cgt'] <;> (exact t3)) ?_
      show tw_P L xs _ 65 19 [.ref 70, .int (nI c), .int (nI p), .int (nI ((0 * 10) + (ch p) - 48)), tw_U] [] (tw_upd σ 70 2 (nI (p + 1))) _
      refine tw_sgn 4 (i1 := 23) (ls0 := [.ref 70, .int (nI c), .int (nI p), .int (nI ((0 * 10) + (ch p) - 48)), tw_U]) (st0 := [.ref 70, .int (nI ((0 * 10) + (ch p) - 48) * nI 10)]) (σ0 := (tw_upd σ 70 2 (nI (p + 1)))) (ls1 := [.ref 70, .int (nI c), .int (nI p), .int (nI ((0 * 10) + (ch p) - 48)), tw_U]) (st1 := [.ref 70, .int (nI (((0 * 10) + (ch p) - 48) * 10))]) (σ1 := (tw_upd σ 70 2 (nI (p + 1)))) rfl (rfl) (by simp only [tw_nadd, tw_nmul]) (rfl) ?_
      refine tw_cl1 rfl (rfl) (by decide) (tw_E_mono (tw_e_next (p := (p + 1)) hC (by repeat (first | exact hT | refine tw_cT.upd ?_ (by omega) (by omega) (by omega))) (by first | exact h2 | exact tw_upd_at) (by omega)) (fun v σ1 h => (⟨h.1.trans (by rw [t1]), h.2⟩ : v = some (.int (nI (ch (p + 1)))) ∧ (tw_upd σ 70 2 (nI (p + 1))) = σ1))) ?_
      rintro _ _ ⟨rfl, rfl⟩
      show tw_P L xs _ 65 24 [.ref 70, .int (nI c), .int (nI p), .int (nI ((0 * 10) + (ch p) - 48)), tw_U] [.int (nI (ch (p + 1))), .int (nI (((0 * 10) + (ch p) - 48) * 10))] (tw_upd σ 70 2 (nI (p + 1))) _
      refine tw_sgn 16 (i1 := 10) (ls0 := [.ref 70, .int (nI c), .int (nI p), .int ((nI (((0 * 10) + (ch p) - 48) * 10) + nI (ch (p + 1))) - nI 48), tw_U]) (st0 := [.int (nI 2), .int ((nI (p + 1) + nI 1) - nI p)]) (σ0 := (tw_upd (tw_upd σ 70 2 (nI (p + 1))) 70 2 (nI (p + 1) + nI 1))) (ls1 := [.ref 70, .int (nI c), .int (nI p), .int (nI ((((0 * 10) + (ch p) - 48) * 10) + (ch (p + 1)) - 48)), tw_U]) (st1 := [.int (nI 2), .int (nI 2)]) (σ1 := (tw_upd (tw_upd σ 70 2 (nI (p + 1))) 70 2 (nI ((p + 1) + 1)))) rfl (by simp only [tw_nsub (show 48 ≤ (((0 * 10) + (ch p) - 48) * 10) + (ch (p + 1)) by omega), tw_nsb2, tw_nadd, tw_nmul]) (by simp only [tw_nsub (show 48 ≤ (((0 * 10) + (ch p) - 48) * 10) + (ch (p + 1)) by omega), tw_nsb2, tw_nadd, tw_nmul]) (by simp only [tw_nsub (show 48 ≤ (((0 * 10) + (ch p) - 48) * 10) + (ch (p + 1)) by omega), tw_nsb2, tw_nadd, tw_nmul]) ?_
      refine tw_biT (c := .ge) rfl (by rw [tw_cge, tw_nle (by omega) (by omega)] <;> omega) ?_
      show tw_P L xs _ 65 35 [.ref 70, .int (nI c), .int (nI p), .int (nI ((((0 * 10) + (ch p) - 48) * 10) + (ch (p + 1)) - 48)), tw_U] [] (tw_upd (tw_upd σ 70 2 (nI (p + 1))) 70 2 (nI ((p + 1) + 1))) _
      refine tw_l_nT1 (p := p) (p2 := (p + 1 + 1)) (v := (((0 * 10) + (ch p) - 48) * 10) + (ch (p + 1)) - 48) hc (by omega) (by omega) (by omega) (by first | exact h2 | exact tw_upd_at) (by omega) (by omega) ⟨?_, ?_⟩
      · rw [hv]
      · rw [hn, tw_upd2]
    · have hn := tw_nl1 d0 d1
      have hv : tw_nv ch p = 0 * 10 + ch p - 48 := by unfold tw_nv; rw [hn]; rfl
      have e0 := d0
      unfold tw_dg at e0
      rcases tw_ndg hC d1 with g1 | ⟨g1, g2⟩
      · skip
        show tw_P L xs _ 65 0 [.ref 70, .int (nI c), tw_U, tw_U, tw_U] [] σ _
        refine tw_sgn 10 (i1 := 10) (ls0 := [.ref 70, .int (nI c), .int (σ 70 2), .int (nI 0), tw_U]) (st0 := [.int (nI 2), .int ((σ 70 2) - (σ 70 2))]) (σ0 := σ) (ls1 := [.ref 70, .int (nI c), .int (nI p), .int (nI 0), tw_U]) (st1 := [.int (nI 2), .int (nI 0)]) (σ1 := σ) rfl (by simp only [h2, h2, tw_nsb0, tw_nadd, tw_nmul]) (by simp only [h2, h2, tw_nsb0, tw_nadd, tw_nmul]) (rfl) ?_
        refine tw_biF (c := .ge) rfl (by rw [tw_cge', tw_nle (by omega) (by omega)] <;> omega) ?_
        show tw_P L xs _ 65 11 [.ref 70, .int (nI c), .int (nI p), .int (nI 0), tw_U] [] σ _
        refine tw_sg 1 (i1 := 12) (ls1 := [.ref 70, .int (nI c), .int (nI p), .int (nI 0), tw_U]) (st1 := [.ref 70]) (σ1 := σ) rfl ?_
        refine tw_cl1 rfl (rfl) (by decide) (tw_E_mono (tw_e_next (p := p) hC (by repeat (first | exact hT | refine tw_cT.upd ?_ (by omega) (by omega) (by omega))) (by first | exact h2 | exact tw_upd_at) (by omega)) (fun v σ1 h => (⟨h.1.trans (by rw [s1]), h.2⟩ : v = some (.int (nI (ch p))) ∧ σ = σ1))) ?_
        rintro _ _ ⟨rfl, rfl⟩
        show tw_P L xs _ 65 13 [.ref 70, .int (nI c), .int (nI p), .int (nI 0), tw_U] [.int (nI (ch p))] σ _
        refine tw_sg 1 (i1 := 14) (ls1 := [.ref 70, .int (nI c), .int (nI p), .int (nI 0), tw_U]) (st1 := [.int (nI 48), .int (nI (ch p))]) (σ1 := σ) rfl ?_
        refine tw_biF (c := .lt) rfl (by rw [tw_clt'] <;> (exact s2)) ?_
        show tw_P L xs _ 65 15 [.ref 70, .int (nI c), .int (nI p), .int (nI 0), tw_U] [] σ _
        refine tw_sg 1 (i1 := 16) (ls1 := [.ref 70, .int (nI c), .int (nI p), .int (nI 0), tw_U]) (st1 := [.ref 70]) (σ1 := σ) rfl ?_
        refine tw_cl1 rfl (rfl) (by decide) (tw_E_mono (tw_e_next (p := p) hC (by repeat (first | exact hT | refine tw_cT.upd ?_ (by omega) (by omega) (by omega))) (by first | exact h2 | exact tw_upd_at) (by omega)) (fun v σ1 h => (⟨h.1.trans (by rw [s1]), h.2⟩ : v = some (.int (nI (ch p))) ∧ σ = σ1))) ?_
        rintro _ _ ⟨rfl, rfl⟩
        show tw_P L xs _ 65 17 [.ref 70, .int (nI c), .int (nI p), .int (nI 0), tw_U] [.int (nI (ch p))] σ _
        refine tw_sg 1 (i1 := 18) (ls1 := [.ref 70, .int (nI c), .int (nI p), .int (nI 0), tw_U]) (st1 := [.int (nI 57), .int (nI (ch p))]) (σ1 := σ) rfl ?_
        refine tw_biF (c := .gt) rfl (by rw [tw_cgt'] <;> (exact s3)) ?_
        show tw_P L xs _ 65 19 [.ref 70, .int (nI c), .int (nI p), .int (nI 0), tw_U] [] σ _
        refine tw_sgn 4 (i1 := 23) (ls0 := [.ref 70, .int (nI c), .int (nI p), .int (nI 0), tw_U]) (st0 := [.ref 70, .int (nI 0 * nI 10)]) (σ0 := σ) (ls1 := [.ref 70, .int (nI c), .int (nI p), .int (nI 0), tw_U]) (st1 := [.ref 70, .int (nI (0 * 10))]) (σ1 := σ) rfl (rfl) (by simp only [tw_nadd, tw_nmul]) (rfl) ?_
        refine tw_cl1 rfl (rfl) (by decide) (tw_E_mono (tw_e_next (p := p) hC (by repeat (first | exact hT | refine tw_cT.upd ?_ (by omega) (by omega) (by omega))) (by first | exact h2 | exact tw_upd_at) (by omega)) (fun v σ1 h => (⟨h.1.trans (by rw [s1]), h.2⟩ : v = some (.int (nI (ch p))) ∧ σ = σ1))) ?_
        rintro _ _ ⟨rfl, rfl⟩
        show tw_P L xs _ 65 24 [.ref 70, .int (nI c), .int (nI p), .int (nI 0), tw_U] [.int (nI (ch p)), .int (nI (0 * 10))] σ _
        refine tw_sgn 16 (i1 := 10) (ls0 := [.ref 70, .int (nI c), .int (nI p), .int ((nI (0 * 10) + nI (ch p)) - nI 48), tw_U]) (st0 := [.int (nI 2), .int (((σ 70 2) + nI 1) - nI p)]) (σ0 := (tw_upd σ 70 2 ((σ 70 2) + nI 1))) (ls1 := [.ref 70, .int (nI c), .int (nI p), .int (nI ((0 * 10) + (ch p) - 48)), tw_U]) (st1 := [.int (nI 2), .int (nI 1)]) (σ1 := (tw_upd σ 70 2 (nI (p + 1)))) rfl (by simp only [tw_nsub (show 48 ≤ (0 * 10) + (ch p) by omega), h2, tw_nsb1, tw_nadd, tw_nmul]) (by simp only [tw_nsub (show 48 ≤ (0 * 10) + (ch p) by omega), h2, tw_nsb1, tw_nadd, tw_nmul]) (by simp only [tw_nsub (show 48 ≤ (0 * 10) + (ch p) by omega), h2, tw_nsb1, tw_nadd, tw_nmul]) ?_
        refine tw_biF (c := .ge) rfl (by rw [tw_cge', tw_nle (by omega) (by omega)] <;> omega) ?_
        show tw_P L xs _ 65 11 [.ref 70, .int (nI c), .int (nI p), .int (nI ((0 * 10) + (ch p) - 48)), tw_U] [] (tw_upd σ 70 2 (nI (p + 1))) _
        refine tw_sg 1 (i1 := 12) (ls1 := [.ref 70, .int (nI c), .int (nI p), .int (nI ((0 * 10) + (ch p) - 48)), tw_U]) (st1 := [.ref 70]) (σ1 := (tw_upd σ 70 2 (nI (p + 1)))) rfl ?_
        refine tw_cl1 rfl (rfl) (by decide) (tw_e_next (p := (p + 1)) hC (by repeat (first | exact hT | refine tw_cT.upd ?_ (by omega) (by omega) (by omega))) (by first | exact h2 | exact tw_upd_at) (by omega)) ?_
        rintro _ _ ⟨rfl, rfl⟩
        show tw_P L xs _ 65 13 [.ref 70, .int (nI c), .int (nI p), .int (nI ((0 * 10) + (ch p) - 48)), tw_U] [.int (tw_hv ch (p + 1))] (tw_upd σ 70 2 (nI (p + 1))) _
        refine tw_sg 1 (i1 := 14) (ls1 := [.ref 70, .int (nI c), .int (nI p), .int (nI ((0 * 10) + (ch p) - 48)), tw_U]) (st1 := [.int (nI 48), .int (tw_hv ch (p + 1))]) (σ1 := (tw_upd σ 70 2 (nI (p + 1)))) rfl ?_
        refine tw_biT (c := .lt) rfl (by rw [tw_clt] <;> (exact g1)) ?_
        show tw_P L xs _ 65 35 [.ref 70, .int (nI c), .int (nI p), .int (nI ((0 * 10) + (ch p) - 48)), tw_U] [] (tw_upd σ 70 2 (nI (p + 1))) _
        refine tw_l_nT1 (p := p) (p2 := (p + 1)) (v := (0 * 10) + (ch p) - 48) hc (by omega) (by omega) (by omega) (by first | exact h2 | exact tw_upd_at) (by omega) (by omega) ⟨?_, ?_⟩
        · rw [hv]
        · rw [hn]
      · skip
        show tw_P L xs _ 65 0 [.ref 70, .int (nI c), tw_U, tw_U, tw_U] [] σ _
        refine tw_sgn 10 (i1 := 10) (ls0 := [.ref 70, .int (nI c), .int (σ 70 2), .int (nI 0), tw_U]) (st0 := [.int (nI 2), .int ((σ 70 2) - (σ 70 2))]) (σ0 := σ) (ls1 := [.ref 70, .int (nI c), .int (nI p), .int (nI 0), tw_U]) (st1 := [.int (nI 2), .int (nI 0)]) (σ1 := σ) rfl (by simp only [h2, h2, tw_nsb0, tw_nadd, tw_nmul]) (by simp only [h2, h2, tw_nsb0, tw_nadd, tw_nmul]) (rfl) ?_
        refine tw_biF (c := .ge) rfl (by rw [tw_cge', tw_nle (by omega) (by omega)] <;> omega) ?_
        show tw_P L xs _ 65 11 [.ref 70, .int (nI c), .int (nI p), .int (nI 0), tw_U] [] σ _
        refine tw_sg 1 (i1 := 12) (ls1 := [.ref 70, .int (nI c), .int (nI p), .int (nI 0), tw_U]) (st1 := [.ref 70]) (σ1 := σ) rfl ?_
        refine tw_cl1 rfl (rfl) (by decide) (tw_E_mono (tw_e_next (p := p) hC (by repeat (first | exact hT | refine tw_cT.upd ?_ (by omega) (by omega) (by omega))) (by first | exact h2 | exact tw_upd_at) (by omega)) (fun v σ1 h => (⟨h.1.trans (by rw [s1]), h.2⟩ : v = some (.int (nI (ch p))) ∧ σ = σ1))) ?_
        rintro _ _ ⟨rfl, rfl⟩
        show tw_P L xs _ 65 13 [.ref 70, .int (nI c), .int (nI p), .int (nI 0), tw_U] [.int (nI (ch p))] σ _
        refine tw_sg 1 (i1 := 14) (ls1 := [.ref 70, .int (nI c), .int (nI p), .int (nI 0), tw_U]) (st1 := [.int (nI 48), .int (nI (ch p))]) (σ1 := σ) rfl ?_
        refine tw_biF (c := .lt) rfl (by rw [tw_clt'] <;> (exact s2)) ?_
        show tw_P L xs _ 65 15 [.ref 70, .int (nI c), .int (nI p), .int (nI 0), tw_U] [] σ _
        refine tw_sg 1 (i1 := 16) (ls1 := [.ref 70, .int (nI c), .int (nI p), .int (nI 0), tw_U]) (st1 := [.ref 70]) (σ1 := σ) rfl ?_
        refine tw_cl1 rfl (rfl) (by decide) (tw_E_mono (tw_e_next (p := p) hC (by repeat (first | exact hT | refine tw_cT.upd ?_ (by omega) (by omega) (by omega))) (by first | exact h2 | exact tw_upd_at) (by omega)) (fun v σ1 h => (⟨h.1.trans (by rw [s1]), h.2⟩ : v = some (.int (nI (ch p))) ∧ σ = σ1))) ?_
        rintro _ _ ⟨rfl, rfl⟩
        show tw_P L xs _ 65 17 [.ref 70, .int (nI c), .int (nI p), .int (nI 0), tw_U] [.int (nI (ch p))] σ _
        refine tw_sg 1 (i1 := 18) (ls1 := [.ref 70, .int (nI c), .int (nI p), .int (nI 0), tw_U]) (st1 := [.int (nI 57), .int (nI (ch p))]) (σ1 := σ) rfl ?_
        refine tw_biF (c := .gt) rfl (by rw [tw_cgt'] <;> (exact s3)) ?_
        show tw_P L xs _ 65 19 [.ref 70, .int (nI c), .int (nI p), .int (nI 0), tw_U] [] σ _
        refine tw_sgn 4 (i1 := 23) (ls0 := [.ref 70, .int (nI c), .int (nI p), .int (nI 0), tw_U]) (st0 := [.ref 70, .int (nI 0 * nI 10)]) (σ0 := σ) (ls1 := [.ref 70, .int (nI c), .int (nI p), .int (nI 0), tw_U]) (st1 := [.ref 70, .int (nI (0 * 10))]) (σ1 := σ) rfl (rfl) (by simp only [tw_nadd, tw_nmul]) (rfl) ?_
        refine tw_cl1 rfl (rfl) (by decide) (tw_E_mono (tw_e_next (p := p) hC (by repeat (first | exact hT | refine tw_cT.upd ?_ (by omega) (by omega) (by omega))) (by first | exact h2 | exact tw_upd_at) (by omega)) (fun v σ1 h => (⟨h.1.trans (by rw [s1]), h.2⟩ : v = some (.int (nI (ch p))) ∧ σ = σ1))) ?_
        rintro _ _ ⟨rfl, rfl⟩
        show tw_P L xs _ 65 24 [.ref 70, .int (nI c), .int (nI p), .int (nI 0), tw_U] [.int (nI (ch p)), .int (nI (0 * 10))] σ _
        refine tw_sgn 16 (i1 := 10) (ls0 := [.ref 70, .int (nI c), .int (nI p), .int ((nI (0 * 10) + nI (ch p)) - nI 48), tw_U]) (st0 := [.int (nI 2), .int (((σ 70 2) + nI 1) - nI p)]) (σ0 := (tw_upd σ 70 2 ((σ 70 2) + nI 1))) (ls1 := [.ref 70, .int (nI c), .int (nI p), .int (nI ((0 * 10) + (ch p) - 48)), tw_U]) (st1 := [.int (nI 2), .int (nI 1)]) (σ1 := (tw_upd σ 70 2 (nI (p + 1)))) rfl (by simp only [tw_nsub (show 48 ≤ (0 * 10) + (ch p) by omega), h2, tw_nsb1, tw_nadd, tw_nmul]) (by simp only [tw_nsub (show 48 ≤ (0 * 10) + (ch p) by omega), h2, tw_nsb1, tw_nadd, tw_nmul]) (by simp only [tw_nsub (show 48 ≤ (0 * 10) + (ch p) by omega), h2, tw_nsb1, tw_nadd, tw_nmul]) ?_
        refine tw_biF (c := .ge) rfl (by rw [tw_cge', tw_nle (by omega) (by omega)] <;> omega) ?_
        show tw_P L xs _ 65 11 [.ref 70, .int (nI c), .int (nI p), .int (nI ((0 * 10) + (ch p) - 48)), tw_U] [] (tw_upd σ 70 2 (nI (p + 1))) _
        refine tw_sg 1 (i1 := 12) (ls1 := [.ref 70, .int (nI c), .int (nI p), .int (nI ((0 * 10) + (ch p) - 48)), tw_U]) (st1 := [.ref 70]) (σ1 := (tw_upd σ 70 2 (nI (p + 1)))) rfl ?_
        refine tw_cl1 rfl (rfl) (by decide) (tw_e_next (p := (p + 1)) hC (by repeat (first | exact hT | refine tw_cT.upd ?_ (by omega) (by omega) (by omega))) (by first | exact h2 | exact tw_upd_at) (by omega)) ?_
        rintro _ _ ⟨rfl, rfl⟩
        show tw_P L xs _ 65 13 [.ref 70, .int (nI c), .int (nI p), .int (nI ((0 * 10) + (ch p) - 48)), tw_U] [.int (tw_hv ch (p + 1))] (tw_upd σ 70 2 (nI (p + 1))) _
        refine tw_sg 1 (i1 := 14) (ls1 := [.ref 70, .int (nI c), .int (nI p), .int (nI ((0 * 10) + (ch p) - 48)), tw_U]) (st1 := [.int (nI 48), .int (tw_hv ch (p + 1))]) (σ1 := (tw_upd σ 70 2 (nI (p + 1)))) rfl ?_
        refine tw_biF (c := .lt) rfl (by rw [tw_clt'] <;> (exact g1)) ?_
        show tw_P L xs _ 65 15 [.ref 70, .int (nI c), .int (nI p), .int (nI ((0 * 10) + (ch p) - 48)), tw_U] [] (tw_upd σ 70 2 (nI (p + 1))) _
        refine tw_sg 1 (i1 := 16) (ls1 := [.ref 70, .int (nI c), .int (nI p), .int (nI ((0 * 10) + (ch p) - 48)), tw_U]) (st1 := [.ref 70]) (σ1 := (tw_upd σ 70 2 (nI (p + 1)))) rfl ?_
        refine tw_cl1 rfl (rfl) (by decide) (tw_e_next (p := (p + 1)) hC (by repeat (first | exact hT | refine tw_cT.upd ?_ (by omega) (by omega) (by omega))) (by first | exact h2 | exact tw_upd_at) (by omega)) ?_
        rintro _ _ ⟨rfl, rfl⟩
        show tw_P L xs _ 65 17 [.ref 70, .int (nI c), .int (nI p), .int (nI ((0 * 10) + (ch p) - 48)), tw_U] [.int (tw_hv ch (p + 1))] (tw_upd σ 70 2 (nI (p + 1))) _
        refine tw_sg 1 (i1 := 18) (ls1 := [.ref 70, .int (nI c), .int (nI p), .int (nI ((0 * 10) + (ch p) - 48)), tw_U]) (st1 := [.int (nI 57), .int (tw_hv ch (p + 1))]) (σ1 := (tw_upd σ 70 2 (nI (p + 1)))) rfl ?_
        refine tw_biT (c := .gt) rfl (by rw [tw_cgt] <;> (exact g2)) ?_
        show tw_P L xs _ 65 35 [.ref 70, .int (nI c), .int (nI p), .int (nI ((0 * 10) + (ch p) - 48)), tw_U] [] (tw_upd σ 70 2 (nI (p + 1))) _
        refine tw_l_nT1 (p := p) (p2 := (p + 1)) (v := (0 * 10) + (ch p) - 48) hc (by omega) (by omega) (by omega) (by first | exact h2 | exact tw_upd_at) (by omega) (by omega) ⟨?_, ?_⟩
        · rw [hv]
        · rw [hn]
  · have hn := tw_nl0 d0
    have hv : tw_nv ch p = 0 := by unfold tw_nv; rw [hn]; rfl
    rcases tw_ndg hC d0 with g1 | ⟨g1, g2⟩
    · skip
      show tw_P L xs _ 65 0 [.ref 70, .int (nI c), tw_U, tw_U, tw_U] [] σ _
      refine tw_sgn 10 (i1 := 10) (ls0 := [.ref 70, .int (nI c), .int (σ 70 2), .int (nI 0), tw_U]) (st0 := [.int (nI 2), .int ((σ 70 2) - (σ 70 2))]) (σ0 := σ) (ls1 := [.ref 70, .int (nI c), .int (nI p), .int (nI 0), tw_U]) (st1 := [.int (nI 2), .int (nI 0)]) (σ1 := σ) rfl (by simp only [h2, h2, tw_nsb0, tw_nadd, tw_nmul]) (by simp only [h2, h2, tw_nsb0, tw_nadd, tw_nmul]) (rfl) ?_
      refine tw_biF (c := .ge) rfl (by rw [tw_cge', tw_nle (by omega) (by omega)] <;> omega) ?_
      show tw_P L xs _ 65 11 [.ref 70, .int (nI c), .int (nI p), .int (nI 0), tw_U] [] σ _
      refine tw_sg 1 (i1 := 12) (ls1 := [.ref 70, .int (nI c), .int (nI p), .int (nI 0), tw_U]) (st1 := [.ref 70]) (σ1 := σ) rfl ?_
      refine tw_cl1 rfl (rfl) (by decide) (tw_e_next (p := p) hC (by repeat (first | exact hT | refine tw_cT.upd ?_ (by omega) (by omega) (by omega))) (by first | exact h2 | exact tw_upd_at) (by omega)) ?_
      rintro _ _ ⟨rfl, rfl⟩
      show tw_P L xs _ 65 13 [.ref 70, .int (nI c), .int (nI p), .int (nI 0), tw_U] [.int (tw_hv ch p)] σ _
      refine tw_sg 1 (i1 := 14) (ls1 := [.ref 70, .int (nI c), .int (nI p), .int (nI 0), tw_U]) (st1 := [.int (nI 48), .int (tw_hv ch p)]) (σ1 := σ) rfl ?_
      refine tw_biT (c := .lt) rfl (by rw [tw_clt] <;> (exact g1)) ?_
      show tw_P L xs _ 65 35 [.ref 70, .int (nI c), .int (nI p), .int (nI 0), tw_U] [] σ _
      refine tw_l_nT1 (p := p) (p2 := p) (v := 0) hc (by omega) (by omega) (by omega) (by first | exact h2 | exact tw_upd_at) (by omega) (by omega) ⟨?_, ?_⟩
      · rw [hv]
      · rw [hn, show p + 0 = p from rfl, tw_upd_id h2]
    · skip
      show tw_P L xs _ 65 0 [.ref 70, .int (nI c), tw_U, tw_U, tw_U] [] σ _
      refine tw_sgn 10 (i1 := 10) (ls0 := [.ref 70, .int (nI c), .int (σ 70 2), .int (nI 0), tw_U]) (st0 := [.int (nI 2), .int ((σ 70 2) - (σ 70 2))]) (σ0 := σ) (ls1 := [.ref 70, .int (nI c), .int (nI p), .int (nI 0), tw_U]) (st1 := [.int (nI 2), .int (nI 0)]) (σ1 := σ) rfl (by simp only [h2, h2, tw_nsb0, tw_nadd, tw_nmul]) (by simp only [h2, h2, tw_nsb0, tw_nadd, tw_nmul]) (rfl) ?_
      refine tw_biF (c := .ge) rfl (by rw [tw_cge', tw_nle (by omega) (by omega)] <;> omega) ?_
      show tw_P L xs _ 65 11 [.ref 70, .int (nI c), .int (nI p), .int (nI 0), tw_U] [] σ _
      refine tw_sg 1 (i1 := 12) (ls1 := [.ref 70, .int (nI c), .int (nI p), .int (nI 0), tw_U]) (st1 := [.ref 70]) (σ1 := σ) rfl ?_
      refine tw_cl1 rfl (rfl) (by decide) (tw_e_next (p := p) hC (by repeat (first | exact hT | refine tw_cT.upd ?_ (by omega) (by omega) (by omega))) (by first | exact h2 | exact tw_upd_at) (by omega)) ?_
      rintro _ _ ⟨rfl, rfl⟩
      show tw_P L xs _ 65 13 [.ref 70, .int (nI c), .int (nI p), .int (nI 0), tw_U] [.int (tw_hv ch p)] σ _
      refine tw_sg 1 (i1 := 14) (ls1 := [.ref 70, .int (nI c), .int (nI p), .int (nI 0), tw_U]) (st1 := [.int (nI 48), .int (tw_hv ch p)]) (σ1 := σ) rfl ?_
      refine tw_biF (c := .lt) rfl (by rw [tw_clt'] <;> (exact g1)) ?_
      show tw_P L xs _ 65 15 [.ref 70, .int (nI c), .int (nI p), .int (nI 0), tw_U] [] σ _
      refine tw_sg 1 (i1 := 16) (ls1 := [.ref 70, .int (nI c), .int (nI p), .int (nI 0), tw_U]) (st1 := [.ref 70]) (σ1 := σ) rfl ?_
      refine tw_cl1 rfl (rfl) (by decide) (tw_e_next (p := p) hC (by repeat (first | exact hT | refine tw_cT.upd ?_ (by omega) (by omega) (by omega))) (by first | exact h2 | exact tw_upd_at) (by omega)) ?_
      rintro _ _ ⟨rfl, rfl⟩
      show tw_P L xs _ 65 17 [.ref 70, .int (nI c), .int (nI p), .int (nI 0), tw_U] [.int (tw_hv ch p)] σ _
      refine tw_sg 1 (i1 := 18) (ls1 := [.ref 70, .int (nI c), .int (nI p), .int (nI 0), tw_U]) (st1 := [.int (nI 57), .int (tw_hv ch p)]) (σ1 := σ) rfl ?_
      refine tw_biT (c := .gt) rfl (by rw [tw_cgt] <;> (exact g2)) ?_
      show tw_P L xs _ 65 35 [.ref 70, .int (nI c), .int (nI p), .int (nI 0), tw_U] [] σ _
      refine tw_l_nT1 (p := p) (p2 := p) (v := 0) hc (by omega) (by omega) (by omega) (by first | exact h2 | exact tw_upd_at) (by omega) (by omega) ⟨?_, ?_⟩
      · rw [hv]
      · rw [hn, show p + 0 = p from rfl, tw_upd_id h2]
set_option maxHeartbeats 4000000 in
set_option maxRecDepth 100000 in
theorem tw_e_num0 {ch : Nat → Nat} {k p : Nat} (hC : tw_chs ch k) (hT : tw_cT ch k σ) (h2 : σ 70 2 = nI p) (hp : p ≤ 90) (hc : c < 128) (hok : tw_nl ch p = 0 ∨ tw_nv ch p < tw_lst c) (h3 : σ 70 3 = (-1)) : tw_E L xs 2 65 [.ref 70, .int (nI c)] σ (fun v τ => v = some (.int (nI (tw_nv ch p))) ∧ τ = tw_upd (tw_upd σ 70 2 (nI (p + tw_nl ch p))) 70 3 (nI p)) := by
  have b0 := tw_ch_lt hC p
  have b1 := tw_ch_lt hC (p + 1)
  by_cases d0 : tw_dg (ch p)
  · obtain ⟨s1, s2, s3⟩ := tw_isdg hC d0
    by_cases d1 : tw_dg (ch (p + 1))
    · obtain ⟨t1, t2, t3⟩ := tw_isdg hC d1
      have hn := tw_nl2 d0 d1
      have hv : tw_nv ch p = (0 * 10 + ch p - 48) * 10 + ch (p + 1) - 48 := by unfold tw_nv; rw [hn]; rfl
      unfold tw_dg at d0 d1
      show tw_P L xs _ 65 0 [.ref 70, .int (nI c), tw_U, tw_U, tw_U] [] σ _
      refine tw_sgn 10 (i1 := 10) (ls0 := [.ref 70, .int (nI c), .int (σ 70 2), .int (nI 0), tw_U]) (st0 := [.int (nI 2), .int ((σ 70 2) - (σ 70 2))]) (σ0 := σ) (ls1 := [.ref 70, .int (nI c), .int (nI p), .int (nI 0), tw_U]) (st1 := [.int (nI 2), .int (nI 0)]) (σ1 := σ) rfl (by simp only [h2, h2, tw_nsb0, tw_nadd, tw_nmul]) (by simp only [h2, h2, tw_nsb0, tw_nadd, tw_nmul]) (rfl) ?_
      refine tw_biF (c := .ge) rfl (by rw [tw_cge', tw_nle (by omega) (by omega)] <;> omega) ?_
      show tw_P L xs _ 65 11 [.ref 70, .int (nI c), .int (nI p), .int (nI 0), tw_U] [] σ _
      refine tw_sg 1 (i1 := 12) (ls1 := [.ref 70, .int (nI c), .int (nI p), .int (nI 0), tw_U]) (st1 := [.ref 70]) (σ1 := σ) rfl ?_
      refine tw_cl1 rfl (rfl) (by decide) (tw_E_mono (tw_e_next (p := p) hC (by repeat (first | exact hT | refine tw_cT.upd ?_ (by omega) (by omega) (by omega))) (by first | exact h2 | exact tw_upd_at) (by omega)) (fun v σ1 h => (⟨h.1.trans (by rw [s1]), h.2⟩ : v = some (.int (nI (ch p))) ∧ σ = σ1))) ?_
      rintro _ _ ⟨rfl, rfl⟩
      show tw_P L xs _ 65 13 [.ref 70, .int (nI c), .int (nI p), .int (nI 0), tw_U] [.int (nI (ch p))] σ _
      refine tw_sg 1 (i1 := 14) (ls1 := [.ref 70, .int (nI c), .int (nI p), .int (nI 0), tw_U]) (st1 := [.int (nI 48), .int (nI (ch p))]) (σ1 := σ) rfl ?_
      refine tw_biF (c := .lt) rfl (by rw [tw_clt'] <;> (exact s2)) ?_
      show tw_P L xs _ 65 15 [.ref 70, .int (nI c), .int (nI p), .int (nI 0), tw_U] [] σ _
      refine tw_sg 1 (i1 := 16) (ls1 := [.ref 70, .int (nI c), .int (nI p), .int (nI 0), tw_U]) (st1 := [.ref 70]) (σ1 := σ) rfl ?_
      refine tw_cl1 rfl (rfl) (by decide) (tw_E_mono (tw_e_next (p := p) hC (by repeat (first | exact hT | refine tw_cT.upd ?_ (by omega) (by omega) (by omega))) (by first | exact h2 | exact tw_upd_at) (by omega)) (fun v σ1 h => (⟨h.1.trans (by rw [s1]), h.2⟩ : v = some (.int (nI (ch p))) ∧ σ = σ1))) ?_
      rintro _ _ ⟨rfl, rfl⟩
      show tw_P L xs _ 65 17 [.ref 70, .int (nI c), .int (nI p), .int (nI 0), tw_U] [.int (nI (ch p))] σ _
      refine tw_sg 1 (i1 := 18) (ls1 := [.ref 70, .int (nI c), .int (nI p), .int (nI 0), tw_U]) (st1 := [.int (nI 57), .int (nI (ch p))]) (σ1 := σ) rfl ?_
      refine tw_biF (c := .gt) rfl (by rw [tw_cgt'] <;> (exact s3)) ?_
      show tw_P L xs _ 65 19 [.ref 70, .int (nI c), .int (nI p), .int (nI 0), tw_U] [] σ _
      refine tw_sgn 4 (i1 := 23) (ls0 := [.ref 70, .int (nI c), .int (nI p), .int (nI 0), tw_U]) (st0 := [.ref 70, .int (nI 0 * nI 10)]) (σ0 := σ) (ls1 := [.ref 70, .int (nI c), .int (nI p), .int (nI 0), tw_U]) (st1 := [.ref 70, .int (nI (0 * 10))]) (σ1 := σ) rfl (rfl) (by simp only [tw_nadd, tw_nmul]) (rfl) ?_
      refine tw_cl1 rfl (rfl) (by decide) (tw_E_mono (tw_e_next (p := p) hC (by repeat (first | exact hT | refine tw_cT.upd ?_ (by omega) (by omega) (by omega))) (by first | exact h2 | exact tw_upd_at) (by omega)) (fun v σ1 h => (⟨h.1.trans (by rw [s1]), h.2⟩ : v = some (.int (nI (ch p))) ∧ σ = σ1))) ?_
      rintro _ _ ⟨rfl, rfl⟩
      show tw_P L xs _ 65 24 [.ref 70, .int (nI c), .int (nI p), .int (nI 0), tw_U] [.int (nI (ch p)), .int (nI (0 * 10))] σ _
      refine tw_sgn 16 (i1 := 10) (ls0 := [.ref 70, .int (nI c), .int (nI p), .int ((nI (0 * 10) + nI (ch p)) - nI 48), tw_U]) (st0 := [.int (nI 2), .int (((σ 70 2) + nI 1) - nI p)]) (σ0 := (tw_upd σ 70 2 ((σ 70 2) + nI 1))) (ls1 := [.ref 70, .int (nI c), .int (nI p), .int (nI ((0 * 10) + (ch p) - 48)), tw_U]) (st1 := [.int (nI 2), .int (nI 1)]) (σ1 := (tw_upd σ 70 2 (nI (p + 1)))) rfl (by simp only [tw_nsub (show 48 ≤ (0 * 10) + (ch p) by omega), h2, tw_nsb1, tw_nadd, tw_nmul]) (by simp only [tw_nsub (show 48 ≤ (0 * 10) + (ch p) by omega), h2, tw_nsb1, tw_nadd, tw_nmul]) (by simp only [tw_nsub (show 48 ≤ (0 * 10) + (ch p) by omega), h2, tw_nsb1, tw_nadd, tw_nmul]) ?_
      refine tw_biF (c := .ge) rfl (by rw [tw_cge', tw_nle (by omega) (by omega)] <;> omega) ?_
      show tw_P L xs _ 65 11 [.ref 70, .int (nI c), .int (nI p), .int (nI ((0 * 10) + (ch p) - 48)), tw_U] [] (tw_upd σ 70 2 (nI (p + 1))) _
      refine tw_sg 1 (i1 := 12) (ls1 := [.ref 70, .int (nI c), .int (nI p), .int (nI ((0 * 10) + (ch p) - 48)), tw_U]) (st1 := [.ref 70]) (σ1 := (tw_upd σ 70 2 (nI (p + 1)))) rfl ?_
      refine tw_cl1 rfl (rfl) (by decide) (tw_E_mono (tw_e_next (p := (p + 1)) hC (by repeat (first | exact hT | refine tw_cT.upd ?_ (by omega) (by omega) (by omega))) (by first | exact h2 | exact tw_upd_at) (by omega)) (fun v σ1 h => (⟨h.1.trans (by rw [t1]), h.2⟩ : v = some (.int (nI (ch (p + 1)))) ∧ (tw_upd σ 70 2 (nI (p + 1))) = σ1))) ?_
      rintro _ _ ⟨rfl, rfl⟩
      show tw_P L xs _ 65 13 [.ref 70, .int (nI c), .int (nI p), .int (nI ((0 * 10) + (ch p) - 48)), tw_U] [.int (nI (ch (p + 1)))] (tw_upd σ 70 2 (nI (p + 1))) _
      refine tw_sg 1 (i1 := 14) (ls1 := [.ref 70, .int (nI c), .int (nI p), .int (nI ((0 * 10) + (ch p) - 48)), tw_U]) (st1 := [.int (nI 48), .int (nI (ch (p + 1)))]) (σ1 := (tw_upd σ 70 2 (nI (p + 1)))) rfl ?_
      refine tw_biF (c := .lt) rfl (by rw [tw_clt'] <;> (exact t2)) ?_
      show tw_P L xs _ 65 15 [.ref 70, .int (nI c), .int (nI p), .int (nI ((0 * 10) + (ch p) - 48)), tw_U] [] (tw_upd σ 70 2 (nI (p + 1))) _
      refine tw_sg 1 (i1 := 16) (ls1 := [.ref 70, .int (nI c), .int (nI p), .int (nI ((0 * 10) + (ch p) - 48)), tw_U]) (st1 := [.ref 70]) (σ1 := (tw_upd σ 70 2 (nI (p + 1)))) rfl ?_
      refine tw_cl1 rfl (rfl) (by decide) (tw_E_mono (tw_e_next (p := (p + 1)) hC (by repeat (first | exact hT | refine tw_cT.upd ?_ (by omega) (by omega) (by omega))) (by first | exact h2 | exact tw_upd_at) (by omega)) (fun v σ1 h => (⟨h.1.trans (by rw [t1]), h.2⟩ : v = some (.int (nI (ch (p + 1)))) ∧ (tw_upd σ 70 2 (nI (p + 1))) = σ1))) ?_
      rintro _ _ ⟨rfl, rfl⟩
      show tw_P L xs _ 65 17 [.ref 70, .int (nI c), .int (nI p), .int (nI ((0 * 10) + (ch p) - 48)), tw_U] [.int (nI (ch (p + 1)))] (tw_upd σ 70 2 (nI (p + 1))) _
      refine tw_sg 1 (i1 := 18) (ls1 := [.ref 70, .int (nI c), .int (nI p), .int (nI ((0 * 10) + (ch p) - 48)), tw_U]) (st1 := [.int (nI 57), .int (nI (ch (p + 1)))]) (σ1 := (tw_upd σ 70 2 (nI (p + 1)))) rfl ?_
      refine tw_biF (c := .gt) rfl (by rw [tw_cgt'] <;> (exact t3)) ?_
      show tw_P L xs _ 65 19 [.ref 70, .int (nI c), .int (nI p), .int (nI ((0 * 10) + (ch p) - 48)), tw_U] [] (tw_upd σ 70 2 (nI (p + 1))) _
      refine tw_sgn 4 (i1 := 23) (ls0 := [.ref 70, .int (nI c), .int (nI p), .int (nI ((0 * 10) + (ch p) - 48)), tw_U]) (st0 := [.ref 70, .int (nI ((0 * 10) + (ch p) - 48) * nI 10)]) (σ0 := (tw_upd σ 70 2 (nI (p + 1)))) (ls1 := [.ref 70, .int (nI c), .int (nI p), .int (nI ((0 * 10) + (ch p) - 48)), tw_U]) (st1 := [.ref 70, .int (nI (((0 * 10) + (ch p) - 48) * 10))]) (σ1 := (tw_upd σ 70 2 (nI (p + 1)))) rfl (rfl) (by simp only [tw_nadd, tw_nmul]) (rfl) ?_
      refine tw_cl1 rfl (rfl) (by decide) (tw_E_mono (tw_e_next (p := (p + 1)) hC (by repeat (first | exact hT | refine tw_cT.upd ?_ (by omega) (by omega) (by omega))) (by first | exact h2 | exact tw_upd_at) (by omega)) (fun v σ1 h => (⟨h.1.trans (by rw [t1]), h.2⟩ : v = some (.int (nI (ch (p + 1)))) ∧ (tw_upd σ 70 2 (nI (p + 1))) = σ1))) ?_
      rintro _ _ ⟨rfl, rfl⟩
      show tw_P L xs _ 65 24 [.ref 70, .int (nI c), .int (nI p), .int (nI ((0 * 10) + (ch p) - 48)), tw_U] [.int (nI (ch (p + 1))), .int (nI (((0 * 10) + (ch p) - 48) * 10))] (tw_upd σ 70 2 (nI (p + 1))) _
      refine tw_sgn 16 (i1 := 10) (ls0 := [.ref 70, .int (nI c), .int (nI p), .int ((nI (((0 * 10) + (ch p) - 48) * 10) + nI (ch (p + 1))) - nI 48), tw_U]) (st0 := [.int (nI 2), .int ((nI (p + 1) + nI 1) - nI p)]) (σ0 := (tw_upd (tw_upd σ 70 2 (nI (p + 1))) 70 2 (nI (p + 1) + nI 1))) (ls1 := [.ref 70, .int (nI c), .int (nI p), .int (nI ((((0 * 10) + (ch p) - 48) * 10) + (ch (p + 1)) - 48)), tw_U]) (st1 := [.int (nI 2), .int (nI 2)]) (σ1 := (tw_upd (tw_upd σ 70 2 (nI (p + 1))) 70 2 (nI ((p + 1) + 1)))) rfl (by simp only [tw_nsub (show 48 ≤ (((0 * 10) + (ch p) - 48) * 10) + (ch (p + 1)) by omega), tw_nsb2, tw_nadd, tw_nmul]) (by simp only [tw_nsub (show 48 ≤ (((0 * 10) + (ch p) - 48) * 10) + (ch (p + 1)) by omega), tw_nsb2, tw_nadd, tw_nmul]) (by simp only [tw_nsub (show 48 ≤ (((0 * 10) + (ch p) - 48) * 10) + (ch (p + 1)) by omega), tw_nsb2, tw_nadd, tw_nmul]) ?_
      refine tw_biT (c := .ge) rfl (by rw [tw_cge, tw_nle (by omega) (by omega)] <;> omega) ?_
      show tw_P L xs _ 65 35 [.ref 70, .int (nI c), .int (nI p), .int (nI ((((0 * 10) + (ch p) - 48) * 10) + (ch (p + 1)) - 48)), tw_U] [] (tw_upd (tw_upd σ 70 2 (nI (p + 1))) 70 2 (nI ((p + 1) + 1))) _
      refine tw_l_nT0 (p := p) (p2 := (p + 1 + 1)) (v := (((0 * 10) + (ch p) - 48) * 10) + (ch (p + 1)) - 48) hc (by omega) (by omega) (by omega) (by first | exact h2 | exact tw_upd_at) (by repeat (first | exact h3 | rw [tw_upd_off (by omega)])) (by omega) ⟨?_, ?_⟩
      · rw [hv]
      · rw [hn, tw_upd2]
    · have hn := tw_nl1 d0 d1
      have hv : tw_nv ch p = 0 * 10 + ch p - 48 := by unfold tw_nv; rw [hn]; rfl
      have e0 := d0
      unfold tw_dg at e0
      rcases tw_ndg hC d1 with g1 | ⟨g1, g2⟩
      · skip
        show tw_P L xs _ 65 0 [.ref 70, .int (nI c), tw_U, tw_U, tw_U] [] σ _
        refine tw_sgn 10 (i1 := 10) (ls0 := [.ref 70, .int (nI c), .int (σ 70 2), .int (nI 0), tw_U]) (st0 := [.int (nI 2), .int ((σ 70 2) - (σ 70 2))]) (σ0 := σ) (ls1 := [.ref 70, .int (nI c), .int (nI p), .int (nI 0), tw_U]) (st1 := [.int (nI 2), .int (nI 0)]) (σ1 := σ) rfl (by simp only [h2, h2, tw_nsb0, tw_nadd, tw_nmul]) (by simp only [h2, h2, tw_nsb0, tw_nadd, tw_nmul]) (rfl) ?_
        refine tw_biF (c := .ge) rfl (by rw [tw_cge', tw_nle (by omega) (by omega)] <;> omega) ?_
        show tw_P L xs _ 65 11 [.ref 70, .int (nI c), .int (nI p), .int (nI 0), tw_U] [] σ _
        refine tw_sg 1 (i1 := 12) (ls1 := [.ref 70, .int (nI c), .int (nI p), .int (nI 0), tw_U]) (st1 := [.ref 70]) (σ1 := σ) rfl ?_
        refine tw_cl1 rfl (rfl) (by decide) (tw_E_mono (tw_e_next (p := p) hC (by repeat (first | exact hT | refine tw_cT.upd ?_ (by omega) (by omega) (by omega))) (by first | exact h2 | exact tw_upd_at) (by omega)) (fun v σ1 h => (⟨h.1.trans (by rw [s1]), h.2⟩ : v = some (.int (nI (ch p))) ∧ σ = σ1))) ?_
        rintro _ _ ⟨rfl, rfl⟩
        show tw_P L xs _ 65 13 [.ref 70, .int (nI c), .int (nI p), .int (nI 0), tw_U] [.int (nI (ch p))] σ _
        refine tw_sg 1 (i1 := 14) (ls1 := [.ref 70, .int (nI c), .int (nI p), .int (nI 0), tw_U]) (st1 := [.int (nI 48), .int (nI (ch p))]) (σ1 := σ) rfl ?_
        refine tw_biF (c := .lt) rfl (by rw [tw_clt'] <;> (exact s2)) ?_
        show tw_P L xs _ 65 15 [.ref 70, .int (nI c), .int (nI p), .int (nI 0), tw_U] [] σ _
        refine tw_sg 1 (i1 := 16) (ls1 := [.ref 70, .int (nI c), .int (nI p), .int (nI 0), tw_U]) (st1 := [.ref 70]) (σ1 := σ) rfl ?_
        refine tw_cl1 rfl (rfl) (by decide) (tw_E_mono (tw_e_next (p := p) hC (by repeat (first | exact hT | refine tw_cT.upd ?_ (by omega) (by omega) (by omega))) (by first | exact h2 | exact tw_upd_at) (by omega)) (fun v σ1 h => (⟨h.1.trans (by rw [s1]), h.2⟩ : v = some (.int (nI (ch p))) ∧ σ = σ1))) ?_
        rintro _ _ ⟨rfl, rfl⟩
        show tw_P L xs _ 65 17 [.ref 70, .int (nI c), .int (nI p), .int (nI 0), tw_U] [.int (nI (ch p))] σ _
        refine tw_sg 1 (i1 := 18) (ls1 := [.ref 70, .int (nI c), .int (nI p), .int (nI 0), tw_U]) (st1 := [.int (nI 57), .int (nI (ch p))]) (σ1 := σ) rfl ?_
        refine tw_biF (c := .gt) rfl (by rw [tw_cgt'] <;> (exact s3)) ?_
        show tw_P L xs _ 65 19 [.ref 70, .int (nI c), .int (nI p), .int (nI 0), tw_U] [] σ _
        refine tw_sgn 4 (i1 := 23) (ls0 := [.ref 70, .int (nI c), .int (nI p), .int (nI 0), tw_U]) (st0 := [.ref 70, .int (nI 0 * nI 10)]) (σ0 := σ) (ls1 := [.ref 70, .int (nI c), .int (nI p), .int (nI 0), tw_U]) (st1 := [.ref 70, .int (nI (0 * 10))]) (σ1 := σ) rfl (rfl) (by simp only [tw_nadd, tw_nmul]) (rfl) ?_
        refine tw_cl1 rfl (rfl) (by decide) (tw_E_mono (tw_e_next (p := p) hC (by repeat (first | exact hT | refine tw_cT.upd ?_ (by omega) (by omega) (by omega))) (by first | exact h2 | exact tw_upd_at) (by omega)) (fun v σ1 h => (⟨h.1.trans (by rw [s1]), h.2⟩ : v = some (.int (nI (ch p))) ∧ σ = σ1))) ?_
        rintro _ _ ⟨rfl, rfl⟩
        show tw_P L xs _ 65 24 [.ref 70, .int (nI c), .int (nI p), .int (nI 0), tw_U] [.int (nI (ch p)), .int (nI (0 * 10))] σ _
        refine tw_sgn 16 (i1 := 10) (ls0 := [.ref 70, .int (nI c), .int (nI p), .int ((nI (0 * 10) + nI (ch p)) - nI 48), tw_U]) (st0 := [.int (nI 2), .int (((σ 70 2) + nI 1) - nI p)]) (σ0 := (tw_upd σ 70 2 ((σ 70 2) + nI 1))) (ls1 := [.ref 70, .int (nI c), .int (nI p), .int (nI ((0 * 10) + (ch p) - 48)), tw_U]) (st1 := [.int (nI 2), .int (nI 1)]) (σ1 := (tw_upd σ 70 2 (nI (p + 1)))) rfl (by simp only [tw_nsub (show 48 ≤ (0 * 10) + (ch p) by omega), h2, tw_nsb1, tw_nadd, tw_nmul]) (by simp only [tw_nsub (show 48 ≤ (0 * 10) + (ch p) by omega), h2, tw_nsb1, tw_nadd, tw_nmul]) (by simp only [tw_nsub (show 48 ≤ (0 * 10) + (ch p) by omega), h2, tw_nsb1, tw_nadd, tw_nmul]) ?_
        refine tw_biF (c := .ge) rfl (by rw [tw_cge', tw_nle (by omega) (by omega)] <;> omega) ?_
        show tw_P L xs _ 65 11 [.ref 70, .int (nI c), .int (nI p), .int (nI ((0 * 10) + (ch p) - 48)), tw_U] [] (tw_upd σ 70 2 (nI (p + 1))) _
        refine tw_sg 1 (i1 := 12) (ls1 := [.ref 70, .int (nI c), .int (nI p), .int (nI ((0 * 10) + (ch p) - 48)), tw_U]) (st1 := [.ref 70]) (σ1 := (tw_upd σ 70 2 (nI (p + 1)))) rfl ?_
        refine tw_cl1 rfl (rfl) (by decide) (tw_e_next (p := (p + 1)) hC (by repeat (first | exact hT | refine tw_cT.upd ?_ (by omega) (by omega) (by omega))) (by first | exact h2 | exact tw_upd_at) (by omega)) ?_
        rintro _ _ ⟨rfl, rfl⟩
        show tw_P L xs _ 65 13 [.ref 70, .int (nI c), .int (nI p), .int (nI ((0 * 10) + (ch p) - 48)), tw_U] [.int (tw_hv ch (p + 1))] (tw_upd σ 70 2 (nI (p + 1))) _
        refine tw_sg 1 (i1 := 14) (ls1 := [.ref 70, .int (nI c), .int (nI p), .int (nI ((0 * 10) + (ch p) - 48)), tw_U]) (st1 := [.int (nI 48), .int (tw_hv ch (p + 1))]) (σ1 := (tw_upd σ 70 2 (nI (p + 1)))) rfl ?_
        refine tw_biT (c := .lt) rfl (by rw [tw_clt] <;> (exact g1)) ?_
        show tw_P L xs _ 65 35 [.ref 70, .int (nI c), .int (nI p), .int (nI ((0 * 10) + (ch p) - 48)), tw_U] [] (tw_upd σ 70 2 (nI (p + 1))) _
        refine tw_l_nT0 (p := p) (p2 := (p + 1)) (v := (0 * 10) + (ch p) - 48) hc (by omega) (by omega) (by omega) (by first | exact h2 | exact tw_upd_at) (by repeat (first | exact h3 | rw [tw_upd_off (by omega)])) (by omega) ⟨?_, ?_⟩
        · rw [hv]
        · rw [hn]
      · skip
        show tw_P L xs _ 65 0 [.ref 70, .int (nI c), tw_U, tw_U, tw_U] [] σ _
        refine tw_sgn 10 (i1 := 10) (ls0 := [.ref 70, .int (nI c), .int (σ 70 2), .int (nI 0), tw_U]) (st0 := [.int (nI 2), .int ((σ 70 2) - (σ 70 2))]) (σ0 := σ) (ls1 := [.ref 70, .int (nI c), .int (nI p), .int (nI 0), tw_U]) (st1 := [.int (nI 2), .int (nI 0)]) (σ1 := σ) rfl (by simp only [h2, h2, tw_nsb0, tw_nadd, tw_nmul]) (by simp only [h2, h2, tw_nsb0, tw_nadd, tw_nmul]) (rfl) ?_
        refine tw_biF (c := .ge) rfl (by rw [tw_cge', tw_nle (by omega) (by omega)] <;> omega) ?_
        show tw_P L xs _ 65 11 [.ref 70, .int (nI c), .int (nI p), .int (nI 0), tw_U] [] σ _
        refine tw_sg 1 (i1 := 12) (ls1 := [.ref 70, .int (nI c), .int (nI p), .int (nI 0), tw_U]) (st1 := [.ref 70]) (σ1 := σ) rfl ?_
        refine tw_cl1 rfl (rfl) (by decide) (tw_E_mono (tw_e_next (p := p) hC (by repeat (first | exact hT | refine tw_cT.upd ?_ (by omega) (by omega) (by omega))) (by first | exact h2 | exact tw_upd_at) (by omega)) (fun v σ1 h => (⟨h.1.trans (by rw [s1]), h.2⟩ : v = some (.int (nI (ch p))) ∧ σ = σ1))) ?_
        rintro _ _ ⟨rfl, rfl⟩
        show tw_P L xs _ 65 13 [.ref 70, .int (nI c), .int (nI p), .int (nI 0), tw_U] [.int (nI (ch p))] σ _
        refine tw_sg 1 (i1 := 14) (ls1 := [.ref 70, .int (nI c), .int (nI p), .int (nI 0), tw_U]) (st1 := [.int (nI 48), .int (nI (ch p))]) (σ1 := σ) rfl ?_
        refine tw_biF (c := .lt) rfl (by rw [tw_clt'] <;> (exact s2)) ?_
        show tw_P L xs _ 65 15 [.ref 70, .int (nI c), .int (nI p), .int (nI 0), tw_U] [] σ _
        refine tw_sg 1 (i1 := 16) (ls1 := [.ref 70, .int (nI c), .int (nI p), .int (nI 0), tw_U]) (st1 := [.ref 70]) (σ1 := σ) rfl ?_
        refine tw_cl1 rfl (rfl) (by decide) (tw_E_mono (tw_e_next (p := p) hC (by repeat (first | exact hT | refine tw_cT.upd ?_ (by omega) (by omega) (by omega))) (by first | exact h2 | exact tw_upd_at) (by omega)) (fun v σ1 h => (⟨h.1.trans (by rw [s1]), h.2⟩ : v = some (.int (nI (ch p))) ∧ σ = σ1))) ?_
        rintro _ _ ⟨rfl, rfl⟩
        show tw_P L xs _ 65 17 [.ref 70, .int (nI c), .int (nI p), .int (nI 0), tw_U] [.int (nI (ch p))] σ _
        refine tw_sg 1 (i1 := 18) (ls1 := [.ref 70, .int (nI c), .int (nI p), .int (nI 0), tw_U]) (st1 := [.int (nI 57), .int (nI (ch p))]) (σ1 := σ) rfl ?_
        refine tw_biF (c := .gt) rfl (by rw [tw_cgt'] <;> (exact s3)) ?_
        show tw_P L xs _ 65 19 [.ref 70, .int (nI c), .int (nI p), .int (nI 0), tw_U] [] σ _
        refine tw_sgn 4 (i1 := 23) (ls0 := [.ref 70, .int (nI c), .int (nI p), .int (nI 0), tw_U]) (st0 := [.ref 70, .int (nI 0 * nI 10)]) (σ0 := σ) (ls1 := [.ref 70, .int (nI c), .int (nI p), .int (nI 0), tw_U]) (st1 := [.ref 70, .int (nI (0 * 10))]) (σ1 := σ) rfl (rfl) (by simp only [tw_nadd, tw_nmul]) (rfl) ?_
        refine tw_cl1 rfl (rfl) (by decide) (tw_E_mono (tw_e_next (p := p) hC (by repeat (first | exact hT | refine tw_cT.upd ?_ (by omega) (by omega) (by omega))) (by first | exact h2 | exact tw_upd_at) (by omega)) (fun v σ1 h => (⟨h.1.trans (by rw [s1]), h.2⟩ : v = some (.int (nI (ch p))) ∧ σ = σ1))) ?_
        rintro _ _ ⟨rfl, rfl⟩
        show tw_P L xs _ 65 24 [.ref 70, .int (nI c), .int (nI p), .int (nI 0), tw_U] [.int (nI (ch p)), .int (nI (0 * 10))] σ _
        refine tw_sgn 16 (i1 := 10) (ls0 := [.ref 70, .int (nI c), .int (nI p), .int ((nI (0 * 10) + nI (ch p)) - nI 48), tw_U]) (st0 := [.int (nI 2), .int (((σ 70 2) + nI 1) - nI p)]) (σ0 := (tw_upd σ 70 2 ((σ 70 2) + nI 1))) (ls1 := [.ref 70, .int (nI c), .int (nI p), .int (nI ((0 * 10) + (ch p) - 48)), tw_U]) (st1 := [.int (nI 2), .int (nI 1)]) (σ1 := (tw_upd σ 70 2 (nI (p + 1)))) rfl (by simp only [tw_nsub (show 48 ≤ (0 * 10) + (ch p) by omega), h2, tw_nsb1, tw_nadd, tw_nmul]) (by simp only [tw_nsub (show 48 ≤ (0 * 10) + (ch p) by omega), h2, tw_nsb1, tw_nadd, tw_nmul]) (by simp only [tw_nsub (show 48 ≤ (0 * 10) + (ch p) by omega), h2, tw_nsb1, tw_nadd, tw_nmul]) ?_
        refine tw_biF (c := .ge) rfl (by rw [tw_cge', tw_nle (by omega) (by omega)] <;> omega) ?_
        show tw_P L xs _ 65 11 [.ref 70, .int (nI c), .int (nI p), .int (nI ((0 * 10) + (ch p) - 48)), tw_U] [] (tw_upd σ 70 2 (nI (p + 1))) _
        refine tw_sg 1 (i1 := 12) (ls1 := [.ref 70, .int (nI c), .int (nI p), .int (nI ((0 * 10) + (ch p) - 48)), tw_U]) (st1 := [.ref 70]) (σ1 := (tw_upd σ 70 2 (nI (p + 1)))) rfl ?_
        refine tw_cl1 rfl (rfl) (by decide) (tw_e_next (p := (p + 1)) hC (by repeat (first | exact hT | refine tw_cT.upd ?_ (by omega) (by omega) (by omega))) (by first | exact h2 | exact tw_upd_at) (by omega)) ?_
        rintro _ _ ⟨rfl, rfl⟩
        show tw_P L xs _ 65 13 [.ref 70, .int (nI c), .int (nI p), .int (nI ((0 * 10) + (ch p) - 48)), tw_U] [.int (tw_hv ch (p + 1))] (tw_upd σ 70 2 (nI (p + 1))) _
        refine tw_sg 1 (i1 := 14) (ls1 := [.ref 70, .int (nI c), .int (nI p), .int (nI ((0 * 10) + (ch p) - 48)), tw_U]) (st1 := [.int (nI 48), .int (tw_hv ch (p + 1))]) (σ1 := (tw_upd σ 70 2 (nI (p + 1)))) rfl ?_
        refine tw_biF (c := .lt) rfl (by rw [tw_clt'] <;> (exact g1)) ?_
        show tw_P L xs _ 65 15 [.ref 70, .int (nI c), .int (nI p), .int (nI ((0 * 10) + (ch p) - 48)), tw_U] [] (tw_upd σ 70 2 (nI (p + 1))) _
        refine tw_sg 1 (i1 := 16) (ls1 := [.ref 70, .int (nI c), .int (nI p), .int (nI ((0 * 10) + (ch p) - 48)), tw_U]) (st1 := [.ref 70]) (σ1 := (tw_upd σ 70 2 (nI (p + 1)))) rfl ?_
        refine tw_cl1 rfl (rfl) (by decide) (tw_e_next (p := (p + 1)) hC (by repeat (first | exact hT | refine tw_cT.upd ?_ (by omega) (by omega) (by omega))) (by first | exact h2 | exact tw_upd_at) (by omega)) ?_
        rintro _ _ ⟨rfl, rfl⟩
        show tw_P L xs _ 65 17 [.ref 70, .int (nI c), .int (nI p), .int (nI ((0 * 10) + (ch p) - 48)), tw_U] [.int (tw_hv ch (p + 1))] (tw_upd σ 70 2 (nI (p + 1))) _
        refine tw_sg 1 (i1 := 18) (ls1 := [.ref 70, .int (nI c), .int (nI p), .int (nI ((0 * 10) + (ch p) - 48)), tw_U]) (st1 := [.int (nI 57), .int (tw_hv ch (p + 1))]) (σ1 := (tw_upd σ 70 2 (nI (p + 1)))) rfl ?_
        refine tw_biT (c := .gt) rfl (by rw [tw_cgt] <;> (exact g2)) ?_
        show tw_P L xs _ 65 35 [.ref 70, .int (nI c), .int (nI p), .int (nI ((0 * 10) + (ch p) - 48)), tw_U] [] (tw_upd σ 70 2 (nI (p + 1))) _
        refine tw_l_nT0 (p := p) (p2 := (p + 1)) (v := (0 * 10) + (ch p) - 48) hc (by omega) (by omega) (by omega) (by first | exact h2 | exact tw_upd_at) (by repeat (first | exact h3 | rw [tw_upd_off (by omega)])) (by omega) ⟨?_, ?_⟩
        · rw [hv]
        · rw [hn]
  · have hn := tw_nl0 d0
    have hv : tw_nv ch p = 0 := by unfold tw_nv; rw [hn]; rfl
    rcases tw_ndg hC d0 with g1 | ⟨g1, g2⟩
    · skip
      show tw_P L xs _ 65 0 [.ref 70, .int (nI c), tw_U, tw_U, tw_U] [] σ _
      refine tw_sgn 10 (i1 := 10) (ls0 := [.ref 70, .int (nI c), .int (σ 70 2), .int (nI 0), tw_U]) (st0 := [.int (nI 2), .int ((σ 70 2) - (σ 70 2))]) (σ0 := σ) (ls1 := [.ref 70, .int (nI c), .int (nI p), .int (nI 0), tw_U]) (st1 := [.int (nI 2), .int (nI 0)]) (σ1 := σ) rfl (by simp only [h2, h2, tw_nsb0, tw_nadd, tw_nmul]) (by simp only [h2, h2, tw_nsb0, tw_nadd, tw_nmul]) (rfl) ?_
      refine tw_biF (c := .ge) rfl (by rw [tw_cge', tw_nle (by omega) (by omega)] <;> omega) ?_
      show tw_P L xs _ 65 11 [.ref 70, .int (nI c), .int (nI p), .int (nI 0), tw_U] [] σ _
      refine tw_sg 1 (i1 := 12) (ls1 := [.ref 70, .int (nI c), .int (nI p), .int (nI 0), tw_U]) (st1 := [.ref 70]) (σ1 := σ) rfl ?_
      refine tw_cl1 rfl (rfl) (by decide) (tw_e_next (p := p) hC (by repeat (first | exact hT | refine tw_cT.upd ?_ (by omega) (by omega) (by omega))) (by first | exact h2 | exact tw_upd_at) (by omega)) ?_
      rintro _ _ ⟨rfl, rfl⟩
      show tw_P L xs _ 65 13 [.ref 70, .int (nI c), .int (nI p), .int (nI 0), tw_U] [.int (tw_hv ch p)] σ _
      refine tw_sg 1 (i1 := 14) (ls1 := [.ref 70, .int (nI c), .int (nI p), .int (nI 0), tw_U]) (st1 := [.int (nI 48), .int (tw_hv ch p)]) (σ1 := σ) rfl ?_
      refine tw_biT (c := .lt) rfl (by rw [tw_clt] <;> (exact g1)) ?_
      show tw_P L xs _ 65 35 [.ref 70, .int (nI c), .int (nI p), .int (nI 0), tw_U] [] σ _
      refine tw_l_nT0 (p := p) (p2 := p) (v := 0) hc (by omega) (by omega) (by omega) (by first | exact h2 | exact tw_upd_at) (by repeat (first | exact h3 | rw [tw_upd_off (by omega)])) (by omega) ⟨?_, ?_⟩
      · rw [hv]
      · rw [hn, show p + 0 = p from rfl, tw_upd_id h2]
    · skip
      show tw_P L xs _ 65 0 [.ref 70, .int (nI c), tw_U, tw_U, tw_U] [] σ _
      refine tw_sgn 10 (i1 := 10) (ls0 := [.ref 70, .int (nI c), .int (σ 70 2), .int (nI 0), tw_U]) (st0 := [.int (nI 2), .int ((σ 70 2) - (σ 70 2))]) (σ0 := σ) (ls1 := [.ref 70, .int (nI c), .int (nI p), .int (nI 0), tw_U]) (st1 := [.int (nI 2), .int (nI 0)]) (σ1 := σ) rfl (by simp only [h2, h2, tw_nsb0, tw_nadd, tw_nmul]) (by simp only [h2, h2, tw_nsb0, tw_nadd, tw_nmul]) (rfl) ?_
      refine tw_biF (c := .ge) rfl (by rw [tw_cge', tw_nle (by omega) (by omega)] <;> omega) ?_
      show tw_P L xs _ 65 11 [.ref 70, .int (nI c), .int (nI p), .int (nI 0), tw_U] [] σ _
      refine tw_sg 1 (i1 := 12) (ls1 := [.ref 70, .int (nI c), .int (nI p), .int (nI 0), tw_U]) (st1 := [.ref 70]) (σ1 := σ) rfl ?_
      refine tw_cl1 rfl (rfl) (by decide) (tw_e_next (p := p) hC (by repeat (first | exact hT | refine tw_cT.upd ?_ (by omega) (by omega) (by omega))) (by first | exact h2 | exact tw_upd_at) (by omega)) ?_
      rintro _ _ ⟨rfl, rfl⟩
      show tw_P L xs _ 65 13 [.ref 70, .int (nI c), .int (nI p), .int (nI 0), tw_U] [.int (tw_hv ch p)] σ _
      refine tw_sg 1 (i1 := 14) (ls1 := [.ref 70, .int (nI c), .int (nI p), .int (nI 0), tw_U]) (st1 := [.int (nI 48), .int (tw_hv ch p)]) (σ1 := σ) rfl ?_
      refine tw_biF (c := .lt) rfl (by rw [tw_clt'] <;> (exact g1)) ?_
      show tw_P L xs _ 65 15 [.ref 70, .int (nI c), .int (nI p), .int (nI 0), tw_U] [] σ _
      refine tw_sg 1 (i1 := 16) (ls1 := [.ref 70, .int (nI c), .int (nI p), .int (nI 0), tw_U]) (st1 := [.ref 70]) (σ1 := σ) rfl ?_
      refine tw_cl1 rfl (rfl) (by decide) (tw_e_next (p := p) hC (by repeat (first | exact hT | refine tw_cT.upd ?_ (by omega) (by omega) (by omega))) (by first | exact h2 | exact tw_upd_at) (by omega)) ?_
      rintro _ _ ⟨rfl, rfl⟩
      show tw_P L xs _ 65 17 [.ref 70, .int (nI c), .int (nI p), .int (nI 0), tw_U] [.int (tw_hv ch p)] σ _
      refine tw_sg 1 (i1 := 18) (ls1 := [.ref 70, .int (nI c), .int (nI p), .int (nI 0), tw_U]) (st1 := [.int (nI 57), .int (tw_hv ch p)]) (σ1 := σ) rfl ?_
      refine tw_biT (c := .gt) rfl (by rw [tw_cgt] <;> (exact g2)) ?_
      show tw_P L xs _ 65 35 [.ref 70, .int (nI c), .int (nI p), .int (nI 0), tw_U] [] σ _
      refine tw_l_nT0 (p := p) (p2 := p) (v := 0) hc (by omega) (by omega) (by omega) (by first | exact h2 | exact tw_upd_at) (by repeat (first | exact h3 | rw [tw_upd_off (by omega)])) (by omega) ⟨?_, ?_⟩
      · rw [hv]
      · rw [hn, show p + 0 = p from rfl, tw_upd_id h2]
set_option maxHeartbeats 4000000 in
set_option maxRecDepth 100000 in
theorem tw_m_num1 {ch : Nat → Nat} {k p : Nat} (hC : tw_chs ch k) (hT : tw_mT ch k σ) (h2 : σ 88 18 = nI p) (hp : p ≤ 90) (hc : c < 128) (hok : ¬ (tw_nl ch p = 0 ∨ tw_nv ch p < c)) : tw_E L xs 2 192 [.ref 88, .int (nI c)] σ (fun v τ => v = some (.int (nI (tw_nv ch p))) ∧ τ = tw_upd σ 88 18 (nI (p + tw_nl ch p))) := by
  have b0 := tw_ch_lt hC p
  have b1 := tw_ch_lt hC (p + 1)
  by_cases d0 : tw_dg (ch p)
  · obtain ⟨s1, s2, s3⟩ := tw_isdg hC d0
    by_cases d1 : tw_dg (ch (p + 1))
    · obtain ⟨t1, t2, t3⟩ := tw_isdg hC d1
      have hn := tw_nl2 d0 d1
      have hv : tw_nv ch p = (0 * 10 + ch p - 48) * 10 + ch (p + 1) - 48 := by unfold tw_nv; rw [hn]; rfl
      unfold tw_dg at d0 d1
      show tw_P L xs _ 192 0 [.ref 88, .int (nI c), tw_U, tw_U] [] σ _
      refine tw_sgn 10 (i1 := 10) (ls0 := [.ref 88, .int (nI c), .int (σ 88 18), .int (nI 0)]) (st0 := [.int ((σ 88 18) + nI 2), .int (σ 88 18)]) (σ0 := σ) (ls1 := [.ref 88, .int (nI c), .int (nI p), .int (nI 0)]) (st1 := [.int (nI (p + 2)), .int (nI p)]) (σ1 := σ) rfl (by simp only [h2, h2, tw_nadd, tw_nmul]) (by simp only [h2, h2, tw_nadd, tw_nmul]) (rfl) ?_
      refine tw_biF (c := .ge) rfl (by rw [tw_cge', tw_nle (by omega) (by omega)] <;> omega) ?_
      show tw_P L xs _ 192 11 [.ref 88, .int (nI c), .int (nI p), .int (nI 0)] [] σ _
      refine tw_sg 1 (i1 := 12) (ls1 := [.ref 88, .int (nI c), .int (nI p), .int (nI 0)]) (st1 := [.ref 88]) (σ1 := σ) rfl ?_
      refine tw_cl1 rfl (rfl) (by decide) (tw_E_mono (tw_e_hre (p := p) hC (by repeat (first | exact hT | refine tw_mT.upd ?_ (by omega) (by omega))) (by first | exact h2 | exact tw_upd_at) (by omega)) (fun v σ1 h => (⟨h.1.trans (by rw [s1]), h.2⟩ : v = some (.int (nI (ch p))) ∧ σ = σ1))) ?_
      rintro _ _ ⟨rfl, rfl⟩
      show tw_P L xs _ 192 13 [.ref 88, .int (nI c), .int (nI p), .int (nI 0)] [.int (nI (ch p))] σ _
      refine tw_sg 2 (i1 := 15) (ls1 := [.ref 88, .int (nI c), .int (nI p), .int (nI 0)]) (st1 := [.int (nI 57), .int (nI 48), .int (nI (ch p))]) (σ1 := σ) rfl ?_
      refine tw_cl1 rfl (rfl) (by decide) (tw_e_in1 s2 s3) ?_
      rintro _ _ ⟨rfl, rfl⟩
      show tw_P L xs _ 192 16 [.ref 88, .int (nI c), .int (nI p), .int (nI 0)] [.int (nI 1)] σ _
      refine tw_bzF (c := .eq) rfl (by rw [tw_ceq', tw_neq (by omega) (by omega)] <;> omega) ?_
      show tw_P L xs _ 192 17 [.ref 88, .int (nI c), .int (nI p), .int (nI 0)] [] σ _
      refine tw_sgn 4 (i1 := 21) (ls0 := [.ref 88, .int (nI c), .int (nI p), .int (nI 0)]) (st0 := [.ref 88, .int (nI 10 * nI 0)]) (σ0 := σ) (ls1 := [.ref 88, .int (nI c), .int (nI p), .int (nI 0)]) (st1 := [.ref 88, .int (nI (10 * 0))]) (σ1 := σ) rfl (rfl) (by simp only [tw_nadd, tw_nmul]) (rfl) ?_
      refine tw_cl1 rfl (rfl) (by decide) (tw_E_mono (tw_e_hre (p := p) hC (by repeat (first | exact hT | refine tw_mT.upd ?_ (by omega) (by omega))) (by first | exact h2 | exact tw_upd_at) (by omega)) (fun v σ1 h => (⟨h.1.trans (by rw [s1]), h.2⟩ : v = some (.int (nI (ch p))) ∧ σ = σ1))) ?_
      rintro _ _ ⟨rfl, rfl⟩
      show tw_P L xs _ 192 22 [.ref 88, .int (nI c), .int (nI p), .int (nI 0)] [.int (nI (ch p)), .int (nI (10 * 0))] σ _
      refine tw_sgn 16 (i1 := 10) (ls0 := [.ref 88, .int (nI c), .int (nI p), .int ((nI (10 * 0) + nI (ch p)) - nI 48)]) (st0 := [.int (nI p + nI 2), .int ((σ 88 18) + nI 1)]) (σ0 := (tw_upd σ 88 18 ((σ 88 18) + nI 1))) (ls1 := [.ref 88, .int (nI c), .int (nI p), .int (nI ((10 * 0) + (ch p) - 48))]) (st1 := [.int (nI (p + 2)), .int (nI (p + 1))]) (σ1 := (tw_upd σ 88 18 (nI (p + 1)))) rfl (by simp only [tw_nsub (show 48 ≤ (10 * 0) + (ch p) by omega), h2, tw_nadd, tw_nmul]) (by simp only [tw_nsub (show 48 ≤ (10 * 0) + (ch p) by omega), h2, tw_nadd, tw_nmul]) (by simp only [tw_nsub (show 48 ≤ (10 * 0) + (ch p) by omega), h2, tw_nadd, tw_nmul]) ?_
      refine tw_biF (c := .ge) rfl (by rw [tw_cge', tw_nle (by omega) (by omega)] <;> omega) ?_
      show tw_P L xs _ 192 11 [.ref 88, .int (nI c), .int (nI p), .int (nI ((10 * 0) + (ch p) - 48))] [] (tw_upd σ 88 18 (nI (p + 1))) _
      refine tw_sg 1 (i1 := 12) (ls1 := [.ref 88, .int (nI c), .int (nI p), .int (nI ((10 * 0) + (ch p) - 48))]) (st1 := [.ref 88]) (σ1 := (tw_upd σ 88 18 (nI (p + 1)))) rfl ?_
      refine tw_cl1 rfl (rfl) (by decide) (tw_E_mono (tw_e_hre (p := (p + 1)) hC (by repeat (first | exact hT | refine tw_mT.upd ?_ (by omega) (by omega))) (by first | exact h2 | exact tw_upd_at) (by omega)) (fun v σ1 h => (⟨h.1.trans (by rw [t1]), h.2⟩ : v = some (.int (nI (ch (p + 1)))) ∧ (tw_upd σ 88 18 (nI (p + 1))) = σ1))) ?_
      rintro _ _ ⟨rfl, rfl⟩
      show tw_P L xs _ 192 13 [.ref 88, .int (nI c), .int (nI p), .int (nI ((10 * 0) + (ch p) - 48))] [.int (nI (ch (p + 1)))] (tw_upd σ 88 18 (nI (p + 1))) _
      refine tw_sg 2 (i1 := 15) (ls1 := [.ref 88, .int (nI c), .int (nI p), .int (nI ((10 * 0) + (ch p) - 48))]) (st1 := [.int (nI 57), .int (nI 48), .int (nI (ch (p + 1)))]) (σ1 := (tw_upd σ 88 18 (nI (p + 1)))) rfl ?_
      refine tw_cl1 rfl (rfl) (by decide) (tw_e_in1 t2 t3) ?_
      rintro _ _ ⟨rfl, rfl⟩
      show tw_P L xs _ 192 16 [.ref 88, .int (nI c), .int (nI p), .int (nI ((10 * 0) + (ch p) - 48))] [.int (nI 1)] (tw_upd σ 88 18 (nI (p + 1))) _
      refine tw_bzF (c := .eq) rfl (by rw [tw_ceq', tw_neq (by omega) (by omega)] <;> omega) ?_
      show tw_P L xs _ 192 17 [.ref 88, .int (nI c), .int (nI p), .int (nI ((10 * 0) + (ch p) - 48))] [] (tw_upd σ 88 18 (nI (p + 1))) _
      refine tw_sgn 4 (i1 := 21) (ls0 := [.ref 88, .int (nI c), .int (nI p), .int (nI ((10 * 0) + (ch p) - 48))]) (st0 := [.ref 88, .int (nI 10 * nI ((10 * 0) + (ch p) - 48))]) (σ0 := (tw_upd σ 88 18 (nI (p + 1)))) (ls1 := [.ref 88, .int (nI c), .int (nI p), .int (nI ((10 * 0) + (ch p) - 48))]) (st1 := [.ref 88, .int (nI (10 * ((10 * 0) + (ch p) - 48)))]) (σ1 := (tw_upd σ 88 18 (nI (p + 1)))) rfl (rfl) (by simp only [tw_nadd, tw_nmul]) (rfl) ?_
      refine tw_cl1 rfl (rfl) (by decide) (tw_E_mono (tw_e_hre (p := (p + 1)) hC (by repeat (first | exact hT | refine tw_mT.upd ?_ (by omega) (by omega))) (by first | exact h2 | exact tw_upd_at) (by omega)) (fun v σ1 h => (⟨h.1.trans (by rw [t1]), h.2⟩ : v = some (.int (nI (ch (p + 1)))) ∧ (tw_upd σ 88 18 (nI (p + 1))) = σ1))) ?_
      rintro _ _ ⟨rfl, rfl⟩
      show tw_P L xs _ 192 22 [.ref 88, .int (nI c), .int (nI p), .int (nI ((10 * 0) + (ch p) - 48))] [.int (nI (ch (p + 1))), .int (nI (10 * ((10 * 0) + (ch p) - 48)))] (tw_upd σ 88 18 (nI (p + 1))) _
      refine tw_sgn 16 (i1 := 10) (ls0 := [.ref 88, .int (nI c), .int (nI p), .int ((nI (10 * ((10 * 0) + (ch p) - 48)) + nI (ch (p + 1))) - nI 48)]) (st0 := [.int (nI p + nI 2), .int (nI (p + 1) + nI 1)]) (σ0 := (tw_upd (tw_upd σ 88 18 (nI (p + 1))) 88 18 (nI (p + 1) + nI 1))) (ls1 := [.ref 88, .int (nI c), .int (nI p), .int (nI ((10 * ((10 * 0) + (ch p) - 48)) + (ch (p + 1)) - 48))]) (st1 := [.int (nI (p + 2)), .int (nI ((p + 1) + 1))]) (σ1 := (tw_upd (tw_upd σ 88 18 (nI (p + 1))) 88 18 (nI ((p + 1) + 1)))) rfl (by simp only [tw_nsub (show 48 ≤ (10 * ((10 * 0) + (ch p) - 48)) + (ch (p + 1)) by omega), tw_nadd, tw_nmul]) (by simp only [tw_nsub (show 48 ≤ (10 * ((10 * 0) + (ch p) - 48)) + (ch (p + 1)) by omega), tw_nadd, tw_nmul]) (by simp only [tw_nsub (show 48 ≤ (10 * ((10 * 0) + (ch p) - 48)) + (ch (p + 1)) by omega), tw_nadd, tw_nmul]) ?_
      refine tw_biT (c := .ge) rfl (by rw [tw_cge, tw_nle (by omega) (by omega)] <;> omega) ?_
      show tw_P L xs _ 192 33 [.ref 88, .int (nI c), .int (nI p), .int (nI ((10 * ((10 * 0) + (ch p) - 48)) + (ch (p + 1)) - 48))] [] (tw_upd (tw_upd σ 88 18 (nI (p + 1))) 88 18 (nI ((p + 1) + 1))) _
      refine tw_l_nM1 (p := p) (p2 := (p + 1 + 1)) (v := (10 * ((10 * 0) + (ch p) - 48)) + (ch (p + 1)) - 48) hc (by omega) (by omega) (by omega) (by first | exact h2 | exact tw_upd_at) (by omega) (by omega) ⟨?_, ?_⟩
      · rw [hv]; exact congrArg (fun x => some (Value.int (nI x))) (by omega)
      · rw [hn, tw_upd2]
    · have hn := tw_nl1 d0 d1
      have hv : tw_nv ch p = 0 * 10 + ch p - 48 := by unfold tw_nv; rw [hn]; rfl
      have e0 := d0
      unfold tw_dg at e0
      rcases tw_ndg hC d1 with g1 | ⟨g1, g2⟩
      · skip
        show tw_P L xs _ 192 0 [.ref 88, .int (nI c), tw_U, tw_U] [] σ _
        refine tw_sgn 10 (i1 := 10) (ls0 := [.ref 88, .int (nI c), .int (σ 88 18), .int (nI 0)]) (st0 := [.int ((σ 88 18) + nI 2), .int (σ 88 18)]) (σ0 := σ) (ls1 := [.ref 88, .int (nI c), .int (nI p), .int (nI 0)]) (st1 := [.int (nI (p + 2)), .int (nI p)]) (σ1 := σ) rfl (by simp only [h2, h2, tw_nadd, tw_nmul]) (by simp only [h2, h2, tw_nadd, tw_nmul]) (rfl) ?_
        refine tw_biF (c := .ge) rfl (by rw [tw_cge', tw_nle (by omega) (by omega)] <;> omega) ?_
        show tw_P L xs _ 192 11 [.ref 88, .int (nI c), .int (nI p), .int (nI 0)] [] σ _
        refine tw_sg 1 (i1 := 12) (ls1 := [.ref 88, .int (nI c), .int (nI p), .int (nI 0)]) (st1 := [.ref 88]) (σ1 := σ) rfl ?_
        refine tw_cl1 rfl (rfl) (by decide) (tw_E_mono (tw_e_hre (p := p) hC (by repeat (first | exact hT | refine tw_mT.upd ?_ (by omega) (by omega))) (by first | exact h2 | exact tw_upd_at) (by omega)) (fun v σ1 h => (⟨h.1.trans (by rw [s1]), h.2⟩ : v = some (.int (nI (ch p))) ∧ σ = σ1))) ?_
        rintro _ _ ⟨rfl, rfl⟩
        show tw_P L xs _ 192 13 [.ref 88, .int (nI c), .int (nI p), .int (nI 0)] [.int (nI (ch p))] σ _
        refine tw_sg 2 (i1 := 15) (ls1 := [.ref 88, .int (nI c), .int (nI p), .int (nI 0)]) (st1 := [.int (nI 57), .int (nI 48), .int (nI (ch p))]) (σ1 := σ) rfl ?_
        refine tw_cl1 rfl (rfl) (by decide) (tw_e_in1 s2 s3) ?_
        rintro _ _ ⟨rfl, rfl⟩
        show tw_P L xs _ 192 16 [.ref 88, .int (nI c), .int (nI p), .int (nI 0)] [.int (nI 1)] σ _
        refine tw_bzF (c := .eq) rfl (by rw [tw_ceq', tw_neq (by omega) (by omega)] <;> omega) ?_
        show tw_P L xs _ 192 17 [.ref 88, .int (nI c), .int (nI p), .int (nI 0)] [] σ _
        refine tw_sgn 4 (i1 := 21) (ls0 := [.ref 88, .int (nI c), .int (nI p), .int (nI 0)]) (st0 := [.ref 88, .int (nI 10 * nI 0)]) (σ0 := σ) (ls1 := [.ref 88, .int (nI c), .int (nI p), .int (nI 0)]) (st1 := [.ref 88, .int (nI (10 * 0))]) (σ1 := σ) rfl (rfl) (by simp only [tw_nadd, tw_nmul]) (rfl) ?_
        refine tw_cl1 rfl (rfl) (by decide) (tw_E_mono (tw_e_hre (p := p) hC (by repeat (first | exact hT | refine tw_mT.upd ?_ (by omega) (by omega))) (by first | exact h2 | exact tw_upd_at) (by omega)) (fun v σ1 h => (⟨h.1.trans (by rw [s1]), h.2⟩ : v = some (.int (nI (ch p))) ∧ σ = σ1))) ?_
        rintro _ _ ⟨rfl, rfl⟩
        show tw_P L xs _ 192 22 [.ref 88, .int (nI c), .int (nI p), .int (nI 0)] [.int (nI (ch p)), .int (nI (10 * 0))] σ _
        refine tw_sgn 16 (i1 := 10) (ls0 := [.ref 88, .int (nI c), .int (nI p), .int ((nI (10 * 0) + nI (ch p)) - nI 48)]) (st0 := [.int (nI p + nI 2), .int ((σ 88 18) + nI 1)]) (σ0 := (tw_upd σ 88 18 ((σ 88 18) + nI 1))) (ls1 := [.ref 88, .int (nI c), .int (nI p), .int (nI ((10 * 0) + (ch p) - 48))]) (st1 := [.int (nI (p + 2)), .int (nI (p + 1))]) (σ1 := (tw_upd σ 88 18 (nI (p + 1)))) rfl (by simp only [tw_nsub (show 48 ≤ (10 * 0) + (ch p) by omega), h2, tw_nadd, tw_nmul]) (by simp only [tw_nsub (show 48 ≤ (10 * 0) + (ch p) by omega), h2, tw_nadd, tw_nmul]) (by simp only [tw_nsub (show 48 ≤ (10 * 0) + (ch p) by omega), h2, tw_nadd, tw_nmul]) ?_
        refine tw_biF (c := .ge) rfl (by rw [tw_cge', tw_nle (by omega) (by omega)] <;> omega) ?_
        show tw_P L xs _ 192 11 [.ref 88, .int (nI c), .int (nI p), .int (nI ((10 * 0) + (ch p) - 48))] [] (tw_upd σ 88 18 (nI (p + 1))) _
        refine tw_sg 1 (i1 := 12) (ls1 := [.ref 88, .int (nI c), .int (nI p), .int (nI ((10 * 0) + (ch p) - 48))]) (st1 := [.ref 88]) (σ1 := (tw_upd σ 88 18 (nI (p + 1)))) rfl ?_
        refine tw_cl1 rfl (rfl) (by decide) (tw_e_hre (p := (p + 1)) hC (by repeat (first | exact hT | refine tw_mT.upd ?_ (by omega) (by omega))) (by first | exact h2 | exact tw_upd_at) (by omega)) ?_
        rintro _ _ ⟨rfl, rfl⟩
        show tw_P L xs _ 192 13 [.ref 88, .int (nI c), .int (nI p), .int (nI ((10 * 0) + (ch p) - 48))] [.int (tw_hv ch (p + 1))] (tw_upd σ 88 18 (nI (p + 1))) _
        refine tw_sg 2 (i1 := 15) (ls1 := [.ref 88, .int (nI c), .int (nI p), .int (nI ((10 * 0) + (ch p) - 48))]) (st1 := [.int (nI 57), .int (nI 48), .int (tw_hv ch (p + 1))]) (σ1 := (tw_upd σ 88 18 (nI (p + 1)))) rfl ?_
        refine tw_cl1 rfl (rfl) (by decide) (tw_e_in0a g1) ?_
        rintro _ _ ⟨rfl, rfl⟩
        show tw_P L xs _ 192 16 [.ref 88, .int (nI c), .int (nI p), .int (nI ((10 * 0) + (ch p) - 48))] [.int (nI 0)] (tw_upd σ 88 18 (nI (p + 1))) _
        refine tw_bzT (c := .eq) rfl (by rw [tw_ceq, tw_neq (by omega) (by omega)] <;> omega) ?_
        show tw_P L xs _ 192 33 [.ref 88, .int (nI c), .int (nI p), .int (nI ((10 * 0) + (ch p) - 48))] [] (tw_upd σ 88 18 (nI (p + 1))) _
        refine tw_l_nM1 (p := p) (p2 := (p + 1)) (v := (10 * 0) + (ch p) - 48) hc (by omega) (by omega) (by omega) (by first | exact h2 | exact tw_upd_at) (by omega) (by omega) ⟨?_, ?_⟩
        · rw [hv]
        · rw [hn]
      · skip
        show tw_P L xs _ 192 0 [.ref 88, .int (nI c), tw_U, tw_U] [] σ _
        refine tw_sgn 10 (i1 := 10) (ls0 := [.ref 88, .int (nI c), .int (σ 88 18), .int (nI 0)]) (st0 := [.int ((σ 88 18) + nI 2), .int (σ 88 18)]) (σ0 := σ) (ls1 := [.ref 88, .int (nI c), .int (nI p), .int (nI 0)]) (st1 := [.int (nI (p + 2)), .int (nI p)]) (σ1 := σ) rfl (by simp only [h2, h2, tw_nadd, tw_nmul]) (by simp only [h2, h2, tw_nadd, tw_nmul]) (rfl) ?_
        refine tw_biF (c := .ge) rfl (by rw [tw_cge', tw_nle (by omega) (by omega)] <;> omega) ?_
        show tw_P L xs _ 192 11 [.ref 88, .int (nI c), .int (nI p), .int (nI 0)] [] σ _
        refine tw_sg 1 (i1 := 12) (ls1 := [.ref 88, .int (nI c), .int (nI p), .int (nI 0)]) (st1 := [.ref 88]) (σ1 := σ) rfl ?_
        refine tw_cl1 rfl (rfl) (by decide) (tw_E_mono (tw_e_hre (p := p) hC (by repeat (first | exact hT | refine tw_mT.upd ?_ (by omega) (by omega))) (by first | exact h2 | exact tw_upd_at) (by omega)) (fun v σ1 h => (⟨h.1.trans (by rw [s1]), h.2⟩ : v = some (.int (nI (ch p))) ∧ σ = σ1))) ?_
        rintro _ _ ⟨rfl, rfl⟩
        show tw_P L xs _ 192 13 [.ref 88, .int (nI c), .int (nI p), .int (nI 0)] [.int (nI (ch p))] σ _
        refine tw_sg 2 (i1 := 15) (ls1 := [.ref 88, .int (nI c), .int (nI p), .int (nI 0)]) (st1 := [.int (nI 57), .int (nI 48), .int (nI (ch p))]) (σ1 := σ) rfl ?_
        refine tw_cl1 rfl (rfl) (by decide) (tw_e_in1 s2 s3) ?_
        rintro _ _ ⟨rfl, rfl⟩
        show tw_P L xs _ 192 16 [.ref 88, .int (nI c), .int (nI p), .int (nI 0)] [.int (nI 1)] σ _
        refine tw_bzF (c := .eq) rfl (by rw [tw_ceq', tw_neq (by omega) (by omega)] <;> omega) ?_
        show tw_P L xs _ 192 17 [.ref 88, .int (nI c), .int (nI p), .int (nI 0)] [] σ _
        refine tw_sgn 4 (i1 := 21) (ls0 := [.ref 88, .int (nI c), .int (nI p), .int (nI 0)]) (st0 := [.ref 88, .int (nI 10 * nI 0)]) (σ0 := σ) (ls1 := [.ref 88, .int (nI c), .int (nI p), .int (nI 0)]) (st1 := [.ref 88, .int (nI (10 * 0))]) (σ1 := σ) rfl (rfl) (by simp only [tw_nadd, tw_nmul]) (rfl) ?_
        refine tw_cl1 rfl (rfl) (by decide) (tw_E_mono (tw_e_hre (p := p) hC (by repeat (first | exact hT | refine tw_mT.upd ?_ (by omega) (by omega))) (by first | exact h2 | exact tw_upd_at) (by omega)) (fun v σ1 h => (⟨h.1.trans (by rw [s1]), h.2⟩ : v = some (.int (nI (ch p))) ∧ σ = σ1))) ?_
        rintro _ _ ⟨rfl, rfl⟩
        show tw_P L xs _ 192 22 [.ref 88, .int (nI c), .int (nI p), .int (nI 0)] [.int (nI (ch p)), .int (nI (10 * 0))] σ _
        refine tw_sgn 16 (i1 := 10) (ls0 := [.ref 88, .int (nI c), .int (nI p), .int ((nI (10 * 0) + nI (ch p)) - nI 48)]) (st0 := [.int (nI p + nI 2), .int ((σ 88 18) + nI 1)]) (σ0 := (tw_upd σ 88 18 ((σ 88 18) + nI 1))) (ls1 := [.ref 88, .int (nI c), .int (nI p), .int (nI ((10 * 0) + (ch p) - 48))]) (st1 := [.int (nI (p + 2)), .int (nI (p + 1))]) (σ1 := (tw_upd σ 88 18 (nI (p + 1)))) rfl (by simp only [tw_nsub (show 48 ≤ (10 * 0) + (ch p) by omega), h2, tw_nadd, tw_nmul]) (by simp only [tw_nsub (show 48 ≤ (10 * 0) + (ch p) by omega), h2, tw_nadd, tw_nmul]) (by simp only [tw_nsub (show 48 ≤ (10 * 0) + (ch p) by omega), h2, tw_nadd, tw_nmul]) ?_
        refine tw_biF (c := .ge) rfl (by rw [tw_cge', tw_nle (by omega) (by omega)] <;> omega) ?_
        show tw_P L xs _ 192 11 [.ref 88, .int (nI c), .int (nI p), .int (nI ((10 * 0) + (ch p) - 48))] [] (tw_upd σ 88 18 (nI (p + 1))) _
        refine tw_sg 1 (i1 := 12) (ls1 := [.ref 88, .int (nI c), .int (nI p), .int (nI ((10 * 0) + (ch p) - 48))]) (st1 := [.ref 88]) (σ1 := (tw_upd σ 88 18 (nI (p + 1)))) rfl ?_
        refine tw_cl1 rfl (rfl) (by decide) (tw_e_hre (p := (p + 1)) hC (by repeat (first | exact hT | refine tw_mT.upd ?_ (by omega) (by omega))) (by first | exact h2 | exact tw_upd_at) (by omega)) ?_
        rintro _ _ ⟨rfl, rfl⟩
        show tw_P L xs _ 192 13 [.ref 88, .int (nI c), .int (nI p), .int (nI ((10 * 0) + (ch p) - 48))] [.int (tw_hv ch (p + 1))] (tw_upd σ 88 18 (nI (p + 1))) _
        refine tw_sg 2 (i1 := 15) (ls1 := [.ref 88, .int (nI c), .int (nI p), .int (nI ((10 * 0) + (ch p) - 48))]) (st1 := [.int (nI 57), .int (nI 48), .int (tw_hv ch (p + 1))]) (σ1 := (tw_upd σ 88 18 (nI (p + 1)))) rfl ?_
        refine tw_cl1 rfl (rfl) (by decide) (tw_e_in0b g1 g2) ?_
        rintro _ _ ⟨rfl, rfl⟩
        show tw_P L xs _ 192 16 [.ref 88, .int (nI c), .int (nI p), .int (nI ((10 * 0) + (ch p) - 48))] [.int (nI 0)] (tw_upd σ 88 18 (nI (p + 1))) _
        refine tw_bzT (c := .eq) rfl (by rw [tw_ceq, tw_neq (by omega) (by omega)] <;> omega) ?_
        show tw_P L xs _ 192 33 [.ref 88, .int (nI c), .int (nI p), .int (nI ((10 * 0) + (ch p) - 48))] [] (tw_upd σ 88 18 (nI (p + 1))) _
        refine tw_l_nM1 (p := p) (p2 := (p + 1)) (v := (10 * 0) + (ch p) - 48) hc (by omega) (by omega) (by omega) (by first | exact h2 | exact tw_upd_at) (by omega) (by omega) ⟨?_, ?_⟩
        · rw [hv]
        · rw [hn]
  · have hn := tw_nl0 d0
    have hv : tw_nv ch p = 0 := by unfold tw_nv; rw [hn]; rfl
    rcases tw_ndg hC d0 with g1 | ⟨g1, g2⟩
    · skip
      show tw_P L xs _ 192 0 [.ref 88, .int (nI c), tw_U, tw_U] [] σ _
      refine tw_sgn 10 (i1 := 10) (ls0 := [.ref 88, .int (nI c), .int (σ 88 18), .int (nI 0)]) (st0 := [.int ((σ 88 18) + nI 2), .int (σ 88 18)]) (σ0 := σ) (ls1 := [.ref 88, .int (nI c), .int (nI p), .int (nI 0)]) (st1 := [.int (nI (p + 2)), .int (nI p)]) (σ1 := σ) rfl (by simp only [h2, h2, tw_nadd, tw_nmul]) (by simp only [h2, h2, tw_nadd, tw_nmul]) (rfl) ?_
      refine tw_biF (c := .ge) rfl (by rw [tw_cge', tw_nle (by omega) (by omega)] <;> omega) ?_
      show tw_P L xs _ 192 11 [.ref 88, .int (nI c), .int (nI p), .int (nI 0)] [] σ _
      refine tw_sg 1 (i1 := 12) (ls1 := [.ref 88, .int (nI c), .int (nI p), .int (nI 0)]) (st1 := [.ref 88]) (σ1 := σ) rfl ?_
      refine tw_cl1 rfl (rfl) (by decide) (tw_e_hre (p := p) hC (by repeat (first | exact hT | refine tw_mT.upd ?_ (by omega) (by omega))) (by first | exact h2 | exact tw_upd_at) (by omega)) ?_
      rintro _ _ ⟨rfl, rfl⟩
      show tw_P L xs _ 192 13 [.ref 88, .int (nI c), .int (nI p), .int (nI 0)] [.int (tw_hv ch p)] σ _
      refine tw_sg 2 (i1 := 15) (ls1 := [.ref 88, .int (nI c), .int (nI p), .int (nI 0)]) (st1 := [.int (nI 57), .int (nI 48), .int (tw_hv ch p)]) (σ1 := σ) rfl ?_
      refine tw_cl1 rfl (rfl) (by decide) (tw_e_in0a g1) ?_
      rintro _ _ ⟨rfl, rfl⟩
      show tw_P L xs _ 192 16 [.ref 88, .int (nI c), .int (nI p), .int (nI 0)] [.int (nI 0)] σ _
      refine tw_bzT (c := .eq) rfl (by rw [tw_ceq, tw_neq (by omega) (by omega)] <;> omega) ?_
      show tw_P L xs _ 192 33 [.ref 88, .int (nI c), .int (nI p), .int (nI 0)] [] σ _
      refine tw_l_nM1 (p := p) (p2 := p) (v := 0) hc (by omega) (by omega) (by omega) (by first | exact h2 | exact tw_upd_at) (by omega) (by omega) ⟨?_, ?_⟩
      · rw [hv]
      · rw [hn, show p + 0 = p from rfl, tw_upd_id h2]
    · skip
      show tw_P L xs _ 192 0 [.ref 88, .int (nI c), tw_U, tw_U] [] σ _
      refine tw_sgn 10 (i1 := 10) (ls0 := [.ref 88, .int (nI c), .int (σ 88 18), .int (nI 0)]) (st0 := [.int ((σ 88 18) + nI 2), .int (σ 88 18)]) (σ0 := σ) (ls1 := [.ref 88, .int (nI c), .int (nI p), .int (nI 0)]) (st1 := [.int (nI (p + 2)), .int (nI p)]) (σ1 := σ) rfl (by simp only [h2, h2, tw_nadd, tw_nmul]) (by simp only [h2, h2, tw_nadd, tw_nmul]) (rfl) ?_
      refine tw_biF (c := .ge) rfl (by rw [tw_cge', tw_nle (by omega) (by omega)] <;> omega) ?_
      show tw_P L xs _ 192 11 [.ref 88, .int (nI c), .int (nI p), .int (nI 0)] [] σ _
      refine tw_sg 1 (i1 := 12) (ls1 := [.ref 88, .int (nI c), .int (nI p), .int (nI 0)]) (st1 := [.ref 88]) (σ1 := σ) rfl ?_
      refine tw_cl1 rfl (rfl) (by decide) (tw_e_hre (p := p) hC (by repeat (first | exact hT | refine tw_mT.upd ?_ (by omega) (by omega))) (by first | exact h2 | exact tw_upd_at) (by omega)) ?_
      rintro _ _ ⟨rfl, rfl⟩
      show tw_P L xs _ 192 13 [.ref 88, .int (nI c), .int (nI p), .int (nI 0)] [.int (tw_hv ch p)] σ _
      refine tw_sg 2 (i1 := 15) (ls1 := [.ref 88, .int (nI c), .int (nI p), .int (nI 0)]) (st1 := [.int (nI 57), .int (nI 48), .int (tw_hv ch p)]) (σ1 := σ) rfl ?_
      refine tw_cl1 rfl (rfl) (by decide) (tw_e_in0b g1 g2) ?_
      rintro _ _ ⟨rfl, rfl⟩
      show tw_P L xs _ 192 16 [.ref 88, .int (nI c), .int (nI p), .int (nI 0)] [.int (nI 0)] σ _
      refine tw_bzT (c := .eq) rfl (by rw [tw_ceq, tw_neq (by omega) (by omega)] <;> omega) ?_
      show tw_P L xs _ 192 33 [.ref 88, .int (nI c), .int (nI p), .int (nI 0)] [] σ _
      refine tw_l_nM1 (p := p) (p2 := p) (v := 0) hc (by omega) (by omega) (by omega) (by first | exact h2 | exact tw_upd_at) (by omega) (by omega) ⟨?_, ?_⟩
      · rw [hv]
      · rw [hn, show p + 0 = p from rfl, tw_upd_id h2]
set_option maxHeartbeats 4000000 in
set_option maxRecDepth 100000 in
theorem tw_m_num0 {ch : Nat → Nat} {k p : Nat} (hC : tw_chs ch k) (hT : tw_mT ch k σ) (h2 : σ 88 18 = nI p) (hp : p ≤ 90) (hc : c < 128) (hok : tw_nl ch p = 0 ∨ tw_nv ch p < c) (h3 : σ 88 19 = (-1)) : tw_E L xs 2 192 [.ref 88, .int (nI c)] σ (fun v τ => v = some (.int (nI (tw_nv ch p))) ∧ τ = tw_upd (tw_upd σ 88 18 (nI (p + tw_nl ch p))) 88 19 (nI p)) := by
  have b0 := tw_ch_lt hC p
  have b1 := tw_ch_lt hC (p + 1)
  by_cases d0 : tw_dg (ch p)
  · obtain ⟨s1, s2, s3⟩ := tw_isdg hC d0
    by_cases d1 : tw_dg (ch (p + 1))
    · obtain ⟨t1, t2, t3⟩ := tw_isdg hC d1
      have hn := tw_nl2 d0 d1
      have hv : tw_nv ch p = (0 * 10 + ch p - 48) * 10 + ch (p + 1) - 48 := by unfold tw_nv; rw [hn]; rfl
      unfold tw_dg at d0 d1
      show tw_P L xs _ 192 0 [.ref 88, .int (nI c), tw_U, tw_U] [] σ _
      refine tw_sgn 10 (i1 := 10) (ls0 := [.ref 88, .int (nI c), .int (σ 88 18), .int (nI 0)]) (st0 := [.int ((σ 88 18) + nI 2), .int (σ 88 18)]) (σ0 := σ) (ls1 := [.ref 88, .int (nI c), .int (nI p), .int (nI 0)]) (st1 := [.int (nI (p + 2)), .int (nI p)]) (σ1 := σ) rfl (by simp only [h2, h2, tw_nadd, tw_nmul]) (by simp only [h2, h2, tw_nadd, tw_nmul]) (rfl) ?_
      refine tw_biF (c := .ge) rfl (by rw [tw_cge', tw_nle (by omega) (by omega)] <;> omega) ?_
      show tw_P L xs _ 192 11 [.ref 88, .int (nI c), .int (nI p), .int (nI 0)] [] σ _
      refine tw_sg 1 (i1 := 12) (ls1 := [.ref 88, .int (nI c), .int (nI p), .int (nI 0)]) (st1 := [.ref 88]) (σ1 := σ) rfl ?_
      refine tw_cl1 rfl (rfl) (by decide) (tw_E_mono (tw_e_hre (p := p) hC (by repeat (first | exact hT | refine tw_mT.upd ?_ (by omega) (by omega))) (by first | exact h2 | exact tw_upd_at) (by omega)) (fun v σ1 h => (⟨h.1.trans (by rw [s1]), h.2⟩ : v = some (.int (nI (ch p))) ∧ σ = σ1))) ?_
      rintro _ _ ⟨rfl, rfl⟩
      show tw_P L xs _ 192 13 [.ref 88, .int (nI c), .int (nI p), .int (nI 0)] [.int (nI (ch p))] σ _
      refine tw_sg 2 (i1 := 15) (ls1 := [.ref 88, .int (nI c), .int (nI p), .int (nI 0)]) (st1 := [.int (nI 57), .int (nI 48), .int (nI (ch p))]) (σ1 := σ) rfl ?_
      refine tw_cl1 rfl (rfl) (by decide) (tw_e_in1 s2 s3) ?_
      rintro _ _ ⟨rfl, rfl⟩
      show tw_P L xs _ 192 16 [.ref 88, .int (nI c), .int (nI p), .int (nI 0)] [.int (nI 1)] σ _
      refine tw_bzF (c := .eq) rfl (by rw [tw_ceq', tw_neq (by omega) (by omega)] <;> omega) ?_
      show tw_P L xs _ 192 17 [.ref 88, .int (nI c), .int (nI p), .int (nI 0)] [] σ _
      refine tw_sgn 4 (i1 := 21) (ls0 := [.ref 88, .int (nI c), .int (nI p), .int (nI 0)]) (st0 := [.ref 88, .int (nI 10 * nI 0)]) (σ0 := σ) (ls1 := [.ref 88, .int (nI c), .int (nI p), .int (nI 0)]) (st1 := [.ref 88, .int (nI (10 * 0))]) (σ1 := σ) rfl (rfl) (by simp only [tw_nadd, tw_nmul]) (rfl) ?_
      refine tw_cl1 rfl (rfl) (by decide) (tw_E_mono (tw_e_hre (p := p) hC (by repeat (first | exact hT | refine tw_mT.upd ?_ (by omega) (by omega))) (by first | exact h2 | exact tw_upd_at) (by omega)) (fun v σ1 h => (⟨h.1.trans (by rw [s1]), h.2⟩ : v = some (.int (nI (ch p))) ∧ σ = σ1))) ?_
      rintro _ _ ⟨rfl, rfl⟩
      show tw_P L xs _ 192 22 [.ref 88, .int (nI c), .int (nI p), .int (nI 0)] [.int (nI (ch p)), .int (nI (10 * 0))] σ _
      refine tw_sgn 16 (i1 := 10) (ls0 := [.ref 88, .int (nI c), .int (nI p), .int ((nI (10 * 0) + nI (ch p)) - nI 48)]) (st0 := [.int (nI p + nI 2), .int ((σ 88 18) + nI 1)]) (σ0 := (tw_upd σ 88 18 ((σ 88 18) + nI 1))) (ls1 := [.ref 88, .int (nI c), .int (nI p), .int (nI ((10 * 0) + (ch p) - 48))]) (st1 := [.int (nI (p + 2)), .int (nI (p + 1))]) (σ1 := (tw_upd σ 88 18 (nI (p + 1)))) rfl (by simp only [tw_nsub (show 48 ≤ (10 * 0) + (ch p) by omega), h2, tw_nadd, tw_nmul]) (by simp only [tw_nsub (show 48 ≤ (10 * 0) + (ch p) by omega), h2, tw_nadd, tw_nmul]) (by simp only [tw_nsub (show 48 ≤ (10 * 0) + (ch p) by omega), h2, tw_nadd, tw_nmul]) ?_
      refine tw_biF (c := .ge) rfl (by rw [tw_cge', tw_nle (by omega) (by omega)] <;> omega) ?_
      show tw_P L xs _ 192 11 [.ref 88, .int (nI c), .int (nI p), .int (nI ((10 * 0) + (ch p) - 48))] [] (tw_upd σ 88 18 (nI (p + 1))) _
      refine tw_sg 1 (i1 := 12) (ls1 := [.ref 88, .int (nI c), .int (nI p), .int (nI ((10 * 0) + (ch p) - 48))]) (st1 := [.ref 88]) (σ1 := (tw_upd σ 88 18 (nI (p + 1)))) rfl ?_
      refine tw_cl1 rfl (rfl) (by decide) (tw_E_mono (tw_e_hre (p := (p + 1)) hC (by repeat (first | exact hT | refine tw_mT.upd ?_ (by omega) (by omega))) (by first | exact h2 | exact tw_upd_at) (by omega)) (fun v σ1 h => (⟨h.1.trans (by rw [t1]), h.2⟩ : v = some (.int (nI (ch (p + 1)))) ∧ (tw_upd σ 88 18 (nI (p + 1))) = σ1))) ?_
      rintro _ _ ⟨rfl, rfl⟩
      show tw_P L xs _ 192 13 [.ref 88, .int (nI c), .int (nI p), .int (nI ((10 * 0) + (ch p) - 48))] [.int (nI (ch (p + 1)))] (tw_upd σ 88 18 (nI (p + 1))) _
      refine tw_sg 2 (i1 := 15) (ls1 := [.ref 88, .int (nI c), .int (nI p), .int (nI ((10 * 0) + (ch p) - 48))]) (st1 := [.int (nI 57), .int (nI 48), .int (nI (ch (p + 1)))]) (σ1 := (tw_upd σ 88 18 (nI (p + 1)))) rfl ?_
      refine tw_cl1 rfl (rfl) (by decide) (tw_e_in1 t2 t3) ?_
      rintro _ _ ⟨rfl, rfl⟩
      show tw_P L xs _ 192 16 [.ref 88, .int (nI c), .int (nI p), .int (nI ((10 * 0) + (ch p) - 48))] [.int (nI 1)] (tw_upd σ 88 18 (nI (p + 1))) _
      refine tw_bzF (c := .eq) rfl (by rw [tw_ceq', tw_neq (by omega) (by omega)] <;> omega) ?_
      show tw_P L xs _ 192 17 [.ref 88, .int (nI c), .int (nI p), .int (nI ((10 * 0) + (ch p) - 48))] [] (tw_upd σ 88 18 (nI (p + 1))) _
      refine tw_sgn 4 (i1 := 21) (ls0 := [.ref 88, .int (nI c), .int (nI p), .int (nI ((10 * 0) + (ch p) - 48))]) (st0 := [.ref 88, .int (nI 10 * nI ((10 * 0) + (ch p) - 48))]) (σ0 := (tw_upd σ 88 18 (nI (p + 1)))) (ls1 := [.ref 88, .int (nI c), .int (nI p), .int (nI ((10 * 0) + (ch p) - 48))]) (st1 := [.ref 88, .int (nI (10 * ((10 * 0) + (ch p) - 48)))]) (σ1 := (tw_upd σ 88 18 (nI (p + 1)))) rfl (rfl) (by simp only [tw_nadd, tw_nmul]) (rfl) ?_
      refine tw_cl1 rfl (rfl) (by decide) (tw_E_mono (tw_e_hre (p := (p + 1)) hC (by repeat (first | exact hT | refine tw_mT.upd ?_ (by omega) (by omega))) (by first | exact h2 | exact tw_upd_at) (by omega)) (fun v σ1 h => (⟨h.1.trans (by rw [t1]), h.2⟩ : v = some (.int (nI (ch (p + 1)))) ∧ (tw_upd σ 88 18 (nI (p + 1))) = σ1))) ?_
      rintro _ _ ⟨rfl, rfl⟩
      show tw_P L xs _ 192 22 [.ref 88, .int (nI c), .int (nI p), .int (nI ((10 * 0) + (ch p) - 48))] [.int (nI (ch (p + 1))), .int (nI (10 * ((10 * 0) + (ch p) - 48)))] (tw_upd σ 88 18 (nI (p + 1))) _
      refine tw_sgn 16 (i1 := 10) (ls0 := [.ref 88, .int (nI c), .int (nI p), .int ((nI (10 * ((10 * 0) + (ch p) - 48)) + nI (ch (p + 1))) - nI 48)]) (st0 := [.int (nI p + nI 2), .int (nI (p + 1) + nI 1)]) (σ0 := (tw_upd (tw_upd σ 88 18 (nI (p + 1))) 88 18 (nI (p + 1) + nI 1))) (ls1 := [.ref 88, .int (nI c), .int (nI p), .int (nI ((10 * ((10 * 0) + (ch p) - 48)) + (ch (p + 1)) - 48))]) (st1 := [.int (nI (p + 2)), .int (nI ((p + 1) + 1))]) (σ1 := (tw_upd (tw_upd σ 88 18 (nI (p + 1))) 88 18 (nI ((p + 1) + 1)))) rfl (by simp only [tw_nsub (show 48 ≤ (10 * ((10 * 0) + (ch p) - 48)) + (ch (p + 1)) by omega), tw_nadd, tw_nmul]) (by simp only [tw_nsub (show 48 ≤ (10 * ((10 * 0) + (ch p) - 48)) + (ch (p + 1)) by omega), tw_nadd, tw_nmul]) (by simp only [tw_nsub (show 48 ≤ (10 * ((10 * 0) + (ch p) - 48)) + (ch (p + 1)) by omega), tw_nadd, tw_nmul]) ?_
      refine tw_biT (c := .ge) rfl (by rw [tw_cge, tw_nle (by omega) (by omega)] <;> omega) ?_
      show tw_P L xs _ 192 33 [.ref 88, .int (nI c), .int (nI p), .int (nI ((10 * ((10 * 0) + (ch p) - 48)) + (ch (p + 1)) - 48))] [] (tw_upd (tw_upd σ 88 18 (nI (p + 1))) 88 18 (nI ((p + 1) + 1))) _
      refine tw_l_nM0 (p := p) (p2 := (p + 1 + 1)) (v := (10 * ((10 * 0) + (ch p) - 48)) + (ch (p + 1)) - 48) hc (by omega) (by omega) (by omega) (by first | exact h2 | exact tw_upd_at) (by repeat (first | exact h3 | rw [tw_upd_off (by omega)])) (by omega) ⟨?_, ?_⟩
      · rw [hv]; exact congrArg (fun x => some (Value.int (nI x))) (by omega)
      · rw [hn, tw_upd2]
    · have hn := tw_nl1 d0 d1
      have hv : tw_nv ch p = 0 * 10 + ch p - 48 := by unfold tw_nv; rw [hn]; rfl
      have e0 := d0
      unfold tw_dg at e0
      rcases tw_ndg hC d1 with g1 | ⟨g1, g2⟩
      · skip
        show tw_P L xs _ 192 0 [.ref 88, .int (nI c), tw_U, tw_U] [] σ _
        refine tw_sgn 10 (i1 := 10) (ls0 := [.ref 88, .int (nI c), .int (σ 88 18), .int (nI 0)]) (st0 := [.int ((σ 88 18) + nI 2), .int (σ 88 18)]) (σ0 := σ) (ls1 := [.ref 88, .int (nI c), .int (nI p), .int (nI 0)]) (st1 := [.int (nI (p + 2)), .int (nI p)]) (σ1 := σ) rfl (by simp only [h2, h2, tw_nadd, tw_nmul]) (by simp only [h2, h2, tw_nadd, tw_nmul]) (rfl) ?_
        refine tw_biF (c := .ge) rfl (by rw [tw_cge', tw_nle (by omega) (by omega)] <;> omega) ?_
        show tw_P L xs _ 192 11 [.ref 88, .int (nI c), .int (nI p), .int (nI 0)] [] σ _
        refine tw_sg 1 (i1 := 12) (ls1 := [.ref 88, .int (nI c), .int (nI p), .int (nI 0)]) (st1 := [.ref 88]) (σ1 := σ) rfl ?_
        refine tw_cl1 rfl (rfl) (by decide) (tw_E_mono (tw_e_hre (p := p) hC (by repeat (first | exact hT | refine tw_mT.upd ?_ (by omega) (by omega))) (by first | exact h2 | exact tw_upd_at) (by omega)) (fun v σ1 h => (⟨h.1.trans (by rw [s1]), h.2⟩ : v = some (.int (nI (ch p))) ∧ σ = σ1))) ?_
        rintro _ _ ⟨rfl, rfl⟩
        show tw_P L xs _ 192 13 [.ref 88, .int (nI c), .int (nI p), .int (nI 0)] [.int (nI (ch p))] σ _
        refine tw_sg 2 (i1 := 15) (ls1 := [.ref 88, .int (nI c), .int (nI p), .int (nI 0)]) (st1 := [.int (nI 57), .int (nI 48), .int (nI (ch p))]) (σ1 := σ) rfl ?_
        refine tw_cl1 rfl (rfl) (by decide) (tw_e_in1 s2 s3) ?_
        rintro _ _ ⟨rfl, rfl⟩
        show tw_P L xs _ 192 16 [.ref 88, .int (nI c), .int (nI p), .int (nI 0)] [.int (nI 1)] σ _
        refine tw_bzF (c := .eq) rfl (by rw [tw_ceq', tw_neq (by omega) (by omega)] <;> omega) ?_
        show tw_P L xs _ 192 17 [.ref 88, .int (nI c), .int (nI p), .int (nI 0)] [] σ _
        refine tw_sgn 4 (i1 := 21) (ls0 := [.ref 88, .int (nI c), .int (nI p), .int (nI 0)]) (st0 := [.ref 88, .int (nI 10 * nI 0)]) (σ0 := σ) (ls1 := [.ref 88, .int (nI c), .int (nI p), .int (nI 0)]) (st1 := [.ref 88, .int (nI (10 * 0))]) (σ1 := σ) rfl (rfl) (by simp only [tw_nadd, tw_nmul]) (rfl) ?_
        refine tw_cl1 rfl (rfl) (by decide) (tw_E_mono (tw_e_hre (p := p) hC (by repeat (first | exact hT | refine tw_mT.upd ?_ (by omega) (by omega))) (by first | exact h2 | exact tw_upd_at) (by omega)) (fun v σ1 h => (⟨h.1.trans (by rw [s1]), h.2⟩ : v = some (.int (nI (ch p))) ∧ σ = σ1))) ?_
        rintro _ _ ⟨rfl, rfl⟩
        show tw_P L xs _ 192 22 [.ref 88, .int (nI c), .int (nI p), .int (nI 0)] [.int (nI (ch p)), .int (nI (10 * 0))] σ _
        refine tw_sgn 16 (i1 := 10) (ls0 := [.ref 88, .int (nI c), .int (nI p), .int ((nI (10 * 0) + nI (ch p)) - nI 48)]) (st0 := [.int (nI p + nI 2), .int ((σ 88 18) + nI 1)]) (σ0 := (tw_upd σ 88 18 ((σ 88 18) + nI 1))) (ls1 := [.ref 88, .int (nI c), .int (nI p), .int (nI ((10 * 0) + (ch p) - 48))]) (st1 := [.int (nI (p + 2)), .int (nI (p + 1))]) (σ1 := (tw_upd σ 88 18 (nI (p + 1)))) rfl (by simp only [tw_nsub (show 48 ≤ (10 * 0) + (ch p) by omega), h2, tw_nadd, tw_nmul]) (by simp only [tw_nsub (show 48 ≤ (10 * 0) + (ch p) by omega), h2, tw_nadd, tw_nmul]) (by simp only [tw_nsub (show 48 ≤ (10 * 0) + (ch p) by omega), h2, tw_nadd, tw_nmul]) ?_
        refine tw_biF (c := .ge) rfl (by rw [tw_cge', tw_nle (by omega) (by omega)] <;> omega) ?_
        show tw_P L xs _ 192 11 [.ref 88, .int (nI c), .int (nI p), .int (nI ((10 * 0) + (ch p) - 48))] [] (tw_upd σ 88 18 (nI (p + 1))) _
        refine tw_sg 1 (i1 := 12) (ls1 := [.ref 88, .int (nI c), .int (nI p), .int (nI ((10 * 0) + (ch p) - 48))]) (st1 := [.ref 88]) (σ1 := (tw_upd σ 88 18 (nI (p + 1)))) rfl ?_
        refine tw_cl1 rfl (rfl) (by decide) (tw_e_hre (p := (p + 1)) hC (by repeat (first | exact hT | refine tw_mT.upd ?_ (by omega) (by omega))) (by first | exact h2 | exact tw_upd_at) (by omega)) ?_
        rintro _ _ ⟨rfl, rfl⟩
        show tw_P L xs _ 192 13 [.ref 88, .int (nI c), .int (nI p), .int (nI ((10 * 0) + (ch p) - 48))] [.int (tw_hv ch (p + 1))] (tw_upd σ 88 18 (nI (p + 1))) _
        refine tw_sg 2 (i1 := 15) (ls1 := [.ref 88, .int (nI c), .int (nI p), .int (nI ((10 * 0) + (ch p) - 48))]) (st1 := [.int (nI 57), .int (nI 48), .int (tw_hv ch (p + 1))]) (σ1 := (tw_upd σ 88 18 (nI (p + 1)))) rfl ?_
        refine tw_cl1 rfl (rfl) (by decide) (tw_e_in0a g1) ?_
        rintro _ _ ⟨rfl, rfl⟩
        show tw_P L xs _ 192 16 [.ref 88, .int (nI c), .int (nI p), .int (nI ((10 * 0) + (ch p) - 48))] [.int (nI 0)] (tw_upd σ 88 18 (nI (p + 1))) _
        refine tw_bzT (c := .eq) rfl (by rw [tw_ceq, tw_neq (by omega) (by omega)] <;> omega) ?_
        show tw_P L xs _ 192 33 [.ref 88, .int (nI c), .int (nI p), .int (nI ((10 * 0) + (ch p) - 48))] [] (tw_upd σ 88 18 (nI (p + 1))) _
        refine tw_l_nM0 (p := p) (p2 := (p + 1)) (v := (10 * 0) + (ch p) - 48) hc (by omega) (by omega) (by omega) (by first | exact h2 | exact tw_upd_at) (by repeat (first | exact h3 | rw [tw_upd_off (by omega)])) (by omega) ⟨?_, ?_⟩
        · rw [hv]
        · rw [hn]
      · skip
        show tw_P L xs _ 192 0 [.ref 88, .int (nI c), tw_U, tw_U] [] σ _
        refine tw_sgn 10 (i1 := 10) (ls0 := [.ref 88, .int (nI c), .int (σ 88 18), .int (nI 0)]) (st0 := [.int ((σ 88 18) + nI 2), .int (σ 88 18)]) (σ0 := σ) (ls1 := [.ref 88, .int (nI c), .int (nI p), .int (nI 0)]) (st1 := [.int (nI (p + 2)), .int (nI p)]) (σ1 := σ) rfl (by simp only [h2, h2, tw_nadd, tw_nmul]) (by simp only [h2, h2, tw_nadd, tw_nmul]) (rfl) ?_
        refine tw_biF (c := .ge) rfl (by rw [tw_cge', tw_nle (by omega) (by omega)] <;> omega) ?_
        show tw_P L xs _ 192 11 [.ref 88, .int (nI c), .int (nI p), .int (nI 0)] [] σ _
        refine tw_sg 1 (i1 := 12) (ls1 := [.ref 88, .int (nI c), .int (nI p), .int (nI 0)]) (st1 := [.ref 88]) (σ1 := σ) rfl ?_
        refine tw_cl1 rfl (rfl) (by decide) (tw_E_mono (tw_e_hre (p := p) hC (by repeat (first | exact hT | refine tw_mT.upd ?_ (by omega) (by omega))) (by first | exact h2 | exact tw_upd_at) (by omega)) (fun v σ1 h => (⟨h.1.trans (by rw [s1]), h.2⟩ : v = some (.int (nI (ch p))) ∧ σ = σ1))) ?_
        rintro _ _ ⟨rfl, rfl⟩
        show tw_P L xs _ 192 13 [.ref 88, .int (nI c), .int (nI p), .int (nI 0)] [.int (nI (ch p))] σ _
        refine tw_sg 2 (i1 := 15) (ls1 := [.ref 88, .int (nI c), .int (nI p), .int (nI 0)]) (st1 := [.int (nI 57), .int (nI 48), .int (nI (ch p))]) (σ1 := σ) rfl ?_
        refine tw_cl1 rfl (rfl) (by decide) (tw_e_in1 s2 s3) ?_
        rintro _ _ ⟨rfl, rfl⟩
        show tw_P L xs _ 192 16 [.ref 88, .int (nI c), .int (nI p), .int (nI 0)] [.int (nI 1)] σ _
        refine tw_bzF (c := .eq) rfl (by rw [tw_ceq', tw_neq (by omega) (by omega)] <;> omega) ?_
        show tw_P L xs _ 192 17 [.ref 88, .int (nI c), .int (nI p), .int (nI 0)] [] σ _
        refine tw_sgn 4 (i1 := 21) (ls0 := [.ref 88, .int (nI c), .int (nI p), .int (nI 0)]) (st0 := [.ref 88, .int (nI 10 * nI 0)]) (σ0 := σ) (ls1 := [.ref 88, .int (nI c), .int (nI p), .int (nI 0)]) (st1 := [.ref 88, .int (nI (10 * 0))]) (σ1 := σ) rfl (rfl) (by simp only [tw_nadd, tw_nmul]) (rfl) ?_
        refine tw_cl1 rfl (rfl) (by decide) (tw_E_mono (tw_e_hre (p := p) hC (by repeat (first | exact hT | refine tw_mT.upd ?_ (by omega) (by omega))) (by first | exact h2 | exact tw_upd_at) (by omega)) (fun v σ1 h => (⟨h.1.trans (by rw [s1]), h.2⟩ : v = some (.int (nI (ch p))) ∧ σ = σ1))) ?_
        rintro _ _ ⟨rfl, rfl⟩
        show tw_P L xs _ 192 22 [.ref 88, .int (nI c), .int (nI p), .int (nI 0)] [.int (nI (ch p)), .int (nI (10 * 0))] σ _
        refine tw_sgn 16 (i1 := 10) (ls0 := [.ref 88, .int (nI c), .int (nI p), .int ((nI (10 * 0) + nI (ch p)) - nI 48)]) (st0 := [.int (nI p + nI 2), .int ((σ 88 18) + nI 1)]) (σ0 := (tw_upd σ 88 18 ((σ 88 18) + nI 1))) (ls1 := [.ref 88, .int (nI c), .int (nI p), .int (nI ((10 * 0) + (ch p) - 48))]) (st1 := [.int (nI (p + 2)), .int (nI (p + 1))]) (σ1 := (tw_upd σ 88 18 (nI (p + 1)))) rfl (by simp only [tw_nsub (show 48 ≤ (10 * 0) + (ch p) by omega), h2, tw_nadd, tw_nmul]) (by simp only [tw_nsub (show 48 ≤ (10 * 0) + (ch p) by omega), h2, tw_nadd, tw_nmul]) (by simp only [tw_nsub (show 48 ≤ (10 * 0) + (ch p) by omega), h2, tw_nadd, tw_nmul]) ?_
        refine tw_biF (c := .ge) rfl (by rw [tw_cge', tw_nle (by omega) (by omega)] <;> omega) ?_
        show tw_P L xs _ 192 11 [.ref 88, .int (nI c), .int (nI p), .int (nI ((10 * 0) + (ch p) - 48))] [] (tw_upd σ 88 18 (nI (p + 1))) _
        refine tw_sg 1 (i1 := 12) (ls1 := [.ref 88, .int (nI c), .int (nI p), .int (nI ((10 * 0) + (ch p) - 48))]) (st1 := [.ref 88]) (σ1 := (tw_upd σ 88 18 (nI (p + 1)))) rfl ?_
        refine tw_cl1 rfl (rfl) (by decide) (tw_e_hre (p := (p + 1)) hC (by repeat (first | exact hT | refine tw_mT.upd ?_ (by omega) (by omega))) (by first | exact h2 | exact tw_upd_at) (by omega)) ?_
        rintro _ _ ⟨rfl, rfl⟩
        show tw_P L xs _ 192 13 [.ref 88, .int (nI c), .int (nI p), .int (nI ((10 * 0) + (ch p) - 48))] [.int (tw_hv ch (p + 1))] (tw_upd σ 88 18 (nI (p + 1))) _
        refine tw_sg 2 (i1 := 15) (ls1 := [.ref 88, .int (nI c), .int (nI p), .int (nI ((10 * 0) + (ch p) - 48))]) (st1 := [.int (nI 57), .int (nI 48), .int (tw_hv ch (p + 1))]) (σ1 := (tw_upd σ 88 18 (nI (p + 1)))) rfl ?_
        refine tw_cl1 rfl (rfl) (by decide) (tw_e_in0b g1 g2) ?_
        rintro _ _ ⟨rfl, rfl⟩
        show tw_P L xs _ 192 16 [.ref 88, .int (nI c), .int (nI p), .int (nI ((10 * 0) + (ch p) - 48))] [.int (nI 0)] (tw_upd σ 88 18 (nI (p + 1))) _
        refine tw_bzT (c := .eq) rfl (by rw [tw_ceq, tw_neq (by omega) (by omega)] <;> omega) ?_
        show tw_P L xs _ 192 33 [.ref 88, .int (nI c), .int (nI p), .int (nI ((10 * 0) + (ch p) - 48))] [] (tw_upd σ 88 18 (nI (p + 1))) _
        refine tw_l_nM0 (p := p) (p2 := (p + 1)) (v := (10 * 0) + (ch p) - 48) hc (by omega) (by omega) (by omega) (by first | exact h2 | exact tw_upd_at) (by repeat (first | exact h3 | rw [tw_upd_off (by omega)])) (by omega) ⟨?_, ?_⟩
        · rw [hv]
        · rw [hn]
  · have hn := tw_nl0 d0
    have hv : tw_nv ch p = 0 := by unfold tw_nv; rw [hn]; rfl
    rcases tw_ndg hC d0 with g1 | ⟨g1, g2⟩
    · skip
      show tw_P L xs _ 192 0 [.ref 88, .int (nI c), tw_U, tw_U] [] σ _
      refine tw_sgn 10 (i1 := 10) (ls0 := [.ref 88, .int (nI c), .int (σ 88 18), .int (nI 0)]) (st0 := [.int ((σ 88 18) + nI 2), .int (σ 88 18)]) (σ0 := σ) (ls1 := [.ref 88, .int (nI c), .int (nI p), .int (nI 0)]) (st1 := [.int (nI (p + 2)), .int (nI p)]) (σ1 := σ) rfl (by simp only [h2, h2, tw_nadd, tw_nmul]) (by simp only [h2, h2, tw_nadd, tw_nmul]) (rfl) ?_
      refine tw_biF (c := .ge) rfl (by rw [tw_cge', tw_nle (by omega) (by omega)] <;> omega) ?_
      show tw_P L xs _ 192 11 [.ref 88, .int (nI c), .int (nI p), .int (nI 0)] [] σ _
      refine tw_sg 1 (i1 := 12) (ls1 := [.ref 88, .int (nI c), .int (nI p), .int (nI 0)]) (st1 := [.ref 88]) (σ1 := σ) rfl ?_
      refine tw_cl1 rfl (rfl) (by decide) (tw_e_hre (p := p) hC (by repeat (first | exact hT | refine tw_mT.upd ?_ (by omega) (by omega))) (by first | exact h2 | exact tw_upd_at) (by omega)) ?_
      rintro _ _ ⟨rfl, rfl⟩
      show tw_P L xs _ 192 13 [.ref 88, .int (nI c), .int (nI p), .int (nI 0)] [.int (tw_hv ch p)] σ _
      refine tw_sg 2 (i1 := 15) (ls1 := [.ref 88, .int (nI c), .int (nI p), .int (nI 0)]) (st1 := [.int (nI 57), .int (nI 48), .int (tw_hv ch p)]) (σ1 := σ) rfl ?_
      refine tw_cl1 rfl (rfl) (by decide) (tw_e_in0a g1) ?_
      rintro _ _ ⟨rfl, rfl⟩
      show tw_P L xs _ 192 16 [.ref 88, .int (nI c), .int (nI p), .int (nI 0)] [.int (nI 0)] σ _
      refine tw_bzT (c := .eq) rfl (by rw [tw_ceq, tw_neq (by omega) (by omega)] <;> omega) ?_
      show tw_P L xs _ 192 33 [.ref 88, .int (nI c), .int (nI p), .int (nI 0)] [] σ _
      refine tw_l_nM0 (p := p) (p2 := p) (v := 0) hc (by omega) (by omega) (by omega) (by first | exact h2 | exact tw_upd_at) (by repeat (first | exact h3 | rw [tw_upd_off (by omega)])) (by omega) ⟨?_, ?_⟩
      · rw [hv]
      · rw [hn, show p + 0 = p from rfl, tw_upd_id h2]
    · skip
      show tw_P L xs _ 192 0 [.ref 88, .int (nI c), tw_U, tw_U] [] σ _
      refine tw_sgn 10 (i1 := 10) (ls0 := [.ref 88, .int (nI c), .int (σ 88 18), .int (nI 0)]) (st0 := [.int ((σ 88 18) + nI 2), .int (σ 88 18)]) (σ0 := σ) (ls1 := [.ref 88, .int (nI c), .int (nI p), .int (nI 0)]) (st1 := [.int (nI (p + 2)), .int (nI p)]) (σ1 := σ) rfl (by simp only [h2, h2, tw_nadd, tw_nmul]) (by simp only [h2, h2, tw_nadd, tw_nmul]) (rfl) ?_
      refine tw_biF (c := .ge) rfl (by rw [tw_cge', tw_nle (by omega) (by omega)] <;> omega) ?_
      show tw_P L xs _ 192 11 [.ref 88, .int (nI c), .int (nI p), .int (nI 0)] [] σ _
      refine tw_sg 1 (i1 := 12) (ls1 := [.ref 88, .int (nI c), .int (nI p), .int (nI 0)]) (st1 := [.ref 88]) (σ1 := σ) rfl ?_
      refine tw_cl1 rfl (rfl) (by decide) (tw_e_hre (p := p) hC (by repeat (first | exact hT | refine tw_mT.upd ?_ (by omega) (by omega))) (by first | exact h2 | exact tw_upd_at) (by omega)) ?_
      rintro _ _ ⟨rfl, rfl⟩
      show tw_P L xs _ 192 13 [.ref 88, .int (nI c), .int (nI p), .int (nI 0)] [.int (tw_hv ch p)] σ _
      refine tw_sg 2 (i1 := 15) (ls1 := [.ref 88, .int (nI c), .int (nI p), .int (nI 0)]) (st1 := [.int (nI 57), .int (nI 48), .int (tw_hv ch p)]) (σ1 := σ) rfl ?_
      refine tw_cl1 rfl (rfl) (by decide) (tw_e_in0b g1 g2) ?_
      rintro _ _ ⟨rfl, rfl⟩
      show tw_P L xs _ 192 16 [.ref 88, .int (nI c), .int (nI p), .int (nI 0)] [.int (nI 0)] σ _
      refine tw_bzT (c := .eq) rfl (by rw [tw_ceq, tw_neq (by omega) (by omega)] <;> omega) ?_
      show tw_P L xs _ 192 33 [.ref 88, .int (nI c), .int (nI p), .int (nI 0)] [] σ _
      refine tw_l_nM0 (p := p) (p2 := p) (v := 0) hc (by omega) (by omega) (by omega) (by first | exact h2 | exact tw_upd_at) (by repeat (first | exact h3 | rw [tw_upd_off (by omega)])) (by omega) ⟨?_, ?_⟩
      · rw [hv]
      · rw [hn, show p + 0 = p from rfl, tw_upd_id h2]
set_option maxHeartbeats 4000000 in
set_option maxRecDepth 100000 in
theorem tw_e_exF (hq : q ≤ 100) (h3 : σ 70 3 = nI q) : tw_E L xs 2 66 [.ref 70, .int (nI a)] σ (fun v τ => v = none ∧ σ = τ) := by
  show tw_P L xs _ 66 0 [.ref 70, .int (nI a)] [] σ _
  refine tw_sgn 3 (i1 := 3) (ls0 := [.ref 70, .int (nI a)]) (st0 := [.int (-1), .int (σ 70 3)]) (σ0 := σ) (ls1 := [.ref 70, .int (nI a)]) (st1 := [.int (-1), .int (nI q)]) (σ1 := σ) rfl (rfl) (by simp only [h3, tw_nadd, tw_nmul]) (rfl) ?_
  refine tw_biF (c := .eq) rfl (by rw [tw_ceq'] <;> (exact (tw_nne1 (by omega)))) ?_
  show tw_P L xs _ 66 4 [.ref 70, .int (nI a)] [] σ _
  refine tw_rv rfl ?_
  exact ⟨rfl, rfl⟩
set_option maxHeartbeats 4000000 in
set_option maxRecDepth 100000 in
theorem tw_e_ex1 {ch : Nat → Nat} {k p : Nat} (hC : tw_chs ch k) (hT : tw_cT ch k σ) (h2 : σ 70 2 = nI p) (hp : p ≤ 100) (h3 : σ 70 3 = (-1)) (ha : 0 < a ∧ a < 128) (hz : ch p = a) : tw_E L xs 2 66 [.ref 70, .int (nI a)] σ (fun v τ => v = none ∧ tw_upd σ 70 2 (nI (p + 1)) = τ) := by
  show tw_P L xs _ 66 0 [.ref 70, .int (nI a)] [] σ _
  refine tw_sgn 3 (i1 := 3) (ls0 := [.ref 70, .int (nI a)]) (st0 := [.int (-1), .int (σ 70 3)]) (σ0 := σ) (ls1 := [.ref 70, .int (nI a)]) (st1 := [.int (-1), .int (-1)]) (σ1 := σ) rfl (rfl) (by simp only [h3, tw_nadd, tw_nmul]) (rfl) ?_
  refine tw_biT (c := .eq) rfl (by rw [tw_ceq] <;> (exact rfl)) ?_
  show tw_P L xs _ 66 5 [.ref 70, .int (nI a)] [] σ _
  refine tw_sg 1 (i1 := 6) (ls1 := [.ref 70, .int (nI a)]) (st1 := [.ref 70]) (σ1 := σ) rfl ?_
  refine tw_cl1 rfl (rfl) (by decide) (tw_E_mono (tw_e_next hC hT h2 hp) (fun v σ1 h => (⟨h.1.trans (by rw [tw_hv1 (by omega), hz]), h.2⟩ : v = some (.int (nI a)) ∧ σ = σ1))) ?_
  rintro _ _ ⟨rfl, rfl⟩
  show tw_P L xs _ 66 7 [.ref 70, .int (nI a)] [.int (nI a)] σ _
  refine tw_sg 1 (i1 := 8) (ls1 := [.ref 70, .int (nI a)]) (st1 := [.int (nI a), .int (nI a)]) (σ1 := σ) rfl ?_
  refine tw_biF (c := .ne) rfl (by rw [tw_cne'] <;> (exact rfl)) ?_
  show tw_P L xs _ 66 9 [.ref 70, .int (nI a)] [] σ _
  refine tw_sgn 7 (i1 := 20) (ls0 := [.ref 70, .int (nI a)]) (st0 := []) (σ0 := (tw_upd σ 70 2 ((σ 70 2) + nI 1))) (ls1 := [.ref 70, .int (nI a)]) (st1 := []) (σ1 := (tw_upd σ 70 2 (nI (p + 1)))) rfl (rfl) (rfl) (by simp only [h2, tw_nadd, tw_nmul]) ?_
  refine tw_rv rfl ?_
  exact ⟨rfl, rfl⟩
set_option maxHeartbeats 4000000 in
set_option maxRecDepth 100000 in
theorem tw_e_ex0 {ch : Nat → Nat} {k p : Nat} (hC : tw_chs ch k) (hT : tw_cT ch k σ) (h2 : σ 70 2 = nI p) (hp : p ≤ 100) (h3 : σ 70 3 = (-1)) (ha : 0 < a ∧ a < 128) (hz : ¬ ch p = a) : tw_E L xs 2 66 [.ref 70, .int (nI a)] σ (fun v τ => v = none ∧ tw_upd σ 70 3 (nI p) = τ) := by
  have hne : ¬ tw_hv ch p = nI a := fun e => by
    have b0 := tw_ch_lt hC p
    by_cases z0 : ch p = 0
    · rw [tw_hv0 z0] at e; exact tw_nne1 (s := a) (by omega) e.symm
    · rw [tw_hv1 z0] at e; exact hz (tw_ninj (by omega) (by omega) e)
  show tw_P L xs _ 66 0 [.ref 70, .int (nI a)] [] σ _
  refine tw_sgn 3 (i1 := 3) (ls0 := [.ref 70, .int (nI a)]) (st0 := [.int (-1), .int (σ 70 3)]) (σ0 := σ) (ls1 := [.ref 70, .int (nI a)]) (st1 := [.int (-1), .int (-1)]) (σ1 := σ) rfl (rfl) (by simp only [h3, tw_nadd, tw_nmul]) (rfl) ?_
  refine tw_biT (c := .eq) rfl (by rw [tw_ceq] <;> (exact rfl)) ?_
  show tw_P L xs _ 66 5 [.ref 70, .int (nI a)] [] σ _
  refine tw_sg 1 (i1 := 6) (ls1 := [.ref 70, .int (nI a)]) (st1 := [.ref 70]) (σ1 := σ) rfl ?_
  refine tw_cl1 rfl (rfl) (by decide) (tw_e_next hC hT h2 hp) ?_
  rintro _ _ ⟨rfl, rfl⟩
  show tw_P L xs _ 66 7 [.ref 70, .int (nI a)] [.int (tw_hv ch p)] σ _
  refine tw_sg 1 (i1 := 8) (ls1 := [.ref 70, .int (nI a)]) (st1 := [.int (nI a), .int (tw_hv ch p)]) (σ1 := σ) rfl ?_
  refine tw_biT (c := .ne) rfl (by rw [tw_cne] <;> (exact hne)) ?_
  show tw_P L xs _ 66 16 [.ref 70, .int (nI a)] [] σ _
  refine tw_sgn 3 (i1 := 19) (ls0 := [.ref 70, .int (nI a)]) (st0 := [.int (σ 70 2), .ref 70]) (σ0 := σ) (ls1 := [.ref 70, .int (nI a)]) (st1 := [.int (nI p), .ref 70]) (σ1 := σ) rfl (rfl) (by simp only [h2, tw_nadd, tw_nmul]) (rfl) ?_
  refine tw_cl0 1 rfl (rfl) (by decide) ?_
  show tw_P L xs _ 67 0 [.ref 70, .int (nI p)] [] σ _
  refine tw_sgn 3 (i1 := 3) (ls0 := [.ref 70, .int (nI p)]) (st0 := [.int (-1), .int (σ 70 3)]) (σ0 := σ) (ls1 := [.ref 70, .int (nI p)]) (st1 := [.int (-1), .int (-1)]) (σ1 := σ) rfl (rfl) (by simp only [h3, tw_nadd, tw_nmul]) (rfl) ?_
  refine tw_biF (c := .ne) rfl (by rw [tw_cne'] <;> (exact rfl)) ?_
  show tw_P L xs _ 67 4 [.ref 70, .int (nI p)] [] σ _
  refine tw_sg 3 (i1 := 7) (ls1 := [.ref 70, .int (nI p)]) (st1 := []) (σ1 := (tw_upd σ 70 3 (nI p))) rfl ?_
  refine tw_rv rfl ?_
  show tw_P L xs _ 66 20 [.ref 70, .int (nI a)] [] (tw_upd σ 70 3 (nI p)) _
  refine tw_rv rfl ?_
  exact ⟨rfl, rfl⟩
set_option maxHeartbeats 4000000 in
set_option maxRecDepth 100000 in
theorem tw_m_exF (hq : q ≤ 100) (h3 : σ 88 19 = nI q) : tw_E L xs 2 191 [.ref 88, .int (nI a)] σ (fun v τ => v = none ∧ σ = τ) := by
  show tw_P L xs _ 191 0 [.ref 88, .int (nI a)] [] σ _
  refine tw_sgn 2 (i1 := 2) (ls0 := [.ref 88, .int (nI a)]) (st0 := [.int (σ 88 19)]) (σ0 := σ) (ls1 := [.ref 88, .int (nI a)]) (st1 := [.int (nI q)]) (σ1 := σ) rfl (rfl) (by simp only [h3, tw_nadd, tw_nmul]) (rfl) ?_
  refine tw_bzF (c := .lt) rfl (by rw [tw_clt'] <;> (exact (tw_nge0 (by omega)))) ?_
  show tw_P L xs _ 191 3 [.ref 88, .int (nI a)] [] σ _
  refine tw_rv rfl ?_
  exact ⟨rfl, rfl⟩
set_option maxHeartbeats 4000000 in
set_option maxRecDepth 100000 in
theorem tw_m_ex1 {ch : Nat → Nat} {k p : Nat} (hC : tw_chs ch k) (hT : tw_mT ch k σ) (h2 : σ 88 18 = nI p) (hp : p ≤ 100) (h3 : σ 88 19 = (-1)) (ha : 0 < a ∧ a < 128) (hz : ch p = a) : tw_E L xs 2 191 [.ref 88, .int (nI a)] σ (fun v τ => v = none ∧ tw_upd σ 88 18 (nI (p + 1)) = τ) := by
  show tw_P L xs _ 191 0 [.ref 88, .int (nI a)] [] σ _
  refine tw_sgn 2 (i1 := 2) (ls0 := [.ref 88, .int (nI a)]) (st0 := [.int (σ 88 19)]) (σ0 := σ) (ls1 := [.ref 88, .int (nI a)]) (st1 := [.int (-1)]) (σ1 := σ) rfl (rfl) (by simp only [h3, tw_nadd, tw_nmul]) (rfl) ?_
  refine tw_bzT (c := .lt) rfl (by rw [tw_clt] <;> (exact (by decide))) ?_
  show tw_P L xs _ 191 4 [.ref 88, .int (nI a)] [] σ _
  refine tw_sg 1 (i1 := 5) (ls1 := [.ref 88, .int (nI a)]) (st1 := [.ref 88]) (σ1 := σ) rfl ?_
  refine tw_cl1 rfl (rfl) (by decide) (tw_E_mono (tw_e_hre hC hT h2 hp) (fun v σ1 h => (⟨h.1.trans (by rw [tw_hv1 (by omega), hz]), h.2⟩ : v = some (.int (nI a)) ∧ σ = σ1))) ?_
  rintro _ _ ⟨rfl, rfl⟩
  show tw_P L xs _ 191 6 [.ref 88, .int (nI a)] [.int (nI a)] σ _
  refine tw_sg 1 (i1 := 7) (ls1 := [.ref 88, .int (nI a)]) (st1 := [.int (nI a), .int (nI a)]) (σ1 := σ) rfl ?_
  refine tw_biF (c := .ne) rfl (by rw [tw_cne'] <;> (exact rfl)) ?_
  show tw_P L xs _ 191 8 [.ref 88, .int (nI a)] [] σ _
  refine tw_sgn 7 (i1 := 19) (ls0 := [.ref 88, .int (nI a)]) (st0 := []) (σ0 := (tw_upd σ 88 18 ((σ 88 18) + nI 1))) (ls1 := [.ref 88, .int (nI a)]) (st1 := []) (σ1 := (tw_upd σ 88 18 (nI (p + 1)))) rfl (rfl) (rfl) (by simp only [h2, tw_nadd, tw_nmul]) ?_
  refine tw_rv rfl ?_
  exact ⟨rfl, rfl⟩
set_option maxHeartbeats 4000000 in
set_option maxRecDepth 100000 in
theorem tw_m_ex0 {ch : Nat → Nat} {k p : Nat} (hC : tw_chs ch k) (hT : tw_mT ch k σ) (h2 : σ 88 18 = nI p) (hp : p ≤ 100) (h3 : σ 88 19 = (-1)) (ha : 0 < a ∧ a < 128) (hz : ¬ ch p = a) : tw_E L xs 2 191 [.ref 88, .int (nI a)] σ (fun v τ => v = none ∧ tw_upd σ 88 19 (nI p) = τ) := by
  have hne : ¬ tw_hv ch p = nI a := fun e => by
    have b0 := tw_ch_lt hC p
    by_cases z0 : ch p = 0
    · rw [tw_hv0 z0] at e; exact tw_nne1 (s := a) (by omega) e.symm
    · rw [tw_hv1 z0] at e; exact hz (tw_ninj (by omega) (by omega) e)
  show tw_P L xs _ 191 0 [.ref 88, .int (nI a)] [] σ _
  refine tw_sgn 2 (i1 := 2) (ls0 := [.ref 88, .int (nI a)]) (st0 := [.int (σ 88 19)]) (σ0 := σ) (ls1 := [.ref 88, .int (nI a)]) (st1 := [.int (-1)]) (σ1 := σ) rfl (rfl) (by simp only [h3, tw_nadd, tw_nmul]) (rfl) ?_
  refine tw_bzT (c := .lt) rfl (by rw [tw_clt] <;> (exact (by decide))) ?_
  show tw_P L xs _ 191 4 [.ref 88, .int (nI a)] [] σ _
  refine tw_sg 1 (i1 := 5) (ls1 := [.ref 88, .int (nI a)]) (st1 := [.ref 88]) (σ1 := σ) rfl ?_
  refine tw_cl1 rfl (rfl) (by decide) (tw_e_hre hC hT h2 hp) ?_
  rintro _ _ ⟨rfl, rfl⟩
  show tw_P L xs _ 191 6 [.ref 88, .int (nI a)] [.int (tw_hv ch p)] σ _
  refine tw_sg 1 (i1 := 7) (ls1 := [.ref 88, .int (nI a)]) (st1 := [.int (nI a), .int (tw_hv ch p)]) (σ1 := σ) rfl ?_
  refine tw_biT (c := .ne) rfl (by rw [tw_cne] <;> (exact hne)) ?_
  show tw_P L xs _ 191 15 [.ref 88, .int (nI a)] [] σ _
  refine tw_sgn 3 (i1 := 18) (ls0 := [.ref 88, .int (nI a)]) (st0 := [.int (σ 88 18), .ref 88]) (σ0 := σ) (ls1 := [.ref 88, .int (nI a)]) (st1 := [.int (nI p), .ref 88]) (σ1 := σ) rfl (rfl) (by simp only [h2, tw_nadd, tw_nmul]) (rfl) ?_
  refine tw_cl0 1 rfl (rfl) (by decide) ?_
  show tw_P L xs _ 190 0 [.ref 88, .int (nI p)] [] σ _
  refine tw_sgn 2 (i1 := 2) (ls0 := [.ref 88, .int (nI p)]) (st0 := [.int (σ 88 19)]) (σ0 := σ) (ls1 := [.ref 88, .int (nI p)]) (st1 := [.int (-1)]) (σ1 := σ) rfl (rfl) (by simp only [h3, tw_nadd, tw_nmul]) (rfl) ?_
  refine tw_bzF (c := .ge) rfl (by rw [tw_cge'] <;> (exact tw_not_le.mpr (by decide))) ?_
  show tw_P L xs _ 190 3 [.ref 88, .int (nI p)] [] σ _
  refine tw_sg 3 (i1 := 6) (ls1 := [.ref 88, .int (nI p)]) (st1 := []) (σ1 := (tw_upd σ 88 19 (nI p))) rfl ?_
  refine tw_rv rfl ?_
  show tw_P L xs _ 191 19 [.ref 88, .int (nI a)] [] (tw_upd σ 88 19 (nI p)) _
  refine tw_rv rfl ?_
  exact ⟨rfl, rfl⟩
end tw_s63
