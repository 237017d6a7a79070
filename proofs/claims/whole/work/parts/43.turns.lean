/-! the turning that a law gives -/
section tw_s43
variable {L : Nat} {xs : Nat → Int32} {σ : tw_Mem} {x y w : Int32} {n r i c k h q a b e : Nat}
theorem tw_lvm_none {μ : tw_Mem} {n c p : Nat} (h : μ 99 (80 * 0) = nI 105) : tw_lvm μ n 7 0 c p = 0 := by
  have eK : (μ 99 0).toNatClampNeg = 105 := by rw [show μ 99 0 = nI 105 from h]; exact tw_nclamp (by omega)
  unfold tw_lvm
  rw [tw_lv]
  simp [eK]
set_option maxHeartbeats 4000000 in
set_option maxRecDepth 100000 in
theorem tw_e_turnC {μ : tw_Mem} {n c p : Nat} (hμ : ∀ k j, 13 ≤ k → k ≤ 17 → σ k j = μ k j) (hL : tw_iLaw μ 6 0) (h10 : n ≤ 10) (hc : c < n) (hp : p ≤ 90000) : tw_E L xs 9 55 [.ref 13, .int (nI c), .int (nI p), .int (nI n)] σ (fun v σ1 => v = some (.int (nI (tw_lvm μ n 7 0 c p))) ∧ σ = σ1) := by
  rcases hL with ⟨e1, e2⟩ | ⟨k, hk, e1, e2⟩
  · skip
    have e1 : σ 13 4 = nI 0 := (hμ 13 4 (by omega) (by omega)).trans e1
    show tw_P L xs _ 55 0 [.ref 13, .int (nI c), .int (nI p), .int (nI n)] [] σ _
    refine tw_sg 6 (i1 := 6) (ls1 := [.ref 13, .int (nI c), .int (nI p), .int (nI n)]) (st1 := [.int (nI 0), .int (nI n), .int (nI p), .int (nI c), .int (nI 0), .ref 13]) (σ1 := σ) rfl ?_
    refine tw_cl0 8 rfl (rfl) (by decide) ?_
    show tw_P L xs _ 56 0 [.ref 13, .int (nI 0), .int (nI c), .int (nI p), .int (nI n), .int (nI 0), tw_U, tw_U, tw_U, tw_U, tw_U] [] σ _
    refine tw_sg 1 (i1 := 1) (ls1 := [.ref 13, .int (nI 0), .int (nI c), .int (nI p), .int (nI n), .int (nI 0), tw_U, tw_U, tw_U, tw_U, tw_U]) (st1 := [.int (nI 0)]) (σ1 := σ) rfl ?_
    refine tw_bzF (c := .lt) rfl (by rw [tw_clt', tw_nlt (by omega) (by omega)] <;> omega) ?_
    show tw_P L xs _ 56 2 [.ref 13, .int (nI 0), .int (nI c), .int (nI p), .int (nI n), .int (nI 0), tw_U, tw_U, tw_U, tw_U, tw_U] [] σ _
    refine tw_sgn 3 (i1 := 5) (ls0 := [.ref 13, .int (nI 0), .int (nI c), .int (nI p), .int (nI n), .int (nI 0), tw_U, tw_U, tw_U, tw_U, tw_U]) (st0 := [.int (σ 13 4), .int (nI 0)]) (σ0 := σ) (ls1 := [.ref 13, .int (nI 0), .int (nI c), .int (nI p), .int (nI n), .int (nI 0), tw_U, tw_U, tw_U, tw_U, tw_U]) (st1 := [.int (nI 0), .int (nI 0)]) (σ1 := σ) rfl (rfl) (by simp only [e1, tw_nadd, tw_nmul]) (rfl) ?_
    refine tw_biT (c := .ge) rfl (by rw [tw_cge, tw_nle (by omega) (by omega)] <;> omega) ?_
    show tw_P L xs _ 56 12 [.ref 13, .int (nI 0), .int (nI c), .int (nI p), .int (nI n), .int (nI 0), tw_U, tw_U, tw_U, tw_U, tw_U] [] σ _
    refine tw_sg 1 (i1 := 13) (ls1 := [.ref 13, .int (nI 0), .int (nI c), .int (nI p), .int (nI n), .int (nI 0), tw_U, tw_U, tw_U, tw_U, tw_U]) (st1 := [.int (nI 0)]) (σ1 := σ) rfl ?_
    refine tw_ri rfl (rfl) ?_
    show tw_P L xs _ 55 7 [.ref 13, .int (nI c), .int (nI p), .int (nI n)] [.int (nI 0)] σ _
    refine tw_ri rfl (rfl) ?_
    exact ⟨by rw [tw_lvm_none e2], rfl⟩
  · skip
    have e1 : σ 13 4 = nI k := (hμ 13 4 (by omega) (by omega)).trans e1
    show tw_P L xs _ 55 0 [.ref 13, .int (nI c), .int (nI p), .int (nI n)] [] σ _
    refine tw_sg 6 (i1 := 6) (ls1 := [.ref 13, .int (nI c), .int (nI p), .int (nI n)]) (st1 := [.int (nI 0), .int (nI n), .int (nI p), .int (nI c), .int (nI 0), .ref 13]) (σ1 := σ) rfl ?_
    refine tw_cl1 rfl (rfl) (by decide) (tw_e_valueOf h10 hk e1 hμ 7 0 0 c p (by omega) e2 hc (by omega)) ?_
    rintro _ _ ⟨rfl, rfl⟩
    show tw_P L xs _ 55 7 [.ref 13, .int (nI c), .int (nI p), .int (nI n)] [.int (nI (tw_lvm μ n 7 0 c p))] σ _
    refine tw_ri rfl (rfl) ?_
    exact ⟨rfl, rfl⟩
set_option maxRecDepth 100000 in
theorem tw_e_turnM {μ : tw_Mem} {n c p : Nat} (hn89 : σ 89 0 = nI n) (hμ : ∀ k j, 99 ≤ k → k ≤ 102 → σ k j = μ k j) (hL : tw_iLaw μ 6 0) (h10 : n ≤ 10) (hc : c < n) (hp : p ≤ 90000) : tw_E L xs 8 195 [.ref 88, .int (nI 0), .int (nI c), .int (nI p)] σ (fun v σ1 => v = some (.int (nI (tw_lvm μ n 7 0 c p))) ∧ σ = σ1) := by
  rcases hL with ⟨e1, e2⟩ | ⟨k, hk, e1, e2⟩
  · have e99 : σ 99 0 = nI 105 := (hμ 99 0 (by omega) (by omega)).trans e2
    show tw_P L xs _ 195 0 [.ref 88, .int (nI 0), .int (nI c), .int (nI p), tw_U, tw_U] [] σ _
    refine tw_sg 3 (i1 := 3) (ls1 := [.ref 88, .int (nI 0), .int (nI c), .int (nI p), tw_U, tw_U]) (st1 := [.int (nI 0), .ref 100]) (σ1 := σ) rfl ?_
    refine tw_al (k := 100) (j := 0) (len := 160) rfl rfl rfl rfl (rfl) (by omega) (by decide) ?_
    refine tw_sg 4 (i1 := 8) (ls1 := [.ref 88, .int (nI 0), .int (nI c), .int (nI p), .int (σ 100 0), tw_U]) (st1 := [.int (nI 0), .ref 99]) (σ1 := σ) rfl ?_
    refine tw_al (k := 99) (j := 0) (len := 160) rfl rfl rfl rfl (rfl) (by omega) (by decide) ?_
    rw [e99]
    refine tw_swz (lo := 98) (j := 105) rfl (rfl) (by decide) (by decide) (by decide) rfl ?_
    show tw_P L xs _ 195 10 [.ref 88, .int (nI 0), .int (nI c), .int (nI p), .int (σ 100 0), tw_U] [] σ _
    refine tw_sg 1 (i1 := 11) (ls1 := [.ref 88, .int (nI 0), .int (nI c), .int (nI p), .int (σ 100 0), tw_U]) (st1 := [.int (nI 0)]) (σ1 := σ) rfl ?_
    refine tw_ri rfl (rfl) ?_
    exact ⟨by rw [tw_lvm_none e2], rfl⟩
  · exact tw_P_le (d := 8) (tw_e_lawOf h10 hk hn89 hμ 7 0 c p e2 hc (by omega)) (by decide)
set_option maxHeartbeats 4000000 in
set_option maxRecDepth 100000 in
theorem tw_e_valueAny {L : Nat} {xs : Nat → Int32} {σ μ : tw_Mem} {n k : Nat} (hk : k ≤ 80) (h13 : σ 13 4 = nI k) (hμ : ∀ k j, 13 ≤ k → k ≤ 17 → σ k j = μ k j) : ∀ (f e nd : Nat) (c p : Int32), e + f = 7 → tw_tree μ 6 0 k f nd → tw_E L xs (f + 1) 56 [.ref 13, .int (nI nd), .int c, .int p, .int (nI n), .int (nI e)] σ (fun v σ1 => (∃ u : Int32, v = some (.int u)) ∧ σ = σ1) := by
  intro f
  induction f with
  | zero =>
    intro e nd c p hf ht
    exact absurd ht (fun h => h)
  | succ f ih =>
    intro e nd c p hf ht
    obtain ⟨hnd, ch, hch, e14, e99, hh⟩ := ht
    have e14 : σ 14 nd = nI ch := (hμ 14 nd (by omega) (by omega)).trans e14
    rcases hh with hl | ⟨ho, ⟨q, hq, e15, e100, hq1⟩, ⟨a, e16, e101, hta⟩, hs⟩
    · rcases hl with rfl | rfl | rfl | rfl
      · skip
        show tw_P L xs _ 56 0 [.ref 13, .int (nI nd), .int c, .int p, .int (nI n), .int (nI e), tw_U, tw_U, tw_U, tw_U, tw_U] [] σ _
        refine tw_sg 1 (i1 := 1) (ls1 := [.ref 13, .int (nI nd), .int c, .int p, .int (nI n), .int (nI e), tw_U, tw_U, tw_U, tw_U, tw_U]) (st1 := [.int (nI nd)]) (σ1 := σ) rfl ?_
        refine tw_bzF (c := .lt) rfl (by rw [tw_clt', tw_nlt (by omega) (by omega)] <;> omega) ?_
        show tw_P L xs _ 56 2 [.ref 13, .int (nI nd), .int c, .int p, .int (nI n), .int (nI e), tw_U, tw_U, tw_U, tw_U, tw_U] [] σ _
        refine tw_sgn 3 (i1 := 5) (ls0 := [.ref 13, .int (nI nd), .int c, .int p, .int (nI n), .int (nI e), tw_U, tw_U, tw_U, tw_U, tw_U]) (st0 := [.int (σ 13 4), .int (nI nd)]) (σ0 := σ) (ls1 := [.ref 13, .int (nI nd), .int c, .int p, .int (nI n), .int (nI e), tw_U, tw_U, tw_U, tw_U, tw_U]) (st1 := [.int (nI k), .int (nI nd)]) (σ1 := σ) rfl (rfl) (by simp only [h13, tw_nadd, tw_nmul]) (rfl) ?_
        refine tw_biF (c := .ge) rfl (by rw [tw_cge', tw_nle (by omega) (by omega)] <;> omega) ?_
        show tw_P L xs _ 56 6 [.ref 13, .int (nI nd), .int c, .int p, .int (nI n), .int (nI e), tw_U, tw_U, tw_U, tw_U, tw_U] [] σ _
        refine tw_sg 2 (i1 := 8) (ls1 := [.ref 13, .int (nI nd), .int c, .int p, .int (nI n), .int (nI e), tw_U, tw_U, tw_U, tw_U, tw_U]) (st1 := [.int (nI 80), .int (nI nd)]) (σ1 := σ) rfl ?_
        refine tw_biF (c := .ge) rfl (by rw [tw_cge', tw_nle (by omega) (by omega)] <;> omega) ?_
        show tw_P L xs _ 56 9 [.ref 13, .int (nI nd), .int c, .int p, .int (nI n), .int (nI e), tw_U, tw_U, tw_U, tw_U, tw_U] [] σ _
        refine tw_sg 2 (i1 := 11) (ls1 := [.ref 13, .int (nI nd), .int c, .int p, .int (nI n), .int (nI e), tw_U, tw_U, tw_U, tw_U, tw_U]) (st1 := [.int (nI 6), .int (nI e)]) (σ1 := σ) rfl ?_
        refine tw_biT (c := .le) rfl (by rw [tw_cle, tw_nle (by omega) (by omega)] <;> omega) ?_
        show tw_P L xs _ 56 14 [.ref 13, .int (nI nd), .int c, .int p, .int (nI n), .int (nI e), tw_U, tw_U, tw_U, tw_U, tw_U] [] σ _
        refine tw_sg 3 (i1 := 17) (ls1 := [.ref 13, .int (nI nd), .int c, .int p, .int (nI n), .int (nI e), tw_U, tw_U, tw_U, tw_U, tw_U]) (st1 := [.int (nI nd), .ref 16]) (σ1 := σ) rfl ?_
        refine tw_al (k := 16) (j := nd) (len := 80) rfl rfl rfl rfl (rfl) (by omega) (by decide) ?_
        refine tw_sg 4 (i1 := 22) (ls1 := [.ref 13, .int (nI nd), .int c, .int p, .int (nI n), .int (nI e), .int (σ 16 nd), tw_U, tw_U, tw_U, tw_U]) (st1 := [.int (nI nd), .ref 17]) (σ1 := σ) rfl ?_
        refine tw_al (k := 17) (j := nd) (len := 80) rfl rfl rfl rfl (rfl) (by omega) (by decide) ?_
        refine tw_sg 4 (i1 := 27) (ls1 := [.ref 13, .int (nI nd), .int c, .int p, .int (nI n), .int (nI e), .int (σ 16 nd), .int (σ 17 nd), tw_U, tw_U, tw_U]) (st1 := [.int (nI nd), .ref 15]) (σ1 := σ) rfl ?_
        refine tw_al (k := 15) (j := nd) (len := 80) rfl rfl rfl rfl (rfl) (by omega) (by decide) ?_
        refine tw_sgn 8 (i1 := 36) (ls0 := [.ref 13, .int (nI nd), .int c, .int p, .int (nI n), .int (nI e), .int (σ 16 nd), .int (σ 17 nd), .int (σ 15 nd), .int (nI e + nI 1), tw_U]) (st0 := [.int (nI nd), .ref 14]) (σ0 := σ) (ls1 := [.ref 13, .int (nI nd), .int c, .int p, .int (nI n), .int (nI e), .int (σ 16 nd), .int (σ 17 nd), .int (σ 15 nd), .int (nI (e + 1)), tw_U]) (st1 := [.int (nI nd), .ref 14]) (σ1 := σ) rfl (by simp only [tw_nadd, tw_nmul]) (rfl) (rfl) ?_
        refine tw_alc (k := 14) (j := nd) (len := 80) rfl rfl rfl (rfl) (by omega) (by decide) ?_
        rw [e14]
        refine tw_swz (lo := 98) (j := 105) rfl (rfl) (by decide) (by decide) (by decide) rfl ?_
        show tw_P L xs _ 56 146 [.ref 13, .int (nI nd), .int c, .int p, .int (nI n), .int (nI e), .int (σ 16 nd), .int (σ 17 nd), .int (σ 15 nd), .int (nI (e + 1)), tw_U] [] σ _
        refine tw_sg 1 (i1 := 147) (ls1 := [.ref 13, .int (nI nd), .int c, .int p, .int (nI n), .int (nI e), .int (σ 16 nd), .int (σ 17 nd), .int (σ 15 nd), .int (nI (e + 1)), tw_U]) (st1 := [.int (nI 0)]) (σ1 := σ) rfl ?_
        refine tw_ri rfl (rfl) ?_
        exact ⟨⟨_, rfl⟩, rfl⟩
      · skip
        show tw_P L xs _ 56 0 [.ref 13, .int (nI nd), .int c, .int p, .int (nI n), .int (nI e), tw_U, tw_U, tw_U, tw_U, tw_U] [] σ _
        refine tw_sg 1 (i1 := 1) (ls1 := [.ref 13, .int (nI nd), .int c, .int p, .int (nI n), .int (nI e), tw_U, tw_U, tw_U, tw_U, tw_U]) (st1 := [.int (nI nd)]) (σ1 := σ) rfl ?_
        refine tw_bzF (c := .lt) rfl (by rw [tw_clt', tw_nlt (by omega) (by omega)] <;> omega) ?_
        show tw_P L xs _ 56 2 [.ref 13, .int (nI nd), .int c, .int p, .int (nI n), .int (nI e), tw_U, tw_U, tw_U, tw_U, tw_U] [] σ _
        refine tw_sgn 3 (i1 := 5) (ls0 := [.ref 13, .int (nI nd), .int c, .int p, .int (nI n), .int (nI e), tw_U, tw_U, tw_U, tw_U, tw_U]) (st0 := [.int (σ 13 4), .int (nI nd)]) (σ0 := σ) (ls1 := [.ref 13, .int (nI nd), .int c, .int p, .int (nI n), .int (nI e), tw_U, tw_U, tw_U, tw_U, tw_U]) (st1 := [.int (nI k), .int (nI nd)]) (σ1 := σ) rfl (rfl) (by simp only [h13, tw_nadd, tw_nmul]) (rfl) ?_
        refine tw_biF (c := .ge) rfl (by rw [tw_cge', tw_nle (by omega) (by omega)] <;> omega) ?_
        show tw_P L xs _ 56 6 [.ref 13, .int (nI nd), .int c, .int p, .int (nI n), .int (nI e), tw_U, tw_U, tw_U, tw_U, tw_U] [] σ _
        refine tw_sg 2 (i1 := 8) (ls1 := [.ref 13, .int (nI nd), .int c, .int p, .int (nI n), .int (nI e), tw_U, tw_U, tw_U, tw_U, tw_U]) (st1 := [.int (nI 80), .int (nI nd)]) (σ1 := σ) rfl ?_
        refine tw_biF (c := .ge) rfl (by rw [tw_cge', tw_nle (by omega) (by omega)] <;> omega) ?_
        show tw_P L xs _ 56 9 [.ref 13, .int (nI nd), .int c, .int p, .int (nI n), .int (nI e), tw_U, tw_U, tw_U, tw_U, tw_U] [] σ _
        refine tw_sg 2 (i1 := 11) (ls1 := [.ref 13, .int (nI nd), .int c, .int p, .int (nI n), .int (nI e), tw_U, tw_U, tw_U, tw_U, tw_U]) (st1 := [.int (nI 6), .int (nI e)]) (σ1 := σ) rfl ?_
        refine tw_biT (c := .le) rfl (by rw [tw_cle, tw_nle (by omega) (by omega)] <;> omega) ?_
        show tw_P L xs _ 56 14 [.ref 13, .int (nI nd), .int c, .int p, .int (nI n), .int (nI e), tw_U, tw_U, tw_U, tw_U, tw_U] [] σ _
        refine tw_sg 3 (i1 := 17) (ls1 := [.ref 13, .int (nI nd), .int c, .int p, .int (nI n), .int (nI e), tw_U, tw_U, tw_U, tw_U, tw_U]) (st1 := [.int (nI nd), .ref 16]) (σ1 := σ) rfl ?_
        refine tw_al (k := 16) (j := nd) (len := 80) rfl rfl rfl rfl (rfl) (by omega) (by decide) ?_
        refine tw_sg 4 (i1 := 22) (ls1 := [.ref 13, .int (nI nd), .int c, .int p, .int (nI n), .int (nI e), .int (σ 16 nd), tw_U, tw_U, tw_U, tw_U]) (st1 := [.int (nI nd), .ref 17]) (σ1 := σ) rfl ?_
        refine tw_al (k := 17) (j := nd) (len := 80) rfl rfl rfl rfl (rfl) (by omega) (by decide) ?_
        refine tw_sg 4 (i1 := 27) (ls1 := [.ref 13, .int (nI nd), .int c, .int p, .int (nI n), .int (nI e), .int (σ 16 nd), .int (σ 17 nd), tw_U, tw_U, tw_U]) (st1 := [.int (nI nd), .ref 15]) (σ1 := σ) rfl ?_
        refine tw_al (k := 15) (j := nd) (len := 80) rfl rfl rfl rfl (rfl) (by omega) (by decide) ?_
        refine tw_sgn 8 (i1 := 36) (ls0 := [.ref 13, .int (nI nd), .int c, .int p, .int (nI n), .int (nI e), .int (σ 16 nd), .int (σ 17 nd), .int (σ 15 nd), .int (nI e + nI 1), tw_U]) (st0 := [.int (nI nd), .ref 14]) (σ0 := σ) (ls1 := [.ref 13, .int (nI nd), .int c, .int p, .int (nI n), .int (nI e), .int (σ 16 nd), .int (σ 17 nd), .int (σ 15 nd), .int (nI (e + 1)), tw_U]) (st1 := [.int (nI nd), .ref 14]) (σ1 := σ) rfl (by simp only [tw_nadd, tw_nmul]) (rfl) (rfl) ?_
        refine tw_alc (k := 14) (j := nd) (len := 80) rfl rfl rfl (rfl) (by omega) (by decide) ?_
        rw [e14]
        refine tw_swz (lo := 98) (j := 102) rfl (rfl) (by decide) (by decide) (by decide) rfl ?_
        show tw_P L xs _ 56 38 [.ref 13, .int (nI nd), .int c, .int p, .int (nI n), .int (nI e), .int (σ 16 nd), .int (σ 17 nd), .int (σ 15 nd), .int (nI (e + 1)), tw_U] [] σ _
        refine tw_sg 1 (i1 := 39) (ls1 := [.ref 13, .int (nI nd), .int c, .int p, .int (nI n), .int (nI e), .int (σ 16 nd), .int (σ 17 nd), .int (σ 15 nd), .int (nI (e + 1)), tw_U]) (st1 := [.int (nI 1)]) (σ1 := σ) rfl ?_
        refine tw_ri rfl (rfl) ?_
        exact ⟨⟨_, rfl⟩, rfl⟩
      · skip
        show tw_P L xs _ 56 0 [.ref 13, .int (nI nd), .int c, .int p, .int (nI n), .int (nI e), tw_U, tw_U, tw_U, tw_U, tw_U] [] σ _
        refine tw_sg 1 (i1 := 1) (ls1 := [.ref 13, .int (nI nd), .int c, .int p, .int (nI n), .int (nI e), tw_U, tw_U, tw_U, tw_U, tw_U]) (st1 := [.int (nI nd)]) (σ1 := σ) rfl ?_
        refine tw_bzF (c := .lt) rfl (by rw [tw_clt', tw_nlt (by omega) (by omega)] <;> omega) ?_
        show tw_P L xs _ 56 2 [.ref 13, .int (nI nd), .int c, .int p, .int (nI n), .int (nI e), tw_U, tw_U, tw_U, tw_U, tw_U] [] σ _
        refine tw_sgn 3 (i1 := 5) (ls0 := [.ref 13, .int (nI nd), .int c, .int p, .int (nI n), .int (nI e), tw_U, tw_U, tw_U, tw_U, tw_U]) (st0 := [.int (σ 13 4), .int (nI nd)]) (σ0 := σ) (ls1 := [.ref 13, .int (nI nd), .int c, .int p, .int (nI n), .int (nI e), tw_U, tw_U, tw_U, tw_U, tw_U]) (st1 := [.int (nI k), .int (nI nd)]) (σ1 := σ) rfl (rfl) (by simp only [h13, tw_nadd, tw_nmul]) (rfl) ?_
        refine tw_biF (c := .ge) rfl (by rw [tw_cge', tw_nle (by omega) (by omega)] <;> omega) ?_
        show tw_P L xs _ 56 6 [.ref 13, .int (nI nd), .int c, .int p, .int (nI n), .int (nI e), tw_U, tw_U, tw_U, tw_U, tw_U] [] σ _
        refine tw_sg 2 (i1 := 8) (ls1 := [.ref 13, .int (nI nd), .int c, .int p, .int (nI n), .int (nI e), tw_U, tw_U, tw_U, tw_U, tw_U]) (st1 := [.int (nI 80), .int (nI nd)]) (σ1 := σ) rfl ?_
        refine tw_biF (c := .ge) rfl (by rw [tw_cge', tw_nle (by omega) (by omega)] <;> omega) ?_
        show tw_P L xs _ 56 9 [.ref 13, .int (nI nd), .int c, .int p, .int (nI n), .int (nI e), tw_U, tw_U, tw_U, tw_U, tw_U] [] σ _
        refine tw_sg 2 (i1 := 11) (ls1 := [.ref 13, .int (nI nd), .int c, .int p, .int (nI n), .int (nI e), tw_U, tw_U, tw_U, tw_U, tw_U]) (st1 := [.int (nI 6), .int (nI e)]) (σ1 := σ) rfl ?_
        refine tw_biT (c := .le) rfl (by rw [tw_cle, tw_nle (by omega) (by omega)] <;> omega) ?_
        show tw_P L xs _ 56 14 [.ref 13, .int (nI nd), .int c, .int p, .int (nI n), .int (nI e), tw_U, tw_U, tw_U, tw_U, tw_U] [] σ _
        refine tw_sg 3 (i1 := 17) (ls1 := [.ref 13, .int (nI nd), .int c, .int p, .int (nI n), .int (nI e), tw_U, tw_U, tw_U, tw_U, tw_U]) (st1 := [.int (nI nd), .ref 16]) (σ1 := σ) rfl ?_
        refine tw_al (k := 16) (j := nd) (len := 80) rfl rfl rfl rfl (rfl) (by omega) (by decide) ?_
        refine tw_sg 4 (i1 := 22) (ls1 := [.ref 13, .int (nI nd), .int c, .int p, .int (nI n), .int (nI e), .int (σ 16 nd), tw_U, tw_U, tw_U, tw_U]) (st1 := [.int (nI nd), .ref 17]) (σ1 := σ) rfl ?_
        refine tw_al (k := 17) (j := nd) (len := 80) rfl rfl rfl rfl (rfl) (by omega) (by decide) ?_
        refine tw_sg 4 (i1 := 27) (ls1 := [.ref 13, .int (nI nd), .int c, .int p, .int (nI n), .int (nI e), .int (σ 16 nd), .int (σ 17 nd), tw_U, tw_U, tw_U]) (st1 := [.int (nI nd), .ref 15]) (σ1 := σ) rfl ?_
        refine tw_al (k := 15) (j := nd) (len := 80) rfl rfl rfl rfl (rfl) (by omega) (by decide) ?_
        refine tw_sgn 8 (i1 := 36) (ls0 := [.ref 13, .int (nI nd), .int c, .int p, .int (nI n), .int (nI e), .int (σ 16 nd), .int (σ 17 nd), .int (σ 15 nd), .int (nI e + nI 1), tw_U]) (st0 := [.int (nI nd), .ref 14]) (σ0 := σ) (ls1 := [.ref 13, .int (nI nd), .int c, .int p, .int (nI n), .int (nI e), .int (σ 16 nd), .int (σ 17 nd), .int (σ 15 nd), .int (nI (e + 1)), tw_U]) (st1 := [.int (nI nd), .ref 14]) (σ1 := σ) rfl (by simp only [tw_nadd, tw_nmul]) (rfl) (rfl) ?_
        refine tw_alc (k := 14) (j := nd) (len := 80) rfl rfl rfl (rfl) (by omega) (by decide) ?_
        rw [e14]
        refine tw_swz (lo := 98) (j := 98) rfl (rfl) (by decide) (by decide) (by decide) rfl ?_
        show tw_P L xs _ 56 40 [.ref 13, .int (nI nd), .int c, .int p, .int (nI n), .int (nI e), .int (σ 16 nd), .int (σ 17 nd), .int (σ 15 nd), .int (nI (e + 1)), tw_U] [] σ _
        refine tw_sg 1 (i1 := 41) (ls1 := [.ref 13, .int (nI nd), .int c, .int p, .int (nI n), .int (nI e), .int (σ 16 nd), .int (σ 17 nd), .int (σ 15 nd), .int (nI (e + 1)), tw_U]) (st1 := [.int (nI 2)]) (σ1 := σ) rfl ?_
        refine tw_ri rfl (rfl) ?_
        exact ⟨⟨_, rfl⟩, rfl⟩
      · skip
        show tw_P L xs _ 56 0 [.ref 13, .int (nI nd), .int c, .int p, .int (nI n), .int (nI e), tw_U, tw_U, tw_U, tw_U, tw_U] [] σ _
        refine tw_sg 1 (i1 := 1) (ls1 := [.ref 13, .int (nI nd), .int c, .int p, .int (nI n), .int (nI e), tw_U, tw_U, tw_U, tw_U, tw_U]) (st1 := [.int (nI nd)]) (σ1 := σ) rfl ?_
        refine tw_bzF (c := .lt) rfl (by rw [tw_clt', tw_nlt (by omega) (by omega)] <;> omega) ?_
        show tw_P L xs _ 56 2 [.ref 13, .int (nI nd), .int c, .int p, .int (nI n), .int (nI e), tw_U, tw_U, tw_U, tw_U, tw_U] [] σ _
        refine tw_sgn 3 (i1 := 5) (ls0 := [.ref 13, .int (nI nd), .int c, .int p, .int (nI n), .int (nI e), tw_U, tw_U, tw_U, tw_U, tw_U]) (st0 := [.int (σ 13 4), .int (nI nd)]) (σ0 := σ) (ls1 := [.ref 13, .int (nI nd), .int c, .int p, .int (nI n), .int (nI e), tw_U, tw_U, tw_U, tw_U, tw_U]) (st1 := [.int (nI k), .int (nI nd)]) (σ1 := σ) rfl (rfl) (by simp only [h13, tw_nadd, tw_nmul]) (rfl) ?_
        refine tw_biF (c := .ge) rfl (by rw [tw_cge', tw_nle (by omega) (by omega)] <;> omega) ?_
        show tw_P L xs _ 56 6 [.ref 13, .int (nI nd), .int c, .int p, .int (nI n), .int (nI e), tw_U, tw_U, tw_U, tw_U, tw_U] [] σ _
        refine tw_sg 2 (i1 := 8) (ls1 := [.ref 13, .int (nI nd), .int c, .int p, .int (nI n), .int (nI e), tw_U, tw_U, tw_U, tw_U, tw_U]) (st1 := [.int (nI 80), .int (nI nd)]) (σ1 := σ) rfl ?_
        refine tw_biF (c := .ge) rfl (by rw [tw_cge', tw_nle (by omega) (by omega)] <;> omega) ?_
        show tw_P L xs _ 56 9 [.ref 13, .int (nI nd), .int c, .int p, .int (nI n), .int (nI e), tw_U, tw_U, tw_U, tw_U, tw_U] [] σ _
        refine tw_sg 2 (i1 := 11) (ls1 := [.ref 13, .int (nI nd), .int c, .int p, .int (nI n), .int (nI e), tw_U, tw_U, tw_U, tw_U, tw_U]) (st1 := [.int (nI 6), .int (nI e)]) (σ1 := σ) rfl ?_
        refine tw_biT (c := .le) rfl (by rw [tw_cle, tw_nle (by omega) (by omega)] <;> omega) ?_
        show tw_P L xs _ 56 14 [.ref 13, .int (nI nd), .int c, .int p, .int (nI n), .int (nI e), tw_U, tw_U, tw_U, tw_U, tw_U] [] σ _
        refine tw_sg 3 (i1 := 17) (ls1 := [.ref 13, .int (nI nd), .int c, .int p, .int (nI n), .int (nI e), tw_U, tw_U, tw_U, tw_U, tw_U]) (st1 := [.int (nI nd), .ref 16]) (σ1 := σ) rfl ?_
        refine tw_al (k := 16) (j := nd) (len := 80) rfl rfl rfl rfl (rfl) (by omega) (by decide) ?_
        refine tw_sg 4 (i1 := 22) (ls1 := [.ref 13, .int (nI nd), .int c, .int p, .int (nI n), .int (nI e), .int (σ 16 nd), tw_U, tw_U, tw_U, tw_U]) (st1 := [.int (nI nd), .ref 17]) (σ1 := σ) rfl ?_
        refine tw_al (k := 17) (j := nd) (len := 80) rfl rfl rfl rfl (rfl) (by omega) (by decide) ?_
        refine tw_sg 4 (i1 := 27) (ls1 := [.ref 13, .int (nI nd), .int c, .int p, .int (nI n), .int (nI e), .int (σ 16 nd), .int (σ 17 nd), tw_U, tw_U, tw_U]) (st1 := [.int (nI nd), .ref 15]) (σ1 := σ) rfl ?_
        refine tw_al (k := 15) (j := nd) (len := 80) rfl rfl rfl rfl (rfl) (by omega) (by decide) ?_
        refine tw_sgn 8 (i1 := 36) (ls0 := [.ref 13, .int (nI nd), .int c, .int p, .int (nI n), .int (nI e), .int (σ 16 nd), .int (σ 17 nd), .int (σ 15 nd), .int (nI e + nI 1), tw_U]) (st0 := [.int (nI nd), .ref 14]) (σ0 := σ) (ls1 := [.ref 13, .int (nI nd), .int c, .int p, .int (nI n), .int (nI e), .int (σ 16 nd), .int (σ 17 nd), .int (σ 15 nd), .int (nI (e + 1)), tw_U]) (st1 := [.int (nI nd), .ref 14]) (σ1 := σ) rfl (by simp only [tw_nadd, tw_nmul]) (rfl) (rfl) ?_
        refine tw_alc (k := 14) (j := nd) (len := 80) rfl rfl rfl (rfl) (by omega) (by decide) ?_
        rw [e14]
        refine tw_swz (lo := 98) (j := 104) rfl (rfl) (by decide) (by decide) (by decide) rfl ?_
        show tw_P L xs _ 56 42 [.ref 13, .int (nI nd), .int c, .int p, .int (nI n), .int (nI e), .int (σ 16 nd), .int (σ 17 nd), .int (σ 15 nd), .int (nI (e + 1)), tw_U] [] σ _
        refine tw_sg 1 (i1 := 43) (ls1 := [.ref 13, .int (nI nd), .int c, .int p, .int (nI n), .int (nI e), .int (σ 16 nd), .int (σ 17 nd), .int (σ 15 nd), .int (nI (e + 1)), tw_U]) (st1 := [.int (nI 3)]) (σ1 := σ) rfl ?_
        refine tw_ri rfl (rfl) ?_
        exact ⟨⟨_, rfl⟩, rfl⟩
    · have e15 : σ 15 nd = _ := (hμ 15 nd (by omega) (by omega)).trans e15
      have e16 : σ 16 nd = _ := (hμ 16 nd (by omega) (by omega)).trans e16
      have ha80 : a < 80 := by
        cases f with
        | zero => exact absurd hta (fun h => h)
        | succ f => exact Nat.lt_of_lt_of_le hta.1 hk
      unfold tw_oper tw_numd at ho
      rcases (show ch = 107 ∨ ch = 99 ∨ ch = 120 ∨ ch = 115 ∨ ch = 100 ∨ ch = 114 ∨ ch = 109 ∨ ch = 116 by omega) with rfl | rfl | rfl | rfl | rfl | rfl | rfl | rfl
      · skip
        obtain ⟨s, e17, e102, hts⟩ := hs (by unfold tw_pair; omega)
        have e17 : σ 17 nd = _ := (hμ 17 nd (by omega) (by omega)).trans e17
        have hs80 : s < 80 := by
          cases f with
          | zero => exact absurd hts (fun h => h)
          | succ f => exact Nat.lt_of_lt_of_le hts.1 hk
        have hq1 := hq1 (by omega)
        show tw_P L xs _ 56 0 [.ref 13, .int (nI nd), .int c, .int p, .int (nI n), .int (nI e), tw_U, tw_U, tw_U, tw_U, tw_U] [] σ _
        refine tw_sg 1 (i1 := 1) (ls1 := [.ref 13, .int (nI nd), .int c, .int p, .int (nI n), .int (nI e), tw_U, tw_U, tw_U, tw_U, tw_U]) (st1 := [.int (nI nd)]) (σ1 := σ) rfl ?_
        refine tw_bzF (c := .lt) rfl (by rw [tw_clt', tw_nlt (by omega) (by omega)] <;> omega) ?_
        show tw_P L xs _ 56 2 [.ref 13, .int (nI nd), .int c, .int p, .int (nI n), .int (nI e), tw_U, tw_U, tw_U, tw_U, tw_U] [] σ _
        refine tw_sgn 3 (i1 := 5) (ls0 := [.ref 13, .int (nI nd), .int c, .int p, .int (nI n), .int (nI e), tw_U, tw_U, tw_U, tw_U, tw_U]) (st0 := [.int (σ 13 4), .int (nI nd)]) (σ0 := σ) (ls1 := [.ref 13, .int (nI nd), .int c, .int p, .int (nI n), .int (nI e), tw_U, tw_U, tw_U, tw_U, tw_U]) (st1 := [.int (nI k), .int (nI nd)]) (σ1 := σ) rfl (rfl) (by simp only [h13, tw_nadd, tw_nmul]) (rfl) ?_
        refine tw_biF (c := .ge) rfl (by rw [tw_cge', tw_nle (by omega) (by omega)] <;> omega) ?_
        show tw_P L xs _ 56 6 [.ref 13, .int (nI nd), .int c, .int p, .int (nI n), .int (nI e), tw_U, tw_U, tw_U, tw_U, tw_U] [] σ _
        refine tw_sg 2 (i1 := 8) (ls1 := [.ref 13, .int (nI nd), .int c, .int p, .int (nI n), .int (nI e), tw_U, tw_U, tw_U, tw_U, tw_U]) (st1 := [.int (nI 80), .int (nI nd)]) (σ1 := σ) rfl ?_
        refine tw_biF (c := .ge) rfl (by rw [tw_cge', tw_nle (by omega) (by omega)] <;> omega) ?_
        show tw_P L xs _ 56 9 [.ref 13, .int (nI nd), .int c, .int p, .int (nI n), .int (nI e), tw_U, tw_U, tw_U, tw_U, tw_U] [] σ _
        refine tw_sg 2 (i1 := 11) (ls1 := [.ref 13, .int (nI nd), .int c, .int p, .int (nI n), .int (nI e), tw_U, tw_U, tw_U, tw_U, tw_U]) (st1 := [.int (nI 6), .int (nI e)]) (σ1 := σ) rfl ?_
        refine tw_biT (c := .le) rfl (by rw [tw_cle, tw_nle (by omega) (by omega)] <;> omega) ?_
        show tw_P L xs _ 56 14 [.ref 13, .int (nI nd), .int c, .int p, .int (nI n), .int (nI e), tw_U, tw_U, tw_U, tw_U, tw_U] [] σ _
        refine tw_sg 3 (i1 := 17) (ls1 := [.ref 13, .int (nI nd), .int c, .int p, .int (nI n), .int (nI e), tw_U, tw_U, tw_U, tw_U, tw_U]) (st1 := [.int (nI nd), .ref 16]) (σ1 := σ) rfl ?_
        refine tw_al (k := 16) (j := nd) (len := 80) rfl rfl rfl rfl (rfl) (by omega) (by decide) ?_
        rw [e16]
        refine tw_sg 4 (i1 := 22) (ls1 := [.ref 13, .int (nI nd), .int c, .int p, .int (nI n), .int (nI e), .int (nI a), tw_U, tw_U, tw_U, tw_U]) (st1 := [.int (nI nd), .ref 17]) (σ1 := σ) rfl ?_
        refine tw_al (k := 17) (j := nd) (len := 80) rfl rfl rfl rfl (rfl) (by omega) (by decide) ?_
        rw [e17]
        refine tw_sg 4 (i1 := 27) (ls1 := [.ref 13, .int (nI nd), .int c, .int p, .int (nI n), .int (nI e), .int (nI a), .int (nI s), tw_U, tw_U, tw_U]) (st1 := [.int (nI nd), .ref 15]) (σ1 := σ) rfl ?_
        refine tw_al (k := 15) (j := nd) (len := 80) rfl rfl rfl rfl (rfl) (by omega) (by decide) ?_
        rw [e15]
        refine tw_sgn 8 (i1 := 36) (ls0 := [.ref 13, .int (nI nd), .int c, .int p, .int (nI n), .int (nI e), .int (nI a), .int (nI s), .int (nI q), .int (nI e + nI 1), tw_U]) (st0 := [.int (nI nd), .ref 14]) (σ0 := σ) (ls1 := [.ref 13, .int (nI nd), .int c, .int p, .int (nI n), .int (nI e), .int (nI a), .int (nI s), .int (nI q), .int (nI (e + 1)), tw_U]) (st1 := [.int (nI nd), .ref 14]) (σ1 := σ) rfl (by simp only [tw_nadd, tw_nmul]) (rfl) (rfl) ?_
        refine tw_alc (k := 14) (j := nd) (len := 80) rfl rfl rfl (rfl) (by omega) (by decide) ?_
        rw [e14]
        refine tw_swz (lo := 98) (j := 107) rfl (rfl) (by decide) (by decide) (by decide) rfl ?_
        show tw_P L xs _ 56 44 [.ref 13, .int (nI nd), .int c, .int p, .int (nI n), .int (nI e), .int (nI a), .int (nI s), .int (nI q), .int (nI (e + 1)), tw_U] [] σ _
        refine tw_sg 3 (i1 := 47) (ls1 := [.ref 13, .int (nI nd), .int c, .int p, .int (nI n), .int (nI e), .int (nI a), .int (nI s), .int (nI q), .int (nI (e + 1)), tw_U]) (st1 := [.int (nI q), .int p, .ref 13]) (σ1 := σ) rfl ?_
        refine tw_cl0 0 rfl (rfl) (by omega) ?_
        show tw_P L xs _ 57 0 [.int p, .int (nI q)] [] σ _
        refine tw_sg 1 (i1 := 1) (ls1 := [.int p, .int (nI q)]) (st1 := [.int (nI q)]) (σ1 := σ) rfl ?_
        refine tw_bzF (c := .le) rfl (by rw [tw_cle', tw_nle (by omega) (by omega)] <;> omega) ?_
        show tw_P L xs _ 57 2 [.int p, .int (nI q)] [] σ _
        refine tw_sg 2 (i1 := 4) (ls1 := [.int p, .int (nI q)]) (st1 := [.int (nI q), .int p]) (σ1 := σ) rfl ?_
        refine tw_dv rfl (by rw [show (0 : Int32) = nI 0 from rfl, tw_neq (by omega) (by omega)]; omega) ?_
        refine tw_sg 1 (i1 := 6) (ls1 := [.int p, .int (nI q)]) (st1 := [.int (nI 2), .int (p / nI q)]) (σ1 := σ) rfl ?_
        refine tw_rm rfl (by decide) ?_
        refine tw_sg 1 (i1 := 8) (ls1 := [.int p, .int (nI q)]) (st1 := [.int (nI 1), .int ((p / nI q) - (p / nI q) / nI 2 * nI 2)]) (σ1 := σ) rfl ?_
        refine tw_bi (c := .ne) rfl (fun h1 => ?_) (fun h1 => ?_)
        · rw [tw_cne] at h1
          refine tw_sg 1 (i1 := 12) (ls1 := [.int p, .int (nI q)]) (st1 := [.int (nI 0)]) (σ1 := σ) rfl ?_
          refine tw_ri rfl (rfl) ?_
          show tw_P L xs _ 56 48 [.ref 13, .int (nI nd), .int c, .int p, .int (nI n), .int (nI e), .int (nI a), .int (nI s), .int (nI q), .int (nI (e + 1)), tw_U] [.int (nI 0), .ref 13] σ _
          refine tw_bzT (c := .eq) rfl (by rw [tw_ceq, tw_neq (by omega) (by omega)] <;> omega) ?_
          show tw_P L xs _ 56 51 [.ref 13, .int (nI nd), .int c, .int p, .int (nI n), .int (nI e), .int (nI a), .int (nI s), .int (nI q), .int (nI (e + 1)), tw_U] [.ref 13] σ _
          refine tw_sg 5 (i1 := 56) (ls1 := [.ref 13, .int (nI nd), .int c, .int p, .int (nI n), .int (nI e), .int (nI a), .int (nI s), .int (nI q), .int (nI (e + 1)), tw_U]) (st1 := [.int (nI (e + 1)), .int (nI n), .int p, .int c, .int (nI a), .ref 13]) (σ1 := σ) rfl ?_
          refine tw_cl1 rfl (rfl) (by omega) (ih (e + 1) a _ _ (by omega) hta) ?_
          rintro _ _ ⟨⟨u1, rfl⟩, rfl⟩
          show tw_P L xs _ 56 57 [.ref 13, .int (nI nd), .int c, .int p, .int (nI n), .int (nI e), .int (nI a), .int (nI s), .int (nI q), .int (nI (e + 1)), tw_U] [.int u1] σ _
          refine tw_ri rfl (rfl) ?_
          exact ⟨⟨_, rfl⟩, rfl⟩
        · rw [tw_cne'] at h1
          refine tw_sg 2 (i1 := 12) (ls1 := [.int p, .int (nI q)]) (st1 := [.int (nI 1)]) (σ1 := σ) rfl ?_
          refine tw_ri rfl (rfl) ?_
          show tw_P L xs _ 56 48 [.ref 13, .int (nI nd), .int c, .int p, .int (nI n), .int (nI e), .int (nI a), .int (nI s), .int (nI q), .int (nI (e + 1)), tw_U] [.int (nI 1), .ref 13] σ _
          refine tw_bzF (c := .eq) rfl (by rw [tw_ceq', tw_neq (by omega) (by omega)] <;> omega) ?_
          show tw_P L xs _ 56 49 [.ref 13, .int (nI nd), .int c, .int p, .int (nI n), .int (nI e), .int (nI a), .int (nI s), .int (nI q), .int (nI (e + 1)), tw_U] [.ref 13] σ _
          refine tw_sg 6 (i1 := 56) (ls1 := [.ref 13, .int (nI nd), .int c, .int p, .int (nI n), .int (nI e), .int (nI a), .int (nI s), .int (nI q), .int (nI (e + 1)), tw_U]) (st1 := [.int (nI (e + 1)), .int (nI n), .int p, .int c, .int (nI s), .ref 13]) (σ1 := σ) rfl ?_
          refine tw_cl1 rfl (rfl) (by omega) (ih (e + 1) s _ _ (by omega) hts) ?_
          rintro _ _ ⟨⟨u2, rfl⟩, rfl⟩
          show tw_P L xs _ 56 57 [.ref 13, .int (nI nd), .int c, .int p, .int (nI n), .int (nI e), .int (nI a), .int (nI s), .int (nI q), .int (nI (e + 1)), tw_U] [.int u2] σ _
          refine tw_ri rfl (rfl) ?_
          exact ⟨⟨_, rfl⟩, rfl⟩
      · skip
        obtain ⟨s, e17, e102, hts⟩ := hs (by unfold tw_pair; omega)
        have e17 : σ 17 nd = _ := (hμ 17 nd (by omega) (by omega)).trans e17
        have hs80 : s < 80 := by
          cases f with
          | zero => exact absurd hts (fun h => h)
          | succ f => exact Nat.lt_of_lt_of_le hts.1 hk
        show tw_P L xs _ 56 0 [.ref 13, .int (nI nd), .int c, .int p, .int (nI n), .int (nI e), tw_U, tw_U, tw_U, tw_U, tw_U] [] σ _
        refine tw_sg 1 (i1 := 1) (ls1 := [.ref 13, .int (nI nd), .int c, .int p, .int (nI n), .int (nI e), tw_U, tw_U, tw_U, tw_U, tw_U]) (st1 := [.int (nI nd)]) (σ1 := σ) rfl ?_
        refine tw_bzF (c := .lt) rfl (by rw [tw_clt', tw_nlt (by omega) (by omega)] <;> omega) ?_
        show tw_P L xs _ 56 2 [.ref 13, .int (nI nd), .int c, .int p, .int (nI n), .int (nI e), tw_U, tw_U, tw_U, tw_U, tw_U] [] σ _
        refine tw_sgn 3 (i1 := 5) (ls0 := [.ref 13, .int (nI nd), .int c, .int p, .int (nI n), .int (nI e), tw_U, tw_U, tw_U, tw_U, tw_U]) (st0 := [.int (σ 13 4), .int (nI nd)]) (σ0 := σ) (ls1 := [.ref 13, .int (nI nd), .int c, .int p, .int (nI n), .int (nI e), tw_U, tw_U, tw_U, tw_U, tw_U]) (st1 := [.int (nI k), .int (nI nd)]) (σ1 := σ) rfl (rfl) (by simp only [h13, tw_nadd, tw_nmul]) (rfl) ?_
        refine tw_biF (c := .ge) rfl (by rw [tw_cge', tw_nle (by omega) (by omega)] <;> omega) ?_
        show tw_P L xs _ 56 6 [.ref 13, .int (nI nd), .int c, .int p, .int (nI n), .int (nI e), tw_U, tw_U, tw_U, tw_U, tw_U] [] σ _
        refine tw_sg 2 (i1 := 8) (ls1 := [.ref 13, .int (nI nd), .int c, .int p, .int (nI n), .int (nI e), tw_U, tw_U, tw_U, tw_U, tw_U]) (st1 := [.int (nI 80), .int (nI nd)]) (σ1 := σ) rfl ?_
        refine tw_biF (c := .ge) rfl (by rw [tw_cge', tw_nle (by omega) (by omega)] <;> omega) ?_
        show tw_P L xs _ 56 9 [.ref 13, .int (nI nd), .int c, .int p, .int (nI n), .int (nI e), tw_U, tw_U, tw_U, tw_U, tw_U] [] σ _
        refine tw_sg 2 (i1 := 11) (ls1 := [.ref 13, .int (nI nd), .int c, .int p, .int (nI n), .int (nI e), tw_U, tw_U, tw_U, tw_U, tw_U]) (st1 := [.int (nI 6), .int (nI e)]) (σ1 := σ) rfl ?_
        refine tw_biT (c := .le) rfl (by rw [tw_cle, tw_nle (by omega) (by omega)] <;> omega) ?_
        show tw_P L xs _ 56 14 [.ref 13, .int (nI nd), .int c, .int p, .int (nI n), .int (nI e), tw_U, tw_U, tw_U, tw_U, tw_U] [] σ _
        refine tw_sg 3 (i1 := 17) (ls1 := [.ref 13, .int (nI nd), .int c, .int p, .int (nI n), .int (nI e), tw_U, tw_U, tw_U, tw_U, tw_U]) (st1 := [.int (nI nd), .ref 16]) (σ1 := σ) rfl ?_
        refine tw_al (k := 16) (j := nd) (len := 80) rfl rfl rfl rfl (rfl) (by omega) (by decide) ?_
        rw [e16]
        refine tw_sg 4 (i1 := 22) (ls1 := [.ref 13, .int (nI nd), .int c, .int p, .int (nI n), .int (nI e), .int (nI a), tw_U, tw_U, tw_U, tw_U]) (st1 := [.int (nI nd), .ref 17]) (σ1 := σ) rfl ?_
        refine tw_al (k := 17) (j := nd) (len := 80) rfl rfl rfl rfl (rfl) (by omega) (by decide) ?_
        rw [e17]
        refine tw_sg 4 (i1 := 27) (ls1 := [.ref 13, .int (nI nd), .int c, .int p, .int (nI n), .int (nI e), .int (nI a), .int (nI s), tw_U, tw_U, tw_U]) (st1 := [.int (nI nd), .ref 15]) (σ1 := σ) rfl ?_
        refine tw_al (k := 15) (j := nd) (len := 80) rfl rfl rfl rfl (rfl) (by omega) (by decide) ?_
        rw [e15]
        refine tw_sgn 8 (i1 := 36) (ls0 := [.ref 13, .int (nI nd), .int c, .int p, .int (nI n), .int (nI e), .int (nI a), .int (nI s), .int (nI q), .int (nI e + nI 1), tw_U]) (st0 := [.int (nI nd), .ref 14]) (σ0 := σ) (ls1 := [.ref 13, .int (nI nd), .int c, .int p, .int (nI n), .int (nI e), .int (nI a), .int (nI s), .int (nI q), .int (nI (e + 1)), tw_U]) (st1 := [.int (nI nd), .ref 14]) (σ1 := σ) rfl (by simp only [tw_nadd, tw_nmul]) (rfl) (rfl) ?_
        refine tw_alc (k := 14) (j := nd) (len := 80) rfl rfl rfl (rfl) (by omega) (by decide) ?_
        rw [e14]
        refine tw_swz (lo := 98) (j := 99) rfl (rfl) (by decide) (by decide) (by decide) rfl ?_
        show tw_P L xs _ 56 58 [.ref 13, .int (nI nd), .int c, .int p, .int (nI n), .int (nI e), .int (nI a), .int (nI s), .int (nI q), .int (nI (e + 1)), tw_U] [] σ _
        refine tw_sg 3 (i1 := 61) (ls1 := [.ref 13, .int (nI nd), .int c, .int p, .int (nI n), .int (nI e), .int (nI a), .int (nI s), .int (nI q), .int (nI (e + 1)), tw_U]) (st1 := [.int (nI q), .int c, .ref 13]) (σ1 := σ) rfl ?_
        refine tw_bi (c := .ge) rfl (fun h1 => ?_) (fun h1 => ?_)
        · rw [tw_cge] at h1
          refine tw_sg 5 (i1 := 69) (ls1 := [.ref 13, .int (nI nd), .int c, .int p, .int (nI n), .int (nI e), .int (nI a), .int (nI s), .int (nI q), .int (nI (e + 1)), tw_U]) (st1 := [.int (nI (e + 1)), .int (nI n), .int p, .int c, .int (nI s), .ref 13]) (σ1 := σ) rfl ?_
          refine tw_cl1 rfl (rfl) (by omega) (ih (e + 1) s _ _ (by omega) hts) ?_
          rintro _ _ ⟨⟨u3, rfl⟩, rfl⟩
          show tw_P L xs _ 56 70 [.ref 13, .int (nI nd), .int c, .int p, .int (nI n), .int (nI e), .int (nI a), .int (nI s), .int (nI q), .int (nI (e + 1)), tw_U] [.int u3] σ _
          refine tw_ri rfl (rfl) ?_
          exact ⟨⟨_, rfl⟩, rfl⟩
        · rw [tw_cge'] at h1
          refine tw_sg 6 (i1 := 69) (ls1 := [.ref 13, .int (nI nd), .int c, .int p, .int (nI n), .int (nI e), .int (nI a), .int (nI s), .int (nI q), .int (nI (e + 1)), tw_U]) (st1 := [.int (nI (e + 1)), .int (nI n), .int p, .int c, .int (nI a), .ref 13]) (σ1 := σ) rfl ?_
          refine tw_cl1 rfl (rfl) (by omega) (ih (e + 1) a _ _ (by omega) hta) ?_
          rintro _ _ ⟨⟨u4, rfl⟩, rfl⟩
          show tw_P L xs _ 56 70 [.ref 13, .int (nI nd), .int c, .int p, .int (nI n), .int (nI e), .int (nI a), .int (nI s), .int (nI q), .int (nI (e + 1)), tw_U] [.int u4] σ _
          refine tw_ri rfl (rfl) ?_
          exact ⟨⟨_, rfl⟩, rfl⟩
      · skip
        obtain ⟨s, e17, e102, hts⟩ := hs (by unfold tw_pair; omega)
        have e17 : σ 17 nd = _ := (hμ 17 nd (by omega) (by omega)).trans e17
        have hs80 : s < 80 := by
          cases f with
          | zero => exact absurd hts (fun h => h)
          | succ f => exact Nat.lt_of_lt_of_le hts.1 hk
        have hq1 := hq1 (by omega)
        show tw_P L xs _ 56 0 [.ref 13, .int (nI nd), .int c, .int p, .int (nI n), .int (nI e), tw_U, tw_U, tw_U, tw_U, tw_U] [] σ _
        refine tw_sg 1 (i1 := 1) (ls1 := [.ref 13, .int (nI nd), .int c, .int p, .int (nI n), .int (nI e), tw_U, tw_U, tw_U, tw_U, tw_U]) (st1 := [.int (nI nd)]) (σ1 := σ) rfl ?_
        refine tw_bzF (c := .lt) rfl (by rw [tw_clt', tw_nlt (by omega) (by omega)] <;> omega) ?_
        show tw_P L xs _ 56 2 [.ref 13, .int (nI nd), .int c, .int p, .int (nI n), .int (nI e), tw_U, tw_U, tw_U, tw_U, tw_U] [] σ _
        refine tw_sgn 3 (i1 := 5) (ls0 := [.ref 13, .int (nI nd), .int c, .int p, .int (nI n), .int (nI e), tw_U, tw_U, tw_U, tw_U, tw_U]) (st0 := [.int (σ 13 4), .int (nI nd)]) (σ0 := σ) (ls1 := [.ref 13, .int (nI nd), .int c, .int p, .int (nI n), .int (nI e), tw_U, tw_U, tw_U, tw_U, tw_U]) (st1 := [.int (nI k), .int (nI nd)]) (σ1 := σ) rfl (rfl) (by simp only [h13, tw_nadd, tw_nmul]) (rfl) ?_
        refine tw_biF (c := .ge) rfl (by rw [tw_cge', tw_nle (by omega) (by omega)] <;> omega) ?_
        show tw_P L xs _ 56 6 [.ref 13, .int (nI nd), .int c, .int p, .int (nI n), .int (nI e), tw_U, tw_U, tw_U, tw_U, tw_U] [] σ _
        refine tw_sg 2 (i1 := 8) (ls1 := [.ref 13, .int (nI nd), .int c, .int p, .int (nI n), .int (nI e), tw_U, tw_U, tw_U, tw_U, tw_U]) (st1 := [.int (nI 80), .int (nI nd)]) (σ1 := σ) rfl ?_
        refine tw_biF (c := .ge) rfl (by rw [tw_cge', tw_nle (by omega) (by omega)] <;> omega) ?_
        show tw_P L xs _ 56 9 [.ref 13, .int (nI nd), .int c, .int p, .int (nI n), .int (nI e), tw_U, tw_U, tw_U, tw_U, tw_U] [] σ _
        refine tw_sg 2 (i1 := 11) (ls1 := [.ref 13, .int (nI nd), .int c, .int p, .int (nI n), .int (nI e), tw_U, tw_U, tw_U, tw_U, tw_U]) (st1 := [.int (nI 6), .int (nI e)]) (σ1 := σ) rfl ?_
        refine tw_biT (c := .le) rfl (by rw [tw_cle, tw_nle (by omega) (by omega)] <;> omega) ?_
        show tw_P L xs _ 56 14 [.ref 13, .int (nI nd), .int c, .int p, .int (nI n), .int (nI e), tw_U, tw_U, tw_U, tw_U, tw_U] [] σ _
        refine tw_sg 3 (i1 := 17) (ls1 := [.ref 13, .int (nI nd), .int c, .int p, .int (nI n), .int (nI e), tw_U, tw_U, tw_U, tw_U, tw_U]) (st1 := [.int (nI nd), .ref 16]) (σ1 := σ) rfl ?_
        refine tw_al (k := 16) (j := nd) (len := 80) rfl rfl rfl rfl (rfl) (by omega) (by decide) ?_
        rw [e16]
        refine tw_sg 4 (i1 := 22) (ls1 := [.ref 13, .int (nI nd), .int c, .int p, .int (nI n), .int (nI e), .int (nI a), tw_U, tw_U, tw_U, tw_U]) (st1 := [.int (nI nd), .ref 17]) (σ1 := σ) rfl ?_
        refine tw_al (k := 17) (j := nd) (len := 80) rfl rfl rfl rfl (rfl) (by omega) (by decide) ?_
        rw [e17]
        refine tw_sg 4 (i1 := 27) (ls1 := [.ref 13, .int (nI nd), .int c, .int p, .int (nI n), .int (nI e), .int (nI a), .int (nI s), tw_U, tw_U, tw_U]) (st1 := [.int (nI nd), .ref 15]) (σ1 := σ) rfl ?_
        refine tw_al (k := 15) (j := nd) (len := 80) rfl rfl rfl rfl (rfl) (by omega) (by decide) ?_
        rw [e15]
        refine tw_sgn 8 (i1 := 36) (ls0 := [.ref 13, .int (nI nd), .int c, .int p, .int (nI n), .int (nI e), .int (nI a), .int (nI s), .int (nI q), .int (nI e + nI 1), tw_U]) (st0 := [.int (nI nd), .ref 14]) (σ0 := σ) (ls1 := [.ref 13, .int (nI nd), .int c, .int p, .int (nI n), .int (nI e), .int (nI a), .int (nI s), .int (nI q), .int (nI (e + 1)), tw_U]) (st1 := [.int (nI nd), .ref 14]) (σ1 := σ) rfl (by simp only [tw_nadd, tw_nmul]) (rfl) (rfl) ?_
        refine tw_alc (k := 14) (j := nd) (len := 80) rfl rfl rfl (rfl) (by omega) (by decide) ?_
        rw [e14]
        refine tw_swz (lo := 98) (j := 120) rfl (rfl) (by decide) (by decide) (by decide) rfl ?_
        show tw_P L xs _ 56 71 [.ref 13, .int (nI nd), .int c, .int p, .int (nI n), .int (nI e), .int (nI a), .int (nI s), .int (nI q), .int (nI (e + 1)), tw_U] [] σ _
        refine tw_sg 3 (i1 := 74) (ls1 := [.ref 13, .int (nI nd), .int c, .int p, .int (nI n), .int (nI e), .int (nI a), .int (nI s), .int (nI q), .int (nI (e + 1)), tw_U]) (st1 := [.int (nI q), .int p, .ref 13]) (σ1 := σ) rfl ?_
        refine tw_cl0 0 rfl (rfl) (by omega) ?_
        show tw_P L xs _ 58 0 [.int p, .int (nI q)] [] σ _
        refine tw_sg 1 (i1 := 1) (ls1 := [.int p, .int (nI q)]) (st1 := [.int (nI q)]) (σ1 := σ) rfl ?_
        refine tw_bzF (c := .le) rfl (by rw [tw_cle', tw_nle (by omega) (by omega)] <;> omega) ?_
        show tw_P L xs _ 58 2 [.int p, .int (nI q)] [] σ _
        refine tw_sg 2 (i1 := 4) (ls1 := [.int p, .int (nI q)]) (st1 := [.int (nI q), .int p]) (σ1 := σ) rfl ?_
        refine tw_rm rfl (by rw [show (0 : Int32) = nI 0 from rfl, tw_neq (by omega) (by omega)]; omega) ?_
        refine tw_bz (c := .ne) rfl (fun h1 => ?_) (fun h1 => ?_)
        · rw [tw_cne] at h1
          refine tw_sg 1 (i1 := 9) (ls1 := [.int p, .int (nI q)]) (st1 := [.int (nI 0)]) (σ1 := σ) rfl ?_
          refine tw_ri rfl (rfl) ?_
          show tw_P L xs _ 56 75 [.ref 13, .int (nI nd), .int c, .int p, .int (nI n), .int (nI e), .int (nI a), .int (nI s), .int (nI q), .int (nI (e + 1)), tw_U] [.int (nI 0), .ref 13] σ _
          refine tw_bzT (c := .eq) rfl (by rw [tw_ceq, tw_neq (by omega) (by omega)] <;> omega) ?_
          show tw_P L xs _ 56 78 [.ref 13, .int (nI nd), .int c, .int p, .int (nI n), .int (nI e), .int (nI a), .int (nI s), .int (nI q), .int (nI (e + 1)), tw_U] [.ref 13] σ _
          refine tw_sg 5 (i1 := 83) (ls1 := [.ref 13, .int (nI nd), .int c, .int p, .int (nI n), .int (nI e), .int (nI a), .int (nI s), .int (nI q), .int (nI (e + 1)), tw_U]) (st1 := [.int (nI (e + 1)), .int (nI n), .int p, .int c, .int (nI a), .ref 13]) (σ1 := σ) rfl ?_
          refine tw_cl1 rfl (rfl) (by omega) (ih (e + 1) a _ _ (by omega) hta) ?_
          rintro _ _ ⟨⟨u5, rfl⟩, rfl⟩
          show tw_P L xs _ 56 84 [.ref 13, .int (nI nd), .int c, .int p, .int (nI n), .int (nI e), .int (nI a), .int (nI s), .int (nI q), .int (nI (e + 1)), tw_U] [.int u5] σ _
          refine tw_ri rfl (rfl) ?_
          exact ⟨⟨_, rfl⟩, rfl⟩
        · rw [tw_cne'] at h1
          refine tw_sg 2 (i1 := 9) (ls1 := [.int p, .int (nI q)]) (st1 := [.int (nI 1)]) (σ1 := σ) rfl ?_
          refine tw_ri rfl (rfl) ?_
          show tw_P L xs _ 56 75 [.ref 13, .int (nI nd), .int c, .int p, .int (nI n), .int (nI e), .int (nI a), .int (nI s), .int (nI q), .int (nI (e + 1)), tw_U] [.int (nI 1), .ref 13] σ _
          refine tw_bzF (c := .eq) rfl (by rw [tw_ceq', tw_neq (by omega) (by omega)] <;> omega) ?_
          show tw_P L xs _ 56 76 [.ref 13, .int (nI nd), .int c, .int p, .int (nI n), .int (nI e), .int (nI a), .int (nI s), .int (nI q), .int (nI (e + 1)), tw_U] [.ref 13] σ _
          refine tw_sg 6 (i1 := 83) (ls1 := [.ref 13, .int (nI nd), .int c, .int p, .int (nI n), .int (nI e), .int (nI a), .int (nI s), .int (nI q), .int (nI (e + 1)), tw_U]) (st1 := [.int (nI (e + 1)), .int (nI n), .int p, .int c, .int (nI s), .ref 13]) (σ1 := σ) rfl ?_
          refine tw_cl1 rfl (rfl) (by omega) (ih (e + 1) s _ _ (by omega) hts) ?_
          rintro _ _ ⟨⟨u6, rfl⟩, rfl⟩
          show tw_P L xs _ 56 84 [.ref 13, .int (nI nd), .int c, .int p, .int (nI n), .int (nI e), .int (nI a), .int (nI s), .int (nI q), .int (nI (e + 1)), tw_U] [.int u6] σ _
          refine tw_ri rfl (rfl) ?_
          exact ⟨⟨_, rfl⟩, rfl⟩
      · skip
        show tw_P L xs _ 56 0 [.ref 13, .int (nI nd), .int c, .int p, .int (nI n), .int (nI e), tw_U, tw_U, tw_U, tw_U, tw_U] [] σ _
        refine tw_sg 1 (i1 := 1) (ls1 := [.ref 13, .int (nI nd), .int c, .int p, .int (nI n), .int (nI e), tw_U, tw_U, tw_U, tw_U, tw_U]) (st1 := [.int (nI nd)]) (σ1 := σ) rfl ?_
        refine tw_bzF (c := .lt) rfl (by rw [tw_clt', tw_nlt (by omega) (by omega)] <;> omega) ?_
        show tw_P L xs _ 56 2 [.ref 13, .int (nI nd), .int c, .int p, .int (nI n), .int (nI e), tw_U, tw_U, tw_U, tw_U, tw_U] [] σ _
        refine tw_sgn 3 (i1 := 5) (ls0 := [.ref 13, .int (nI nd), .int c, .int p, .int (nI n), .int (nI e), tw_U, tw_U, tw_U, tw_U, tw_U]) (st0 := [.int (σ 13 4), .int (nI nd)]) (σ0 := σ) (ls1 := [.ref 13, .int (nI nd), .int c, .int p, .int (nI n), .int (nI e), tw_U, tw_U, tw_U, tw_U, tw_U]) (st1 := [.int (nI k), .int (nI nd)]) (σ1 := σ) rfl (rfl) (by simp only [h13, tw_nadd, tw_nmul]) (rfl) ?_
        refine tw_biF (c := .ge) rfl (by rw [tw_cge', tw_nle (by omega) (by omega)] <;> omega) ?_
        show tw_P L xs _ 56 6 [.ref 13, .int (nI nd), .int c, .int p, .int (nI n), .int (nI e), tw_U, tw_U, tw_U, tw_U, tw_U] [] σ _
        refine tw_sg 2 (i1 := 8) (ls1 := [.ref 13, .int (nI nd), .int c, .int p, .int (nI n), .int (nI e), tw_U, tw_U, tw_U, tw_U, tw_U]) (st1 := [.int (nI 80), .int (nI nd)]) (σ1 := σ) rfl ?_
        refine tw_biF (c := .ge) rfl (by rw [tw_cge', tw_nle (by omega) (by omega)] <;> omega) ?_
        show tw_P L xs _ 56 9 [.ref 13, .int (nI nd), .int c, .int p, .int (nI n), .int (nI e), tw_U, tw_U, tw_U, tw_U, tw_U] [] σ _
        refine tw_sg 2 (i1 := 11) (ls1 := [.ref 13, .int (nI nd), .int c, .int p, .int (nI n), .int (nI e), tw_U, tw_U, tw_U, tw_U, tw_U]) (st1 := [.int (nI 6), .int (nI e)]) (σ1 := σ) rfl ?_
        refine tw_biT (c := .le) rfl (by rw [tw_cle, tw_nle (by omega) (by omega)] <;> omega) ?_
        show tw_P L xs _ 56 14 [.ref 13, .int (nI nd), .int c, .int p, .int (nI n), .int (nI e), tw_U, tw_U, tw_U, tw_U, tw_U] [] σ _
        refine tw_sg 3 (i1 := 17) (ls1 := [.ref 13, .int (nI nd), .int c, .int p, .int (nI n), .int (nI e), tw_U, tw_U, tw_U, tw_U, tw_U]) (st1 := [.int (nI nd), .ref 16]) (σ1 := σ) rfl ?_
        refine tw_al (k := 16) (j := nd) (len := 80) rfl rfl rfl rfl (rfl) (by omega) (by decide) ?_
        rw [e16]
        refine tw_sg 4 (i1 := 22) (ls1 := [.ref 13, .int (nI nd), .int c, .int p, .int (nI n), .int (nI e), .int (nI a), tw_U, tw_U, tw_U, tw_U]) (st1 := [.int (nI nd), .ref 17]) (σ1 := σ) rfl ?_
        refine tw_al (k := 17) (j := nd) (len := 80) rfl rfl rfl rfl (rfl) (by omega) (by decide) ?_
        refine tw_sg 4 (i1 := 27) (ls1 := [.ref 13, .int (nI nd), .int c, .int p, .int (nI n), .int (nI e), .int (nI a), .int (σ 17 nd), tw_U, tw_U, tw_U]) (st1 := [.int (nI nd), .ref 15]) (σ1 := σ) rfl ?_
        refine tw_al (k := 15) (j := nd) (len := 80) rfl rfl rfl rfl (rfl) (by omega) (by decide) ?_
        rw [e15]
        refine tw_sgn 8 (i1 := 36) (ls0 := [.ref 13, .int (nI nd), .int c, .int p, .int (nI n), .int (nI e), .int (nI a), .int (σ 17 nd), .int (nI q), .int (nI e + nI 1), tw_U]) (st0 := [.int (nI nd), .ref 14]) (σ0 := σ) (ls1 := [.ref 13, .int (nI nd), .int c, .int p, .int (nI n), .int (nI e), .int (nI a), .int (σ 17 nd), .int (nI q), .int (nI (e + 1)), tw_U]) (st1 := [.int (nI nd), .ref 14]) (σ1 := σ) rfl (by simp only [tw_nadd, tw_nmul]) (rfl) (rfl) ?_
        refine tw_alc (k := 14) (j := nd) (len := 80) rfl rfl rfl (rfl) (by omega) (by decide) ?_
        rw [e14]
        refine tw_swz (lo := 98) (j := 115) rfl (rfl) (by decide) (by decide) (by decide) rfl ?_
        show tw_P L xs _ 56 85 [.ref 13, .int (nI nd), .int c, .int p, .int (nI n), .int (nI e), .int (nI a), .int (σ 17 nd), .int (nI q), .int (nI (e + 1)), tw_U] [] σ _
        refine tw_sg 8 (i1 := 93) (ls1 := [.ref 13, .int (nI nd), .int c, .int p, .int (nI n), .int (nI e), .int (nI a), .int (σ 17 nd), .int (nI q), .int (nI (e + 1)), tw_U]) (st1 := [.int (nI (e + 1)), .int (nI n), .int (p + nI q), .int c, .int (nI a), .ref 13]) (σ1 := σ) rfl ?_
        refine tw_cl1 rfl (rfl) (by omega) (ih (e + 1) a _ _ (by omega) hta) ?_
        rintro _ _ ⟨⟨u7, rfl⟩, rfl⟩
        show tw_P L xs _ 56 94 [.ref 13, .int (nI nd), .int c, .int p, .int (nI n), .int (nI e), .int (nI a), .int (σ 17 nd), .int (nI q), .int (nI (e + 1)), tw_U] [.int u7] σ _
        refine tw_ri rfl (rfl) ?_
        exact ⟨⟨_, rfl⟩, rfl⟩
      · skip
        show tw_P L xs _ 56 0 [.ref 13, .int (nI nd), .int c, .int p, .int (nI n), .int (nI e), tw_U, tw_U, tw_U, tw_U, tw_U] [] σ _
        refine tw_sg 1 (i1 := 1) (ls1 := [.ref 13, .int (nI nd), .int c, .int p, .int (nI n), .int (nI e), tw_U, tw_U, tw_U, tw_U, tw_U]) (st1 := [.int (nI nd)]) (σ1 := σ) rfl ?_
        refine tw_bzF (c := .lt) rfl (by rw [tw_clt', tw_nlt (by omega) (by omega)] <;> omega) ?_
        show tw_P L xs _ 56 2 [.ref 13, .int (nI nd), .int c, .int p, .int (nI n), .int (nI e), tw_U, tw_U, tw_U, tw_U, tw_U] [] σ _
        refine tw_sgn 3 (i1 := 5) (ls0 := [.ref 13, .int (nI nd), .int c, .int p, .int (nI n), .int (nI e), tw_U, tw_U, tw_U, tw_U, tw_U]) (st0 := [.int (σ 13 4), .int (nI nd)]) (σ0 := σ) (ls1 := [.ref 13, .int (nI nd), .int c, .int p, .int (nI n), .int (nI e), tw_U, tw_U, tw_U, tw_U, tw_U]) (st1 := [.int (nI k), .int (nI nd)]) (σ1 := σ) rfl (rfl) (by simp only [h13, tw_nadd, tw_nmul]) (rfl) ?_
        refine tw_biF (c := .ge) rfl (by rw [tw_cge', tw_nle (by omega) (by omega)] <;> omega) ?_
        show tw_P L xs _ 56 6 [.ref 13, .int (nI nd), .int c, .int p, .int (nI n), .int (nI e), tw_U, tw_U, tw_U, tw_U, tw_U] [] σ _
        refine tw_sg 2 (i1 := 8) (ls1 := [.ref 13, .int (nI nd), .int c, .int p, .int (nI n), .int (nI e), tw_U, tw_U, tw_U, tw_U, tw_U]) (st1 := [.int (nI 80), .int (nI nd)]) (σ1 := σ) rfl ?_
        refine tw_biF (c := .ge) rfl (by rw [tw_cge', tw_nle (by omega) (by omega)] <;> omega) ?_
        show tw_P L xs _ 56 9 [.ref 13, .int (nI nd), .int c, .int p, .int (nI n), .int (nI e), tw_U, tw_U, tw_U, tw_U, tw_U] [] σ _
        refine tw_sg 2 (i1 := 11) (ls1 := [.ref 13, .int (nI nd), .int c, .int p, .int (nI n), .int (nI e), tw_U, tw_U, tw_U, tw_U, tw_U]) (st1 := [.int (nI 6), .int (nI e)]) (σ1 := σ) rfl ?_
        refine tw_biT (c := .le) rfl (by rw [tw_cle, tw_nle (by omega) (by omega)] <;> omega) ?_
        show tw_P L xs _ 56 14 [.ref 13, .int (nI nd), .int c, .int p, .int (nI n), .int (nI e), tw_U, tw_U, tw_U, tw_U, tw_U] [] σ _
        refine tw_sg 3 (i1 := 17) (ls1 := [.ref 13, .int (nI nd), .int c, .int p, .int (nI n), .int (nI e), tw_U, tw_U, tw_U, tw_U, tw_U]) (st1 := [.int (nI nd), .ref 16]) (σ1 := σ) rfl ?_
        refine tw_al (k := 16) (j := nd) (len := 80) rfl rfl rfl rfl (rfl) (by omega) (by decide) ?_
        rw [e16]
        refine tw_sg 4 (i1 := 22) (ls1 := [.ref 13, .int (nI nd), .int c, .int p, .int (nI n), .int (nI e), .int (nI a), tw_U, tw_U, tw_U, tw_U]) (st1 := [.int (nI nd), .ref 17]) (σ1 := σ) rfl ?_
        refine tw_al (k := 17) (j := nd) (len := 80) rfl rfl rfl rfl (rfl) (by omega) (by decide) ?_
        refine tw_sg 4 (i1 := 27) (ls1 := [.ref 13, .int (nI nd), .int c, .int p, .int (nI n), .int (nI e), .int (nI a), .int (σ 17 nd), tw_U, tw_U, tw_U]) (st1 := [.int (nI nd), .ref 15]) (σ1 := σ) rfl ?_
        refine tw_al (k := 15) (j := nd) (len := 80) rfl rfl rfl rfl (rfl) (by omega) (by decide) ?_
        rw [e15]
        refine tw_sgn 8 (i1 := 36) (ls0 := [.ref 13, .int (nI nd), .int c, .int p, .int (nI n), .int (nI e), .int (nI a), .int (σ 17 nd), .int (nI q), .int (nI e + nI 1), tw_U]) (st0 := [.int (nI nd), .ref 14]) (σ0 := σ) (ls1 := [.ref 13, .int (nI nd), .int c, .int p, .int (nI n), .int (nI e), .int (nI a), .int (σ 17 nd), .int (nI q), .int (nI (e + 1)), tw_U]) (st1 := [.int (nI nd), .ref 14]) (σ1 := σ) rfl (by simp only [tw_nadd, tw_nmul]) (rfl) (rfl) ?_
        refine tw_alc (k := 14) (j := nd) (len := 80) rfl rfl rfl (rfl) (by omega) (by decide) ?_
        rw [e14]
        refine tw_swz (lo := 98) (j := 100) rfl (rfl) (by decide) (by decide) (by decide) rfl ?_
        show tw_P L xs _ 56 95 [.ref 13, .int (nI nd), .int c, .int p, .int (nI n), .int (nI e), .int (nI a), .int (σ 17 nd), .int (nI q), .int (nI (e + 1)), tw_U] [] σ _
        refine tw_sg 8 (i1 := 103) (ls1 := [.ref 13, .int (nI nd), .int c, .int p, .int (nI n), .int (nI e), .int (nI a), .int (σ 17 nd), .int (nI q), .int (nI (e + 1)), tw_U]) (st1 := [.int (nI (e + 1)), .int (nI n), .int (p + c), .int c, .int (nI a), .ref 13]) (σ1 := σ) rfl ?_
        refine tw_cl1 rfl (rfl) (by omega) (ih (e + 1) a _ _ (by omega) hta) ?_
        rintro _ _ ⟨⟨u8, rfl⟩, rfl⟩
        show tw_P L xs _ 56 104 [.ref 13, .int (nI nd), .int c, .int p, .int (nI n), .int (nI e), .int (nI a), .int (σ 17 nd), .int (nI q), .int (nI (e + 1)), tw_U] [.int u8] σ _
        refine tw_ri rfl (rfl) ?_
        exact ⟨⟨_, rfl⟩, rfl⟩
      · skip
        show tw_P L xs _ 56 0 [.ref 13, .int (nI nd), .int c, .int p, .int (nI n), .int (nI e), tw_U, tw_U, tw_U, tw_U, tw_U] [] σ _
        refine tw_sg 1 (i1 := 1) (ls1 := [.ref 13, .int (nI nd), .int c, .int p, .int (nI n), .int (nI e), tw_U, tw_U, tw_U, tw_U, tw_U]) (st1 := [.int (nI nd)]) (σ1 := σ) rfl ?_
        refine tw_bzF (c := .lt) rfl (by rw [tw_clt', tw_nlt (by omega) (by omega)] <;> omega) ?_
        show tw_P L xs _ 56 2 [.ref 13, .int (nI nd), .int c, .int p, .int (nI n), .int (nI e), tw_U, tw_U, tw_U, tw_U, tw_U] [] σ _
        refine tw_sgn 3 (i1 := 5) (ls0 := [.ref 13, .int (nI nd), .int c, .int p, .int (nI n), .int (nI e), tw_U, tw_U, tw_U, tw_U, tw_U]) (st0 := [.int (σ 13 4), .int (nI nd)]) (σ0 := σ) (ls1 := [.ref 13, .int (nI nd), .int c, .int p, .int (nI n), .int (nI e), tw_U, tw_U, tw_U, tw_U, tw_U]) (st1 := [.int (nI k), .int (nI nd)]) (σ1 := σ) rfl (rfl) (by simp only [h13, tw_nadd, tw_nmul]) (rfl) ?_
        refine tw_biF (c := .ge) rfl (by rw [tw_cge', tw_nle (by omega) (by omega)] <;> omega) ?_
        show tw_P L xs _ 56 6 [.ref 13, .int (nI nd), .int c, .int p, .int (nI n), .int (nI e), tw_U, tw_U, tw_U, tw_U, tw_U] [] σ _
        refine tw_sg 2 (i1 := 8) (ls1 := [.ref 13, .int (nI nd), .int c, .int p, .int (nI n), .int (nI e), tw_U, tw_U, tw_U, tw_U, tw_U]) (st1 := [.int (nI 80), .int (nI nd)]) (σ1 := σ) rfl ?_
        refine tw_biF (c := .ge) rfl (by rw [tw_cge', tw_nle (by omega) (by omega)] <;> omega) ?_
        show tw_P L xs _ 56 9 [.ref 13, .int (nI nd), .int c, .int p, .int (nI n), .int (nI e), tw_U, tw_U, tw_U, tw_U, tw_U] [] σ _
        refine tw_sg 2 (i1 := 11) (ls1 := [.ref 13, .int (nI nd), .int c, .int p, .int (nI n), .int (nI e), tw_U, tw_U, tw_U, tw_U, tw_U]) (st1 := [.int (nI 6), .int (nI e)]) (σ1 := σ) rfl ?_
        refine tw_biT (c := .le) rfl (by rw [tw_cle, tw_nle (by omega) (by omega)] <;> omega) ?_
        show tw_P L xs _ 56 14 [.ref 13, .int (nI nd), .int c, .int p, .int (nI n), .int (nI e), tw_U, tw_U, tw_U, tw_U, tw_U] [] σ _
        refine tw_sg 3 (i1 := 17) (ls1 := [.ref 13, .int (nI nd), .int c, .int p, .int (nI n), .int (nI e), tw_U, tw_U, tw_U, tw_U, tw_U]) (st1 := [.int (nI nd), .ref 16]) (σ1 := σ) rfl ?_
        refine tw_al (k := 16) (j := nd) (len := 80) rfl rfl rfl rfl (rfl) (by omega) (by decide) ?_
        rw [e16]
        refine tw_sg 4 (i1 := 22) (ls1 := [.ref 13, .int (nI nd), .int c, .int p, .int (nI n), .int (nI e), .int (nI a), tw_U, tw_U, tw_U, tw_U]) (st1 := [.int (nI nd), .ref 17]) (σ1 := σ) rfl ?_
        refine tw_al (k := 17) (j := nd) (len := 80) rfl rfl rfl rfl (rfl) (by omega) (by decide) ?_
        refine tw_sg 4 (i1 := 27) (ls1 := [.ref 13, .int (nI nd), .int c, .int p, .int (nI n), .int (nI e), .int (nI a), .int (σ 17 nd), tw_U, tw_U, tw_U]) (st1 := [.int (nI nd), .ref 15]) (σ1 := σ) rfl ?_
        refine tw_al (k := 15) (j := nd) (len := 80) rfl rfl rfl rfl (rfl) (by omega) (by decide) ?_
        rw [e15]
        refine tw_sgn 8 (i1 := 36) (ls0 := [.ref 13, .int (nI nd), .int c, .int p, .int (nI n), .int (nI e), .int (nI a), .int (σ 17 nd), .int (nI q), .int (nI e + nI 1), tw_U]) (st0 := [.int (nI nd), .ref 14]) (σ0 := σ) (ls1 := [.ref 13, .int (nI nd), .int c, .int p, .int (nI n), .int (nI e), .int (nI a), .int (σ 17 nd), .int (nI q), .int (nI (e + 1)), tw_U]) (st1 := [.int (nI nd), .ref 14]) (σ1 := σ) rfl (by simp only [tw_nadd, tw_nmul]) (rfl) (rfl) ?_
        refine tw_alc (k := 14) (j := nd) (len := 80) rfl rfl rfl (rfl) (by omega) (by decide) ?_
        rw [e14]
        refine tw_swz (lo := 98) (j := 114) rfl (rfl) (by decide) (by decide) (by decide) rfl ?_
        show tw_P L xs _ 56 105 [.ref 13, .int (nI nd), .int c, .int p, .int (nI n), .int (nI e), .int (nI a), .int (σ 17 nd), .int (nI q), .int (nI (e + 1)), tw_U] [] σ _
        refine tw_sg 6 (i1 := 111) (ls1 := [.ref 13, .int (nI nd), .int c, .int p, .int (nI n), .int (nI e), .int (nI a), .int (σ 17 nd), .int (nI q), .int (nI (e + 1)), tw_U]) (st1 := [.int (nI (e + 1)), .int (nI n), .int p, .int c, .int (nI a), .ref 13]) (σ1 := σ) rfl ?_
        refine tw_cl1 rfl (rfl) (by omega) (ih (e + 1) a _ _ (by omega) hta) ?_
        rintro _ _ ⟨⟨u9, rfl⟩, rfl⟩
        show tw_P L xs _ 56 112 [.ref 13, .int (nI nd), .int c, .int p, .int (nI n), .int (nI e), .int (nI a), .int (σ 17 nd), .int (nI q), .int (nI (e + 1)), tw_U] [.int u9] σ _
        refine tw_cl0 0 rfl (rfl) (by omega) ?_
        show tw_P L xs _ 59 0 [.int u9] [] σ _
        refine tw_sg 2 (i1 := 2) (ls1 := [.int u9]) (st1 := [.int (nI 1), .int u9]) (σ1 := σ) rfl ?_
        refine tw_bi (c := .ne) rfl (fun h1 => ?_) (fun h1 => ?_)
        · rw [tw_cne] at h1
          refine tw_sg 2 (i1 := 7) (ls1 := [.int u9]) (st1 := [.int (nI 2), .int u9]) (σ1 := σ) rfl ?_
          refine tw_bi (c := .ne) rfl (fun h2 => ?_) (fun h2 => ?_)
          · rw [tw_cne] at h2
            refine tw_sg 1 (i1 := 11) (ls1 := [.int u9]) (st1 := [.int u9]) (σ1 := σ) rfl ?_
            refine tw_ri rfl (rfl) ?_
            show tw_P L xs _ 56 113 [.ref 13, .int (nI nd), .int c, .int p, .int (nI n), .int (nI e), .int (nI a), .int (σ 17 nd), .int (nI q), .int (nI (e + 1)), tw_U] [.int u9] σ _
            refine tw_ri rfl (rfl) ?_
            exact ⟨⟨_, rfl⟩, rfl⟩
          · rw [tw_cne'] at h2
            refine tw_sg 2 (i1 := 11) (ls1 := [.int u9]) (st1 := [.int (nI 1)]) (σ1 := σ) rfl ?_
            refine tw_ri rfl (rfl) ?_
            show tw_P L xs _ 56 113 [.ref 13, .int (nI nd), .int c, .int p, .int (nI n), .int (nI e), .int (nI a), .int (σ 17 nd), .int (nI q), .int (nI (e + 1)), tw_U] [.int (nI 1)] σ _
            refine tw_ri rfl (rfl) ?_
            exact ⟨⟨_, rfl⟩, rfl⟩
        · rw [tw_cne'] at h1
          refine tw_sg 1 (i1 := 4) (ls1 := [.int u9]) (st1 := [.int (nI 2)]) (σ1 := σ) rfl ?_
          refine tw_ri rfl (rfl) ?_
          show tw_P L xs _ 56 113 [.ref 13, .int (nI nd), .int c, .int p, .int (nI n), .int (nI e), .int (nI a), .int (σ 17 nd), .int (nI q), .int (nI (e + 1)), tw_U] [.int (nI 2)] σ _
          refine tw_ri rfl (rfl) ?_
          exact ⟨⟨_, rfl⟩, rfl⟩
      · skip
        show tw_P L xs _ 56 0 [.ref 13, .int (nI nd), .int c, .int p, .int (nI n), .int (nI e), tw_U, tw_U, tw_U, tw_U, tw_U] [] σ _
        refine tw_sg 1 (i1 := 1) (ls1 := [.ref 13, .int (nI nd), .int c, .int p, .int (nI n), .int (nI e), tw_U, tw_U, tw_U, tw_U, tw_U]) (st1 := [.int (nI nd)]) (σ1 := σ) rfl ?_
        refine tw_bzF (c := .lt) rfl (by rw [tw_clt', tw_nlt (by omega) (by omega)] <;> omega) ?_
        show tw_P L xs _ 56 2 [.ref 13, .int (nI nd), .int c, .int p, .int (nI n), .int (nI e), tw_U, tw_U, tw_U, tw_U, tw_U] [] σ _
        refine tw_sgn 3 (i1 := 5) (ls0 := [.ref 13, .int (nI nd), .int c, .int p, .int (nI n), .int (nI e), tw_U, tw_U, tw_U, tw_U, tw_U]) (st0 := [.int (σ 13 4), .int (nI nd)]) (σ0 := σ) (ls1 := [.ref 13, .int (nI nd), .int c, .int p, .int (nI n), .int (nI e), tw_U, tw_U, tw_U, tw_U, tw_U]) (st1 := [.int (nI k), .int (nI nd)]) (σ1 := σ) rfl (rfl) (by simp only [h13, tw_nadd, tw_nmul]) (rfl) ?_
        refine tw_biF (c := .ge) rfl (by rw [tw_cge', tw_nle (by omega) (by omega)] <;> omega) ?_
        show tw_P L xs _ 56 6 [.ref 13, .int (nI nd), .int c, .int p, .int (nI n), .int (nI e), tw_U, tw_U, tw_U, tw_U, tw_U] [] σ _
        refine tw_sg 2 (i1 := 8) (ls1 := [.ref 13, .int (nI nd), .int c, .int p, .int (nI n), .int (nI e), tw_U, tw_U, tw_U, tw_U, tw_U]) (st1 := [.int (nI 80), .int (nI nd)]) (σ1 := σ) rfl ?_
        refine tw_biF (c := .ge) rfl (by rw [tw_cge', tw_nle (by omega) (by omega)] <;> omega) ?_
        show tw_P L xs _ 56 9 [.ref 13, .int (nI nd), .int c, .int p, .int (nI n), .int (nI e), tw_U, tw_U, tw_U, tw_U, tw_U] [] σ _
        refine tw_sg 2 (i1 := 11) (ls1 := [.ref 13, .int (nI nd), .int c, .int p, .int (nI n), .int (nI e), tw_U, tw_U, tw_U, tw_U, tw_U]) (st1 := [.int (nI 6), .int (nI e)]) (σ1 := σ) rfl ?_
        refine tw_biT (c := .le) rfl (by rw [tw_cle, tw_nle (by omega) (by omega)] <;> omega) ?_
        show tw_P L xs _ 56 14 [.ref 13, .int (nI nd), .int c, .int p, .int (nI n), .int (nI e), tw_U, tw_U, tw_U, tw_U, tw_U] [] σ _
        refine tw_sg 3 (i1 := 17) (ls1 := [.ref 13, .int (nI nd), .int c, .int p, .int (nI n), .int (nI e), tw_U, tw_U, tw_U, tw_U, tw_U]) (st1 := [.int (nI nd), .ref 16]) (σ1 := σ) rfl ?_
        refine tw_al (k := 16) (j := nd) (len := 80) rfl rfl rfl rfl (rfl) (by omega) (by decide) ?_
        rw [e16]
        refine tw_sg 4 (i1 := 22) (ls1 := [.ref 13, .int (nI nd), .int c, .int p, .int (nI n), .int (nI e), .int (nI a), tw_U, tw_U, tw_U, tw_U]) (st1 := [.int (nI nd), .ref 17]) (σ1 := σ) rfl ?_
        refine tw_al (k := 17) (j := nd) (len := 80) rfl rfl rfl rfl (rfl) (by omega) (by decide) ?_
        refine tw_sg 4 (i1 := 27) (ls1 := [.ref 13, .int (nI nd), .int c, .int p, .int (nI n), .int (nI e), .int (nI a), .int (σ 17 nd), tw_U, tw_U, tw_U]) (st1 := [.int (nI nd), .ref 15]) (σ1 := σ) rfl ?_
        refine tw_al (k := 15) (j := nd) (len := 80) rfl rfl rfl rfl (rfl) (by omega) (by decide) ?_
        rw [e15]
        refine tw_sgn 8 (i1 := 36) (ls0 := [.ref 13, .int (nI nd), .int c, .int p, .int (nI n), .int (nI e), .int (nI a), .int (σ 17 nd), .int (nI q), .int (nI e + nI 1), tw_U]) (st0 := [.int (nI nd), .ref 14]) (σ0 := σ) (ls1 := [.ref 13, .int (nI nd), .int c, .int p, .int (nI n), .int (nI e), .int (nI a), .int (σ 17 nd), .int (nI q), .int (nI (e + 1)), tw_U]) (st1 := [.int (nI nd), .ref 14]) (σ1 := σ) rfl (by simp only [tw_nadd, tw_nmul]) (rfl) (rfl) ?_
        refine tw_alc (k := 14) (j := nd) (len := 80) rfl rfl rfl (rfl) (by omega) (by decide) ?_
        rw [e14]
        refine tw_swz (lo := 98) (j := 109) rfl (rfl) (by decide) (by decide) (by decide) rfl ?_
        show tw_P L xs _ 56 114 [.ref 13, .int (nI nd), .int c, .int p, .int (nI n), .int (nI e), .int (nI a), .int (σ 17 nd), .int (nI q), .int (nI (e + 1)), tw_U] [] σ _
        refine tw_sg 10 (i1 := 124) (ls1 := [.ref 13, .int (nI nd), .int c, .int p, .int (nI n), .int (nI e), .int (nI a), .int (σ 17 nd), .int (nI q), .int (nI (e + 1)), tw_U]) (st1 := [.int (nI (e + 1)), .int (nI n), .int p, .int ((nI n - nI 1) - c), .int (nI a), .ref 13]) (σ1 := σ) rfl ?_
        refine tw_cl1 rfl (rfl) (by omega) (ih (e + 1) a _ _ (by omega) hta) ?_
        rintro _ _ ⟨⟨u10, rfl⟩, rfl⟩
        show tw_P L xs _ 56 125 [.ref 13, .int (nI nd), .int c, .int p, .int (nI n), .int (nI e), .int (nI a), .int (σ 17 nd), .int (nI q), .int (nI (e + 1)), tw_U] [.int u10] σ _
        refine tw_ri rfl (rfl) ?_
        exact ⟨⟨_, rfl⟩, rfl⟩
      · skip
        obtain ⟨s, e17, e102, hts⟩ := hs (by unfold tw_pair; omega)
        have e17 : σ 17 nd = _ := (hμ 17 nd (by omega) (by omega)).trans e17
        have hs80 : s < 80 := by
          cases f with
          | zero => exact absurd hts (fun h => h)
          | succ f => exact Nat.lt_of_lt_of_le hts.1 hk
        show tw_P L xs _ 56 0 [.ref 13, .int (nI nd), .int c, .int p, .int (nI n), .int (nI e), tw_U, tw_U, tw_U, tw_U, tw_U] [] σ _
        refine tw_sg 1 (i1 := 1) (ls1 := [.ref 13, .int (nI nd), .int c, .int p, .int (nI n), .int (nI e), tw_U, tw_U, tw_U, tw_U, tw_U]) (st1 := [.int (nI nd)]) (σ1 := σ) rfl ?_
        refine tw_bzF (c := .lt) rfl (by rw [tw_clt', tw_nlt (by omega) (by omega)] <;> omega) ?_
        show tw_P L xs _ 56 2 [.ref 13, .int (nI nd), .int c, .int p, .int (nI n), .int (nI e), tw_U, tw_U, tw_U, tw_U, tw_U] [] σ _
        refine tw_sgn 3 (i1 := 5) (ls0 := [.ref 13, .int (nI nd), .int c, .int p, .int (nI n), .int (nI e), tw_U, tw_U, tw_U, tw_U, tw_U]) (st0 := [.int (σ 13 4), .int (nI nd)]) (σ0 := σ) (ls1 := [.ref 13, .int (nI nd), .int c, .int p, .int (nI n), .int (nI e), tw_U, tw_U, tw_U, tw_U, tw_U]) (st1 := [.int (nI k), .int (nI nd)]) (σ1 := σ) rfl (rfl) (by simp only [h13, tw_nadd, tw_nmul]) (rfl) ?_
        refine tw_biF (c := .ge) rfl (by rw [tw_cge', tw_nle (by omega) (by omega)] <;> omega) ?_
        show tw_P L xs _ 56 6 [.ref 13, .int (nI nd), .int c, .int p, .int (nI n), .int (nI e), tw_U, tw_U, tw_U, tw_U, tw_U] [] σ _
        refine tw_sg 2 (i1 := 8) (ls1 := [.ref 13, .int (nI nd), .int c, .int p, .int (nI n), .int (nI e), tw_U, tw_U, tw_U, tw_U, tw_U]) (st1 := [.int (nI 80), .int (nI nd)]) (σ1 := σ) rfl ?_
        refine tw_biF (c := .ge) rfl (by rw [tw_cge', tw_nle (by omega) (by omega)] <;> omega) ?_
        show tw_P L xs _ 56 9 [.ref 13, .int (nI nd), .int c, .int p, .int (nI n), .int (nI e), tw_U, tw_U, tw_U, tw_U, tw_U] [] σ _
        refine tw_sg 2 (i1 := 11) (ls1 := [.ref 13, .int (nI nd), .int c, .int p, .int (nI n), .int (nI e), tw_U, tw_U, tw_U, tw_U, tw_U]) (st1 := [.int (nI 6), .int (nI e)]) (σ1 := σ) rfl ?_
        refine tw_biT (c := .le) rfl (by rw [tw_cle, tw_nle (by omega) (by omega)] <;> omega) ?_
        show tw_P L xs _ 56 14 [.ref 13, .int (nI nd), .int c, .int p, .int (nI n), .int (nI e), tw_U, tw_U, tw_U, tw_U, tw_U] [] σ _
        refine tw_sg 3 (i1 := 17) (ls1 := [.ref 13, .int (nI nd), .int c, .int p, .int (nI n), .int (nI e), tw_U, tw_U, tw_U, tw_U, tw_U]) (st1 := [.int (nI nd), .ref 16]) (σ1 := σ) rfl ?_
        refine tw_al (k := 16) (j := nd) (len := 80) rfl rfl rfl rfl (rfl) (by omega) (by decide) ?_
        rw [e16]
        refine tw_sg 4 (i1 := 22) (ls1 := [.ref 13, .int (nI nd), .int c, .int p, .int (nI n), .int (nI e), .int (nI a), tw_U, tw_U, tw_U, tw_U]) (st1 := [.int (nI nd), .ref 17]) (σ1 := σ) rfl ?_
        refine tw_al (k := 17) (j := nd) (len := 80) rfl rfl rfl rfl (rfl) (by omega) (by decide) ?_
        rw [e17]
        refine tw_sg 4 (i1 := 27) (ls1 := [.ref 13, .int (nI nd), .int c, .int p, .int (nI n), .int (nI e), .int (nI a), .int (nI s), tw_U, tw_U, tw_U]) (st1 := [.int (nI nd), .ref 15]) (σ1 := σ) rfl ?_
        refine tw_al (k := 15) (j := nd) (len := 80) rfl rfl rfl rfl (rfl) (by omega) (by decide) ?_
        rw [e15]
        refine tw_sgn 8 (i1 := 36) (ls0 := [.ref 13, .int (nI nd), .int c, .int p, .int (nI n), .int (nI e), .int (nI a), .int (nI s), .int (nI q), .int (nI e + nI 1), tw_U]) (st0 := [.int (nI nd), .ref 14]) (σ0 := σ) (ls1 := [.ref 13, .int (nI nd), .int c, .int p, .int (nI n), .int (nI e), .int (nI a), .int (nI s), .int (nI q), .int (nI (e + 1)), tw_U]) (st1 := [.int (nI nd), .ref 14]) (σ1 := σ) rfl (by simp only [tw_nadd, tw_nmul]) (rfl) (rfl) ?_
        refine tw_alc (k := 14) (j := nd) (len := 80) rfl rfl rfl (rfl) (by omega) (by decide) ?_
        rw [e14]
        refine tw_swz (lo := 98) (j := 116) rfl (rfl) (by decide) (by decide) (by decide) rfl ?_
        show tw_P L xs _ 56 126 [.ref 13, .int (nI nd), .int c, .int p, .int (nI n), .int (nI e), .int (nI a), .int (nI s), .int (nI q), .int (nI (e + 1)), tw_U] [] σ _
        refine tw_sg 6 (i1 := 132) (ls1 := [.ref 13, .int (nI nd), .int c, .int p, .int (nI n), .int (nI e), .int (nI a), .int (nI s), .int (nI q), .int (nI (e + 1)), tw_U]) (st1 := [.int (nI (e + 1)), .int (nI n), .int p, .int c, .int (nI a), .ref 13]) (σ1 := σ) rfl ?_
        refine tw_cl1 rfl (rfl) (by omega) (ih (e + 1) a _ _ (by omega) hta) ?_
        rintro _ _ ⟨⟨u11, rfl⟩, rfl⟩
        show tw_P L xs _ 56 133 [.ref 13, .int (nI nd), .int c, .int p, .int (nI n), .int (nI e), .int (nI a), .int (nI s), .int (nI q), .int (nI (e + 1)), tw_U] [.int u11] σ _
        refine tw_sg 2 (i1 := 135) (ls1 := [.ref 13, .int (nI nd), .int c, .int p, .int (nI n), .int (nI e), .int (nI a), .int (nI s), .int (nI q), .int (nI (e + 1)), .int u11]) (st1 := [.int u11]) (σ1 := σ) rfl ?_
        refine tw_bz (c := .eq) rfl (fun h1 => ?_) (fun h1 => ?_)
        · rw [tw_ceq] at h1
          refine tw_sg 6 (i1 := 144) (ls1 := [.ref 13, .int (nI nd), .int c, .int p, .int (nI n), .int (nI e), .int (nI a), .int (nI s), .int (nI q), .int (nI (e + 1)), .int u11]) (st1 := [.int (nI (e + 1)), .int (nI n), .int p, .int c, .int (nI s), .ref 13]) (σ1 := σ) rfl ?_
          refine tw_cl1 rfl (rfl) (by omega) (ih (e + 1) s _ _ (by omega) hts) ?_
          rintro _ _ ⟨⟨u12, rfl⟩, rfl⟩
          show tw_P L xs _ 56 145 [.ref 13, .int (nI nd), .int c, .int p, .int (nI n), .int (nI e), .int (nI a), .int (nI s), .int (nI q), .int (nI (e + 1)), .int u11] [.int u12] σ _
          refine tw_ri rfl (rfl) ?_
          exact ⟨⟨_, rfl⟩, rfl⟩
        · rw [tw_ceq'] at h1
          refine tw_sg 2 (i1 := 145) (ls1 := [.ref 13, .int (nI nd), .int c, .int p, .int (nI n), .int (nI e), .int (nI a), .int (nI s), .int (nI q), .int (nI (e + 1)), .int u11]) (st1 := [.int u11]) (σ1 := σ) rfl ?_
          refine tw_ri rfl (rfl) ?_
          exact ⟨⟨_, rfl⟩, rfl⟩
set_option maxRecDepth 100000 in
theorem tw_e_turnAny {μ : tw_Mem} {n : Nat} {c p : Int32} (hμ : ∀ k j, 13 ≤ k → k ≤ 17 → σ k j = μ k j) (hL : tw_iLaw μ 6 0) : tw_E L xs 9 55 [.ref 13, .int c, .int p, .int (nI n)] σ (fun v σ1 => (∃ u : Int32, v = some (.int u)) ∧ σ = σ1) := by
  rcases hL with ⟨e1, e2⟩ | ⟨k, hk, e1, e2⟩
  · skip
    have e1 : σ 13 4 = nI 0 := (hμ 13 4 (by omega) (by omega)).trans e1
    show tw_P L xs _ 55 0 [.ref 13, .int c, .int p, .int (nI n)] [] σ _
    refine tw_sg 6 (i1 := 6) (ls1 := [.ref 13, .int c, .int p, .int (nI n)]) (st1 := [.int (nI 0), .int (nI n), .int p, .int c, .int (nI 0), .ref 13]) (σ1 := σ) rfl ?_
    refine tw_cl0 8 rfl (rfl) (by decide) ?_
    show tw_P L xs _ 56 0 [.ref 13, .int (nI 0), .int c, .int p, .int (nI n), .int (nI 0), tw_U, tw_U, tw_U, tw_U, tw_U] [] σ _
    refine tw_sg 1 (i1 := 1) (ls1 := [.ref 13, .int (nI 0), .int c, .int p, .int (nI n), .int (nI 0), tw_U, tw_U, tw_U, tw_U, tw_U]) (st1 := [.int (nI 0)]) (σ1 := σ) rfl ?_
    refine tw_bzF (c := .lt) rfl (by rw [tw_clt', tw_nlt (by omega) (by omega)] <;> omega) ?_
    show tw_P L xs _ 56 2 [.ref 13, .int (nI 0), .int c, .int p, .int (nI n), .int (nI 0), tw_U, tw_U, tw_U, tw_U, tw_U] [] σ _
    refine tw_sgn 3 (i1 := 5) (ls0 := [.ref 13, .int (nI 0), .int c, .int p, .int (nI n), .int (nI 0), tw_U, tw_U, tw_U, tw_U, tw_U]) (st0 := [.int (σ 13 4), .int (nI 0)]) (σ0 := σ) (ls1 := [.ref 13, .int (nI 0), .int c, .int p, .int (nI n), .int (nI 0), tw_U, tw_U, tw_U, tw_U, tw_U]) (st1 := [.int (nI 0), .int (nI 0)]) (σ1 := σ) rfl (rfl) (by simp only [e1, tw_nadd, tw_nmul]) (rfl) ?_
    refine tw_biT (c := .ge) rfl (by rw [tw_cge, tw_nle (by omega) (by omega)] <;> omega) ?_
    show tw_P L xs _ 56 12 [.ref 13, .int (nI 0), .int c, .int p, .int (nI n), .int (nI 0), tw_U, tw_U, tw_U, tw_U, tw_U] [] σ _
    refine tw_sg 1 (i1 := 13) (ls1 := [.ref 13, .int (nI 0), .int c, .int p, .int (nI n), .int (nI 0), tw_U, tw_U, tw_U, tw_U, tw_U]) (st1 := [.int (nI 0)]) (σ1 := σ) rfl ?_
    refine tw_ri rfl (rfl) ?_
    show tw_P L xs _ 55 7 [.ref 13, .int c, .int p, .int (nI n)] [.int (nI 0)] σ _
    refine tw_ri rfl (rfl) ?_
    exact ⟨⟨_, rfl⟩, rfl⟩
  · skip
    have e1 : σ 13 4 = nI k := (hμ 13 4 (by omega) (by omega)).trans e1
    show tw_P L xs _ 55 0 [.ref 13, .int c, .int p, .int (nI n)] [] σ _
    refine tw_sg 6 (i1 := 6) (ls1 := [.ref 13, .int c, .int p, .int (nI n)]) (st1 := [.int (nI 0), .int (nI n), .int p, .int c, .int (nI 0), .ref 13]) (σ1 := σ) rfl ?_
    refine tw_cl1 rfl (rfl) (by decide) (tw_e_valueAny hk e1 hμ 7 0 0 c p (by omega) e2) ?_
    rintro _ _ ⟨⟨u, rfl⟩, rfl⟩
    show tw_P L xs _ 55 7 [.ref 13, .int c, .int p, .int (nI n)] [.int u] σ _
    refine tw_ri rfl (rfl) ?_
    exact ⟨⟨_, rfl⟩, rfl⟩
end tw_s43
