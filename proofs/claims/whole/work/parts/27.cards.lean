/-! cards -/
section tw_s27
variable {L : Nat} {xs : Nat → Int32} {σ : tw_Mem} {x y w : Int32} {n r i c k h q a b e : Nat}
set_option maxHeartbeats 4000000 in
set_option maxRecDepth 100000 in
theorem tw_e_cardAt1 (hn6 : σ 6 4 = nI n) (h10 : n ≤ 10) (hc : c < n) : tw_E L xs 0 85 [.ref 6, .int (nI c)] σ (fun v σ1 => v = some (.ref (2 * c + 18)) ∧ σ = σ1) := by
  show tw_P L xs _ 85 0 [.ref 6, .int (nI c)] [] σ _
  refine tw_sg 1 (i1 := 1) (ls1 := [.ref 6, .int (nI c)]) (st1 := [.int (nI c)]) (σ1 := σ) rfl ?_
  refine tw_bzF (c := .lt) rfl (by rw [tw_clt', tw_nlt (by omega) (by omega)] <;> omega) ?_
  show tw_P L xs _ 85 2 [.ref 6, .int (nI c)] [] σ _
  refine tw_sgn 3 (i1 := 5) (ls0 := [.ref 6, .int (nI c)]) (st0 := [.int (σ 6 4), .int (nI c)]) (σ0 := σ) (ls1 := [.ref 6, .int (nI c)]) (st1 := [.int (nI n), .int (nI c)]) (σ1 := σ) rfl (rfl) (by simp only [hn6, tw_nadd, tw_nmul]) (rfl) ?_
  refine tw_biF (c := .ge) rfl (by rw [tw_cge', tw_nle (by omega) (by omega)] <;> omega) ?_
  show tw_P L xs _ 85 6 [.ref 6, .int (nI c)] [] σ _
  refine tw_sg 2 (i1 := 8) (ls1 := [.ref 6, .int (nI c)]) (st1 := [.int (nI 10), .int (nI c)]) (σ1 := σ) rfl ?_
  refine tw_biF (c := .ge) rfl (by rw [tw_cge', tw_nle (by omega) (by omega)] <;> omega) ?_
  show tw_P L xs _ 85 9 [.ref 6, .int (nI c)] [] σ _
  refine tw_sg 3 (i1 := 12) (ls1 := [.ref 6, .int (nI c)]) (st1 := [.int (nI c), .ref 7]) (σ1 := σ) rfl ?_
  refine tw_aal (k := 7) (j := c) (len := 10) (t := (2 * c + 18)) rfl rfl rfl rfl (by omega) (by decide) (tw_cdA (by omega)) ?_
  refine tw_sg 1 (i1 := 15) (ls1 := [.ref 6, .int (nI c)]) (st1 := [.ref (2 * c + 18)]) (σ1 := σ) rfl ?_
  refine tw_ra rfl ?_
  exact ⟨rfl, rfl⟩
set_option maxHeartbeats 4000000 in
set_option maxRecDepth 100000 in
theorem tw_e_cardAt0a (hx : x < nI 0) : tw_E L xs 0 85 [.ref 6, .int x] σ (fun v σ1 => v = some .null ∧ σ = σ1) := by
  show tw_P L xs _ 85 0 [.ref 6, .int x] [] σ _
  refine tw_sg 1 (i1 := 1) (ls1 := [.ref 6, .int x]) (st1 := [.int x]) (σ1 := σ) rfl ?_
  refine tw_bzT (c := .lt) rfl (by rw [tw_clt]; exact hx) ?_
  show tw_P L xs _ 85 14 [.ref 6, .int x] [] σ _
  refine tw_sg 1 (i1 := 15) (ls1 := [.ref 6, .int x]) (st1 := [.null]) (σ1 := σ) rfl ?_
  refine tw_rn rfl ?_
  exact ⟨rfl, rfl⟩
set_option maxHeartbeats 4000000 in
set_option maxRecDepth 100000 in
theorem tw_e_cardAt0b (hn6 : σ 6 4 = nI n) (hx : ¬ x < nI 0) (hy : nI n ≤ x) : tw_E L xs 0 85 [.ref 6, .int x] σ (fun v σ1 => v = some .null ∧ σ = σ1) := by
  show tw_P L xs _ 85 0 [.ref 6, .int x] [] σ _
  refine tw_sg 1 (i1 := 1) (ls1 := [.ref 6, .int x]) (st1 := [.int x]) (σ1 := σ) rfl ?_
  refine tw_bzF (c := .lt) rfl (by rw [tw_clt']; exact hx) ?_
  show tw_P L xs _ 85 2 [.ref 6, .int x] [] σ _
  refine tw_sgn 3 (i1 := 5) (ls0 := [.ref 6, .int x]) (st0 := [.int (σ 6 4), .int x]) (σ0 := σ) (ls1 := [.ref 6, .int x]) (st1 := [.int (nI n), .int x]) (σ1 := σ) rfl (rfl) (by simp only [hn6, tw_nadd, tw_nmul]) (rfl) ?_
  refine tw_biT (c := .ge) rfl (by rw [tw_cge]; exact hy) ?_
  show tw_P L xs _ 85 14 [.ref 6, .int x] [] σ _
  refine tw_sg 1 (i1 := 15) (ls1 := [.ref 6, .int x]) (st1 := [.null]) (σ1 := σ) rfl ?_
  refine tw_rn rfl ?_
  exact ⟨rfl, rfl⟩
theorem tw_e_cardAt0 (hn6 : σ 6 4 = nI n) (hx : x < nI 0 ∨ (¬ x < nI 0 ∧ nI n ≤ x)) : tw_E L xs 0 85 [.ref 6, .int x] σ (fun v σ1 => v = some .null ∧ σ = σ1) := by
  rcases hx with hx | ⟨hx, hy⟩
  · exact tw_e_cardAt0a hx
  · exact tw_e_cardAt0b hn6 hx hy
set_option maxHeartbeats 4000000 in
set_option maxRecDepth 100000 in
theorem tw_e_flip (hc : c < 10) : tw_E L xs 0 4 [.ref (2 * c + 18)] σ (fun v σ1 => v = some (.int (nI 1 - σ (2 * c + 18) 1)) ∧ tw_upd σ (2 * c + 18) 1 (nI 1 - σ (2 * c + 18) 1) = σ1) := by
  show tw_P L xs _ 4 0 [.ref (2 * c + 18)] [] σ _
  refine tw_sg 3 (i1 := 3) (ls1 := [.ref (2 * c + 18)]) (st1 := [.ref (2 * c + 18), .int (nI 1), .ref (2 * c + 18)]) (σ1 := σ) rfl ?_
  refine tw_gf rfl (tw_cdO hc) (tw_cdB hc (by decide)) (v := .int (σ (2 * c + 18) 1)) (tw_cdV1 hc) ?_
  refine tw_sg 1 (i1 := 5) (ls1 := [.ref (2 * c + 18)]) (st1 := [.int (nI 1 - (σ (2 * c + 18) 1)), .ref (2 * c + 18)]) (σ1 := σ) rfl ?_
  refine tw_pf rfl (tw_cdO hc) (tw_cdB hc (by decide)) (tw_cdK1 hc) ?_
  refine tw_sg 1 (i1 := 7) (ls1 := [.ref (2 * c + 18)]) (st1 := [.ref (2 * c + 18)]) (σ1 := (tw_upd σ (2 * c + 18) 1 (nI 1 - (σ (2 * c + 18) 1)))) rfl ?_
  refine tw_gf rfl (tw_cdO hc) (tw_cdB hc (by decide)) (v := .int ((tw_upd σ (2 * c + 18) 1 (nI 1 - (σ (2 * c + 18) 1))) (2 * c + 18) 1)) (tw_cdV1 hc) ?_
  rw [show (tw_upd σ (2 * c + 18) 1 (nI 1 - (σ (2 * c + 18) 1))) (2 * c + 18) 1 = nI 1 - (σ (2 * c + 18) 1) from by repeat (first | exact rfl | exact tw_upd_at | rw [tw_upd_off (by omega)])]
  refine tw_ri rfl (rfl) ?_
  exact ⟨rfl, rfl⟩
set_option maxHeartbeats 4000000 in
set_option maxRecDepth 100000 in
theorem tw_e_putOnTop (hc : c < 10) : tw_E L xs 0 6 [.ref (2 * c + 18), .int x] σ (fun v σ1 => v = some (.int (σ (2 * c + 18) 2)) ∧ tw_upd σ (2 * c + 18) 2 x = σ1) := by
  show tw_P L xs _ 6 0 [.ref (2 * c + 18), .int x, tw_U] [] σ _
  refine tw_sg 1 (i1 := 1) (ls1 := [.ref (2 * c + 18), .int x, tw_U]) (st1 := [.ref (2 * c + 18)]) (σ1 := σ) rfl ?_
  refine tw_gf rfl (tw_cdO hc) (tw_cdB hc (by decide)) (v := .int (σ (2 * c + 18) 2)) (tw_cdV2 hc) ?_
  refine tw_sg 3 (i1 := 5) (ls1 := [.ref (2 * c + 18), .int x, .int (σ (2 * c + 18) 2)]) (st1 := [.int x, .ref (2 * c + 18)]) (σ1 := σ) rfl ?_
  refine tw_pf rfl (tw_cdO hc) (tw_cdB hc (by decide)) (tw_cdK2 hc) ?_
  refine tw_sg 1 (i1 := 7) (ls1 := [.ref (2 * c + 18), .int x, .int (σ (2 * c + 18) 2)]) (st1 := [.int (σ (2 * c + 18) 2)]) (σ1 := (tw_upd σ (2 * c + 18) 2 x)) rfl ?_
  refine tw_ri rfl (rfl) ?_
  exact ⟨rfl, rfl⟩
set_option maxHeartbeats 4000000 in
set_option maxRecDepth 100000 in
theorem tw_e_colourIn1 (hc : c < 10) (hh : h < 4) : tw_E L xs 0 1 [.ref (2 * c + 18), .int (nI h)] σ (fun v σ1 => v = some (.int (σ (2 * c + 19) h)) ∧ σ = σ1) := by
  show tw_P L xs _ 1 0 [.ref (2 * c + 18), .int (nI h)] [] σ _
  refine tw_sg 1 (i1 := 1) (ls1 := [.ref (2 * c + 18), .int (nI h)]) (st1 := [.int (nI h)]) (σ1 := σ) rfl ?_
  refine tw_bzF (c := .lt) rfl (by rw [tw_clt', tw_nlt (by omega) (by omega)] <;> omega) ?_
  show tw_P L xs _ 1 2 [.ref (2 * c + 18), .int (nI h)] [] σ _
  refine tw_sg 2 (i1 := 4) (ls1 := [.ref (2 * c + 18), .int (nI h)]) (st1 := [.ref (2 * c + 18), .int (nI h)]) (σ1 := σ) rfl ?_
  refine tw_gf rfl (tw_cdO hc) (tw_cdB hc (by decide)) (v := .ref (2 * c + 19)) (tw_cdV0 hc) ?_
  refine tw_aln rfl (tw_cdN hc) (tw_cdS hc) rfl (tw_cdL hc) ?_
  refine tw_biF (c := .ge) rfl (by rw [tw_cge', tw_nle (by omega) (by omega)] <;> omega) ?_
  show tw_P L xs _ 1 7 [.ref (2 * c + 18), .int (nI h)] [] σ _
  refine tw_sg 1 (i1 := 8) (ls1 := [.ref (2 * c + 18), .int (nI h)]) (st1 := [.ref (2 * c + 18)]) (σ1 := σ) rfl ?_
  refine tw_gf rfl (tw_cdO hc) (tw_cdB hc (by decide)) (v := .ref (2 * c + 19)) (tw_cdV0 hc) ?_
  refine tw_sg 1 (i1 := 10) (ls1 := [.ref (2 * c + 18), .int (nI h)]) (st1 := [.int (nI h), .ref (2 * c + 19)]) (σ1 := σ) rfl ?_
  refine tw_al (k := (2 * c + 19)) (j := h) rfl (tw_cdN hc) (tw_cdS hc) (tw_cdL hc) (rfl) (by omega) (by decide) ?_
  refine tw_sg 1 (i1 := 13) (ls1 := [.ref (2 * c + 18), .int (nI h)]) (st1 := [.int (σ (2 * c + 19) h)]) (σ1 := σ) rfl ?_
  refine tw_ri rfl (rfl) ?_
  exact ⟨rfl, rfl⟩
set_option maxHeartbeats 4000000 in
set_option maxRecDepth 100000 in
theorem tw_e_dye (hc : c < 10) (hh : h < 4) : tw_E L xs 1 2 [.ref (2 * c + 18), .int (nI h), .int x] σ (fun v σ1 => v = some (.int (σ (2 * c + 19) h)) ∧ tw_upd σ (2 * c + 19) h x = σ1) := by
  show tw_P L xs _ 2 0 [.ref (2 * c + 18), .int (nI h), .int x, tw_U] [] σ _
  refine tw_sg 2 (i1 := 2) (ls1 := [.ref (2 * c + 18), .int (nI h), .int x, tw_U]) (st1 := [.int (nI h), .ref (2 * c + 18)]) (σ1 := σ) rfl ?_
  refine tw_cl1 rfl (tw_inv_ok (y := 1) (b := 1) (st := [.int (nI h), .ref (2 * c + 18)]) (k := (2 * c + 18)) (r := []) rfl rfl (tw_cdO hc)) (by decide) (tw_e_colourIn1 hc hh) ?_
  rintro _ _ ⟨rfl, rfl⟩
  show tw_P L xs _ 2 3 [.ref (2 * c + 18), .int (nI h), .int x, tw_U] [.int (σ (2 * c + 19) h)] σ _
  refine tw_sg 2 (i1 := 5) (ls1 := [.ref (2 * c + 18), .int (nI h), .int x, .int (σ (2 * c + 19) h)]) (st1 := [.int (nI h)]) (σ1 := σ) rfl ?_
  refine tw_bzF (c := .lt) rfl (by rw [tw_clt', tw_nlt (by omega) (by omega)] <;> omega) ?_
  show tw_P L xs _ 2 6 [.ref (2 * c + 18), .int (nI h), .int x, .int (σ (2 * c + 19) h)] [] σ _
  refine tw_sg 2 (i1 := 8) (ls1 := [.ref (2 * c + 18), .int (nI h), .int x, .int (σ (2 * c + 19) h)]) (st1 := [.ref (2 * c + 18), .int (nI h)]) (σ1 := σ) rfl ?_
  refine tw_gf rfl (tw_cdO hc) (tw_cdB hc (by decide)) (v := .ref (2 * c + 19)) (tw_cdV0 hc) ?_
  refine tw_aln rfl (tw_cdN hc) (tw_cdS hc) rfl (tw_cdL hc) ?_
  refine tw_biF (c := .ge) rfl (by rw [tw_cge', tw_nle (by omega) (by omega)] <;> omega) ?_
  show tw_P L xs _ 2 11 [.ref (2 * c + 18), .int (nI h), .int x, .int (σ (2 * c + 19) h)] [] σ _
  refine tw_sg 1 (i1 := 12) (ls1 := [.ref (2 * c + 18), .int (nI h), .int x, .int (σ (2 * c + 19) h)]) (st1 := [.ref (2 * c + 18)]) (σ1 := σ) rfl ?_
  refine tw_gf rfl (tw_cdO hc) (tw_cdB hc (by decide)) (v := .ref (2 * c + 19)) (tw_cdV0 hc) ?_
  refine tw_sg 2 (i1 := 15) (ls1 := [.ref (2 * c + 18), .int (nI h), .int x, .int (σ (2 * c + 19) h)]) (st1 := [.int x, .int (nI h), .ref (2 * c + 19)]) (σ1 := σ) rfl ?_
  refine tw_as (k := (2 * c + 19)) (j := h) rfl (tw_cdS hc) (tw_cdL hc) (rfl) (by omega) (by decide) ?_
  refine tw_sg 1 (i1 := 17) (ls1 := [.ref (2 * c + 18), .int (nI h), .int x, .int (σ (2 * c + 19) h)]) (st1 := [.int (σ (2 * c + 19) h)]) (σ1 := (tw_upd σ (2 * c + 19) h x)) rfl ?_
  refine tw_ri rfl (rfl) ?_
  exact ⟨rfl, rfl⟩
end tw_s27
