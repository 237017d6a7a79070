/-! spell -/
section tw_s56
variable {L : Nat} {xs : Nat → Int32} {σ : tw_Mem} {x y w : Int32} {n r i c k h q a b e : Nat}
/-- a byte of the threading spelled -/
def tw_sp (σ : tw_Mem) (j : Nat) : Int32 := if j % 6 < 4 then nI 97 + σ 91 (4 * (j / 6) + j % 6) else if j % 6 = 4 then (if σ 92 (j / 6) = nI 0 then nI 83 else nI 90) else nI 59
theorem tw_sp_h {σ : tw_Mem} {c h : Nat} (hh : h < 4) : tw_sp σ (6 * c + h) = nI 97 + σ 91 (4 * c + h) := by
  unfold tw_sp
  rw [show (6 * c + h) % 6 = h by omega, show (6 * c + h) / 6 = c by omega, if_pos hh]
theorem tw_sp_s {σ : tw_Mem} {c : Nat} : tw_sp σ (6 * c + 4) = if σ 92 c = nI 0 then nI 83 else nI 90 := by
  unfold tw_sp
  rw [show (6 * c + 4) % 6 = 4 by omega, show (6 * c + 4) / 6 = c by omega, if_neg (by decide), if_pos rfl]
theorem tw_sp_k {σ : tw_Mem} {c : Nat} : tw_sp σ (6 * c + 5) = nI 59 := by
  unfold tw_sp
  rw [show (6 * c + 5) % 6 = 5 by omega, if_neg (by decide), if_neg (by decide)]
set_option maxHeartbeats 4000000 in
set_option maxRecDepth 100000 in
theorem tw_e_app4 {s q : Nat} (hs : σ 4 1 = nI s) (h80 : s < 80) (hq : q < 128) : tw_E L xs 0 123 [.ref 4, .int (nI q)] σ (fun v τ => v = none ∧ τ 4 1 = nI (s + 1) ∧ τ 5 s = nI q ∧ ∀ k j, ¬ (k = 4 ∧ j = 1) → ¬ (k = 5 ∧ j = s) → τ k j = σ k j) := by
  show tw_P L xs _ 123 0 [.ref 4, .int (nI q)] [] σ _
  refine tw_sgn 2 (i1 := 2) (ls0 := [.ref 4, .int (nI q)]) (st0 := [.int (σ 4 1)]) (σ0 := σ) (ls1 := [.ref 4, .int (nI q)]) (st1 := [.int (nI s)]) (σ1 := σ) rfl (rfl) (by simp only [hs, tw_nadd, tw_nmul]) (rfl) ?_
  refine tw_bzF (c := .lt) rfl (by rw [tw_clt', tw_nlt (by omega) (by omega)] <;> omega) ?_
  show tw_P L xs _ 123 3 [.ref 4, .int (nI q)] [] σ _
  refine tw_sgn 5 (i1 := 8) (ls0 := [.ref 4, .int (nI q)]) (st0 := [.int (nI 80), .int (σ 4 1)]) (σ0 := σ) (ls1 := [.ref 4, .int (nI q)]) (st1 := [.int (nI 80), .int (nI s)]) (σ1 := σ) rfl (rfl) (by simp only [hs, tw_nadd, tw_nmul]) (rfl) ?_
  refine tw_biF (c := .ge) rfl (by rw [tw_cge', tw_nle (by omega) (by omega)] <;> omega) ?_
  show tw_P L xs _ 123 9 [.ref 4, .int (nI q)] [] σ _
  refine tw_sgn 6 (i1 := 15) (ls0 := [.ref 4, .int (nI q)]) (st0 := [.int ((nI q).toInt8.toInt32), .int (σ 4 1), .ref 5]) (σ0 := σ) (ls1 := [.ref 4, .int (nI q)]) (st1 := [.int ((nI q).toInt8.toInt32), .int (nI s), .ref 5]) (σ1 := σ) rfl (rfl) (by simp only [hs, tw_nadd, tw_nmul]) (rfl) ?_
  refine tw_asy (k := 5) (j := s) (len := 80) (w := (nI q)) rfl rfl rfl (rfl) (by omega) (by decide) (tw_nar_byte q hq) ?_
  refine tw_sgn 6 (i1 := 22) (ls0 := [.ref 4, .int (nI q)]) (st0 := []) (σ0 := (tw_upd (tw_upd σ 5 s (nI q)) 4 1 ((σ 4 1) + nI 1))) (ls1 := [.ref 4, .int (nI q)]) (st1 := []) (σ1 := (tw_upd (tw_upd σ 5 s (nI q)) 4 1 (nI (s + 1)))) rfl (rfl) (rfl) (by simp only [hs, tw_nadd, tw_nmul]) ?_
  refine tw_rv rfl ?_
  exact ⟨rfl, by rw [tw_upd_at], by rw [tw_upd_off (by omega), tw_upd_at], fun k j g1 g2 => by rw [tw_upd_off g1, tw_upd_off g2]⟩
set_option maxHeartbeats 4000000 in
set_option maxRecDepth 100000 in
theorem tw_e_writeCard {c s z : Nat} {H : Nat → Nat} (hc : c < 10) (hs : σ 4 1 = nI s) (h80 : s + 5 ≤ 80) (hH : ∀ h, h < 4 → H h < 10 ∧ σ (2 * c + 19) h = nI (H h)) (hz : z < 2) (hZ : σ (2 * c + 18) 1 = nI z) : tw_E L xs 1 130 [.ref (2 * c + 18), .ref 4] σ (fun v τ => v = none ∧ τ 4 1 = nI (s + 5) ∧ (∀ h, h < 4 → τ 5 (s + h) = nI (97 + H h)) ∧ τ 5 (s + 4) = nI (if z = 1 then 90 else 83) ∧ ∀ k j, ¬ (k = 4 ∧ j = 1) → ¬ (k = 5 ∧ s ≤ j ∧ j < s + 5) → τ k j = σ k j) := by
  by_cases hz1 : z = 1
  · skip
    show tw_P L xs _ 130 0 [.ref (2 * c + 18), .ref 4, tw_U] [] σ _
    refine tw_sg 4 (i1 := 4) (ls1 := [.ref (2 * c + 18), .ref 4, .int (nI 0)]) (st1 := [.int (nI 4), .int (nI 0)]) (σ1 := σ) rfl ?_
    refine tw_biF (c := .ge) rfl (by rw [tw_cge', tw_nle (by omega) (by omega)] <;> omega) ?_
    show tw_P L xs _ 130 5 [.ref (2 * c + 18), .ref 4, .int (nI 0)] [] σ _
    refine tw_sg 4 (i1 := 9) (ls1 := [.ref (2 * c + 18), .ref 4, .int (nI 0)]) (st1 := [.int (nI 0), .ref (2 * c + 18), .int (nI 97), .ref 4]) (σ1 := σ) rfl ?_
    refine tw_cl0 0 rfl (tw_inv_ok (y := 1) (b := 1) (st := [.int (nI 0), .ref (2 * c + 18), .int (nI 97), .ref 4]) (k := (2 * c + 18)) (r := [.int (nI 97), .ref 4]) rfl rfl (tw_cdO hc)) (by decide) ?_
    show tw_P L xs _ 1 0 [.ref (2 * c + 18), .int (nI 0)] [] σ _
    refine tw_sg 1 (i1 := 1) (ls1 := [.ref (2 * c + 18), .int (nI 0)]) (st1 := [.int (nI 0)]) (σ1 := σ) rfl ?_
    refine tw_bzF (c := .lt) rfl (by rw [tw_clt', tw_nlt (by omega) (by omega)] <;> omega) ?_
    show tw_P L xs _ 1 2 [.ref (2 * c + 18), .int (nI 0)] [] σ _
    refine tw_sg 2 (i1 := 4) (ls1 := [.ref (2 * c + 18), .int (nI 0)]) (st1 := [.ref (2 * c + 18), .int (nI 0)]) (σ1 := σ) rfl ?_
    refine tw_gf rfl (tw_cdO hc) (tw_cdB hc (by decide)) (v := .ref (2 * c + 19)) (tw_cdV0 hc) ?_
    refine tw_aln rfl (tw_cdN hc) (tw_cdS hc) rfl (tw_cdL hc) ?_
    refine tw_biF (c := .ge) rfl (by rw [tw_cge', tw_nle (by omega) (by omega)] <;> omega) ?_
    show tw_P L xs _ 1 7 [.ref (2 * c + 18), .int (nI 0)] [] σ _
    refine tw_sg 1 (i1 := 8) (ls1 := [.ref (2 * c + 18), .int (nI 0)]) (st1 := [.ref (2 * c + 18)]) (σ1 := σ) rfl ?_
    refine tw_gf rfl (tw_cdO hc) (tw_cdB hc (by decide)) (v := .ref (2 * c + 19)) (tw_cdV0 hc) ?_
    refine tw_sg 1 (i1 := 10) (ls1 := [.ref (2 * c + 18), .int (nI 0)]) (st1 := [.int (nI 0), .ref (2 * c + 19)]) (σ1 := σ) rfl ?_
    refine tw_al (k := (2 * c + 19)) (j := 0) rfl (tw_cdN hc) (tw_cdS hc) (tw_cdL hc) (rfl) (by omega) (by decide) ?_
    rw [(hH 0 (by omega)).2]
    refine tw_sg 1 (i1 := 13) (ls1 := [.ref (2 * c + 18), .int (nI 0)]) (st1 := [.int (nI (H 0))]) (σ1 := σ) rfl ?_
    refine tw_ri rfl (rfl) ?_
    show tw_P L xs _ 130 10 [.ref (2 * c + 18), .ref 4, .int (nI 0)] [.int (nI (H 0)), .int (nI 97), .ref 4] σ _
    refine tw_sgn 1 (i1 := 11) (ls0 := [.ref (2 * c + 18), .ref 4, .int (nI 0)]) (st0 := [.int (nI 97 + nI (H 0)), .ref 4]) (σ0 := σ) (ls1 := [.ref (2 * c + 18), .ref 4, .int (nI 0)]) (st1 := [.int (nI (97 + (H 0))), .ref 4]) (σ1 := σ) rfl (rfl) (by simp only [tw_nadd, tw_nmul]) (rfl) ?_
    refine tw_cl1 rfl (rfl) (by decide) (tw_e_app4 (s := s + 0) (q := 97 + H 0) (by exact hs) (by omega) (by have := (hH 0 (by omega)).1; omega)) ?_
    rintro _ σ1 ⟨rfl, a1⟩
    show tw_P L xs _ 130 12 [.ref (2 * c + 18), .ref 4, .int (nI 0)] [] σ1 _
    refine tw_sgn 4 (i1 := 4) (ls0 := [.ref (2 * c + 18), .ref 4, .int (nI 0 + nI 1)]) (st0 := [.int (nI 4), .int (nI 0 + nI 1)]) (σ0 := σ1) (ls1 := [.ref (2 * c + 18), .ref 4, .int (nI 1)]) (st1 := [.int (nI 4), .int (nI 1)]) (σ1 := σ1) rfl (by simp only [tw_nadd, tw_nmul]) (by simp only [tw_nadd, tw_nmul]) (rfl) ?_
    refine tw_biF (c := .ge) rfl (by rw [tw_cge', tw_nle (by omega) (by omega)] <;> omega) ?_
    show tw_P L xs _ 130 5 [.ref (2 * c + 18), .ref 4, .int (nI 1)] [] σ1 _
    refine tw_sg 4 (i1 := 9) (ls1 := [.ref (2 * c + 18), .ref 4, .int (nI 1)]) (st1 := [.int (nI 1), .ref (2 * c + 18), .int (nI 97), .ref 4]) (σ1 := σ1) rfl ?_
    refine tw_cl0 0 rfl (tw_inv_ok (y := 1) (b := 1) (st := [.int (nI 1), .ref (2 * c + 18), .int (nI 97), .ref 4]) (k := (2 * c + 18)) (r := [.int (nI 97), .ref 4]) rfl rfl (tw_cdO hc)) (by decide) ?_
    show tw_P L xs _ 1 0 [.ref (2 * c + 18), .int (nI 1)] [] σ1 _
    refine tw_sg 1 (i1 := 1) (ls1 := [.ref (2 * c + 18), .int (nI 1)]) (st1 := [.int (nI 1)]) (σ1 := σ1) rfl ?_
    refine tw_bzF (c := .lt) rfl (by rw [tw_clt', tw_nlt (by omega) (by omega)] <;> omega) ?_
    show tw_P L xs _ 1 2 [.ref (2 * c + 18), .int (nI 1)] [] σ1 _
    refine tw_sg 2 (i1 := 4) (ls1 := [.ref (2 * c + 18), .int (nI 1)]) (st1 := [.ref (2 * c + 18), .int (nI 1)]) (σ1 := σ1) rfl ?_
    refine tw_gf rfl (tw_cdO hc) (tw_cdB hc (by decide)) (v := .ref (2 * c + 19)) (tw_cdV0 hc) ?_
    refine tw_aln rfl (tw_cdN hc) (tw_cdS hc) rfl (tw_cdL hc) ?_
    refine tw_biF (c := .ge) rfl (by rw [tw_cge', tw_nle (by omega) (by omega)] <;> omega) ?_
    show tw_P L xs _ 1 7 [.ref (2 * c + 18), .int (nI 1)] [] σ1 _
    refine tw_sg 1 (i1 := 8) (ls1 := [.ref (2 * c + 18), .int (nI 1)]) (st1 := [.ref (2 * c + 18)]) (σ1 := σ1) rfl ?_
    refine tw_gf rfl (tw_cdO hc) (tw_cdB hc (by decide)) (v := .ref (2 * c + 19)) (tw_cdV0 hc) ?_
    refine tw_sg 1 (i1 := 10) (ls1 := [.ref (2 * c + 18), .int (nI 1)]) (st1 := [.int (nI 1), .ref (2 * c + 19)]) (σ1 := σ1) rfl ?_
    refine tw_al (k := (2 * c + 19)) (j := 1) rfl (tw_cdN hc) (tw_cdS hc) (tw_cdL hc) (rfl) (by omega) (by decide) ?_
    rw [(show σ1 (2 * c + 19) 1 = nI (H 1) from by rw [a1.2.2 _ _ (by omega) (by omega)]; exact (hH 1 (by omega)).2)]
    refine tw_sg 1 (i1 := 13) (ls1 := [.ref (2 * c + 18), .int (nI 1)]) (st1 := [.int (nI (H 1))]) (σ1 := σ1) rfl ?_
    refine tw_ri rfl (rfl) ?_
    show tw_P L xs _ 130 10 [.ref (2 * c + 18), .ref 4, .int (nI 1)] [.int (nI (H 1)), .int (nI 97), .ref 4] σ1 _
    refine tw_sgn 1 (i1 := 11) (ls0 := [.ref (2 * c + 18), .ref 4, .int (nI 1)]) (st0 := [.int (nI 97 + nI (H 1)), .ref 4]) (σ0 := σ1) (ls1 := [.ref (2 * c + 18), .ref 4, .int (nI 1)]) (st1 := [.int (nI (97 + (H 1))), .ref 4]) (σ1 := σ1) rfl (rfl) (by simp only [tw_nadd, tw_nmul]) (rfl) ?_
    refine tw_cl1 rfl (rfl) (by decide) (tw_e_app4 (s := s + 1) (q := 97 + H 1) a1.1 (by omega) (by have := (hH 1 (by omega)).1; omega)) ?_
    rintro _ σ2 ⟨rfl, a2⟩
    show tw_P L xs _ 130 12 [.ref (2 * c + 18), .ref 4, .int (nI 1)] [] σ2 _
    refine tw_sgn 4 (i1 := 4) (ls0 := [.ref (2 * c + 18), .ref 4, .int (nI 1 + nI 1)]) (st0 := [.int (nI 4), .int (nI 1 + nI 1)]) (σ0 := σ2) (ls1 := [.ref (2 * c + 18), .ref 4, .int (nI 2)]) (st1 := [.int (nI 4), .int (nI 2)]) (σ1 := σ2) rfl (by simp only [tw_nadd, tw_nmul]) (by simp only [tw_nadd, tw_nmul]) (rfl) ?_
    refine tw_biF (c := .ge) rfl (by rw [tw_cge', tw_nle (by omega) (by omega)] <;> omega) ?_
    show tw_P L xs _ 130 5 [.ref (2 * c + 18), .ref 4, .int (nI 2)] [] σ2 _
    refine tw_sg 4 (i1 := 9) (ls1 := [.ref (2 * c + 18), .ref 4, .int (nI 2)]) (st1 := [.int (nI 2), .ref (2 * c + 18), .int (nI 97), .ref 4]) (σ1 := σ2) rfl ?_
    refine tw_cl0 0 rfl (tw_inv_ok (y := 1) (b := 1) (st := [.int (nI 2), .ref (2 * c + 18), .int (nI 97), .ref 4]) (k := (2 * c + 18)) (r := [.int (nI 97), .ref 4]) rfl rfl (tw_cdO hc)) (by decide) ?_
    show tw_P L xs _ 1 0 [.ref (2 * c + 18), .int (nI 2)] [] σ2 _
    refine tw_sg 1 (i1 := 1) (ls1 := [.ref (2 * c + 18), .int (nI 2)]) (st1 := [.int (nI 2)]) (σ1 := σ2) rfl ?_
    refine tw_bzF (c := .lt) rfl (by rw [tw_clt', tw_nlt (by omega) (by omega)] <;> omega) ?_
    show tw_P L xs _ 1 2 [.ref (2 * c + 18), .int (nI 2)] [] σ2 _
    refine tw_sg 2 (i1 := 4) (ls1 := [.ref (2 * c + 18), .int (nI 2)]) (st1 := [.ref (2 * c + 18), .int (nI 2)]) (σ1 := σ2) rfl ?_
    refine tw_gf rfl (tw_cdO hc) (tw_cdB hc (by decide)) (v := .ref (2 * c + 19)) (tw_cdV0 hc) ?_
    refine tw_aln rfl (tw_cdN hc) (tw_cdS hc) rfl (tw_cdL hc) ?_
    refine tw_biF (c := .ge) rfl (by rw [tw_cge', tw_nle (by omega) (by omega)] <;> omega) ?_
    show tw_P L xs _ 1 7 [.ref (2 * c + 18), .int (nI 2)] [] σ2 _
    refine tw_sg 1 (i1 := 8) (ls1 := [.ref (2 * c + 18), .int (nI 2)]) (st1 := [.ref (2 * c + 18)]) (σ1 := σ2) rfl ?_
    refine tw_gf rfl (tw_cdO hc) (tw_cdB hc (by decide)) (v := .ref (2 * c + 19)) (tw_cdV0 hc) ?_
    refine tw_sg 1 (i1 := 10) (ls1 := [.ref (2 * c + 18), .int (nI 2)]) (st1 := [.int (nI 2), .ref (2 * c + 19)]) (σ1 := σ2) rfl ?_
    refine tw_al (k := (2 * c + 19)) (j := 2) rfl (tw_cdN hc) (tw_cdS hc) (tw_cdL hc) (rfl) (by omega) (by decide) ?_
    rw [(show σ2 (2 * c + 19) 2 = nI (H 2) from by rw [a2.2.2 _ _ (by omega) (by omega), a1.2.2 _ _ (by omega) (by omega)]; exact (hH 2 (by omega)).2)]
    refine tw_sg 1 (i1 := 13) (ls1 := [.ref (2 * c + 18), .int (nI 2)]) (st1 := [.int (nI (H 2))]) (σ1 := σ2) rfl ?_
    refine tw_ri rfl (rfl) ?_
    show tw_P L xs _ 130 10 [.ref (2 * c + 18), .ref 4, .int (nI 2)] [.int (nI (H 2)), .int (nI 97), .ref 4] σ2 _
    refine tw_sgn 1 (i1 := 11) (ls0 := [.ref (2 * c + 18), .ref 4, .int (nI 2)]) (st0 := [.int (nI 97 + nI (H 2)), .ref 4]) (σ0 := σ2) (ls1 := [.ref (2 * c + 18), .ref 4, .int (nI 2)]) (st1 := [.int (nI (97 + (H 2))), .ref 4]) (σ1 := σ2) rfl (rfl) (by simp only [tw_nadd, tw_nmul]) (rfl) ?_
    refine tw_cl1 rfl (rfl) (by decide) (tw_e_app4 (s := s + 2) (q := 97 + H 2) a2.1 (by omega) (by have := (hH 2 (by omega)).1; omega)) ?_
    rintro _ σ3 ⟨rfl, a3⟩
    show tw_P L xs _ 130 12 [.ref (2 * c + 18), .ref 4, .int (nI 2)] [] σ3 _
    refine tw_sgn 4 (i1 := 4) (ls0 := [.ref (2 * c + 18), .ref 4, .int (nI 2 + nI 1)]) (st0 := [.int (nI 4), .int (nI 2 + nI 1)]) (σ0 := σ3) (ls1 := [.ref (2 * c + 18), .ref 4, .int (nI 3)]) (st1 := [.int (nI 4), .int (nI 3)]) (σ1 := σ3) rfl (by simp only [tw_nadd, tw_nmul]) (by simp only [tw_nadd, tw_nmul]) (rfl) ?_
    refine tw_biF (c := .ge) rfl (by rw [tw_cge', tw_nle (by omega) (by omega)] <;> omega) ?_
    show tw_P L xs _ 130 5 [.ref (2 * c + 18), .ref 4, .int (nI 3)] [] σ3 _
    refine tw_sg 4 (i1 := 9) (ls1 := [.ref (2 * c + 18), .ref 4, .int (nI 3)]) (st1 := [.int (nI 3), .ref (2 * c + 18), .int (nI 97), .ref 4]) (σ1 := σ3) rfl ?_
    refine tw_cl0 0 rfl (tw_inv_ok (y := 1) (b := 1) (st := [.int (nI 3), .ref (2 * c + 18), .int (nI 97), .ref 4]) (k := (2 * c + 18)) (r := [.int (nI 97), .ref 4]) rfl rfl (tw_cdO hc)) (by decide) ?_
    show tw_P L xs _ 1 0 [.ref (2 * c + 18), .int (nI 3)] [] σ3 _
    refine tw_sg 1 (i1 := 1) (ls1 := [.ref (2 * c + 18), .int (nI 3)]) (st1 := [.int (nI 3)]) (σ1 := σ3) rfl ?_
    refine tw_bzF (c := .lt) rfl (by rw [tw_clt', tw_nlt (by omega) (by omega)] <;> omega) ?_
    show tw_P L xs _ 1 2 [.ref (2 * c + 18), .int (nI 3)] [] σ3 _
    refine tw_sg 2 (i1 := 4) (ls1 := [.ref (2 * c + 18), .int (nI 3)]) (st1 := [.ref (2 * c + 18), .int (nI 3)]) (σ1 := σ3) rfl ?_
    refine tw_gf rfl (tw_cdO hc) (tw_cdB hc (by decide)) (v := .ref (2 * c + 19)) (tw_cdV0 hc) ?_
    refine tw_aln rfl (tw_cdN hc) (tw_cdS hc) rfl (tw_cdL hc) ?_
    refine tw_biF (c := .ge) rfl (by rw [tw_cge', tw_nle (by omega) (by omega)] <;> omega) ?_
    show tw_P L xs _ 1 7 [.ref (2 * c + 18), .int (nI 3)] [] σ3 _
    refine tw_sg 1 (i1 := 8) (ls1 := [.ref (2 * c + 18), .int (nI 3)]) (st1 := [.ref (2 * c + 18)]) (σ1 := σ3) rfl ?_
    refine tw_gf rfl (tw_cdO hc) (tw_cdB hc (by decide)) (v := .ref (2 * c + 19)) (tw_cdV0 hc) ?_
    refine tw_sg 1 (i1 := 10) (ls1 := [.ref (2 * c + 18), .int (nI 3)]) (st1 := [.int (nI 3), .ref (2 * c + 19)]) (σ1 := σ3) rfl ?_
    refine tw_al (k := (2 * c + 19)) (j := 3) rfl (tw_cdN hc) (tw_cdS hc) (tw_cdL hc) (rfl) (by omega) (by decide) ?_
    rw [(show σ3 (2 * c + 19) 3 = nI (H 3) from by rw [a3.2.2 _ _ (by omega) (by omega), a2.2.2 _ _ (by omega) (by omega), a1.2.2 _ _ (by omega) (by omega)]; exact (hH 3 (by omega)).2)]
    refine tw_sg 1 (i1 := 13) (ls1 := [.ref (2 * c + 18), .int (nI 3)]) (st1 := [.int (nI (H 3))]) (σ1 := σ3) rfl ?_
    refine tw_ri rfl (rfl) ?_
    show tw_P L xs _ 130 10 [.ref (2 * c + 18), .ref 4, .int (nI 3)] [.int (nI (H 3)), .int (nI 97), .ref 4] σ3 _
    refine tw_sgn 1 (i1 := 11) (ls0 := [.ref (2 * c + 18), .ref 4, .int (nI 3)]) (st0 := [.int (nI 97 + nI (H 3)), .ref 4]) (σ0 := σ3) (ls1 := [.ref (2 * c + 18), .ref 4, .int (nI 3)]) (st1 := [.int (nI (97 + (H 3))), .ref 4]) (σ1 := σ3) rfl (rfl) (by simp only [tw_nadd, tw_nmul]) (rfl) ?_
    refine tw_cl1 rfl (rfl) (by decide) (tw_e_app4 (s := s + 3) (q := 97 + H 3) a3.1 (by omega) (by have := (hH 3 (by omega)).1; omega)) ?_
    rintro _ σ4 ⟨rfl, a4⟩
    show tw_P L xs _ 130 12 [.ref (2 * c + 18), .ref 4, .int (nI 3)] [] σ4 _
    refine tw_sgn 4 (i1 := 4) (ls0 := [.ref (2 * c + 18), .ref 4, .int (nI 3 + nI 1)]) (st0 := [.int (nI 4), .int (nI 3 + nI 1)]) (σ0 := σ4) (ls1 := [.ref (2 * c + 18), .ref 4, .int (nI 4)]) (st1 := [.int (nI 4), .int (nI 4)]) (σ1 := σ4) rfl (by simp only [tw_nadd, tw_nmul]) (by simp only [tw_nadd, tw_nmul]) (rfl) ?_
    refine tw_biT (c := .ge) rfl (by rw [tw_cge, tw_nle (by omega) (by omega)] <;> omega) ?_
    show tw_P L xs _ 130 14 [.ref (2 * c + 18), .ref 4, .int (nI 4)] [] σ4 _
    refine tw_sg 2 (i1 := 16) (ls1 := [.ref (2 * c + 18), .ref 4, .int (nI 4)]) (st1 := [.ref (2 * c + 18), .ref 4]) (σ1 := σ4) rfl ?_
    refine tw_cl0 0 rfl (tw_inv_ok (y := 3) (b := 0) (st := [.ref (2 * c + 18), .ref 4]) (k := (2 * c + 18)) (r := [.ref 4]) rfl rfl (tw_cdO hc)) (by decide) ?_
    show tw_P L xs _ 3 0 [.ref (2 * c + 18)] [] σ4 _
    refine tw_sg 1 (i1 := 1) (ls1 := [.ref (2 * c + 18)]) (st1 := [.ref (2 * c + 18)]) (σ1 := σ4) rfl ?_
    refine tw_gf rfl (tw_cdO hc) (tw_cdB hc (by decide)) (v := .int (σ4 (2 * c + 18) 1)) (tw_cdV1 hc) ?_
    rw [(show σ4 (2 * c + 18) 1 = nI z from by rw [a4.2.2 _ _ (by omega) (by omega), a3.2.2 _ _ (by omega) (by omega), a2.2.2 _ _ (by omega) (by omega), a1.2.2 _ _ (by omega) (by omega)]; exact hZ)]
    refine tw_ri rfl (rfl) ?_
    show tw_P L xs _ 130 17 [.ref (2 * c + 18), .ref 4, .int (nI 4)] [.int (nI z), .ref 4] σ4 _
    refine tw_sg 1 (i1 := 18) (ls1 := [.ref (2 * c + 18), .ref 4, .int (nI 4)]) (st1 := [.int (nI 1), .int (nI z), .ref 4]) (σ1 := σ4) rfl ?_
    refine tw_biF (c := .ne) rfl (by rw [tw_cne', tw_neq (by omega) (by omega)] <;> omega) ?_
    show tw_P L xs _ 130 19 [.ref (2 * c + 18), .ref 4, .int (nI 4)] [.ref 4] σ4 _
    refine tw_sg 2 (i1 := 22) (ls1 := [.ref (2 * c + 18), .ref 4, .int (nI 4)]) (st1 := [.int (nI 90), .ref 4]) (σ1 := σ4) rfl ?_
    refine tw_cl1 rfl (rfl) (by decide) (tw_e_app4 (s := s + 4) (q := 90) a4.1 (by omega) (by decide)) ?_
    rintro _ σ5 ⟨rfl, a5⟩
    show tw_P L xs _ 130 23 [.ref (2 * c + 18), .ref 4, .int (nI 4)] [] σ5 _
    refine tw_rv rfl ?_
    refine ⟨rfl, a5.1, fun h hh => ?_, ?_, fun k j g1 g2 => ?_⟩
    · rcases (show h = 0 ∨ h = 1 ∨ h = 2 ∨ h = 3 by omega) with rfl | rfl | rfl | rfl
      · rw [a5.2.2 _ _ (by omega) (by omega), a4.2.2 _ _ (by omega) (by omega), a3.2.2 _ _ (by omega) (by omega), a2.2.2 _ _ (by omega) (by omega)]; exact a1.2.1
      · rw [a5.2.2 _ _ (by omega) (by omega), a4.2.2 _ _ (by omega) (by omega), a3.2.2 _ _ (by omega) (by omega)]; exact a2.2.1
      · rw [a5.2.2 _ _ (by omega) (by omega), a4.2.2 _ _ (by omega) (by omega)]; exact a3.2.1
      · rw [a5.2.2 _ _ (by omega) (by omega)]; exact a4.2.1
    · rw [a5.2.1]; first | rw [if_pos hz1] | rw [if_neg hz1]
    · rw [a5.2.2 _ _ (by omega) (by omega), a4.2.2 _ _ (by omega) (by omega), a3.2.2 _ _ (by omega) (by omega), a2.2.2 _ _ (by omega) (by omega), a1.2.2 _ _ (by omega) (by omega)]
  · skip
    show tw_P L xs _ 130 0 [.ref (2 * c + 18), .ref 4, tw_U] [] σ _
    refine tw_sg 4 (i1 := 4) (ls1 := [.ref (2 * c + 18), .ref 4, .int (nI 0)]) (st1 := [.int (nI 4), .int (nI 0)]) (σ1 := σ) rfl ?_
    refine tw_biF (c := .ge) rfl (by rw [tw_cge', tw_nle (by omega) (by omega)] <;> omega) ?_
    show tw_P L xs _ 130 5 [.ref (2 * c + 18), .ref 4, .int (nI 0)] [] σ _
    refine tw_sg 4 (i1 := 9) (ls1 := [.ref (2 * c + 18), .ref 4, .int (nI 0)]) (st1 := [.int (nI 0), .ref (2 * c + 18), .int (nI 97), .ref 4]) (σ1 := σ) rfl ?_
    refine tw_cl0 0 rfl (tw_inv_ok (y := 1) (b := 1) (st := [.int (nI 0), .ref (2 * c + 18), .int (nI 97), .ref 4]) (k := (2 * c + 18)) (r := [.int (nI 97), .ref 4]) rfl rfl (tw_cdO hc)) (by decide) ?_
    show tw_P L xs _ 1 0 [.ref (2 * c + 18), .int (nI 0)] [] σ _
    refine tw_sg 1 (i1 := 1) (ls1 := [.ref (2 * c + 18), .int (nI 0)]) (st1 := [.int (nI 0)]) (σ1 := σ) rfl ?_
    refine tw_bzF (c := .lt) rfl (by rw [tw_clt', tw_nlt (by omega) (by omega)] <;> omega) ?_
    show tw_P L xs _ 1 2 [.ref (2 * c + 18), .int (nI 0)] [] σ _
    refine tw_sg 2 (i1 := 4) (ls1 := [.ref (2 * c + 18), .int (nI 0)]) (st1 := [.ref (2 * c + 18), .int (nI 0)]) (σ1 := σ) rfl ?_
    refine tw_gf rfl (tw_cdO hc) (tw_cdB hc (by decide)) (v := .ref (2 * c + 19)) (tw_cdV0 hc) ?_
    refine tw_aln rfl (tw_cdN hc) (tw_cdS hc) rfl (tw_cdL hc) ?_
    refine tw_biF (c := .ge) rfl (by rw [tw_cge', tw_nle (by omega) (by omega)] <;> omega) ?_
    show tw_P L xs _ 1 7 [.ref (2 * c + 18), .int (nI 0)] [] σ _
    refine tw_sg 1 (i1 := 8) (ls1 := [.ref (2 * c + 18), .int (nI 0)]) (st1 := [.ref (2 * c + 18)]) (σ1 := σ) rfl ?_
    refine tw_gf rfl (tw_cdO hc) (tw_cdB hc (by decide)) (v := .ref (2 * c + 19)) (tw_cdV0 hc) ?_
    refine tw_sg 1 (i1 := 10) (ls1 := [.ref (2 * c + 18), .int (nI 0)]) (st1 := [.int (nI 0), .ref (2 * c + 19)]) (σ1 := σ) rfl ?_
    refine tw_al (k := (2 * c + 19)) (j := 0) rfl (tw_cdN hc) (tw_cdS hc) (tw_cdL hc) (rfl) (by omega) (by decide) ?_
    rw [(hH 0 (by omega)).2]
    refine tw_sg 1 (i1 := 13) (ls1 := [.ref (2 * c + 18), .int (nI 0)]) (st1 := [.int (nI (H 0))]) (σ1 := σ) rfl ?_
    refine tw_ri rfl (rfl) ?_
    show tw_P L xs _ 130 10 [.ref (2 * c + 18), .ref 4, .int (nI 0)] [.int (nI (H 0)), .int (nI 97), .ref 4] σ _
    refine tw_sgn 1 (i1 := 11) (ls0 := [.ref (2 * c + 18), .ref 4, .int (nI 0)]) (st0 := [.int (nI 97 + nI (H 0)), .ref 4]) (σ0 := σ) (ls1 := [.ref (2 * c + 18), .ref 4, .int (nI 0)]) (st1 := [.int (nI (97 + (H 0))), .ref 4]) (σ1 := σ) rfl (rfl) (by simp only [tw_nadd, tw_nmul]) (rfl) ?_
    refine tw_cl1 rfl (rfl) (by decide) (tw_e_app4 (s := s + 0) (q := 97 + H 0) (by exact hs) (by omega) (by have := (hH 0 (by omega)).1; omega)) ?_
    rintro _ σ1 ⟨rfl, a1⟩
    show tw_P L xs _ 130 12 [.ref (2 * c + 18), .ref 4, .int (nI 0)] [] σ1 _
    refine tw_sgn 4 (i1 := 4) (ls0 := [.ref (2 * c + 18), .ref 4, .int (nI 0 + nI 1)]) (st0 := [.int (nI 4), .int (nI 0 + nI 1)]) (σ0 := σ1) (ls1 := [.ref (2 * c + 18), .ref 4, .int (nI 1)]) (st1 := [.int (nI 4), .int (nI 1)]) (σ1 := σ1) rfl (by simp only [tw_nadd, tw_nmul]) (by simp only [tw_nadd, tw_nmul]) (rfl) ?_
    refine tw_biF (c := .ge) rfl (by rw [tw_cge', tw_nle (by omega) (by omega)] <;> omega) ?_
    show tw_P L xs _ 130 5 [.ref (2 * c + 18), .ref 4, .int (nI 1)] [] σ1 _
    refine tw_sg 4 (i1 := 9) (ls1 := [.ref (2 * c + 18), .ref 4, .int (nI 1)]) (st1 := [.int (nI 1), .ref (2 * c + 18), .int (nI 97), .ref 4]) (σ1 := σ1) rfl ?_
    refine tw_cl0 0 rfl (tw_inv_ok (y := 1) (b := 1) (st := [.int (nI 1), .ref (2 * c + 18), .int (nI 97), .ref 4]) (k := (2 * c + 18)) (r := [.int (nI 97), .ref 4]) rfl rfl (tw_cdO hc)) (by decide) ?_
    show tw_P L xs _ 1 0 [.ref (2 * c + 18), .int (nI 1)] [] σ1 _
    refine tw_sg 1 (i1 := 1) (ls1 := [.ref (2 * c + 18), .int (nI 1)]) (st1 := [.int (nI 1)]) (σ1 := σ1) rfl ?_
    refine tw_bzF (c := .lt) rfl (by rw [tw_clt', tw_nlt (by omega) (by omega)] <;> omega) ?_
    show tw_P L xs _ 1 2 [.ref (2 * c + 18), .int (nI 1)] [] σ1 _
    refine tw_sg 2 (i1 := 4) (ls1 := [.ref (2 * c + 18), .int (nI 1)]) (st1 := [.ref (2 * c + 18), .int (nI 1)]) (σ1 := σ1) rfl ?_
    refine tw_gf rfl (tw_cdO hc) (tw_cdB hc (by decide)) (v := .ref (2 * c + 19)) (tw_cdV0 hc) ?_
    refine tw_aln rfl (tw_cdN hc) (tw_cdS hc) rfl (tw_cdL hc) ?_
    refine tw_biF (c := .ge) rfl (by rw [tw_cge', tw_nle (by omega) (by omega)] <;> omega) ?_
    show tw_P L xs _ 1 7 [.ref (2 * c + 18), .int (nI 1)] [] σ1 _
    refine tw_sg 1 (i1 := 8) (ls1 := [.ref (2 * c + 18), .int (nI 1)]) (st1 := [.ref (2 * c + 18)]) (σ1 := σ1) rfl ?_
    refine tw_gf rfl (tw_cdO hc) (tw_cdB hc (by decide)) (v := .ref (2 * c + 19)) (tw_cdV0 hc) ?_
    refine tw_sg 1 (i1 := 10) (ls1 := [.ref (2 * c + 18), .int (nI 1)]) (st1 := [.int (nI 1), .ref (2 * c + 19)]) (σ1 := σ1) rfl ?_
    refine tw_al (k := (2 * c + 19)) (j := 1) rfl (tw_cdN hc) (tw_cdS hc) (tw_cdL hc) (rfl) (by omega) (by decide) ?_
    rw [(show σ1 (2 * c + 19) 1 = nI (H 1) from by rw [a1.2.2 _ _ (by omega) (by omega)]; exact (hH 1 (by omega)).2)]
    refine tw_sg 1 (i1 := 13) (ls1 := [.ref (2 * c + 18), .int (nI 1)]) (st1 := [.int (nI (H 1))]) (σ1 := σ1) rfl ?_
    refine tw_ri rfl (rfl) ?_
    show tw_P L xs _ 130 10 [.ref (2 * c + 18), .ref 4, .int (nI 1)] [.int (nI (H 1)), .int (nI 97), .ref 4] σ1 _
    refine tw_sgn 1 (i1 := 11) (ls0 := [.ref (2 * c + 18), .ref 4, .int (nI 1)]) (st0 := [.int (nI 97 + nI (H 1)), .ref 4]) (σ0 := σ1) (ls1 := [.ref (2 * c + 18), .ref 4, .int (nI 1)]) (st1 := [.int (nI (97 + (H 1))), .ref 4]) (σ1 := σ1) rfl (rfl) (by simp only [tw_nadd, tw_nmul]) (rfl) ?_
    refine tw_cl1 rfl (rfl) (by decide) (tw_e_app4 (s := s + 1) (q := 97 + H 1) a1.1 (by omega) (by have := (hH 1 (by omega)).1; omega)) ?_
    rintro _ σ2 ⟨rfl, a2⟩
    show tw_P L xs _ 130 12 [.ref (2 * c + 18), .ref 4, .int (nI 1)] [] σ2 _
    refine tw_sgn 4 (i1 := 4) (ls0 := [.ref (2 * c + 18), .ref 4, .int (nI 1 + nI 1)]) (st0 := [.int (nI 4), .int (nI 1 + nI 1)]) (σ0 := σ2) (ls1 := [.ref (2 * c + 18), .ref 4, .int (nI 2)]) (st1 := [.int (nI 4), .int (nI 2)]) (σ1 := σ2) rfl (by simp only [tw_nadd, tw_nmul]) (by simp only [tw_nadd, tw_nmul]) (rfl) ?_
    refine tw_biF (c := .ge) rfl (by rw [tw_cge', tw_nle (by omega) (by omega)] <;> omega) ?_
    show tw_P L xs _ 130 5 [.ref (2 * c + 18), .ref 4, .int (nI 2)] [] σ2 _
    refine tw_sg 4 (i1 := 9) (ls1 := [.ref (2 * c + 18), .ref 4, .int (nI 2)]) (st1 := [.int (nI 2), .ref (2 * c + 18), .int (nI 97), .ref 4]) (σ1 := σ2) rfl ?_
    refine tw_cl0 0 rfl (tw_inv_ok (y := 1) (b := 1) (st := [.int (nI 2), .ref (2 * c + 18), .int (nI 97), .ref 4]) (k := (2 * c + 18)) (r := [.int (nI 97), .ref 4]) rfl rfl (tw_cdO hc)) (by decide) ?_
    show tw_P L xs _ 1 0 [.ref (2 * c + 18), .int (nI 2)] [] σ2 _
    refine tw_sg 1 (i1 := 1) (ls1 := [.ref (2 * c + 18), .int (nI 2)]) (st1 := [.int (nI 2)]) (σ1 := σ2) rfl ?_
    refine tw_bzF (c := .lt) rfl (by rw [tw_clt', tw_nlt (by omega) (by omega)] <;> omega) ?_
    show tw_P L xs _ 1 2 [.ref (2 * c + 18), .int (nI 2)] [] σ2 _
    refine tw_sg 2 (i1 := 4) (ls1 := [.ref (2 * c + 18), .int (nI 2)]) (st1 := [.ref (2 * c + 18), .int (nI 2)]) (σ1 := σ2) rfl ?_
    refine tw_gf rfl (tw_cdO hc) (tw_cdB hc (by decide)) (v := .ref (2 * c + 19)) (tw_cdV0 hc) ?_
    refine tw_aln rfl (tw_cdN hc) (tw_cdS hc) rfl (tw_cdL hc) ?_
    refine tw_biF (c := .ge) rfl (by rw [tw_cge', tw_nle (by omega) (by omega)] <;> omega) ?_
    show tw_P L xs _ 1 7 [.ref (2 * c + 18), .int (nI 2)] [] σ2 _
    refine tw_sg 1 (i1 := 8) (ls1 := [.ref (2 * c + 18), .int (nI 2)]) (st1 := [.ref (2 * c + 18)]) (σ1 := σ2) rfl ?_
    refine tw_gf rfl (tw_cdO hc) (tw_cdB hc (by decide)) (v := .ref (2 * c + 19)) (tw_cdV0 hc) ?_
    refine tw_sg 1 (i1 := 10) (ls1 := [.ref (2 * c + 18), .int (nI 2)]) (st1 := [.int (nI 2), .ref (2 * c + 19)]) (σ1 := σ2) rfl ?_
    refine tw_al (k := (2 * c + 19)) (j := 2) rfl (tw_cdN hc) (tw_cdS hc) (tw_cdL hc) (rfl) (by omega) (by decide) ?_
    rw [(show σ2 (2 * c + 19) 2 = nI (H 2) from by rw [a2.2.2 _ _ (by omega) (by omega), a1.2.2 _ _ (by omega) (by omega)]; exact (hH 2 (by omega)).2)]
    refine tw_sg 1 (i1 := 13) (ls1 := [.ref (2 * c + 18), .int (nI 2)]) (st1 := [.int (nI (H 2))]) (σ1 := σ2) rfl ?_
    refine tw_ri rfl (rfl) ?_
    show tw_P L xs _ 130 10 [.ref (2 * c + 18), .ref 4, .int (nI 2)] [.int (nI (H 2)), .int (nI 97), .ref 4] σ2 _
    refine tw_sgn 1 (i1 := 11) (ls0 := [.ref (2 * c + 18), .ref 4, .int (nI 2)]) (st0 := [.int (nI 97 + nI (H 2)), .ref 4]) (σ0 := σ2) (ls1 := [.ref (2 * c + 18), .ref 4, .int (nI 2)]) (st1 := [.int (nI (97 + (H 2))), .ref 4]) (σ1 := σ2) rfl (rfl) (by simp only [tw_nadd, tw_nmul]) (rfl) ?_
    refine tw_cl1 rfl (rfl) (by decide) (tw_e_app4 (s := s + 2) (q := 97 + H 2) a2.1 (by omega) (by have := (hH 2 (by omega)).1; omega)) ?_
    rintro _ σ3 ⟨rfl, a3⟩
    show tw_P L xs _ 130 12 [.ref (2 * c + 18), .ref 4, .int (nI 2)] [] σ3 _
    refine tw_sgn 4 (i1 := 4) (ls0 := [.ref (2 * c + 18), .ref 4, .int (nI 2 + nI 1)]) (st0 := [.int (nI 4), .int (nI 2 + nI 1)]) (σ0 := σ3) (ls1 := [.ref (2 * c + 18), .ref 4, .int (nI 3)]) (st1 := [.int (nI 4), .int (nI 3)]) (σ1 := σ3) rfl (by simp only [tw_nadd, tw_nmul]) (by simp only [tw_nadd, tw_nmul]) (rfl) ?_
    refine tw_biF (c := .ge) rfl (by rw [tw_cge', tw_nle (by omega) (by omega)] <;> omega) ?_
    show tw_P L xs _ 130 5 [.ref (2 * c + 18), .ref 4, .int (nI 3)] [] σ3 _
    refine tw_sg 4 (i1 := 9) (ls1 := [.ref (2 * c + 18), .ref 4, .int (nI 3)]) (st1 := [.int (nI 3), .ref (2 * c + 18), .int (nI 97), .ref 4]) (σ1 := σ3) rfl ?_
    refine tw_cl0 0 rfl (tw_inv_ok (y := 1) (b := 1) (st := [.int (nI 3), .ref (2 * c + 18), .int (nI 97), .ref 4]) (k := (2 * c + 18)) (r := [.int (nI 97), .ref 4]) rfl rfl (tw_cdO hc)) (by decide) ?_
    show tw_P L xs _ 1 0 [.ref (2 * c + 18), .int (nI 3)] [] σ3 _
    refine tw_sg 1 (i1 := 1) (ls1 := [.ref (2 * c + 18), .int (nI 3)]) (st1 := [.int (nI 3)]) (σ1 := σ3) rfl ?_
    refine tw_bzF (c := .lt) rfl (by rw [tw_clt', tw_nlt (by omega) (by omega)] <;> omega) ?_
    show tw_P L xs _ 1 2 [.ref (2 * c + 18), .int (nI 3)] [] σ3 _
    refine tw_sg 2 (i1 := 4) (ls1 := [.ref (2 * c + 18), .int (nI 3)]) (st1 := [.ref (2 * c + 18), .int (nI 3)]) (σ1 := σ3) rfl ?_
    refine tw_gf rfl (tw_cdO hc) (tw_cdB hc (by decide)) (v := .ref (2 * c + 19)) (tw_cdV0 hc) ?_
    refine tw_aln rfl (tw_cdN hc) (tw_cdS hc) rfl (tw_cdL hc) ?_
    refine tw_biF (c := .ge) rfl (by rw [tw_cge', tw_nle (by omega) (by omega)] <;> omega) ?_
    show tw_P L xs _ 1 7 [.ref (2 * c + 18), .int (nI 3)] [] σ3 _
    refine tw_sg 1 (i1 := 8) (ls1 := [.ref (2 * c + 18), .int (nI 3)]) (st1 := [.ref (2 * c + 18)]) (σ1 := σ3) rfl ?_
    refine tw_gf rfl (tw_cdO hc) (tw_cdB hc (by decide)) (v := .ref (2 * c + 19)) (tw_cdV0 hc) ?_
    refine tw_sg 1 (i1 := 10) (ls1 := [.ref (2 * c + 18), .int (nI 3)]) (st1 := [.int (nI 3), .ref (2 * c + 19)]) (σ1 := σ3) rfl ?_
    refine tw_al (k := (2 * c + 19)) (j := 3) rfl (tw_cdN hc) (tw_cdS hc) (tw_cdL hc) (rfl) (by omega) (by decide) ?_
    rw [(show σ3 (2 * c + 19) 3 = nI (H 3) from by rw [a3.2.2 _ _ (by omega) (by omega), a2.2.2 _ _ (by omega) (by omega), a1.2.2 _ _ (by omega) (by omega)]; exact (hH 3 (by omega)).2)]
    refine tw_sg 1 (i1 := 13) (ls1 := [.ref (2 * c + 18), .int (nI 3)]) (st1 := [.int (nI (H 3))]) (σ1 := σ3) rfl ?_
    refine tw_ri rfl (rfl) ?_
    show tw_P L xs _ 130 10 [.ref (2 * c + 18), .ref 4, .int (nI 3)] [.int (nI (H 3)), .int (nI 97), .ref 4] σ3 _
    refine tw_sgn 1 (i1 := 11) (ls0 := [.ref (2 * c + 18), .ref 4, .int (nI 3)]) (st0 := [.int (nI 97 + nI (H 3)), .ref 4]) (σ0 := σ3) (ls1 := [.ref (2 * c + 18), .ref 4, .int (nI 3)]) (st1 := [.int (nI (97 + (H 3))), .ref 4]) (σ1 := σ3) rfl (rfl) (by simp only [tw_nadd, tw_nmul]) (rfl) ?_
    refine tw_cl1 rfl (rfl) (by decide) (tw_e_app4 (s := s + 3) (q := 97 + H 3) a3.1 (by omega) (by have := (hH 3 (by omega)).1; omega)) ?_
    rintro _ σ4 ⟨rfl, a4⟩
    show tw_P L xs _ 130 12 [.ref (2 * c + 18), .ref 4, .int (nI 3)] [] σ4 _
    refine tw_sgn 4 (i1 := 4) (ls0 := [.ref (2 * c + 18), .ref 4, .int (nI 3 + nI 1)]) (st0 := [.int (nI 4), .int (nI 3 + nI 1)]) (σ0 := σ4) (ls1 := [.ref (2 * c + 18), .ref 4, .int (nI 4)]) (st1 := [.int (nI 4), .int (nI 4)]) (σ1 := σ4) rfl (by simp only [tw_nadd, tw_nmul]) (by simp only [tw_nadd, tw_nmul]) (rfl) ?_
    refine tw_biT (c := .ge) rfl (by rw [tw_cge, tw_nle (by omega) (by omega)] <;> omega) ?_
    show tw_P L xs _ 130 14 [.ref (2 * c + 18), .ref 4, .int (nI 4)] [] σ4 _
    refine tw_sg 2 (i1 := 16) (ls1 := [.ref (2 * c + 18), .ref 4, .int (nI 4)]) (st1 := [.ref (2 * c + 18), .ref 4]) (σ1 := σ4) rfl ?_
    refine tw_cl0 0 rfl (tw_inv_ok (y := 3) (b := 0) (st := [.ref (2 * c + 18), .ref 4]) (k := (2 * c + 18)) (r := [.ref 4]) rfl rfl (tw_cdO hc)) (by decide) ?_
    show tw_P L xs _ 3 0 [.ref (2 * c + 18)] [] σ4 _
    refine tw_sg 1 (i1 := 1) (ls1 := [.ref (2 * c + 18)]) (st1 := [.ref (2 * c + 18)]) (σ1 := σ4) rfl ?_
    refine tw_gf rfl (tw_cdO hc) (tw_cdB hc (by decide)) (v := .int (σ4 (2 * c + 18) 1)) (tw_cdV1 hc) ?_
    rw [(show σ4 (2 * c + 18) 1 = nI z from by rw [a4.2.2 _ _ (by omega) (by omega), a3.2.2 _ _ (by omega) (by omega), a2.2.2 _ _ (by omega) (by omega), a1.2.2 _ _ (by omega) (by omega)]; exact hZ)]
    refine tw_ri rfl (rfl) ?_
    show tw_P L xs _ 130 17 [.ref (2 * c + 18), .ref 4, .int (nI 4)] [.int (nI z), .ref 4] σ4 _
    refine tw_sg 1 (i1 := 18) (ls1 := [.ref (2 * c + 18), .ref 4, .int (nI 4)]) (st1 := [.int (nI 1), .int (nI z), .ref 4]) (σ1 := σ4) rfl ?_
    refine tw_biT (c := .ne) rfl (by rw [tw_cne, tw_neq (by omega) (by omega)] <;> omega) ?_
    show tw_P L xs _ 130 21 [.ref (2 * c + 18), .ref 4, .int (nI 4)] [.ref 4] σ4 _
    refine tw_sg 1 (i1 := 22) (ls1 := [.ref (2 * c + 18), .ref 4, .int (nI 4)]) (st1 := [.int (nI 83), .ref 4]) (σ1 := σ4) rfl ?_
    refine tw_cl1 rfl (rfl) (by decide) (tw_e_app4 (s := s + 4) (q := 83) a4.1 (by omega) (by decide)) ?_
    rintro _ σ5 ⟨rfl, a5⟩
    show tw_P L xs _ 130 23 [.ref (2 * c + 18), .ref 4, .int (nI 4)] [] σ5 _
    refine tw_rv rfl ?_
    refine ⟨rfl, a5.1, fun h hh => ?_, ?_, fun k j g1 g2 => ?_⟩
    · rcases (show h = 0 ∨ h = 1 ∨ h = 2 ∨ h = 3 by omega) with rfl | rfl | rfl | rfl
      · rw [a5.2.2 _ _ (by omega) (by omega), a4.2.2 _ _ (by omega) (by omega), a3.2.2 _ _ (by omega) (by omega), a2.2.2 _ _ (by omega) (by omega)]; exact a1.2.1
      · rw [a5.2.2 _ _ (by omega) (by omega), a4.2.2 _ _ (by omega) (by omega), a3.2.2 _ _ (by omega) (by omega)]; exact a2.2.1
      · rw [a5.2.2 _ _ (by omega) (by omega), a4.2.2 _ _ (by omega) (by omega)]; exact a3.2.1
      · rw [a5.2.2 _ _ (by omega) (by omega)]; exact a4.2.1
    · rw [a5.2.1]; first | rw [if_pos hz1] | rw [if_neg hz1]
    · rw [a5.2.2 _ _ (by omega) (by omega), a4.2.2 _ _ (by omega) (by omega), a3.2.2 _ _ (by omega) (by omega), a2.2.2 _ _ (by omega) (by omega), a1.2.2 _ _ (by omega) (by omega)]
def tw_spC (σ0 σ : tw_Mem) (c : Nat) : Prop := (∀ k j, ¬ (k = 4 ∧ j = 1) → ¬ k = 5 → σ k j = σ0 k j) ∧ σ 4 1 = nI (6 * c - 1) ∧ ∀ j, j < 6 * c - 1 → σ 5 j = tw_sp σ0 j
def tw_spM (σ0 σ : tw_Mem) (c : Nat) : Prop := (∀ k j, ¬ (k = 88 ∧ j = 37) → ¬ k = 116 → σ k j = σ0 k j) ∧ σ 88 37 = nI (6 * c - 1) ∧ ∀ j, j < 6 * c - 1 → σ 116 j = tw_sp σ0 j
theorem tw_spC.step {σ0 σ σ1 τ : tw_Mem} {c z : Nat} {H : Nat → Nat} (h : tw_spC σ0 σ c) (hp : ∀ k j, ¬ (k = 4 ∧ j = 1) → ¬ (k = 5 ∧ j = 6 * c - 1 ∧ 0 < c) → σ1 k j = σ k j) (hk : 0 < c → σ1 5 (6 * c - 1) = nI 59) (hH : ∀ h, h < 4 → σ0 91 (4 * c + h) = nI (H h)) (hz : z < 2) (hZ : σ0 92 c = nI z)
    (w : τ 4 1 = nI (6 * c + 5) ∧ (∀ h, h < 4 → τ 5 (6 * c + h) = nI (97 + H h)) ∧ τ 5 (6 * c + 4) = nI (if z = 1 then 90 else 83) ∧ ∀ k j, ¬ (k = 4 ∧ j = 1) → ¬ (k = 5 ∧ 6 * c ≤ j ∧ j < 6 * c + 5) → τ k j = σ1 k j) : tw_spC σ0 τ (c + 1) := by
  obtain ⟨w1, w2, w3, w4⟩ := w
  refine ⟨fun k j g1 g2 => ?_, ?_, fun j hj => ?_⟩
  · rw [w4 k j g1 (by omega), hp k j g1 (by omega)]; exact h.1 k j g1 g2
  · rw [w1, show 6 * (c + 1) - 1 = 6 * c + 5 by omega]
  · by_cases a1 : j < 6 * c - 1
    · rw [w4 5 j (by omega) (by omega), hp 5 j (by omega) (by omega)]; exact h.2.2 j a1
    · by_cases a2 : j = 6 * c - 1 ∧ 0 < c
      · rw [w4 5 j (by omega) (by omega), a2.1, hk a2.2, show 6 * c - 1 = 6 * (c - 1) + 5 by omega, tw_sp_k]
      · by_cases a3 : j < 6 * c + 4
        · have e := w2 (j - 6 * c) (by omega)
          rw [show 6 * c + (j - 6 * c) = j by omega] at e
          have e2 := tw_sp_h (σ := σ0) (c := c) (h := j - 6 * c) (by omega)
          rw [show 6 * c + (j - 6 * c) = j by omega] at e2
          rw [e, e2, hH (j - 6 * c) (by omega), tw_nadd]
        · have e3 : j = 6 * c + 4 := by omega
          rw [e3, w3, tw_sp_s, hZ]
          rcases (show z = 0 ∨ z = 1 by omega) with rfl | rfl
          · rw [if_neg (by decide), if_pos rfl]
          · rw [if_pos rfl, if_neg (by decide)]
theorem tw_spM.step {σ0 σ τ : tw_Mem} {c z : Nat} {H : Nat → Nat} (h : tw_spM σ0 σ c) (hk : 0 < c → τ 116 (6 * c - 1) = nI 59) (hH : ∀ h, h < 4 → σ0 91 (4 * c + h) = nI (H h)) (hz : z < 2) (hZ : σ0 92 c = nI z)
    (w : τ 88 37 = nI (6 * c + 5) ∧ (∀ h, h < 4 → τ 116 (6 * c + h) = nI (97 + H h)) ∧ τ 116 (6 * c + 4) = nI (if z = 0 then 83 else 90) ∧ ∀ k j, ¬ (k = 88 ∧ j = 37) → ¬ (k = 116 ∧ 6 * c - 1 ≤ j ∧ j < 6 * c + 5) → τ k j = σ k j) : tw_spM σ0 τ (c + 1) := by
  obtain ⟨w1, w2, w3, w4⟩ := w
  refine ⟨fun k j g1 g2 => ?_, ?_, fun j hj => ?_⟩
  · rw [w4 k j g1 (by omega)]; exact h.1 k j g1 g2
  · rw [w1, show 6 * (c + 1) - 1 = 6 * c + 5 by omega]
  · by_cases a1 : j < 6 * c - 1
    · rw [w4 116 j (by omega) (by omega)]; exact h.2.2 j a1
    · by_cases a2 : j = 6 * c - 1 ∧ 0 < c
      · rw [a2.1, hk a2.2, show 6 * c - 1 = 6 * (c - 1) + 5 by omega, tw_sp_k]
      · by_cases a3 : j < 6 * c + 4
        · have e := w2 (j - 6 * c) (by omega)
          rw [show 6 * c + (j - 6 * c) = j by omega] at e
          have e2 := tw_sp_h (σ := σ0) (c := c) (h := j - 6 * c) (by omega)
          rw [show 6 * c + (j - 6 * c) = j by omega] at e2
          rw [e, e2, hH (j - 6 * c) (by omega), tw_nadd]
        · have e3 : j = 6 * c + 4 := by omega
          rw [e3, w3, tw_sp_s, hZ]
          rcases (show z = 0 ∨ z = 1 by omega) with rfl | rfl
          · rw [if_pos rfl, if_pos rfl]
          · rw [if_neg (by decide), if_neg (by decide)]
theorem tw_iCardH {σ : tw_Mem} {c : Nat} (h : tw_iCard1 σ c) : ∃ (H : Nat → Nat) (z : Nat), (∀ h, h < 4 → H h < 10 ∧ σ (2 * c + 19) h = nI (H h) ∧ σ 91 (4 * c + h) = nI (H h)) ∧ z < 2 ∧ σ (2 * c + 18) 1 = nI z ∧ σ 92 c = nI z := by
  obtain ⟨g1, ⟨g2, z, g3, g4⟩, -⟩ := h
  refine ⟨fun h => (σ 91 (4 * c + h)).toNatClampNeg, z, fun h hh => ?_, g3, by rw [g2, g4], g4⟩
  obtain ⟨e1, q, e2, e3⟩ := g1 h hh
  show (σ 91 (4 * c + h)).toNatClampNeg < 10 ∧ σ (2 * c + 19) h = nI (σ 91 (4 * c + h)).toNatClampNeg ∧ σ 91 (4 * c + h) = nI (σ 91 (4 * c + h)).toNatClampNeg
  have e : (σ 91 (4 * c + h)).toNatClampNeg = q := by rw [e3]; exact tw_nclamp (by omega)
  rw [e]
  exact ⟨e2, by rw [e1, e3], e3⟩
set_option maxHeartbeats 4000000 in
set_option maxRecDepth 100000 in
theorem tw_l_spell {L : Nat} {xs : Nat → Int32} {Q : Option Value → tw_Mem → Prop} {σ0 : tw_Mem} {n : Nat} (h6 : σ0 6 4 = nI n) (h10 : n ≤ 10) (hCa : ∀ c, c < n → tw_iCard1 σ0 c) (hQ : ∀ τ : tw_Mem, tw_spC σ0 τ n → Q none τ) : ∀ (f c : Nat) (σ : tw_Mem) (u : Value), c + f = n → tw_spC σ0 σ c → tw_P L xs 2 87 4 [.ref 6, .ref 4, .int (nI c), u] [] σ Q := by
  intro f
  induction f with
  | zero =>
    intro c σ u hf hI
    have hf : n = c := Eq.symm hf
    subst hf
    refine tw_sgn 3 (i1 := 7) (ls0 := [.ref 6, .ref 4, .int (nI n), u]) (st0 := [.int (σ 6 4), .int (nI n)]) (σ0 := σ) (ls1 := [.ref 6, .ref 4, .int (nI n), u]) (st1 := [.int (nI n), .int (nI n)]) (σ1 := σ) rfl (rfl) (by simp only [((hI.1 6 4 (by omega) (by omega)).trans h6), tw_nadd, tw_nmul]) (rfl) ?_
    refine tw_biT (c := .ge) rfl (by rw [tw_cge, tw_nle (by omega) (by omega)] <;> omega) ?_
    show tw_P L xs _ 87 24 [.ref 6, .ref 4, .int (nI n), u] [] σ _
    refine tw_rv rfl ?_
    exact hQ σ hI
  | succ f ih =>
    intro c σ u hf hI
    obtain ⟨H, z, hH, hz, hZ, hZ2⟩ := tw_iCardH (hCa c (by omega))
    rcases Nat.eq_zero_or_pos c with hc0 | hc0
    · subst hc0
      refine tw_sgn 3 (i1 := 7) (ls0 := [.ref 6, .ref 4, .int (nI 0), u]) (st0 := [.int (σ 6 4), .int (nI 0)]) (σ0 := σ) (ls1 := [.ref 6, .ref 4, .int (nI 0), u]) (st1 := [.int (nI n), .int (nI 0)]) (σ1 := σ) rfl (rfl) (by simp only [((hI.1 6 4 (by omega) (by omega)).trans h6), tw_nadd, tw_nmul]) (rfl) ?_
      refine tw_biF (c := .ge) rfl (by rw [tw_cge', tw_nle (by omega) (by omega)] <;> omega) ?_
      show tw_P L xs _ 87 8 [.ref 6, .ref 4, .int (nI 0), u] [] σ _
      refine tw_sg 2 (i1 := 10) (ls1 := [.ref 6, .ref 4, .int (nI 0), u]) (st1 := [.int (nI 0), .ref 6]) (σ1 := σ) rfl ?_
      refine tw_cl1 rfl (rfl) (by decide) (tw_e_cardAt1 (c := 0) ((hI.1 6 4 (by omega) (by omega)).trans h6) h10 (by omega)) ?_
      rintro _ _ ⟨rfl, rfl⟩
      show tw_P L xs _ 87 11 [.ref 6, .ref 4, .int (nI 0), u] [.ref (2 * 0 + 18)] σ _
      refine tw_sg 4 (i1 := 15) (ls1 := [.ref 6, .ref 4, .int (nI 0), .ref (2 * 0 + 18)]) (st1 := [.int (nI 0)]) (σ1 := σ) rfl ?_
      refine tw_bzT (c := .le) rfl (by rw [tw_cle, tw_nle (by omega) (by omega)] <;> omega) ?_
      show tw_P L xs _ 87 19 [.ref 6, .ref 4, .int (nI 0), .ref (2 * 0 + 18)] [] σ _
      refine tw_sg 2 (i1 := 21) (ls1 := [.ref 6, .ref 4, .int (nI 0), .ref (2 * 0 + 18)]) (st1 := [.ref 4, .ref (2 * 0 + 18)]) (σ1 := σ) rfl ?_
      refine tw_cl1 rfl (rfl) (by decide) (tw_e_writeCard (c := 0) (s := 0) (z := z) (H := H) (by omega) hI.2.1 (by omega) (fun h hh => ⟨(hH h hh).1, (hI.1 _ _ (by omega) (by omega)).trans (hH h hh).2.1⟩) hz ((hI.1 _ _ (by omega) (by omega)).trans hZ)) ?_
      rintro _ τ ⟨rfl, w⟩
      show tw_P L xs _ 87 22 [.ref 6, .ref 4, .int (nI 0), .ref (2 * 0 + 18)] [] τ _
      refine tw_sgn 2 (i1 := 4) (ls0 := [.ref 6, .ref 4, .int (nI 0 + nI 1), .ref (2 * 0 + 18)]) (st0 := []) (σ0 := τ) (ls1 := [.ref 6, .ref 4, .int (nI (0 + 1)), .ref (2 * 0 + 18)]) (st1 := []) (σ1 := τ) rfl (by simp only [tw_nadd, tw_nmul]) (rfl) (rfl) ?_
      exact ih (0 + 1) τ _ (by omega) (hI.step (σ1 := σ) (H := H) (z := z) (fun _ _ _ _ => rfl) (fun q => absurd q (by decide)) (fun h hh => (hH h hh).2.2) hz hZ2 w)
    · skip
      refine tw_sgn 3 (i1 := 7) (ls0 := [.ref 6, .ref 4, .int (nI c), u]) (st0 := [.int (σ 6 4), .int (nI c)]) (σ0 := σ) (ls1 := [.ref 6, .ref 4, .int (nI c), u]) (st1 := [.int (nI n), .int (nI c)]) (σ1 := σ) rfl (rfl) (by simp only [((hI.1 6 4 (by omega) (by omega)).trans h6), tw_nadd, tw_nmul]) (rfl) ?_
      refine tw_biF (c := .ge) rfl (by rw [tw_cge', tw_nle (by omega) (by omega)] <;> omega) ?_
      show tw_P L xs _ 87 8 [.ref 6, .ref 4, .int (nI c), u] [] σ _
      refine tw_sg 2 (i1 := 10) (ls1 := [.ref 6, .ref 4, .int (nI c), u]) (st1 := [.int (nI c), .ref 6]) (σ1 := σ) rfl ?_
      refine tw_cl1 rfl (rfl) (by decide) (tw_e_cardAt1 ((hI.1 6 4 (by omega) (by omega)).trans h6) h10 (by omega)) ?_
      rintro _ _ ⟨rfl, rfl⟩
      show tw_P L xs _ 87 11 [.ref 6, .ref 4, .int (nI c), u] [.ref (2 * c + 18)] σ _
      refine tw_sg 4 (i1 := 15) (ls1 := [.ref 6, .ref 4, .int (nI c), .ref (2 * c + 18)]) (st1 := [.int (nI c)]) (σ1 := σ) rfl ?_
      refine tw_bzF (c := .le) rfl (by rw [tw_cle', tw_nle (by omega) (by omega)] <;> omega) ?_
      show tw_P L xs _ 87 16 [.ref 6, .ref 4, .int (nI c), .ref (2 * c + 18)] [] σ _
      refine tw_sg 2 (i1 := 18) (ls1 := [.ref 6, .ref 4, .int (nI c), .ref (2 * c + 18)]) (st1 := [.int (nI 59), .ref 4]) (σ1 := σ) rfl ?_
      refine tw_cl1 rfl (rfl) (by decide) (tw_e_app4 (s := 6 * c - 1) (q := 59) hI.2.1 (by omega) (by decide)) ?_
      rintro _ σ1 ⟨rfl, ha⟩
      show tw_P L xs _ 87 19 [.ref 6, .ref 4, .int (nI c), .ref (2 * c + 18)] [] σ1 _
      refine tw_sg 2 (i1 := 21) (ls1 := [.ref 6, .ref 4, .int (nI c), .ref (2 * c + 18)]) (st1 := [.ref 4, .ref (2 * c + 18)]) (σ1 := σ1) rfl ?_
      refine tw_cl1 rfl (rfl) (by decide) (tw_e_writeCard (c := c) (s := 6 * c) (z := z) (H := H) (by omega) (by rw [ha.1]; exact congrArg nI (by omega)) (by omega) (fun h hh => ⟨(hH h hh).1, (ha.2.2 _ _ (by omega) (by omega)).trans ((hI.1 _ _ (by omega) (by omega)).trans (hH h hh).2.1)⟩) hz ((ha.2.2 _ _ (by omega) (by omega)).trans ((hI.1 _ _ (by omega) (by omega)).trans hZ))) ?_
      rintro _ τ ⟨rfl, w⟩
      show tw_P L xs _ 87 22 [.ref 6, .ref 4, .int (nI c), .ref (2 * c + 18)] [] τ _
      refine tw_sgn 2 (i1 := 4) (ls0 := [.ref 6, .ref 4, .int (nI c + nI 1), .ref (2 * c + 18)]) (st0 := []) (σ0 := τ) (ls1 := [.ref 6, .ref 4, .int (nI (c + 1)), .ref (2 * c + 18)]) (st1 := []) (σ1 := τ) rfl (by simp only [tw_nadd, tw_nmul]) (rfl) (rfl) ?_
      exact ih (c + 1) τ _ (by omega) (hI.step (σ1 := σ1) (H := H) (z := z) (fun k j g1 g2 => ha.2.2 k j g1 (by omega)) (fun _ => ha.2.1) (fun h hh => (hH h hh).2.2) hz hZ2 w)
set_option maxHeartbeats 4000000 in
set_option maxRecDepth 100000 in
theorem tw_e_spellOn {n : Nat} (h6 : σ 6 4 = nI n) (h10 : n ≤ 10) (hCa : ∀ c, c < n → tw_iCard1 σ c) : tw_E L xs 2 87 [.ref 6, .ref 4] σ (fun v τ => v = none ∧ tw_spC σ τ n) := by
  show tw_P L xs _ 87 0 [.ref 6, .ref 4, tw_U, tw_U] [] σ _
  refine tw_sg 1 (i1 := 1) (ls1 := [.ref 6, .ref 4, tw_U, tw_U]) (st1 := [.ref 4]) (σ1 := σ) rfl ?_
  refine tw_cl0 1 rfl (rfl) (by decide) ?_
  show tw_P L xs _ 124 0 [.ref 4] [] σ _
  refine tw_sg 3 (i1 := 3) (ls1 := [.ref 4]) (st1 := []) (σ1 := (tw_upd σ 4 1 (nI 0))) rfl ?_
  refine tw_rv rfl ?_
  show tw_P L xs _ 87 2 [.ref 6, .ref 4, tw_U, tw_U] [] (tw_upd σ 4 1 (nI 0)) _
  refine tw_sg 2 (i1 := 4) (ls1 := [.ref 6, .ref 4, .int (nI 0), tw_U]) (st1 := []) (σ1 := (tw_upd σ 4 1 (nI 0))) rfl ?_
  refine tw_l_spell (σ0 := σ) h6 h10 hCa (fun τ h => ⟨rfl, h⟩) n 0 _ _ (by omega) ⟨fun k j g1 g2 => ?_, tw_upd_at, fun j hj => by omega⟩
  rw [tw_upd_off g1]
set_option maxHeartbeats 4000000 in
set_option maxRecDepth 100000 in
theorem tw_l_mspell {L : Nat} {xs : Nat → Int32} {Q : Option Value → tw_Mem → Prop} {σ0 : tw_Mem} {n : Nat} (h89 : σ0 89 0 = nI n) (h10 : n ≤ 10) (hCa : ∀ c, c < n → tw_iCard1 σ0 c) (hQ : ∀ τ : tw_Mem, tw_spM σ0 τ n → Q (some (.int (nI (6 * n - 1)))) τ) : ∀ (f c : Nat) (σ : tw_Mem) (u : Value), c + f = n → tw_spM σ0 σ c → tw_P L xs 0 247 5 [.ref 88, .int (nI c), u] [] σ Q := by
  intro f
  induction f with
  | zero =>
    intro c σ u hf hI
    have hf : n = c := Eq.symm hf
    subst hf
    refine tw_sg 4 (i1 := 9) (ls1 := [.ref 88, .int (nI n), u]) (st1 := [.int (nI 0), .ref 89, .int (nI n)]) (σ1 := σ) rfl ?_
    refine tw_al (k := 89) (j := 0) (len := 2) rfl rfl rfl rfl (rfl) (by omega) (by decide) ?_
    rw [((hI.1 89 0 (by omega) (by omega)).trans h89)]
    refine tw_biT (c := .ge) rfl (by rw [tw_cge, tw_nle (by omega) (by omega)] <;> omega) ?_
    show tw_P L xs _ 247 72 [.ref 88, .int (nI n), u] [] σ _
    refine tw_sgn 2 (i1 := 74) (ls0 := [.ref 88, .int (nI n), u]) (st0 := [.int (σ 88 37)]) (σ0 := σ) (ls1 := [.ref 88, .int (nI n), u]) (st1 := [.int (nI (6 * n - 1))]) (σ1 := σ) rfl (rfl) (by simp only [hI.2.1, tw_nadd, tw_nmul]) (rfl) ?_
    refine tw_ri rfl (rfl) ?_
    exact hQ σ hI
  | succ f ih =>
    intro c σ u hf hI
    obtain ⟨H, z, hH, hz, hZ, hZ2⟩ := tw_iCardH (hCa c (by omega))
    have f4 : ∀ h, h < 4 → H h < 10 := fun h hh => (hH h hh).1
    rcases Nat.eq_zero_or_pos c with hc0 | hc0
    · skip
      subst hc0
      rcases (show z = 0 ∨ z = 1 by omega) with hz0 | hz0
      · skip
        refine tw_sg 4 (i1 := 9) (ls1 := [.ref 88, .int (nI 0), u]) (st1 := [.int (nI 0), .ref 89, .int (nI 0)]) (σ1 := σ) rfl ?_
        refine tw_al (k := 89) (j := 0) (len := 2) rfl rfl rfl rfl (rfl) (by omega) (by decide) ?_
        rw [((hI.1 89 0 (by omega) (by omega)).trans h89)]
        refine tw_biF (c := .ge) rfl (by rw [tw_cge', tw_nle (by omega) (by omega)] <;> omega) ?_
        show tw_P L xs _ 247 11 [.ref 88, .int (nI 0), u] [] σ _
        refine tw_sg 1 (i1 := 12) (ls1 := [.ref 88, .int (nI 0), u]) (st1 := [.int (nI 0)]) (σ1 := σ) rfl ?_
        refine tw_bzT (c := .le) rfl (by rw [tw_cle, tw_nle (by omega) (by omega)] <;> omega) ?_
        show tw_P L xs _ 247 25 [.ref 88, .int (nI 0), u] [] σ _
        refine tw_sg 4 (i1 := 29) (ls1 := [.ref 88, .int (nI 0), .int (nI 0)]) (st1 := [.int (nI 4), .int (nI 0)]) (σ1 := σ) rfl ?_
        refine tw_biF (c := .ge) rfl (by rw [tw_cge', tw_nle (by omega) (by omega)] <;> omega) ?_
        show tw_P L xs _ 247 30 [.ref 88, .int (nI 0), .int (nI 0)] [] σ _
        refine tw_sgn 14 (i1 := 44) (ls0 := [.ref 88, .int (nI 0), .int (nI 0)]) (st0 := [.int ((nI 4 * nI 0) + nI 0), .ref 91, .int (nI 97), .int ((σ 88 37) + nI 0), .ref 116]) (σ0 := σ) (ls1 := [.ref 88, .int (nI 0), .int (nI 0)]) (st1 := [.int (nI 0), .ref 91, .int (nI 97), .int (nI 0), .ref 116]) (σ1 := σ) rfl (rfl) (by simp only [(show σ 88 37 = nI 0 from hI.2.1), tw_nadd, tw_nmul]) (rfl) ?_
        refine tw_al (k := 91) (j := 0) (len := 80) rfl rfl rfl rfl (rfl) (by omega) (by decide) ?_
        rw [((hI.1 91 _ (by omega) (by omega)).trans (hH 0 (by omega)).2.2)]
        refine tw_sgn 1 (i1 := 46) (ls0 := [.ref 88, .int (nI 0), .int (nI 0)]) (st0 := [.int (nI 97 + nI (H 0)), .int (nI 0), .ref 116]) (σ0 := σ) (ls1 := [.ref 88, .int (nI 0), .int (nI 0)]) (st1 := [.int (nI (97 + (H 0))), .int (nI 0), .ref 116]) (σ1 := σ) rfl (rfl) (by simp only [tw_nadd, tw_nmul]) (rfl) ?_
        refine tw_as (k := 116) (j := 0) (len := 60) rfl rfl rfl (rfl) (by omega) (by decide) ?_
        refine tw_sgn 4 (i1 := 29) (ls0 := [.ref 88, .int (nI 0), .int (nI 0 + nI 1)]) (st0 := [.int (nI 4), .int (nI 0 + nI 1)]) (σ0 := (tw_upd σ 116 0 (nI (97 + (H 0))))) (ls1 := [.ref 88, .int (nI 0), .int (nI 1)]) (st1 := [.int (nI 4), .int (nI 1)]) (σ1 := (tw_upd σ 116 0 (nI (97 + (H 0))))) rfl (by simp only [tw_nadd, tw_nmul]) (by simp only [tw_nadd, tw_nmul]) (rfl) ?_
        refine tw_biF (c := .ge) rfl (by rw [tw_cge', tw_nle (by omega) (by omega)] <;> omega) ?_
        show tw_P L xs _ 247 30 [.ref 88, .int (nI 0), .int (nI 1)] [] (tw_upd σ 116 0 (nI (97 + (H 0)))) _
        refine tw_sgn 14 (i1 := 44) (ls0 := [.ref 88, .int (nI 0), .int (nI 1)]) (st0 := [.int ((nI 4 * nI 0) + nI 1), .ref 91, .int (nI 97), .int ((σ 88 37) + nI 1), .ref 116]) (σ0 := (tw_upd σ 116 0 (nI (97 + (H 0))))) (ls1 := [.ref 88, .int (nI 0), .int (nI 1)]) (st1 := [.int (nI 1), .ref 91, .int (nI 97), .int (nI 1), .ref 116]) (σ1 := (tw_upd σ 116 0 (nI (97 + (H 0))))) rfl (rfl) (by simp only [(show σ 88 37 = nI 0 from hI.2.1), tw_nadd, tw_nmul]) (rfl) ?_
        refine tw_al (k := 91) (j := 1) (len := 80) rfl rfl rfl rfl (rfl) (by omega) (by decide) ?_
        rw [show (tw_upd σ 116 0 (nI (97 + (H 0)))) 91 1 = σ 91 1 from by repeat (first | exact rfl | exact tw_upd_at | rw [tw_upd_off (by omega)]), ((hI.1 91 _ (by omega) (by omega)).trans (hH 1 (by omega)).2.2)]
        refine tw_sgn 1 (i1 := 46) (ls0 := [.ref 88, .int (nI 0), .int (nI 1)]) (st0 := [.int (nI 97 + nI (H 1)), .int (nI 1), .ref 116]) (σ0 := (tw_upd σ 116 0 (nI (97 + (H 0))))) (ls1 := [.ref 88, .int (nI 0), .int (nI 1)]) (st1 := [.int (nI (97 + (H 1))), .int (nI 1), .ref 116]) (σ1 := (tw_upd σ 116 0 (nI (97 + (H 0))))) rfl (rfl) (by simp only [tw_nadd, tw_nmul]) (rfl) ?_
        refine tw_as (k := 116) (j := 1) (len := 60) rfl rfl rfl (rfl) (by omega) (by decide) ?_
        refine tw_sgn 4 (i1 := 29) (ls0 := [.ref 88, .int (nI 0), .int (nI 1 + nI 1)]) (st0 := [.int (nI 4), .int (nI 1 + nI 1)]) (σ0 := (tw_upd (tw_upd σ 116 0 (nI (97 + (H 0)))) 116 1 (nI (97 + (H 1))))) (ls1 := [.ref 88, .int (nI 0), .int (nI 2)]) (st1 := [.int (nI 4), .int (nI 2)]) (σ1 := (tw_upd (tw_upd σ 116 0 (nI (97 + (H 0)))) 116 1 (nI (97 + (H 1))))) rfl (by simp only [tw_nadd, tw_nmul]) (by simp only [tw_nadd, tw_nmul]) (rfl) ?_
        refine tw_biF (c := .ge) rfl (by rw [tw_cge', tw_nle (by omega) (by omega)] <;> omega) ?_
        show tw_P L xs _ 247 30 [.ref 88, .int (nI 0), .int (nI 2)] [] (tw_upd (tw_upd σ 116 0 (nI (97 + (H 0)))) 116 1 (nI (97 + (H 1)))) _
        refine tw_sgn 14 (i1 := 44) (ls0 := [.ref 88, .int (nI 0), .int (nI 2)]) (st0 := [.int ((nI 4 * nI 0) + nI 2), .ref 91, .int (nI 97), .int ((σ 88 37) + nI 2), .ref 116]) (σ0 := (tw_upd (tw_upd σ 116 0 (nI (97 + (H 0)))) 116 1 (nI (97 + (H 1))))) (ls1 := [.ref 88, .int (nI 0), .int (nI 2)]) (st1 := [.int (nI 2), .ref 91, .int (nI 97), .int (nI 2), .ref 116]) (σ1 := (tw_upd (tw_upd σ 116 0 (nI (97 + (H 0)))) 116 1 (nI (97 + (H 1))))) rfl (rfl) (by simp only [(show σ 88 37 = nI 0 from hI.2.1), tw_nadd, tw_nmul]) (rfl) ?_
        refine tw_al (k := 91) (j := 2) (len := 80) rfl rfl rfl rfl (rfl) (by omega) (by decide) ?_
        rw [show (tw_upd (tw_upd σ 116 0 (nI (97 + (H 0)))) 116 1 (nI (97 + (H 1)))) 91 2 = σ 91 2 from by repeat (first | exact rfl | exact tw_upd_at | rw [tw_upd_off (by omega)]), ((hI.1 91 _ (by omega) (by omega)).trans (hH 2 (by omega)).2.2)]
        refine tw_sgn 1 (i1 := 46) (ls0 := [.ref 88, .int (nI 0), .int (nI 2)]) (st0 := [.int (nI 97 + nI (H 2)), .int (nI 2), .ref 116]) (σ0 := (tw_upd (tw_upd σ 116 0 (nI (97 + (H 0)))) 116 1 (nI (97 + (H 1))))) (ls1 := [.ref 88, .int (nI 0), .int (nI 2)]) (st1 := [.int (nI (97 + (H 2))), .int (nI 2), .ref 116]) (σ1 := (tw_upd (tw_upd σ 116 0 (nI (97 + (H 0)))) 116 1 (nI (97 + (H 1))))) rfl (rfl) (by simp only [tw_nadd, tw_nmul]) (rfl) ?_
        refine tw_as (k := 116) (j := 2) (len := 60) rfl rfl rfl (rfl) (by omega) (by decide) ?_
        refine tw_sgn 4 (i1 := 29) (ls0 := [.ref 88, .int (nI 0), .int (nI 2 + nI 1)]) (st0 := [.int (nI 4), .int (nI 2 + nI 1)]) (σ0 := (tw_upd (tw_upd (tw_upd σ 116 0 (nI (97 + (H 0)))) 116 1 (nI (97 + (H 1)))) 116 2 (nI (97 + (H 2))))) (ls1 := [.ref 88, .int (nI 0), .int (nI 3)]) (st1 := [.int (nI 4), .int (nI 3)]) (σ1 := (tw_upd (tw_upd (tw_upd σ 116 0 (nI (97 + (H 0)))) 116 1 (nI (97 + (H 1)))) 116 2 (nI (97 + (H 2))))) rfl (by simp only [tw_nadd, tw_nmul]) (by simp only [tw_nadd, tw_nmul]) (rfl) ?_
        refine tw_biF (c := .ge) rfl (by rw [tw_cge', tw_nle (by omega) (by omega)] <;> omega) ?_
        show tw_P L xs _ 247 30 [.ref 88, .int (nI 0), .int (nI 3)] [] (tw_upd (tw_upd (tw_upd σ 116 0 (nI (97 + (H 0)))) 116 1 (nI (97 + (H 1)))) 116 2 (nI (97 + (H 2)))) _
        refine tw_sgn 14 (i1 := 44) (ls0 := [.ref 88, .int (nI 0), .int (nI 3)]) (st0 := [.int ((nI 4 * nI 0) + nI 3), .ref 91, .int (nI 97), .int ((σ 88 37) + nI 3), .ref 116]) (σ0 := (tw_upd (tw_upd (tw_upd σ 116 0 (nI (97 + (H 0)))) 116 1 (nI (97 + (H 1)))) 116 2 (nI (97 + (H 2))))) (ls1 := [.ref 88, .int (nI 0), .int (nI 3)]) (st1 := [.int (nI 3), .ref 91, .int (nI 97), .int (nI 3), .ref 116]) (σ1 := (tw_upd (tw_upd (tw_upd σ 116 0 (nI (97 + (H 0)))) 116 1 (nI (97 + (H 1)))) 116 2 (nI (97 + (H 2))))) rfl (rfl) (by simp only [(show σ 88 37 = nI 0 from hI.2.1), tw_nadd, tw_nmul]) (rfl) ?_
        refine tw_al (k := 91) (j := 3) (len := 80) rfl rfl rfl rfl (rfl) (by omega) (by decide) ?_
        rw [show (tw_upd (tw_upd (tw_upd σ 116 0 (nI (97 + (H 0)))) 116 1 (nI (97 + (H 1)))) 116 2 (nI (97 + (H 2)))) 91 3 = σ 91 3 from by repeat (first | exact rfl | exact tw_upd_at | rw [tw_upd_off (by omega)]), ((hI.1 91 _ (by omega) (by omega)).trans (hH 3 (by omega)).2.2)]
        refine tw_sgn 1 (i1 := 46) (ls0 := [.ref 88, .int (nI 0), .int (nI 3)]) (st0 := [.int (nI 97 + nI (H 3)), .int (nI 3), .ref 116]) (σ0 := (tw_upd (tw_upd (tw_upd σ 116 0 (nI (97 + (H 0)))) 116 1 (nI (97 + (H 1)))) 116 2 (nI (97 + (H 2))))) (ls1 := [.ref 88, .int (nI 0), .int (nI 3)]) (st1 := [.int (nI (97 + (H 3))), .int (nI 3), .ref 116]) (σ1 := (tw_upd (tw_upd (tw_upd σ 116 0 (nI (97 + (H 0)))) 116 1 (nI (97 + (H 1)))) 116 2 (nI (97 + (H 2))))) rfl (rfl) (by simp only [tw_nadd, tw_nmul]) (rfl) ?_
        refine tw_as (k := 116) (j := 3) (len := 60) rfl rfl rfl (rfl) (by omega) (by decide) ?_
        refine tw_sgn 4 (i1 := 29) (ls0 := [.ref 88, .int (nI 0), .int (nI 3 + nI 1)]) (st0 := [.int (nI 4), .int (nI 3 + nI 1)]) (σ0 := (tw_upd (tw_upd (tw_upd (tw_upd σ 116 0 (nI (97 + (H 0)))) 116 1 (nI (97 + (H 1)))) 116 2 (nI (97 + (H 2)))) 116 3 (nI (97 + (H 3))))) (ls1 := [.ref 88, .int (nI 0), .int (nI 4)]) (st1 := [.int (nI 4), .int (nI 4)]) (σ1 := (tw_upd (tw_upd (tw_upd (tw_upd σ 116 0 (nI (97 + (H 0)))) 116 1 (nI (97 + (H 1)))) 116 2 (nI (97 + (H 2)))) 116 3 (nI (97 + (H 3))))) rfl (by simp only [tw_nadd, tw_nmul]) (by simp only [tw_nadd, tw_nmul]) (rfl) ?_
        refine tw_biT (c := .ge) rfl (by rw [tw_cge, tw_nle (by omega) (by omega)] <;> omega) ?_
        show tw_P L xs _ 247 49 [.ref 88, .int (nI 0), .int (nI 4)] [] (tw_upd (tw_upd (tw_upd (tw_upd σ 116 0 (nI (97 + (H 0)))) 116 1 (nI (97 + (H 1)))) 116 2 (nI (97 + (H 2)))) 116 3 (nI (97 + (H 3)))) _
        refine tw_sgn 9 (i1 := 58) (ls0 := [.ref 88, .int (nI 0), .int (nI 4)]) (st0 := [.int (nI 0), .ref 92, .int ((σ 88 37) + nI 4), .ref 116]) (σ0 := (tw_upd (tw_upd (tw_upd (tw_upd σ 116 0 (nI (97 + (H 0)))) 116 1 (nI (97 + (H 1)))) 116 2 (nI (97 + (H 2)))) 116 3 (nI (97 + (H 3))))) (ls1 := [.ref 88, .int (nI 0), .int (nI 4)]) (st1 := [.int (nI 0), .ref 92, .int (nI 4), .ref 116]) (σ1 := (tw_upd (tw_upd (tw_upd (tw_upd σ 116 0 (nI (97 + (H 0)))) 116 1 (nI (97 + (H 1)))) 116 2 (nI (97 + (H 2)))) 116 3 (nI (97 + (H 3))))) rfl (rfl) (by simp only [(show σ 88 37 = nI 0 from hI.2.1), tw_nadd, tw_nmul]) (rfl) ?_
        refine tw_al (k := 92) (j := 0) (len := 20) rfl rfl rfl rfl (rfl) (by omega) (by decide) ?_
        rw [show (tw_upd (tw_upd (tw_upd (tw_upd σ 116 0 (nI (97 + (H 0)))) 116 1 (nI (97 + (H 1)))) 116 2 (nI (97 + (H 2)))) 116 3 (nI (97 + (H 3)))) 92 0 = σ 92 0 from by repeat (first | exact rfl | exact tw_upd_at | rw [tw_upd_off (by omega)]), ((hI.1 92 _ (by omega) (by omega)).trans hZ2)]
        refine tw_bzF (c := .ne) rfl (by rw [tw_cne', tw_neq (by omega) (by omega)] <;> omega) ?_
        show tw_P L xs _ 247 60 [.ref 88, .int (nI 0), .int (nI 4)] [.int (nI 4), .ref 116] (tw_upd (tw_upd (tw_upd (tw_upd σ 116 0 (nI (97 + (H 0)))) 116 1 (nI (97 + (H 1)))) 116 2 (nI (97 + (H 2)))) 116 3 (nI (97 + (H 3)))) _
        refine tw_sg 2 (i1 := 63) (ls1 := [.ref 88, .int (nI 0), .int (nI 4)]) (st1 := [.int (nI 83), .int (nI 4), .ref 116]) (σ1 := (tw_upd (tw_upd (tw_upd (tw_upd σ 116 0 (nI (97 + (H 0)))) 116 1 (nI (97 + (H 1)))) 116 2 (nI (97 + (H 2)))) 116 3 (nI (97 + (H 3))))) rfl ?_
        refine tw_as (k := 116) (j := 4) (len := 60) rfl rfl rfl (rfl) (by omega) (by decide) ?_
        refine tw_sgn 8 (i1 := 5) (ls0 := [.ref 88, .int (nI 0 + nI 1), .int (nI 4)]) (st0 := []) (σ0 := (tw_upd (tw_upd (tw_upd (tw_upd (tw_upd (tw_upd σ 116 0 (nI (97 + (H 0)))) 116 1 (nI (97 + (H 1)))) 116 2 (nI (97 + (H 2)))) 116 3 (nI (97 + (H 3)))) 116 4 (nI 83)) 88 37 ((σ 88 37) + nI 5))) (ls1 := [.ref 88, .int (nI 1), .int (nI 4)]) (st1 := []) (σ1 := (tw_upd (tw_upd (tw_upd (tw_upd (tw_upd (tw_upd σ 116 0 (nI (97 + (H 0)))) 116 1 (nI (97 + (H 1)))) 116 2 (nI (97 + (H 2)))) 116 3 (nI (97 + (H 3)))) 116 4 (nI 83)) 88 37 (nI 5))) rfl (by simp only [(show σ 88 37 = nI 0 from hI.2.1), tw_nadd, tw_nmul]) (rfl) (by simp only [(show σ 88 37 = nI 0 from hI.2.1), tw_nadd, tw_nmul]) ?_
        generalize hτ : (tw_upd (tw_upd (tw_upd (tw_upd (tw_upd (tw_upd σ 116 0 (nI (97 + (H 0)))) 116 1 (nI (97 + (H 1)))) 116 2 (nI (97 + (H 2)))) 116 3 (nI (97 + (H 3)))) 116 4 (nI 83)) 88 37 (nI 5)) = τ
        refine ih (0 + 1) τ _ (by omega) (hI.step (H := H) (z := z) (fun hc => ?_) (fun h hh => (hH h hh).2.2) hz hZ2 ⟨?_, fun h hh => ?_, ?_, fun k j g1 g2 => ?_⟩)
        · exact absurd hc (by decide)
        · rw [← hτ]; exact tw_upd_at.trans (by first | rfl | exact congrArg nI (by omega))
        · rcases (show h = 0 ∨ h = 1 ∨ h = 2 ∨ h = 3 by omega) with rfl | rfl | rfl | rfl
          · rw [← hτ]; repeat (first | exact tw_upd_at | (rw [show 6 * 0 + 0 = 0 by omega, tw_upd_at]; done) | rw [tw_upd_off (by omega)])
          · rw [← hτ]; repeat (first | exact tw_upd_at | (rw [show 6 * 0 + 1 = 1 by omega, tw_upd_at]; done) | rw [tw_upd_off (by omega)])
          · rw [← hτ]; repeat (first | exact tw_upd_at | (rw [show 6 * 0 + 2 = 2 by omega, tw_upd_at]; done) | rw [tw_upd_off (by omega)])
          · rw [← hτ]; repeat (first | exact tw_upd_at | (rw [show 6 * 0 + 3 = 3 by omega, tw_upd_at]; done) | rw [tw_upd_off (by omega)])
        · rw [← hτ, hz0]; repeat (first | exact tw_upd_at | (rw [show 6 * 0 + 4 = 4 by omega]; exact tw_upd_at) | rw [tw_upd_off (by omega)])
        · rw [← hτ]; repeat (first | rfl | rw [tw_upd_off (by omega)])
      · skip
        refine tw_sg 4 (i1 := 9) (ls1 := [.ref 88, .int (nI 0), u]) (st1 := [.int (nI 0), .ref 89, .int (nI 0)]) (σ1 := σ) rfl ?_
        refine tw_al (k := 89) (j := 0) (len := 2) rfl rfl rfl rfl (rfl) (by omega) (by decide) ?_
        rw [((hI.1 89 0 (by omega) (by omega)).trans h89)]
        refine tw_biF (c := .ge) rfl (by rw [tw_cge', tw_nle (by omega) (by omega)] <;> omega) ?_
        show tw_P L xs _ 247 11 [.ref 88, .int (nI 0), u] [] σ _
        refine tw_sg 1 (i1 := 12) (ls1 := [.ref 88, .int (nI 0), u]) (st1 := [.int (nI 0)]) (σ1 := σ) rfl ?_
        refine tw_bzT (c := .le) rfl (by rw [tw_cle, tw_nle (by omega) (by omega)] <;> omega) ?_
        show tw_P L xs _ 247 25 [.ref 88, .int (nI 0), u] [] σ _
        refine tw_sg 4 (i1 := 29) (ls1 := [.ref 88, .int (nI 0), .int (nI 0)]) (st1 := [.int (nI 4), .int (nI 0)]) (σ1 := σ) rfl ?_
        refine tw_biF (c := .ge) rfl (by rw [tw_cge', tw_nle (by omega) (by omega)] <;> omega) ?_
        show tw_P L xs _ 247 30 [.ref 88, .int (nI 0), .int (nI 0)] [] σ _
        refine tw_sgn 14 (i1 := 44) (ls0 := [.ref 88, .int (nI 0), .int (nI 0)]) (st0 := [.int ((nI 4 * nI 0) + nI 0), .ref 91, .int (nI 97), .int ((σ 88 37) + nI 0), .ref 116]) (σ0 := σ) (ls1 := [.ref 88, .int (nI 0), .int (nI 0)]) (st1 := [.int (nI 0), .ref 91, .int (nI 97), .int (nI 0), .ref 116]) (σ1 := σ) rfl (rfl) (by simp only [(show σ 88 37 = nI 0 from hI.2.1), tw_nadd, tw_nmul]) (rfl) ?_
        refine tw_al (k := 91) (j := 0) (len := 80) rfl rfl rfl rfl (rfl) (by omega) (by decide) ?_
        rw [((hI.1 91 _ (by omega) (by omega)).trans (hH 0 (by omega)).2.2)]
        refine tw_sgn 1 (i1 := 46) (ls0 := [.ref 88, .int (nI 0), .int (nI 0)]) (st0 := [.int (nI 97 + nI (H 0)), .int (nI 0), .ref 116]) (σ0 := σ) (ls1 := [.ref 88, .int (nI 0), .int (nI 0)]) (st1 := [.int (nI (97 + (H 0))), .int (nI 0), .ref 116]) (σ1 := σ) rfl (rfl) (by simp only [tw_nadd, tw_nmul]) (rfl) ?_
        refine tw_as (k := 116) (j := 0) (len := 60) rfl rfl rfl (rfl) (by omega) (by decide) ?_
        refine tw_sgn 4 (i1 := 29) (ls0 := [.ref 88, .int (nI 0), .int (nI 0 + nI 1)]) (st0 := [.int (nI 4), .int (nI 0 + nI 1)]) (σ0 := (tw_upd σ 116 0 (nI (97 + (H 0))))) (ls1 := [.ref 88, .int (nI 0), .int (nI 1)]) (st1 := [.int (nI 4), .int (nI 1)]) (σ1 := (tw_upd σ 116 0 (nI (97 + (H 0))))) rfl (by simp only [tw_nadd, tw_nmul]) (by simp only [tw_nadd, tw_nmul]) (rfl) ?_
        refine tw_biF (c := .ge) rfl (by rw [tw_cge', tw_nle (by omega) (by omega)] <;> omega) ?_
        show tw_P L xs _ 247 30 [.ref 88, .int (nI 0), .int (nI 1)] [] (tw_upd σ 116 0 (nI (97 + (H 0)))) _
        refine tw_sgn 14 (i1 := 44) (ls0 := [.ref 88, .int (nI 0), .int (nI 1)]) (st0 := [.int ((nI 4 * nI 0) + nI 1), .ref 91, .int (nI 97), .int ((σ 88 37) + nI 1), .ref 116]) (σ0 := (tw_upd σ 116 0 (nI (97 + (H 0))))) (ls1 := [.ref 88, .int (nI 0), .int (nI 1)]) (st1 := [.int (nI 1), .ref 91, .int (nI 97), .int (nI 1), .ref 116]) (σ1 := (tw_upd σ 116 0 (nI (97 + (H 0))))) rfl (rfl) (by simp only [(show σ 88 37 = nI 0 from hI.2.1), tw_nadd, tw_nmul]) (rfl) ?_
        refine tw_al (k := 91) (j := 1) (len := 80) rfl rfl rfl rfl (rfl) (by omega) (by decide) ?_
        rw [show (tw_upd σ 116 0 (nI (97 + (H 0)))) 91 1 = σ 91 1 from by repeat (first | exact rfl | exact tw_upd_at | rw [tw_upd_off (by omega)]), ((hI.1 91 _ (by omega) (by omega)).trans (hH 1 (by omega)).2.2)]
        refine tw_sgn 1 (i1 := 46) (ls0 := [.ref 88, .int (nI 0), .int (nI 1)]) (st0 := [.int (nI 97 + nI (H 1)), .int (nI 1), .ref 116]) (σ0 := (tw_upd σ 116 0 (nI (97 + (H 0))))) (ls1 := [.ref 88, .int (nI 0), .int (nI 1)]) (st1 := [.int (nI (97 + (H 1))), .int (nI 1), .ref 116]) (σ1 := (tw_upd σ 116 0 (nI (97 + (H 0))))) rfl (rfl) (by simp only [tw_nadd, tw_nmul]) (rfl) ?_
        refine tw_as (k := 116) (j := 1) (len := 60) rfl rfl rfl (rfl) (by omega) (by decide) ?_
        refine tw_sgn 4 (i1 := 29) (ls0 := [.ref 88, .int (nI 0), .int (nI 1 + nI 1)]) (st0 := [.int (nI 4), .int (nI 1 + nI 1)]) (σ0 := (tw_upd (tw_upd σ 116 0 (nI (97 + (H 0)))) 116 1 (nI (97 + (H 1))))) (ls1 := [.ref 88, .int (nI 0), .int (nI 2)]) (st1 := [.int (nI 4), .int (nI 2)]) (σ1 := (tw_upd (tw_upd σ 116 0 (nI (97 + (H 0)))) 116 1 (nI (97 + (H 1))))) rfl (by simp only [tw_nadd, tw_nmul]) (by simp only [tw_nadd, tw_nmul]) (rfl) ?_
        refine tw_biF (c := .ge) rfl (by rw [tw_cge', tw_nle (by omega) (by omega)] <;> omega) ?_
        show tw_P L xs _ 247 30 [.ref 88, .int (nI 0), .int (nI 2)] [] (tw_upd (tw_upd σ 116 0 (nI (97 + (H 0)))) 116 1 (nI (97 + (H 1)))) _
        refine tw_sgn 14 (i1 := 44) (ls0 := [.ref 88, .int (nI 0), .int (nI 2)]) (st0 := [.int ((nI 4 * nI 0) + nI 2), .ref 91, .int (nI 97), .int ((σ 88 37) + nI 2), .ref 116]) (σ0 := (tw_upd (tw_upd σ 116 0 (nI (97 + (H 0)))) 116 1 (nI (97 + (H 1))))) (ls1 := [.ref 88, .int (nI 0), .int (nI 2)]) (st1 := [.int (nI 2), .ref 91, .int (nI 97), .int (nI 2), .ref 116]) (σ1 := (tw_upd (tw_upd σ 116 0 (nI (97 + (H 0)))) 116 1 (nI (97 + (H 1))))) rfl (rfl) (by simp only [(show σ 88 37 = nI 0 from hI.2.1), tw_nadd, tw_nmul]) (rfl) ?_
        refine tw_al (k := 91) (j := 2) (len := 80) rfl rfl rfl rfl (rfl) (by omega) (by decide) ?_
        rw [show (tw_upd (tw_upd σ 116 0 (nI (97 + (H 0)))) 116 1 (nI (97 + (H 1)))) 91 2 = σ 91 2 from by repeat (first | exact rfl | exact tw_upd_at | rw [tw_upd_off (by omega)]), ((hI.1 91 _ (by omega) (by omega)).trans (hH 2 (by omega)).2.2)]
        refine tw_sgn 1 (i1 := 46) (ls0 := [.ref 88, .int (nI 0), .int (nI 2)]) (st0 := [.int (nI 97 + nI (H 2)), .int (nI 2), .ref 116]) (σ0 := (tw_upd (tw_upd σ 116 0 (nI (97 + (H 0)))) 116 1 (nI (97 + (H 1))))) (ls1 := [.ref 88, .int (nI 0), .int (nI 2)]) (st1 := [.int (nI (97 + (H 2))), .int (nI 2), .ref 116]) (σ1 := (tw_upd (tw_upd σ 116 0 (nI (97 + (H 0)))) 116 1 (nI (97 + (H 1))))) rfl (rfl) (by simp only [tw_nadd, tw_nmul]) (rfl) ?_
        refine tw_as (k := 116) (j := 2) (len := 60) rfl rfl rfl (rfl) (by omega) (by decide) ?_
        refine tw_sgn 4 (i1 := 29) (ls0 := [.ref 88, .int (nI 0), .int (nI 2 + nI 1)]) (st0 := [.int (nI 4), .int (nI 2 + nI 1)]) (σ0 := (tw_upd (tw_upd (tw_upd σ 116 0 (nI (97 + (H 0)))) 116 1 (nI (97 + (H 1)))) 116 2 (nI (97 + (H 2))))) (ls1 := [.ref 88, .int (nI 0), .int (nI 3)]) (st1 := [.int (nI 4), .int (nI 3)]) (σ1 := (tw_upd (tw_upd (tw_upd σ 116 0 (nI (97 + (H 0)))) 116 1 (nI (97 + (H 1)))) 116 2 (nI (97 + (H 2))))) rfl (by simp only [tw_nadd, tw_nmul]) (by simp only [tw_nadd, tw_nmul]) (rfl) ?_
        refine tw_biF (c := .ge) rfl (by rw [tw_cge', tw_nle (by omega) (by omega)] <;> omega) ?_
        show tw_P L xs _ 247 30 [.ref 88, .int (nI 0), .int (nI 3)] [] (tw_upd (tw_upd (tw_upd σ 116 0 (nI (97 + (H 0)))) 116 1 (nI (97 + (H 1)))) 116 2 (nI (97 + (H 2)))) _
        refine tw_sgn 14 (i1 := 44) (ls0 := [.ref 88, .int (nI 0), .int (nI 3)]) (st0 := [.int ((nI 4 * nI 0) + nI 3), .ref 91, .int (nI 97), .int ((σ 88 37) + nI 3), .ref 116]) (σ0 := (tw_upd (tw_upd (tw_upd σ 116 0 (nI (97 + (H 0)))) 116 1 (nI (97 + (H 1)))) 116 2 (nI (97 + (H 2))))) (ls1 := [.ref 88, .int (nI 0), .int (nI 3)]) (st1 := [.int (nI 3), .ref 91, .int (nI 97), .int (nI 3), .ref 116]) (σ1 := (tw_upd (tw_upd (tw_upd σ 116 0 (nI (97 + (H 0)))) 116 1 (nI (97 + (H 1)))) 116 2 (nI (97 + (H 2))))) rfl (rfl) (by simp only [(show σ 88 37 = nI 0 from hI.2.1), tw_nadd, tw_nmul]) (rfl) ?_
        refine tw_al (k := 91) (j := 3) (len := 80) rfl rfl rfl rfl (rfl) (by omega) (by decide) ?_
        rw [show (tw_upd (tw_upd (tw_upd σ 116 0 (nI (97 + (H 0)))) 116 1 (nI (97 + (H 1)))) 116 2 (nI (97 + (H 2)))) 91 3 = σ 91 3 from by repeat (first | exact rfl | exact tw_upd_at | rw [tw_upd_off (by omega)]), ((hI.1 91 _ (by omega) (by omega)).trans (hH 3 (by omega)).2.2)]
        refine tw_sgn 1 (i1 := 46) (ls0 := [.ref 88, .int (nI 0), .int (nI 3)]) (st0 := [.int (nI 97 + nI (H 3)), .int (nI 3), .ref 116]) (σ0 := (tw_upd (tw_upd (tw_upd σ 116 0 (nI (97 + (H 0)))) 116 1 (nI (97 + (H 1)))) 116 2 (nI (97 + (H 2))))) (ls1 := [.ref 88, .int (nI 0), .int (nI 3)]) (st1 := [.int (nI (97 + (H 3))), .int (nI 3), .ref 116]) (σ1 := (tw_upd (tw_upd (tw_upd σ 116 0 (nI (97 + (H 0)))) 116 1 (nI (97 + (H 1)))) 116 2 (nI (97 + (H 2))))) rfl (rfl) (by simp only [tw_nadd, tw_nmul]) (rfl) ?_
        refine tw_as (k := 116) (j := 3) (len := 60) rfl rfl rfl (rfl) (by omega) (by decide) ?_
        refine tw_sgn 4 (i1 := 29) (ls0 := [.ref 88, .int (nI 0), .int (nI 3 + nI 1)]) (st0 := [.int (nI 4), .int (nI 3 + nI 1)]) (σ0 := (tw_upd (tw_upd (tw_upd (tw_upd σ 116 0 (nI (97 + (H 0)))) 116 1 (nI (97 + (H 1)))) 116 2 (nI (97 + (H 2)))) 116 3 (nI (97 + (H 3))))) (ls1 := [.ref 88, .int (nI 0), .int (nI 4)]) (st1 := [.int (nI 4), .int (nI 4)]) (σ1 := (tw_upd (tw_upd (tw_upd (tw_upd σ 116 0 (nI (97 + (H 0)))) 116 1 (nI (97 + (H 1)))) 116 2 (nI (97 + (H 2)))) 116 3 (nI (97 + (H 3))))) rfl (by simp only [tw_nadd, tw_nmul]) (by simp only [tw_nadd, tw_nmul]) (rfl) ?_
        refine tw_biT (c := .ge) rfl (by rw [tw_cge, tw_nle (by omega) (by omega)] <;> omega) ?_
        show tw_P L xs _ 247 49 [.ref 88, .int (nI 0), .int (nI 4)] [] (tw_upd (tw_upd (tw_upd (tw_upd σ 116 0 (nI (97 + (H 0)))) 116 1 (nI (97 + (H 1)))) 116 2 (nI (97 + (H 2)))) 116 3 (nI (97 + (H 3)))) _
        refine tw_sgn 9 (i1 := 58) (ls0 := [.ref 88, .int (nI 0), .int (nI 4)]) (st0 := [.int (nI 0), .ref 92, .int ((σ 88 37) + nI 4), .ref 116]) (σ0 := (tw_upd (tw_upd (tw_upd (tw_upd σ 116 0 (nI (97 + (H 0)))) 116 1 (nI (97 + (H 1)))) 116 2 (nI (97 + (H 2)))) 116 3 (nI (97 + (H 3))))) (ls1 := [.ref 88, .int (nI 0), .int (nI 4)]) (st1 := [.int (nI 0), .ref 92, .int (nI 4), .ref 116]) (σ1 := (tw_upd (tw_upd (tw_upd (tw_upd σ 116 0 (nI (97 + (H 0)))) 116 1 (nI (97 + (H 1)))) 116 2 (nI (97 + (H 2)))) 116 3 (nI (97 + (H 3))))) rfl (rfl) (by simp only [(show σ 88 37 = nI 0 from hI.2.1), tw_nadd, tw_nmul]) (rfl) ?_
        refine tw_al (k := 92) (j := 0) (len := 20) rfl rfl rfl rfl (rfl) (by omega) (by decide) ?_
        rw [show (tw_upd (tw_upd (tw_upd (tw_upd σ 116 0 (nI (97 + (H 0)))) 116 1 (nI (97 + (H 1)))) 116 2 (nI (97 + (H 2)))) 116 3 (nI (97 + (H 3)))) 92 0 = σ 92 0 from by repeat (first | exact rfl | exact tw_upd_at | rw [tw_upd_off (by omega)]), ((hI.1 92 _ (by omega) (by omega)).trans hZ2)]
        refine tw_bzT (c := .ne) rfl (by rw [tw_cne, tw_neq (by omega) (by omega)] <;> omega) ?_
        show tw_P L xs _ 247 62 [.ref 88, .int (nI 0), .int (nI 4)] [.int (nI 4), .ref 116] (tw_upd (tw_upd (tw_upd (tw_upd σ 116 0 (nI (97 + (H 0)))) 116 1 (nI (97 + (H 1)))) 116 2 (nI (97 + (H 2)))) 116 3 (nI (97 + (H 3)))) _
        refine tw_sg 1 (i1 := 63) (ls1 := [.ref 88, .int (nI 0), .int (nI 4)]) (st1 := [.int (nI 90), .int (nI 4), .ref 116]) (σ1 := (tw_upd (tw_upd (tw_upd (tw_upd σ 116 0 (nI (97 + (H 0)))) 116 1 (nI (97 + (H 1)))) 116 2 (nI (97 + (H 2)))) 116 3 (nI (97 + (H 3))))) rfl ?_
        refine tw_as (k := 116) (j := 4) (len := 60) rfl rfl rfl (rfl) (by omega) (by decide) ?_
        refine tw_sgn 8 (i1 := 5) (ls0 := [.ref 88, .int (nI 0 + nI 1), .int (nI 4)]) (st0 := []) (σ0 := (tw_upd (tw_upd (tw_upd (tw_upd (tw_upd (tw_upd σ 116 0 (nI (97 + (H 0)))) 116 1 (nI (97 + (H 1)))) 116 2 (nI (97 + (H 2)))) 116 3 (nI (97 + (H 3)))) 116 4 (nI 90)) 88 37 ((σ 88 37) + nI 5))) (ls1 := [.ref 88, .int (nI 1), .int (nI 4)]) (st1 := []) (σ1 := (tw_upd (tw_upd (tw_upd (tw_upd (tw_upd (tw_upd σ 116 0 (nI (97 + (H 0)))) 116 1 (nI (97 + (H 1)))) 116 2 (nI (97 + (H 2)))) 116 3 (nI (97 + (H 3)))) 116 4 (nI 90)) 88 37 (nI 5))) rfl (by simp only [(show σ 88 37 = nI 0 from hI.2.1), tw_nadd, tw_nmul]) (rfl) (by simp only [(show σ 88 37 = nI 0 from hI.2.1), tw_nadd, tw_nmul]) ?_
        generalize hτ : (tw_upd (tw_upd (tw_upd (tw_upd (tw_upd (tw_upd σ 116 0 (nI (97 + (H 0)))) 116 1 (nI (97 + (H 1)))) 116 2 (nI (97 + (H 2)))) 116 3 (nI (97 + (H 3)))) 116 4 (nI 90)) 88 37 (nI 5)) = τ
        refine ih (0 + 1) τ _ (by omega) (hI.step (H := H) (z := z) (fun hc => ?_) (fun h hh => (hH h hh).2.2) hz hZ2 ⟨?_, fun h hh => ?_, ?_, fun k j g1 g2 => ?_⟩)
        · exact absurd hc (by decide)
        · rw [← hτ]; exact tw_upd_at.trans (by first | rfl | exact congrArg nI (by omega))
        · rcases (show h = 0 ∨ h = 1 ∨ h = 2 ∨ h = 3 by omega) with rfl | rfl | rfl | rfl
          · rw [← hτ]; repeat (first | exact tw_upd_at | (rw [show 6 * 0 + 0 = 0 by omega, tw_upd_at]; done) | rw [tw_upd_off (by omega)])
          · rw [← hτ]; repeat (first | exact tw_upd_at | (rw [show 6 * 0 + 1 = 1 by omega, tw_upd_at]; done) | rw [tw_upd_off (by omega)])
          · rw [← hτ]; repeat (first | exact tw_upd_at | (rw [show 6 * 0 + 2 = 2 by omega, tw_upd_at]; done) | rw [tw_upd_off (by omega)])
          · rw [← hτ]; repeat (first | exact tw_upd_at | (rw [show 6 * 0 + 3 = 3 by omega, tw_upd_at]; done) | rw [tw_upd_off (by omega)])
        · rw [← hτ, hz0]; repeat (first | exact tw_upd_at | (rw [show 6 * 0 + 4 = 4 by omega]; exact tw_upd_at) | rw [tw_upd_off (by omega)])
        · rw [← hτ]; repeat (first | rfl | rw [tw_upd_off (by omega)])
    · skip
      rcases (show z = 0 ∨ z = 1 by omega) with hz0 | hz0
      · skip
        refine tw_sg 4 (i1 := 9) (ls1 := [.ref 88, .int (nI c), u]) (st1 := [.int (nI 0), .ref 89, .int (nI c)]) (σ1 := σ) rfl ?_
        refine tw_al (k := 89) (j := 0) (len := 2) rfl rfl rfl rfl (rfl) (by omega) (by decide) ?_
        rw [((hI.1 89 0 (by omega) (by omega)).trans h89)]
        refine tw_biF (c := .ge) rfl (by rw [tw_cge', tw_nle (by omega) (by omega)] <;> omega) ?_
        show tw_P L xs _ 247 11 [.ref 88, .int (nI c), u] [] σ _
        refine tw_sg 1 (i1 := 12) (ls1 := [.ref 88, .int (nI c), u]) (st1 := [.int (nI c)]) (σ1 := σ) rfl ?_
        refine tw_bzF (c := .le) rfl (by rw [tw_cle', tw_nle (by omega) (by omega)] <;> omega) ?_
        show tw_P L xs _ 247 13 [.ref 88, .int (nI c), u] [] σ _
        refine tw_sgn 5 (i1 := 18) (ls0 := [.ref 88, .int (nI c), u]) (st0 := [.int (nI 59), .int (σ 88 37), .ref 116]) (σ0 := σ) (ls1 := [.ref 88, .int (nI c), u]) (st1 := [.int (nI 59), .int (nI (6 * c - 1)), .ref 116]) (σ1 := σ) rfl (rfl) (by simp only [hI.2.1, tw_nadd, tw_nmul]) (rfl) ?_
        refine tw_as (k := 116) (j := (6 * c - 1)) (len := 60) rfl rfl rfl (rfl) (by omega) (by decide) ?_
        refine tw_sgn 10 (i1 := 29) (ls0 := [.ref 88, .int (nI c), .int (nI 0)]) (st0 := [.int (nI 4), .int (nI 0)]) (σ0 := (tw_upd (tw_upd σ 116 (6 * c - 1) (nI 59)) 88 37 ((σ 88 37) + nI 1))) (ls1 := [.ref 88, .int (nI c), .int (nI 0)]) (st1 := [.int (nI 4), .int (nI 0)]) (σ1 := (tw_upd (tw_upd σ 116 (6 * c - 1) (nI 59)) 88 37 (nI ((6 * c - 1) + 1)))) rfl (rfl) (rfl) (by simp only [hI.2.1, tw_nadd, tw_nmul]) ?_
        refine tw_biF (c := .ge) rfl (by rw [tw_cge', tw_nle (by omega) (by omega)] <;> omega) ?_
        show tw_P L xs _ 247 30 [.ref 88, .int (nI c), .int (nI 0)] [] (tw_upd (tw_upd σ 116 (6 * c - 1) (nI 59)) 88 37 (nI ((6 * c - 1) + 1))) _
        refine tw_sgn 14 (i1 := 44) (ls0 := [.ref 88, .int (nI c), .int (nI 0)]) (st0 := [.int ((nI 4 * nI c) + nI 0), .ref 91, .int (nI 97), .int (nI ((6 * c - 1) + 1) + nI 0), .ref 116]) (σ0 := (tw_upd (tw_upd σ 116 (6 * c - 1) (nI 59)) 88 37 (nI ((6 * c - 1) + 1)))) (ls1 := [.ref 88, .int (nI c), .int (nI 0)]) (st1 := [.int (nI ((4 * c) + 0)), .ref 91, .int (nI 97), .int (nI (((6 * c - 1) + 1) + 0)), .ref 116]) (σ1 := (tw_upd (tw_upd σ 116 (6 * c - 1) (nI 59)) 88 37 (nI ((6 * c - 1) + 1)))) rfl (rfl) (by simp only [tw_nadd, tw_nmul]) (rfl) ?_
        refine tw_al (k := 91) (j := ((4 * c) + 0)) (len := 80) rfl rfl rfl rfl (rfl) (by omega) (by decide) ?_
        rw [show (tw_upd (tw_upd σ 116 (6 * c - 1) (nI 59)) 88 37 (nI ((6 * c - 1) + 1))) 91 ((4 * c) + 0) = σ 91 ((4 * c) + 0) from by repeat (first | exact rfl | exact tw_upd_at | rw [tw_upd_off (by omega)]), ((hI.1 91 _ (by omega) (by omega)).trans (hH 0 (by omega)).2.2)]
        refine tw_sgn 1 (i1 := 46) (ls0 := [.ref 88, .int (nI c), .int (nI 0)]) (st0 := [.int (nI 97 + nI (H 0)), .int (nI (((6 * c - 1) + 1) + 0)), .ref 116]) (σ0 := (tw_upd (tw_upd σ 116 (6 * c - 1) (nI 59)) 88 37 (nI ((6 * c - 1) + 1)))) (ls1 := [.ref 88, .int (nI c), .int (nI 0)]) (st1 := [.int (nI (97 + (H 0))), .int (nI (((6 * c - 1) + 1) + 0)), .ref 116]) (σ1 := (tw_upd (tw_upd σ 116 (6 * c - 1) (nI 59)) 88 37 (nI ((6 * c - 1) + 1)))) rfl (rfl) (by simp only [tw_nadd, tw_nmul]) (rfl) ?_
        refine tw_as (k := 116) (j := (((6 * c - 1) + 1) + 0)) (len := 60) rfl rfl rfl (rfl) (by omega) (by decide) ?_
        refine tw_sgn 4 (i1 := 29) (ls0 := [.ref 88, .int (nI c), .int (nI 0 + nI 1)]) (st0 := [.int (nI 4), .int (nI 0 + nI 1)]) (σ0 := (tw_upd (tw_upd (tw_upd σ 116 (6 * c - 1) (nI 59)) 88 37 (nI ((6 * c - 1) + 1))) 116 (((6 * c - 1) + 1) + 0) (nI (97 + (H 0))))) (ls1 := [.ref 88, .int (nI c), .int (nI 1)]) (st1 := [.int (nI 4), .int (nI 1)]) (σ1 := (tw_upd (tw_upd (tw_upd σ 116 (6 * c - 1) (nI 59)) 88 37 (nI ((6 * c - 1) + 1))) 116 (((6 * c - 1) + 1) + 0) (nI (97 + (H 0))))) rfl (by simp only [tw_nadd, tw_nmul]) (by simp only [tw_nadd, tw_nmul]) (rfl) ?_
        refine tw_biF (c := .ge) rfl (by rw [tw_cge', tw_nle (by omega) (by omega)] <;> omega) ?_
        show tw_P L xs _ 247 30 [.ref 88, .int (nI c), .int (nI 1)] [] (tw_upd (tw_upd (tw_upd σ 116 (6 * c - 1) (nI 59)) 88 37 (nI ((6 * c - 1) + 1))) 116 (((6 * c - 1) + 1) + 0) (nI (97 + (H 0)))) _
        refine tw_sgn 14 (i1 := 44) (ls0 := [.ref 88, .int (nI c), .int (nI 1)]) (st0 := [.int ((nI 4 * nI c) + nI 1), .ref 91, .int (nI 97), .int (nI ((6 * c - 1) + 1) + nI 1), .ref 116]) (σ0 := (tw_upd (tw_upd (tw_upd σ 116 (6 * c - 1) (nI 59)) 88 37 (nI ((6 * c - 1) + 1))) 116 (((6 * c - 1) + 1) + 0) (nI (97 + (H 0))))) (ls1 := [.ref 88, .int (nI c), .int (nI 1)]) (st1 := [.int (nI ((4 * c) + 1)), .ref 91, .int (nI 97), .int (nI (((6 * c - 1) + 1) + 1)), .ref 116]) (σ1 := (tw_upd (tw_upd (tw_upd σ 116 (6 * c - 1) (nI 59)) 88 37 (nI ((6 * c - 1) + 1))) 116 (((6 * c - 1) + 1) + 0) (nI (97 + (H 0))))) rfl (rfl) (by simp only [tw_nadd, tw_nmul]) (rfl) ?_
        refine tw_al (k := 91) (j := ((4 * c) + 1)) (len := 80) rfl rfl rfl rfl (rfl) (by omega) (by decide) ?_
        rw [show (tw_upd (tw_upd (tw_upd σ 116 (6 * c - 1) (nI 59)) 88 37 (nI ((6 * c - 1) + 1))) 116 (((6 * c - 1) + 1) + 0) (nI (97 + (H 0)))) 91 ((4 * c) + 1) = σ 91 ((4 * c) + 1) from by repeat (first | exact rfl | exact tw_upd_at | rw [tw_upd_off (by omega)]), ((hI.1 91 _ (by omega) (by omega)).trans (hH 1 (by omega)).2.2)]
        refine tw_sgn 1 (i1 := 46) (ls0 := [.ref 88, .int (nI c), .int (nI 1)]) (st0 := [.int (nI 97 + nI (H 1)), .int (nI (((6 * c - 1) + 1) + 1)), .ref 116]) (σ0 := (tw_upd (tw_upd (tw_upd σ 116 (6 * c - 1) (nI 59)) 88 37 (nI ((6 * c - 1) + 1))) 116 (((6 * c - 1) + 1) + 0) (nI (97 + (H 0))))) (ls1 := [.ref 88, .int (nI c), .int (nI 1)]) (st1 := [.int (nI (97 + (H 1))), .int (nI (((6 * c - 1) + 1) + 1)), .ref 116]) (σ1 := (tw_upd (tw_upd (tw_upd σ 116 (6 * c - 1) (nI 59)) 88 37 (nI ((6 * c - 1) + 1))) 116 (((6 * c - 1) + 1) + 0) (nI (97 + (H 0))))) rfl (rfl) (by simp only [tw_nadd, tw_nmul]) (rfl) ?_
        refine tw_as (k := 116) (j := (((6 * c - 1) + 1) + 1)) (len := 60) rfl rfl rfl (rfl) (by omega) (by decide) ?_
        refine tw_sgn 4 (i1 := 29) (ls0 := [.ref 88, .int (nI c), .int (nI 1 + nI 1)]) (st0 := [.int (nI 4), .int (nI 1 + nI 1)]) (σ0 := (tw_upd (tw_upd (tw_upd (tw_upd σ 116 (6 * c - 1) (nI 59)) 88 37 (nI ((6 * c - 1) + 1))) 116 (((6 * c - 1) + 1) + 0) (nI (97 + (H 0)))) 116 (((6 * c - 1) + 1) + 1) (nI (97 + (H 1))))) (ls1 := [.ref 88, .int (nI c), .int (nI 2)]) (st1 := [.int (nI 4), .int (nI 2)]) (σ1 := (tw_upd (tw_upd (tw_upd (tw_upd σ 116 (6 * c - 1) (nI 59)) 88 37 (nI ((6 * c - 1) + 1))) 116 (((6 * c - 1) + 1) + 0) (nI (97 + (H 0)))) 116 (((6 * c - 1) + 1) + 1) (nI (97 + (H 1))))) rfl (by simp only [tw_nadd, tw_nmul]) (by simp only [tw_nadd, tw_nmul]) (rfl) ?_
        refine tw_biF (c := .ge) rfl (by rw [tw_cge', tw_nle (by omega) (by omega)] <;> omega) ?_
        show tw_P L xs _ 247 30 [.ref 88, .int (nI c), .int (nI 2)] [] (tw_upd (tw_upd (tw_upd (tw_upd σ 116 (6 * c - 1) (nI 59)) 88 37 (nI ((6 * c - 1) + 1))) 116 (((6 * c - 1) + 1) + 0) (nI (97 + (H 0)))) 116 (((6 * c - 1) + 1) + 1) (nI (97 + (H 1)))) _
        refine tw_sgn 14 (i1 := 44) (ls0 := [.ref 88, .int (nI c), .int (nI 2)]) (st0 := [.int ((nI 4 * nI c) + nI 2), .ref 91, .int (nI 97), .int (nI ((6 * c - 1) + 1) + nI 2), .ref 116]) (σ0 := (tw_upd (tw_upd (tw_upd (tw_upd σ 116 (6 * c - 1) (nI 59)) 88 37 (nI ((6 * c - 1) + 1))) 116 (((6 * c - 1) + 1) + 0) (nI (97 + (H 0)))) 116 (((6 * c - 1) + 1) + 1) (nI (97 + (H 1))))) (ls1 := [.ref 88, .int (nI c), .int (nI 2)]) (st1 := [.int (nI ((4 * c) + 2)), .ref 91, .int (nI 97), .int (nI (((6 * c - 1) + 1) + 2)), .ref 116]) (σ1 := (tw_upd (tw_upd (tw_upd (tw_upd σ 116 (6 * c - 1) (nI 59)) 88 37 (nI ((6 * c - 1) + 1))) 116 (((6 * c - 1) + 1) + 0) (nI (97 + (H 0)))) 116 (((6 * c - 1) + 1) + 1) (nI (97 + (H 1))))) rfl (rfl) (by simp only [tw_nadd, tw_nmul]) (rfl) ?_
        refine tw_al (k := 91) (j := ((4 * c) + 2)) (len := 80) rfl rfl rfl rfl (rfl) (by omega) (by decide) ?_
        rw [show (tw_upd (tw_upd (tw_upd (tw_upd σ 116 (6 * c - 1) (nI 59)) 88 37 (nI ((6 * c - 1) + 1))) 116 (((6 * c - 1) + 1) + 0) (nI (97 + (H 0)))) 116 (((6 * c - 1) + 1) + 1) (nI (97 + (H 1)))) 91 ((4 * c) + 2) = σ 91 ((4 * c) + 2) from by repeat (first | exact rfl | exact tw_upd_at | rw [tw_upd_off (by omega)]), ((hI.1 91 _ (by omega) (by omega)).trans (hH 2 (by omega)).2.2)]
        refine tw_sgn 1 (i1 := 46) (ls0 := [.ref 88, .int (nI c), .int (nI 2)]) (st0 := [.int (nI 97 + nI (H 2)), .int (nI (((6 * c - 1) + 1) + 2)), .ref 116]) (σ0 := (tw_upd (tw_upd (tw_upd (tw_upd σ 116 (6 * c - 1) (nI 59)) 88 37 (nI ((6 * c - 1) + 1))) 116 (((6 * c - 1) + 1) + 0) (nI (97 + (H 0)))) 116 (((6 * c - 1) + 1) + 1) (nI (97 + (H 1))))) (ls1 := [.ref 88, .int (nI c), .int (nI 2)]) (st1 := [.int (nI (97 + (H 2))), .int (nI (((6 * c - 1) + 1) + 2)), .ref 116]) (σ1 := (tw_upd (tw_upd (tw_upd (tw_upd σ 116 (6 * c - 1) (nI 59)) 88 37 (nI ((6 * c - 1) + 1))) 116 (((6 * c - 1) + 1) + 0) (nI (97 + (H 0)))) 116 (((6 * c - 1) + 1) + 1) (nI (97 + (H 1))))) rfl (rfl) (by simp only [tw_nadd, tw_nmul]) (rfl) ?_
        refine tw_as (k := 116) (j := (((6 * c - 1) + 1) + 2)) (len := 60) rfl rfl rfl (rfl) (by omega) (by decide) ?_
        refine tw_sgn 4 (i1 := 29) (ls0 := [.ref 88, .int (nI c), .int (nI 2 + nI 1)]) (st0 := [.int (nI 4), .int (nI 2 + nI 1)]) (σ0 := (tw_upd (tw_upd (tw_upd (tw_upd (tw_upd σ 116 (6 * c - 1) (nI 59)) 88 37 (nI ((6 * c - 1) + 1))) 116 (((6 * c - 1) + 1) + 0) (nI (97 + (H 0)))) 116 (((6 * c - 1) + 1) + 1) (nI (97 + (H 1)))) 116 (((6 * c - 1) + 1) + 2) (nI (97 + (H 2))))) (ls1 := [.ref 88, .int (nI c), .int (nI 3)]) (st1 := [.int (nI 4), .int (nI 3)]) (σ1 := (tw_upd (tw_upd (tw_upd (tw_upd (tw_upd σ 116 (6 * c - 1) (nI 59)) 88 37 (nI ((6 * c - 1) + 1))) 116 (((6 * c - 1) + 1) + 0) (nI (97 + (H 0)))) 116 (((6 * c - 1) + 1) + 1) (nI (97 + (H 1)))) 116 (((6 * c - 1) + 1) + 2) (nI (97 + (H 2))))) rfl (by simp only [tw_nadd, tw_nmul]) (by simp only [tw_nadd, tw_nmul]) (rfl) ?_
        refine tw_biF (c := .ge) rfl (by rw [tw_cge', tw_nle (by omega) (by omega)] <;> omega) ?_
        show tw_P L xs _ 247 30 [.ref 88, .int (nI c), .int (nI 3)] [] (tw_upd (tw_upd (tw_upd (tw_upd (tw_upd σ 116 (6 * c - 1) (nI 59)) 88 37 (nI ((6 * c - 1) + 1))) 116 (((6 * c - 1) + 1) + 0) (nI (97 + (H 0)))) 116 (((6 * c - 1) + 1) + 1) (nI (97 + (H 1)))) 116 (((6 * c - 1) + 1) + 2) (nI (97 + (H 2)))) _
        refine tw_sgn 14 (i1 := 44) (ls0 := [.ref 88, .int (nI c), .int (nI 3)]) (st0 := [.int ((nI 4 * nI c) + nI 3), .ref 91, .int (nI 97), .int (nI ((6 * c - 1) + 1) + nI 3), .ref 116]) (σ0 := (tw_upd (tw_upd (tw_upd (tw_upd (tw_upd σ 116 (6 * c - 1) (nI 59)) 88 37 (nI ((6 * c - 1) + 1))) 116 (((6 * c - 1) + 1) + 0) (nI (97 + (H 0)))) 116 (((6 * c - 1) + 1) + 1) (nI (97 + (H 1)))) 116 (((6 * c - 1) + 1) + 2) (nI (97 + (H 2))))) (ls1 := [.ref 88, .int (nI c), .int (nI 3)]) (st1 := [.int (nI ((4 * c) + 3)), .ref 91, .int (nI 97), .int (nI (((6 * c - 1) + 1) + 3)), .ref 116]) (σ1 := (tw_upd (tw_upd (tw_upd (tw_upd (tw_upd σ 116 (6 * c - 1) (nI 59)) 88 37 (nI ((6 * c - 1) + 1))) 116 (((6 * c - 1) + 1) + 0) (nI (97 + (H 0)))) 116 (((6 * c - 1) + 1) + 1) (nI (97 + (H 1)))) 116 (((6 * c - 1) + 1) + 2) (nI (97 + (H 2))))) rfl (rfl) (by simp only [tw_nadd, tw_nmul]) (rfl) ?_
        refine tw_al (k := 91) (j := ((4 * c) + 3)) (len := 80) rfl rfl rfl rfl (rfl) (by omega) (by decide) ?_
        rw [show (tw_upd (tw_upd (tw_upd (tw_upd (tw_upd σ 116 (6 * c - 1) (nI 59)) 88 37 (nI ((6 * c - 1) + 1))) 116 (((6 * c - 1) + 1) + 0) (nI (97 + (H 0)))) 116 (((6 * c - 1) + 1) + 1) (nI (97 + (H 1)))) 116 (((6 * c - 1) + 1) + 2) (nI (97 + (H 2)))) 91 ((4 * c) + 3) = σ 91 ((4 * c) + 3) from by repeat (first | exact rfl | exact tw_upd_at | rw [tw_upd_off (by omega)]), ((hI.1 91 _ (by omega) (by omega)).trans (hH 3 (by omega)).2.2)]
        refine tw_sgn 1 (i1 := 46) (ls0 := [.ref 88, .int (nI c), .int (nI 3)]) (st0 := [.int (nI 97 + nI (H 3)), .int (nI (((6 * c - 1) + 1) + 3)), .ref 116]) (σ0 := (tw_upd (tw_upd (tw_upd (tw_upd (tw_upd σ 116 (6 * c - 1) (nI 59)) 88 37 (nI ((6 * c - 1) + 1))) 116 (((6 * c - 1) + 1) + 0) (nI (97 + (H 0)))) 116 (((6 * c - 1) + 1) + 1) (nI (97 + (H 1)))) 116 (((6 * c - 1) + 1) + 2) (nI (97 + (H 2))))) (ls1 := [.ref 88, .int (nI c), .int (nI 3)]) (st1 := [.int (nI (97 + (H 3))), .int (nI (((6 * c - 1) + 1) + 3)), .ref 116]) (σ1 := (tw_upd (tw_upd (tw_upd (tw_upd (tw_upd σ 116 (6 * c - 1) (nI 59)) 88 37 (nI ((6 * c - 1) + 1))) 116 (((6 * c - 1) + 1) + 0) (nI (97 + (H 0)))) 116 (((6 * c - 1) + 1) + 1) (nI (97 + (H 1)))) 116 (((6 * c - 1) + 1) + 2) (nI (97 + (H 2))))) rfl (rfl) (by simp only [tw_nadd, tw_nmul]) (rfl) ?_
        refine tw_as (k := 116) (j := (((6 * c - 1) + 1) + 3)) (len := 60) rfl rfl rfl (rfl) (by omega) (by decide) ?_
        refine tw_sgn 4 (i1 := 29) (ls0 := [.ref 88, .int (nI c), .int (nI 3 + nI 1)]) (st0 := [.int (nI 4), .int (nI 3 + nI 1)]) (σ0 := (tw_upd (tw_upd (tw_upd (tw_upd (tw_upd (tw_upd σ 116 (6 * c - 1) (nI 59)) 88 37 (nI ((6 * c - 1) + 1))) 116 (((6 * c - 1) + 1) + 0) (nI (97 + (H 0)))) 116 (((6 * c - 1) + 1) + 1) (nI (97 + (H 1)))) 116 (((6 * c - 1) + 1) + 2) (nI (97 + (H 2)))) 116 (((6 * c - 1) + 1) + 3) (nI (97 + (H 3))))) (ls1 := [.ref 88, .int (nI c), .int (nI 4)]) (st1 := [.int (nI 4), .int (nI 4)]) (σ1 := (tw_upd (tw_upd (tw_upd (tw_upd (tw_upd (tw_upd σ 116 (6 * c - 1) (nI 59)) 88 37 (nI ((6 * c - 1) + 1))) 116 (((6 * c - 1) + 1) + 0) (nI (97 + (H 0)))) 116 (((6 * c - 1) + 1) + 1) (nI (97 + (H 1)))) 116 (((6 * c - 1) + 1) + 2) (nI (97 + (H 2)))) 116 (((6 * c - 1) + 1) + 3) (nI (97 + (H 3))))) rfl (by simp only [tw_nadd, tw_nmul]) (by simp only [tw_nadd, tw_nmul]) (rfl) ?_
        refine tw_biT (c := .ge) rfl (by rw [tw_cge, tw_nle (by omega) (by omega)] <;> omega) ?_
        show tw_P L xs _ 247 49 [.ref 88, .int (nI c), .int (nI 4)] [] (tw_upd (tw_upd (tw_upd (tw_upd (tw_upd (tw_upd σ 116 (6 * c - 1) (nI 59)) 88 37 (nI ((6 * c - 1) + 1))) 116 (((6 * c - 1) + 1) + 0) (nI (97 + (H 0)))) 116 (((6 * c - 1) + 1) + 1) (nI (97 + (H 1)))) 116 (((6 * c - 1) + 1) + 2) (nI (97 + (H 2)))) 116 (((6 * c - 1) + 1) + 3) (nI (97 + (H 3)))) _
        refine tw_sgn 9 (i1 := 58) (ls0 := [.ref 88, .int (nI c), .int (nI 4)]) (st0 := [.int (nI c), .ref 92, .int (nI ((6 * c - 1) + 1) + nI 4), .ref 116]) (σ0 := (tw_upd (tw_upd (tw_upd (tw_upd (tw_upd (tw_upd σ 116 (6 * c - 1) (nI 59)) 88 37 (nI ((6 * c - 1) + 1))) 116 (((6 * c - 1) + 1) + 0) (nI (97 + (H 0)))) 116 (((6 * c - 1) + 1) + 1) (nI (97 + (H 1)))) 116 (((6 * c - 1) + 1) + 2) (nI (97 + (H 2)))) 116 (((6 * c - 1) + 1) + 3) (nI (97 + (H 3))))) (ls1 := [.ref 88, .int (nI c), .int (nI 4)]) (st1 := [.int (nI c), .ref 92, .int (nI (((6 * c - 1) + 1) + 4)), .ref 116]) (σ1 := (tw_upd (tw_upd (tw_upd (tw_upd (tw_upd (tw_upd σ 116 (6 * c - 1) (nI 59)) 88 37 (nI ((6 * c - 1) + 1))) 116 (((6 * c - 1) + 1) + 0) (nI (97 + (H 0)))) 116 (((6 * c - 1) + 1) + 1) (nI (97 + (H 1)))) 116 (((6 * c - 1) + 1) + 2) (nI (97 + (H 2)))) 116 (((6 * c - 1) + 1) + 3) (nI (97 + (H 3))))) rfl (rfl) (by simp only [tw_nadd, tw_nmul]) (rfl) ?_
        refine tw_al (k := 92) (j := c) (len := 20) rfl rfl rfl rfl (rfl) (by omega) (by decide) ?_
        rw [show (tw_upd (tw_upd (tw_upd (tw_upd (tw_upd (tw_upd σ 116 (6 * c - 1) (nI 59)) 88 37 (nI ((6 * c - 1) + 1))) 116 (((6 * c - 1) + 1) + 0) (nI (97 + (H 0)))) 116 (((6 * c - 1) + 1) + 1) (nI (97 + (H 1)))) 116 (((6 * c - 1) + 1) + 2) (nI (97 + (H 2)))) 116 (((6 * c - 1) + 1) + 3) (nI (97 + (H 3)))) 92 c = σ 92 c from by repeat (first | exact rfl | exact tw_upd_at | rw [tw_upd_off (by omega)]), ((hI.1 92 _ (by omega) (by omega)).trans hZ2)]
        refine tw_bzF (c := .ne) rfl (by rw [tw_cne', tw_neq (by omega) (by omega)] <;> omega) ?_
        show tw_P L xs _ 247 60 [.ref 88, .int (nI c), .int (nI 4)] [.int (nI (((6 * c - 1) + 1) + 4)), .ref 116] (tw_upd (tw_upd (tw_upd (tw_upd (tw_upd (tw_upd σ 116 (6 * c - 1) (nI 59)) 88 37 (nI ((6 * c - 1) + 1))) 116 (((6 * c - 1) + 1) + 0) (nI (97 + (H 0)))) 116 (((6 * c - 1) + 1) + 1) (nI (97 + (H 1)))) 116 (((6 * c - 1) + 1) + 2) (nI (97 + (H 2)))) 116 (((6 * c - 1) + 1) + 3) (nI (97 + (H 3)))) _
        refine tw_sg 2 (i1 := 63) (ls1 := [.ref 88, .int (nI c), .int (nI 4)]) (st1 := [.int (nI 83), .int (nI (((6 * c - 1) + 1) + 4)), .ref 116]) (σ1 := (tw_upd (tw_upd (tw_upd (tw_upd (tw_upd (tw_upd σ 116 (6 * c - 1) (nI 59)) 88 37 (nI ((6 * c - 1) + 1))) 116 (((6 * c - 1) + 1) + 0) (nI (97 + (H 0)))) 116 (((6 * c - 1) + 1) + 1) (nI (97 + (H 1)))) 116 (((6 * c - 1) + 1) + 2) (nI (97 + (H 2)))) 116 (((6 * c - 1) + 1) + 3) (nI (97 + (H 3))))) rfl ?_
        refine tw_as (k := 116) (j := (((6 * c - 1) + 1) + 4)) (len := 60) rfl rfl rfl (rfl) (by omega) (by decide) ?_
        refine tw_sgn 8 (i1 := 5) (ls0 := [.ref 88, .int (nI c + nI 1), .int (nI 4)]) (st0 := []) (σ0 := (tw_upd (tw_upd (tw_upd (tw_upd (tw_upd (tw_upd (tw_upd (tw_upd σ 116 (6 * c - 1) (nI 59)) 88 37 (nI ((6 * c - 1) + 1))) 116 (((6 * c - 1) + 1) + 0) (nI (97 + (H 0)))) 116 (((6 * c - 1) + 1) + 1) (nI (97 + (H 1)))) 116 (((6 * c - 1) + 1) + 2) (nI (97 + (H 2)))) 116 (((6 * c - 1) + 1) + 3) (nI (97 + (H 3)))) 116 (((6 * c - 1) + 1) + 4) (nI 83)) 88 37 (nI ((6 * c - 1) + 1) + nI 5))) (ls1 := [.ref 88, .int (nI (c + 1)), .int (nI 4)]) (st1 := []) (σ1 := (tw_upd (tw_upd (tw_upd (tw_upd (tw_upd (tw_upd (tw_upd (tw_upd σ 116 (6 * c - 1) (nI 59)) 88 37 (nI ((6 * c - 1) + 1))) 116 (((6 * c - 1) + 1) + 0) (nI (97 + (H 0)))) 116 (((6 * c - 1) + 1) + 1) (nI (97 + (H 1)))) 116 (((6 * c - 1) + 1) + 2) (nI (97 + (H 2)))) 116 (((6 * c - 1) + 1) + 3) (nI (97 + (H 3)))) 116 (((6 * c - 1) + 1) + 4) (nI 83)) 88 37 (nI (((6 * c - 1) + 1) + 5)))) rfl (by simp only [tw_nadd, tw_nmul]) (rfl) (by simp only [tw_nadd, tw_nmul]) ?_
        generalize hτ : (tw_upd (tw_upd (tw_upd (tw_upd (tw_upd (tw_upd (tw_upd (tw_upd σ 116 (6 * c - 1) (nI 59)) 88 37 (nI ((6 * c - 1) + 1))) 116 (((6 * c - 1) + 1) + 0) (nI (97 + (H 0)))) 116 (((6 * c - 1) + 1) + 1) (nI (97 + (H 1)))) 116 (((6 * c - 1) + 1) + 2) (nI (97 + (H 2)))) 116 (((6 * c - 1) + 1) + 3) (nI (97 + (H 3)))) 116 (((6 * c - 1) + 1) + 4) (nI 83)) 88 37 (nI (((6 * c - 1) + 1) + 5))) = τ
        refine ih (c + 1) τ _ (by omega) (hI.step (H := H) (z := z) (fun hc => ?_) (fun h hh => (hH h hh).2.2) hz hZ2 ⟨?_, fun h hh => ?_, ?_, fun k j g1 g2 => ?_⟩)
        · rw [← hτ]; repeat (first | exact tw_upd_at | rw [tw_upd_off (by omega)])
        · rw [← hτ]; exact tw_upd_at.trans (by first | rfl | exact congrArg nI (by omega))
        · rcases (show h = 0 ∨ h = 1 ∨ h = 2 ∨ h = 3 by omega) with rfl | rfl | rfl | rfl
          · rw [← hτ]; repeat (first | exact tw_upd_at | (rw [show 6 * c + 0 = 6 * c - 1 + 1 + 0 by omega, tw_upd_at]; done) | rw [tw_upd_off (by omega)])
          · rw [← hτ]; repeat (first | exact tw_upd_at | (rw [show 6 * c + 1 = 6 * c - 1 + 1 + 1 by omega, tw_upd_at]; done) | rw [tw_upd_off (by omega)])
          · rw [← hτ]; repeat (first | exact tw_upd_at | (rw [show 6 * c + 2 = 6 * c - 1 + 1 + 2 by omega, tw_upd_at]; done) | rw [tw_upd_off (by omega)])
          · rw [← hτ]; repeat (first | exact tw_upd_at | (rw [show 6 * c + 3 = 6 * c - 1 + 1 + 3 by omega, tw_upd_at]; done) | rw [tw_upd_off (by omega)])
        · rw [← hτ, hz0]; repeat (first | exact tw_upd_at | (rw [show 6 * c + 4 = 6 * c - 1 + 1 + 4 by omega]; exact tw_upd_at) | rw [tw_upd_off (by omega)])
        · rw [← hτ]; repeat (first | rfl | rw [tw_upd_off (by omega)])
      · skip
        refine tw_sg 4 (i1 := 9) (ls1 := [.ref 88, .int (nI c), u]) (st1 := [.int (nI 0), .ref 89, .int (nI c)]) (σ1 := σ) rfl ?_
        refine tw_al (k := 89) (j := 0) (len := 2) rfl rfl rfl rfl (rfl) (by omega) (by decide) ?_
        rw [((hI.1 89 0 (by omega) (by omega)).trans h89)]
        refine tw_biF (c := .ge) rfl (by rw [tw_cge', tw_nle (by omega) (by omega)] <;> omega) ?_
        show tw_P L xs _ 247 11 [.ref 88, .int (nI c), u] [] σ _
        refine tw_sg 1 (i1 := 12) (ls1 := [.ref 88, .int (nI c), u]) (st1 := [.int (nI c)]) (σ1 := σ) rfl ?_
        refine tw_bzF (c := .le) rfl (by rw [tw_cle', tw_nle (by omega) (by omega)] <;> omega) ?_
        show tw_P L xs _ 247 13 [.ref 88, .int (nI c), u] [] σ _
        refine tw_sgn 5 (i1 := 18) (ls0 := [.ref 88, .int (nI c), u]) (st0 := [.int (nI 59), .int (σ 88 37), .ref 116]) (σ0 := σ) (ls1 := [.ref 88, .int (nI c), u]) (st1 := [.int (nI 59), .int (nI (6 * c - 1)), .ref 116]) (σ1 := σ) rfl (rfl) (by simp only [hI.2.1, tw_nadd, tw_nmul]) (rfl) ?_
        refine tw_as (k := 116) (j := (6 * c - 1)) (len := 60) rfl rfl rfl (rfl) (by omega) (by decide) ?_
        refine tw_sgn 10 (i1 := 29) (ls0 := [.ref 88, .int (nI c), .int (nI 0)]) (st0 := [.int (nI 4), .int (nI 0)]) (σ0 := (tw_upd (tw_upd σ 116 (6 * c - 1) (nI 59)) 88 37 ((σ 88 37) + nI 1))) (ls1 := [.ref 88, .int (nI c), .int (nI 0)]) (st1 := [.int (nI 4), .int (nI 0)]) (σ1 := (tw_upd (tw_upd σ 116 (6 * c - 1) (nI 59)) 88 37 (nI ((6 * c - 1) + 1)))) rfl (rfl) (rfl) (by simp only [hI.2.1, tw_nadd, tw_nmul]) ?_
        refine tw_biF (c := .ge) rfl (by rw [tw_cge', tw_nle (by omega) (by omega)] <;> omega) ?_
        show tw_P L xs _ 247 30 [.ref 88, .int (nI c), .int (nI 0)] [] (tw_upd (tw_upd σ 116 (6 * c - 1) (nI 59)) 88 37 (nI ((6 * c - 1) + 1))) _
        refine tw_sgn 14 (i1 := 44) (ls0 := [.ref 88, .int (nI c), .int (nI 0)]) (st0 := [.int ((nI 4 * nI c) + nI 0), .ref 91, .int (nI 97), .int (nI ((6 * c - 1) + 1) + nI 0), .ref 116]) (σ0 := (tw_upd (tw_upd σ 116 (6 * c - 1) (nI 59)) 88 37 (nI ((6 * c - 1) + 1)))) (ls1 := [.ref 88, .int (nI c), .int (nI 0)]) (st1 := [.int (nI ((4 * c) + 0)), .ref 91, .int (nI 97), .int (nI (((6 * c - 1) + 1) + 0)), .ref 116]) (σ1 := (tw_upd (tw_upd σ 116 (6 * c - 1) (nI 59)) 88 37 (nI ((6 * c - 1) + 1)))) rfl (rfl) (by simp only [tw_nadd, tw_nmul]) (rfl) ?_
        refine tw_al (k := 91) (j := ((4 * c) + 0)) (len := 80) rfl rfl rfl rfl (rfl) (by omega) (by decide) ?_
        rw [show (tw_upd (tw_upd σ 116 (6 * c - 1) (nI 59)) 88 37 (nI ((6 * c - 1) + 1))) 91 ((4 * c) + 0) = σ 91 ((4 * c) + 0) from by repeat (first | exact rfl | exact tw_upd_at | rw [tw_upd_off (by omega)]), ((hI.1 91 _ (by omega) (by omega)).trans (hH 0 (by omega)).2.2)]
        refine tw_sgn 1 (i1 := 46) (ls0 := [.ref 88, .int (nI c), .int (nI 0)]) (st0 := [.int (nI 97 + nI (H 0)), .int (nI (((6 * c - 1) + 1) + 0)), .ref 116]) (σ0 := (tw_upd (tw_upd σ 116 (6 * c - 1) (nI 59)) 88 37 (nI ((6 * c - 1) + 1)))) (ls1 := [.ref 88, .int (nI c), .int (nI 0)]) (st1 := [.int (nI (97 + (H 0))), .int (nI (((6 * c - 1) + 1) + 0)), .ref 116]) (σ1 := (tw_upd (tw_upd σ 116 (6 * c - 1) (nI 59)) 88 37 (nI ((6 * c - 1) + 1)))) rfl (rfl) (by simp only [tw_nadd, tw_nmul]) (rfl) ?_
        refine tw_as (k := 116) (j := (((6 * c - 1) + 1) + 0)) (len := 60) rfl rfl rfl (rfl) (by omega) (by decide) ?_
        refine tw_sgn 4 (i1 := 29) (ls0 := [.ref 88, .int (nI c), .int (nI 0 + nI 1)]) (st0 := [.int (nI 4), .int (nI 0 + nI 1)]) (σ0 := (tw_upd (tw_upd (tw_upd σ 116 (6 * c - 1) (nI 59)) 88 37 (nI ((6 * c - 1) + 1))) 116 (((6 * c - 1) + 1) + 0) (nI (97 + (H 0))))) (ls1 := [.ref 88, .int (nI c), .int (nI 1)]) (st1 := [.int (nI 4), .int (nI 1)]) (σ1 := (tw_upd (tw_upd (tw_upd σ 116 (6 * c - 1) (nI 59)) 88 37 (nI ((6 * c - 1) + 1))) 116 (((6 * c - 1) + 1) + 0) (nI (97 + (H 0))))) rfl (by simp only [tw_nadd, tw_nmul]) (by simp only [tw_nadd, tw_nmul]) (rfl) ?_
        refine tw_biF (c := .ge) rfl (by rw [tw_cge', tw_nle (by omega) (by omega)] <;> omega) ?_
        show tw_P L xs _ 247 30 [.ref 88, .int (nI c), .int (nI 1)] [] (tw_upd (tw_upd (tw_upd σ 116 (6 * c - 1) (nI 59)) 88 37 (nI ((6 * c - 1) + 1))) 116 (((6 * c - 1) + 1) + 0) (nI (97 + (H 0)))) _
        refine tw_sgn 14 (i1 := 44) (ls0 := [.ref 88, .int (nI c), .int (nI 1)]) (st0 := [.int ((nI 4 * nI c) + nI 1), .ref 91, .int (nI 97), .int (nI ((6 * c - 1) + 1) + nI 1), .ref 116]) (σ0 := (tw_upd (tw_upd (tw_upd σ 116 (6 * c - 1) (nI 59)) 88 37 (nI ((6 * c - 1) + 1))) 116 (((6 * c - 1) + 1) + 0) (nI (97 + (H 0))))) (ls1 := [.ref 88, .int (nI c), .int (nI 1)]) (st1 := [.int (nI ((4 * c) + 1)), .ref 91, .int (nI 97), .int (nI (((6 * c - 1) + 1) + 1)), .ref 116]) (σ1 := (tw_upd (tw_upd (tw_upd σ 116 (6 * c - 1) (nI 59)) 88 37 (nI ((6 * c - 1) + 1))) 116 (((6 * c - 1) + 1) + 0) (nI (97 + (H 0))))) rfl (rfl) (by simp only [tw_nadd, tw_nmul]) (rfl) ?_
        refine tw_al (k := 91) (j := ((4 * c) + 1)) (len := 80) rfl rfl rfl rfl (rfl) (by omega) (by decide) ?_
        rw [show (tw_upd (tw_upd (tw_upd σ 116 (6 * c - 1) (nI 59)) 88 37 (nI ((6 * c - 1) + 1))) 116 (((6 * c - 1) + 1) + 0) (nI (97 + (H 0)))) 91 ((4 * c) + 1) = σ 91 ((4 * c) + 1) from by repeat (first | exact rfl | exact tw_upd_at | rw [tw_upd_off (by omega)]), ((hI.1 91 _ (by omega) (by omega)).trans (hH 1 (by omega)).2.2)]
        refine tw_sgn 1 (i1 := 46) (ls0 := [.ref 88, .int (nI c), .int (nI 1)]) (st0 := [.int (nI 97 + nI (H 1)), .int (nI (((6 * c - 1) + 1) + 1)), .ref 116]) (σ0 := (tw_upd (tw_upd (tw_upd σ 116 (6 * c - 1) (nI 59)) 88 37 (nI ((6 * c - 1) + 1))) 116 (((6 * c - 1) + 1) + 0) (nI (97 + (H 0))))) (ls1 := [.ref 88, .int (nI c), .int (nI 1)]) (st1 := [.int (nI (97 + (H 1))), .int (nI (((6 * c - 1) + 1) + 1)), .ref 116]) (σ1 := (tw_upd (tw_upd (tw_upd σ 116 (6 * c - 1) (nI 59)) 88 37 (nI ((6 * c - 1) + 1))) 116 (((6 * c - 1) + 1) + 0) (nI (97 + (H 0))))) rfl (rfl) (by simp only [tw_nadd, tw_nmul]) (rfl) ?_
        refine tw_as (k := 116) (j := (((6 * c - 1) + 1) + 1)) (len := 60) rfl rfl rfl (rfl) (by omega) (by decide) ?_
        refine tw_sgn 4 (i1 := 29) (ls0 := [.ref 88, .int (nI c), .int (nI 1 + nI 1)]) (st0 := [.int (nI 4), .int (nI 1 + nI 1)]) (σ0 := (tw_upd (tw_upd (tw_upd (tw_upd σ 116 (6 * c - 1) (nI 59)) 88 37 (nI ((6 * c - 1) + 1))) 116 (((6 * c - 1) + 1) + 0) (nI (97 + (H 0)))) 116 (((6 * c - 1) + 1) + 1) (nI (97 + (H 1))))) (ls1 := [.ref 88, .int (nI c), .int (nI 2)]) (st1 := [.int (nI 4), .int (nI 2)]) (σ1 := (tw_upd (tw_upd (tw_upd (tw_upd σ 116 (6 * c - 1) (nI 59)) 88 37 (nI ((6 * c - 1) + 1))) 116 (((6 * c - 1) + 1) + 0) (nI (97 + (H 0)))) 116 (((6 * c - 1) + 1) + 1) (nI (97 + (H 1))))) rfl (by simp only [tw_nadd, tw_nmul]) (by simp only [tw_nadd, tw_nmul]) (rfl) ?_
        refine tw_biF (c := .ge) rfl (by rw [tw_cge', tw_nle (by omega) (by omega)] <;> omega) ?_
        show tw_P L xs _ 247 30 [.ref 88, .int (nI c), .int (nI 2)] [] (tw_upd (tw_upd (tw_upd (tw_upd σ 116 (6 * c - 1) (nI 59)) 88 37 (nI ((6 * c - 1) + 1))) 116 (((6 * c - 1) + 1) + 0) (nI (97 + (H 0)))) 116 (((6 * c - 1) + 1) + 1) (nI (97 + (H 1)))) _
        refine tw_sgn 14 (i1 := 44) (ls0 := [.ref 88, .int (nI c), .int (nI 2)]) (st0 := [.int ((nI 4 * nI c) + nI 2), .ref 91, .int (nI 97), .int (nI ((6 * c - 1) + 1) + nI 2), .ref 116]) (σ0 := (tw_upd (tw_upd (tw_upd (tw_upd σ 116 (6 * c - 1) (nI 59)) 88 37 (nI ((6 * c - 1) + 1))) 116 (((6 * c - 1) + 1) + 0) (nI (97 + (H 0)))) 116 (((6 * c - 1) + 1) + 1) (nI (97 + (H 1))))) (ls1 := [.ref 88, .int (nI c), .int (nI 2)]) (st1 := [.int (nI ((4 * c) + 2)), .ref 91, .int (nI 97), .int (nI (((6 * c - 1) + 1) + 2)), .ref 116]) (σ1 := (tw_upd (tw_upd (tw_upd (tw_upd σ 116 (6 * c - 1) (nI 59)) 88 37 (nI ((6 * c - 1) + 1))) 116 (((6 * c - 1) + 1) + 0) (nI (97 + (H 0)))) 116 (((6 * c - 1) + 1) + 1) (nI (97 + (H 1))))) rfl (rfl) (by simp only [tw_nadd, tw_nmul]) (rfl) ?_
        refine tw_al (k := 91) (j := ((4 * c) + 2)) (len := 80) rfl rfl rfl rfl (rfl) (by omega) (by decide) ?_
        rw [show (tw_upd (tw_upd (tw_upd (tw_upd σ 116 (6 * c - 1) (nI 59)) 88 37 (nI ((6 * c - 1) + 1))) 116 (((6 * c - 1) + 1) + 0) (nI (97 + (H 0)))) 116 (((6 * c - 1) + 1) + 1) (nI (97 + (H 1)))) 91 ((4 * c) + 2) = σ 91 ((4 * c) + 2) from by repeat (first | exact rfl | exact tw_upd_at | rw [tw_upd_off (by omega)]), ((hI.1 91 _ (by omega) (by omega)).trans (hH 2 (by omega)).2.2)]
        refine tw_sgn 1 (i1 := 46) (ls0 := [.ref 88, .int (nI c), .int (nI 2)]) (st0 := [.int (nI 97 + nI (H 2)), .int (nI (((6 * c - 1) + 1) + 2)), .ref 116]) (σ0 := (tw_upd (tw_upd (tw_upd (tw_upd σ 116 (6 * c - 1) (nI 59)) 88 37 (nI ((6 * c - 1) + 1))) 116 (((6 * c - 1) + 1) + 0) (nI (97 + (H 0)))) 116 (((6 * c - 1) + 1) + 1) (nI (97 + (H 1))))) (ls1 := [.ref 88, .int (nI c), .int (nI 2)]) (st1 := [.int (nI (97 + (H 2))), .int (nI (((6 * c - 1) + 1) + 2)), .ref 116]) (σ1 := (tw_upd (tw_upd (tw_upd (tw_upd σ 116 (6 * c - 1) (nI 59)) 88 37 (nI ((6 * c - 1) + 1))) 116 (((6 * c - 1) + 1) + 0) (nI (97 + (H 0)))) 116 (((6 * c - 1) + 1) + 1) (nI (97 + (H 1))))) rfl (rfl) (by simp only [tw_nadd, tw_nmul]) (rfl) ?_
        refine tw_as (k := 116) (j := (((6 * c - 1) + 1) + 2)) (len := 60) rfl rfl rfl (rfl) (by omega) (by decide) ?_
        refine tw_sgn 4 (i1 := 29) (ls0 := [.ref 88, .int (nI c), .int (nI 2 + nI 1)]) (st0 := [.int (nI 4), .int (nI 2 + nI 1)]) (σ0 := (tw_upd (tw_upd (tw_upd (tw_upd (tw_upd σ 116 (6 * c - 1) (nI 59)) 88 37 (nI ((6 * c - 1) + 1))) 116 (((6 * c - 1) + 1) + 0) (nI (97 + (H 0)))) 116 (((6 * c - 1) + 1) + 1) (nI (97 + (H 1)))) 116 (((6 * c - 1) + 1) + 2) (nI (97 + (H 2))))) (ls1 := [.ref 88, .int (nI c), .int (nI 3)]) (st1 := [.int (nI 4), .int (nI 3)]) (σ1 := (tw_upd (tw_upd (tw_upd (tw_upd (tw_upd σ 116 (6 * c - 1) (nI 59)) 88 37 (nI ((6 * c - 1) + 1))) 116 (((6 * c - 1) + 1) + 0) (nI (97 + (H 0)))) 116 (((6 * c - 1) + 1) + 1) (nI (97 + (H 1)))) 116 (((6 * c - 1) + 1) + 2) (nI (97 + (H 2))))) rfl (by simp only [tw_nadd, tw_nmul]) (by simp only [tw_nadd, tw_nmul]) (rfl) ?_
        refine tw_biF (c := .ge) rfl (by rw [tw_cge', tw_nle (by omega) (by omega)] <;> omega) ?_
        show tw_P L xs _ 247 30 [.ref 88, .int (nI c), .int (nI 3)] [] (tw_upd (tw_upd (tw_upd (tw_upd (tw_upd σ 116 (6 * c - 1) (nI 59)) 88 37 (nI ((6 * c - 1) + 1))) 116 (((6 * c - 1) + 1) + 0) (nI (97 + (H 0)))) 116 (((6 * c - 1) + 1) + 1) (nI (97 + (H 1)))) 116 (((6 * c - 1) + 1) + 2) (nI (97 + (H 2)))) _
        refine tw_sgn 14 (i1 := 44) (ls0 := [.ref 88, .int (nI c), .int (nI 3)]) (st0 := [.int ((nI 4 * nI c) + nI 3), .ref 91, .int (nI 97), .int (nI ((6 * c - 1) + 1) + nI 3), .ref 116]) (σ0 := (tw_upd (tw_upd (tw_upd (tw_upd (tw_upd σ 116 (6 * c - 1) (nI 59)) 88 37 (nI ((6 * c - 1) + 1))) 116 (((6 * c - 1) + 1) + 0) (nI (97 + (H 0)))) 116 (((6 * c - 1) + 1) + 1) (nI (97 + (H 1)))) 116 (((6 * c - 1) + 1) + 2) (nI (97 + (H 2))))) (ls1 := [.ref 88, .int (nI c), .int (nI 3)]) (st1 := [.int (nI ((4 * c) + 3)), .ref 91, .int (nI 97), .int (nI (((6 * c - 1) + 1) + 3)), .ref 116]) (σ1 := (tw_upd (tw_upd (tw_upd (tw_upd (tw_upd σ 116 (6 * c - 1) (nI 59)) 88 37 (nI ((6 * c - 1) + 1))) 116 (((6 * c - 1) + 1) + 0) (nI (97 + (H 0)))) 116 (((6 * c - 1) + 1) + 1) (nI (97 + (H 1)))) 116 (((6 * c - 1) + 1) + 2) (nI (97 + (H 2))))) rfl (rfl) (by simp only [tw_nadd, tw_nmul]) (rfl) ?_
        refine tw_al (k := 91) (j := ((4 * c) + 3)) (len := 80) rfl rfl rfl rfl (rfl) (by omega) (by decide) ?_
        rw [show (tw_upd (tw_upd (tw_upd (tw_upd (tw_upd σ 116 (6 * c - 1) (nI 59)) 88 37 (nI ((6 * c - 1) + 1))) 116 (((6 * c - 1) + 1) + 0) (nI (97 + (H 0)))) 116 (((6 * c - 1) + 1) + 1) (nI (97 + (H 1)))) 116 (((6 * c - 1) + 1) + 2) (nI (97 + (H 2)))) 91 ((4 * c) + 3) = σ 91 ((4 * c) + 3) from by repeat (first | exact rfl | exact tw_upd_at | rw [tw_upd_off (by omega)]), ((hI.1 91 _ (by omega) (by omega)).trans (hH 3 (by omega)).2.2)]
        refine tw_sgn 1 (i1 := 46) (ls0 := [.ref 88, .int (nI c), .int (nI 3)]) (st0 := [.int (nI 97 + nI (H 3)), .int (nI (((6 * c - 1) + 1) + 3)), .ref 116]) (σ0 := (tw_upd (tw_upd (tw_upd (tw_upd (tw_upd σ 116 (6 * c - 1) (nI 59)) 88 37 (nI ((6 * c - 1) + 1))) 116 (((6 * c - 1) + 1) + 0) (nI (97 + (H 0)))) 116 (((6 * c - 1) + 1) + 1) (nI (97 + (H 1)))) 116 (((6 * c - 1) + 1) + 2) (nI (97 + (H 2))))) (ls1 := [.ref 88, .int (nI c), .int (nI 3)]) (st1 := [.int (nI (97 + (H 3))), .int (nI (((6 * c - 1) + 1) + 3)), .ref 116]) (σ1 := (tw_upd (tw_upd (tw_upd (tw_upd (tw_upd σ 116 (6 * c - 1) (nI 59)) 88 37 (nI ((6 * c - 1) + 1))) 116 (((6 * c - 1) + 1) + 0) (nI (97 + (H 0)))) 116 (((6 * c - 1) + 1) + 1) (nI (97 + (H 1)))) 116 (((6 * c - 1) + 1) + 2) (nI (97 + (H 2))))) rfl (rfl) (by simp only [tw_nadd, tw_nmul]) (rfl) ?_
        refine tw_as (k := 116) (j := (((6 * c - 1) + 1) + 3)) (len := 60) rfl rfl rfl (rfl) (by omega) (by decide) ?_
        refine tw_sgn 4 (i1 := 29) (ls0 := [.ref 88, .int (nI c), .int (nI 3 + nI 1)]) (st0 := [.int (nI 4), .int (nI 3 + nI 1)]) (σ0 := (tw_upd (tw_upd (tw_upd (tw_upd (tw_upd (tw_upd σ 116 (6 * c - 1) (nI 59)) 88 37 (nI ((6 * c - 1) + 1))) 116 (((6 * c - 1) + 1) + 0) (nI (97 + (H 0)))) 116 (((6 * c - 1) + 1) + 1) (nI (97 + (H 1)))) 116 (((6 * c - 1) + 1) + 2) (nI (97 + (H 2)))) 116 (((6 * c - 1) + 1) + 3) (nI (97 + (H 3))))) (ls1 := [.ref 88, .int (nI c), .int (nI 4)]) (st1 := [.int (nI 4), .int (nI 4)]) (σ1 := (tw_upd (tw_upd (tw_upd (tw_upd (tw_upd (tw_upd σ 116 (6 * c - 1) (nI 59)) 88 37 (nI ((6 * c - 1) + 1))) 116 (((6 * c - 1) + 1) + 0) (nI (97 + (H 0)))) 116 (((6 * c - 1) + 1) + 1) (nI (97 + (H 1)))) 116 (((6 * c - 1) + 1) + 2) (nI (97 + (H 2)))) 116 (((6 * c - 1) + 1) + 3) (nI (97 + (H 3))))) rfl (by simp only [tw_nadd, tw_nmul]) (by simp only [tw_nadd, tw_nmul]) (rfl) ?_
        refine tw_biT (c := .ge) rfl (by rw [tw_cge, tw_nle (by omega) (by omega)] <;> omega) ?_
        show tw_P L xs _ 247 49 [.ref 88, .int (nI c), .int (nI 4)] [] (tw_upd (tw_upd (tw_upd (tw_upd (tw_upd (tw_upd σ 116 (6 * c - 1) (nI 59)) 88 37 (nI ((6 * c - 1) + 1))) 116 (((6 * c - 1) + 1) + 0) (nI (97 + (H 0)))) 116 (((6 * c - 1) + 1) + 1) (nI (97 + (H 1)))) 116 (((6 * c - 1) + 1) + 2) (nI (97 + (H 2)))) 116 (((6 * c - 1) + 1) + 3) (nI (97 + (H 3)))) _
        refine tw_sgn 9 (i1 := 58) (ls0 := [.ref 88, .int (nI c), .int (nI 4)]) (st0 := [.int (nI c), .ref 92, .int (nI ((6 * c - 1) + 1) + nI 4), .ref 116]) (σ0 := (tw_upd (tw_upd (tw_upd (tw_upd (tw_upd (tw_upd σ 116 (6 * c - 1) (nI 59)) 88 37 (nI ((6 * c - 1) + 1))) 116 (((6 * c - 1) + 1) + 0) (nI (97 + (H 0)))) 116 (((6 * c - 1) + 1) + 1) (nI (97 + (H 1)))) 116 (((6 * c - 1) + 1) + 2) (nI (97 + (H 2)))) 116 (((6 * c - 1) + 1) + 3) (nI (97 + (H 3))))) (ls1 := [.ref 88, .int (nI c), .int (nI 4)]) (st1 := [.int (nI c), .ref 92, .int (nI (((6 * c - 1) + 1) + 4)), .ref 116]) (σ1 := (tw_upd (tw_upd (tw_upd (tw_upd (tw_upd (tw_upd σ 116 (6 * c - 1) (nI 59)) 88 37 (nI ((6 * c - 1) + 1))) 116 (((6 * c - 1) + 1) + 0) (nI (97 + (H 0)))) 116 (((6 * c - 1) + 1) + 1) (nI (97 + (H 1)))) 116 (((6 * c - 1) + 1) + 2) (nI (97 + (H 2)))) 116 (((6 * c - 1) + 1) + 3) (nI (97 + (H 3))))) rfl (rfl) (by simp only [tw_nadd, tw_nmul]) (rfl) ?_
        refine tw_al (k := 92) (j := c) (len := 20) rfl rfl rfl rfl (rfl) (by omega) (by decide) ?_
        rw [show (tw_upd (tw_upd (tw_upd (tw_upd (tw_upd (tw_upd σ 116 (6 * c - 1) (nI 59)) 88 37 (nI ((6 * c - 1) + 1))) 116 (((6 * c - 1) + 1) + 0) (nI (97 + (H 0)))) 116 (((6 * c - 1) + 1) + 1) (nI (97 + (H 1)))) 116 (((6 * c - 1) + 1) + 2) (nI (97 + (H 2)))) 116 (((6 * c - 1) + 1) + 3) (nI (97 + (H 3)))) 92 c = σ 92 c from by repeat (first | exact rfl | exact tw_upd_at | rw [tw_upd_off (by omega)]), ((hI.1 92 _ (by omega) (by omega)).trans hZ2)]
        refine tw_bzT (c := .ne) rfl (by rw [tw_cne, tw_neq (by omega) (by omega)] <;> omega) ?_
        show tw_P L xs _ 247 62 [.ref 88, .int (nI c), .int (nI 4)] [.int (nI (((6 * c - 1) + 1) + 4)), .ref 116] (tw_upd (tw_upd (tw_upd (tw_upd (tw_upd (tw_upd σ 116 (6 * c - 1) (nI 59)) 88 37 (nI ((6 * c - 1) + 1))) 116 (((6 * c - 1) + 1) + 0) (nI (97 + (H 0)))) 116 (((6 * c - 1) + 1) + 1) (nI (97 + (H 1)))) 116 (((6 * c - 1) + 1) + 2) (nI (97 + (H 2)))) 116 (((6 * c - 1) + 1) + 3) (nI (97 + (H 3)))) _
        refine tw_sg 1 (i1 := 63) (ls1 := [.ref 88, .int (nI c), .int (nI 4)]) (st1 := [.int (nI 90), .int (nI (((6 * c - 1) + 1) + 4)), .ref 116]) (σ1 := (tw_upd (tw_upd (tw_upd (tw_upd (tw_upd (tw_upd σ 116 (6 * c - 1) (nI 59)) 88 37 (nI ((6 * c - 1) + 1))) 116 (((6 * c - 1) + 1) + 0) (nI (97 + (H 0)))) 116 (((6 * c - 1) + 1) + 1) (nI (97 + (H 1)))) 116 (((6 * c - 1) + 1) + 2) (nI (97 + (H 2)))) 116 (((6 * c - 1) + 1) + 3) (nI (97 + (H 3))))) rfl ?_
        refine tw_as (k := 116) (j := (((6 * c - 1) + 1) + 4)) (len := 60) rfl rfl rfl (rfl) (by omega) (by decide) ?_
        refine tw_sgn 8 (i1 := 5) (ls0 := [.ref 88, .int (nI c + nI 1), .int (nI 4)]) (st0 := []) (σ0 := (tw_upd (tw_upd (tw_upd (tw_upd (tw_upd (tw_upd (tw_upd (tw_upd σ 116 (6 * c - 1) (nI 59)) 88 37 (nI ((6 * c - 1) + 1))) 116 (((6 * c - 1) + 1) + 0) (nI (97 + (H 0)))) 116 (((6 * c - 1) + 1) + 1) (nI (97 + (H 1)))) 116 (((6 * c - 1) + 1) + 2) (nI (97 + (H 2)))) 116 (((6 * c - 1) + 1) + 3) (nI (97 + (H 3)))) 116 (((6 * c - 1) + 1) + 4) (nI 90)) 88 37 (nI ((6 * c - 1) + 1) + nI 5))) (ls1 := [.ref 88, .int (nI (c + 1)), .int (nI 4)]) (st1 := []) (σ1 := (tw_upd (tw_upd (tw_upd (tw_upd (tw_upd (tw_upd (tw_upd (tw_upd σ 116 (6 * c - 1) (nI 59)) 88 37 (nI ((6 * c - 1) + 1))) 116 (((6 * c - 1) + 1) + 0) (nI (97 + (H 0)))) 116 (((6 * c - 1) + 1) + 1) (nI (97 + (H 1)))) 116 (((6 * c - 1) + 1) + 2) (nI (97 + (H 2)))) 116 (((6 * c - 1) + 1) + 3) (nI (97 + (H 3)))) 116 (((6 * c - 1) + 1) + 4) (nI 90)) 88 37 (nI (((6 * c - 1) + 1) + 5)))) rfl (by simp only [tw_nadd, tw_nmul]) (rfl) (by simp only [tw_nadd, tw_nmul]) ?_
        generalize hτ : (tw_upd (tw_upd (tw_upd (tw_upd (tw_upd (tw_upd (tw_upd (tw_upd σ 116 (6 * c - 1) (nI 59)) 88 37 (nI ((6 * c - 1) + 1))) 116 (((6 * c - 1) + 1) + 0) (nI (97 + (H 0)))) 116 (((6 * c - 1) + 1) + 1) (nI (97 + (H 1)))) 116 (((6 * c - 1) + 1) + 2) (nI (97 + (H 2)))) 116 (((6 * c - 1) + 1) + 3) (nI (97 + (H 3)))) 116 (((6 * c - 1) + 1) + 4) (nI 90)) 88 37 (nI (((6 * c - 1) + 1) + 5))) = τ
        refine ih (c + 1) τ _ (by omega) (hI.step (H := H) (z := z) (fun hc => ?_) (fun h hh => (hH h hh).2.2) hz hZ2 ⟨?_, fun h hh => ?_, ?_, fun k j g1 g2 => ?_⟩)
        · rw [← hτ]; repeat (first | exact tw_upd_at | rw [tw_upd_off (by omega)])
        · rw [← hτ]; exact tw_upd_at.trans (by first | rfl | exact congrArg nI (by omega))
        · rcases (show h = 0 ∨ h = 1 ∨ h = 2 ∨ h = 3 by omega) with rfl | rfl | rfl | rfl
          · rw [← hτ]; repeat (first | exact tw_upd_at | (rw [show 6 * c + 0 = 6 * c - 1 + 1 + 0 by omega, tw_upd_at]; done) | rw [tw_upd_off (by omega)])
          · rw [← hτ]; repeat (first | exact tw_upd_at | (rw [show 6 * c + 1 = 6 * c - 1 + 1 + 1 by omega, tw_upd_at]; done) | rw [tw_upd_off (by omega)])
          · rw [← hτ]; repeat (first | exact tw_upd_at | (rw [show 6 * c + 2 = 6 * c - 1 + 1 + 2 by omega, tw_upd_at]; done) | rw [tw_upd_off (by omega)])
          · rw [← hτ]; repeat (first | exact tw_upd_at | (rw [show 6 * c + 3 = 6 * c - 1 + 1 + 3 by omega, tw_upd_at]; done) | rw [tw_upd_off (by omega)])
        · rw [← hτ, hz0]; repeat (first | exact tw_upd_at | (rw [show 6 * c + 4 = 6 * c - 1 + 1 + 4 by omega]; exact tw_upd_at) | rw [tw_upd_off (by omega)])
        · rw [← hτ]; repeat (first | rfl | rw [tw_upd_off (by omega)])
set_option maxHeartbeats 4000000 in
set_option maxRecDepth 100000 in
theorem tw_o_spell {L : Nat} {xs : Nat → Int32} : tw_op L xs 167 247 [] := by
  intro σ hI
  obtain ⟨⟨n, r, hL⟩, hT, hPp, hPc, hLs, hIm, hC14, hC46, hC72⟩ := id hI
  obtain ⟨⟨hn10, hr50⟩, ⟨hn6, hn89⟩, ⟨hr9, hw9, hr90⟩, hCa, hRo, hLa⟩ := hL
  have hn6 : σ 6 4 = nI n := hn6
  have hn89 : σ 89 0 = nI n := hn89
  have hr9 : σ 9 3 = nI r := hr9
  have hw9 : σ 9 4 = nI n := hw9
  have hr90 : σ 90 0 = nI r := hr90
  show tw_P L xs _ 167 0 [.ref 1] [] σ _
  refine tw_sg 4 (i1 := 4) (ls1 := [.ref 1]) (st1 := [.ref 4, .ref 6]) (σ1 := σ) rfl ?_
  refine tw_cl1 rfl (rfl) (by decide) (tw_e_spellOn hn6 hn10 (tw_iCards0.mp hCa)) ?_
  rintro _ τ ⟨rfl, hS⟩
  show tw_P L xs _ 167 5 [.ref 1] [] τ _
  refine tw_sg 2 (i1 := 7) (ls1 := [.ref 1]) (st1 := [.ref 4]) (σ1 := τ) rfl ?_
  refine tw_cl0 59 rfl (rfl) (by decide) ?_
  show tw_P L xs _ 121 0 [.ref 4] [] τ _
  refine tw_sgn 2 (i1 := 2) (ls0 := [.ref 4]) (st0 := [.int (τ 4 1)]) (σ0 := τ) (ls1 := [.ref 4]) (st1 := [.int (nI (6 * n - 1))]) (σ1 := τ) rfl (rfl) (by simp only [hS.2.1, tw_nadd, tw_nmul]) (rfl) ?_
  refine tw_ri rfl (rfl) ?_
  show tw_P L xs _ 167 8 [.ref 1] [.int (nI (6 * n - 1))] τ _
  refine tw_ri rfl (rfl) ?_
  refine ⟨_, rfl, ?_⟩
  show tw_P L xs _ 247 0 [.ref 88, tw_U, tw_U] [] τ _
  refine tw_sg 5 (i1 := 5) (ls1 := [.ref 88, .int (nI 0), tw_U]) (st1 := []) (σ1 := (tw_upd τ 88 37 (nI 0))) rfl ?_
  refine tw_P_le (d := 0) (tw_l_mspell (σ0 := τ) (n := n) ((hS.1 89 0 (by omega) (by omega)).trans hn89) hn10 (fun c hc => ?_) (fun ω hM => ⟨rfl, ?_⟩) n 0 _ _ (by omega) ⟨fun k j g1 g2 => tw_upd_off g1, tw_upd_at, fun j hj => by omega⟩) (by decide)
  · obtain ⟨g1, g2, g3, g4⟩ := tw_iCards0.mp hCa c hc
    have F : ∀ k j, ¬ (k = 4 ∧ j = 1) → ¬ k = 5 → τ k j = σ k j := hS.1
    refine ⟨fun h hh => ?_, ?_, ?_, ?_⟩
    · rw [F _ _ (by omega) (by omega), F 91 _ (by omega) (by omega)]; exact g1 h hh
    · rw [F _ _ (by omega) (by omega), F 92 _ (by omega) (by omega)]; exact g2
    · rw [F _ _ (by omega) (by omega), F 93 _ (by omega) (by omega)]; exact g3
    · rw [F _ _ (by omega) (by omega), F 94 _ (by omega) (by omega)]; exact g4
  · have F : ∀ k j, ¬ tw_fPaper k j → ω k j = σ k j := fun k j h => by rw [hM.1 k j (by unfold tw_fPaper at h; omega) (by unfold tw_fPaper at h; omega), hS.1 k j (by unfold tw_fPaper at h; omega) (by unfold tw_fPaper at h; omega)]
    refine hI.paper ⟨6 * n - 1, by omega, (hM.1 4 1 (by omega) (by omega)).trans hS.2.1, hM.2.1, fun j hj => ?_⟩ F
    rw [hM.1 5 j (by omega) (by omega), hS.2.2 j hj, hM.2.2 j hj]
    unfold tw_sp
    rw [hS.1 91 _ (by omega) (by omega), hS.1 92 _ (by omega) (by omega)]
end tw_s56
