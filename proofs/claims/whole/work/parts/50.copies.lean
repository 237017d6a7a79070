/-! a loom copied -/
section tw_s50
variable {L : Nat} {xs : Nat → Int32} {σ : tw_Mem} {x y w : Int32} {n r i c k h q a b e : Nat}
theorem tw_cpP {L : Nat} {xs : Nat → Int32} {d m i : Nat} {ls rest : List Value} {σ : tw_Mem} {Q : Option Value → tw_Mem → Prop} {pc ln idx b : Nat} {z : Int32} {ts : List Nat} {k q N tag l1 l2 : Nat} (h : tw_fetch m i = some (pc, ln, .invokestatic idx, 998, b, z, ts)) (h2 : rest.length ≤ 8) (hk : tw_sh k = (tag, l1)) (hq : tw_sh q = (tag, l2)) (ht : tag = 20 ∨ tag = 22 ∧ ∀ j, j < N → 0 ≤ σ k j ∧ σ k j ≤ 65535) (h3 : tw_live k none = true) (h4 : tw_live q none = true) (h8 : k ≠ q) (hN : N < 100000) (h12 : N ≤ l1) (h13 : N ≤ l2)
    (kk : ∀ τ, (∀ j, j < N → τ q j = σ k j) → (∀ k' j, ¬ (k' = q ∧ j < N) → τ k' j = σ k' j) → tw_P L xs d m (i + 1) ls rest τ Q) : tw_P L xs d m i ls (.int (nI N) :: .int (nI 0) :: .ref q :: .int (nI 0) :: .ref k :: rest) σ Q := by
  have e0 : (nI 0).toNatClampNeg = 0 := tw_nclamp (by decide)
  have eN : (nI N).toNatClampNeg = N := tw_nclamp (by omega)
  obtain ⟨v, σ1, hR, hQ⟩ := kk (tw_cpy σ k q 0 0 N) (fun j hj => by
    unfold tw_cpy
    rw [if_pos ⟨rfl, Nat.zero_le _, by omega⟩, Nat.sub_zero, Nat.zero_add]) (fun k' j g => by
    unfold tw_cpy
    rw [if_neg (fun q => g ⟨q.1, by omega⟩)])
  refine ⟨v, σ1, tw_copy1 h h2 h3 h4 (by rw [hk, hq]) ?_ ?_ h8 (by decide) (by decide) (tw_not_lt.mp (tw_nge0 (by omega))) (by rw [e0, eN, hk]; omega) (by rw [e0, eN, hq]; omega) ?_ (by rw [e0, eN]; exact hR), hQ⟩
  · rw [hk]; rcases ht with h | h
    · show 20 ≤ tag; omega
    · show 20 ≤ tag; omega
  · rw [hk]; rcases ht with h | h
    · show tag ≤ 23; omega
    · show tag ≤ 23; omega
  · rw [hk, e0, eN]
    rcases ht with h | ⟨h, h5⟩
    · exact Or.inl h
    · exact Or.inr ⟨h, fun j hj => by rw [Nat.zero_add]; exact h5 j hj⟩
theorem tw_chb {q : Nat} (h : q < 65536) : 0 ≤ nI q ∧ nI q ≤ 65535 := by
  refine ⟨tw_not_lt.mp (tw_nge0 (by omega)), ?_⟩
  show nI q ≤ nI 65535
  rw [tw_nle (by omega) (by omega)]
  omega
set_option maxRecDepth 100000 in
theorem tw_cds2 : ∀ c, c < 10 → tw_isO (2 * c + 50) 0 none = true ∧ tw_sh (2 * c + 50) = (0, 4) ∧ tw_kd (2 * c + 50) 0 = (1, 2 * c + 51) ∧ tw_kd (2 * c + 50) 1 = (0, 0) ∧ tw_kd (2 * c + 50) 2 = (0, 0) ∧ tw_kd (2 * c + 50) 3 = (0, 0) ∧ tw_sh (2 * c + 51) = (20, 4) ∧ tw_live (2 * c + 51) none = true ∧ tw_kd 39 c = (1, 2 * c + 50) ∧ Nat.beq (2 * c + 51) 0 = false := by decide +kernel
section tw_M2b
variable {c : Nat}
theorem tw_cd2O (h : c < 10) : tw_isO (2 * c + 50) 0 none = true := (tw_cds2 c h).1
theorem tw_cd2B (h : c < 10) {b : Nat} (hb : b < 4) : Nat.blt b (tw_sh (2 * c + 50)).2 = true := by
  rw [(tw_cds2 c h).2.1]
  simpa [Nat.blt_eq] using hb
theorem tw_cd2V0 {σ : tw_Mem} (h : c < 10) : tw_val none σ (2 * c + 50) 0 = .ref (2 * c + 51) := by
  unfold tw_val
  rw [(tw_cds2 c h).2.2.1]
  rfl
theorem tw_cd2K1 (h : c < 10) : (tw_kd (2 * c + 50) 1).1 = 0 := by rw [(tw_cds2 c h).2.2.2.1]
theorem tw_cd2K2 (h : c < 10) : (tw_kd (2 * c + 50) 2).1 = 0 := by rw [(tw_cds2 c h).2.2.2.2.1]
theorem tw_cd2K3 (h : c < 10) : (tw_kd (2 * c + 50) 3).1 = 0 := by rw [(tw_cds2 c h).2.2.2.2.2.1]
theorem tw_cd2V1 {σ : tw_Mem} (h : c < 10) : tw_val none σ (2 * c + 50) 1 = .int (σ (2 * c + 50) 1) := by
  unfold tw_val
  rw [(tw_cds2 c h).2.2.2.1]
theorem tw_cd2V2 {σ : tw_Mem} (h : c < 10) : tw_val none σ (2 * c + 50) 2 = .int (σ (2 * c + 50) 2) := by
  unfold tw_val
  rw [(tw_cds2 c h).2.2.2.2.1]
theorem tw_cd2V3 {σ : tw_Mem} (h : c < 10) : tw_val none σ (2 * c + 50) 3 = .int (σ (2 * c + 50) 3) := by
  unfold tw_val
  rw [(tw_cds2 c h).2.2.2.2.2.1]
theorem tw_cd2S (h : c < 10) : tw_sh (2 * c + 51) = (20, 4) := (tw_cds2 c h).2.2.2.2.2.2.1
theorem tw_cd2L (h : c < 10) : tw_live (2 * c + 51) none = true := (tw_cds2 c h).2.2.2.2.2.2.2.1
theorem tw_cd2N (h : c < 10) : Nat.beq (2 * c + 51) 0 = false := (tw_cds2 c h).2.2.2.2.2.2.2.2.2
theorem tw_cd2A {σ : tw_Mem} (h : c < 10) : tw_val none σ 39 c = .ref (2 * c + 50) := by
  unfold tw_val
  rw [(tw_cds2 c h).2.2.2.2.2.2.2.2.1]
  rfl
end tw_M2b
/-- what a loom holds, by its places in the first one's cells; the reference's halves -/
def tw_fcl (k j : Nat) : Prop := (k = 6 ∧ j = 4) ∨ (k = 9 ∧ (j = 3 ∨ j = 4)) ∨ (k = 10 ∧ j < 2000) ∨ (k = 13 ∧ j = 4) ∨ (14 ≤ k ∧ k ≤ 17 ∧ j < 80) ∨ (18 ≤ k ∧ k ≤ 37 ∧ ((k % 2 = 0 ∧ 1 ≤ j ∧ j ≤ 3) ∨ (k % 2 = 1 ∧ j < 4)))
def tw_fmL (k j j2 : Nat) : Prop := (89 ≤ k ∧ k ≤ 90 ∧ j = 0 ∧ j2 = 1) ∨ (k = 91 ∧ j < 40 ∧ j2 = j + 40) ∨ (92 ≤ k ∧ k ≤ 94 ∧ j < 10 ∧ j2 = j + 10) ∨ (95 ≤ k ∧ k ≤ 98 ∧ j < 500 ∧ j2 = j + 500) ∨ (99 ≤ k ∧ k ≤ 102 ∧ j < 80 ∧ j2 = j + 80)
def tw_fmLo (k j : Nat) : Prop := (89 ≤ k ∧ k ≤ 90 ∧ j = 0) ∨ (k = 91 ∧ j < 40) ∨ (92 ≤ k ∧ k ≤ 94 ∧ j < 10) ∨ (95 ≤ k ∧ k ≤ 98 ∧ j < 500) ∨ (99 ≤ k ∧ k ≤ 102 ∧ j < 80)
def tw_fmU (k j : Nat) : Prop := (89 ≤ k ∧ k ≤ 90 ∧ j = 1) ∨ (k = 91 ∧ 40 ≤ j ∧ j < 80) ∨ (92 ≤ k ∧ k ≤ 94 ∧ 10 ≤ j ∧ j < 20) ∨ (95 ≤ k ∧ k ≤ 98 ∧ 500 ≤ j ∧ j < 1000) ∨ (99 ≤ k ∧ k ≤ 102 ∧ 80 ≤ j ∧ j < 160)
def tw_hfs (M h : Nat) : Prop := (89 ≤ M ∧ M ≤ 90 ∧ h = 1) ∨ (M = 91 ∧ h = 40) ∨ (92 ≤ M ∧ M ≤ 94 ∧ h = 10) ∨ (95 ≤ M ∧ M ≤ 98 ∧ h = 500) ∨ (99 ≤ M ∧ M ≤ 102 ∧ h = 80)
set_option maxHeartbeats 4000000 in
set_option maxRecDepth 100000 in
theorem tw_e_cci {c : Nat} (hc : c < 10) : tw_E L xs 0 14 [.ref (2 * c + 50), .ref (2 * c + 18)] σ (fun v τ => v = none ∧ (∀ j, j < 4 → τ (2 * c + 51) j = σ (2 * c + 19) j) ∧ (∀ j, 1 ≤ j → j ≤ 3 → τ (2 * c + 50) j = σ (2 * c + 18) j) ∧ ∀ k j, ¬ k = 2 * c + 50 → ¬ k = 2 * c + 51 → τ k j = σ k j) := by
  show tw_P L xs _ 14 0 [.ref (2 * c + 50), .ref (2 * c + 18)] [] σ _
  refine tw_sg 1 (i1 := 1) (ls1 := [.ref (2 * c + 50), .ref (2 * c + 18)]) (st1 := [.ref (2 * c + 18)]) (σ1 := σ) rfl ?_
  refine tw_gf rfl (tw_cdO hc) (tw_cdB hc (by decide)) (v := .ref (2 * c + 19)) (tw_cdV0 hc) ?_
  refine tw_sg 2 (i1 := 4) (ls1 := [.ref (2 * c + 50), .ref (2 * c + 18)]) (st1 := [.ref (2 * c + 50), .int (nI 0), .ref (2 * c + 19)]) (σ1 := σ) rfl ?_
  refine tw_gf rfl (tw_cd2O hc) (tw_cd2B hc (by decide)) (v := .ref (2 * c + 51)) (tw_cd2V0 hc) ?_
  refine tw_sg 2 (i1 := 7) (ls1 := [.ref (2 * c + 50), .ref (2 * c + 18)]) (st1 := [.int (nI 4), .int (nI 0), .ref (2 * c + 51), .int (nI 0), .ref (2 * c + 19)]) (σ1 := σ) rfl ?_
  refine tw_cpP (k := (2 * c + 19)) (q := (2 * c + 51)) (N := 4) rfl (by decide) (tw_cdS hc) (tw_cd2S hc) (Or.inl rfl) (tw_cdL hc) (tw_cd2L hc) (by omega) (by decide) (by decide) (by decide) (fun τc1 hτc1a hτc1b => ?_)
  show tw_P L xs _ 14 8 [.ref (2 * c + 50), .ref (2 * c + 18)] [] τc1 _
  refine tw_sg 2 (i1 := 10) (ls1 := [.ref (2 * c + 50), .ref (2 * c + 18)]) (st1 := [.ref (2 * c + 18), .ref (2 * c + 50)]) (σ1 := τc1) rfl ?_
  refine tw_gf rfl (tw_cdO hc) (tw_cdB hc (by decide)) (v := .int (τc1 (2 * c + 18) 1)) (tw_cdV1 hc) ?_
  refine tw_pf rfl (tw_cd2O hc) (tw_cd2B hc (by decide)) (tw_cd2K1 hc) ?_
  refine tw_sg 2 (i1 := 14) (ls1 := [.ref (2 * c + 50), .ref (2 * c + 18)]) (st1 := [.ref (2 * c + 18), .ref (2 * c + 50)]) (σ1 := (tw_upd τc1 (2 * c + 50) 1 (τc1 (2 * c + 18) 1))) rfl ?_
  refine tw_gf rfl (tw_cdO hc) (tw_cdB hc (by decide)) (v := .int ((tw_upd τc1 (2 * c + 50) 1 (τc1 (2 * c + 18) 1)) (2 * c + 18) 2)) (tw_cdV2 hc) ?_
  rw [show (tw_upd τc1 (2 * c + 50) 1 (τc1 (2 * c + 18) 1)) (2 * c + 18) 2 = τc1 (2 * c + 18) 2 from by repeat (first | exact rfl | exact tw_upd_at | rw [tw_upd_off (by omega)])]
  refine tw_pf rfl (tw_cd2O hc) (tw_cd2B hc (by decide)) (tw_cd2K2 hc) ?_
  refine tw_sg 2 (i1 := 18) (ls1 := [.ref (2 * c + 50), .ref (2 * c + 18)]) (st1 := [.ref (2 * c + 18), .ref (2 * c + 50)]) (σ1 := (tw_upd (tw_upd τc1 (2 * c + 50) 1 (τc1 (2 * c + 18) 1)) (2 * c + 50) 2 (τc1 (2 * c + 18) 2))) rfl ?_
  refine tw_gf rfl (tw_cdO hc) (tw_cdB hc (by decide)) (v := .int ((tw_upd (tw_upd τc1 (2 * c + 50) 1 (τc1 (2 * c + 18) 1)) (2 * c + 50) 2 (τc1 (2 * c + 18) 2)) (2 * c + 18) 3)) (tw_cdV3 hc) ?_
  rw [show (tw_upd (tw_upd τc1 (2 * c + 50) 1 (τc1 (2 * c + 18) 1)) (2 * c + 50) 2 (τc1 (2 * c + 18) 2)) (2 * c + 18) 3 = τc1 (2 * c + 18) 3 from by repeat (first | exact rfl | exact tw_upd_at | rw [tw_upd_off (by omega)])]
  refine tw_pf rfl (tw_cd2O hc) (tw_cd2B hc (by decide)) (tw_cd2K3 hc) ?_
  refine tw_rv rfl ?_
  refine ⟨rfl, fun j hj => ?_, fun j h1 h2 => ?_, fun k j h1 h2 => ?_⟩
  · rw [tw_upd_off (by omega), tw_upd_off (by omega), tw_upd_off (by omega)]; exact hτc1a j hj
  · rcases (show j = 1 ∨ j = 2 ∨ j = 3 by omega) with rfl | rfl | rfl
    · rw [tw_upd_off (by omega), tw_upd_off (by omega), tw_upd_at]; exact hτc1b _ _ (by omega)
    · rw [tw_upd_off (by omega), tw_upd_at]; exact hτc1b _ _ (by omega)
    · rw [tw_upd_at]; exact hτc1b _ _ (by omega)
  · rw [tw_upd_off (by omega), tw_upd_off (by omega), tw_upd_off (by omega)]; exact hτc1b k j (by omega)
def tw_cpCi (σ0 σ : tw_Mem) (c : Nat) : Prop := (∀ d, d < c → (∀ j, j < 4 → σ (2 * d + 51) j = σ0 (2 * d + 19) j) ∧ ∀ j, 1 ≤ j → j ≤ 3 → σ (2 * d + 50) j = σ0 (2 * d + 18) j) ∧ ∀ k j, ¬ (50 ≤ k ∧ k < 2 * c + 50) → σ k j = σ0 k j
theorem tw_cpCi.step {σ0 σ τ : tw_Mem} {c : Nat} (hc : c < 10) (H : tw_cpCi σ0 σ c) (h : (∀ j, j < 4 → τ (2 * c + 51) j = σ (2 * c + 19) j) ∧ (∀ j, 1 ≤ j → j ≤ 3 → τ (2 * c + 50) j = σ (2 * c + 18) j) ∧ ∀ k j, ¬ k = 2 * c + 50 → ¬ k = 2 * c + 51 → τ k j = σ k j) : tw_cpCi σ0 τ (c + 1) := by
  obtain ⟨h1, h2, h3⟩ := h
  refine ⟨fun d hd => ⟨fun j hj => ?_, fun j hj1 hj2 => ?_⟩, fun k j g => ?_⟩
  · by_cases z : d = c
    · rw [z, h1 j hj]; exact H.2 _ _ (by omega)
    · rw [h3 _ _ (by omega) (by omega)]; exact (H.1 d (by omega)).1 j hj
  · by_cases z : d = c
    · rw [z, h2 j hj1 hj2]; exact H.2 _ _ (by omega)
    · rw [h3 _ _ (by omega) (by omega)]; exact (H.1 d (by omega)).2 j hj1 hj2
  · rw [h3 _ _ (by omega) (by omega)]; exact H.2 k j (by omega)
set_option maxHeartbeats 4000000 in
set_option maxRecDepth 100000 in
theorem tw_l_cpCi {L : Nat} {xs : Nat → Int32} {Q : Option Value → tw_Mem → Prop} {σ0 : tw_Mem} : ∀ (f : Nat) (c : Nat) (σ : tw_Mem) (u u2 : Value), c + f = 10 → (tw_cpCi σ0 σ c ∧ ∀ (τ : tw_Mem) (u u2 : Value), tw_cpCi σ0 τ 10 → tw_P L xs 3 104 24 [.ref 38, .ref 6, .int (nI 10), u, u2] [] τ Q) → tw_P L xs 3 104 2 [.ref 38, .ref 6, .int (nI c), u, u2] [] σ Q := by
  intro f
  induction f with
  | zero =>
    intro c σ u u2 hf hQ
    refine tw_sg 2 (i1 := 4) (ls1 := [.ref 38, .ref 6, .int (nI c), u, u2]) (st1 := [.int (nI 10), .int (nI c)]) (σ1 := σ) rfl ?_
    refine tw_biT (c := .ge) rfl (by rw [tw_cge, tw_nle (by omega) (by omega)] <;> omega) ?_
    show tw_P L xs _ 104 24 [.ref 38, .ref 6, .int (nI c), u, u2] [] σ _
    have hf : c = 10 := hf
    subst hf
    exact hQ.2 σ _ _ hQ.1
  | succ f ih =>
    intro c σ u u2 hf hQ
    refine tw_sg 2 (i1 := 4) (ls1 := [.ref 38, .ref 6, .int (nI c), u, u2]) (st1 := [.int (nI 10), .int (nI c)]) (σ1 := σ) rfl ?_
    refine tw_biF (c := .ge) rfl (by rw [tw_cge', tw_nle (by omega) (by omega)] <;> omega) ?_
    show tw_P L xs _ 104 5 [.ref 38, .ref 6, .int (nI c), u, u2] [] σ _
    refine tw_sg 3 (i1 := 8) (ls1 := [.ref 38, .ref 6, .int (nI c), u, u2]) (st1 := [.int (nI c), .ref 39]) (σ1 := σ) rfl ?_
    refine tw_aal (k := 39) (j := c) (len := 10) (t := (2 * c + 50)) rfl rfl rfl rfl (by omega) (by decide) (tw_cd2A (by omega)) ?_
    refine tw_sg 4 (i1 := 13) (ls1 := [.ref 38, .ref 6, .int (nI c), .ref (2 * c + 50), u2]) (st1 := [.int (nI c), .ref 7]) (σ1 := σ) rfl ?_
    refine tw_aal (k := 7) (j := c) (len := 10) (t := (2 * c + 18)) rfl rfl rfl rfl (by omega) (by decide) (tw_cdA (by omega)) ?_
    refine tw_sg 7 (i1 := 21) (ls1 := [.ref 38, .ref 6, .int (nI c), .ref (2 * c + 50), .ref (2 * c + 18)]) (st1 := [.ref (2 * c + 18), .ref (2 * c + 50)]) (σ1 := σ) rfl ?_
    refine tw_cl1 rfl (tw_inv_ok (y := 14) (b := 1) (st := [.ref (2 * c + 18), .ref (2 * c + 50)]) (k := (2 * c + 50)) (r := []) rfl rfl (tw_cd2O (by omega))) (by decide) (tw_e_cci (c := c) (by omega)) ?_
    rintro _ σ1 ⟨rfl, hcc⟩
    show tw_P L xs _ 104 22 [.ref 38, .ref 6, .int (nI c), .ref (2 * c + 50), .ref (2 * c + 18)] [] σ1 _
    refine tw_sgn 2 (i1 := 2) (ls0 := [.ref 38, .ref 6, .int (nI c + nI 1), .ref (2 * c + 50), .ref (2 * c + 18)]) (st0 := []) (σ0 := σ1) (ls1 := [.ref 38, .ref 6, .int (nI (c + 1)), .ref (2 * c + 50), .ref (2 * c + 18)]) (st1 := []) (σ1 := σ1) rfl (by simp only [tw_nadd, tw_nmul]) (rfl) (rfl) ?_
    exact ih (c + 1) σ1 _ _ (by omega) ⟨hQ.1.step (by omega) hcc, hQ.2⟩
set_option maxHeartbeats 4000000 in
set_option maxRecDepth 100000 in
theorem tw_e_cpLi (hch : tw_iChars σ 14) : tw_E L xs 3 104 [.ref 38, .ref 6] σ (fun v τ => v = none ∧ (∀ k j, tw_fcl k j → τ (k + 32) j = σ k j) ∧ ∀ k j, ¬ (38 ≤ k ∧ k ≤ 69) → τ k j = σ k j) := by
  show tw_P L xs _ 104 0 [.ref 38, .ref 6, tw_U, tw_U, tw_U] [] σ _
  refine tw_sg 2 (i1 := 2) (ls1 := [.ref 38, .ref 6, .int (nI 0), tw_U, tw_U]) (st1 := []) (σ1 := σ) rfl ?_
  refine tw_l_cpCi 10 0 σ _ _ (by omega) ⟨⟨fun d hd => by omega, fun _ _ _ => rfl⟩, fun τ u u2 hcp => ?_⟩
  show tw_P L xs _ 104 24 [.ref 38, .ref 6, .int (nI 10), u, u2] [] τ _
  refine tw_sg 4 (i1 := 28) (ls1 := [.ref 38, .ref 6, .int (nI 10), u, u2]) (st1 := [.ref 9, .ref 41]) (σ1 := τ) rfl ?_
  refine tw_cl0 2 rfl (rfl) (by decide) ?_
  show tw_P L xs _ 36 0 [.ref 41, .ref 9] [] τ _
  refine tw_sg 7 (i1 := 7) (ls1 := [.ref 41, .ref 9]) (st1 := [.int (nI 2000), .int (nI 0), .ref 42, .int (nI 0), .ref 10]) (σ1 := τ) rfl ?_
  refine tw_cpP (k := 10) (q := 42) (N := 2000) rfl (by decide) (rfl) (rfl) (Or.inl rfl) (rfl) (rfl) (by omega) (by decide) (by decide) (by decide) (fun τc1 hτc1a hτc1b => ?_)
  show tw_P L xs _ 36 8 [.ref 41, .ref 9] [] τc1 _
  refine tw_sg 8 (i1 := 16) (ls1 := [.ref 41, .ref 9]) (st1 := []) (σ1 := (tw_upd (tw_upd τc1 41 3 (τc1 9 3)) 41 4 (τc1 9 4))) rfl ?_
  refine tw_rv rfl ?_
  show tw_P L xs _ 104 29 [.ref 38, .ref 6, .int (nI 10), u, u2] [] (tw_upd (tw_upd τc1 41 3 (τc1 9 3)) 41 4 (τc1 9 4)) _
  refine tw_sg 4 (i1 := 33) (ls1 := [.ref 38, .ref 6, .int (nI 10), u, u2]) (st1 := [.ref 13, .ref 45]) (σ1 := (tw_upd (tw_upd τc1 41 3 (τc1 9 3)) 41 4 (τc1 9 4))) rfl ?_
  refine tw_cl0 2 rfl (rfl) (by decide) ?_
  show tw_P L xs _ 60 0 [.ref 45, .ref 13] [] (tw_upd (tw_upd τc1 41 3 (τc1 9 3)) 41 4 (τc1 9 4)) _
  refine tw_sg 7 (i1 := 7) (ls1 := [.ref 45, .ref 13]) (st1 := [.int (nI 80), .int (nI 0), .ref 46, .int (nI 0), .ref 14]) (σ1 := (tw_upd (tw_upd τc1 41 3 (τc1 9 3)) 41 4 (τc1 9 4))) rfl ?_
  refine tw_cpP (k := 14) (q := 46) (N := 80) rfl (by decide) (rfl) (rfl) (Or.inr ⟨rfl, fun j hj => by obtain ⟨q, hq, e⟩ := hch j hj; rw [tw_upd_off (by omega), tw_upd_off (by omega), hτc1b _ _ (by omega), hcp.2 _ _ (by omega), e]; exact tw_chb hq⟩) (rfl) (rfl) (by omega) (by decide) (by decide) (by decide) (fun τc2 hτc2a hτc2b => ?_)
  show tw_P L xs _ 60 8 [.ref 45, .ref 13] [] τc2 _
  refine tw_sg 7 (i1 := 15) (ls1 := [.ref 45, .ref 13]) (st1 := [.int (nI 80), .int (nI 0), .ref 47, .int (nI 0), .ref 15]) (σ1 := τc2) rfl ?_
  refine tw_cpP (k := 15) (q := 47) (N := 80) rfl (by decide) (rfl) (rfl) (Or.inl rfl) (rfl) (rfl) (by omega) (by decide) (by decide) (by decide) (fun τc3 hτc3a hτc3b => ?_)
  show tw_P L xs _ 60 16 [.ref 45, .ref 13] [] τc3 _
  refine tw_sg 7 (i1 := 23) (ls1 := [.ref 45, .ref 13]) (st1 := [.int (nI 80), .int (nI 0), .ref 48, .int (nI 0), .ref 16]) (σ1 := τc3) rfl ?_
  refine tw_cpP (k := 16) (q := 48) (N := 80) rfl (by decide) (rfl) (rfl) (Or.inl rfl) (rfl) (rfl) (by omega) (by decide) (by decide) (by decide) (fun τc4 hτc4a hτc4b => ?_)
  show tw_P L xs _ 60 24 [.ref 45, .ref 13] [] τc4 _
  refine tw_sg 7 (i1 := 31) (ls1 := [.ref 45, .ref 13]) (st1 := [.int (nI 80), .int (nI 0), .ref 49, .int (nI 0), .ref 17]) (σ1 := τc4) rfl ?_
  refine tw_cpP (k := 17) (q := 49) (N := 80) rfl (by decide) (rfl) (rfl) (Or.inl rfl) (rfl) (rfl) (by omega) (by decide) (by decide) (by decide) (fun τc5 hτc5a hτc5b => ?_)
  show tw_P L xs _ 60 32 [.ref 45, .ref 13] [] τc5 _
  refine tw_sg 8 (i1 := 40) (ls1 := [.ref 45, .ref 13]) (st1 := []) (σ1 := (tw_upd (tw_upd τc5 45 4 (τc5 13 4)) 45 5 (τc5 13 5))) rfl ?_
  refine tw_rv rfl ?_
  show tw_P L xs _ 104 34 [.ref 38, .ref 6, .int (nI 10), u, u2] [] (tw_upd (tw_upd τc5 45 4 (τc5 13 4)) 45 5 (τc5 13 5)) _
  refine tw_sg 4 (i1 := 38) (ls1 := [.ref 38, .ref 6, .int (nI 10), u, u2]) (st1 := []) (σ1 := (tw_upd (tw_upd (tw_upd τc5 45 4 (τc5 13 4)) 45 5 (τc5 13 5)) 38 4 (τc5 6 4))) rfl ?_
  refine tw_rv rfl ?_
  refine ⟨rfl, fun k j hk => ?_, fun k j hk => ?_⟩
  · unfold tw_fcl at hk
    rcases hk with ⟨rfl, rfl⟩ | ⟨rfl, rfl | rfl⟩ | ⟨rfl, hj⟩ | ⟨rfl, rfl⟩ | ⟨hk1, hk2, hj⟩ | ⟨hk1, hk2, hj⟩
    · rw [tw_upd_at]; rw [hτc5b _ _ (by omega), hτc4b _ _ (by omega), hτc3b _ _ (by omega), hτc2b _ _ (by omega), tw_upd_off (by omega), tw_upd_off (by omega), hτc1b _ _ (by omega), hcp.2 _ _ (by omega)]
    · rw [tw_upd_off (by omega), tw_upd_off (by omega), tw_upd_off (by omega), hτc5b _ _ (by omega), hτc4b _ _ (by omega), hτc3b _ _ (by omega), hτc2b _ _ (by omega), tw_upd_off (by omega), tw_upd_at, hτc1b _ _ (by omega), hcp.2 _ _ (by omega)]
    · rw [tw_upd_off (by omega), tw_upd_off (by omega), tw_upd_off (by omega), hτc5b _ _ (by omega), hτc4b _ _ (by omega), hτc3b _ _ (by omega), hτc2b _ _ (by omega), tw_upd_at, hτc1b _ _ (by omega), hcp.2 _ _ (by omega)]
    · rw [tw_upd_off (by omega), tw_upd_off (by omega), tw_upd_off (by omega), hτc5b _ _ (by omega), hτc4b _ _ (by omega), hτc3b _ _ (by omega), hτc2b _ _ (by omega), tw_upd_off (by omega), tw_upd_off (by omega), hτc1a j hj, hcp.2 _ _ (by omega)]
    · rw [tw_upd_off (by omega), tw_upd_off (by omega), tw_upd_at, hτc5b _ _ (by omega), hτc4b _ _ (by omega), hτc3b _ _ (by omega), hτc2b _ _ (by omega), tw_upd_off (by omega), tw_upd_off (by omega), hτc1b _ _ (by omega), hcp.2 _ _ (by omega)]
    · rcases (show k = 14 ∨ k = 15 ∨ k = 16 ∨ k = 17 by omega) with rfl | rfl | rfl | rfl
      · rw [tw_upd_off (by omega), tw_upd_off (by omega), tw_upd_off (by omega), hτc5b _ _ (by omega), hτc4b _ _ (by omega), hτc3b _ _ (by omega), hτc2a j hj, tw_upd_off (by omega), tw_upd_off (by omega), hτc1b _ _ (by omega), hcp.2 _ _ (by omega)]
      · rw [tw_upd_off (by omega), tw_upd_off (by omega), tw_upd_off (by omega), hτc5b _ _ (by omega), hτc4b _ _ (by omega), hτc3a j hj, hτc2b _ _ (by omega), tw_upd_off (by omega), tw_upd_off (by omega), hτc1b _ _ (by omega), hcp.2 _ _ (by omega)]
      · rw [tw_upd_off (by omega), tw_upd_off (by omega), tw_upd_off (by omega), hτc5b _ _ (by omega), hτc4a j hj, hτc3b _ _ (by omega), hτc2b _ _ (by omega), tw_upd_off (by omega), tw_upd_off (by omega), hτc1b _ _ (by omega), hcp.2 _ _ (by omega)]
      · rw [tw_upd_off (by omega), tw_upd_off (by omega), tw_upd_off (by omega), hτc5a j hj, hτc4b _ _ (by omega), hτc3b _ _ (by omega), hτc2b _ _ (by omega), tw_upd_off (by omega), tw_upd_off (by omega), hτc1b _ _ (by omega), hcp.2 _ _ (by omega)]
    · obtain ⟨c, hc, hk⟩ : ∃ c, c < 10 ∧ (k = 2 * c + 18 ∨ k = 2 * c + 19) := ⟨(k - 18) / 2, by omega, by omega⟩
      rcases hk with rfl | rfl
      · rw [show 2 * c + 18 + 32 = 2 * c + 50 by omega, tw_upd_off (by omega), tw_upd_off (by omega), tw_upd_off (by omega), hτc5b _ _ (by omega), hτc4b _ _ (by omega), hτc3b _ _ (by omega), hτc2b _ _ (by omega), tw_upd_off (by omega), tw_upd_off (by omega), hτc1b _ _ (by omega)]; exact (hcp.1 c hc).2 j (by omega) (by omega)
      · rw [show 2 * c + 19 + 32 = 2 * c + 51 by omega, tw_upd_off (by omega), tw_upd_off (by omega), tw_upd_off (by omega), hτc5b _ _ (by omega), hτc4b _ _ (by omega), hτc3b _ _ (by omega), hτc2b _ _ (by omega), tw_upd_off (by omega), tw_upd_off (by omega), hτc1b _ _ (by omega)]; exact (hcp.1 c hc).1 j (by omega)
  · rw [tw_upd_off (by omega), tw_upd_off (by omega), tw_upd_off (by omega), hτc5b _ _ (by omega), hτc4b _ _ (by omega), hτc3b _ _ (by omega), hτc2b _ _ (by omega), tw_upd_off (by omega), tw_upd_off (by omega), hτc1b _ _ (by omega), hcp.2 _ _ (by omega)]
set_option maxHeartbeats 4000000 in
set_option maxRecDepth 100000 in
theorem tw_e_ccu {c : Nat} (hc : c < 10) : tw_E L xs 0 14 [.ref (2 * c + 18), .ref (2 * c + 50)] σ (fun v τ => v = none ∧ (∀ j, j < 4 → τ (2 * c + 19) j = σ (2 * c + 51) j) ∧ (∀ j, 1 ≤ j → j ≤ 3 → τ (2 * c + 18) j = σ (2 * c + 50) j) ∧ ∀ k j, ¬ k = 2 * c + 18 → ¬ k = 2 * c + 19 → τ k j = σ k j) := by
  show tw_P L xs _ 14 0 [.ref (2 * c + 18), .ref (2 * c + 50)] [] σ _
  refine tw_sg 1 (i1 := 1) (ls1 := [.ref (2 * c + 18), .ref (2 * c + 50)]) (st1 := [.ref (2 * c + 50)]) (σ1 := σ) rfl ?_
  refine tw_gf rfl (tw_cd2O hc) (tw_cd2B hc (by decide)) (v := .ref (2 * c + 51)) (tw_cd2V0 hc) ?_
  refine tw_sg 2 (i1 := 4) (ls1 := [.ref (2 * c + 18), .ref (2 * c + 50)]) (st1 := [.ref (2 * c + 18), .int (nI 0), .ref (2 * c + 51)]) (σ1 := σ) rfl ?_
  refine tw_gf rfl (tw_cdO hc) (tw_cdB hc (by decide)) (v := .ref (2 * c + 19)) (tw_cdV0 hc) ?_
  refine tw_sg 2 (i1 := 7) (ls1 := [.ref (2 * c + 18), .ref (2 * c + 50)]) (st1 := [.int (nI 4), .int (nI 0), .ref (2 * c + 19), .int (nI 0), .ref (2 * c + 51)]) (σ1 := σ) rfl ?_
  refine tw_cpP (k := (2 * c + 51)) (q := (2 * c + 19)) (N := 4) rfl (by decide) (tw_cd2S hc) (tw_cdS hc) (Or.inl rfl) (tw_cd2L hc) (tw_cdL hc) (by omega) (by decide) (by decide) (by decide) (fun τc1 hτc1a hτc1b => ?_)
  show tw_P L xs _ 14 8 [.ref (2 * c + 18), .ref (2 * c + 50)] [] τc1 _
  refine tw_sg 2 (i1 := 10) (ls1 := [.ref (2 * c + 18), .ref (2 * c + 50)]) (st1 := [.ref (2 * c + 50), .ref (2 * c + 18)]) (σ1 := τc1) rfl ?_
  refine tw_gf rfl (tw_cd2O hc) (tw_cd2B hc (by decide)) (v := .int (τc1 (2 * c + 50) 1)) (tw_cd2V1 hc) ?_
  refine tw_pf rfl (tw_cdO hc) (tw_cdB hc (by decide)) (tw_cdK1 hc) ?_
  refine tw_sg 2 (i1 := 14) (ls1 := [.ref (2 * c + 18), .ref (2 * c + 50)]) (st1 := [.ref (2 * c + 50), .ref (2 * c + 18)]) (σ1 := (tw_upd τc1 (2 * c + 18) 1 (τc1 (2 * c + 50) 1))) rfl ?_
  refine tw_gf rfl (tw_cd2O hc) (tw_cd2B hc (by decide)) (v := .int ((tw_upd τc1 (2 * c + 18) 1 (τc1 (2 * c + 50) 1)) (2 * c + 50) 2)) (tw_cd2V2 hc) ?_
  rw [show (tw_upd τc1 (2 * c + 18) 1 (τc1 (2 * c + 50) 1)) (2 * c + 50) 2 = τc1 (2 * c + 50) 2 from by repeat (first | exact rfl | exact tw_upd_at | rw [tw_upd_off (by omega)])]
  refine tw_pf rfl (tw_cdO hc) (tw_cdB hc (by decide)) (tw_cdK2 hc) ?_
  refine tw_sg 2 (i1 := 18) (ls1 := [.ref (2 * c + 18), .ref (2 * c + 50)]) (st1 := [.ref (2 * c + 50), .ref (2 * c + 18)]) (σ1 := (tw_upd (tw_upd τc1 (2 * c + 18) 1 (τc1 (2 * c + 50) 1)) (2 * c + 18) 2 (τc1 (2 * c + 50) 2))) rfl ?_
  refine tw_gf rfl (tw_cd2O hc) (tw_cd2B hc (by decide)) (v := .int ((tw_upd (tw_upd τc1 (2 * c + 18) 1 (τc1 (2 * c + 50) 1)) (2 * c + 18) 2 (τc1 (2 * c + 50) 2)) (2 * c + 50) 3)) (tw_cd2V3 hc) ?_
  rw [show (tw_upd (tw_upd τc1 (2 * c + 18) 1 (τc1 (2 * c + 50) 1)) (2 * c + 18) 2 (τc1 (2 * c + 50) 2)) (2 * c + 50) 3 = τc1 (2 * c + 50) 3 from by repeat (first | exact rfl | exact tw_upd_at | rw [tw_upd_off (by omega)])]
  refine tw_pf rfl (tw_cdO hc) (tw_cdB hc (by decide)) (tw_cdK3 hc) ?_
  refine tw_rv rfl ?_
  refine ⟨rfl, fun j hj => ?_, fun j h1 h2 => ?_, fun k j h1 h2 => ?_⟩
  · rw [tw_upd_off (by omega), tw_upd_off (by omega), tw_upd_off (by omega)]; exact hτc1a j hj
  · rcases (show j = 1 ∨ j = 2 ∨ j = 3 by omega) with rfl | rfl | rfl
    · rw [tw_upd_off (by omega), tw_upd_off (by omega), tw_upd_at]; exact hτc1b _ _ (by omega)
    · rw [tw_upd_off (by omega), tw_upd_at]; exact hτc1b _ _ (by omega)
    · rw [tw_upd_at]; exact hτc1b _ _ (by omega)
  · rw [tw_upd_off (by omega), tw_upd_off (by omega), tw_upd_off (by omega)]; exact hτc1b k j (by omega)
def tw_cpCu (σ0 σ : tw_Mem) (c : Nat) : Prop := (∀ d, d < c → (∀ j, j < 4 → σ (2 * d + 19) j = σ0 (2 * d + 51) j) ∧ ∀ j, 1 ≤ j → j ≤ 3 → σ (2 * d + 18) j = σ0 (2 * d + 50) j) ∧ ∀ k j, ¬ (18 ≤ k ∧ k < 2 * c + 18) → σ k j = σ0 k j
theorem tw_cpCu.step {σ0 σ τ : tw_Mem} {c : Nat} (hc : c < 10) (H : tw_cpCu σ0 σ c) (h : (∀ j, j < 4 → τ (2 * c + 19) j = σ (2 * c + 51) j) ∧ (∀ j, 1 ≤ j → j ≤ 3 → τ (2 * c + 18) j = σ (2 * c + 50) j) ∧ ∀ k j, ¬ k = 2 * c + 18 → ¬ k = 2 * c + 19 → τ k j = σ k j) : tw_cpCu σ0 τ (c + 1) := by
  obtain ⟨h1, h2, h3⟩ := h
  refine ⟨fun d hd => ⟨fun j hj => ?_, fun j hj1 hj2 => ?_⟩, fun k j g => ?_⟩
  · by_cases z : d = c
    · rw [z, h1 j hj]; exact H.2 _ _ (by omega)
    · rw [h3 _ _ (by omega) (by omega)]; exact (H.1 d (by omega)).1 j hj
  · by_cases z : d = c
    · rw [z, h2 j hj1 hj2]; exact H.2 _ _ (by omega)
    · rw [h3 _ _ (by omega) (by omega)]; exact (H.1 d (by omega)).2 j hj1 hj2
  · rw [h3 _ _ (by omega) (by omega)]; exact H.2 k j (by omega)
set_option maxHeartbeats 4000000 in
set_option maxRecDepth 100000 in
theorem tw_l_cpCu {L : Nat} {xs : Nat → Int32} {Q : Option Value → tw_Mem → Prop} {σ0 : tw_Mem} : ∀ (f : Nat) (c : Nat) (σ : tw_Mem) (u u2 : Value), c + f = 10 → (tw_cpCu σ0 σ c ∧ ∀ (τ : tw_Mem) (u u2 : Value), tw_cpCu σ0 τ 10 → tw_P L xs 3 104 24 [.ref 6, .ref 38, .int (nI 10), u, u2] [] τ Q) → tw_P L xs 3 104 2 [.ref 6, .ref 38, .int (nI c), u, u2] [] σ Q := by
  intro f
  induction f with
  | zero =>
    intro c σ u u2 hf hQ
    refine tw_sg 2 (i1 := 4) (ls1 := [.ref 6, .ref 38, .int (nI c), u, u2]) (st1 := [.int (nI 10), .int (nI c)]) (σ1 := σ) rfl ?_
    refine tw_biT (c := .ge) rfl (by rw [tw_cge, tw_nle (by omega) (by omega)] <;> omega) ?_
    show tw_P L xs _ 104 24 [.ref 6, .ref 38, .int (nI c), u, u2] [] σ _
    have hf : c = 10 := hf
    subst hf
    exact hQ.2 σ _ _ hQ.1
  | succ f ih =>
    intro c σ u u2 hf hQ
    refine tw_sg 2 (i1 := 4) (ls1 := [.ref 6, .ref 38, .int (nI c), u, u2]) (st1 := [.int (nI 10), .int (nI c)]) (σ1 := σ) rfl ?_
    refine tw_biF (c := .ge) rfl (by rw [tw_cge', tw_nle (by omega) (by omega)] <;> omega) ?_
    show tw_P L xs _ 104 5 [.ref 6, .ref 38, .int (nI c), u, u2] [] σ _
    refine tw_sg 3 (i1 := 8) (ls1 := [.ref 6, .ref 38, .int (nI c), u, u2]) (st1 := [.int (nI c), .ref 7]) (σ1 := σ) rfl ?_
    refine tw_aal (k := 7) (j := c) (len := 10) (t := (2 * c + 18)) rfl rfl rfl rfl (by omega) (by decide) (tw_cdA (by omega)) ?_
    refine tw_sg 4 (i1 := 13) (ls1 := [.ref 6, .ref 38, .int (nI c), .ref (2 * c + 18), u2]) (st1 := [.int (nI c), .ref 39]) (σ1 := σ) rfl ?_
    refine tw_aal (k := 39) (j := c) (len := 10) (t := (2 * c + 50)) rfl rfl rfl rfl (by omega) (by decide) (tw_cd2A (by omega)) ?_
    refine tw_sg 7 (i1 := 21) (ls1 := [.ref 6, .ref 38, .int (nI c), .ref (2 * c + 18), .ref (2 * c + 50)]) (st1 := [.ref (2 * c + 50), .ref (2 * c + 18)]) (σ1 := σ) rfl ?_
    refine tw_cl1 rfl (tw_inv_ok (y := 14) (b := 1) (st := [.ref (2 * c + 50), .ref (2 * c + 18)]) (k := (2 * c + 18)) (r := []) rfl rfl (tw_cdO (by omega))) (by decide) (tw_e_ccu (c := c) (by omega)) ?_
    rintro _ σ1 ⟨rfl, hcc⟩
    show tw_P L xs _ 104 22 [.ref 6, .ref 38, .int (nI c), .ref (2 * c + 18), .ref (2 * c + 50)] [] σ1 _
    refine tw_sgn 2 (i1 := 2) (ls0 := [.ref 6, .ref 38, .int (nI c + nI 1), .ref (2 * c + 18), .ref (2 * c + 50)]) (st0 := []) (σ0 := σ1) (ls1 := [.ref 6, .ref 38, .int (nI (c + 1)), .ref (2 * c + 18), .ref (2 * c + 50)]) (st1 := []) (σ1 := σ1) rfl (by simp only [tw_nadd, tw_nmul]) (rfl) (rfl) ?_
    exact ih (c + 1) σ1 _ _ (by omega) ⟨hQ.1.step (by omega) hcc, hQ.2⟩
set_option maxHeartbeats 4000000 in
set_option maxRecDepth 100000 in
theorem tw_e_cpLu (hch : tw_iChars σ 46) : tw_E L xs 3 104 [.ref 6, .ref 38] σ (fun v τ => v = none ∧ (∀ k j, tw_fcl k j → τ k j = σ (k + 32) j) ∧ ∀ k j, ¬ (6 ≤ k ∧ k ≤ 37) → τ k j = σ k j) := by
  show tw_P L xs _ 104 0 [.ref 6, .ref 38, tw_U, tw_U, tw_U] [] σ _
  refine tw_sg 2 (i1 := 2) (ls1 := [.ref 6, .ref 38, .int (nI 0), tw_U, tw_U]) (st1 := []) (σ1 := σ) rfl ?_
  refine tw_l_cpCu 10 0 σ _ _ (by omega) ⟨⟨fun d hd => by omega, fun _ _ _ => rfl⟩, fun τ u u2 hcp => ?_⟩
  show tw_P L xs _ 104 24 [.ref 6, .ref 38, .int (nI 10), u, u2] [] τ _
  refine tw_sg 4 (i1 := 28) (ls1 := [.ref 6, .ref 38, .int (nI 10), u, u2]) (st1 := [.ref 41, .ref 9]) (σ1 := τ) rfl ?_
  refine tw_cl0 2 rfl (rfl) (by decide) ?_
  show tw_P L xs _ 36 0 [.ref 9, .ref 41] [] τ _
  refine tw_sg 7 (i1 := 7) (ls1 := [.ref 9, .ref 41]) (st1 := [.int (nI 2000), .int (nI 0), .ref 10, .int (nI 0), .ref 42]) (σ1 := τ) rfl ?_
  refine tw_cpP (k := 42) (q := 10) (N := 2000) rfl (by decide) (rfl) (rfl) (Or.inl rfl) (rfl) (rfl) (by omega) (by decide) (by decide) (by decide) (fun τc1 hτc1a hτc1b => ?_)
  show tw_P L xs _ 36 8 [.ref 9, .ref 41] [] τc1 _
  refine tw_sg 8 (i1 := 16) (ls1 := [.ref 9, .ref 41]) (st1 := []) (σ1 := (tw_upd (tw_upd τc1 9 3 (τc1 41 3)) 9 4 (τc1 41 4))) rfl ?_
  refine tw_rv rfl ?_
  show tw_P L xs _ 104 29 [.ref 6, .ref 38, .int (nI 10), u, u2] [] (tw_upd (tw_upd τc1 9 3 (τc1 41 3)) 9 4 (τc1 41 4)) _
  refine tw_sg 4 (i1 := 33) (ls1 := [.ref 6, .ref 38, .int (nI 10), u, u2]) (st1 := [.ref 45, .ref 13]) (σ1 := (tw_upd (tw_upd τc1 9 3 (τc1 41 3)) 9 4 (τc1 41 4))) rfl ?_
  refine tw_cl0 2 rfl (rfl) (by decide) ?_
  show tw_P L xs _ 60 0 [.ref 13, .ref 45] [] (tw_upd (tw_upd τc1 9 3 (τc1 41 3)) 9 4 (τc1 41 4)) _
  refine tw_sg 7 (i1 := 7) (ls1 := [.ref 13, .ref 45]) (st1 := [.int (nI 80), .int (nI 0), .ref 14, .int (nI 0), .ref 46]) (σ1 := (tw_upd (tw_upd τc1 9 3 (τc1 41 3)) 9 4 (τc1 41 4))) rfl ?_
  refine tw_cpP (k := 46) (q := 14) (N := 80) rfl (by decide) (rfl) (rfl) (Or.inr ⟨rfl, fun j hj => by obtain ⟨q, hq, e⟩ := hch j hj; rw [tw_upd_off (by omega), tw_upd_off (by omega), hτc1b _ _ (by omega), hcp.2 _ _ (by omega), e]; exact tw_chb hq⟩) (rfl) (rfl) (by omega) (by decide) (by decide) (by decide) (fun τc2 hτc2a hτc2b => ?_)
  show tw_P L xs _ 60 8 [.ref 13, .ref 45] [] τc2 _
  refine tw_sg 7 (i1 := 15) (ls1 := [.ref 13, .ref 45]) (st1 := [.int (nI 80), .int (nI 0), .ref 15, .int (nI 0), .ref 47]) (σ1 := τc2) rfl ?_
  refine tw_cpP (k := 47) (q := 15) (N := 80) rfl (by decide) (rfl) (rfl) (Or.inl rfl) (rfl) (rfl) (by omega) (by decide) (by decide) (by decide) (fun τc3 hτc3a hτc3b => ?_)
  show tw_P L xs _ 60 16 [.ref 13, .ref 45] [] τc3 _
  refine tw_sg 7 (i1 := 23) (ls1 := [.ref 13, .ref 45]) (st1 := [.int (nI 80), .int (nI 0), .ref 16, .int (nI 0), .ref 48]) (σ1 := τc3) rfl ?_
  refine tw_cpP (k := 48) (q := 16) (N := 80) rfl (by decide) (rfl) (rfl) (Or.inl rfl) (rfl) (rfl) (by omega) (by decide) (by decide) (by decide) (fun τc4 hτc4a hτc4b => ?_)
  show tw_P L xs _ 60 24 [.ref 13, .ref 45] [] τc4 _
  refine tw_sg 7 (i1 := 31) (ls1 := [.ref 13, .ref 45]) (st1 := [.int (nI 80), .int (nI 0), .ref 17, .int (nI 0), .ref 49]) (σ1 := τc4) rfl ?_
  refine tw_cpP (k := 49) (q := 17) (N := 80) rfl (by decide) (rfl) (rfl) (Or.inl rfl) (rfl) (rfl) (by omega) (by decide) (by decide) (by decide) (fun τc5 hτc5a hτc5b => ?_)
  show tw_P L xs _ 60 32 [.ref 13, .ref 45] [] τc5 _
  refine tw_sg 8 (i1 := 40) (ls1 := [.ref 13, .ref 45]) (st1 := []) (σ1 := (tw_upd (tw_upd τc5 13 4 (τc5 45 4)) 13 5 (τc5 45 5))) rfl ?_
  refine tw_rv rfl ?_
  show tw_P L xs _ 104 34 [.ref 6, .ref 38, .int (nI 10), u, u2] [] (tw_upd (tw_upd τc5 13 4 (τc5 45 4)) 13 5 (τc5 45 5)) _
  refine tw_sg 4 (i1 := 38) (ls1 := [.ref 6, .ref 38, .int (nI 10), u, u2]) (st1 := []) (σ1 := (tw_upd (tw_upd (tw_upd τc5 13 4 (τc5 45 4)) 13 5 (τc5 45 5)) 6 4 (τc5 38 4))) rfl ?_
  refine tw_rv rfl ?_
  refine ⟨rfl, fun k j hk => ?_, fun k j hk => ?_⟩
  · unfold tw_fcl at hk
    rcases hk with ⟨rfl, rfl⟩ | ⟨rfl, rfl | rfl⟩ | ⟨rfl, hj⟩ | ⟨rfl, rfl⟩ | ⟨hk1, hk2, hj⟩ | ⟨hk1, hk2, hj⟩
    · rw [tw_upd_at]; rw [hτc5b _ _ (by omega), hτc4b _ _ (by omega), hτc3b _ _ (by omega), hτc2b _ _ (by omega), tw_upd_off (by omega), tw_upd_off (by omega), hτc1b _ _ (by omega), hcp.2 _ _ (by omega)]
    · rw [tw_upd_off (by omega), tw_upd_off (by omega), tw_upd_off (by omega), hτc5b _ _ (by omega), hτc4b _ _ (by omega), hτc3b _ _ (by omega), hτc2b _ _ (by omega), tw_upd_off (by omega), tw_upd_at, hτc1b _ _ (by omega), hcp.2 _ _ (by omega)]
    · rw [tw_upd_off (by omega), tw_upd_off (by omega), tw_upd_off (by omega), hτc5b _ _ (by omega), hτc4b _ _ (by omega), hτc3b _ _ (by omega), hτc2b _ _ (by omega), tw_upd_at, hτc1b _ _ (by omega), hcp.2 _ _ (by omega)]
    · rw [tw_upd_off (by omega), tw_upd_off (by omega), tw_upd_off (by omega), hτc5b _ _ (by omega), hτc4b _ _ (by omega), hτc3b _ _ (by omega), hτc2b _ _ (by omega), tw_upd_off (by omega), tw_upd_off (by omega), hτc1a j hj, hcp.2 _ _ (by omega)]
    · rw [tw_upd_off (by omega), tw_upd_off (by omega), tw_upd_at, hτc5b _ _ (by omega), hτc4b _ _ (by omega), hτc3b _ _ (by omega), hτc2b _ _ (by omega), tw_upd_off (by omega), tw_upd_off (by omega), hτc1b _ _ (by omega), hcp.2 _ _ (by omega)]
    · rcases (show k = 14 ∨ k = 15 ∨ k = 16 ∨ k = 17 by omega) with rfl | rfl | rfl | rfl
      · rw [tw_upd_off (by omega), tw_upd_off (by omega), tw_upd_off (by omega), hτc5b _ _ (by omega), hτc4b _ _ (by omega), hτc3b _ _ (by omega), hτc2a j hj, tw_upd_off (by omega), tw_upd_off (by omega), hτc1b _ _ (by omega), hcp.2 _ _ (by omega)]
      · rw [tw_upd_off (by omega), tw_upd_off (by omega), tw_upd_off (by omega), hτc5b _ _ (by omega), hτc4b _ _ (by omega), hτc3a j hj, hτc2b _ _ (by omega), tw_upd_off (by omega), tw_upd_off (by omega), hτc1b _ _ (by omega), hcp.2 _ _ (by omega)]
      · rw [tw_upd_off (by omega), tw_upd_off (by omega), tw_upd_off (by omega), hτc5b _ _ (by omega), hτc4a j hj, hτc3b _ _ (by omega), hτc2b _ _ (by omega), tw_upd_off (by omega), tw_upd_off (by omega), hτc1b _ _ (by omega), hcp.2 _ _ (by omega)]
      · rw [tw_upd_off (by omega), tw_upd_off (by omega), tw_upd_off (by omega), hτc5a j hj, hτc4b _ _ (by omega), hτc3b _ _ (by omega), hτc2b _ _ (by omega), tw_upd_off (by omega), tw_upd_off (by omega), hτc1b _ _ (by omega), hcp.2 _ _ (by omega)]
    · obtain ⟨c, hc, hk⟩ : ∃ c, c < 10 ∧ (k = 2 * c + 18 ∨ k = 2 * c + 19) := ⟨(k - 18) / 2, by omega, by omega⟩
      rcases hk with rfl | rfl
      · rw [show 2 * c + 18 + 32 = 2 * c + 50 by omega, tw_upd_off (by omega), tw_upd_off (by omega), tw_upd_off (by omega), hτc5b _ _ (by omega), hτc4b _ _ (by omega), hτc3b _ _ (by omega), hτc2b _ _ (by omega), tw_upd_off (by omega), tw_upd_off (by omega), hτc1b _ _ (by omega)]; exact (hcp.1 c hc).2 j (by omega) (by omega)
      · rw [show 2 * c + 19 + 32 = 2 * c + 51 by omega, tw_upd_off (by omega), tw_upd_off (by omega), tw_upd_off (by omega), hτc5b _ _ (by omega), hτc4b _ _ (by omega), hτc3b _ _ (by omega), hτc2b _ _ (by omega), tw_upd_off (by omega), tw_upd_off (by omega), hτc1b _ _ (by omega)]; exact (hcp.1 c hc).1 j (by omega)
  · rw [tw_upd_off (by omega), tw_upd_off (by omega), tw_upd_off (by omega), hτc5b _ _ (by omega), hτc4b _ _ (by omega), hτc3b _ _ (by omega), hτc2b _ _ (by omega), tw_upd_off (by omega), tw_upd_off (by omega), hτc1b _ _ (by omega), hcp.2 _ _ (by omega)]
end tw_s50
