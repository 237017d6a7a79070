/-! copies of rows, the change of mode, all rules together; the law's walk out of a run of the table machine -/
section tw_I
variable {D : va_G} {aC : Nat → ClassId} {z b L : Nat} {xs : Nat → Int32} {l : Launch} {md md1 : tw_Md} {σ σ1 : tw_Mem} {d d1 m pc ln i a bb y mc ms : Nat} {ls st as rest restC st0 : List Value} {zz : Int32} {ts : List Nat} {v : Option Value} {r : tw_Ret}
theorem tw_cpy_ne {k q k' : Nat} {sp dp n : Nat} (h : k' ≠ q) (j : Nat) : tw_cpy σ k q sp dp n k' j = σ k' j := by
  unfold tw_cpy
  rw [if_neg (fun g => h g.1)]
theorem tw_s_copy {idx : Nat} {k q : Nat} {sp dp n : Int32} (he : tw_fetch m i = some (pc, ln, .invokestatic idx, 998, bb, zz, ts)) (h2 : rest.length ≤ 8) (h3 : tw_live k none = true) (h4 : tw_live q none = true) (h5 : (tw_sh q).1 = (tw_sh k).1) (h6 : 20 ≤ (tw_sh k).1) (h7 : (tw_sh k).1 ≤ 23) (h8 : k ≠ q)
    (h9 : 0 ≤ sp) (h10 : 0 ≤ dp) (h11 : 0 ≤ n) (h12 : sp.toNatClampNeg + n.toNatClampNeg ≤ (tw_sh k).2) (h13 : dp.toNatClampNeg + n.toNatClampNeg ≤ (tw_sh q).2) (h14 : (tw_sh k).1 = 20 ∨ (tw_sh k).1 = 22 ∧ ∀ j, j < n.toNatClampNeg → 0 ≤ σ k (sp.toNatClampNeg + j) ∧ σ k (sp.toNatClampNeg + j) ≤ 65535)
    (ih : tw_Sd l D aC z b L xs d m (i + 1, ls, rest, none, tw_cpy σ k q sp.toNatClampNeg dp.toNatClampNeg n.toNatClampNeg) r) : tw_Sd l D aC z b L xs d m (i, ls, .int n :: .int dp :: .ref q :: .int sp :: .ref k :: rest, none, σ) r := by
  obtain ⟨rv, rm, rσ⟩ := r
  intro hm hc
  have hk := tw_okE_at hm i _ he
  have h0 := hk
  unfold tw_chkI at h0
  simp only [Bool.and_eq_true, decide_eq_true_eq, show Nat.beq 998 998 = true from rfl, if_true] at h0
  obtain ⟨w1, ⟨⟨w2, w3⟩, ⟨⟨⟨w4, w5⟩, w6⟩, w7⟩⟩⟩ := h0
  have w2 := Nat.eq_of_beq_eq_true w2
  subst w2
  obtain ⟨b1, b2, b3, b4, b5⟩ := ih hm hc
  refine ⟨b1, b2, b3, b4, ?_⟩
  intro ad p e s mi args below meth c H locs cells slots Rm Q lsC pc1 hC hH hL hN hS hpc hf hl hce hsl kk
  obtain ⟨e1, he1, rfl⟩ := hpc
  rw [he] at he1
  cases he1
  dsimp only at hS hL hN hH b5
  have hr : ∀ u ∈ rest, tw_okv none u := tw_okt (tw_okt (tw_okt (tw_okt (tw_okt hS))))
  have hcat := tw_sum1 (ad := ad) hr
  have hatk := tw_ws_at (ad := ad) (aC := aC) (σ := σ) h3
  have hatq := tw_ws_at (ad := ad) (aC := aC) (σ := σ) h4
  rw [tw_cellE_A rfl h6 (by omega)] at hatk
  rw [tw_cellE_A h5 h6 (by omega)] at hatq
  have e2 : (tw_ws none ad aC σ).set (q - 1) (ad q, .inl (aC ((tw_sh k).1 - 20), (tw_sh q).2, .inl (va_cpy (fun j => σ k j) (fun j => σ q j) sp.toNatClampNeg dp.toNatClampNeg n.toNatClampNeg))) = tw_ws none ad aC (tw_cpy σ k q sp.toNatClampNeg dp.toNatClampNeg n.toNatClampNeg) := by
    have e1 : (tw_E_of (.inl (aC ((tw_sh k).1 - 20), (tw_sh q).2, .inl (va_cpy (fun j => σ k j) (fun j => σ q j) sp.toNatClampNeg dp.toNatClampNeg n.toNatClampNeg)))) = tw_cellE none ad aC (tw_cpy σ k q sp.toNatClampNeg dp.toNatClampNeg n.toNatClampNeg) q := by
      rw [tw_cellE_A h5 h6 (by omega)]
      unfold tw_E_of
      congr 4
      funext j
      unfold va_cpy tw_cpy
      by_cases hj : dp.toNatClampNeg ≤ j ∧ j < dp.toNatClampNeg + n.toNatClampNeg
      · rw [if_pos hj, if_pos ⟨rfl, hj.1, hj.2⟩]
      · rw [if_neg hj, if_neg (fun g => hj g.2)]
    unfold tw_E_of at e1
    rw [e1]
    exact tw_ws_set h4 (fun k' _ _ hne => tw_cellE_congr (fun j' => tw_cpy_ne hne j'))
  have hfw : nativeFrameWords "java/lang/System" "arraycopy" 5 + 11 ≤ 40 := by decide +kernel
  have nn : ∀ u : Int32, 0 ≤ u → ¬ u < 0 := fun u h g => by
    rw [Int32.le_iff_toInt_le] at h
    rw [Int32.lt_iff_toInt_lt] at g
    omega
  have hgo : ∀ (t0 : Nat) (ty : Jvm.ClassFile.FieldType), (tw_tys aC)[t0]? = some (aC ((tw_sh k).1 - 20), ty) → refKind ty = false → (∀ j, j < n.toNatClampNeg → fits ty (.int (σ k (sp.toNatClampNeg + j))) = true) → W p l e Rm s mi args below meth c H locs cells slots Q (F0 mi pc lsC ((.int n :: .int dp :: .ref q :: .int sp :: .ref k :: rest : List Value).map (tw_rel ad))) := by
    intro t0 ty ht hprim hfit
    refine va_copyi (f := fun j => σ k j) (g := fun j => σ q j) hC.1 hC.2.1 (hC.2.2.1.trans (hN.symm.trans hL.1.symm)) hC.own (hC.hts _ (tw_w_mem w4)) (hC.hts _ (tw_w_mem w5)) (hC.hts _ (tw_w_mem w6)) (hC.hts _ (tw_w_mem w7)) hC.K hH.2.1 hH.2.2.1 hH.2.2.2 (k - 1) (q - 1) t0 t0 hatk hatq ht ht hprim (nn _ h9) (nn _ h10) (nn _ h11) h12 h13 hfit (by omega) (by omega) w1 (fun H1 locs1 hP1 hD1 hS1 => ?_)
    rw [e2] at hP1 hD1
    refine b5 ad p e s mi args below meth c H1 locs1 cells slots Rm Q lsC _ hC ⟨hH.1, hP1, hD1, hS1⟩ hL hN hr (tw_nx_next w3) hf hl hce hsl (fun ad2 H2 locs2 ls2 pc2 k1 k2 k3 k4 => ?_)
    exact kk ad2 H2 locs2 ls2 pc2 k1 k2 k3 k4
  rcases h14 with h14 | ⟨h14, h15⟩
  · exact hgo 0 .int (by rw [h14]; rfl) rfl (fun _ _ => rfl)
  · refine hgo 2 .char (by rw [h14]; rfl) rfl (fun j hj => ?_)
    have h16 := h15 j hj
    show (decide _ && decide _) = true
    rw [Bool.and_eq_true, decide_eq_true_eq, decide_eq_true_eq]
    exact h16
set_option maxRecDepth 100000 in
theorem tw_kd_le : (List.range (tw_NC + 1)).all (fun k => (tw_kdL.getD k []).all (fun q => Nat.ble q.2 tw_NC && Nat.ble q.1 2)) = true := by decide +kernel
theorem tw_kd_bd {k j : Nat} (h : k ≤ tw_NC) : (tw_kd k j).2 ≤ tw_NC ∧ (tw_kd k j).1 ≤ 2 := by
  unfold tw_kd
  rw [List.getD_eq_getElem?_getD]
  cases hj : (tw_kdL.getD k [])[j]? with
  | none => exact ⟨Nat.zero_le _, Nat.zero_le _⟩
  | some q =>
    have h1 := List.all_eq_true.mp (List.all_eq_true.mp tw_kd_le k (List.mem_range.mpr (by omega))) q (List.mem_of_getElem? hj)
    rw [Bool.and_eq_true, Nat.ble_eq, Nat.ble_eq] at h1
    exact h1
theorem tw_full_val {k j : Nat} (hf : tw_full σ) (h : k ≤ tw_NC) : tw_val none σ k j = tw_val (some tw_NC) σ k j := by
  have hb := (tw_kd_bd (j := j) h).1
  have hq := hf k h j
  unfold tw_val
  cases ht : tw_kd k j with
  | mk t1 t2 =>
    rw [ht] at hb hq
    cases t1 with
    | zero => rfl
    | succ t1 =>
      have hb2 : ¬ tw_NC < t2 := Nat.not_lt.mpr hb
      by_cases h0 : t1 = 0
      · subst h0
        simp only [if_true, if_neg hb2, if_neg (hq rfl)]
      · simp only [if_neg h0, if_neg hb2]
theorem tw_s_full (hf : tw_full σ) (ih : tw_Sd l D aC z b L xs d m (i, ls, st, none, σ) r) : tw_Sd l D aC z b L xs d m (i, ls, st, some tw_NC, σ) r := by
  obtain ⟨rv, rm, rσ⟩ := r
  intro hm hc
  obtain ⟨b1, b2, b3, b4, b5⟩ := ih hm (Nat.le_refl _)
  refine ⟨b1, b2, b3, (fun q => by cases q), ?_⟩
  intro ad p e s mi args below meth c H locs cells slots Rm Q lsC pc1 hC hH hL hN hS hpc hf1 hl hce hsl kk
  have ew : tw_ws none ad aC σ = tw_ws (some tw_NC) ad aC σ := by
    unfold tw_ws
    show (List.range tw_NC).map _ = (List.range tw_NC).map _
    refine List.map_congr_left fun j hj => ?_
    have hj := List.mem_range.mp hj
    have hv : ∀ j', tw_val none σ (j + 1) j' = tw_val (some tw_NC) σ (j + 1) j' := fun j' => tw_full_val hf (by omega)
    unfold tw_cellE
    simp only [hv]
  have ok : ∀ u, tw_okv (some tw_NC) u → tw_okv none u := fun u hu => by
    cases u <;> first | exact hu | trivial
  refine b5 ad p e s mi args below meth c H locs cells slots Rm Q lsC pc1 hC ⟨hH.1, by rw [ew]; exact hH.2.1, by rw [ew]; exact hH.2.2.1, hH.2.2.2⟩ ⟨hL.1, hL.2.1, fun j u hu => ⟨ok u (hL.2.2 j u hu).1, (hL.2.2 j u hu).2⟩⟩ hN (fun u hu => ok u (hS u hu)) hpc hf1 hl hce hsl (fun ad2 H2 locs2 ls2 pc2 k1 k2 k3 k4 => ?_)
  exact kk ad2 H2 locs2 ls2 pc2 (by rw [show ad2 = ad from k1]; exact tw_agr_rf) k2 k3 k4
/-- SOUND: what the table machine's run comes to -/
theorem tw_sound {d m : Nat} {g : tw_Cfg} {r : tw_Ret} (h : tw_R L xs d m g r) : tw_Sd l D aC z b L xs d m g r := by
  refine h (tw_Sd l D aC z b L xs) ⟨?_, ?_, ?_, ?_, ?_⟩
  · intro d m i ls st md σ e g r h1 h2 h3
    exact tw_s_step h1 h2 h3
  · intro d m i ls st md σ e v h1 h2
    exact tw_s_ret h1 h2
  · intro d d1 m i ls st md σ e y as rest v md1 σ1 r h1 h2 h3 h4 h5
    exact tw_s_call h1 h2 h3 h4 h5
  · intro d m i ls rest σ pc ln idx b0 z0 ts k q sp dp n r h1 h2 h3 h4 h5 h6 h7 h8 h9 h10 h11 h12 h13 h14 h15
    exact tw_s_copy h1 h2 h3 h4 h5 h6 h7 h8 h9 h10 h11 h12 h13 h14 h15
  · intro d m i ls st σ r h1 h2
    exact tw_s_full h1 h2
end tw_I
