/-! every instruction, the arrays and what is made; then all of them together -/
section tw_E2
variable {D : va_G} {aC : Nat → ClassId} {z b L : Nat} {xs : Nat → Int32} {l : Launch} {md : tw_Md} {σ : tw_Mem} {m pc ln i a bb : Nat} {ls st : List Value} {zz : Int32} {ts : List Nat} {g : tw_Cfg}
theorem tw_x_iaload (hc : tw_cn md ≤ tw_NC) (hk : tw_chkI m i (pc, ln, .iaload, a, bb, zz, ts) = true) (hs : tw_step L xs .iaload a bb zz ts i ls st md σ = some (.inl g)) : tw_Adv l D aC z b L xs m pc ls st md σ g := by
  obtain ⟨hd, hn⟩ := tw_ck1 hk
  obtain ⟨j, k, r, rfl, h⟩ := tw_pir_inv hs
  split at h
  · rename_i h0
    have h0 := Nat.eq_of_beq_eq_true h0
    subst h0
    split at h
    · rename_i h1
      simp only [Bool.and_eq_true, Bool.not_eq_true', decide_eq_false_iff_not, Nat.blt_eq] at h1
      cases h
      exact (tw_a_sld hd hn (fun q => q.elim h1.1 (fun q => by omega))).adv hc
    · cases h
  · split at h
    · rename_i h1
      cases h
      exact (tw_a_iald hd hn h1).adv hc
    · cases h
theorem tw_x_baload (hc : tw_cn md ≤ tw_NC) (hk : tw_chkI m i (pc, ln, .baload, a, bb, zz, ts) = true) (hs : tw_step L xs .baload a bb zz ts i ls st md σ = some (.inl g)) : tw_Adv l D aC z b L xs m pc ls st md σ g := by
  obtain ⟨hd, hn⟩ := tw_ck1 hk
  obtain ⟨j, k, r, rfl, h⟩ := tw_pir_inv hs
  split at h
  · rename_i h1
    rw [Bool.or_eq_true] at h1
    cases h
    rcases h1 with h1 | h1
    · exact (tw_a_bald hd hn h1).adv hc
    · exact (tw_a_zald hd hn h1).adv hc
  · cases h
theorem tw_x_caload (hc : tw_cn md ≤ tw_NC) (hk : tw_chkI m i (pc, ln, .caload, a, bb, zz, ts) = true) (hs : tw_step L xs .caload a bb zz ts i ls st md σ = some (.inl g)) : tw_Adv l D aC z b L xs m pc ls st md σ g := by
  obtain ⟨hd, hn⟩ := tw_ck1 hk
  obtain ⟨j, k, r, rfl, h⟩ := tw_pir_inv hs
  split at h
  · rename_i h1
    cases h
    exact (tw_a_cald hd hn h1).adv hc
  · cases h
theorem tw_x_aaload (hc : tw_cn md ≤ tw_NC) (hk : tw_chkI m i (pc, ln, .aaload, a, bb, zz, ts) = true) (hs : tw_step L xs .aaload a bb zz ts i ls st md σ = some (.inl g)) : tw_Adv l D aC z b L xs m pc ls st md σ g := by
  obtain ⟨hd, hn⟩ := tw_ck1 hk
  obtain ⟨j, k, r, rfl, h⟩ := tw_pir_inv hs
  split at h
  · rename_i h1
    cases h
    exact (tw_a_aald hc hd hn h1).adv hc
  · cases h
theorem tw_x_iastore (hc : tw_cn md ≤ tw_NC) (hk : tw_chkI m i (pc, ln, .iastore, a, bb, zz, ts) = true) (hs : tw_step L xs .iastore a bb zz ts i ls st md σ = some (.inl g)) : tw_Adv l D aC z b L xs m pc ls st md σ g := by
  obtain ⟨hd, hn⟩ := tw_ck1 hk
  obtain ⟨x, j, k, r, rfl, h⟩ := tw_piir_inv hs
  split at h
  · rename_i h1
    cases h
    exact (tw_a_iast hd hn h1).adv hc
  · cases h
theorem tw_x_castore (hc : tw_cn md ≤ tw_NC) (hk : tw_chkI m i (pc, ln, .castore, a, bb, zz, ts) = true) (hs : tw_step L xs .castore a bb zz ts i ls st md σ = some (.inl g)) : tw_Adv l D aC z b L xs m pc ls st md σ g := by
  obtain ⟨hd, hn⟩ := tw_ck1 hk
  obtain ⟨x, j, k, r, rfl, h⟩ := tw_piir_inv hs
  split at h
  · rename_i h1
    cases h
    exact (tw_a_cast hd hn h1).adv hc
  · cases h
theorem tw_x_bastore (hc : tw_cn md ≤ tw_NC) (hk : tw_chkI m i (pc, ln, .bastore, a, bb, zz, ts) = true) (hs : tw_step L xs .bastore a bb zz ts i ls st md σ = some (.inl g)) : tw_Adv l D aC z b L xs m pc ls st md σ g := by
  obtain ⟨hd, hn⟩ := tw_ck1 hk
  obtain ⟨x, j, k, r, rfl, h⟩ := tw_piir_inv hs
  split at h
  · rename_i h1
    cases h
    exact (tw_a_bast hd hn h1).adv hc
  · split at h
    · rename_i h1
      cases h
      exact (tw_a_zast hd hn h1).adv hc
    · cases h
theorem tw_x_aastore (hc : tw_cn md ≤ tw_NC) (hk : tw_chkI m i (pc, ln, .aastore, a, bb, zz, ts) = true) (hs : tw_step L xs .aastore a bb zz ts i ls st md σ = some (.inl g)) : tw_Adv l D aC z b L xs m pc ls st md σ g := by
  obtain ⟨hd, hn⟩ := tw_ck1 hk
  have hs1 : (match st with
    | .ref q :: .int j :: .ref k :: r => if tw_isA k 24 md j && tw_isO q 0 md && Nat.beq (tw_kd k j.toNatClampNeg).1 1 && Nat.beq (tw_kd k j.toNatClampNeg).2 q && md.isSome then tw_go (i + 1) ls r md (tw_upd σ k j.toNatClampNeg 1) else none
    | _ => none) = some (.inl g) := hs
  split at hs1
  · split at hs1
    · rename_i q j k r h1
      simp only [Bool.and_eq_true] at h1
      obtain ⟨⟨⟨⟨g1, g2⟩, g3⟩, g4⟩, g5⟩ := h1
      cases hs1
      exact (tw_a_aast hc hd hn g1 g2 (Nat.eq_of_beq_eq_true g3) (Nat.eq_of_beq_eq_true g4) g5).adv hc
    · cases hs1
  · cases hs1
theorem tw_x_alen (hc : tw_cn md ≤ tw_NC) (hk : tw_chkI m i (pc, ln, .arraylength, a, bb, zz, ts) = true) (hs : tw_step L xs .arraylength a bb zz ts i ls st md σ = some (.inl g)) : tw_Adv l D aC z b L xs m pc ls st md σ g := by
  obtain ⟨hd, hn⟩ := tw_ck1 hk
  obtain ⟨k, r, rfl, h⟩ := tw_pr_inv hs
  split at h
  · rename_i h0
    have h0 := Nat.eq_of_beq_eq_true h0
    subst h0
    cases h
    exact (tw_a_slen hd hn).adv hc
  · split at h
    · rename_i h1
      rw [Bool.and_eq_true, Nat.ble_eq] at h1
      cases h
      exact (tw_a_alen hc hd hn h1.1 h1.2).adv hc
    · cases h
theorem tw_x_new {q : Nat} (hc : tw_cn md ≤ tw_NC) (hk : tw_chkI m i (pc, ln, (.new q), a, bb, zz, ts) = true) (hs : tw_step L xs (.new q) a bb zz ts i ls st md σ = some (.inl g)) : tw_Adv l D aC z b L xs m pc ls st md σ g := by
  have h0 := hk
  unfold tw_chkI at h0
  simp only [Bool.and_eq_true, decide_eq_true_eq, Nat.blt_eq] at h0
  obtain ⟨hd, ⟨⟨⟨⟨⟨hl, hn⟩, h1⟩, h2⟩, h3⟩, h4⟩⟩ := h0
  have e := Nat.eq_of_beq_eq_true hl
  subst e
  have hn := tw_nx_next hn
  cases md with
  | none => cases hs
  | some n =>
    have hs1 : (if Nat.blt n tw_NC && Nat.beq (tw_sh (n + 1)).1 a then tw_go (i + 1) ls (.ref (n + 1) :: st) (some (n + 1)) (tw_born σ (n + 1)) else none) = some (.inl g) := hs
    split at hs1
    · rename_i h5
      rw [Bool.and_eq_true, Nat.blt_eq] at h5
      cases hs1
      exact (tw_a_new h5.1 hd hn h1 (tw_w_mem h2) (tw_w_mem h3) (tw_w_mem h4) (Nat.eq_of_beq_eq_true h5.2)).adv h5.1 (fun v hv => List.mem_cons.mp hv)
    · cases hs1
theorem tw_x_newarray {t : Jvm.ClassFile.ArrayType} (hc : tw_cn md ≤ tw_NC) (hk : tw_chkI m i (pc, ln, (.newarray t), a, bb, zz, ts) = true) (hs : tw_step L xs (.newarray t) a bb zz ts i ls st md σ = some (.inl g)) : tw_Adv l D aC z b L xs m pc ls st md σ g := by
  have h0 := hk
  unfold tw_chkI at h0
  simp only [Bool.and_eq_true, decide_eq_true_eq, Nat.blt_eq, Nat.ble_eq] at h0
  obtain ⟨hd, ⟨⟨⟨⟨⟨hl, hn⟩, h1⟩, h2⟩, h3⟩, h4⟩⟩ := h0
  have e := Nat.eq_of_beq_eq_true hl
  subst e
  have hn := tw_nx_next hn
  obtain ⟨x, r, rfl, h⟩ := tw_p1_inv hs
  cases md with
  | none => cases h
  | some n =>
    have hs1 : (if Nat.blt n tw_NC && Nat.beq (tw_sh (n + 1)).1 a && !(decide (x < 0)) && Nat.beq x.toNatClampNeg (tw_sh (n + 1)).2 then tw_go (i + 1) ls (.ref (n + 1) :: r) (some (n + 1)) (tw_born σ (n + 1)) else none) = some (.inl g) := h
    split at hs1
    · rename_i h5
      simp only [Bool.and_eq_true, Nat.blt_eq, Bool.not_eq_true', decide_eq_false_iff_not] at h5
      obtain ⟨⟨⟨g1, g2⟩, g3⟩, g4⟩ := h5
      have g2 := Nat.eq_of_beq_eq_true g2
      have g4 := Nat.eq_of_beq_eq_true g4
      cases hs1
      have hv : ∀ v ∈ (Value.ref (n + 1) :: r : List Value), v = .ref (n + 1) ∨ v ∈ (Value.int x :: r : List Value) := fun v hv => (List.mem_cons.mp hv).imp id (List.mem_cons_of_mem _)
      rcases (show a = 20 ∨ a = 21 ∨ a = 22 ∨ a = 23 by omega) with rfl | rfl | rfl | rfl
      · exact (tw_a_newarr (tag := 20) g1 hd hn h3 (tw_w_mem h4) g2 (by decide) (by decide) (fun _ => rfl) rfl (by decide) g3 g4).adv g1 hv
      · exact (tw_a_newarr (tag := 21) g1 hd hn h3 (tw_w_mem h4) g2 (by decide) (by decide) (fun _ => rfl) rfl (by decide) g3 g4).adv g1 hv
      · exact (tw_a_newarr (tag := 22) g1 hd hn h3 (tw_w_mem h4) g2 (by decide) (by decide) (fun _ => rfl) rfl (by decide) g3 g4).adv g1 hv
      · exact (tw_a_newarr (tag := 23) g1 hd hn h3 (tw_w_mem h4) g2 (by decide) (by decide) (fun _ => rfl) rfl (by decide) g3 g4).adv g1 hv
    · cases hs1
theorem tw_x_anewarray {q : Nat} (hc : tw_cn md ≤ tw_NC) (hk : tw_chkI m i (pc, ln, (.anewarray q), a, bb, zz, ts) = true) (hs : tw_step L xs (.anewarray q) a bb zz ts i ls st md σ = some (.inl g)) : tw_Adv l D aC z b L xs m pc ls st md σ g := by
  obtain ⟨⟨hd, hn⟩, hz⟩ := tw_ck2 hk
  obtain ⟨x, r, rfl, h⟩ := tw_p1_inv hs
  cases md with
  | none => cases h
  | some n =>
    have hs1 : (if Nat.blt n tw_NC && Nat.beq (tw_sh (n + 1)).1 24 && !(decide (x < 0)) && Nat.beq x.toNatClampNeg (tw_sh (n + 1)).2 then tw_go (i + 1) ls (.ref (n + 1) :: r) (some (n + 1)) (tw_born σ (n + 1)) else none) = some (.inl g) := h
    split at hs1
    · rename_i h5
      simp only [Bool.and_eq_true, Nat.blt_eq, Bool.not_eq_true', decide_eq_false_iff_not] at h5
      obtain ⟨⟨⟨g1, g2⟩, g3⟩, g4⟩ := h5
      cases hs1
      exact (tw_a_newq g1 hd hn (tw_w_mem hz) (Nat.eq_of_beq_eq_true g2) g3 (Nat.eq_of_beq_eq_true g4)).adv g1 (fun v hv => (List.mem_cons.mp hv).imp id (List.mem_cons_of_mem _))
    · cases hs1
theorem tw_x_special {q : Nat} (hc : tw_cn md ≤ tw_NC) (hk : tw_chkI m i (pc, ln, (.invokespecial q), a, bb, zz, ts) = true) (hs : tw_step L xs (.invokespecial q) a bb zz ts i ls st md σ = some (.inl g)) : tw_Adv l D aC z b L xs m pc ls st md σ g := by
  have hs1 : (if Nat.beq a 999 then tw_pr st fun _ r => if Nat.ble r.length 8 then tw_go (i + 1) ls r md σ else none else tw_inv a bb st md) = some (.inl g) := hs
  split at hs1
  · rename_i h9
    have h0 := hk
    unfold tw_chkI at h0
    simp only [Bool.and_eq_true, decide_eq_true_eq, h9, if_true] at h0
    obtain ⟨hd, ⟨⟨hl, hn⟩, ⟨⟨h1, h2⟩, h3⟩⟩⟩ := h0
    have e := Nat.eq_of_beq_eq_true hl
    subst e
    have hn := tw_nx_next hn
    obtain ⟨k, r, rfl, h⟩ := tw_pr_inv hs1
    split at h
    · rename_i h5
      rw [Nat.ble_eq] at h5
      cases h
      exact (tw_a_objInit hd hn (tw_w_mem h1) (tw_w_mem h2) (tw_w_mem h3) h5).adv hc
    · cases h
  · unfold tw_inv at hs1
    split at hs1
    · split at hs1 <;> cases hs1
    · cases hs1
theorem tw_adv1 {ins : Jvm.ClassFile.Instr} (hc : tw_cn md ≤ tw_NC) (hk : tw_chkI m i (pc, ln, ins, a, bb, zz, ts) = true) (hs : tw_step L xs ins a bb zz ts i ls st md σ = some (.inl g)) : tw_Adv l D aC z b L xs m pc ls st md σ g := by
  cases ins with
  | iconst _ => exact tw_x_iconst hc hk hs
  | bipush _ => exact tw_x_bipush hc hk hs
  | sipush _ => exact tw_x_sipush hc hk hs
  | ldc _ => exact tw_x_ldc hc hk hs
  | ldc_w _ => exact tw_x_ldcw hc hk hs
  | aconst_null => exact tw_x_null hc hk hs
  | iload_n _ => exact tw_x_iload_n hc hk hs
  | iload _ => exact tw_x_iload hc hk hs
  | aload_n _ => exact tw_x_aload_n hc hk hs
  | aload _ => exact tw_x_aload hc hk hs
  | istore_n _ => exact tw_x_istore_n hc hk hs
  | istore _ => exact tw_x_istore hc hk hs
  | astore_n _ => exact tw_x_astore_n hc hk hs
  | astore _ => exact tw_x_astore hc hk hs
  | iinc _ _ => exact tw_x_iinc hc hk hs
  | iadd => exact tw_x_iadd hc hk hs
  | isub => exact tw_x_isub hc hk hs
  | imul => exact tw_x_imul hc hk hs
  | iand => exact tw_x_iand hc hk hs
  | ior => exact tw_x_ior hc hk hs
  | ixor => exact tw_x_ixor hc hk hs
  | ishl => exact tw_x_ishl hc hk hs
  | ishr => exact tw_x_ishr hc hk hs
  | idiv => exact tw_x_idiv hc hk hs
  | irem => exact tw_x_irem hc hk hs
  | ineg => exact tw_x_ineg hc hk hs
  | i2b => exact tw_x_i2b hc hk hs
  | i2c => exact tw_x_i2c hc hk hs
  | dup => exact tw_x_dup hc hk hs
  | dup2 => exact tw_x_dup2 hc hk hs
  | pop => exact tw_x_pop hc hk hs
  | ifCond _ _ => exact tw_x_if hc hk hs
  | if_icmp _ _ => exact tw_x_icmp hc hk hs
  | ifnull _ => exact tw_x_ifnull hc hk hs
  | ifnonnull _ => exact tw_x_ifnonnull hc hk hs
  | goto _ => exact tw_x_goto hc hk hs
  | tableswitch _ _ _ _ => exact tw_x_switch hc hk hs
  | getfield _ => exact tw_x_getfield hc hk hs
  | putfield _ => exact tw_x_putfield hc hk hs
  | iaload => exact tw_x_iaload hc hk hs
  | baload => exact tw_x_baload hc hk hs
  | caload => exact tw_x_caload hc hk hs
  | aaload => exact tw_x_aaload hc hk hs
  | iastore => exact tw_x_iastore hc hk hs
  | castore => exact tw_x_castore hc hk hs
  | bastore => exact tw_x_bastore hc hk hs
  | aastore => exact tw_x_aastore hc hk hs
  | arraylength => exact tw_x_alen hc hk hs
  | new _ => exact tw_x_new hc hk hs
  | newarray _ => exact tw_x_newarray hc hk hs
  | anewarray _ => exact tw_x_anewarray hc hk hs
  | invokespecial _ => exact tw_x_special hc hk hs
  | ireturn =>
    rcases st with _ | ⟨u, _ | ⟨w, r⟩⟩
    · cases hs
    · cases u with
      | int x =>
        have hs1 : (if Nat.beq a 0 || tw_bit x then (some (.inr (.inl (some (.int x)))) : Option tw_Out) else none) = some (.inl g) := hs
        split at hs1 <;> cases hs1
      | _ => cases hs
    · cases u <;> cases hs
  | areturn =>
    rcases st with _ | ⟨u, _ | ⟨w, r⟩⟩
    · cases hs
    · cases u <;> cases hs
    · cases u <;> cases hs
  | return_ =>
    rcases st with _ | ⟨u, r⟩
    · cases hs
    · cases hs
  | invokevirtual q =>
    have hs1 : tw_inv a bb st md = some (.inl g) := hs
    unfold tw_inv at hs1
    split at hs1
    · split at hs1 <;> cases hs1
    · cases hs1
  | invokestatic q =>
    have hs1 : (if Nat.beq a 998 then none else if Nat.ble bb st.length && Nat.ble (st.drop bb).length 8 then some (.inr (.inr (a, (st.take bb).reverse, st.drop bb))) else none) = some (Sum.inl g : tw_Out) := hs
    split at hs1
    · cases hs1
    · split at hs1 <;> cases hs1
  | _ => exact absurd (show (none : Option tw_Out) = some (Sum.inl g) from hs) (fun q => by cases q)
end tw_E2
