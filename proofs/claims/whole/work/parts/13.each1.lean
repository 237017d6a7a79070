/-! every instruction: what the table machine does in one step the machine does -/
section tw_E1
variable {D : va_G} {aC : Nat → ClassId} {z b L : Nat} {xs : Nat → Int32} {l : Launch} {md : tw_Md} {σ : tw_Mem} {m pc ln i a bb : Nat} {ls st : List Value} {zz : Int32} {ts : List Nat} {g : tw_Cfg}
theorem tw_x_iconst {q : Int} (hc : tw_cn md ≤ tw_NC) (hk : tw_chkI m i (pc, ln, (.iconst q), a, bb, zz, ts) = true) (hs : tw_step L xs (.iconst q) a bb zz ts i ls st md σ = some (.inl g)) : tw_Adv l D aC z b L xs m pc ls st md σ g := by
  obtain ⟨⟨hd, hn⟩, hz⟩ := tw_ck2 hk
  cases hs
  exact (tw_a_iconst hd hn (of_decide_eq_true hz)).adv hc
theorem tw_x_bipush {q : Int} (hc : tw_cn md ≤ tw_NC) (hk : tw_chkI m i (pc, ln, (.bipush q), a, bb, zz, ts) = true) (hs : tw_step L xs (.bipush q) a bb zz ts i ls st md σ = some (.inl g)) : tw_Adv l D aC z b L xs m pc ls st md σ g := by
  obtain ⟨⟨hd, hn⟩, hz⟩ := tw_ck2 hk
  cases hs
  exact (tw_a_bipush hd hn (of_decide_eq_true hz)).adv hc
theorem tw_x_sipush {q : Int} (hc : tw_cn md ≤ tw_NC) (hk : tw_chkI m i (pc, ln, (.sipush q), a, bb, zz, ts) = true) (hs : tw_step L xs (.sipush q) a bb zz ts i ls st md σ = some (.inl g)) : tw_Adv l D aC z b L xs m pc ls st md σ g := by
  obtain ⟨⟨hd, hn⟩, hz⟩ := tw_ck2 hk
  cases hs
  exact (tw_a_sipush hd hn (of_decide_eq_true hz)).adv hc
theorem tw_x_ldc {q : Nat} (hc : tw_cn md ≤ tw_NC) (hk : tw_chkI m i (pc, ln, (.ldc q), a, bb, zz, ts) = true) (hs : tw_step L xs (.ldc q) a bb zz ts i ls st md σ = some (.inl g)) : tw_Adv l D aC z b L xs m pc ls st md σ g := by
  obtain ⟨⟨hd, hn⟩, hz⟩ := tw_ck2 hk
  cases hs
  exact (tw_a_ldc hd hn (tw_w_mem hz)).adv hc
theorem tw_x_ldcw {q : Nat} (hc : tw_cn md ≤ tw_NC) (hk : tw_chkI m i (pc, ln, (.ldc_w q), a, bb, zz, ts) = true) (hs : tw_step L xs (.ldc_w q) a bb zz ts i ls st md σ = some (.inl g)) : tw_Adv l D aC z b L xs m pc ls st md σ g := by
  obtain ⟨⟨hd, hn⟩, hz⟩ := tw_ck2 hk
  cases hs
  exact (tw_a_ldcw hd hn (tw_w_mem hz)).adv hc
theorem tw_x_null (hc : tw_cn md ≤ tw_NC) (hk : tw_chkI m i (pc, ln, .aconst_null, a, bb, zz, ts) = true) (hs : tw_step L xs .aconst_null a bb zz ts i ls st md σ = some (.inl g)) : tw_Adv l D aC z b L xs m pc ls st md σ g := by
  obtain ⟨hd, hn⟩ := tw_ck1 hk
  cases hs
  exact (tw_a_null hd hn).adv hc
theorem tw_x_iload_n {q : Fin 4} (hc : tw_cn md ≤ tw_NC) (hk : tw_chkI m i (pc, ln, (.iload_n q), a, bb, zz, ts) = true) (hs : tw_step L xs (.iload_n q) a bb zz ts i ls st md σ = some (.inl g)) : tw_Adv l D aC z b L xs m pc ls st md σ g := by
  obtain ⟨⟨hd, hn⟩, hq⟩ := tw_ck2 hk
  have hq := Nat.eq_of_beq_eq_true hq
  obtain ⟨x, hx, rfl⟩ := tw_ldi_inv hs
  exact (tw_a_iload_n hd hn hq hx).adv hc
theorem tw_x_iload {q : Nat} (hc : tw_cn md ≤ tw_NC) (hk : tw_chkI m i (pc, ln, (.iload q), a, bb, zz, ts) = true) (hs : tw_step L xs (.iload q) a bb zz ts i ls st md σ = some (.inl g)) : tw_Adv l D aC z b L xs m pc ls st md σ g := by
  obtain ⟨⟨hd, hn⟩, hq⟩ := tw_ck2 hk
  have hq := Nat.eq_of_beq_eq_true hq
  subst hq
  obtain ⟨x, hx, rfl⟩ := tw_ldi_inv hs
  exact (tw_a_iload hd hn hx).adv hc
theorem tw_x_aload_n {q : Fin 4} (hc : tw_cn md ≤ tw_NC) (hk : tw_chkI m i (pc, ln, (.aload_n q), a, bb, zz, ts) = true) (hs : tw_step L xs (.aload_n q) a bb zz ts i ls st md σ = some (.inl g)) : tw_Adv l D aC z b L xs m pc ls st md σ g := by
  obtain ⟨⟨hd, hn⟩, hq⟩ := tw_ck2 hk
  have hq := Nat.eq_of_beq_eq_true hq
  rcases tw_lda_inv hs with ⟨x, hx, rfl⟩ | ⟨hx, rfl⟩
  · exact (tw_a_aload_n hd hn hq hx).adv hc
  · exact (tw_a_aload_nN hd hn hq hx).adv hc
theorem tw_x_aload {q : Nat} (hc : tw_cn md ≤ tw_NC) (hk : tw_chkI m i (pc, ln, (.aload q), a, bb, zz, ts) = true) (hs : tw_step L xs (.aload q) a bb zz ts i ls st md σ = some (.inl g)) : tw_Adv l D aC z b L xs m pc ls st md σ g := by
  obtain ⟨⟨hd, hn⟩, hq⟩ := tw_ck2 hk
  have hq := Nat.eq_of_beq_eq_true hq
  subst hq
  rcases tw_lda_inv hs with ⟨x, hx, rfl⟩ | ⟨hx, rfl⟩
  · exact (tw_a_aload hd hn hx).adv hc
  · exact (tw_a_aloadN hd hn hx).adv hc
theorem tw_x_istore_n {q : Fin 4} (hc : tw_cn md ≤ tw_NC) (hk : tw_chkI m i (pc, ln, (.istore_n q), a, bb, zz, ts) = true) (hs : tw_step L xs (.istore_n q) a bb zz ts i ls st md σ = some (.inl g)) : tw_Adv l D aC z b L xs m pc ls st md σ g := by
  obtain ⟨⟨hd, hn⟩, hq⟩ := tw_ck2 hk
  have hq := Nat.eq_of_beq_eq_true hq
  obtain ⟨x, r, rfl, hx, rfl⟩ := tw_sti_inv hs
  exact (tw_a_istore_n hd hn hq hx).adv hc
theorem tw_x_istore {q : Nat} (hc : tw_cn md ≤ tw_NC) (hk : tw_chkI m i (pc, ln, (.istore q), a, bb, zz, ts) = true) (hs : tw_step L xs (.istore q) a bb zz ts i ls st md σ = some (.inl g)) : tw_Adv l D aC z b L xs m pc ls st md σ g := by
  obtain ⟨⟨hd, hn⟩, hq⟩ := tw_ck2 hk
  have hq := Nat.eq_of_beq_eq_true hq
  subst hq
  obtain ⟨x, r, rfl, hx, rfl⟩ := tw_sti_inv hs
  exact (tw_a_istore hd hn hx).adv hc
theorem tw_x_astore_n {q : Fin 4} (hc : tw_cn md ≤ tw_NC) (hk : tw_chkI m i (pc, ln, (.astore_n q), a, bb, zz, ts) = true) (hs : tw_step L xs (.astore_n q) a bb zz ts i ls st md σ = some (.inl g)) : tw_Adv l D aC z b L xs m pc ls st md σ g := by
  obtain ⟨⟨hd, hn⟩, hq⟩ := tw_ck2 hk
  have hq := Nat.eq_of_beq_eq_true hq
  rcases tw_sta_inv hs with ⟨x, r, rfl, hx, rfl⟩ | ⟨r, rfl, hx, rfl⟩
  · exact (tw_a_astore_n hd hn hq hx).adv hc
  · exact (tw_a_astore_nN hd hn hq hx).adv hc
theorem tw_x_astore {q : Nat} (hc : tw_cn md ≤ tw_NC) (hk : tw_chkI m i (pc, ln, (.astore q), a, bb, zz, ts) = true) (hs : tw_step L xs (.astore q) a bb zz ts i ls st md σ = some (.inl g)) : tw_Adv l D aC z b L xs m pc ls st md σ g := by
  obtain ⟨⟨hd, hn⟩, hq⟩ := tw_ck2 hk
  have hq := Nat.eq_of_beq_eq_true hq
  subst hq
  rcases tw_sta_inv hs with ⟨x, r, rfl, hx, rfl⟩ | ⟨r, rfl, hx, rfl⟩
  · exact (tw_a_astore hd hn hx).adv hc
  · exact (tw_a_astoreN hd hn hx).adv hc
theorem tw_x_iinc {q : Nat} {w : Int} (hc : tw_cn md ≤ tw_NC) (hk : tw_chkI m i (pc, ln, (.iinc q w), a, bb, zz, ts) = true) (hs : tw_step L xs (.iinc q w) a bb zz ts i ls st md σ = some (.inl g)) : tw_Adv l D aC z b L xs m pc ls st md σ g := by
  have h0 := hk
  unfold tw_chkI at h0
  simp only [Bool.and_eq_true, decide_eq_true_eq] at h0
  obtain ⟨hd, ⟨⟨hl, hn⟩, hq⟩, hw⟩ := h0
  have e := Nat.eq_of_beq_eq_true hl
  subst e
  have hn := tw_nx_next hn
  have hq := Nat.eq_of_beq_eq_true hq
  subst hq
  have hs1 : (match ls[q]? with
    | some (.int x) => tw_go (i + 1) (ls.set q (.int (x + zz))) st md σ
    | _ => none) = some (.inl g) := hs
  split at hs1
  · rename_i x hx
    cases hs1
    exact (tw_a_iinc hd hn hw hx).adv hc
  · cases hs1
theorem tw_x_iadd (hc : tw_cn md ≤ tw_NC) (hk : tw_chkI m i (pc, ln, .iadd, a, bb, zz, ts) = true) (hs : tw_step L xs .iadd a bb zz ts i ls st md σ = some (.inl g)) : tw_Adv l D aC z b L xs m pc ls st md σ g := by
  obtain ⟨hd, hn⟩ := tw_ck1 hk
  obtain ⟨x, y, r, rfl, h⟩ := tw_p2_inv hs
  cases h
  exact (tw_a_iadd hd hn).adv hc
theorem tw_x_isub (hc : tw_cn md ≤ tw_NC) (hk : tw_chkI m i (pc, ln, .isub, a, bb, zz, ts) = true) (hs : tw_step L xs .isub a bb zz ts i ls st md σ = some (.inl g)) : tw_Adv l D aC z b L xs m pc ls st md σ g := by
  obtain ⟨hd, hn⟩ := tw_ck1 hk
  obtain ⟨x, y, r, rfl, h⟩ := tw_p2_inv hs
  cases h
  exact (tw_a_isub hd hn).adv hc
theorem tw_x_imul (hc : tw_cn md ≤ tw_NC) (hk : tw_chkI m i (pc, ln, .imul, a, bb, zz, ts) = true) (hs : tw_step L xs .imul a bb zz ts i ls st md σ = some (.inl g)) : tw_Adv l D aC z b L xs m pc ls st md σ g := by
  obtain ⟨hd, hn⟩ := tw_ck1 hk
  obtain ⟨x, y, r, rfl, h⟩ := tw_p2_inv hs
  cases h
  exact (tw_a_imul hd hn).adv hc
theorem tw_x_iand (hc : tw_cn md ≤ tw_NC) (hk : tw_chkI m i (pc, ln, .iand, a, bb, zz, ts) = true) (hs : tw_step L xs .iand a bb zz ts i ls st md σ = some (.inl g)) : tw_Adv l D aC z b L xs m pc ls st md σ g := by
  obtain ⟨hd, hn⟩ := tw_ck1 hk
  obtain ⟨x, y, r, rfl, h⟩ := tw_p2_inv hs
  cases h
  exact (tw_a_iand hd hn).adv hc
theorem tw_x_ior (hc : tw_cn md ≤ tw_NC) (hk : tw_chkI m i (pc, ln, .ior, a, bb, zz, ts) = true) (hs : tw_step L xs .ior a bb zz ts i ls st md σ = some (.inl g)) : tw_Adv l D aC z b L xs m pc ls st md σ g := by
  obtain ⟨hd, hn⟩ := tw_ck1 hk
  obtain ⟨x, y, r, rfl, h⟩ := tw_p2_inv hs
  cases h
  exact (tw_a_ior hd hn).adv hc
theorem tw_x_ixor (hc : tw_cn md ≤ tw_NC) (hk : tw_chkI m i (pc, ln, .ixor, a, bb, zz, ts) = true) (hs : tw_step L xs .ixor a bb zz ts i ls st md σ = some (.inl g)) : tw_Adv l D aC z b L xs m pc ls st md σ g := by
  obtain ⟨hd, hn⟩ := tw_ck1 hk
  obtain ⟨x, y, r, rfl, h⟩ := tw_p2_inv hs
  cases h
  exact (tw_a_ixor hd hn).adv hc
theorem tw_x_ishl (hc : tw_cn md ≤ tw_NC) (hk : tw_chkI m i (pc, ln, .ishl, a, bb, zz, ts) = true) (hs : tw_step L xs .ishl a bb zz ts i ls st md σ = some (.inl g)) : tw_Adv l D aC z b L xs m pc ls st md σ g := by
  obtain ⟨hd, hn⟩ := tw_ck1 hk
  obtain ⟨x, y, r, rfl, h⟩ := tw_p2_inv hs
  cases h
  exact (tw_a_ishl hd hn).adv hc
theorem tw_x_ishr (hc : tw_cn md ≤ tw_NC) (hk : tw_chkI m i (pc, ln, .ishr, a, bb, zz, ts) = true) (hs : tw_step L xs .ishr a bb zz ts i ls st md σ = some (.inl g)) : tw_Adv l D aC z b L xs m pc ls st md σ g := by
  obtain ⟨hd, hn⟩ := tw_ck1 hk
  obtain ⟨x, y, r, rfl, h⟩ := tw_p2_inv hs
  cases h
  exact (tw_a_ishr hd hn).adv hc
theorem tw_x_idiv (hc : tw_cn md ≤ tw_NC) (hk : tw_chkI m i (pc, ln, .idiv, a, bb, zz, ts) = true) (hs : tw_step L xs .idiv a bb zz ts i ls st md σ = some (.inl g)) : tw_Adv l D aC z b L xs m pc ls st md σ g := by
  obtain ⟨hd, hn⟩ := tw_ck1 hk
  obtain ⟨x, y, r, rfl, h⟩ := tw_p2_inv hs
  split at h
  · cases h
  · rename_i h0
    cases h
    exact (tw_a_idiv hd hn h0).adv hc
theorem tw_x_irem (hc : tw_cn md ≤ tw_NC) (hk : tw_chkI m i (pc, ln, .irem, a, bb, zz, ts) = true) (hs : tw_step L xs .irem a bb zz ts i ls st md σ = some (.inl g)) : tw_Adv l D aC z b L xs m pc ls st md σ g := by
  obtain ⟨hd, hn⟩ := tw_ck1 hk
  obtain ⟨x, y, r, rfl, h⟩ := tw_p2_inv hs
  split at h
  · cases h
  · rename_i h0
    cases h
    exact (tw_a_irem hd hn h0).adv hc
theorem tw_x_ineg (hc : tw_cn md ≤ tw_NC) (hk : tw_chkI m i (pc, ln, .ineg, a, bb, zz, ts) = true) (hs : tw_step L xs .ineg a bb zz ts i ls st md σ = some (.inl g)) : tw_Adv l D aC z b L xs m pc ls st md σ g := by
  obtain ⟨hd, hn⟩ := tw_ck1 hk
  obtain ⟨x, r, rfl, h⟩ := tw_p1_inv hs
  cases h
  exact (tw_a_ineg hd hn).adv hc
theorem tw_x_i2b (hc : tw_cn md ≤ tw_NC) (hk : tw_chkI m i (pc, ln, .i2b, a, bb, zz, ts) = true) (hs : tw_step L xs .i2b a bb zz ts i ls st md σ = some (.inl g)) : tw_Adv l D aC z b L xs m pc ls st md σ g := by
  obtain ⟨hd, hn⟩ := tw_ck1 hk
  obtain ⟨x, r, rfl, h⟩ := tw_p1_inv hs
  cases h
  exact (tw_a_i2b hd hn).adv hc
theorem tw_x_i2c (hc : tw_cn md ≤ tw_NC) (hk : tw_chkI m i (pc, ln, .i2c, a, bb, zz, ts) = true) (hs : tw_step L xs .i2c a bb zz ts i ls st md σ = some (.inl g)) : tw_Adv l D aC z b L xs m pc ls st md σ g := by
  obtain ⟨hd, hn⟩ := tw_ck1 hk
  obtain ⟨x, r, rfl, h⟩ := tw_p1_inv hs
  cases h
  exact (tw_a_i2c hd hn).adv hc
theorem tw_x_dup (hc : tw_cn md ≤ tw_NC) (hk : tw_chkI m i (pc, ln, .dup, a, bb, zz, ts) = true) (hs : tw_step L xs .dup a bb zz ts i ls st md σ = some (.inl g)) : tw_Adv l D aC z b L xs m pc ls st md σ g := by
  obtain ⟨hd, hn⟩ := tw_ck1 hk
  rcases st with _ | ⟨u, _ | ⟨w, r⟩⟩
  · cases hs
  · cases hs
    exact (tw_a_dup hd hn).adv hc
  · cases hs
    exact (tw_a_dup hd hn).adv hc
theorem tw_x_dup2 (hc : tw_cn md ≤ tw_NC) (hk : tw_chkI m i (pc, ln, .dup2, a, bb, zz, ts) = true) (hs : tw_step L xs .dup2 a bb zz ts i ls st md σ = some (.inl g)) : tw_Adv l D aC z b L xs m pc ls st md σ g := by
  obtain ⟨hd, hn⟩ := tw_ck1 hk
  rcases st with _ | ⟨u, _ | ⟨w, r⟩⟩
  · cases hs
  · cases hs
  · cases hs
    exact (tw_a_dup2 hd hn).adv hc
theorem tw_x_pop (hc : tw_cn md ≤ tw_NC) (hk : tw_chkI m i (pc, ln, .pop, a, bb, zz, ts) = true) (hs : tw_step L xs .pop a bb zz ts i ls st md σ = some (.inl g)) : tw_Adv l D aC z b L xs m pc ls st md σ g := by
  obtain ⟨hd, hn⟩ := tw_ck1 hk
  rcases st with _ | ⟨u, _ | ⟨w, r⟩⟩
  · cases hs
  · cases hs
    exact (tw_a_pop hd hn).adv hc
  · cases hs
    exact (tw_a_pop hd hn).adv hc
theorem tw_x_if {c0 : Jvm.ClassFile.Cond} {off : Int} (hc : tw_cn md ≤ tw_NC) (hk : tw_chkI m i (pc, ln, (.ifCond c0 off), a, bb, zz, ts) = true) (hs : tw_step L xs (.ifCond c0 off) a bb zz ts i ls st md σ = some (.inl g)) : tw_Adv l D aC z b L xs m pc ls st md σ g := by
  obtain ⟨hd, hn, t, ht, hg⟩ := tw_ck_tg hk
  obtain ⟨x, r, rfl, h⟩ := tw_p1_inv hs
  cases h
  cases c0
  · exact (tw_a_if_eq hd hn ht hg).adv hc
  · exact (tw_a_if_ne hd hn ht hg).adv hc
  · exact (tw_a_if_lt hd hn ht hg).adv hc
  · exact (tw_a_if_ge hd hn ht hg).adv hc
  · exact (tw_a_if_gt hd hn ht hg).adv hc
  · exact (tw_a_if_le hd hn ht hg).adv hc
theorem tw_x_icmp {c0 : Jvm.ClassFile.Cond} {off : Int} (hc : tw_cn md ≤ tw_NC) (hk : tw_chkI m i (pc, ln, (.if_icmp c0 off), a, bb, zz, ts) = true) (hs : tw_step L xs (.if_icmp c0 off) a bb zz ts i ls st md σ = some (.inl g)) : tw_Adv l D aC z b L xs m pc ls st md σ g := by
  obtain ⟨hd, hn, t, ht, hg⟩ := tw_ck_tg hk
  obtain ⟨x, y, r, rfl, h⟩ := tw_p2_inv hs
  cases h
  cases c0
  · exact (tw_a_icmp_eq hd hn ht hg).adv hc
  · exact (tw_a_icmp_ne hd hn ht hg).adv hc
  · exact (tw_a_icmp_lt hd hn ht hg).adv hc
  · exact (tw_a_icmp_ge hd hn ht hg).adv hc
  · exact (tw_a_icmp_gt hd hn ht hg).adv hc
  · exact (tw_a_icmp_le hd hn ht hg).adv hc
theorem tw_x_ifnull {off : Int} (hc : tw_cn md ≤ tw_NC) (hk : tw_chkI m i (pc, ln, (.ifnull off), a, bb, zz, ts) = true) (hs : tw_step L xs (.ifnull off) a bb zz ts i ls st md σ = some (.inl g)) : tw_Adv l D aC z b L xs m pc ls st md σ g := by
  obtain ⟨hd, hn, t, ht, hg⟩ := tw_ck_tg hk
  rcases st with _ | ⟨u, r⟩
  · cases hs
  · cases u <;> first | (cases hs; done) | (cases hs; exact (tw_a_ifnullN (q := 0) hd hn ht hg).adv hc) | (cases hs; exact (tw_a_ifnull hd hn ht hg).adv hc)
theorem tw_x_ifnonnull {off : Int} (hc : tw_cn md ≤ tw_NC) (hk : tw_chkI m i (pc, ln, (.ifnonnull off), a, bb, zz, ts) = true) (hs : tw_step L xs (.ifnonnull off) a bb zz ts i ls st md σ = some (.inl g)) : tw_Adv l D aC z b L xs m pc ls st md σ g := by
  obtain ⟨hd, hn, t, ht, hg⟩ := tw_ck_tg hk
  rcases st with _ | ⟨u, r⟩
  · cases hs
  · cases u <;> first | (cases hs; done) | (cases hs; exact (tw_a_ifnonnullN (q := 0) hd hn ht hg).adv hc) | (cases hs; exact (tw_a_ifnonnull hd hn ht hg).adv hc)
theorem tw_x_goto {off : Int} (hc : tw_cn md ≤ tw_NC) (hk : tw_chkI m i (pc, ln, (.goto off), a, bb, zz, ts) = true) (hs : tw_step L xs (.goto off) a bb zz ts i ls st md σ = some (.inl g)) : tw_Adv l D aC z b L xs m pc ls st md σ g := by
  have h0 := hk
  unfold tw_chkI at h0
  simp only [Bool.and_eq_true, decide_eq_true_eq] at h0
  obtain ⟨h1, h2, h3⟩ := h0
  have e := Nat.eq_of_beq_eq_true h2
  subst e
  obtain ⟨t, ht, hg⟩ := tw_tg_next h3
  cases hs
  exact (tw_a_goto h1 ht hg).adv hc
theorem tw_x_switch {dflt lo hi : Int} {offs : Array Int} (hc : tw_cn md ≤ tw_NC) (hk : tw_chkI m i (pc, ln, (.tableswitch dflt lo hi offs), a, bb, zz, ts) = true) (hs : tw_step L xs (.tableswitch dflt lo hi offs) a bb zz ts i ls st md σ = some (.inl g)) : tw_Adv l D aC z b L xs m pc ls st md σ g := by
  have h0 := hk
  unfold tw_chkI at h0
  simp only [Bool.and_eq_true, decide_eq_true_eq] at h0
  obtain ⟨h1, ⟨⟨⟨h2, h3⟩, h4⟩, h5⟩, h6⟩ := h0
  have h6 := Nat.eq_of_beq_eq_true h6
  obtain ⟨t, ht, hg⟩ := tw_tg_next h2
  obtain ⟨x, r, rfl, h⟩ := tw_p1_inv hs
  split at h
  · rename_i hx
    cases h
    exact (tw_a_swOut h1 ht hg (by rw [← h3, ← h4]; exact hx)).adv hc
  · rename_i hx
    split at h
    · rename_i t1 ht1
      cases h
      have hlt := (List.getElem?_eq_some_iff.mp ht1).1
      have h7 := List.all_eq_true.mp h5 _ (List.mem_range.mpr hlt)
      have h8 : ts.getD (x.toInt - zz.toInt).toNat 0 = t1 := by rw [List.getD_eq_getElem?_getD, ht1]; rfl
      rw [h8] at h7
      obtain ⟨t2, ht2, hg2⟩ := tw_tg_next h7
      refine (tw_a_swIn h1 (by rw [← h3]; omega) (by rw [← h4]; omega) (off := offs.getD (x.toInt - zz.toInt).toNat 0) ?_ ht2 hg2).adv hc
      rw [← h3, Array.getD_eq_getD_getElem?, Array.getElem?_eq_getElem (by omega)]
      rfl
    · cases h
theorem tw_x_getfield {q : Nat} (hc : tw_cn md ≤ tw_NC) (hk : tw_chkI m i (pc, ln, (.getfield q), a, bb, zz, ts) = true) (hs : tw_step L xs (.getfield q) a bb zz ts i ls st md σ = some (.inl g)) : tw_Adv l D aC z b L xs m pc ls st md σ g := by
  have h0 := hk
  unfold tw_chkI at h0
  simp only [Bool.and_eq_true, decide_eq_true_eq, Nat.blt_eq] at h0
  obtain ⟨hd, ⟨⟨⟨⟨hl, hn⟩, h1⟩, h2⟩, h3⟩⟩ := h0
  have e := Nat.eq_of_beq_eq_true hl
  subst e
  have hn := tw_nx_next hn
  obtain ⟨k, r, rfl, h⟩ := tw_pr_inv hs
  split at h
  · rename_i h4
    rw [Bool.and_eq_true] at h4
    cases h
    exact (tw_a_getfield hc hd hn h1 (tw_w_mem h3) h4.1 (by simpa [Nat.blt_eq] using h4.2)).adv hc
  · cases h
theorem tw_x_putfield {q : Nat} (hc : tw_cn md ≤ tw_NC) (hk : tw_chkI m i (pc, ln, (.putfield q), a, bb, zz, ts) = true) (hs : tw_step L xs (.putfield q) a bb zz ts i ls st md σ = some (.inl g)) : tw_Adv l D aC z b L xs m pc ls st md σ g := by
  have h0 := hk
  unfold tw_chkI at h0
  simp only [Bool.and_eq_true, decide_eq_true_eq, Nat.blt_eq] at h0
  obtain ⟨hd, ⟨⟨⟨⟨⟨⟨hl, hn⟩, h1⟩, h2⟩, h3⟩, h4⟩, h5⟩⟩ := h0
  have e := Nat.eq_of_beq_eq_true hl
  subst e
  have hn := tw_nx_next hn
  have hfin : ((tw_cl a).2.1 bb).2.2.2 = false ∨ (((tw_cl a).2.1 bb).2.2.2 = true ∧ tw_mK m = 2 ∧ ((tw_cl a).2.1 bb).1 = tw_own m) := by
    cases hf : ((tw_cl a).2.1 bb).2.2.2 with
    | false => exact Or.inl rfl
    | true =>
      rw [hf] at h4
      simp only [Bool.not_true, Bool.false_or, Bool.and_eq_true, decide_eq_true_eq] at h4
      exact Or.inr ⟨rfl, Nat.eq_of_beq_eq_true h4.1, h4.2⟩
  have hty : ∀ t, tw_ty a bb = some t → tw_tyf a bb = t := fun t ht => by unfold tw_tyf; rw [ht]; rfl
  have hs1 : (match st with
    | .int x :: .ref k :: r => if tw_isO k a md && Nat.blt bb (tw_sh k).2 && Nat.beq (tw_kd k bb).1 0 && (decide (zz = 0) || tw_bit x) then tw_go (i + 1) ls r md (tw_upd σ k bb x) else none
    | .ref q :: .ref k :: r => if tw_isO k a md && Nat.blt bb (tw_sh k).2 && Nat.ble 1 (tw_kd k bb).1 && Nat.beq (tw_kd k bb).2 q && (md.isSome || Nat.ble 2 (tw_kd k bb).1) then tw_go (i + 1) ls r md (tw_upd σ k bb 1) else none
    | _ => none) = some (.inl g) := hs
  split at hs1
  · split at hs1
    · rename_i x k r h6
      simp only [Bool.and_eq_true, Nat.blt_eq] at h6
      obtain ⟨⟨⟨g1, g2⟩, g3⟩, g4⟩ := h6
      have g3 := Nat.eq_of_beq_eq_true g3
      cases hs1
      refine (tw_a_putI hc hd hn h1 (tw_w_mem h3) hfin g1 g2 g3 ?_).adv hc
      obtain ⟨-, -, -, -, w5⟩ := tw_shI_O hc g1 (by have := tw_vwl; omega)
      rcases w5 bb g2 with ⟨-, w⟩ | ⟨w, -⟩
      · rcases w with w | w
        · exact Or.inl w
        · refine Or.inr ⟨w, ?_⟩
          rw [Bool.or_eq_true, Bool.or_eq_true, decide_eq_true_eq, decide_eq_true_eq] at h5
          rcases h5 with (h5 | h5) | h5
          · rw [hty _ h5] at w; cases w
          · rw [Bool.or_eq_true, decide_eq_true_eq] at g4
            rcases g4 with g4 | g4
            · exact absurd g4 h5.2
            · exact tw_bit_ok g4
          · cases hq0 : tw_ty a bb with
            | none => rw [hq0] at h5; cases h5
            | some t0 => rw [hq0] at h5; rw [hty _ hq0] at w; subst w; cases h5
      · exact absurd g3 w
    · cases hs1
  · split at hs1
    · rename_i q0 k r h6
      simp only [Bool.and_eq_true, Nat.blt_eq, Nat.ble_eq, Bool.or_eq_true] at h6
      obtain ⟨⟨⟨⟨g1, g2⟩, g3⟩, g4⟩, g5⟩ := h6
      cases hs1
      exact (tw_a_putR hc hd hn h1 (tw_w_mem h3) hfin g1 g2 g3 (Nat.eq_of_beq_eq_true g4) g5).adv hc
    · cases hs1
  · cases hs1
end tw_E1
