/-! calls: a method's contract out of what the table machine says of it; and what a caller has of it -/
set_option maxRecDepth 100000 in
theorem tw_pc0 : (List.range tw_NM).all (fun m => tw_nx m 0 0) = true := by decide +kernel
theorem tw_pc0_at {m : Nat} (h : m < tw_NM) : tw_next m 0 0 := tw_nx_next (List.all_eq_true.mp tw_pc0 m (List.mem_range.mpr h))
section tw_G
variable {D : va_G} {aC : Nat → ClassId} {z b L : Nat} {xs : Nat → Int32} {l : Launch} {md md1 : tw_Md} {σ σ1 : tw_Mem} {d d1 m pc ln i a bb y : Nat} {ls st as rest : List Value} {zz : Int32} {ts : List Nat} {v : Option Value} {ad : Nat → Nat}
def tw_Ws (y : Nat) : List Jvm.Cond := Jvm.Cond.code (tw_mY y) (tw_mB y) (tw_mL y) (tw_mR y) :: tw_gw
theorem tw_Ws_good (hy : y < tw_NM) (hl : y ≠ tw_LAW) : GoodIn tw_gw (tw_Ws y) := by
  intro w hw
  rcases List.mem_cons.mp hw with rfl | hw
  · rcases tw_okC_at hy with h | h
    · exact absurd h hl
    · have hg : goodWord (Jvm.Cond.code (tw_mY y) (tw_mB y) (tw_mL y) (tw_mR y)) = true := rfl
      exact ⟨List.mem_filter.mpr ⟨List.mem_of_getElem? h, hg⟩, good_of_word hg⟩
  · exact ⟨hw, good_of_word (List.mem_filter.mp hw).2⟩
def tw_Pc (D : va_G) (aC : Nat → ClassId) (z b L : Nat) (xs : Nat → Int32) (ad : Nat → Nat) (md : tw_Md) (σ : tw_Mem) (as : List Value) : Array Value → State → Prop := fun v U =>
  v = (as.map (tw_rel ad)).toArray ∧ z ≤ U.heap.size ∧ b < z ∧ ad 0 = b ∧ va_P D vwCl (tw_ws md ad aC σ) U.heap ∧ va_D (fun q => z ≤ q) (tw_ws md ad aC σ) ∧ va_K D vwCl (tw_tys aC) U ∧ va_X b L xs U U.heap ∧ (∀ w ∈ tw_nw, va_Nw w U) ∧ va_AO "CardLoom$Card" U
def tw_Qc (D : va_G) (aC : Nat → ClassId) (z b : Nat) (ad : Nat → Nat) (md : tw_Md) (v : Option Value) (md1 : tw_Md) (σ1 : tw_Mem) : Array Value → State → Outcome → State → Prop := fun _ st o t =>
  ∃ ad1 : Nat → Nat, tw_agr md ad ad1 ∧ (∀ u, v = some u → tw_okv md1 u) ∧ o = .returned (v.map (tw_rel ad1)) ∧ ad1 0 = b ∧ va_P D vwCl (tw_ws md1 ad1 aC σ1) t.heap ∧ va_D (fun q => z ≤ q) (tw_ws md1 ad1 aC σ1) ∧ va_F (fun q => z ≤ q) st t
theorem tw_Pc_blind : FrameBlind (tw_Pc D aC z b L xs ad md σ as) := by
  intro a U g mk q
  obtain ⟨h1, h2, h3, h4, h5, h6, h7, h8, h9, h10⟩ := q
  exact ⟨h1, h2, h3, h4, h5, h6, va_K.moved (u := U) (U := U.calling g mk a) (Vm.Alike.refl U.vm) h7, va_X.moved (u := U) (U := U.calling g mk a) (Vm.Alike.refl U.vm) h8, fun w hw => va_Nw.same (by
    have hn := (List.mem_filter.mp hw).2
    cases w <;> first | rfl | cases hn) (u := U) (U := U.calling g mk a) rfl (h9 w hw), va_AO.moved (u := U) (U := U.calling g mk a) (Vm.Alike.refl U.vm) h10⟩
theorem tw_ckm_spec (hy : y < tw_NM) (hl : y ≠ tw_LAW) : Jvm.Cond.initialized (tw_own y) ∈ tw_gw ∧ tw_own y ≠ "java/lang/invoke/MethodHandle" ∧ tw_own y ≠ "java/lang/invoke/VarHandle" ∧ plainFor (tw_mY y) = true ∧ (parseMethodDescriptor (tw_mY y).desc).map (fun q => q.parameters.length) = some (tw_mN y) ∧ tw_mL y ≤ 30 ∧ tw_mN y + (if Nat.beq (tw_mK y) 0 then 0 else 1) ≤ tw_mL y ∧
    (tw_mK y = 0 → Jvm.Cond.static (tw_mY y) ∈ tw_gw) ∧ (tw_mK y ≠ 0 → Jvm.Cond.instanceMethod (tw_mY y) ∈ tw_gw ∧ tw_mC y < vwCl.length ∧ (tw_cl (tw_mC y)).1 = tw_own y) ∧ (tw_mK y = 1 → Jvm.Cond.selects (tw_own y) (tw_mY y) (tw_mY y) ∈ tw_gw) ∧ (tw_mK y = 2 → (tw_mY y).name = "<init>" ∧ tw_mR y = none) := by
  rcases tw_okM_at hy with h | h
  · exact absurd h hl
  unfold tw_chkM at h
  simp only [Bool.and_eq_true, decide_eq_true_eq, Nat.ble_eq] at h
  obtain ⟨⟨⟨⟨⟨⟨⟨⟨⟨⟨h1, h2⟩, h3⟩, h4⟩, h5⟩, h6⟩, h7⟩, h8⟩, h9⟩, h10⟩, h11⟩ := h
  refine ⟨tw_w_mem h1, h2, h3, h4, h5, h6, h7, fun q => ?_, fun q => ?_, fun q => ?_, fun q => ?_⟩
  · rw [q, if_pos (by rfl)] at h9
    exact tw_w_mem h9
  · rw [if_neg (fun g => q (Nat.eq_of_beq_eq_true g))] at h9
    simp only [Bool.and_eq_true, decide_eq_true_eq, Nat.blt_eq] at h9
    exact ⟨tw_w_mem h9.1.1, h9.1.2, h9.2⟩
  · rw [q, if_pos (by rfl)] at h10
    exact tw_w_mem h10
  · rw [q, if_pos (by rfl)] at h11
    simp only [Bool.and_eq_true, decide_eq_true_eq] at h11
    exact h11
theorem tw_Lr_ent {n : Nat} (has : ∀ u ∈ as, tw_okv md u) (hn : as.length ≤ n) : tw_Lr ad md (as ++ List.replicate (n - as.length) tw_U) (((as.map (tw_rel ad)).map Slot.val ++ List.replicate (n - (as.map (tw_rel ad)).length) Slot.unset).toArray) := by
  have key : ∀ (i : Nat) (w : Slot), ((as.map (tw_rel ad)).map Slot.val ++ List.replicate (n - (as.map (tw_rel ad)).length) Slot.unset)[i]? = some w → (∃ u ∈ as, w = .val (tw_rel ad u)) ∨ w = .unset := by
    intro i w h
    rcases List.mem_append.mp (List.mem_of_getElem? h) with h | h
    · rw [List.map_map] at h
      obtain ⟨u, hu, rfl⟩ := List.mem_map.mp h
      exact Or.inl ⟨u, hu, rfl⟩
    · exact Or.inr (List.eq_of_mem_replicate h)
  refine ⟨by simp, ⟨fun i w h hc => ?_, fun i h => ?_⟩, fun i w h => ?_⟩
  · rw [List.getElem?_toArray] at h
    rcases key i _ h with ⟨u, hu, e⟩ | e
    · cases e
      have := tw_okv_cat (ad := ad) (has u hu)
      omega
    · cases e
  · rw [List.getElem?_toArray] at h
    rcases key i _ h with ⟨u, hu, e⟩ | e <;> cases e
  · by_cases hi : i < as.length
    · rw [List.getElem?_append_left hi] at h
      refine ⟨has w (List.mem_of_getElem? h), Or.inr ?_⟩
      rw [List.getElem?_toArray, List.getElem?_append_left (by simp; exact hi), List.getElem?_map, List.getElem?_map, h]
      rfl
    · rw [List.getElem?_append_right (by omega)] at h
      have h2 := List.eq_of_mem_replicate (List.mem_of_getElem? h)
      subst h2
      exact ⟨trivial, Or.inl rfl⟩
theorem tw_met (hy : y < tw_NM) (hl : y ≠ tw_LAW) (hc : tw_cn md ≤ tw_NC) (has : ∀ u ∈ as, tw_okv md u) (hlen : as.length ≤ tw_mL y) (hS : tw_Sd l D aC z b L xs d1 y (0, tw_ent y as, [], md, σ) (v, md1, σ1)) :
    Met l (tw_mY y) (tw_Ws y) ({ frames := d1 + 1, cells := tw_cn md1 - tw_cn md, slots := tw_sl md1 - tw_sl md, locals := 64 * (d1 + 1) }) (tw_Pc D aC z b L xs ad md σ as) (tw_Qc D aC z b ad md v md1 σ1) (tw_cn md1 - tw_cn md) (tw_sl md1 - tw_sl md) (fun q => z ≤ q) := by
  obtain ⟨w1, w2, w3, w4, w5, w6, w7, w8, w9, w10, w11⟩ := tw_ckm_spec hy hl
  obtain ⟨-, -, -, -, hS⟩ := hS hy hc
  refine va_MetF (cc := tw_mB y) (maxL := tw_mL y) (ret := tw_mR y) w4 rfl ?_
  intro p e s m args below meth c s₁ B hml hv
  obtain ⟨rfl, h2, h3, h4, h5, h6, h7, h8, h9, h10⟩ := hv
  have hts := atoms_spec (ws := tw_Ws y) B.pre
  have hC : tw_Cx D aC z b L xs y p s m ((as.map (tw_rel ad)).toArray) meth c := ⟨B.exec, B.bytes, hml, findClass_of_methodNamed B.named, fun w hw => hts w (List.mem_cons_of_mem _ hw), h9, h10, B.notSynchronized, B.returns, fun q => (name_of_methodNamed B.named B.method).1.trans (w11 q).1, h7, h8, h3, h2⟩
  have hcat : ∀ u ∈ as.map (tw_rel ad), u.category = 1 := fun u hu => by
    obtain ⟨u0, hu0, rfl⟩ := List.mem_map.mp hu
    exact tw_okv_cat (has u0 hu0)
  rw [entry_eq m (as.map (tw_rel ad)) hcat]
  have hH : tw_Hx D aC z b ad md σ s s.heap [] := ⟨h4, h5, h6, va_S.rf⟩
  refine hS ad p e s m _ below meth c s.heap [] 0 0 _ _ _ 0 hC hH (tw_Lr_ent has hlen) (by show (as ++ _).length = _; simp; omega) (fun u hu => by cases hu) (tw_pc0_at hy) (Nat.le_refl _) (Nat.le_refl _) (by show 0 + _ ≤ _; exact Nat.le_of_eq (Nat.zero_add _)) (by show 0 + _ ≤ _; exact Nat.le_of_eq (Nat.zero_add _)) (fun ad1 H1 locs1 ls1 pc1 g1 g2 g3 g4 => ?_)
  refine W.cs (Nat.zero_add _) (Nat.zero_add _) ?_
  have hq : ∀ t : State, t.heap = H1 → tw_Qc D aC z b ad md v md1 σ1 ((as.map (tw_rel ad)).toArray) s (.returned (v.map (tw_rel ad1))) t := fun t ht => ⟨ad1, g1, g4, rfl, g2.1, by rw [ht]; exact g2.2.1, g2.2.2.1, g2.2.2.2.F ht⟩
  have hlk := hC.locks
  rcases g3 with ⟨k1, x, rfl, k2 | ⟨k2, k3⟩⟩ | ⟨k1, k2, k3⟩ | ⟨k1, k2, rfl⟩
  · exact W.iret hC.1 hC.2.1 (hC.ret.trans k2) (fun t ht _ => hq t ht) g2.2.2.2.2.2 k1 hlk
  · exact W.zret (ty := .boolean) hC.1 hC.2.1 (hC.ret.trans k2) (by rcases k3 with rfl | rfl <;> rfl) (fun t ht _ => hq t ht) g2.2.2.2.2.2 k1 hlk
  · cases hr : tw_mR y with
    | none => rw [hr] at k2; cases k2
    | some rt =>
      rw [hr] at k2
      have hrt : (∃ n, rt = .object n) ∨ ∃ t, rt = .array t := by
        cases rt <;> first | exact Or.inl ⟨_, rfl⟩ | exact Or.inr ⟨_, rfl⟩ | cases k2
      rcases k3 with rfl | ⟨k, rfl⟩
      · exact W.aret hC.1 hC.2.1 (hC.ret.trans hr) hrt (Or.inl rfl) (fun t ht _ => hq t ht) g2.2.2.2.2.2 k1 hlk
      · exact W.aret hC.1 hC.2.1 (hC.ret.trans hr) hrt (Or.inr ⟨_, rfl⟩) (fun t ht _ => hq t ht) g2.2.2.2.2.2 k1 hlk
  · exact W.vret hC.1 hC.2.1 (hC.ret.trans k2) (fun t ht _ => hq t ht) g2.2.2.2.2.2 k1 hlk
end tw_G
