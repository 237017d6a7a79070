/-! calls, copies and the change of mode; all rules together -/
def tw_isCall (ins : Jvm.ClassFile.Instr) : Bool := match ins with
  | .invokevirtual _ => true
  | .invokespecial _ => true
  | .invokestatic _ => true
  | _ => false
set_option maxRecDepth 100000 in
theorem tw_nolaw : (List.range tw_NM).all (fun m => (tw_mE m).all (fun e => !(tw_isCall e.2.2.1) || !(Nat.beq e.2.2.2.1 tw_LAW))) = true := by decide +kernel
theorem tw_nolaw_at {m i : Nat} {e : tw_Ent} (h : m < tw_NM) (he : tw_fetch m i = some e) (hc : tw_isCall e.2.2.1 = true) : e.2.2.2.1 ≠ tw_LAW := by
  have h1 := List.all_eq_true.mp (List.all_eq_true.mp tw_nolaw m (List.mem_range.mpr h)) e (List.mem_of_getElem? he)
  rw [hc] at h1
  intro q
  rw [q] at h1
  exact absurd h1 (by decide)
section tw_H
variable {D : va_G} {aC : Nat → ClassId} {z b L : Nat} {xs : Nat → Int32} {l : Launch} {md md1 : tw_Md} {σ σ1 : tw_Mem} {d d1 m pc ln i a bb y mc ms : Nat} {ls st as rest restC st0 : List Value} {zz : Int32} {ts : List Nat} {v : Option Value} {ad : Nat → Nat} {r : tw_Ret}
  {p : Program} {e : Env} {s : State} {mi : MethodId} {args a0 : Array Value} {below : List Frame} {meth : Method} {c : Code} {H : Heap} {locs : List Loc} {cells slots : Nat} {Rm : Room} {Q : State → Prop} {lsC : Array Slot}
theorem tw_after (hH : tw_Hx D aC z b ad md σ s H locs) (hr : va_Run p l e Rm s mi args below meth c H locs cells slots mc ms (F0 mi pc lsC st0) restC (tw_Qc D aC z b ad md v md1 σ1 a0) (fun q => z ≤ q))
    (kk : ∀ (ad1 : Nat → Nat) (H1 : Heap) (locs1 : List Loc), tw_agr md ad ad1 → (∀ u, v = some u → tw_okv md1 u) → tw_Hx D aC z b ad1 md1 σ1 s H1 locs1 → W p l e Rm s mi args below meth c H1 locs1 (cells + mc) (slots + ms) Q (F0 mi (pc + 3) lsC ((v.map (tw_rel ad1)).toList ++ restC))) :
    W p l e Rm s mi args below meth c H locs cells slots Q (F0 mi pc lsC st0) := by
  intro T hT X
  obtain ⟨v', st₀, t, T', L', h0, X', hL', e1, e2, ⟨ad1, q1, q2, q3, q4, q5, q6, hz, hkk⟩, stp⟩ := hr T hT X
  have q3 := Outcome.returned.inj q3
  subst q3
  rw [h0] at hz hkk
  obtain ⟨-, -, -, hS⟩ := hH
  obtain ⟨t2, a1, b1⟩ := kk ad1 T'.heap (locs ++ L') q1 q2 ⟨q4, by rw [e1]; exact q5, q6, Nat.le_trans hS.1 (by rw [e1]; exact hz), fun q h1 h2 => by rw [e1, hkk q (Nat.lt_of_lt_of_le h1 hS.1) h2]; exact hS.2.1 q h1 h2, fun q hq => (List.mem_append.mp hq).elim (hS.2.2 q) (fun h => hL' q h)⟩ T' rfl X'
  exact ⟨t2, stp t2 a1, b1⟩
theorem tw_pre (hC : tw_Cx D aC z b L xs m p s mi args meth c) (hH : tw_Hx D aC z b ad md σ s H locs) : ∀ U : State, U.heap = H → s.WarmedH U.vm → tw_Pc D aC z b L xs ad md σ as ((as.map (tw_rel ad)).toArray) U := by
  intro U hU hW
  obtain ⟨h1, h2, h3, h4⟩ := hH
  have hzs := hC.zs
  have hbz := hC.bz
  refine ⟨rfl, by rw [hU]; exact Nat.le_trans hzs h4.1, hbz, h1, by rw [hU]; exact h2, h3, va_K.moved hW.alike hC.K, (va_X.moved hW.alike hC.X).kept (by rw [hU]; exact h4.2.1 b (by omega) (by omega)), fun w hw => ?_, va_AO.moved hW.alike hC.over⟩
  have hn := hC.nest w hw
  have hi := (List.mem_filter.mp hw).2
  cases w with
  | methodLinkNest _ _ _ _ => exact va_Nw.warmM hW hn
  | _ => cases hi
theorem tw_okv_mono {u : Value} (h : tw_okv md u) (h1 : md = none → md1 = none) (h2 : tw_cn md ≤ tw_cn md1) : tw_okv md1 u := by
  cases u with
  | ref k =>
    cases md1 with
    | none => trivial
    | some n1 =>
      cases md with
      | none => cases h1 rfl
      | some n => exact Nat.le_trans h h2
  | _ => exact h
theorem tw_s_call {e0 : tw_Ent} (he : tw_fetch m i = some e0) (hs : tw_stepE L xs e0 i ls st md σ = some (.inr (.inr (y, as, rest)))) (hd : d1 < d) (ihc : tw_Sd l D aC z b L xs d1 y (0, tw_ent y as, [], md, σ) (v, md1, σ1)) (ih : tw_Sd l D aC z b L xs d m (i + 1, ls, v.toList ++ rest, md1, σ1) r) : tw_Sd l D aC z b L xs d m (i, ls, st, md, σ) r := by
  obtain ⟨rv, rm, rσ⟩ := r
  intro hm hc
  obtain ⟨pc0, ln, ins, a, bb, zz, ts⟩ := e0
  have hk := tw_okE_at hm i _ he
  -- what the call is
  have key : a = y ∧ y < tw_NM ∧ y ≠ tw_LAW ∧ rest.length ≤ 8 ∧ tw_next m (i + 1) (pc0 + 3) ∧ as.length = tw_mN y + (if Nat.beq (tw_mK y) 0 then 0 else 1) ∧ st = as.reverse ++ rest ∧
      ((∃ x k ar, decode (tw_mB m) pc0 = .ok (.invokevirtual x, 3) ∧ tw_mK y = 1 ∧ as = .ref k :: ar ∧ tw_isO k (tw_mC y) md = true ∧ Jvm.Cond.methodLink (tw_own m) x (tw_mY y) ∈ tw_gw) ∨
       (∃ x k ar, decode (tw_mB m) pc0 = .ok (.invokespecial x, 3) ∧ tw_mK y = 2 ∧ as = .ref k :: ar ∧ (Jvm.Cond.methodLink (tw_own m) x (tw_mY y) ∈ tw_gw ∨ Jvm.Cond.methodLinkNest (tw_own m) x (tw_mY y) "CardLoom" ∈ tw_nw)) ∨
       (∃ x, decode (tw_mB m) pc0 = .ok (.invokestatic x, 3) ∧ tw_mK y = 0 ∧ (Jvm.Cond.methodLink (tw_own m) x (tw_mY y) ∈ tw_gw ∨ Jvm.Cond.methodLinkNest (tw_own m) x (tw_mY y) "CardLoom" ∈ tw_nw))) := by
    have inv : ∀ {bb : Nat}, tw_inv a bb st md = some (.inr (.inr (y, as, rest))) → a = y ∧ rest.length ≤ 8 ∧ as.length = bb + 1 ∧ st = as.reverse ++ rest ∧ ∃ k ar, as = .ref k :: ar ∧ tw_isO k (tw_mC y) md = true := by
      intro bb h
      unfold tw_inv at h
      split at h
      · rename_i k r hdrop
        split at h
        · rename_i h1
          cases h
          rw [Bool.and_eq_true, Nat.ble_eq] at h1
          have hl : bb < st.length := by
            rcases Nat.lt_or_ge bb st.length with q | q
            · exact q
            · rw [List.drop_eq_nil_of_le q] at hdrop; cases hdrop
          refine ⟨rfl, h1.1, ?_, ?_, k, _, rfl, h1.2⟩
          · simp only [List.length_cons, List.length_reverse, List.length_take]
            omega
          · rw [List.reverse_cons, List.reverse_reverse, List.append_assoc, List.singleton_append, ← hdrop, List.take_append_drop]
        · cases h
      · cases h
    rcases tw_inr_inv hs with ⟨v1, h1, -⟩ | ⟨x, h1, h2⟩ | ⟨x, h1, h2, h3, h4, h5⟩
    · cases h1
    · dsimp only at h1 h2
      obtain ⟨g1, g2, g3, g4, k, ar, g5, g6⟩ := inv h2
      subst g1
      rcases h1 with rfl | ⟨rfl, h9⟩
      · have hlaw := tw_nolaw_at hm he rfl
        have h0 := hk
        unfold tw_chkI at h0
        simp only [Bool.and_eq_true, decide_eq_true_eq, Nat.blt_eq] at h0
        obtain ⟨w1, ⟨⟨⟨⟨w2, w3⟩, w4⟩, w5⟩, w6⟩, w7⟩ := h0
        have w2 := Nat.eq_of_beq_eq_true w2
        subst w2
        have w5 := Nat.eq_of_beq_eq_true w5
        have w6 := Nat.eq_of_beq_eq_true w6
        exact ⟨rfl, w4, hlaw, g2, tw_nx_next w3, by rw [g3, w6, w5]; rfl, g4, Or.inl ⟨x, k, ar, w1, w5, g5, g6, tw_w_mem w7⟩⟩
      · have hlaw := tw_nolaw_at hm he rfl
        have h0 := hk
        unfold tw_chkI at h0
        simp only [Bool.and_eq_true, decide_eq_true_eq, Nat.blt_eq, h9, if_false, Bool.false_eq_true] at h0
        obtain ⟨w1, ⟨⟨w2, w3⟩, ⟨⟨⟨w4, w5⟩, w6⟩, w7⟩⟩⟩ := h0
        have w2 := Nat.eq_of_beq_eq_true w2
        subst w2
        have w5 := Nat.eq_of_beq_eq_true w5
        have w6 := Nat.eq_of_beq_eq_true w6
        refine ⟨rfl, w4, hlaw, g2, tw_nx_next w3, by rw [g3, w6, w5]; rfl, g4, Or.inr (Or.inl ⟨x, k, ar, w1, w5, g5, ?_⟩)⟩
        split at w7
        · exact Or.inl (tw_w_mem w7)
        · exact Or.inr (tw_wn_mem w7)
    · dsimp only at h1 h2 h3 h4 h5
      cases h5
      subst h1
      have hlaw := tw_nolaw_at hm he rfl
      have h0 := hk
      unfold tw_chkI at h0
      simp only [Bool.and_eq_true, decide_eq_true_eq, Nat.blt_eq, h2, if_false, Bool.false_eq_true] at h0
      obtain ⟨w1, ⟨⟨w2, w3⟩, ⟨⟨⟨w4, w5⟩, w6⟩, w7⟩⟩⟩ := h0
      have w2 := Nat.eq_of_beq_eq_true w2
      subst w2
      have w5 := Nat.eq_of_beq_eq_true w5
      have w6 := Nat.eq_of_beq_eq_true w6
      refine ⟨rfl, w4, hlaw, h4, tw_nx_next w3, ?_, by rw [List.reverse_reverse, List.take_append_drop], Or.inr (Or.inr ⟨x, w1, w5, ?_⟩)⟩
      · rw [w6, w5, if_pos (by rfl)]
        simp only [List.length_reverse, List.length_take]
        omega
      · split at w7
        · exact Or.inl (tw_w_mem w7)
        · exact Or.inr (tw_wn_mem w7)
  obtain ⟨ka, hy, hyl, hrl, hnx, hal, hst, hkind⟩ := key
  subst ka
  obtain ⟨c1, c2, c3, c4, -⟩ := ihc hy hc
  obtain ⟨b1, b2, b3, b4, b5⟩ := ih hm c3
  refine ⟨Nat.le_trans c1 b1, Nat.le_trans c2 b2, b3, fun q => b4 (c4 q), ?_⟩
  intro ad p e s mi args below meth c H locs cells slots Rm Q lsC pc hC hH hL hN hS hpc hf hl hce hsl k
  obtain ⟨e1, he1, rfl⟩ := hpc
  rw [he] at he1
  cases he1
  dsimp only at b1 b2 c1 c2 hce hsl hf hl hS hL hH k b5 hN ⊢
  have hasv : ∀ u ∈ as, tw_okv md u := fun u hu => hS u (by rw [hst]; exact List.mem_append_left _ (List.mem_reverse.mpr hu))
  have hrst : ∀ u ∈ rest, tw_okv md u := fun u hu => hS u (by rw [hst]; exact List.mem_append_right _ hu)
  obtain ⟨w1, w2, w3, w4, w5, w6, w7, w8, w9, w10, w11⟩ := tw_ckm_spec hy hyl
  have hM := tw_met (l := l) (D := D) (aC := aC) (z := z) (b := b) (L := L) (xs := xs) (ad := ad) hy hyl hc hasv (by omega) ihc
  have hcat := tw_sum1 (ad := ad) hrst
  have hsz : lsC.size = tw_mL m := hL.1.trans hN
  have hfix : CallFix p mi c (tw_mB m) (tw_mL m) s args tw_gw (tw_own m) := ⟨hC.1, hC.2.1, hC.2.2.1, hC.own, hC.hts⟩
  have hroom : d1 + 1 + 1 ≤ Rm.frames ∧ 8 + (tw_mL a + 11) + 64 * (d1 + 1) ≤ Rm.locals := ⟨by omega, by omega⟩
  have hfit : cells + (tw_cn md1 - tw_cn md) ≤ Rm.cells ∧ slots + (tw_sl md1 - tw_sl md) ≤ Rm.slots := ⟨by omega, by omega⟩
  have hpre := tw_pre (as := as) hC hH
  have hgo : ∀ (a0 : Array Value), va_Run p l e Rm s mi args below meth c H locs cells slots (tw_cn md1 - tw_cn md) (tw_sl md1 - tw_sl md) (F0 mi pc0 lsC (st.map (tw_rel ad))) (rest.map (tw_rel ad)) (tw_Qc D aC z b ad md v md1 σ1 a0) (fun q => z ≤ q) → W p l e Rm s mi args below meth c H locs cells slots Q (F0 mi pc0 lsC (st.map (tw_rel ad))) := by
    intro a0 hr
    refine tw_after hH hr (fun ad1 H1 locs1 g1 g2 g3 => ?_)
    have e3 : (v.map (tw_rel ad1)).toList ++ rest.map (tw_rel ad) = (v.toList ++ rest).map (tw_rel ad1) := by
      rw [List.map_append, ← tw_map_agr hrst g1]
      cases v <;> rfl
    rw [e3]
    have hL1 := hL.agr g1
    refine b5 ad1 p e s mi args below meth c H1 locs1 _ _ Rm Q lsC (pc0 + 3) hC g3 ⟨hL1.1, hL1.2.1, fun j u hu => ⟨tw_okv_mono (hL1.2.2 j u hu).1 c4 c1, (hL1.2.2 j u hu).2⟩⟩ hN (fun u hu => ?_) hnx hf hl (by omega) (by omega) (fun ad2 H2 locs2 ls2 pc2 k1 k2 k3 k4 => ?_)
    · rcases List.mem_append.mp hu with hu | hu
      · refine g2 u ?_
        cases v with
        | none => cases hu
        | some u0 => rw [List.mem_singleton.mp hu]
      · exact tw_okv_mono (hrst u hu) c4 c1
    · exact W.cs (by omega) (by omega) (k ad2 H2 locs2 ls2 pc2 (tw_agr_trans g1 k1 c4 c1) k2 k3 k4)
  have hstm : st.map (tw_rel ad) = (as.map (tw_rel ad)).reverse ++ rest.map (tw_rel ad) := by
    rw [hst, List.map_append, List.map_reverse]
  have hW8 : 2 * (F0 mi pc0 lsC (st.map (tw_rel ad))).monitorRoom + ((rest.map (tw_rel ad)).map fun v => v.category).sum ≤ 8 := by
    show 2 * 0 + _ ≤ 8
    omega
  rcases hkind with ⟨x, k0, ar, g1, g2, rfl, g4, g5⟩ | ⟨x, k0, ar, g1, g2, rfl, g5⟩ | ⟨x, g1, g2, g5⟩
  · obtain ⟨i1, i2, i3⟩ := w9 (by omega)
    have hal1 : (ar.map (tw_rel ad)).length = tw_mN a := by
      rw [g2] at hal
      simp only [List.length_cons] at hal
      rw [List.length_map]
      have : (if Nat.beq 1 0 then 0 else 1) = 1 := rfl
      omega
    have hO := tw_shI_O hc g4 (by have := tw_vwl; omega)
    have hat := tw_ws_at (ad := ad) (aC := aC) (σ := σ) hO.1
    rw [tw_cellE_O hO.2.1 (by have := tw_vwl; omega)] at hat
    have hrecv := va_recv hC.K hH.2.1 (tw_cl_at i2) hat
    rw [show ((tw_cl (tw_mC a)).1, (tw_cl (tw_mC a)).2.1, (tw_cl (tw_mC a)).2.2).1 = tw_own a from i3] at hrecv
    refine hgo _ (va_runV (n := tw_mN a) (C := tw_own a) (As := ar.map (tw_rel ad)) (b := ad k0) hfix hM ⟨callB_of (tw_mN a) hC.hts (tw_Ws_good hy hyl) rfl rfl rfl (hC.hts _ w1) (hC.hts _ g5) ⟨w2, w3, w5⟩ hroom, hC.hts _ i1, hC.hts _ (w10 g2)⟩ ⟨tw_Pc_blind, hrecv, hpre⟩ rfl hal1 hsz ?_ hW8 g1 hfit)
    rw [hstm]
    simp [tw_rel]
  · obtain ⟨i1, i2, i3⟩ := w9 (by omega)
    have hal1 : (ar.map (tw_rel ad)).length = tw_mN a := by
      rw [g2] at hal
      simp only [List.length_cons] at hal
      rw [List.length_map]
      have : (if Nat.beq 2 0 then 0 else 1) = 1 := rfl
      omega
    have hret := (w11 g2).2
    have hw : tw_Ws a = Jvm.Cond.code (tw_mY a) (tw_mB a) (tw_mL a) none :: tw_gw := by unfold tw_Ws; rw [hret]
    have hstk : st.map (tw_rel ad) = (ar.map (tw_rel ad)).reverse ++ .ref (ad k0) :: rest.map (tw_rel ad) := by
      rw [hstm]
      simp [tw_rel]
    rcases g5 with g5 | g5
    · exact hgo _ (va_runI (n := tw_mN a) (As := ar.map (tw_rel ad)) (b := ad k0) hfix hM ⟨callB_of (tw_mN a) hC.hts (tw_Ws_good hy hyl) hw rfl rfl (hC.hts _ w1) (hC.hts _ g5) ⟨w2, w3, w5⟩ hroom, (w11 g2).1, hC.hts _ i1⟩ ⟨tw_Pc_blind, hpre⟩ rfl hal1 hsz hstk hW8 g1 hfit)
    · exact hgo _ (va_runIN (n := tw_mN a) (As := ar.map (tw_rel ad)) (b := ad k0) (host := "CardLoom") hfix hM ⟨va_cnB (tw_mN a) hC.hts (tw_Ws_good hy hyl) hw rfl rfl (hC.nest _ g5) (hC.hts _ w1) ⟨w2, w3, w5⟩ hroom, (w11 g2).1, hC.hts _ i1⟩ ⟨tw_Pc_blind, hpre⟩ rfl hal1 hsz hstk hW8 g1 hfit)
  · have hal1 : (as.map (tw_rel ad)).length = tw_mN a := by
      rw [g2] at hal
      rw [List.length_map, hal]
      rfl
    rcases g5 with g5 | g5
    · exact hgo _ (va_runS (n := tw_mN a) (As := as.map (tw_rel ad)) hfix hM ⟨callB_of (tw_mN a) hC.hts (tw_Ws_good hy hyl) rfl rfl rfl (hC.hts _ w1) (hC.hts _ g5) ⟨w2, w3, w5⟩ hroom, hC.hts _ (w8 g2)⟩ ⟨tw_Pc_blind, hpre⟩ rfl hal1 hsz hstm hW8 g1 hfit)
    · exact hgo _ (va_runSN (n := tw_mN a) (As := as.map (tw_rel ad)) (host := "CardLoom") hfix hM ⟨va_cnB (tw_mN a) hC.hts (tw_Ws_good hy hyl) rfl rfl rfl (hC.nest _ g5) (hC.hts _ w1) ⟨w2, w3, w5⟩ hroom, hC.hts _ (w8 g2), trivial⟩ ⟨tw_Pc_blind, hpre⟩ rfl hal1 hsz hstm hW8 g1 hfit)
end tw_H
