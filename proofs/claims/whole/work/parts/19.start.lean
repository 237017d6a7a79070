/-! the law's walk, out of a run of the table machine -/
theorem tw_inst0 : Jvm.Cond.instantiable (tw_cl 0).1 (tw_cl 0).2.2 ∈ tw_gw := tw_w_mem (p := 149) (by decide +kernel)
theorem tw_inst1 : Jvm.Cond.instantiable (tw_cl 1).1 (tw_cl 1).2.2 ∈ tw_gw := tw_w_mem (p := 101) (by decide +kernel)
theorem tw_inst2 : Jvm.Cond.instantiable (tw_cl 2).1 (tw_cl 2).2.2 ∈ tw_gw := tw_w_mem (p := 234) (by decide +kernel)
theorem tw_inst3 : Jvm.Cond.instantiable (tw_cl 3).1 (tw_cl 3).2.2 ∈ tw_gw := tw_w_mem (p := 124) (by decide +kernel)
theorem tw_inst4 : Jvm.Cond.instantiable (tw_cl 4).1 (tw_cl 4).2.2 ∈ tw_gw := tw_w_mem (p := 184) (by decide +kernel)
theorem tw_inst5 : Jvm.Cond.instantiable (tw_cl 5).1 (tw_cl 5).2.2 ∈ tw_gw := tw_w_mem (p := 250) (by decide +kernel)
theorem tw_inst6 : Jvm.Cond.instantiable (tw_cl 6).1 (tw_cl 6).2.2 ∈ tw_gw := tw_w_mem (p := 93) (by decide +kernel)
theorem tw_inst7 : Jvm.Cond.instantiable (tw_cl 7).1 (tw_cl 7).2.2 ∈ tw_gw := tw_w_mem (p := 205) (by decide +kernel)
theorem tw_inst8 : Jvm.Cond.instantiable (tw_cl 8).1 (tw_cl 8).2.2 ∈ tw_gw := tw_w_mem (p := 221) (by decide +kernel)
theorem tw_inst9 : Jvm.Cond.instantiable (tw_cl 9).1 (tw_cl 9).2.2 ∈ tw_gw := tw_w_mem (p := 79) (by decide +kernel)
theorem tw_inst10 : Jvm.Cond.instantiable (tw_cl 10).1 (tw_cl 10).2.2 ∈ tw_gw := tw_w_mem (p := 71) (by decide +kernel)
theorem tw_inst11 : Jvm.Cond.instantiable (tw_cl 11).1 (tw_cl 11).2.2 ∈ tw_gw := tw_w_mem (p := 1030) (by decide +kernel)
theorem tw_inst : ∀ ci, ci < vwCl.length → Jvm.Cond.instantiable (tw_cl ci).1 (tw_cl ci).2.2 ∈ tw_gw
  | 0, _ => tw_inst0
  | 1, _ => tw_inst1
  | 2, _ => tw_inst2
  | 3, _ => tw_inst3
  | 4, _ => tw_inst4
  | 5, _ => tw_inst5
  | 6, _ => tw_inst6
  | 7, _ => tw_inst7
  | 8, _ => tw_inst8
  | 9, _ => tw_inst9
  | 10, _ => tw_inst10
  | 11, _ => tw_inst11
  | n + 12, h => absurd h (by show ¬ n + 12 < 12; omega)
theorem tw_arr_int : Jvm.Cond.arrayClass .int ∈ tw_gw := tw_w_mem (p := 122) (by decide +kernel)
theorem tw_arr_byte : Jvm.Cond.arrayClass .byte ∈ tw_gw := tw_w_mem (p := 91) (by decide +kernel)
theorem tw_arr_char : Jvm.Cond.arrayClass .char ∈ tw_gw := tw_w_mem (p := 148) (by decide +kernel)
theorem tw_arr_boolean : Jvm.Cond.arrayClass .boolean ∈ tw_gw := tw_w_mem (p := 1158) (by decide +kernel)
theorem tw_overw : lw_tbl[99]? = some (Jvm.Cond.arrayOver (.object "CardLoom$Card")) := by decide +kernel
theorem tw_arrK {s : State} {args : Array Value} {ty : Jvm.ClassFile.FieldType} (hr : refKind ty = false) (h : (Jvm.Cond.arrayClass ty).before args s = true) : ∃ cA, ArrOfT s cA ty ∧ va_RA s cA ty := by
  obtain ⟨cA, kA, comp, h1, h2, h3⟩ := Cond.arrayClass_spec h
  refine ⟨cA, fun n z => ⟨fun k h => (by cases h), kA, h2, comp, h3⟩, ?_⟩
  cases ty <;> first | exact h1 | cases hr
theorem tw_arrQ {s : State} {C : String} (h : va_AO C s) : ∃ cA, ArrOfT s cA (.object C) ∧ va_RA s cA (.object C) := by
  obtain ⟨comp, c, k, h1, h2, h3, h4, h5⟩ := Cond.arrayOver_spec h
  exact ⟨c, fun n z => ⟨fun k h => (by cases h), k, h3, comp, h4⟩, k, comp, h3, h4, h1, h5⟩
theorem tw_K_all {s : State} {args : Array Value} (hts : ∀ w ∈ tw_gw, w.before args s = true) (hao : va_AO "CardLoom$Card" s) : ∃ (D : va_G) (aC : Nat → ClassId), va_K D vwCl (tw_tys aC) s := by
  have hc : ∀ ci : Nat, ∃ q : ClassId × (Nat → Nat), ci < vwCl.length → u_Kn s (tw_cl ci).1 (tw_cl ci).2.1 (tw_cl ci).2.2 q.1 q.2 := fun ci => by
    by_cases h : ci < vwCl.length
    · obtain ⟨cC, iS, hk⟩ := u_known (C := (tw_cl ci).1) (T := (tw_cl ci).2.1) (N := (tw_cl ci).2.2) hts (tw_in ci h) (hts _ (tw_inst ci h))
      exact ⟨(cC, iS), fun _ => hk⟩
    · exact ⟨(0, fun _ => 0), fun g => absurd g h⟩
  obtain ⟨a0, g0⟩ := tw_arrK (ty := .int) rfl (hts _ tw_arr_int)
  obtain ⟨a1, g1⟩ := tw_arrK (ty := .byte) rfl (hts _ tw_arr_byte)
  obtain ⟨a2, g2⟩ := tw_arrK (ty := .char) rfl (hts _ tw_arr_char)
  obtain ⟨a3, g3⟩ := tw_arrK (ty := .boolean) rfl (hts _ tw_arr_boolean)
  obtain ⟨a4, g4⟩ := tw_arrQ hao
  refine ⟨(fun ci => (Classical.choose (hc ci)).1, fun ci => (Classical.choose (hc ci)).2), fun t => match t with
    | 0 => a0
    | 1 => a1
    | 2 => a2
    | 3 => a3
    | _ => a4, fun ci q hq => ?_, fun k q hq => ?_⟩
  · have hl := (List.getElem?_eq_some_iff.mp hq).1
    have h1 := tw_cl_at hl
    rw [hq] at h1
    cases h1
    exact Classical.choose_spec (hc ci) hl
  · match k, hq with
    | 0, hq => cases hq; exact g0
    | 1, hq => cases hq; exact g1
    | 2, hq => cases hq; exact g2
    | 3, hq => cases hq; exact g3
    | 4, hq => cases hq; exact g4
    | k + 5, hq => cases hq
theorem tw_law_mB : tw_mB tw_LAW = code := rfl
theorem tw_law_mR : tw_mR tw_LAW = some .boolean := rfl
theorem tw_law_lt : tw_LAW < tw_NM := by decide
theorem tw_start {p : Program} {e : Env} {s : State} {m : MethodId} {below : List Frame} {meth : Method} {c : Code} (l : Launch) {b L : Nat} {xs : Nat → Int32} {Z : State → Prop} {σ1 : tw_Mem}
    (hx : p.tables.exec = Jvm.exec) (hb : c.code = code) (hr : meth.sig.returnType = ret) (hml : c.maxLocals = 4) (hown : s.vm.findClass "CardLoomLaw" = some m.cls) (hts : ∀ w ∈ lw_tbl, w.before #[Value.ref b] s = true) (hX : va_X b L xs s s.heap) (hbl : b < s.heap.size) (hlocks : meth.locks = false)
    (hp : tw_R L xs 100 tw_LAW (0, tw_ent tw_LAW [.ref 0], [], some 0, fun _ _ => 0) (some (.int 1), none, σ1))
    (hend : ∀ (pc : Nat) (H : Heap) (ls : Array Slot), decode code pc = .ok (.ireturn, 1) → W p l e room_1 s m #[Value.ref b] below meth c H [] 600000 7302250 Z (F0 m pc ls [.int 1])) :
    W p l e room_1 s m #[Value.ref b] below meth c s.heap [] 0 0 Z (entryFrame m ([Value.ref b] : List Value).toArray 4) := by
  have htg : ∀ w ∈ tw_gw, w.before #[Value.ref b] s = true := fun w hw => hts w (List.mem_filter.mp hw).1
  have hao : va_AO "CardLoom$Card" s := va_AO.of (hts _ (List.mem_of_getElem? tw_overw))
  have hnw : ∀ w ∈ tw_nw, va_Nw w s := fun w hw => va_Nw.of (by
    have hn := (List.mem_filter.mp hw).2
    cases w <;> first | rfl | cases hn) (hts w (List.mem_filter.mp hw).1)
  obtain ⟨D, aC, hK⟩ := tw_K_all htg hao
  have hS := tw_sound (l := l) (D := D) (aC := aC) (z := s.heap.size) (b := b) hp
  obtain ⟨-, -, -, -, hS⟩ := hS tw_law_lt (Nat.zero_le _)
  have hC : tw_Cx D aC s.heap.size b L xs tw_LAW p s m #[Value.ref b] meth c := ⟨hx, hb, hml, hown, htg, hnw, hao, hlocks, hr, (fun q => by cases q), hK, hX, hbl, Nat.le_refl _⟩
  have hH : tw_Hx D aC s.heap.size b (fun _ => b) (some 0) (fun _ _ => 0) s s.heap [] := by
    have hw : tw_ws (some 0) (fun _ => b) aC (fun _ _ => 0) = [] := rfl
    refine ⟨rfl, ?_, ?_, va_S.rf⟩
    · rw [hw]
      intro k q h
      simp at h
    · rw [hw]
      refine ⟨?_, ?_⟩
      · intro i j p q h
        simp at h
      · intro k q h
        simp at h
  have hL := tw_Lr_ent (ad := fun _ => b) (md := some 0) (as := [Value.ref 0]) (n := 4) (fun u hu => by rw [List.mem_singleton.mp hu]; exact Nat.le_refl 0) (by decide)
  rw [show ([Value.ref b] : List Value).toArray = (([Value.ref 0] : List Value).map (tw_rel (fun _ => b))).toArray from rfl, entry_eq m (([Value.ref 0] : List Value).map (tw_rel (fun _ => b))) (fun v hv => by rw [List.mem_singleton.mp hv]; rfl)]
  refine hS (fun _ => b) p e s m #[Value.ref b] below meth c s.heap [] 0 0 room_1 Z _ 0 hC hH hL rfl (fun u hu => by cases hu) (tw_pc0_at tw_law_lt) (by decide) (by decide) (show 0 + (tw_cn none - tw_cn (some 0)) ≤ room_1.cells by decide +kernel) (show 0 + (tw_sl none - tw_sl (some 0)) ≤ room_1.slots by decide +kernel) (fun ad1 H1 locs1 ls1 pc1 k1 k2 k3 k4 => ?_)
  rcases k3 with ⟨g1, -⟩ | ⟨-, -, g3 | ⟨k, g3⟩⟩ | ⟨-, -, g3⟩
  · refine va_forget k2.2.2.2.2.2 (W.widen (k := 600000) (n := 7302250) ?_ ?_ (hend pc1 H1 ls1 g1))
    · show 0 + (tw_cn none - tw_cn (some 0)) ≤ 600000
      decide +kernel
    · show 0 + (tw_sl none - tw_sl (some 0)) ≤ 7302250
      decide +kernel
  · cases g3
  · cases g3
  · cases g3
