/-! the table machine's cells as cells of the heap: ad gives their addresses, D and aC the numbers of the classes; z: from here on all is ours; b: the script's cell -/
def tw_rel (ad : Nat → Nat) (v : Value) : Value := match v with
  | .ref k => .ref (ad k)
  | v => v
def tw_relO (ad : Nat → Nat) (v : Value) : Option Nat := match v with
  | .ref k => some (ad k)
  | _ => none
def tw_cellE (md : tw_Md) (ad : Nat → Nat) (aC : Nat → ClassId) (σ : tw_Mem) (k : Nat) : va_E :=
  if (tw_sh k).1 < 20 then .inr ((tw_sh k).1, (List.range (tw_sh k).2).map (fun j => tw_rel ad (tw_val md σ k j)))
  else if (tw_sh k).1 = 24 then .inl (aC 4, (tw_sh k).2, .inr (.inr (.inr (.inr (fun j => tw_relO ad (tw_val md σ k j))))))
  else .inl (aC ((tw_sh k).1 - 20), (tw_sh k).2, .inl (fun j => σ k j))
def tw_ws (md : tw_Md) (ad : Nat → Nat) (aC : Nat → ClassId) (σ : tw_Mem) : va_W := (List.range (tw_cn md)).map (fun i => (ad (i + 1), tw_cellE md ad aC σ (i + 1)))
def tw_tys (aC : Nat → ClassId) : List (ClassId × Jvm.ClassFile.FieldType) := [(aC 0, .int), (aC 1, .byte), (aC 2, .char), (aC 3, .boolean), (aC 4, .object "CardLoom$Card")]
theorem tw_ws_at {md : tw_Md} {ad : Nat → Nat} {aC : Nat → ClassId} {σ : tw_Mem} {k : Nat} (h : tw_live k md = true) : (tw_ws md ad aC σ)[k - 1]? = some (ad k, tw_cellE md ad aC σ k) := by
  simp only [tw_live, Bool.and_eq_true, Nat.ble_eq] at h
  obtain ⟨h1, h2⟩ := h
  unfold tw_ws
  rw [List.getElem?_map, List.getElem?_range (by omega)]
  simp only [Option.map_some]
  rw [show k - 1 + 1 = k by omega]
/-- the list with one cell's contents changed -/
theorem tw_ws_set {md : tw_Md} {ad : Nat → Nat} {aC : Nat → ClassId} {σ σ' : tw_Mem} {k : Nat} (h : tw_live k md = true) (ho : ∀ k', 1 ≤ k' → k' ≤ tw_cn md → k' ≠ k → tw_cellE md ad aC σ' k' = tw_cellE md ad aC σ k') : (tw_ws md ad aC σ).set (k - 1) (ad k, tw_cellE md ad aC σ' k) = tw_ws md ad aC σ' := by
  simp only [tw_live, Bool.and_eq_true, Nat.ble_eq] at h
  obtain ⟨h1, h2⟩ := h
  apply List.ext_getElem?
  intro i
  unfold tw_ws
  by_cases hi : i = k - 1
  · subst hi
    rw [List.getElem?_set_self (by simp; omega), List.getElem?_map, List.getElem?_range (by omega)]
    simp only [Option.map_some]
    rw [show k - 1 + 1 = k by omega]
  · rw [List.getElem?_set_ne (Ne.symm hi), List.getElem?_map, List.getElem?_map]
    by_cases hl : i < tw_cn md
    · rw [List.getElem?_range hl]
      simp only [Option.map_some]
      rw [ho (i + 1) (by omega) (by omega) (by omega)]
    · rw [List.getElem?_eq_none (by simp; omega)]
      rfl
/-- which values a place may hold: of a reference, a cell that is there -/
def tw_okv (md : tw_Md) (v : Value) : Prop := match v with
  | .int _ => True
  | .null => True
  | .retAddr _ => True
  | .ref k => (match md with
    | none => True
    | some n => k ≤ n)
  | _ => False
def tw_agr (md : tw_Md) (ad ad1 : Nat → Nat) : Prop := match md with
  | none => ad1 = ad
  | some n => ∀ k, k ≤ n → ad1 k = ad k
theorem tw_agr_rf {md : tw_Md} {ad : Nat → Nat} : tw_agr md ad ad := by
  cases md with
  | none => rfl
  | some n => exact fun _ _ => rfl
theorem tw_rel_agr {md : tw_Md} {ad ad1 : Nat → Nat} {v : Value} (hv : tw_okv md v) (h : tw_agr md ad ad1) : tw_rel ad1 v = tw_rel ad v := by
  cases md with
  | none => rw [show ad1 = ad from h]
  | some n =>
    cases v with
    | ref k => show Value.ref (ad1 k) = Value.ref (ad k); rw [h k hv]
    | _ => rfl
theorem tw_okv_cat {md : tw_Md} {ad : Nat → Nat} {v : Value} (h : tw_okv md v) : (tw_rel ad v).category = 1 := by
  cases v <;> first | rfl | exact absurd h (fun q => q)
theorem tw_map_agr {md : tw_Md} {ad ad1 : Nat → Nat} {st : List Value} (hv : ∀ v ∈ st, tw_okv md v) (h : tw_agr md ad ad1) : st.map (tw_rel ad1) = st.map (tw_rel ad) := List.map_congr_left fun v hm => tw_rel_agr (hv v hm) h
theorem tw_okc {md : tw_Md} {v : Value} {st : List Value} (h : tw_okv md v) (hs : ∀ w ∈ st, tw_okv md w) : ∀ w ∈ v :: st, tw_okv md w := fun w hw => by
  rcases List.mem_cons.mp hw with rfl | hw
  · exact h
  · exact hs w hw
theorem tw_okt {md : tw_Md} {v : Value} {st : List Value} (hs : ∀ w ∈ v :: st, tw_okv md w) : ∀ w ∈ st, tw_okv md w := fun w hw => hs w (List.mem_cons_of_mem _ hw)
theorem tw_okh {md : tw_Md} {v : Value} {st : List Value} (hs : ∀ w ∈ v :: st, tw_okv md w) : tw_okv md v := hs v List.mem_cons_self
/-- the locals: what the list has, but where it has the mark of nothing -/
def tw_Lr (ad : Nat → Nat) (md : tw_Md) (lsA : List Value) (ls : Array Slot) : Prop := ls.size = lsA.length ∧ lv_wf ls ∧ ∀ (i : Nat) (v : Value), lsA[i]? = some v → tw_okv md v ∧ (v = tw_U ∨ ls[i]? = some (.val (tw_rel ad v)))
def tw_asc (ad : Nat → Nat) (lsA : List Value) : List (Nat × Value) := (List.range lsA.length).filterMap (fun i => match lsA[i]? with
  | some v => if v = tw_U then none else some (i, tw_rel ad v)
  | none => none)
theorem tw_asc_mem {ad : Nat → Nat} {lsA : List Value} {q : Nat × Value} : q ∈ tw_asc ad lsA ↔ ∃ v, lsA[q.1]? = some v ∧ v ≠ tw_U ∧ q.2 = tw_rel ad v := by
  unfold tw_asc
  rw [List.mem_filterMap]
  constructor
  · rintro ⟨i, hi, h⟩
    cases hl : lsA[i]? with
    | none => rw [hl] at h; cases h
    | some v =>
      rw [hl] at h
      simp only at h
      by_cases hv : v = tw_U
      · rw [if_pos hv] at h; cases h
      · rw [if_neg hv] at h
        cases h
        exact ⟨v, hl, hv, rfl⟩
  · rintro ⟨v, h1, h2, h3⟩
    refine ⟨q.1, List.mem_range.mpr (List.getElem?_eq_some_iff.mp h1).1, ?_⟩
    rw [h1]
    simp only [if_neg h2]
    rw [← h3]
theorem tw_Lr.has {ad : Nat → Nat} {md : tw_Md} {lsA : List Value} {ls : Array Slot} (h : tw_Lr ad md lsA ls) : lv_has ls lsA.length (tw_asc ad lsA) := by
  refine ⟨h.1, h.2.1, fun q hq => ?_⟩
  obtain ⟨v, h1, h2, h3⟩ := tw_asc_mem.mp hq
  rcases (h.2.2 q.1 v h1).2 with h4 | h4
  · exact absurd h4 h2
  · rw [h3]; exact h4
theorem tw_Lr.at {ad : Nat → Nat} {md : tw_Md} {lsA : List Value} {ls : Array Slot} (h : tw_Lr ad md lsA ls) {i : Nat} {v : Value} (hv : lsA[i]? = some v) (hu : v ≠ tw_U) : ls[i]? = some (.val (tw_rel ad v)) := by
  rcases (h.2.2 i v hv).2 with h4 | h4
  · exact absurd h4 hu
  · exact h4
theorem tw_Lr.set {ad : Nat → Nat} {md : tw_Md} {lsA : List Value} {ls ls1 : Array Slot} (h : tw_Lr ad md lsA ls) {a : Nat} {v : Value} (ha : a < lsA.length) (hv : tw_okv md v) (h1 : lv_has ls1 lsA.length ((a, tw_rel ad v) :: (tw_asc ad lsA).filter (fun q => !(q.1 == a) && !(q.1 + 1 == a && q.2.category == 2)))) : tw_Lr ad md (lsA.set a v) ls1 := by
  refine ⟨by rw [List.length_set]; exact h1.1, h1.2.1, fun i w hw => ?_⟩
  by_cases hi : i = a
  · subst hi
    rw [List.getElem?_set_self ha] at hw
    cases hw
    exact ⟨hv, Or.inr (h1.2.2 (i, tw_rel ad v) List.mem_cons_self)⟩
  · rw [List.getElem?_set_ne (Ne.symm hi)] at hw
    refine ⟨(h.2.2 i w hw).1, ?_⟩
    by_cases hu : w = tw_U
    · exact Or.inl hu
    · refine Or.inr (h1.2.2 (i, tw_rel ad w) (List.mem_cons_of_mem _ (List.mem_filter.mpr ⟨tw_asc_mem.mpr ⟨w, hw, hu, rfl⟩, ?_⟩)))
      have hc : (tw_rel ad w).category = 1 := tw_okv_cat (h.2.2 i w hw).1
      simp [hi, hc]
theorem tw_Lr.agr {ad ad1 : Nat → Nat} {md : tw_Md} {lsA : List Value} {ls : Array Slot} (h : tw_Lr ad md lsA ls) (ha : tw_agr md ad ad1) : tw_Lr ad1 md lsA ls := by
  refine ⟨h.1, h.2.1, fun i v hv => ⟨(h.2.2 i v hv).1, ?_⟩⟩
  rw [tw_rel_agr (h.2.2 i v hv).1 ha]
  exact (h.2.2 i v hv).2
/-- the words that a call hands on, and the links between nest mates, which go another way -/
def tw_isN (w : Jvm.Cond) : Bool := match w with
  | .methodLinkNest _ _ _ _ => true
  | _ => false
def tw_gw : List Jvm.Cond := lw_tbl.filter goodWord
def tw_nw : List Jvm.Cond := lw_tbl.filter tw_isN
def tw_Cx (D : va_G) (aC : Nat → ClassId) (z b L : Nat) (xs : Nat → Int32) (m : Nat) (p : Program) (s : State) (mi : MethodId) (args : Array Value) (meth : Method) (c : Code) : Prop :=
  p.tables.exec = Jvm.exec ∧ c.code = tw_mB m ∧ c.maxLocals = tw_mL m ∧ s.vm.findClass (tw_own m) = some mi.cls ∧ (∀ w ∈ tw_gw, w.before args s = true) ∧ (∀ w ∈ tw_nw, va_Nw w s) ∧ va_AO "CardLoom$Card" s ∧ meth.locks = false ∧ meth.sig.returnType = tw_mR m ∧ (tw_mK m = 2 → meth.name = "<init>") ∧ va_K D vwCl (tw_tys aC) s ∧ va_X b L xs s s.heap ∧ b < z ∧ z ≤ s.heap.size
def tw_Hx (D : va_G) (aC : Nat → ClassId) (z b : Nat) (ad : Nat → Nat) (md : tw_Md) (σ : tw_Mem) (s : State) (H : Heap) (locs : List Loc) : Prop :=
  ad 0 = b ∧ va_P D vwCl (tw_ws md ad aC σ) H ∧ va_D (fun q => z ≤ q) (tw_ws md ad aC σ) ∧ va_S (fun q => z ≤ q) s.heap H locs
def tw_next (m i pc : Nat) : Prop := ∃ e, tw_fetch m i = some e ∧ e.1 = pc
theorem tw_nx_next {m i pc : Nat} (h : tw_nx m i pc = true) : tw_next m i pc := by
  unfold tw_nx at h
  cases he : tw_fetch m i with
  | none => rw [he] at h; cases h
  | some e => rw [he] at h; exact ⟨e, he, Nat.eq_of_beq_eq_true h⟩
theorem tw_tg_next {m a pc : Nat} {off : Int} (h : tw_tg m a pc off = true) : ∃ t : Nat, (pc : Int) + off = (t : Int) ∧ tw_next m a t := by
  unfold tw_tg at h
  cases he : tw_fetch m a with
  | none => rw [he] at h; cases h
  | some e => rw [he] at h; exact ⟨e.1, of_decide_eq_true h, e, he, rfl⟩
theorem tw_w_mem {p : Nat} {w : Jvm.Cond} (h : tw_w p w = true) : w ∈ tw_gw := by
  unfold tw_w at h
  rw [Bool.and_eq_true, decide_eq_true_eq] at h
  exact List.mem_filter.mpr ⟨List.mem_of_getElem? h.1, h.2⟩
theorem tw_wn_mem {p : Nat} {own host : String} {x : Nat} {y : MethodName} (h : tw_wn p (.methodLinkNest own x y host) = true) : Jvm.Cond.methodLinkNest own x y host ∈ tw_nw := List.mem_filter.mpr ⟨List.mem_of_getElem? (of_decide_eq_true h), rfl⟩
theorem tw_ck1 {m i pc ln n : Nat} {ins : Jvm.ClassFile.Instr} (h : (decide (decode (tw_mB m) pc = .ok (ins, ln)) && (Nat.beq ln n && tw_nx m (i + 1) (pc + n))) = true) : decode (tw_mB m) pc = .ok (ins, n) ∧ tw_next m (i + 1) (pc + n) := by
  simp only [Bool.and_eq_true, decide_eq_true_eq] at h
  obtain ⟨h1, h2, h3⟩ := h
  have e := Nat.eq_of_beq_eq_true h2
  subst e
  exact ⟨h1, tw_nx_next h3⟩
theorem tw_ck2 {m i pc ln n : Nat} {ins : Jvm.ClassFile.Instr} {x : Bool} (h : (decide (decode (tw_mB m) pc = .ok (ins, ln)) && (Nat.beq ln n && tw_nx m (i + 1) (pc + n) && x)) = true) : (decode (tw_mB m) pc = .ok (ins, n) ∧ tw_next m (i + 1) (pc + n)) ∧ x = true := by
  simp only [Bool.and_eq_true, decide_eq_true_eq] at h
  obtain ⟨h1, ⟨h2, h3⟩, h4⟩ := h
  have e := Nat.eq_of_beq_eq_true h2
  subst e
  exact ⟨⟨h1, tw_nx_next h3⟩, h4⟩
theorem tw_p1_inv {st : List Value} {f : Int32 → List Value → Option tw_Out} {o : tw_Out} (h : tw_p1 st f = some o) : ∃ x r, st = .int x :: r ∧ f x r = some o := by
  unfold tw_p1 at h
  split at h
  · exact ⟨_, _, rfl, h⟩
  · cases h
theorem tw_p2_inv {st : List Value} {f : Int32 → Int32 → List Value → Option tw_Out} {o : tw_Out} (h : tw_p2 st f = some o) : ∃ x y r, st = .int y :: .int x :: r ∧ f x y r = some o := by
  unfold tw_p2 at h
  split at h
  · exact ⟨_, _, _, rfl, h⟩
  · cases h
theorem tw_pr_inv {st : List Value} {f : Nat → List Value → Option tw_Out} {o : tw_Out} (h : tw_pr st f = some o) : ∃ k r, st = .ref k :: r ∧ f k r = some o := by
  unfold tw_pr at h
  split at h
  · exact ⟨_, _, rfl, h⟩
  · cases h
theorem tw_pir_inv {st : List Value} {f : Int32 → Nat → List Value → Option tw_Out} {o : tw_Out} (h : tw_pir st f = some o) : ∃ j k r, st = .int j :: .ref k :: r ∧ f j k r = some o := by
  unfold tw_pir at h
  split at h
  · exact ⟨_, _, _, rfl, h⟩
  · cases h
theorem tw_piir_inv {st : List Value} {f : Int32 → Int32 → Nat → List Value → Option tw_Out} {o : tw_Out} (h : tw_piir st f = some o) : ∃ x j k r, st = .int x :: .int j :: .ref k :: r ∧ f x j k r = some o := by
  unfold tw_piir at h
  split at h
  · exact ⟨_, _, _, _, rfl, h⟩
  · cases h
