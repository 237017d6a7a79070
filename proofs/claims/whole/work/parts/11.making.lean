/-! the instructions that make cells -/
section tw_C
variable {D : va_G} {aC : Nat → ClassId} {z b L : Nat} {xs : Nat → Int32} {l : Launch} {md : tw_Md} {σ σ1 : tw_Mem} {m pc i n : Nat} {ls st r : List Value} {x y v : Int32} {p : Program} {s : State} {mi : MethodId} {args : Array Value} {meth : Method} {c : Code}
def tw_AdvN (l : Launch) (D : va_G) (aC : Nat → ClassId) (z b L : Nat) (xs : Nat → Int32) (n : Nat) (σ : tw_Mem) (m pc : Nat) (lsA stA : List Value) (i1 : Nat) (stB : List Value) : Prop :=
  ∀ (ad : Nat → Nat) (p : Program) (e : Env) (s : State) (mi : MethodId) (args : Array Value) (below : List Frame) (meth : Method) (c : Code) (H : Heap) (locs : List Loc) (cells slots : Nat) (Rm : Room) (Q : State → Prop) (ls : Array Slot),
    tw_Cx D aC z b L xs m p s mi args meth c → tw_Hx D aC z b ad (some n) σ s H locs → tw_Lr ad (some n) lsA ls → lsA.length = tw_mL m → (∀ v ∈ stA, tw_okv (some n) v) → 1 ≤ Rm.frames → 64 ≤ Rm.locals → cells + 1 ≤ Rm.cells → slots + (tw_sh (n + 1)).2 ≤ Rm.slots →
    (∀ (ad1 : Nat → Nat) (H1 : Heap) (pc1 : Nat), tw_agr (some n) ad ad1 → tw_next m i1 pc1 → tw_Hx D aC z b ad1 (some (n + 1)) (tw_born σ (n + 1)) s H1 locs → W p l e Rm s mi args below meth c H1 locs (cells + 1) (slots + (tw_sh (n + 1)).2) Q (F0 mi pc1 ls (stB.map (tw_rel ad1)))) →
    W p l e Rm s mi args below meth c H locs cells slots Q (F0 mi pc ls (stA.map (tw_rel ad)))
def tw_adq (ad : Nat → Nat) (n q : Nat) : Nat → Nat := fun k => if k = n + 1 then q else ad k
theorem tw_adq_self {ad : Nat → Nat} {n q : Nat} : tw_adq ad n q (n + 1) = q := if_pos rfl
theorem tw_adq_agr {ad : Nat → Nat} {n q : Nat} : tw_agr (some n) ad (tw_adq ad n q) := fun k hk => if_neg (by omega)
/-- an old place reads as before -/
theorem tw_born_val {ad : Nat → Nat} {n q k j : Nat} (hk : k ≤ n) : tw_rel (tw_adq ad n q) (tw_val (some (n + 1)) (tw_born σ (n + 1)) k j) = tw_rel ad (tw_val (some n) σ k j) := by
  have hk1 : ¬ k = n + 1 := by omega
  cases hq : tw_kd k j with
  | mk t1 t2 =>
    have hb : tw_born σ (n + 1) k j = if t2 = n + 1 ∧ t1 ≠ 0 then 0 else σ k j := by
      unfold tw_born
      rw [hq]
      by_cases h : t2 = n + 1 ∧ t1 ≠ 0
      · rw [if_pos (Or.inr h), if_pos h]
      · rw [if_neg (fun g => g.elim hk1 h), if_neg h]
    unfold tw_val
    rw [hq, hb]
    cases t1 with
    | zero =>
      have : ¬ (t2 = n + 1 ∧ (0 : Nat) ≠ 0) := fun g => g.2 rfl
      rw [if_neg this]
      rfl
    | succ t1 =>
      by_cases ht : t2 = n + 1
      · rw [if_pos ⟨ht, by omega⟩]
        simp only [if_true]
        by_cases h0 : σ k j = 0
        · rw [if_pos h0]; rfl
        · rw [if_neg h0, if_pos (by omega)]; rfl
      · rw [if_neg (fun g => ht g.1)]
        by_cases h0 : σ k j = 0
        · simp only [if_pos h0]; rfl
        · simp only [if_neg h0]
          by_cases h1 : n < t2
          · rw [if_pos (show n + 1 < t2 by omega), if_pos h1]; rfl
          · rw [if_neg (show ¬ n + 1 < t2 by omega), if_neg h1]
            show Value.ref (tw_adq ad n q t2) = Value.ref (ad t2)
            unfold tw_adq
            rw [if_neg ht]
theorem tw_relO_rel {ad : Nat → Nat} {v : Value} : tw_relO ad v = (match tw_rel ad v with
  | .ref a => some a
  | _ => none) := by
  cases v <;> rfl
theorem tw_kd_N {k : Nat} {md : tw_Md} (hc : tw_cn md ≤ tw_NC) (h : tw_live k md = true) (h1 : 20 ≤ (tw_sh k).1) (h2 : (tw_sh k).1 ≠ 24) (j : Nat) : (tw_kd k j).1 = 0 := by
  have h4 := tw_shI_at hc h
  unfold tw_shI at h4
  rw [if_neg (by simp [Nat.blt_eq]; omega)] at h4
  simp only [Bool.and_eq_true] at h4
  have h5 := h4.2
  rw [if_neg (fun g => h2 (Nat.eq_of_beq_eq_true g))] at h5
  unfold tw_kd
  rw [of_decide_eq_true h5]
  rfl
theorem tw_born_cell {ad : Nat → Nat} {n q k : Nat} (hn : n < tw_NC) (h1 : 1 ≤ k) (hk : k ≤ n) : tw_cellE (some (n + 1)) (tw_adq ad n q) aC (tw_born σ (n + 1)) k = tw_cellE (some n) ad aC σ k := by
  have hl : tw_live k (some n) = true := by simp only [tw_live, Bool.and_eq_true, Nat.ble_eq]; exact ⟨h1, hk⟩
  unfold tw_cellE
  by_cases a : (tw_sh k).1 < 20
  · rw [if_pos a, if_pos a]
    simp only [tw_born_val hk]
  · rw [if_neg a, if_neg a]
    by_cases a2 : (tw_sh k).1 = 24
    · rw [if_pos a2, if_pos a2]
      simp only [tw_relO_rel, tw_born_val hk]
    · rw [if_neg a2, if_neg a2]
      have h5 : ∀ j, tw_born σ (n + 1) k j = σ k j := fun j => by
        unfold tw_born
        rw [if_neg (fun g => g.elim (by omega) (fun g => g.2 (tw_kd_N (md := some n) (Nat.le_of_lt hn) hl (by omega) a2 j)))]
      simp only [h5]
theorem tw_born_ws {ad : Nat → Nat} {n q : Nat} {E : va_E} (hn : n < tw_NC) (hE : tw_cellE (some (n + 1)) (tw_adq ad n q) aC (tw_born σ (n + 1)) (n + 1) = E) : tw_ws (some n) ad aC σ ++ [(q, E)] = tw_ws (some (n + 1)) (tw_adq ad n q) aC (tw_born σ (n + 1)) := by
  unfold tw_ws
  show _ = (List.range (n + 1)).map _
  rw [List.range_succ, List.map_append]
  congr 1
  · refine List.map_congr_left fun i hi => ?_
    have hi := List.mem_range.mp hi
    have hi : i < n := hi
    rw [tw_born_cell hn (by omega) (by omega)]
    unfold tw_adq
    rw [if_neg (by omega)]
  · simp only [List.map_cons, List.map_nil]
    rw [hE, tw_adq_self]
theorem tw_born_new {n j : Nat} : tw_born σ (n + 1) (n + 1) j = 0 := if_pos (Or.inl rfl)
theorem tw_a_new {idx ci : Nat} (hc : n < tw_NC) (hd : decode (tw_mB m) pc = .ok (.new idx, 3)) (hn : tw_next m (i + 1) (pc + 3)) (hci : ci < vwCl.length) (h1 : Jvm.Cond.classLink (tw_own m) idx (tw_cl ci).1 ∈ tw_gw) (h2 : Jvm.Cond.instantiable (tw_cl ci).1 (tw_cl ci).2.2 ∈ tw_gw) (h3 : Jvm.Cond.initialized (tw_cl ci).1 ∈ tw_gw) (hsh : (tw_sh (n + 1)).1 = ci) :
    tw_AdvN l D aC z b L xs n σ m pc ls st (i + 1) (.ref (n + 1) :: st) := by
  intro ad p e s mi args below meth c H locs cells slots Rm Q lsC hC hH hL hN hS hf hl hce hsl kk
  have hlen := tw_vwl
  have hk : tw_isO (n + 1) ci (some (n + 1)) = true := by
    simp only [tw_isO, tw_live, Bool.and_eq_true, Nat.ble_eq]
    exact ⟨⟨by omega, Nat.le_refl _⟩, by rw [hsh]; exact Nat.beq_refl _⟩
  obtain ⟨-, -, -, g4, g5⟩ := tw_shI_O (show tw_cn (some (n + 1)) ≤ tw_NC from hc) hk (by omega)
  refine va_new (own := tw_own m) (C := (tw_cl ci).1) (T := (tw_cl ci).2.1) (N := (tw_cl ci).2.2) (Ts := tw_gw) (ci := ci) (fs := (List.range (tw_sh (n + 1)).2).map (fun j => tw_rel ad (tw_val (some (n + 1)) (tw_born σ (n + 1)) (n + 1) j))) hC.1 hC.2.1 hC.hts (tw_in ci hci) (tw_tyf ci) (tw_tyf_ok ci hci) hC.own (hC.hts _ h1) (hC.hts _ h2) (hC.hts _ h3) hC.K hH.2.1 hH.2.2.1 hH.2.2.2 (fun q hq => Nat.le_trans hC.zs hq) (tw_cl_at hci) (fun j hj => ?_) hce (by rw [← g4]; exact hsl) hd (fun q H1 hP1 hD1 hS1 => ?_)
  · rw [← g4] at hj
    unfold vp_V
    rw [List.getD_eq_getElem?_getD, List.getElem?_map, List.getElem?_range hj]
    simp only [Option.map_some, Option.getD_some]
    unfold tw_val
    rw [tw_born_new]
    rcases g5 j hj with ⟨e1, e2⟩ | ⟨e1, e2⟩
    · cases hq : tw_kd (n + 1) j with
      | mk t1 t2 =>
        rw [hq] at e1
        have e1 : t1 = 0 := e1
        subst e1
        rcases e2 with e2 | e2 <;> rw [e2] <;> rfl
    · cases hq : tw_kd (n + 1) j with
      | mk t1 t2 =>
        rw [hq] at e1
        cases t1 with
        | zero => exact absurd rfl e1
        | succ t1 =>
          simp only [if_true]
          generalize tw_tyf ci j = ty at e2
          cases ty <;> first | rfl | cases e2
  · have e1 : tw_cellE (some (n + 1)) (tw_adq ad n q) aC (tw_born σ (n + 1)) (n + 1) = .inr (ci, (List.range (tw_sh (n + 1)).2).map (fun j => tw_rel ad (tw_val (some (n + 1)) (tw_born σ (n + 1)) (n + 1) j))) := by
      rw [tw_cellE_O hsh (by omega)]
      congr 2
      refine List.map_congr_left fun j _ => ?_
      have e2 : tw_val (some (n + 1)) (tw_born σ (n + 1)) (n + 1) j = .int 0 ∨ tw_val (some (n + 1)) (tw_born σ (n + 1)) (n + 1) j = .null := by
        unfold tw_val
        rw [tw_born_new]
        cases tw_kd (n + 1) j with
        | mk t1 t2 =>
          cases t1 with
          | zero => exact Or.inl rfl
          | succ t1 => exact Or.inr (if_pos rfl)
      rcases e2 with e2 | e2 <;> rw [e2] <;> rfl
    rw [tw_born_ws hc e1] at hP1 hD1
    have k1 := kk (tw_adq ad n q) H1 _ tw_adq_agr hn ⟨by rw [← hH.1]; exact if_neg (by omega), hP1, hD1, hS1⟩
    rw [← g4]
    have e3 : (.ref (n + 1) :: st : List Value).map (tw_rel (tw_adq ad n q)) = .ref q :: st.map (tw_rel ad) := by
      rw [List.map_cons, tw_map_agr hS tw_adq_agr]
      show Value.ref (tw_adq ad n q (n + 1)) :: _ = _
      rw [tw_adq_self]
    rw [e3] at k1
    exact k1
theorem tw_RA_eq {c1 c2 : ClassId} {ty : Jvm.ClassFile.FieldType} (h1 : va_RA s c1 ty) (h2 : va_RA s c2 ty) : c1 = c2 := by
  cases ty with
  | object C =>
    obtain ⟨_, _, -, -, -, h1⟩ := h1
    obtain ⟨_, _, -, -, -, h2⟩ := h2
    exact Option.some.inj (h1.symm.trans h2)
  | _ => exact Option.some.inj ((show s.vm.findClass _ = some c1 from h1).symm.trans h2)
theorem tw_K_last {cA : ClassId} {ty : Jvm.ClassFile.FieldType} (h : va_K D vwCl (tw_tys aC ++ [(cA, ty)]) s) {t : Nat} (ht : (tw_tys aC)[t]? = some (aC t, ty)) (hl : t < 5) : cA = aC t := by
  have h1 := (h.2 5 (cA, ty) rfl).2
  have h2 := (h.2 t (aC t, ty) (by rw [List.getElem?_append_left (by exact hl)]; exact ht)).2
  exact tw_RA_eq h1 h2
theorem tw_a_newarr {tag : Nat} {atype : Jvm.ClassFile.ArrayType} {ty : Jvm.ClassFile.FieldType} (hc : n < tw_NC) (hd : decode (tw_mB m) pc = .ok (.newarray atype, 2)) (hn : tw_next m (i + 1) (pc + 2)) (hty : newarray.typeOf atype = ty) (hw : Jvm.Cond.arrayClass ty ∈ tw_gw) (hsh : (tw_sh (n + 1)).1 = tag) (h20 : 20 ≤ tag) (h24 : tag < 24)
    (htys : ∀ aC : Nat → ClassId, (tw_tys aC)[tag - 20]? = some (aC (tag - 20), ty)) (hdef : defaultValue ty = .int 0) (hby : componentBytes ty ≤ 8) (hx0 : ¬ x < 0) (hx : x.toNatClampNeg = (tw_sh (n + 1)).2) :
    tw_AdvN l D aC z b L xs n σ m pc ls (.int x :: st) (i + 1) (.ref (n + 1) :: st) := by
  intro ad p e s mi args below meth c H locs cells slots Rm Q lsC hC hH hL hN hS hf hl hce hsl kk
  have hlv : tw_live (n + 1) (some (n + 1)) = true := by
    simp only [tw_live, Bool.and_eq_true, Nat.ble_eq]
    exact ⟨by omega, Nat.le_refl _⟩
  have h4 := (tw_kd_A (show tw_cn (some (n + 1)) ≤ tw_NC from hc) hlv (by omega)).1
  refine va_newa (N' := (tw_sh (n + 1)).2) (a0 := ((tw_sh (n + 1)).2, .inl (fun _ => 0))) (ty := ty) hC.1 hC.2.1 (by rw [hty]; exact hC.hts _ hw) hty hC.K hH.2.1 hH.2.2.1 hH.2.2.2 (fun q hq => Nat.le_trans hC.zs hq) (fun cA => by rw [hdef]; rfl) hx0 hx (Nat.le_trans (Nat.mul_le_mul h4 hby) (by decide)) hce hsl hd (fun q cA H1 hK1 hP1 hD1 hS1 => ?_)
  have e0 := tw_K_last hK1 (htys aC) (by omega)
  have e1 : tw_cellE (some (n + 1)) (tw_adq ad n q) aC (tw_born σ (n + 1)) (n + 1) = .inl (cA, (tw_sh (n + 1)).2, .inl (fun _ => 0)) := by
    rw [tw_cellE_A hsh h20 h24, e0]
    simp only [tw_born_new]
  rw [tw_born_ws hc e1] at hP1 hD1
  have k1 := kk (tw_adq ad n q) H1 _ tw_adq_agr hn ⟨by rw [← hH.1]; exact if_neg (by omega), hP1, hD1, hS1⟩
  have e3 : (.ref (n + 1) :: st : List Value).map (tw_rel (tw_adq ad n q)) = .ref q :: st.map (tw_rel ad) := by
    rw [List.map_cons, tw_map_agr (tw_okt hS) tw_adq_agr]
    show Value.ref (tw_adq ad n q (n + 1)) :: _ = _
    rw [tw_adq_self]
  rw [e3] at k1
  exact k1
theorem tw_a_newq {idx : Nat} (hc : n < tw_NC) (hd : decode (tw_mB m) pc = .ok (.anewarray idx, 3)) (hn : tw_next m (i + 1) (pc + 3)) (hw : Jvm.Cond.classLink (tw_own m) idx "CardLoom$Card" ∈ tw_gw) (hsh : (tw_sh (n + 1)).1 = 24) (hx0 : ¬ x < 0) (hx : x.toNatClampNeg = (tw_sh (n + 1)).2) :
    tw_AdvN l D aC z b L xs n σ m pc ls (.int x :: st) (i + 1) (.ref (n + 1) :: st) := by
  intro ad p e s mi args below meth c H locs cells slots Rm Q lsC hC hH hL hN hS hf hl hce hsl kk
  have hlv : tw_live (n + 1) (some (n + 1)) = true := by
    simp only [tw_live, Bool.and_eq_true, Nat.ble_eq]
    exact ⟨by omega, Nat.le_refl _⟩
  have h4 := (tw_kd_A (show tw_cn (some (n + 1)) ≤ tw_NC from hc) hlv (by omega)).1
  refine va_newq (N' := (tw_sh (n + 1)).2) hC.1 hC.2.1 hC.own (hC.hts _ hw) hC.over hC.K hH.2.1 hH.2.2.1 hH.2.2.2 (fun q hq => Nat.le_trans hC.zs hq) hx0 hx (Nat.le_trans (Nat.mul_le_mul h4 (Nat.le_refl 4)) (by decide)) hce hsl hd (fun q cA H1 hK1 hP1 hD1 hS1 => ?_)
  have e0 := tw_K_last (t := 4) hK1 rfl (by omega)
  have e1 : tw_cellE (some (n + 1)) (tw_adq ad n q) aC (tw_born σ (n + 1)) (n + 1) = .inl (cA, (tw_sh (n + 1)).2, .inr (.inr (.inr (.inr (fun _ => none))))) := by
    rw [tw_cellE_Q hsh, e0]
    congr 7
    funext j
    have e2 : tw_val (some (n + 1)) (tw_born σ (n + 1)) (n + 1) j = .int 0 ∨ tw_val (some (n + 1)) (tw_born σ (n + 1)) (n + 1) j = .null := by
      unfold tw_val
      rw [tw_born_new]
      cases tw_kd (n + 1) j with
      | mk t1 t2 =>
        cases t1 with
        | zero => exact Or.inl rfl
        | succ t1 => exact Or.inr (if_pos rfl)
    rcases e2 with e2 | e2 <;> rw [e2] <;> rfl
  rw [tw_born_ws hc e1] at hP1 hD1
  have k1 := kk (tw_adq ad n q) H1 _ tw_adq_agr hn ⟨by rw [← hH.1]; exact if_neg (by omega), hP1, hD1, hS1⟩
  have e3 : (.ref (n + 1) :: st : List Value).map (tw_rel (tw_adq ad n q)) = .ref q :: st.map (tw_rel ad) := by
    rw [List.map_cons, tw_map_agr (tw_okt hS) tw_adq_agr]
    show Value.ref (tw_adq ad n q (n + 1)) :: _ = _
    rw [tw_adq_self]
  rw [e3] at k1
  exact k1
end tw_C
