/-! an instruction of the table machine that reads or writes cells is the machine's instruction -/
section tw_B
variable {D : va_G} {aC : Nat → ClassId} {z b L : Nat} {xs : Nat → Int32} {l : Launch} {md : tw_Md} {σ σ1 : tw_Mem} {m pc i : Nat} {ls st r : List Value} {x y v : Int32} {p : Program} {s : State} {mi : MethodId} {args : Array Value} {meth : Method} {c : Code}
def tw_AdvM (l : Launch) (D : va_G) (aC : Nat → ClassId) (z b L : Nat) (xs : Nat → Int32) (md : tw_Md) (σ : tw_Mem) (m pc : Nat) (lsA stA : List Value) (i1 : Nat) (stB : List Value) (σ1 : tw_Mem) : Prop :=
  ∀ (ad : Nat → Nat) (p : Program) (e : Env) (s : State) (mi : MethodId) (args : Array Value) (below : List Frame) (meth : Method) (c : Code) (H : Heap) (locs : List Loc) (cells slots : Nat) (Rm : Room) (Q : State → Prop) (ls : Array Slot),
    tw_Cx D aC z b L xs m p s mi args meth c → tw_Hx D aC z b ad md σ s H locs → tw_Lr ad md lsA ls → lsA.length = tw_mL m → (∀ v ∈ stA, tw_okv md v) → 1 ≤ Rm.frames → 64 ≤ Rm.locals →
    (∀ (H1 : Heap) (locs1 : List Loc) (pc1 : Nat), tw_next m i1 pc1 → tw_Hx D aC z b ad md σ1 s H1 locs1 → (∀ v ∈ stB, tw_okv md v) → W p l e Rm s mi args below meth c H1 locs1 cells slots Q (F0 mi pc1 ls (stB.map (tw_rel ad)))) →
    W p l e Rm s mi args below meth c H locs cells slots Q (F0 mi pc ls (stA.map (tw_rel ad)))
theorem tw_Cx.own (h : tw_Cx D aC z b L xs m p s mi args meth c) : s.vm.findClass (tw_own m) = some mi.cls := h.2.2.2.1
theorem tw_Cx.hts (h : tw_Cx D aC z b L xs m p s mi args meth c) : ∀ w ∈ tw_gw, w.before args s = true := h.2.2.2.2.1
theorem tw_Cx.nest (h : tw_Cx D aC z b L xs m p s mi args meth c) : ∀ w ∈ tw_nw, va_Nw w s := h.2.2.2.2.2.1
theorem tw_Cx.over (h : tw_Cx D aC z b L xs m p s mi args meth c) : va_AO "CardLoom$Card" s := h.2.2.2.2.2.2.1
theorem tw_Cx.locks (h : tw_Cx D aC z b L xs m p s mi args meth c) : meth.locks = false := h.2.2.2.2.2.2.2.1
theorem tw_Cx.ret (h : tw_Cx D aC z b L xs m p s mi args meth c) : meth.sig.returnType = tw_mR m := h.2.2.2.2.2.2.2.2.1
theorem tw_Cx.ini (h : tw_Cx D aC z b L xs m p s mi args meth c) : tw_mK m = 2 → meth.name = "<init>" := h.2.2.2.2.2.2.2.2.2.1
theorem tw_Cx.K (h : tw_Cx D aC z b L xs m p s mi args meth c) : va_K D vwCl (tw_tys aC) s := h.2.2.2.2.2.2.2.2.2.2.1
theorem tw_Cx.X (h : tw_Cx D aC z b L xs m p s mi args meth c) : va_X b L xs s s.heap := h.2.2.2.2.2.2.2.2.2.2.2.1
theorem tw_Cx.bz (h : tw_Cx D aC z b L xs m p s mi args meth c) : b < z := h.2.2.2.2.2.2.2.2.2.2.2.2.1
theorem tw_Cx.zs (h : tw_Cx D aC z b L xs m p s mi args meth c) : z ≤ s.heap.size := h.2.2.2.2.2.2.2.2.2.2.2.2.2
theorem tw_map_set {α : Type} {f g : Nat → α} {n j : Nat} (hj : j < n) (ho : ∀ i, i ≠ j → g i = f i) : ((List.range n).map f).set j (g j) = (List.range n).map g := by
  apply List.ext_getElem?
  intro i
  by_cases hi : i = j
  · subst hi
    rw [List.getElem?_set_self (by simp; exact hj), List.getElem?_map, List.getElem?_range hj]
    rfl
  · rw [List.getElem?_set_ne (Ne.symm hi), List.getElem?_map, List.getElem?_map]
    by_cases hl : i < n
    · rw [List.getElem?_range hl]
      simp only [Option.map_some, ho i hi]
    · rw [List.getElem?_eq_none (by simp; omega)]
      rfl
theorem tw_cellE_O {ad : Nat → Nat} {k ci : Nat} (h : (tw_sh k).1 = ci) (h1 : ci < 20) : tw_cellE md ad aC σ k = .inr (ci, (List.range (tw_sh k).2).map (fun j => tw_rel ad (tw_val md σ k j))) := by
  unfold tw_cellE
  rw [if_pos (by omega), h]
theorem tw_cellE_A {ad : Nat → Nat} {k tag : Nat} (h : (tw_sh k).1 = tag) (h1 : 20 ≤ tag) (h2 : tag < 24) : tw_cellE md ad aC σ k = .inl (aC (tag - 20), (tw_sh k).2, .inl (fun j => σ k j)) := by
  unfold tw_cellE
  rw [if_neg (by omega), if_neg (by omega), h]
theorem tw_cellE_Q {ad : Nat → Nat} {k : Nat} (h : (tw_sh k).1 = 24) : tw_cellE md ad aC σ k = .inl (aC 4, (tw_sh k).2, .inr (.inr (.inr (.inr (fun j => tw_relO ad (tw_val md σ k j)))))) := by
  unfold tw_cellE
  rw [if_neg (by omega), if_pos h]
theorem tw_vwl : vwCl.length = 12 := rfl
def tw_E_of (e : va_E) : va_E := e
theorem tw_a_getfield {idx k ci j : Nat} (hc : tw_cn md ≤ tw_NC) (hd : decode (tw_mB m) pc = .ok (.getfield idx, 3)) (hn : tw_next m (i + 1) (pc + 3)) (hci : ci < vwCl.length) (hw : Jvm.Cond.fieldLink (tw_own m) idx ((tw_cl ci).2.1 j).1 ((tw_cl ci).2.1 j).2.1 ((tw_cl ci).2.1 j).2.2.1 ∈ tw_gw) (hk : tw_isO k ci md = true) (hj : j < (tw_sh k).2) :
    tw_AdvS l D aC z b L xs md σ m pc ls (.ref k :: r) (i + 1) ls (tw_val md σ k j :: r) := by
  intro ad p e s mi args below meth c H locs cells slots Rm Q lsC hC hH hL hN hS hf hl kk
  have hlen := tw_vwl
  obtain ⟨h1, h2, h3, h4, h5⟩ := tw_shI_O hc hk (by omega)
  have hat := tw_ws_at (ad := ad) (aC := aC) (σ := σ) h1
  rw [tw_cellE_O h2 (by omega)] at hat
  refine va_get (own := tw_own m) (C := (tw_cl ci).1) (T := (tw_cl ci).2.1) (N := (tw_cl ci).2.2) (Ts := tw_gw) (v := tw_rel ad (tw_val md σ k j)) hC.1 hC.2.1 hC.hts (tw_in ci h3) hC.own hC.K hH.2.1 (k - 1) hat (tw_cl_at h3) j (by omega) (hC.hts _ hw) (fun _ h => h) ?_ hd (kk lsC _ hn hL hN (tw_okc tw_okv_val (tw_okt hS)))
  rw [List.getElem?_map, List.getElem?_range hj]
  rfl
theorem tw_a_put {idx k ci j : Nat} {u : Value} (hc : tw_cn md ≤ tw_NC) (hd : decode (tw_mB m) pc = .ok (.putfield idx, 3)) (hn : tw_next m (i + 1) (pc + 3)) (hci : ci < vwCl.length) (hw : Jvm.Cond.fieldLink (tw_own m) idx ((tw_cl ci).2.1 j).1 ((tw_cl ci).2.1 j).2.1 ((tw_cl ci).2.1 j).2.2.1 ∈ tw_gw) (hfin : ((tw_cl ci).2.1 j).2.2.2 = false ∨ (((tw_cl ci).2.1 j).2.2.2 = true ∧ tw_mK m = 2 ∧ ((tw_cl ci).2.1 j).1 = tw_own m)) (hk : tw_isO k ci md = true) (hj : j < (tw_sh k).2)
    (hnar : ∀ ad : Nat → Nat, narrow (tw_tyf ci j) (tw_rel ad u) = tw_rel ad u) (hfit : ∀ ad : Nat → Nat, fits (tw_tyf ci j) (tw_rel ad u) = true) (hself : tw_okv md u → tw_val md σ1 k j = u) (hother : ∀ k' j', ¬ (k' = k ∧ j' = j) → σ1 k' j' = σ k' j') :
    tw_AdvM l D aC z b L xs md σ m pc ls (u :: .ref k :: r) (i + 1) r σ1 := by
  intro ad p e s mi args below meth c H locs cells slots Rm Q lsC hC hH hL hN hS hf hl kk
  have hlen := tw_vwl
  obtain ⟨h1, h2, h3, h4, h5⟩ := tw_shI_O hc hk (by omega)
  have hat := tw_ws_at (ad := ad) (aC := aC) (σ := σ) h1
  rw [tw_cellE_O h2 (by omega)] at hat
  have hu := hself (tw_okh hS)
  have e1 : ((List.range (tw_sh k).2).map (fun j => tw_rel ad (tw_val md σ k j))).set j (tw_rel ad u) = (List.range (tw_sh k).2).map (fun j => tw_rel ad (tw_val md σ1 k j)) := by
    rw [← hu]
    exact tw_map_set (g := fun j => tw_rel ad (tw_val md σ1 k j)) hj (fun i0 hi0 => by rw [tw_val_congr (hother k i0 (fun q => hi0 q.2))])
  have e2 : (tw_ws md ad aC σ).set (k - 1) (ad k, .inr (ci, ((List.range (tw_sh k).2).map (fun j => tw_rel ad (tw_val md σ k j))).set j (tw_rel ad u))) = tw_ws md ad aC σ1 := by
    rw [e1, ← tw_cellE_O (aC := aC) h2 (by omega)]
    exact tw_ws_set h1 (fun k' _ _ hne => tw_cellE_congr (fun j' => hother k' j' (fun q => hne q.1)))
  rcases hfin with hfin | ⟨hfin, hK2, hdecl⟩
  · refine va_put (own := tw_own m) (C := (tw_cl ci).1) (T := (tw_cl ci).2.1) (N := (tw_cl ci).2.2) (Ts := tw_gw) (v := tw_rel ad u) (ty := tw_tyf ci j) hC.1 hC.2.1 hC.hts (tw_in ci h3) (tw_tyf ci) (tw_tyf_ok ci h3) (tw_nm ci h3) hC.own hC.K hH.2.1 hH.2.2.1 hH.2.2.2 (k - 1) hat (tw_cl_at h3) j (by omega) (hC.hts _ hw) (fun _ h => h) hfin (tw_tyf_ok ci h3 j (by omega)) (hnar ad) (hfit ad) (by simp; exact hj) hd (fun H1 locs1 hP1 hD1 hS1 => ?_)
    rw [e2] at hP1 hD1
    exact kk H1 locs1 _ hn ⟨hH.1, hP1, hD1, hS1⟩ (tw_okt (tw_okt hS))
  · refine va_putF (own := tw_own m) (C := (tw_cl ci).1) (T := (tw_cl ci).2.1) (N := (tw_cl ci).2.2) (Ts := tw_gw) (v := tw_rel ad u) (ty := tw_tyf ci j) hC.1 hC.2.1 hC.hts (tw_in ci h3) (tw_tyf ci) (tw_tyf_ok ci h3) (tw_nm ci h3) hC.own hC.K hH.2.1 hH.2.2.1 hH.2.2.2 (k - 1) hat (tw_cl_at h3) j (by omega) (hC.hts _ hw) (fun _ h => h) hfin (hC.ini hK2) hdecl (tw_tyf_ok ci h3 j (by omega)) (hnar ad) (hfit ad) (by simp; exact hj) hd (fun H1 locs1 hP1 hD1 hS1 => ?_)
    rw [e2] at hP1 hD1
    exact kk H1 locs1 _ hn ⟨hH.1, hP1, hD1, hS1⟩ (tw_okt (tw_okt hS))
theorem tw_a_putI {idx k ci j : Nat} (hc : tw_cn md ≤ tw_NC) (hd : decode (tw_mB m) pc = .ok (.putfield idx, 3)) (hn : tw_next m (i + 1) (pc + 3)) (hci : ci < vwCl.length) (hw : Jvm.Cond.fieldLink (tw_own m) idx ((tw_cl ci).2.1 j).1 ((tw_cl ci).2.1 j).2.1 ((tw_cl ci).2.1 j).2.2.1 ∈ tw_gw) (hfin : ((tw_cl ci).2.1 j).2.2.2 = false ∨ (((tw_cl ci).2.1 j).2.2.2 = true ∧ tw_mK m = 2 ∧ ((tw_cl ci).2.1 j).1 = tw_own m)) (hk : tw_isO k ci md = true) (hj : j < (tw_sh k).2)
    (hkd : (tw_kd k j).1 = 0) (hb : tw_tyf ci j = .int ∨ (tw_tyf ci j = .boolean ∧ (x = 0 ∨ x = 1))) : tw_AdvM l D aC z b L xs md σ m pc ls (.int x :: .ref k :: r) (i + 1) r (tw_upd σ k j x) := by
  refine tw_a_put hc hd hn hci hw hfin hk hj (fun ad => ?_) (fun ad => ?_) (fun _ => ?_) (fun k' j' h => if_neg h)
  · rcases hb with hb | ⟨hb, hx | hx⟩
    · rw [hb]; rfl
    · rw [hb, hx]; rfl
    · rw [hb, hx]; rfl
  · rcases hb with hb | ⟨hb, hx | hx⟩
    · rw [hb]; rfl
    · rw [hb, hx]; rfl
    · rw [hb, hx]; rfl
  · cases hq : tw_kd k j with
    | mk t1 t2 =>
      rw [hq] at hkd
      have h0 : t1 = 0 := hkd
      subst h0
      unfold tw_val
      rw [hq]
      show Value.int (tw_upd σ k j x k j) = _
      unfold tw_upd
      rw [if_pos ⟨rfl, rfl⟩]
theorem tw_refKind_ok {ty : Jvm.ClassFile.FieldType} (h : refKind ty = true) (a : Nat) : narrow ty (.ref a) = .ref a ∧ fits ty (.ref a) = true := by
  cases ty <;> first | exact ⟨rfl, rfl⟩ | cases h
theorem tw_a_putR {idx k ci j q : Nat} (hc : tw_cn md ≤ tw_NC) (hd : decode (tw_mB m) pc = .ok (.putfield idx, 3)) (hn : tw_next m (i + 1) (pc + 3)) (hci : ci < vwCl.length) (hw : Jvm.Cond.fieldLink (tw_own m) idx ((tw_cl ci).2.1 j).1 ((tw_cl ci).2.1 j).2.1 ((tw_cl ci).2.1 j).2.2.1 ∈ tw_gw) (hfin : ((tw_cl ci).2.1 j).2.2.2 = false ∨ (((tw_cl ci).2.1 j).2.2.2 = true ∧ tw_mK m = 2 ∧ ((tw_cl ci).2.1 j).1 = tw_own m)) (hk : tw_isO k ci md = true) (hj : j < (tw_sh k).2)
    (h1 : 1 ≤ (tw_kd k j).1) (h2 : (tw_kd k j).2 = q) (h3 : md.isSome = true ∨ 2 ≤ (tw_kd k j).1) : tw_AdvM l D aC z b L xs md σ m pc ls (.ref q :: .ref k :: r) (i + 1) r (tw_upd σ k j 1) := by
  have hlen := tw_vwl
  obtain ⟨-, -, -, -, h5⟩ := tw_shI_O hc hk (by omega)
  have hr : refKind (tw_tyf ci j) = true := by
    rcases h5 j hj with ⟨h6, -⟩ | ⟨-, h6⟩
    · omega
    · exact h6
  refine tw_a_put hc hd hn hci hw hfin hk hj (fun ad => (tw_refKind_ok hr _).1) (fun ad => (tw_refKind_ok hr _).2) (fun hu => ?_) (fun k' j' h => if_neg h)
  have e0 : tw_upd σ k j 1 k j = 1 := if_pos ⟨rfl, rfl⟩
  have e9 : ¬ (1 : Int32) = 0 := by decide
  cases hq : tw_kd k j with
  | mk t1 t2 =>
    rw [hq] at h1 h2 h3
    unfold tw_val
    rw [hq, e0]
    cases t1 with
    | zero => exact absurd h1 (Nat.not_succ_le_zero 0)
    | succ t1 =>
      cases md with
      | none =>
        have h4 : ¬ t1 = 0 := by
          rcases h3 with h3 | h3
          · cases h3
          · have h3 : 2 ≤ t1 + 1 := h3
            omega
        simp only [if_neg h4, if_neg e9]
        rw [← h2]
      | some n =>
        have h4 : ¬ n < t2 := by
          have h6 : q ≤ n := hu
          have h7 : t2 = q := h2
          omega
        simp only [if_neg h4, if_neg e9]
        rw [← h2]
theorem tw_a_iald {k : Nat} (hd : decode (tw_mB m) pc = .ok (.iaload, 1)) (hn : tw_next m (i + 1) (pc + 1)) (hk : tw_isA k 20 md x = true) : tw_AdvS l D aC z b L xs md σ m pc ls (.int x :: .ref k :: r) (i + 1) ls (.int (σ k x.toNatClampNeg) :: r) := by
  intro ad p e s mi args below meth c H locs cells slots Rm Q lsC hC hH hL hN hS hf hl kk
  obtain ⟨h1, h2, h3⟩ := tw_isA_at hk
  have hat := tw_ws_at (ad := ad) (aC := aC) (σ := σ) h1
  rw [tw_cellE_A h2 (by omega) (by omega)] at hat
  exact va_iald (f := fun j => σ k j) hC.1 hC.2.1 hC.K hH.2.1 (k - 1) 0 hat rfl h3 hd (kk lsC _ hn hL hN (tw_okc trivial (tw_okt (tw_okt hS))))
theorem tw_a_bald {k : Nat} (hd : decode (tw_mB m) pc = .ok (.baload, 1)) (hn : tw_next m (i + 1) (pc + 1)) (hk : tw_isA k 21 md x = true) : tw_AdvS l D aC z b L xs md σ m pc ls (.int x :: .ref k :: r) (i + 1) ls (.int (σ k x.toNatClampNeg) :: r) := by
  intro ad p e s mi args below meth c H locs cells slots Rm Q lsC hC hH hL hN hS hf hl kk
  obtain ⟨h1, h2, h3⟩ := tw_isA_at hk
  have hat := tw_ws_at (ad := ad) (aC := aC) (σ := σ) h1
  rw [tw_cellE_A h2 (by omega) (by omega)] at hat
  exact va_bald (f := fun j => σ k j) hC.1 hC.2.1 hC.K hH.2.1 (k - 1) 1 hat rfl h3 hd (kk lsC _ hn hL hN (tw_okc trivial (tw_okt (tw_okt hS))))
theorem tw_a_zald {k : Nat} (hd : decode (tw_mB m) pc = .ok (.baload, 1)) (hn : tw_next m (i + 1) (pc + 1)) (hk : tw_isA k 23 md x = true) : tw_AdvS l D aC z b L xs md σ m pc ls (.int x :: .ref k :: r) (i + 1) ls (.int (σ k x.toNatClampNeg) :: r) := by
  intro ad p e s mi args below meth c H locs cells slots Rm Q lsC hC hH hL hN hS hf hl kk
  obtain ⟨h1, h2, h3⟩ := tw_isA_at hk
  have hat := tw_ws_at (ad := ad) (aC := aC) (σ := σ) h1
  rw [tw_cellE_A h2 (by omega) (by omega)] at hat
  exact va_zald (f := fun j => σ k j) hC.1 hC.2.1 hC.K hH.2.1 (k - 1) 3 hat rfl h3 hd (kk lsC _ hn hL hN (tw_okc trivial (tw_okt (tw_okt hS))))
theorem tw_a_cald {k : Nat} (hd : decode (tw_mB m) pc = .ok (.caload, 1)) (hn : tw_next m (i + 1) (pc + 1)) (hk : tw_isA k 22 md x = true) : tw_AdvS l D aC z b L xs md σ m pc ls (.int x :: .ref k :: r) (i + 1) ls (.int (σ k x.toNatClampNeg) :: r) := by
  intro ad p e s mi args below meth c H locs cells slots Rm Q lsC hC hH hL hN hS hf hl kk
  obtain ⟨h1, h2, h3⟩ := tw_isA_at hk
  have hat := tw_ws_at (ad := ad) (aC := aC) (σ := σ) h1
  rw [tw_cellE_A h2 (by omega) (by omega)] at hat
  exact va_cald (f := fun j => σ k j) hC.1 hC.2.1 hC.K hH.2.1 (k - 1) 2 hat rfl h3 hd (kk lsC _ hn hL hN (tw_okc trivial (tw_okt (tw_okt hS))))
theorem tw_a_iast {k : Nat} (hd : decode (tw_mB m) pc = .ok (.iastore, 1)) (hn : tw_next m (i + 1) (pc + 1)) (hk : tw_isA k 20 md y = true) : tw_AdvM l D aC z b L xs md σ m pc ls (.int x :: .int y :: .ref k :: r) (i + 1) r (tw_upd σ k y.toNatClampNeg x) := by
  intro ad p e s mi args below meth c H locs cells slots Rm Q lsC hC hH hL hN hS hf hl kk
  obtain ⟨h1, h2, h3⟩ := tw_isA_at hk
  have hat := tw_ws_at (ad := ad) (aC := aC) (σ := σ) h1
  rw [tw_cellE_A h2 (by omega) (by omega)] at hat
  have e2 : (tw_ws md ad aC σ).set (k - 1) (ad k, .inl (aC 0, (tw_sh k).2, .inl (upd (fun j => σ k j) y.toNatClampNeg x))) = tw_ws md ad aC (tw_upd σ k y.toNatClampNeg x) := by
    have e1 : (tw_E_of (.inl (aC 0, (tw_sh k).2, .inl (upd (fun j => σ k j) y.toNatClampNeg x)))) = tw_cellE md ad aC (tw_upd σ k y.toNatClampNeg x) k := by
      rw [tw_cellE_A h2 (by omega) (by omega)]
      unfold tw_E_of
      congr 4
      funext j
      unfold upd tw_upd
      by_cases hj : j = y.toNatClampNeg
      · rw [if_pos hj, if_pos ⟨rfl, hj⟩]
      · rw [if_neg hj, if_neg (fun q => hj q.2)]
    unfold tw_E_of at e1
    rw [e1]
    exact tw_ws_set h1 (fun k' _ _ hne => tw_cellE_congr (fun j' => tw_upd_ne hne j'))
  refine va_iast (f := fun j => σ k j) hC.1 hC.2.1 hC.K hH.2.1 hH.2.2.1 hH.2.2.2 (k - 1) 0 hat rfl h3 hd (fun H1 locs1 hP1 hD1 hS1 => ?_)
  rw [e2] at hP1 hD1
  exact kk H1 locs1 _ hn ⟨hH.1, hP1, hD1, hS1⟩ (tw_okt (tw_okt (tw_okt hS)))
theorem tw_a_bast {k : Nat} (hd : decode (tw_mB m) pc = .ok (.bastore, 1)) (hn : tw_next m (i + 1) (pc + 1)) (hk : tw_isA k 21 md y = true) : tw_AdvM l D aC z b L xs md σ m pc ls (.int x :: .int y :: .ref k :: r) (i + 1) r (tw_upd σ k y.toNatClampNeg (vp_nar .byte x)) := by
  intro ad p e s mi args below meth c H locs cells slots Rm Q lsC hC hH hL hN hS hf hl kk
  obtain ⟨h1, h2, h3⟩ := tw_isA_at hk
  have hat := tw_ws_at (ad := ad) (aC := aC) (σ := σ) h1
  rw [tw_cellE_A h2 (by omega) (by omega)] at hat
  have e2 : (tw_ws md ad aC σ).set (k - 1) (ad k, .inl (aC 1, (tw_sh k).2, .inl (upd (fun j => σ k j) y.toNatClampNeg (vp_nar .byte x)))) = tw_ws md ad aC (tw_upd σ k y.toNatClampNeg (vp_nar .byte x)) := by
    have e1 : (tw_E_of (.inl (aC 1, (tw_sh k).2, .inl (upd (fun j => σ k j) y.toNatClampNeg (vp_nar .byte x))))) = tw_cellE md ad aC (tw_upd σ k y.toNatClampNeg (vp_nar .byte x)) k := by
      rw [tw_cellE_A h2 (by omega) (by omega)]
      unfold tw_E_of
      congr 4
      funext j
      unfold upd tw_upd
      by_cases hj : j = y.toNatClampNeg
      · rw [if_pos hj, if_pos ⟨rfl, hj⟩]
      · rw [if_neg hj, if_neg (fun q => hj q.2)]
    unfold tw_E_of at e1
    rw [e1]
    exact tw_ws_set h1 (fun k' _ _ hne => tw_cellE_congr (fun j' => tw_upd_ne hne j'))
  refine va_bast (f := fun j => σ k j) hC.1 hC.2.1 hC.K hH.2.1 hH.2.2.1 hH.2.2.2 (k - 1) 1 hat rfl h3 hd (fun H1 locs1 hP1 hD1 hS1 => ?_)
  rw [e2] at hP1 hD1
  exact kk H1 locs1 _ hn ⟨hH.1, hP1, hD1, hS1⟩ (tw_okt (tw_okt (tw_okt hS)))
theorem tw_a_zast {k : Nat} (hd : decode (tw_mB m) pc = .ok (.bastore, 1)) (hn : tw_next m (i + 1) (pc + 1)) (hk : tw_isA k 23 md y = true) : tw_AdvM l D aC z b L xs md σ m pc ls (.int x :: .int y :: .ref k :: r) (i + 1) r (tw_upd σ k y.toNatClampNeg (vp_nar .boolean x)) := by
  intro ad p e s mi args below meth c H locs cells slots Rm Q lsC hC hH hL hN hS hf hl kk
  obtain ⟨h1, h2, h3⟩ := tw_isA_at hk
  have hat := tw_ws_at (ad := ad) (aC := aC) (σ := σ) h1
  rw [tw_cellE_A h2 (by omega) (by omega)] at hat
  have e2 : (tw_ws md ad aC σ).set (k - 1) (ad k, .inl (aC 3, (tw_sh k).2, .inl (upd (fun j => σ k j) y.toNatClampNeg (vp_nar .boolean x)))) = tw_ws md ad aC (tw_upd σ k y.toNatClampNeg (vp_nar .boolean x)) := by
    have e1 : (tw_E_of (.inl (aC 3, (tw_sh k).2, .inl (upd (fun j => σ k j) y.toNatClampNeg (vp_nar .boolean x))))) = tw_cellE md ad aC (tw_upd σ k y.toNatClampNeg (vp_nar .boolean x)) k := by
      rw [tw_cellE_A h2 (by omega) (by omega)]
      unfold tw_E_of
      congr 4
      funext j
      unfold upd tw_upd
      by_cases hj : j = y.toNatClampNeg
      · rw [if_pos hj, if_pos ⟨rfl, hj⟩]
      · rw [if_neg hj, if_neg (fun q => hj q.2)]
    unfold tw_E_of at e1
    rw [e1]
    exact tw_ws_set h1 (fun k' _ _ hne => tw_cellE_congr (fun j' => tw_upd_ne hne j'))
  refine va_zast (f := fun j => σ k j) hC.1 hC.2.1 hC.K hH.2.1 hH.2.2.1 hH.2.2.2 (k - 1) 3 hat rfl h3 hd (fun H1 locs1 hP1 hD1 hS1 => ?_)
  rw [e2] at hP1 hD1
  exact kk H1 locs1 _ hn ⟨hH.1, hP1, hD1, hS1⟩ (tw_okt (tw_okt (tw_okt hS)))
theorem tw_a_cast {k : Nat} (hd : decode (tw_mB m) pc = .ok (.castore, 1)) (hn : tw_next m (i + 1) (pc + 1)) (hk : tw_isA k 22 md y = true) : tw_AdvM l D aC z b L xs md σ m pc ls (.int x :: .int y :: .ref k :: r) (i + 1) r (tw_upd σ k y.toNatClampNeg (vp_nar .char x)) := by
  intro ad p e s mi args below meth c H locs cells slots Rm Q lsC hC hH hL hN hS hf hl kk
  obtain ⟨h1, h2, h3⟩ := tw_isA_at hk
  have hat := tw_ws_at (ad := ad) (aC := aC) (σ := σ) h1
  rw [tw_cellE_A h2 (by omega) (by omega)] at hat
  have e2 : (tw_ws md ad aC σ).set (k - 1) (ad k, .inl (aC 2, (tw_sh k).2, .inl (upd (fun j => σ k j) y.toNatClampNeg (vp_nar .char x)))) = tw_ws md ad aC (tw_upd σ k y.toNatClampNeg (vp_nar .char x)) := by
    have e1 : (tw_E_of (.inl (aC 2, (tw_sh k).2, .inl (upd (fun j => σ k j) y.toNatClampNeg (vp_nar .char x))))) = tw_cellE md ad aC (tw_upd σ k y.toNatClampNeg (vp_nar .char x)) k := by
      rw [tw_cellE_A h2 (by omega) (by omega)]
      unfold tw_E_of
      congr 4
      funext j
      unfold upd tw_upd
      by_cases hj : j = y.toNatClampNeg
      · rw [if_pos hj, if_pos ⟨rfl, hj⟩]
      · rw [if_neg hj, if_neg (fun q => hj q.2)]
    unfold tw_E_of at e1
    rw [e1]
    exact tw_ws_set h1 (fun k' _ _ hne => tw_cellE_congr (fun j' => tw_upd_ne hne j'))
  refine va_cast (f := fun j => σ k j) hC.1 hC.2.1 hC.K hH.2.1 hH.2.2.1 hH.2.2.2 (k - 1) 2 hat rfl h3 hd (fun H1 locs1 hP1 hD1 hS1 => ?_)
  rw [e2] at hP1 hD1
  exact kk H1 locs1 _ hn ⟨hH.1, hP1, hD1, hS1⟩ (tw_okt (tw_okt (tw_okt hS)))
theorem tw_kd_Q {k j : Nat} (hc : tw_cn md ≤ tw_NC) (h : tw_live k md = true) (h1 : (tw_sh k).1 = 24) (hj : j < (tw_sh k).2) : (tw_kd k j).1 = 1 := by
  have h4 := tw_shI_at hc h
  unfold tw_shI at h4
  rw [if_neg (by simp [Nat.blt_eq, h1])] at h4
  simp only [Bool.and_eq_true] at h4
  have h5 := h4.2
  rw [h1, if_pos (by rfl)] at h5
  exact Nat.eq_of_beq_eq_true (List.all_eq_true.mp h5 j (List.mem_range.mpr hj))
theorem tw_rfO {ad : Nat → Nat} {k j : Nat} (h : (tw_kd k j).1 = 1) : va_rf (tw_relO ad (tw_val md σ k j)) = tw_rel ad (tw_val md σ k j) := by
  cases hq : tw_kd k j with
  | mk t1 t2 =>
    rw [hq] at h
    have h0 : t1 = 1 := h
    subst h0
    unfold tw_val
    rw [hq]
    cases md with
    | none => rfl
    | some n =>
      by_cases h1 : σ k j = 0
      · simp only [if_pos h1]; rfl
      · by_cases h2 : n < t2
        · simp only [if_neg h1, if_pos h2]; rfl
        · simp only [if_neg h1, if_neg h2]; rfl
theorem tw_a_aald {k : Nat} (hc : tw_cn md ≤ tw_NC) (hd : decode (tw_mB m) pc = .ok (.aaload, 1)) (hn : tw_next m (i + 1) (pc + 1)) (hk : tw_isA k 24 md x = true) : tw_AdvS l D aC z b L xs md σ m pc ls (.int x :: .ref k :: r) (i + 1) ls (tw_val md σ k x.toNatClampNeg :: r) := by
  intro ad p e s mi args below meth c H locs cells slots Rm Q lsC hC hH hL hN hS hf hl kk
  obtain ⟨h1, h2, h3⟩ := tw_isA_at hk
  have hat := tw_ws_at (ad := ad) (aC := aC) (σ := σ) h1
  rw [tw_cellE_Q h2] at hat
  have hlt : x.toNatClampNeg < (tw_sh k).2 := Nat.not_le.mp fun q => h3 (Or.inr q)
  have hv := tw_rfO (md := md) (σ := σ) (ad := ad) (tw_kd_Q hc h1 h2 hlt)
  refine va_aldq (f := fun j => tw_relO ad (tw_val md σ k j)) hC.1 hC.2.1 hC.K hH.2.1 (k - 1) 4 hat rfl h3 hd ?_
  show W p l e Rm s mi args below meth c H locs cells slots Q (F0 mi (pc + 1) lsC (va_rf (tw_relO ad (tw_val md σ k x.toNatClampNeg)) :: r.map (tw_rel ad)))
  rw [hv]
  exact kk lsC _ hn hL hN (tw_okc tw_okv_val (tw_okt (tw_okt hS)))
theorem tw_a_aast {k q : Nat} (hc : tw_cn md ≤ tw_NC) (hd : decode (tw_mB m) pc = .ok (.aastore, 1)) (hn : tw_next m (i + 1) (pc + 1)) (hk : tw_isA k 24 md y = true) (hq : tw_isO q 0 md = true) (hq1 : (tw_kd k y.toNatClampNeg).1 = 1) (hq2 : (tw_kd k y.toNatClampNeg).2 = q) (hm : md.isSome = true) : tw_AdvM l D aC z b L xs md σ m pc ls (.ref q :: .int y :: .ref k :: r) (i + 1) r (tw_upd σ k y.toNatClampNeg 1) := by
  intro ad p e s mi args below meth c H locs cells slots Rm Q lsC hC hH hL hN hS hf hl kk
  obtain ⟨h1, h2, h3⟩ := tw_isA_at hk
  have hat := tw_ws_at (ad := ad) (aC := aC) (σ := σ) h1
  rw [tw_cellE_Q h2] at hat
  obtain ⟨g1, g2, -⟩ := tw_shI_O hc hq (by decide)
  have hatq := tw_ws_at (ad := ad) (aC := aC) (σ := σ) g1
  rw [tw_cellE_O g2 (by decide)] at hatq
  have hlt : y.toNatClampNeg < (tw_sh k).2 := Nat.not_le.mp fun q => h3 (Or.inr q)
  have hself : tw_relO ad (tw_val md (tw_upd σ k y.toNatClampNeg 1) k y.toNatClampNeg) = some (ad q) := by
    have e0 : tw_upd σ k y.toNatClampNeg 1 k y.toNatClampNeg = 1 := if_pos ⟨rfl, rfl⟩
    have e9 : ¬ (1 : Int32) = 0 := by decide
    cases hz : tw_kd k y.toNatClampNeg with
    | mk t1 t2 =>
      rw [hz] at hq1 hq2
      have h8 : t1 = 1 := hq1
      have h9 : t2 = q := hq2
      subst h8; subst h9
      unfold tw_val
      rw [hz, e0]
      cases md with
      | none => cases hm
      | some n =>
        have h4 : ¬ n < t2 := by
          have h6 : t2 ≤ n := tw_okh hS
          omega
        simp only [if_neg h4, if_neg e9]
        rfl
  have e2 : (tw_ws md ad aC σ).set (k - 1) (ad k, .inl (aC 4, (tw_sh k).2, .inr (.inr (.inr (.inr (va_up (fun j => tw_relO ad (tw_val md σ k j)) y.toNatClampNeg (some (ad q)))))))) = tw_ws md ad aC (tw_upd σ k y.toNatClampNeg 1) := by
    have e1 : (tw_E_of (.inl (aC 4, (tw_sh k).2, .inr (.inr (.inr (.inr (va_up (fun j => tw_relO ad (tw_val md σ k j)) y.toNatClampNeg (some (ad q))))))))) = tw_cellE md ad aC (tw_upd σ k y.toNatClampNeg 1) k := by
      rw [tw_cellE_Q h2]
      unfold tw_E_of
      congr 7
      funext j
      unfold va_up
      by_cases hj : j = y.toNatClampNeg
      · rw [if_pos hj, hj, hself]
      · rw [if_neg hj, tw_val_congr (σ := σ) (σ' := tw_upd σ k y.toNatClampNeg 1) (if_neg (fun q => hj q.2))]
    unfold tw_E_of at e1
    rw [e1]
    exact tw_ws_set h1 (fun k' _ _ hne => tw_cellE_congr (fun j' => tw_upd_ne hne j'))
  refine va_astq (f := fun j => tw_relO ad (tw_val md σ k j)) hC.1 hC.2.1 hC.K hH.2.1 hH.2.2.1 hH.2.2.2 (k - 1) 4 (q - 1) 0 hat rfl hatq rfl h3 hd (fun H1 locs1 hP1 hD1 hS1 => ?_)
  rw [e2] at hP1 hD1
  exact kk H1 locs1 _ hn ⟨hH.1, hP1, hD1, hS1⟩ (tw_okt (tw_okt (tw_okt hS)))
theorem tw_a_alen {k : Nat} (hc : tw_cn md ≤ tw_NC) (hd : decode (tw_mB m) pc = .ok (.arraylength, 1)) (hn : tw_next m (i + 1) (pc + 1)) (hk : tw_live k md = true) (ht : 20 ≤ (tw_sh k).1) : tw_AdvS l D aC z b L xs md σ m pc ls (.ref k :: r) (i + 1) ls (.int (Int32.ofNat (tw_sh k).2) :: r) := by
  intro ad p e s mi args below meth c H locs cells slots Rm Q lsC hC hH hL hN hS hf hl kk
  have hat := tw_ws_at (ad := ad) (aC := aC) (σ := σ) hk
  have h9 := (tw_kd_A hc hk ht).2
  have kk1 := kk lsC _ hn hL hN (tw_okc (v := .int (Int32.ofNat (tw_sh k).2)) trivial (tw_okt hS))
  rcases (show (tw_sh k).1 = 20 ∨ (tw_sh k).1 = 21 ∨ (tw_sh k).1 = 22 ∨ (tw_sh k).1 = 23 ∨ (tw_sh k).1 = 24 by omega) with h2 | h2 | h2 | h2 | h2
  · rw [tw_cellE_A h2 (by omega) (by omega)] at hat
    exact va_alen (ty := .int) hC.1 hC.2.1 hC.K hH.2.1 (k - 1) 0 hat rfl rfl hd kk1
  · rw [tw_cellE_A h2 (by omega) (by omega)] at hat
    exact va_alen (ty := .byte) hC.1 hC.2.1 hC.K hH.2.1 (k - 1) 1 hat rfl rfl hd kk1
  · rw [tw_cellE_A h2 (by omega) (by omega)] at hat
    exact va_alen (ty := .char) hC.1 hC.2.1 hC.K hH.2.1 (k - 1) 2 hat rfl rfl hd kk1
  · rw [tw_cellE_A h2 (by omega) (by omega)] at hat
    exact va_alen (ty := .boolean) hC.1 hC.2.1 hC.K hH.2.1 (k - 1) 3 hat rfl rfl hd kk1
  · rw [tw_cellE_Q h2] at hat
    exact va_alen (ty := .object "CardLoom$Card") hC.1 hC.2.1 hC.K hH.2.1 (k - 1) 4 hat rfl rfl hd kk1
theorem tw_a_sld (hd : decode (tw_mB m) pc = .ok (.iaload, 1)) (hn : tw_next m (i + 1) (pc + 1)) (hx : vp_in x L) : tw_AdvS l D aC z b L xs md σ m pc ls (.int x :: .ref 0 :: r) (i + 1) ls (.int (xs x.toNatClampNeg) :: r) := by
  intro ad p e s mi args below meth c H locs cells slots Rm Q lsC hC hH hL hN hS hf hl kk
  have h0 : (.int x :: .ref 0 :: r : List Value).map (tw_rel ad) = .int x :: .ref b :: r.map (tw_rel ad) := by
    rw [← hH.1]; rfl
  rw [h0]
  have hbz := hC.bz
  have hzs := hC.zs
  exact va_sld hC.1 hC.2.1 hC.X (by omega) (by omega) hH.2.2.2 hx hd (kk lsC _ hn hL hN (tw_okc trivial (tw_okt (tw_okt hS))))
theorem tw_a_slen (hd : decode (tw_mB m) pc = .ok (.arraylength, 1)) (hn : tw_next m (i + 1) (pc + 1)) : tw_AdvS l D aC z b L xs md σ m pc ls (.ref 0 :: r) (i + 1) ls (.int (Int32.ofNat L) :: r) := by
  intro ad p e s mi args below meth c H locs cells slots Rm Q lsC hC hH hL hN hS hf hl kk
  have h0 : (.ref 0 :: r : List Value).map (tw_rel ad) = .ref b :: r.map (tw_rel ad) := by
    rw [← hH.1]; rfl
  rw [h0]
  have hbz := hC.bz
  have hzs := hC.zs
  exact va_slen hC.1 hC.2.1 hC.X (by omega) (by omega) hH.2.2.2 hd (kk lsC _ hn hL hN (tw_okc trivial (tw_okt hS)))
end tw_B
