/-! what a run of the table machine comes to, the machine comes to -/
section tw_F
variable {D : va_G} {aC : Nat → ClassId} {z b L : Nat} {xs : Nat → Int32} {l : Launch} {md md1 : tw_Md} {σ σ1 : tw_Mem} {d m pc ln i a bb : Nat} {ls st : List Value} {zz : Int32} {ts : List Nat} {g : tw_Cfg} {r : tw_Ret}
def tw_retk (m pc : Nat) (v : Option Value) : Prop :=
  (decode (tw_mB m) pc = .ok (.ireturn, 1) ∧ ∃ x : Int32, v = some (.int x) ∧ (tw_mR m = some .int ∨ (tw_mR m = some .boolean ∧ (x = 0 ∨ x = 1)))) ∨
  (decode (tw_mB m) pc = .ok (.areturn, 1) ∧ (tw_mR m).any refKind = true ∧ (v = some .null ∨ ∃ k, v = some (.ref k))) ∨
  (decode (tw_mB m) pc = .ok (.return_, 1) ∧ tw_mR m = none ∧ v = none)
def tw_Sd (l : Launch) (D : va_G) (aC : Nat → ClassId) (z b L : Nat) (xs : Nat → Int32) (d m : Nat) (g : tw_Cfg) (r : tw_Ret) : Prop :=
  m < tw_NM → tw_cn g.2.2.2.1 ≤ tw_NC →
  tw_cn g.2.2.2.1 ≤ tw_cn r.2.1 ∧ tw_sl g.2.2.2.1 ≤ tw_sl r.2.1 ∧ tw_cn r.2.1 ≤ tw_NC ∧ (g.2.2.2.1 = none → r.2.1 = none) ∧
  ∀ (ad : Nat → Nat) (p : Program) (e : Env) (s : State) (mi : MethodId) (args : Array Value) (below : List Frame) (meth : Method) (c : Code) (H : Heap) (locs : List Loc) (cells slots : Nat) (Rm : Room) (Q : State → Prop) (ls : Array Slot) (pc : Nat),
    tw_Cx D aC z b L xs m p s mi args meth c → tw_Hx D aC z b ad g.2.2.2.1 g.2.2.2.2 s H locs → tw_Lr ad g.2.2.2.1 g.2.1 ls → g.2.1.length = tw_mL m → (∀ v ∈ g.2.2.1, tw_okv g.2.2.2.1 v) → tw_next m g.1 pc → d + 1 ≤ Rm.frames → 64 * (d + 1) ≤ Rm.locals →
    cells + (tw_cn r.2.1 - tw_cn g.2.2.2.1) ≤ Rm.cells → slots + (tw_sl r.2.1 - tw_sl g.2.2.2.1) ≤ Rm.slots →
    (∀ (ad1 : Nat → Nat) (H1 : Heap) (locs1 : List Loc) (ls1 : Array Slot) (pc1 : Nat), tw_agr g.2.2.2.1 ad ad1 → tw_Hx D aC z b ad1 r.2.1 r.2.2 s H1 locs1 → tw_retk m pc1 r.1 → (∀ v, r.1 = some v → tw_okv r.2.1 v) →
      W p l e Rm s mi args below meth c H1 locs1 (cells + (tw_cn r.2.1 - tw_cn g.2.2.2.1)) (slots + (tw_sl r.2.1 - tw_sl g.2.2.2.1)) Q (F0 mi pc1 ls1 (r.1.toList.map (tw_rel ad1)))) →
    W p l e Rm s mi args below meth c H locs cells slots Q (F0 mi pc ls (g.2.2.1.map (tw_rel ad)))
theorem tw_agr_trans {ad ad1 ad2 : Nat → Nat} (h1 : tw_agr md ad ad1) (h2 : tw_agr md1 ad1 ad2) (h3 : md = none → md1 = none) (h4 : tw_cn md ≤ tw_cn md1) : tw_agr md ad ad2 := by
  cases md with
  | none =>
    rw [h3 rfl] at h2
    exact Eq.trans h2 h1
  | some n =>
    cases md1 with
    | none => rw [show ad2 = ad1 from h2]; exact h1
    | some n1 => exact fun k hk => (h2 k (Nat.le_trans hk h4)).trans (h1 k hk)
theorem tw_s_step {e : tw_Ent} (he : tw_fetch m i = some e) (hs : tw_stepE L xs e i ls st md σ = some (.inl g)) (ih : tw_Sd l D aC z b L xs d m g r) : tw_Sd l D aC z b L xs d m (i, ls, st, md, σ) r := by
  obtain ⟨gi, gl, gs, gm, gσ⟩ := g
  obtain ⟨rv, rm, rσ⟩ := r
  intro hm hc
  obtain ⟨pc0, ln, ins, a, bb, zz, ts⟩ := e
  have hk := tw_okE_at hm i _ he
  obtain ⟨a1, a2, a3, a4, a5⟩ := tw_adv1 (l := l) (D := D) (aC := aC) (z := z) (b := b) (L := L) (xs := xs) hc hk hs
  obtain ⟨b1, b2, b3, b4, b5⟩ := ih hm a3
  refine ⟨Nat.le_trans a1 b1, Nat.le_trans a2 b2, b3, fun q => b4 (a4 q), ?_⟩
  intro ad p e s mi args below meth c H locs cells slots Rm Q lsC pc hC hH hL hN hS hpc hf hl hce hsl k
  obtain ⟨e1, he1, rfl⟩ := hpc
  rw [he] at he1
  cases he1
  dsimp only at a1 a2 b1 b2 hce hsl hf hl hS hL hH k ⊢
  refine a5 ad p e s mi args below meth c H locs cells slots Rm Q lsC hC hH hL hN hS (by omega) (by omega) (by dsimp only; omega) (by dsimp only; omega) (fun ad1 H1 locs1 ls1 pc1 g1 g2 g3 g4 g5 g6 => ?_)
  refine b5 ad1 p e s mi args below meth c H1 locs1 _ _ Rm Q ls1 pc1 hC g3 g4 g5 g6 g2 hf hl (by dsimp only; omega) (by dsimp only; omega) (fun ad2 H2 locs2 ls2 pc2 k1 k2 k3 k4 => ?_)
  exact W.cs (by dsimp only; omega) (by dsimp only; omega) (k ad2 H2 locs2 ls2 pc2 (tw_agr_trans g1 k1 a4 a1) k2 k3 k4)
/-- what isn't a step is an end or a call -/
theorem tw_inr_inv {ins : Jvm.ClassFile.Instr} {q : Option Value ⊕ (Nat × List Value × List Value)} (hs : tw_step L xs ins a bb zz ts i ls st md σ = some (.inr q)) :
    (∃ v, q = .inl v ∧ st = v.toList ∧ ((ins = .ireturn ∧ ∃ x, v = some (.int x) ∧ (a = 0 ∨ x = 0 ∨ x = 1)) ∨ (ins = .areturn ∧ (v = some .null ∨ ∃ k, v = some (.ref k))) ∨ (ins = .return_ ∧ v = none))) ∨
    (∃ x, (ins = .invokevirtual x ∨ (ins = .invokespecial x ∧ ¬ Nat.beq a 999 = true)) ∧ tw_inv a bb st md = some (.inr q)) ∨
    (∃ x, ins = .invokestatic x ∧ ¬ Nat.beq a 998 = true ∧ bb ≤ st.length ∧ (st.drop bb).length ≤ 8 ∧ q = .inr (a, (st.take bb).reverse, st.drop bb)) := by
  cases ins with
  | ireturn =>
    rcases st with _ | ⟨u, _ | ⟨w, r⟩⟩
    · cases hs
    · cases u with
      | int x =>
        have hs1 : (if Nat.beq a 0 || tw_bit x then (some (.inr (.inl (some (.int x)))) : Option tw_Out) else none) = some (.inr q) := hs
        split at hs1
        · rename_i h
          cases hs1
          refine Or.inl ⟨_, rfl, rfl, Or.inl ⟨rfl, x, rfl, ?_⟩⟩
          rw [Bool.or_eq_true] at h
          exact h.imp Nat.eq_of_beq_eq_true tw_bit_ok
        · cases hs1
      | _ => cases hs
    · cases u <;> cases hs
  | areturn =>
    rcases st with _ | ⟨u, _ | ⟨w, r⟩⟩
    · cases hs
    · cases u with
      | null => cases hs; exact Or.inl ⟨_, rfl, rfl, Or.inr (Or.inl ⟨rfl, Or.inl rfl⟩)⟩
      | ref k => cases hs; exact Or.inl ⟨_, rfl, rfl, Or.inr (Or.inl ⟨rfl, Or.inr ⟨k, rfl⟩⟩)⟩
      | _ => cases hs
    · cases u <;> cases hs
  | return_ =>
    rcases st with _ | ⟨u, r⟩
    · cases hs; exact Or.inl ⟨_, rfl, rfl, Or.inr (Or.inr ⟨rfl, rfl⟩)⟩
    · cases hs
  | invokevirtual x => exact Or.inr (Or.inl ⟨x, Or.inl rfl, hs⟩)
  | invokespecial x =>
    have hs1 : (if Nat.beq a 999 then tw_pr st fun _ r => if Nat.ble r.length 8 then tw_go (i + 1) ls r md σ else none else tw_inv a bb st md) = some (.inr q) := hs
    split at hs1
    · obtain ⟨k, r, rfl, h⟩ := tw_pr_inv hs1
      split at h <;> cases h
    · rename_i h
      exact Or.inr (Or.inl ⟨x, Or.inr ⟨rfl, h⟩, hs1⟩)
  | invokestatic x =>
    have hs1 : (if Nat.beq a 998 then none else if Nat.ble bb st.length && Nat.ble (st.drop bb).length 8 then some (.inr (.inr (a, (st.take bb).reverse, st.drop bb))) else none) = some (Sum.inr q : tw_Out) := hs
    split at hs1
    · cases hs1
    · rename_i h
      split at hs1
      · rename_i h1
        rw [Bool.and_eq_true, Nat.ble_eq, Nat.ble_eq] at h1
        cases hs1
        exact Or.inr (Or.inr ⟨x, rfl, h, h1.1, h1.2, rfl⟩)
      · cases hs1
  | _ =>
    exfalso
    dsimp only [tw_step, tw_p1, tw_p2, tw_pr, tw_pir, tw_piir, tw_go, tw_ldi, tw_lda, tw_sti, tw_sta] at hs
    repeat' split at hs
    all_goals cases hs
theorem tw_s_ret {e : tw_Ent} {v : Option Value} (he : tw_fetch m i = some e) (hs : tw_stepE L xs e i ls st md σ = some (.inr (.inl v))) : tw_Sd l D aC z b L xs d m (i, ls, st, md, σ) (v, md, σ) := by
  intro hm hc
  obtain ⟨pc0, ln, ins, a, bb, zz, ts⟩ := e
  have hk := tw_okE_at hm i _ he
  refine ⟨Nat.le_refl _, Nat.le_refl _, hc, fun q => q, ?_⟩
  intro ad p e s mi args below meth c H locs cells slots Rm Q lsC pc hC hH hL hN hS hpc hf hl hce hsl k
  obtain ⟨e1, he1, rfl⟩ := hpc
  rw [he] at he1
  cases he1
  have key : st = v.toList ∧ tw_retk m pc0 v := by
    rcases tw_inr_inv hs with ⟨v1, h1, h2, h3⟩ | ⟨x, -, h2⟩ | ⟨x, -, -, -, -, h2⟩
    · cases h1
      refine ⟨h2, ?_⟩
      rcases h3 with ⟨rfl, x, hx, hx2⟩ | ⟨rfl, hx⟩ | ⟨rfl, hx⟩
      · have h0 : (decide (decode (tw_mB m) pc0 = .ok (.ireturn, ln)) && (Nat.beq ln 1 && (if Nat.beq a 0 then decide (tw_mR m = some .int) else decide (tw_mR m = some .boolean)))) = true := hk
        simp only [Bool.and_eq_true, decide_eq_true_eq] at h0
        obtain ⟨g1, g2, g3⟩ := h0
        have g2 := Nat.eq_of_beq_eq_true g2
        subst g2
        refine Or.inl ⟨g1, x, hx, ?_⟩
        split at g3
        · exact Or.inl (of_decide_eq_true g3)
        · rename_i hna
          refine Or.inr ⟨of_decide_eq_true g3, ?_⟩
          rcases hx2 with hx2 | hx2
          · exact absurd (by rw [show a = 0 from hx2]; rfl) hna
          · exact hx2
      · have h0 : (decide (decode (tw_mB m) pc0 = .ok (.areturn, ln)) && (Nat.beq ln 1 && ((tw_mR m).any refKind))) = true := hk
        simp only [Bool.and_eq_true, decide_eq_true_eq] at h0
        obtain ⟨g1, g2, g3⟩ := h0
        have g2 := Nat.eq_of_beq_eq_true g2
        subst g2
        exact Or.inr (Or.inl ⟨g1, g3, hx⟩)
      · have h0 : (decide (decode (tw_mB m) pc0 = .ok (.return_, ln)) && (Nat.beq ln 1 && decide (tw_mR m = none))) = true := hk
        simp only [Bool.and_eq_true, decide_eq_true_eq] at h0
        obtain ⟨g1, g2, g3⟩ := h0
        have g2 := Nat.eq_of_beq_eq_true g2
        subst g2
        exact Or.inr (Or.inr ⟨g1, g3, hx⟩)
    · unfold tw_inv at h2
      split at h2
      · split at h2 <;> cases h2
      · cases h2
    · cases h2
  obtain ⟨k1, k2⟩ := key
  subst k1
  refine W.cs (by simp) (by simp) (k ad H locs lsC _ tw_agr_rf hH k2 (fun u hu => ?_))
  exact hS u (by show u ∈ v.toList; rw [show v = some u from hu]; exact List.mem_cons_self)
end tw_F
