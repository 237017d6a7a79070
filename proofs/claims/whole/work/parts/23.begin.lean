/-! the two constructors, run by the kernel; the state at the start -/
def tw_xs0 : Nat → Int32 := fun _ => 0
/-- a run that doesn't touch the script is one with any script -/
def tw_nosc (st : List Value) : Bool := st.all (fun v => match v with
  | .ref k => !(Nat.beq k 0)
  | _ => true)
theorem tw_step_any {L : Nat} {xs : Nat → Int32} {ins : Jvm.ClassFile.Instr} {a b : Nat} {z : Int32} {ts : List Nat} {i : Nat} {ls st : List Value} {md : tw_Md} {σ : tw_Mem} (h : tw_nosc st = true) : tw_step L xs ins a b z ts i ls st md σ = tw_step 0 tw_xs0 ins a b z ts i ls st md σ := by
  have key : ∀ k, Value.ref k ∈ st → Nat.beq k 0 = false := fun k hk => by
    have h1 := List.all_eq_true.mp h _ hk
    simpa using h1
  cases ins with
  | iaload =>
    show tw_pir st _ = tw_pir st _
    unfold tw_pir
    split
    · rename_i j k r
      have h1 := key k (List.mem_cons_of_mem _ List.mem_cons_self)
      simp only [h1]
      rfl
    · rfl
  | arraylength =>
    show tw_pr st _ = tw_pr st _
    unfold tw_pr
    split
    · rename_i k r
      have h1 := key k List.mem_cons_self
      simp only [h1]
      rfl
    · rfl
  | _ => rfl
def tw_evg : Nat → Nat → Nat → tw_Cfg → Option tw_Ret
  | 0, _, _, _ => none
  | n + 1, d, m, g => if tw_nosc g.2.2.1 = true then (match tw_fetch m g.1 with
    | none => none
    | some e => (match tw_stepE 0 tw_xs0 e g.1 g.2.1 g.2.2.1 g.2.2.2.1 g.2.2.2.2 with
      | none => none
      | some (.inl g1) => tw_evg n d m g1
      | some (.inr (.inl v)) => some (v, g.2.2.2.1, g.2.2.2.2)
      | some (.inr (.inr c)) => (match d with
        | 0 => none
        | d1 + 1 => (match tw_evg n d1 c.1 (0, tw_ent c.1 c.2.1, [], g.2.2.2.1, g.2.2.2.2) with
          | none => none
          | some r => tw_evg n (d1 + 1) m (g.1 + 1, g.2.1, r.1.toList ++ c.2.2, r.2.1, r.2.2))))) else none
theorem tw_evg_R {L : Nat} {xs : Nat → Int32} : ∀ (n d m : Nat) (g : tw_Cfg) (r : tw_Ret), tw_evg n d m g = some r → tw_R L xs d m g r
  | 0, _, _, _, _, h => by cases h
  | n + 1, d, m, (i, ls, st, md, σ), r, h => by
    unfold tw_evg at h
    split at h
    · rename_i hn
      split at h
      · cases h
      · rename_i e he
        have hst : tw_stepE L xs e i ls st md σ = tw_stepE 0 tw_xs0 e i ls st md σ := tw_step_any hn
        split at h
        · cases h
        · rename_i g1 hg
          exact tw_go1 he (hst.trans hg) (tw_evg_R n d m g1 r h)
        · rename_i v hv
          cases h
          exact tw_ret1 he (hst.trans hv)
        · rename_i c hc
          obtain ⟨y, as, rest⟩ := c
          split at h
          · cases h
          · rename_i d1
            split at h
            · cases h
            · rename_i r1 hr1
              obtain ⟨v1, md1, σ1⟩ := r1
              exact tw_call1 he (hst.trans hc) (Nat.lt_succ_self d1) (tw_evg_R n d1 y _ _ hr1) (tw_evg_R n (d1 + 1) m _ r h)
    · cases h
/-- the object's own constructor, with its cell made; then the reference's -/
def tw_cA : Option tw_Ret := tw_evg 2000 20 131 (0, tw_ent 131 [.ref 1], [], some 1, tw_born (fun _ _ => 0) 1)
def tw_sA : tw_Mem := match tw_cA with
  | some r => r.2.2
  | none => fun _ _ => 0
def tw_cB : Option tw_Ret := tw_evg 2000 20 183 (0, tw_ent 183 [.ref 88], [], some 88, tw_born tw_sA 88)
def tw_sB : tw_Mem := match tw_cB with
  | some r => r.2.2
  | none => fun _ _ => 0
set_option maxRecDepth 100000 in
theorem tw_cA_ok : tw_cA.map (fun r => (r.1, r.2.1)) = some (none, some 87) := by decide +kernel
set_option maxRecDepth 100000 in
theorem tw_cB_ok : tw_cB.map (fun r => (r.1, r.2.1)) = some (none, some 119) := by decide +kernel
theorem tw_cA_eq : tw_cA = some (none, some 87, tw_sA) := by
  have h := tw_cA_ok
  unfold tw_sA
  cases hc : tw_cA with
  | none => rw [hc] at h; cases h
  | some r =>
    obtain ⟨r1, r2, r3⟩ := r
    rw [hc] at h
    have h : some (r1, r2) = some (none, some 87) := h
    cases h
    rfl
theorem tw_cB_eq : tw_cB = some (none, some 119, tw_sB) := by
  have h := tw_cB_ok
  unfold tw_sB
  cases hc : tw_cB with
  | none => rw [hc] at h; cases h
  | some r =>
    obtain ⟨r1, r2, r3⟩ := r
    rw [hc] at h
    have h : some (r1, r2) = some (none, some 119) := h
    cases h
    rfl
set_option maxRecDepth 100000 in
theorem tw_sB_full0 : (List.range (tw_NC + 1)).all (fun k => (List.range (tw_kdL.getD k []).length).all (fun j => !(Nat.beq (tw_kd k j).1 1) || !(decide (tw_sB k j = 0)))) = true := by decide +kernel
theorem tw_sB_full : tw_full tw_sB := by
  intro k hk j hj h0
  have hl : j < (tw_kdL.getD k []).length := by
    rcases Nat.lt_or_ge j (tw_kdL.getD k []).length with h | h
    · exact h
    · unfold tw_kd at hj
      rw [List.getD_eq_getElem?_getD, List.getElem?_eq_none h] at hj
      cases hj
  have h1 := List.all_eq_true.mp (List.all_eq_true.mp tw_sB_full0 k (List.mem_range.mpr (by omega))) j (List.mem_range.mpr hl)
  rw [hj, h0] at h1
  exact absurd h1 (by decide)
set_option maxRecDepth 100000 in
theorem tw_sB_vals : ([(6, 4), (89, 0), (89, 1), (9, 3), (9, 4), (90, 0), (13, 4), (2, 1), (88, 17), (4, 1), (88, 37), (79, 1), (88, 32), (117, 0), (117, 1), (117, 2), (117, 3), (1, 9), (88, 11)].all (fun q => decide (tw_sB q.1 q.2 = nI 0)) && decide (tw_sB 99 0 = nI 105) && (List.range 4).all (fun l => decide (tw_sB 87 l = (-1))) && (List.range 80).all (fun j => decide (tw_sB 113 j = nI 0) && decide (tw_sB 14 j = nI 0) && decide (tw_sB 46 j = nI 0) && decide (tw_sB 72 j = nI 0))) = true := by decide +kernel
theorem tw_Inv0 : tw_Inv tw_sB := by
  have h := tw_sB_vals
  simp only [Bool.and_eq_true, decide_eq_true_eq] at h
  obtain ⟨⟨⟨h1, h2⟩, h3⟩, h4⟩ := h
  have hz : ∀ k j, (k, j) ∈ ([(6, 4), (89, 0), (89, 1), (9, 3), (9, 4), (90, 0), (13, 4), (2, 1), (88, 17), (4, 1), (88, 37), (79, 1), (88, 32), (117, 0), (117, 1), (117, 2), (117, 3), (1, 9), (88, 11)] : List (Nat × Nat)) → tw_sB k j = nI 0 := fun k j hm => of_decide_eq_true (List.all_eq_true.mp h1 _ hm)
  have hl : ∀ l, l < 4 → tw_sB 87 l = (-1) := fun l hl => of_decide_eq_true (List.all_eq_true.mp h3 l (List.mem_range.mpr hl))
  have hj : ∀ j, j < 80 → ((tw_sB 113 j = nI 0 ∧ tw_sB 14 j = nI 0) ∧ tw_sB 46 j = nI 0) ∧ tw_sB 72 j = nI 0 := fun j hj => by
    have h5 := List.all_eq_true.mp h4 j (List.mem_range.mpr hj)
    simpa only [Bool.and_eq_true, decide_eq_true_eq] using h5
  refine ⟨⟨0, 0, ⟨by decide, by decide⟩, ⟨hz 6 4 (by decide), hz 89 0 (by decide)⟩, ⟨hz 9 3 (by decide), hz 9 4 (by decide), hz 90 0 (by decide)⟩, fun c hc => absurd hc (Nat.not_lt_zero _), fun i hi => absurd hi (Nat.not_lt_zero _), Or.inl ⟨hz 13 4 (by decide), h2⟩⟩, ?_, ?_, ?_, ?_, Or.inl ⟨hz 1 9 (by decide), hz 88 11 (by decide)⟩, ?_, ?_, ?_, ?_, ?_⟩
  · exact ⟨0, by decide, hz 2 1 (by decide), hz 88 17 (by decide), fun j hj => absurd hj (Nat.not_lt_zero _)⟩
  · exact ⟨0, by decide, hz 4 1 (by decide), hz 88 37 (by decide), fun j hj => absurd hj (Nat.not_lt_zero _)⟩
  · exact ⟨0, by decide, hz 79 1 (by decide), hz 88 32 (by decide), fun j hj => absurd hj (Nat.not_lt_zero _), fun j _ h => (hj j h).1.1.1⟩
  · intro l h
    refine Or.inl ⟨hl l h, ?_⟩
    rcases (show l = 0 ∨ l = 1 ∨ l = 2 ∨ l = 3 by omega) with rfl | rfl | rfl | rfl <;> exact hz _ _ (by decide)
  · exact fun j h => ⟨0, by decide, (hj j h).1.1.2⟩
  · exact fun j h => ⟨0, by decide, (hj j h).1.2⟩
  · exact fun j h => ⟨0, by decide, (hj j h).2⟩
  · intro n r h10 h50 e1 e2 c hc
    have := tw_ninj (by omega) (by omega) ((hz 89 0 (by decide)).symm.trans e1)
    omega
  · intro n r h10 h50 e1 e2 c hc
    have := tw_ninj (by omega) (by omega) ((hz 89 1 (by decide)).symm.trans e1)
    omega
