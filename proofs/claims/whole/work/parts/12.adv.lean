/-! one step of the table machine is a stretch of the machine's run -/
section tw_D
variable {D : va_G} {aC : Nat → ClassId} {z b L : Nat} {xs : Nat → Int32} {l : Launch} {md : tw_Md} {σ σ1 : tw_Mem} {m pc i i1 n : Nat} {ls lsB st stB r : List Value} {x y v : Int32}
def tw_Adv (l : Launch) (D : va_G) (aC : Nat → ClassId) (z b L : Nat) (xs : Nat → Int32) (m pc : Nat) (lsA stA : List Value) (md : tw_Md) (σ : tw_Mem) (g : tw_Cfg) : Prop :=
  tw_cn md ≤ tw_cn g.2.2.2.1 ∧ tw_sl md ≤ tw_sl g.2.2.2.1 ∧ tw_cn g.2.2.2.1 ≤ tw_NC ∧ (md = none → g.2.2.2.1 = none) ∧
  ∀ (ad : Nat → Nat) (p : Program) (e : Env) (s : State) (mi : MethodId) (args : Array Value) (below : List Frame) (meth : Method) (c : Code) (H : Heap) (locs : List Loc) (cells slots : Nat) (Rm : Room) (Q : State → Prop) (ls : Array Slot),
    tw_Cx D aC z b L xs m p s mi args meth c → tw_Hx D aC z b ad md σ s H locs → tw_Lr ad md lsA ls → lsA.length = tw_mL m → (∀ v ∈ stA, tw_okv md v) → 1 ≤ Rm.frames → 64 ≤ Rm.locals →
    cells + (tw_cn g.2.2.2.1 - tw_cn md) ≤ Rm.cells → slots + (tw_sl g.2.2.2.1 - tw_sl md) ≤ Rm.slots →
    (∀ (ad1 : Nat → Nat) (H1 : Heap) (locs1 : List Loc) (ls1 : Array Slot) (pc1 : Nat), tw_agr md ad ad1 → tw_next m g.1 pc1 → tw_Hx D aC z b ad1 g.2.2.2.1 g.2.2.2.2 s H1 locs1 → tw_Lr ad1 g.2.2.2.1 g.2.1 ls1 → g.2.1.length = tw_mL m → (∀ v ∈ g.2.2.1, tw_okv g.2.2.2.1 v) →
      W p l e Rm s mi args below meth c H1 locs1 (cells + (tw_cn g.2.2.2.1 - tw_cn md)) (slots + (tw_sl g.2.2.2.1 - tw_sl md)) Q (F0 mi pc1 ls1 (g.2.2.1.map (tw_rel ad1)))) →
    W p l e Rm s mi args below meth c H locs cells slots Q (F0 mi pc ls (stA.map (tw_rel ad)))
theorem tw_AdvS.adv (hc : tw_cn md ≤ tw_NC) (h : tw_AdvS l D aC z b L xs md σ m pc ls st i1 lsB stB) : tw_Adv l D aC z b L xs m pc ls st md σ (i1, lsB, stB, md, σ) := by
  refine ⟨Nat.le_refl _, Nat.le_refl _, hc, fun q => q, ?_⟩
  intro ad p e s mi args below meth c H locs cells slots Rm Q lsC hC hH hL hN hS hf hl hce hsl k
  refine h ad p e s mi args below meth c H locs cells slots Rm Q lsC hC hH hL hN hS hf hl (fun ls1 pc1 g1 g2 g3 g4 => ?_)
  exact W.cs (by simp) (by simp) (k ad H locs ls1 pc1 tw_agr_rf g1 hH g2 g3 g4)
theorem tw_AdvM.adv (hc : tw_cn md ≤ tw_NC) (h : tw_AdvM l D aC z b L xs md σ m pc ls st i1 stB σ1) : tw_Adv l D aC z b L xs m pc ls st md σ (i1, ls, stB, md, σ1) := by
  refine ⟨Nat.le_refl _, Nat.le_refl _, hc, fun q => q, ?_⟩
  intro ad p e s mi args below meth c H locs cells slots Rm Q lsC hC hH hL hN hS hf hl hce hsl k
  refine h ad p e s mi args below meth c H locs cells slots Rm Q lsC hC hH hL hN hS hf hl (fun H1 locs1 pc1 g1 g2 g3 => ?_)
  exact W.cs (by simp) (by simp) (k ad H1 locs1 lsC pc1 tw_agr_rf g1 g2 hL hN g3)
theorem tw_okv_up {v : Value} (h : tw_okv (some n) v) : tw_okv (some (n + 1)) v := by
  cases v <;> first | exact h | exact Nat.le_succ_of_le h
theorem tw_Lr.up {ad ad1 : Nat → Nat} {ls0 : Array Slot} (h : tw_Lr ad (some n) ls ls0) (ha : tw_agr (some n) ad ad1) : tw_Lr ad1 (some (n + 1)) ls ls0 := by
  have h1 := h.agr ha
  exact ⟨h1.1, h1.2.1, fun i v hv => ⟨tw_okv_up (h1.2.2 i v hv).1, (h1.2.2 i v hv).2⟩⟩
theorem tw_AdvN.adv (hc : n < tw_NC) (ht : ∀ v ∈ stB, v = .ref (n + 1) ∨ v ∈ st) (h : tw_AdvN l D aC z b L xs n σ m pc ls st i1 stB) : tw_Adv l D aC z b L xs m pc ls st (some n) σ (i1, ls, stB, some (n + 1), tw_born σ (n + 1)) := by
  have e1 : tw_cn (some (n + 1)) - tw_cn (some n) = 1 := by show n + 1 - n = 1; omega
  have e2 : tw_sl (some (n + 1)) = tw_sl (some n) + (tw_sh (n + 1)).2 := rfl
  refine ⟨Nat.le_succ n, by rw [e2]; omega, hc, (fun q => by cases q), ?_⟩
  intro ad p e s mi args below meth c H locs cells slots Rm Q lsC hC hH hL hN hS hf hl hce hsl k
  have e3 : tw_sl (some (n + 1)) - tw_sl (some n) = (tw_sh (n + 1)).2 := by rw [e2]; omega
  refine h ad p e s mi args below meth c H locs cells slots Rm Q lsC hC hH hL hN hS hf hl (by rw [← e1]; exact hce) (by rw [← e3]; exact hsl) (fun ad1 H1 pc1 g1 g2 g3 => ?_)
  refine W.cs (show cells + 1 = cells + (tw_cn (some (n + 1)) - tw_cn (some n)) by rw [e1]) (show slots + (tw_sh (n + 1)).2 = slots + (tw_sl (some (n + 1)) - tw_sl (some n)) by rw [e3]) (k ad1 H1 locs lsC pc1 g1 g2 g3 (hL.up g1) hN (fun v hv => ?_))
  rcases ht v hv with rfl | hv
  · exact Nat.le_refl _
  · exact tw_okv_up (hS v hv)
theorem tw_ck_tg {ln : Nat} {ins : Jvm.ClassFile.Instr} {off : Int} {a : Nat} (h : (decide (decode (tw_mB m) pc = .ok (ins, ln)) && (Nat.beq ln 3 && tw_nx m (i + 1) (pc + 3) && tw_tg m a pc off)) = true) : decode (tw_mB m) pc = .ok (ins, 3) ∧ tw_next m (i + 1) (pc + 3) ∧ ∃ t : Nat, (pc : Int) + off = (t : Int) ∧ tw_next m a t := by
  obtain ⟨⟨h1, h2⟩, h3⟩ := tw_ck2 h
  exact ⟨h1, h2, tw_tg_next h3⟩
theorem tw_bit_ok {x : Int32} (h : tw_bit x = true) : x = 0 ∨ x = 1 := by
  unfold tw_bit at h
  rw [Bool.or_eq_true, decide_eq_true_eq, decide_eq_true_eq] at h
  exact h
/-- a load -/
theorem tw_ldi_inv {a : Nat} {g : tw_Cfg} (h : tw_ldi i a ls st md σ = some (.inl g)) : ∃ x, ls[a]? = some (.int x) ∧ g = (i + 1, ls, .int x :: st, md, σ) := by
  unfold tw_ldi at h
  split at h
  · rename_i x hx
    cases h
    exact ⟨x, hx, rfl⟩
  · cases h
theorem tw_lda_inv {a : Nat} {g : tw_Cfg} (h : tw_lda i a ls st md σ = some (.inl g)) : (∃ k, ls[a]? = some (.ref k) ∧ g = (i + 1, ls, .ref k :: st, md, σ)) ∨ (ls[a]? = some .null ∧ g = (i + 1, ls, .null :: st, md, σ)) := by
  unfold tw_lda at h
  split at h
  · rename_i x hx
    cases h
    exact Or.inl ⟨x, hx, rfl⟩
  · rename_i hx
    cases h
    exact Or.inr ⟨hx, rfl⟩
  · cases h
theorem tw_sti_inv {a : Nat} {g : tw_Cfg} (h : tw_sti i a ls st md σ = some (.inl g)) : ∃ x r, st = .int x :: r ∧ a < ls.length ∧ g = (i + 1, ls.set a (.int x), r, md, σ) := by
  unfold tw_sti at h
  split at h
  · split at h
    · rename_i hx
      cases h
      exact ⟨_, _, rfl, by simpa [Nat.blt_eq] using hx, rfl⟩
    · cases h
  · cases h
theorem tw_sta_inv {a : Nat} {g : tw_Cfg} (h : tw_sta i a ls st md σ = some (.inl g)) : (∃ x r, st = .ref x :: r ∧ a < ls.length ∧ g = (i + 1, ls.set a (.ref x), r, md, σ)) ∨ (∃ r, st = .null :: r ∧ a < ls.length ∧ g = (i + 1, ls.set a .null, r, md, σ)) := by
  unfold tw_sta at h
  split at h
  · split at h
    · rename_i hx
      cases h
      exact Or.inl ⟨_, _, rfl, by simpa [Nat.blt_eq] using hx, rfl⟩
    · cases h
  · split at h
    · rename_i hx
      cases h
      exact Or.inr ⟨_, rfl, by simpa [Nat.blt_eq] using hx, rfl⟩
    · cases h
  · cases h
end tw_D
