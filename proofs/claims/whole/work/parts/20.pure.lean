/-! from here on: the table machine alone. tw_P: from here the run ends, with Q of its answer and memory -/
def tw_adv (L : Nat) (xs : Nat → Int32) (m : Nat) : Nat → tw_Cfg → Option tw_Cfg
  | 0, g => some g
  | n + 1, g => match tw_fetch m g.1 with
    | some e => (match tw_stepE L xs e g.1 g.2.1 g.2.2.1 g.2.2.2.1 g.2.2.2.2 with
      | some (.inl g1) => tw_adv L xs m n g1
      | _ => none)
    | none => none
theorem tw_adv_R {L : Nat} {xs : Nat → Int32} {d m : Nat} {r : tw_Ret} : ∀ (n : Nat) (g g1 : tw_Cfg), tw_adv L xs m n g = some g1 → tw_R L xs d m g1 r → tw_R L xs d m g r
  | 0, g, g1, h, hr => by
    have h : some g = some g1 := h
    cases h
    exact hr
  | n + 1, (i, ls, st, md, σ), g1, h, hr => by
    unfold tw_adv at h
    split at h
    · rename_i e he
      split at h
      · rename_i g2 hg
        exact tw_go1 he hg (tw_adv_R n g2 g1 h hr)
      · cases h
    · cases h
section tw_J
variable {L : Nat} {xs : Nat → Int32} {d d1 m i i1 n : Nat} {ls ls1 st st1 rest as : List Value} {σ σ1 : tw_Mem} {Q Q1 : Option Value → tw_Mem → Prop} {pc ln a b y k : Nat} {z : Int32} {ts : List Nat} {u w : Int32}
def tw_P (L : Nat) (xs : Nat → Int32) (d m i : Nat) (ls st : List Value) (σ : tw_Mem) (Q : Option Value → tw_Mem → Prop) : Prop := ∃ v σ1, tw_R L xs d m (i, ls, st, none, σ) (v, none, σ1) ∧ Q v σ1
def tw_E (L : Nat) (xs : Nat → Int32) (d m : Nat) (as : List Value) (σ : tw_Mem) (Q : Option Value → tw_Mem → Prop) : Prop := tw_P L xs d m 0 (tw_ent m as) [] σ Q
theorem tw_sg (n : Nat) (h : tw_adv L xs m n (i, ls, st, none, σ) = some (i1, ls1, st1, none, σ1)) (k : tw_P L xs d m i1 ls1 st1 σ1 Q) : tw_P L xs d m i ls st σ Q := by
  obtain ⟨v, σ2, h1, h2⟩ := k
  exact ⟨v, σ2, tw_adv_R n _ _ h h1, h2⟩
theorem tw_sgn (n : Nat) {ls0 st0 : List Value} {σ0 : tw_Mem} (h : tw_adv L xs m n (i, ls, st, none, σ) = some (i1, ls0, st0, none, σ0)) (e1 : ls0 = ls1) (e2 : st0 = st1) (e3 : σ0 = σ1) (k : tw_P L xs d m i1 ls1 st1 σ1 Q) : tw_P L xs d m i ls st σ Q := by
  subst e1; subst e2; subst e3
  exact tw_sg n h k
theorem tw_E_mono {Q Q1 : Option Value → tw_Mem → Prop} (h : tw_E L xs d m as σ Q) (k : ∀ v σ1, Q v σ1 → Q1 v σ1) : tw_E L xs d m as σ Q1 := by
  obtain ⟨v, σ2, h1, h2⟩ := h
  exact ⟨v, σ2, h1, k v σ2 h2⟩
theorem tw_P_mono {Q Q1 : Option Value → tw_Mem → Prop} (h : tw_P L xs d m i ls st σ Q) (k : ∀ v σ1, Q v σ1 → Q1 v σ1) : tw_P L xs d m i ls st σ Q1 := by
  obtain ⟨v, σ2, h1, h2⟩ := h
  exact ⟨v, σ2, h1, k v σ2 h2⟩
/-- the ends -/
theorem tw_ri (h : tw_fetch m i = some (pc, ln, .ireturn, a, b, z, ts)) (hb : (Nat.beq a 0 || tw_bit u) = true) (k : Q (some (.int u)) σ) : tw_P L xs d m i ls [.int u] σ Q := by
  refine ⟨_, _, tw_ret1 h ?_, k⟩
  show (if Nat.beq a 0 || tw_bit u then (some (.inr (.inl (some (.int u)))) : Option tw_Out) else none) = _
  rw [if_pos hb]
theorem tw_ra (h : tw_fetch m i = some (pc, ln, .areturn, a, b, z, ts)) (k0 : Q (some (.ref k)) σ) : tw_P L xs d m i ls [.ref k] σ Q := ⟨_, _, tw_ret1 h rfl, k0⟩
theorem tw_rn (h : tw_fetch m i = some (pc, ln, .areturn, a, b, z, ts)) (k0 : Q (some .null) σ) : tw_P L xs d m i ls [.null] σ Q := ⟨_, _, tw_ret1 h rfl, k0⟩
theorem tw_rv (h : tw_fetch m i = some (pc, ln, .return_, a, b, z, ts)) (k0 : Q none σ) : tw_P L xs d m i ls [] σ Q := ⟨_, _, tw_ret1 h rfl, k0⟩
/-- a call of which something is known -/
theorem tw_cl1 {e : tw_Ent} (h : tw_fetch m i = some e) (hs : tw_stepE L xs e i ls st none σ = some (.inr (.inr (y, as, rest)))) (hd : d1 < d) (hE : tw_E L xs d1 y as σ Q1) (k : ∀ v σ1, Q1 v σ1 → tw_P L xs d m (i + 1) ls (v.toList ++ rest) σ1 Q) : tw_P L xs d m i ls st σ Q := by
  obtain ⟨v, σ1, h1, h2⟩ := hE
  obtain ⟨v2, σ2, h3, h4⟩ := k v σ1 h2
  exact ⟨v2, σ2, tw_call1 h hs hd h1 h3, h4⟩
/-- a call that is walked here -/
theorem tw_cl0 (d1 : Nat) {e : tw_Ent} (h : tw_fetch m i = some e) (hs : tw_stepE L xs e i ls st none σ = some (.inr (.inr (y, as, rest)))) (hd : d1 < d) (hE : tw_P L xs d1 y 0 (tw_ent y as) [] σ (fun v σ1 => tw_P L xs d m (i + 1) ls (v.toList ++ rest) σ1 Q)) : tw_P L xs d m i ls st σ Q := tw_cl1 h hs hd hE (fun _ _ h => h)
theorem tw_onestep {e : tw_Ent} (h : tw_fetch m i = some e) (hs : tw_stepE L xs e i ls st none σ = some (.inl (i1, ls1, st1, none, σ1))) (k : tw_P L xs d m i1 ls1 st1 σ1 Q) : tw_P L xs d m i ls st σ Q := by
  obtain ⟨v, σ2, h1, h2⟩ := k
  exact ⟨v, σ2, tw_go1 h hs h1, h2⟩
/-- branches -/
theorem tw_bi {c : Jvm.ClassFile.Cond} {off : Int} (h : tw_fetch m i = some (pc, ln, .if_icmp c off, a, b, z, ts)) (kt : tw_cnd c u w = true → tw_P L xs d m a ls st σ Q) (kf : tw_cnd c u w = false → tw_P L xs d m (i + 1) ls st σ Q) : tw_P L xs d m i ls (.int w :: .int u :: st) σ Q := by
  cases hc : tw_cnd c u w with
  | true => exact tw_onestep h (show some (Sum.inl (if tw_cnd c u w then a else i + 1, ls, st, none, σ)) = some (Sum.inl (a, ls, st, none, σ)) by rw [if_pos hc]) (kt hc)
  | false => exact tw_onestep h (show some (Sum.inl (if tw_cnd c u w then a else i + 1, ls, st, none, σ)) = some (Sum.inl (i + 1, ls, st, none, σ)) by rw [if_neg (by rw [hc]; decide)]) (kf hc)
theorem tw_bz {c : Jvm.ClassFile.Cond} {off : Int} (h : tw_fetch m i = some (pc, ln, .ifCond c off, a, b, z, ts)) (kt : tw_cnd c u (nI 0) = true → tw_P L xs d m a ls st σ Q) (kf : tw_cnd c u (nI 0) = false → tw_P L xs d m (i + 1) ls st σ Q) : tw_P L xs d m i ls (.int u :: st) σ Q := by
  cases hc : tw_cnd c u 0 with
  | true => exact tw_onestep h (show some (Sum.inl (if tw_cnd c u 0 then a else i + 1, ls, st, none, σ)) = some (Sum.inl (a, ls, st, none, σ)) by rw [if_pos hc]) (kt hc)
  | false => exact tw_onestep h (show some (Sum.inl (if tw_cnd c u 0 then a else i + 1, ls, st, none, σ)) = some (Sum.inl (i + 1, ls, st, none, σ)) by rw [if_neg (by rw [hc]; decide)]) (kf hc)
theorem tw_biT {c : Jvm.ClassFile.Cond} {off : Int} (h : tw_fetch m i = some (pc, ln, .if_icmp c off, a, b, z, ts)) (hc : tw_cnd c u w = true) (k : tw_P L xs d m a ls st σ Q) : tw_P L xs d m i ls (.int w :: .int u :: st) σ Q := tw_bi h (fun _ => k) (fun g => by rw [hc] at g; cases g)
theorem tw_biF {c : Jvm.ClassFile.Cond} {off : Int} (h : tw_fetch m i = some (pc, ln, .if_icmp c off, a, b, z, ts)) (hc : tw_cnd c u w = false) (k : tw_P L xs d m (i + 1) ls st σ Q) : tw_P L xs d m i ls (.int w :: .int u :: st) σ Q := tw_bi h (fun g => by rw [hc] at g; cases g) (fun _ => k)
theorem tw_bzT {c : Jvm.ClassFile.Cond} {off : Int} (h : tw_fetch m i = some (pc, ln, .ifCond c off, a, b, z, ts)) (hc : tw_cnd c u (nI 0) = true) (k : tw_P L xs d m a ls st σ Q) : tw_P L xs d m i ls (.int u :: st) σ Q := tw_bz h (fun _ => k) (fun g => by rw [hc] at g; cases g)
theorem tw_bzF {c : Jvm.ClassFile.Cond} {off : Int} (h : tw_fetch m i = some (pc, ln, .ifCond c off, a, b, z, ts)) (hc : tw_cnd c u (nI 0) = false) (k : tw_P L xs d m (i + 1) ls st σ Q) : tw_P L xs d m i ls (.int u :: st) σ Q := tw_bz h (fun g => by rw [hc] at g; cases g) (fun _ => k)
theorem tw_ceq {u w : Int32} : (tw_cnd .eq u w = true) = (u = w) := by unfold tw_cnd; exact decide_eq_true_eq
theorem tw_cne {u w : Int32} : (tw_cnd .ne u w = true) = (¬ u = w) := by unfold tw_cnd; simp
theorem tw_clt {u w : Int32} : (tw_cnd .lt u w = true) = (u < w) := by unfold tw_cnd; exact decide_eq_true_eq
theorem tw_cge {u w : Int32} : (tw_cnd .ge u w = true) = (w ≤ u) := by unfold tw_cnd; exact decide_eq_true_eq
theorem tw_cgt {u w : Int32} : (tw_cnd .gt u w = true) = (w < u) := by unfold tw_cnd; exact decide_eq_true_eq
theorem tw_cle {u w : Int32} : (tw_cnd .le u w = true) = (u ≤ w) := by unfold tw_cnd; exact decide_eq_true_eq
theorem tw_ceq' {u w : Int32} : (tw_cnd .eq u w = false) = (¬ u = w) := by unfold tw_cnd; simp
theorem tw_cne' {u w : Int32} : (tw_cnd .ne u w = false) = (u = w) := by unfold tw_cnd; simp
theorem tw_clt' {u w : Int32} : (tw_cnd .lt u w = false) = (¬ u < w) := by unfold tw_cnd; exact propext decide_eq_false_iff_not
theorem tw_cge' {u w : Int32} : (tw_cnd .ge u w = false) = (¬ w ≤ u) := by unfold tw_cnd; exact propext decide_eq_false_iff_not
theorem tw_cgt' {u w : Int32} : (tw_cnd .gt u w = false) = (¬ w < u) := by unfold tw_cnd; exact propext decide_eq_false_iff_not
theorem tw_cle' {u w : Int32} : (tw_cnd .le u w = false) = (¬ u ≤ w) := by unfold tw_cnd; exact propext decide_eq_false_iff_not
/-- arrays at a place that is a number -/
theorem tw_isA_nI {k tag j len : Nat} (hs : tw_sh k = (tag, len)) (hl : tw_live k none = true) (hj : j < len) (hm : len < 2147483648) : tw_isA k tag none (nI j) = true := by
  have e1 : (nI j).toNatClampNeg = j := by unfold nI; exact Int32.toNatClampNeg_ofNat_of_lt (by omega)
  have e2 : ¬ nI j < 0 := by
    rw [Int32.lt_iff_toInt_lt, nI_toInt (by omega), Int32.toInt_zero]
    omega
  unfold tw_isA
  rw [hl, hs, e1]
  simp [e2, Nat.blt_eq, hj]
theorem tw_al {x : Int32} {j len : Nat} (h : tw_fetch m i = some (pc, ln, .iaload, a, b, z, ts)) (hk : Nat.beq k 0 = false) (hs : tw_sh k = (20, len)) (hl : tw_live k none = true) (hx : x = nI j) (hj : j < len) (hm : len < 2147483648) (kk : tw_P L xs d m (i + 1) ls (.int (σ k j) :: st) σ Q) : tw_P L xs d m i ls (.int x :: .ref k :: st) σ Q := by
  subst hx
  refine tw_onestep h ?_ kk
  show (if Nat.beq k 0 then _ else if tw_isA k 20 none (nI j) then tw_go (i + 1) ls (.int (σ k (nI j).toNatClampNeg) :: st) none σ else none) = _
  rw [hk, if_neg (by decide), if_pos (tw_isA_nI hs hl hj hm)]
  have e1 : (nI j).toNatClampNeg = j := by unfold nI; exact Int32.toNatClampNeg_ofNat_of_lt (by omega)
  rw [e1]
  rfl
theorem tw_as {x v : Int32} {j len : Nat} (h : tw_fetch m i = some (pc, ln, .iastore, a, b, z, ts)) (hs : tw_sh k = (20, len)) (hl : tw_live k none = true) (hx : x = nI j) (hj : j < len) (hm : len < 2147483648) (kk : tw_P L xs d m (i + 1) ls st (tw_upd σ k j v) Q) : tw_P L xs d m i ls (.int v :: .int x :: .ref k :: st) σ Q := by
  subst hx
  refine tw_onestep h ?_ kk
  show (if tw_isA k 20 none (nI j) then tw_go (i + 1) ls st none (tw_upd σ k (nI j).toNatClampNeg v) else none) = _
  rw [if_pos (tw_isA_nI hs hl hj hm)]
  have e1 : (nI j).toNatClampNeg = j := by unfold nI; exact Int32.toNatClampNeg_ofNat_of_lt (by omega)
  rw [e1]
  rfl
/-- an array of bytes, of booleans, of chars -/
theorem tw_alb {x : Int32} {j len tag : Nat} (h : tw_fetch m i = some (pc, ln, .baload, a, b, z, ts)) (hs : tw_sh k = (tag, len)) (ht : tag = 21 ∨ tag = 23) (hl : tw_live k none = true) (hx : x = nI j) (hj : j < len) (hm : len < 2147483648) (kk : tw_P L xs d m (i + 1) ls (.int (σ k j) :: st) σ Q) : tw_P L xs d m i ls (.int x :: .ref k :: st) σ Q := by
  subst hx
  refine tw_onestep h ?_ kk
  show (if tw_isA k 21 none (nI j) || tw_isA k 23 none (nI j) then tw_go (i + 1) ls (.int (σ k (nI j).toNatClampNeg) :: st) none σ else none) = _
  have e1 : (nI j).toNatClampNeg = j := by unfold nI; exact Int32.toNatClampNeg_ofNat_of_lt (by omega)
  rw [if_pos, e1]
  · rfl
  · rcases ht with rfl | rfl <;> simp [tw_isA_nI hs hl hj hm]
theorem tw_alc {x : Int32} {j len : Nat} (h : tw_fetch m i = some (pc, ln, .caload, a, b, z, ts)) (hs : tw_sh k = (22, len)) (hl : tw_live k none = true) (hx : x = nI j) (hj : j < len) (hm : len < 2147483648) (kk : tw_P L xs d m (i + 1) ls (.int (σ k j) :: st) σ Q) : tw_P L xs d m i ls (.int x :: .ref k :: st) σ Q := by
  subst hx
  refine tw_onestep h ?_ kk
  show (if tw_isA k 22 none (nI j) then tw_go (i + 1) ls (.int (σ k (nI j).toNatClampNeg) :: st) none σ else none) = _
  rw [if_pos (tw_isA_nI hs hl hj hm)]
  have e1 : (nI j).toNatClampNeg = j := by unfold nI; exact Int32.toNatClampNeg_ofNat_of_lt (by omega)
  rw [e1]
  rfl
theorem tw_inv_ok {k : Nat} {r : List Value} (h1 : st.drop b = .ref k :: r) (h2 : Nat.ble r.length 8 = true) (h3 : tw_isO k (tw_mC y) none = true) : tw_inv y b st none = some (.inr (.inr (y, .ref k :: (st.take b).reverse, r))) := by
  unfold tw_inv
  rw [h1]
  show (if Nat.ble r.length 8 && tw_isO k (tw_mC y) none then _ else none) = _
  rw [h2, h3]
  rfl
/-- fields of a cell that isn't written out -/
theorem tw_gf {idx j : Nat} {v : Value} (h : tw_fetch m i = some (pc, ln, .getfield idx, a, j, z, ts)) (hO : tw_isO k a none = true) (hj : Nat.blt j (tw_sh k).2 = true) (hv : tw_val none σ k j = v) (kk : tw_P L xs d m (i + 1) ls (v :: st) σ Q) : tw_P L xs d m i ls (.ref k :: st) σ Q := by
  subst hv
  refine tw_onestep h ?_ kk
  show (if tw_isO k a none && Nat.blt j (tw_sh k).2 then tw_go (i + 1) ls (tw_val none σ k j :: st) none σ else none) = _
  rw [hO, hj]
  rfl
theorem tw_pf {idx j : Nat} {v : Int32} (h : tw_fetch m i = some (pc, ln, .putfield idx, a, j, 0, ts)) (hO : tw_isO k a none = true) (hj : Nat.blt j (tw_sh k).2 = true) (hv : (tw_kd k j).1 = 0) (kk : tw_P L xs d m (i + 1) ls st (tw_upd σ k j v) Q) : tw_P L xs d m i ls (.int v :: .ref k :: st) σ Q := by
  refine tw_onestep h ?_ kk
  show (if tw_isO k a none && Nat.blt j (tw_sh k).2 && Nat.beq (tw_kd k j).1 0 && (decide ((0 : Int32) = 0) || tw_bit v) then tw_go (i + 1) ls st none (tw_upd σ k j v) else none) = _
  rw [hO, hj, hv]
  rfl
theorem tw_aal {x : Int32} {j len t : Nat} (h : tw_fetch m i = some (pc, ln, .aaload, a, b, z, ts)) (hs : tw_sh k = (24, len)) (hl : tw_live k none = true) (hx : x = nI j) (hj : j < len) (hm : len < 2147483648) (hv : tw_val none σ k j = .ref t) (kk : tw_P L xs d m (i + 1) ls (.ref t :: st) σ Q) : tw_P L xs d m i ls (.int x :: .ref k :: st) σ Q := by
  subst hx
  refine tw_onestep h ?_ kk
  show (if tw_isA k 24 none (nI j) then tw_go (i + 1) ls (tw_val none σ k (nI j).toNatClampNeg :: st) none σ else none) = _
  rw [if_pos (tw_isA_nI hs hl hj hm)]
  have e1 : (nI j).toNatClampNeg = j := by unfold nI; exact Int32.toNatClampNeg_ofNat_of_lt (by omega)
  rw [e1, hv]
  rfl
/-- the division -/
theorem tw_dv (h : tw_fetch m i = some (pc, ln, .idiv, a, b, z, ts)) (hw : ¬ w = 0) (kk : tw_P L xs d m (i + 1) ls (.int (u / w) :: st) σ Q) : tw_P L xs d m i ls (.int w :: .int u :: st) σ Q := by
  refine tw_onestep h ?_ kk
  show (if w = 0 then none else tw_go (i + 1) ls (.int (u / w) :: st) none σ) = _
  rw [if_neg hw]
  rfl
theorem tw_rm (h : tw_fetch m i = some (pc, ln, .irem, a, b, z, ts)) (hw : ¬ w = 0) (kk : tw_P L xs d m (i + 1) ls (.int (u - u / w * w) :: st) σ Q) : tw_P L xs d m i ls (.int w :: .int u :: st) σ Q := by
  refine tw_onestep h ?_ kk
  show (if w = 0 then none else tw_go (i + 1) ls (.int (u - u / w * w) :: st) none σ) = _
  rw [if_neg hw]
  rfl
/-- the switches -/
theorem tw_sw {dflt lo hi : Int} {offs : Array Int} {t : Nat} (h : tw_fetch m i = some (pc, ln, .tableswitch dflt lo hi offs, a, b, nI 0, ts)) {j : Nat} (hj : u = nI j) (hj2 : j ≤ b) (hb : b < 2147483648) (ht : ts[j]? = some t) (kk : tw_P L xs d m t ls st σ Q) : tw_P L xs d m i ls (.int u :: st) σ Q := by
  subst hj
  refine tw_onestep h ?_ kk
  have e0 : (nI j).toInt = (j : Int) := nI_toInt (by omega)
  have e1 : (nI 0).toInt = 0 := by decide
  show (if (nI j).toInt < (nI 0).toInt ∨ (b : Int) < (nI j).toInt then tw_go a ls st none σ else (match ts[((nI j).toInt - (nI 0).toInt).toNat]? with
    | some t => tw_go t ls st none σ
    | none => none)) = _
  rw [e0, e1, if_neg (by omega), show ((j : Int) - 0).toNat = j by omega, ht]
  rfl
theorem tw_swo {dflt lo hi : Int} {offs : Array Int} (h : tw_fetch m i = some (pc, ln, .tableswitch dflt lo hi offs, a, b, nI 0, ts)) (hj : u < nI 0 ∨ nI b < u) (hb : b < 2147483648) (kk : tw_P L xs d m a ls st σ Q) : tw_P L xs d m i ls (.int u :: st) σ Q := by
  refine tw_onestep h ?_ kk
  have e1 : (nI 0).toInt = 0 := by decide
  have e2 : (nI b).toInt = (b : Int) := nI_toInt hb
  rw [Int32.lt_iff_toInt_lt, Int32.lt_iff_toInt_lt, e2] at hj
  show (if u.toInt < (nI 0).toInt ∨ (b : Int) < u.toInt then tw_go a ls st none σ else (match ts[(u.toInt - (nI 0).toInt).toNat]? with
    | some t => tw_go t ls st none σ
    | none => none)) = _
  rw [if_pos hj]
  rfl
end tw_J
/-! small numbers as numbers -/
theorem tw_nadd (a b : Nat) : nI a + nI b = nI (a + b) := by
  unfold nI
  exact (Int32.ofNat_add a b).symm
theorem tw_nmul (a b : Nat) : nI a * nI b = nI (a * b) := by
  unfold nI
  exact (Int32.ofNat_mul a b).symm
theorem tw_ntoI {n : Nat} (h : n < 2147483648) : (nI n).toInt = (n : Int) := nI_toInt h
theorem tw_nsub {a b : Nat} (h : b ≤ a) : nI a - nI b = nI (a - b) := by
  have e : a = (a - b) + b := by omega
  rw [e, ← tw_nadd, Nat.add_sub_cancel, Int32.add_sub_cancel]
theorem tw_nlt {a b : Nat} (ha : a < 2147483648) (hb : b < 2147483648) : (nI a < nI b) = (a < b) := by
  rw [Int32.lt_iff_toInt_lt, tw_ntoI ha, tw_ntoI hb]
  exact propext Int.ofNat_lt
theorem tw_nle {a b : Nat} (ha : a < 2147483648) (hb : b < 2147483648) : (nI a ≤ nI b) = (a ≤ b) := by
  rw [Int32.le_iff_toInt_le, tw_ntoI ha, tw_ntoI hb]
  exact propext Int.ofNat_le
theorem tw_neq {a b : Nat} (ha : a < 2147483648) (hb : b < 2147483648) : (nI a = nI b) = (a = b) := by
  refine propext ⟨fun h => ?_, fun h => by rw [h]⟩
  have h1 := congrArg Int32.toInt h
  rw [tw_ntoI ha, tw_ntoI hb] at h1
  exact Int.ofNat.inj h1
theorem tw_nge0 {a : Nat} (ha : a < 2147483648) : ¬ nI a < 0 := by
  rw [show (0 : Int32) = nI 0 from rfl, tw_nlt ha (by decide)]
  omega
theorem tw_nclamp {a : Nat} (ha : a < 2147483648) : (nI a).toNatClampNeg = a := by
  unfold nI
  exact Int32.toNatClampNeg_ofNat_of_lt ha
theorem tw_ninj {a b : Nat} (ha : a < 2147483648) (hb : b < 2147483648) (h : nI a = nI b) : a = b := by rwa [tw_neq ha hb] at h
/-- any number is below 0, or such a number -/
theorem tw_nany (x : Int32) : x < nI 0 ∨ ∃ a, a < 2147483648 ∧ x = nI a := by
  by_cases h : x < nI 0
  · exact Or.inl h
  · right
    have h : ¬ x < 0 := h
    rw [Int32.lt_iff_toInt_lt, Int32.toInt_zero] at h
    have h1 := Int32.toInt_lt x
    refine ⟨x.toInt.toNat, by omega, ?_⟩
    apply Int32.toInt.inj
    rw [nI_toInt (by omega)]
    omega
/-- within so many, or not -/
theorem tw_within (x : Int32) (n : Nat) (hn : n < 2147483648) : (∃ a, a < n ∧ x = nI a) ∨ (x < nI 0 ∨ (¬ x < nI 0 ∧ nI n ≤ x)) := by
  rcases tw_nany x with h | ⟨a, h1, rfl⟩
  · exact Or.inr (Or.inl h)
  · by_cases h2 : a < n
    · exact Or.inl ⟨a, h2, rfl⟩
    · refine Or.inr (Or.inr ⟨tw_nge0 h1, ?_⟩)
      rw [tw_nle hn h1]
      omega
theorem tw_neg_not_le {x : Int32} {n : Nat} (h : x < nI 0) (hn : n < 2147483648) : ¬ nI n ≤ x := by
  rw [Int32.lt_iff_toInt_lt] at h
  rw [Int32.le_iff_toInt_le, tw_ntoI hn]
  rw [tw_ntoI (by decide)] at h
  omega
theorem tw_neg_lt {x : Int32} {n : Nat} (h : x < nI 0) (hn : n < 2147483648) : x < nI n := by
  rw [Int32.lt_iff_toInt_lt] at h ⊢
  rw [tw_ntoI (by decide)] at h
  rw [tw_ntoI hn]
  omega
theorem tw_lt_of_le {x y w : Int32} (h1 : x ≤ y) (h2 : y < w) : x < w := by
  rw [Int32.lt_iff_toInt_lt] at h2 ⊢
  rw [Int32.le_iff_toInt_le] at h1
  omega
theorem tw_not_lt {x y : Int32} : ¬ x < y ↔ y ≤ x := by
  rw [Int32.lt_iff_toInt_lt, Int32.le_iff_toInt_le]
  omega
theorem tw_not_le {x y : Int32} : ¬ x ≤ y ↔ y < x := by
  rw [Int32.lt_iff_toInt_lt, Int32.le_iff_toInt_le]
  omega
/-- what isn't below 0 is such a number -/
theorem tw_nof {x : Int32} (h : ¬ x < 0) : ∃ a, a < 2147483648 ∧ x = nI a := by
  rw [Int32.lt_iff_toInt_lt, Int32.toInt_zero] at h
  have h1 := Int32.toInt_lt x
  refine ⟨x.toInt.toNat, by omega, ?_⟩
  apply Int32.toInt.inj
  rw [tw_ntoI (by omega)]
  omega
