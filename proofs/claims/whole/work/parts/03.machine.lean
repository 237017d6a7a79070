/-! the table machine: one step of an instruction over whole numbers, references as numbers of cells, a memory as a function -/
abbrev tw_Mem : Type := Nat → Nat → Int32
abbrev tw_Md : Type := Option Nat
abbrev tw_Cfg : Type := Nat × List Value × List Value × tw_Md × tw_Mem
abbrev tw_Ret : Type := Option Value × tw_Md × tw_Mem
abbrev tw_Out : Type := tw_Cfg ⊕ (Option Value ⊕ (Nat × List Value × List Value))
def tw_sh (k : Nat) : Nat × Nat := tw_shL.getD k (0, 0)
def tw_kd (k j : Nat) : Nat × Nat := (tw_kdL.getD k []).getD j (0, 0)
def tw_mth (m : Nat) : tw_Meth := tw_mt.getD m tw_M0
def tw_mY (m : Nat) : MethodName := (tw_mth m).1
def tw_mB (m : Nat) : ByteArray := (tw_mth m).2.1
def tw_mL (m : Nat) : Nat := (tw_mth m).2.2.1
def tw_mR (m : Nat) : Option Jvm.ClassFile.FieldType := (tw_mth m).2.2.2.1
def tw_mK (m : Nat) : Nat := (tw_mth m).2.2.2.2.1
def tw_mC (m : Nat) : Nat := (tw_mth m).2.2.2.2.2.1
def tw_mN (m : Nat) : Nat := (tw_mth m).2.2.2.2.2.2.1
def tw_mW (m : Nat) : List Nat := (tw_mth m).2.2.2.2.2.2.2.1
def tw_mE (m : Nat) : List tw_Ent := (tw_mth m).2.2.2.2.2.2.2.2
def tw_fetch (m i : Nat) : Option tw_Ent := (tw_mE m)[i]?
def tw_cn (md : tw_Md) : Nat := match md with
  | none => tw_NC
  | some n => n
def tw_slS : Nat → Nat
  | 0 => 0
  | n + 1 => tw_slS n + (tw_sh (n + 1)).2
def tw_sl (md : tw_Md) : Nat := tw_slS (tw_cn md)
def tw_U : Value := .retAddr 0
def tw_upd (σ : tw_Mem) (k j : Nat) (x : Int32) : tw_Mem := fun k' j' => if k' = k ∧ j' = j then x else σ k' j'
def tw_born (σ : tw_Mem) (q : Nat) : tw_Mem := fun k j => if k = q ∨ ((tw_kd k j).2 = q ∧ (tw_kd k j).1 ≠ 0) then 0 else σ k j
def tw_cpy (σ : tw_Mem) (k q sp dp n : Nat) : tw_Mem := fun k' j => if k' = q ∧ dp ≤ j ∧ j < dp + n then σ k (sp + (j - dp)) else σ k' j
def tw_val (md : tw_Md) (σ : tw_Mem) (k j : Nat) : Value := match tw_kd k j with
  | (0, _) => .int (σ k j)
  | (c + 1, t) => match md with
    | none => if c = 0 then .ref t else if σ k j = 0 then .null else .ref t
    | some n => if σ k j = 0 then .null else if n < t then .null else .ref t
def tw_live (k : Nat) (md : tw_Md) : Bool := Nat.ble 1 k && Nat.ble k (tw_cn md)
def tw_isO (k ci : Nat) (md : tw_Md) : Bool := tw_live k md && Nat.beq (tw_sh k).1 ci
def tw_isA (k tag : Nat) (md : tw_Md) (j : Int32) : Bool := tw_live k md && Nat.beq (tw_sh k).1 tag && !(decide (j < 0)) && Nat.blt j.toNatClampNeg (tw_sh k).2
def tw_go (i : Nat) (ls st : List Value) (md : tw_Md) (σ : tw_Mem) : Option tw_Out := some (.inl (i, ls, st, md, σ))
def tw_p1 (st : List Value) (f : Int32 → List Value → Option tw_Out) : Option tw_Out := match st with
  | .int x :: r => f x r
  | _ => none
def tw_p2 (st : List Value) (f : Int32 → Int32 → List Value → Option tw_Out) : Option tw_Out := match st with
  | .int y :: .int x :: r => f x y r
  | _ => none
def tw_pr (st : List Value) (f : Nat → List Value → Option tw_Out) : Option tw_Out := match st with
  | .ref k :: r => f k r
  | _ => none
def tw_pir (st : List Value) (f : Int32 → Nat → List Value → Option tw_Out) : Option tw_Out := match st with
  | .int j :: .ref k :: r => f j k r
  | _ => none
def tw_piir (st : List Value) (f : Int32 → Int32 → Nat → List Value → Option tw_Out) : Option tw_Out := match st with
  | .int x :: .int j :: .ref k :: r => f x j k r
  | _ => none
def tw_cnd (c : Jvm.ClassFile.Cond) (x y : Int32) : Bool := match c with
  | .eq => decide (x = y)
  | .ne => !(decide (x = y))
  | .lt => decide (x < y)
  | .ge => decide (y ≤ x)
  | .gt => decide (y < x)
  | .le => decide (x ≤ y)
def tw_ldi (i a : Nat) (ls st : List Value) (md : tw_Md) (σ : tw_Mem) : Option tw_Out := match ls[a]? with
  | some (.int x) => tw_go (i + 1) ls (.int x :: st) md σ
  | _ => none
def tw_lda (i a : Nat) (ls st : List Value) (md : tw_Md) (σ : tw_Mem) : Option tw_Out := match ls[a]? with
  | some (.ref x) => tw_go (i + 1) ls (.ref x :: st) md σ
  | some .null => tw_go (i + 1) ls (.null :: st) md σ
  | _ => none
def tw_sti (i a : Nat) (ls st : List Value) (md : tw_Md) (σ : tw_Mem) : Option tw_Out := match st with
  | .int x :: r => if Nat.blt a ls.length then tw_go (i + 1) (ls.set a (.int x)) r md σ else none
  | _ => none
def tw_sta (i a : Nat) (ls st : List Value) (md : tw_Md) (σ : tw_Mem) : Option tw_Out := match st with
  | .ref x :: r => if Nat.blt a ls.length then tw_go (i + 1) (ls.set a (.ref x)) r md σ else none
  | .null :: r => if Nat.blt a ls.length then tw_go (i + 1) (ls.set a .null) r md σ else none
  | _ => none
def tw_bit (x : Int32) : Bool := decide (x = 0) || decide (x = 1)
def tw_inv (y b : Nat) (st : List Value) (md : tw_Md) : Option tw_Out := match st.drop b with
  | .ref k :: r => if Nat.ble r.length 8 && tw_isO k (tw_mC y) md then some (.inr (.inr (y, .ref k :: (st.take b).reverse, r))) else none
  | _ => none
def tw_step (L : Nat) (xs : Nat → Int32) (ins : Jvm.ClassFile.Instr) (a b : Nat) (z : Int32) (ts : List Nat) (i : Nat) (ls st : List Value) (md : tw_Md) (σ : tw_Mem) : Option tw_Out := match ins with
  | .iconst _ => tw_go (i + 1) ls (.int z :: st) md σ
  | .bipush _ => tw_go (i + 1) ls (.int z :: st) md σ
  | .sipush _ => tw_go (i + 1) ls (.int z :: st) md σ
  | .ldc _ => tw_go (i + 1) ls (.int z :: st) md σ
  | .ldc_w _ => tw_go (i + 1) ls (.int z :: st) md σ
  | .aconst_null => tw_go (i + 1) ls (.null :: st) md σ
  | .iload_n _ => tw_ldi i a ls st md σ
  | .iload _ => tw_ldi i a ls st md σ
  | .aload_n _ => tw_lda i a ls st md σ
  | .aload _ => tw_lda i a ls st md σ
  | .istore_n _ => tw_sti i a ls st md σ
  | .istore _ => tw_sti i a ls st md σ
  | .astore_n _ => tw_sta i a ls st md σ
  | .astore _ => tw_sta i a ls st md σ
  | .iinc _ _ => (match ls[a]? with
    | some (.int x) => tw_go (i + 1) (ls.set a (.int (x + z))) st md σ
    | _ => none)
  | .iadd => tw_p2 st fun x y r => tw_go (i + 1) ls (.int (x + y) :: r) md σ
  | .isub => tw_p2 st fun x y r => tw_go (i + 1) ls (.int (x - y) :: r) md σ
  | .imul => tw_p2 st fun x y r => tw_go (i + 1) ls (.int (x * y) :: r) md σ
  | .iand => tw_p2 st fun x y r => tw_go (i + 1) ls (.int (x &&& y) :: r) md σ
  | .ior => tw_p2 st fun x y r => tw_go (i + 1) ls (.int (x ||| y) :: r) md σ
  | .ixor => tw_p2 st fun x y r => tw_go (i + 1) ls (.int (x ^^^ y) :: r) md σ
  | .ishl => tw_p2 st fun x y r => tw_go (i + 1) ls (.int (x <<< (y &&& 31)) :: r) md σ
  | .ishr => tw_p2 st fun x y r => tw_go (i + 1) ls (.int (x >>> (y &&& 31)) :: r) md σ
  | .idiv => tw_p2 st fun x y r => if y = 0 then none else tw_go (i + 1) ls (.int (x / y) :: r) md σ
  | .irem => tw_p2 st fun x y r => if y = 0 then none else tw_go (i + 1) ls (.int (x - x / y * y) :: r) md σ
  | .ineg => tw_p1 st fun x r => tw_go (i + 1) ls (.int (-x) :: r) md σ
  | .i2b => tw_p1 st fun x r => tw_go (i + 1) ls (.int x.toInt8.toInt32 :: r) md σ
  | .i2c => tw_p1 st fun x r => tw_go (i + 1) ls (.int (x.toUInt32 % 65536).toInt32 :: r) md σ
  | .dup => (match st with
    | v :: r => tw_go (i + 1) ls (v :: v :: r) md σ
    | _ => none)
  | .dup2 => (match st with
    | v :: w :: r => tw_go (i + 1) ls (v :: w :: v :: w :: r) md σ
    | _ => none)
  | .pop => (match st with
    | _ :: r => tw_go (i + 1) ls r md σ
    | _ => none)
  | .ifCond c _ => tw_p1 st fun x r => tw_go (if tw_cnd c x 0 then a else i + 1) ls r md σ
  | .if_icmp c _ => tw_p2 st fun x y r => tw_go (if tw_cnd c x y then a else i + 1) ls r md σ
  | .ifnull _ => (match st with
    | .null :: r => tw_go a ls r md σ
    | .ref _ :: r => tw_go (i + 1) ls r md σ
    | _ => none)
  | .ifnonnull _ => (match st with
    | .null :: r => tw_go (i + 1) ls r md σ
    | .ref _ :: r => tw_go a ls r md σ
    | _ => none)
  | .goto _ => tw_go a ls st md σ
  | .tableswitch _ _ _ _ => tw_p1 st fun x r => if x.toInt < z.toInt ∨ (b : Int) < x.toInt then tw_go a ls r md σ else (match ts[(x.toInt - z.toInt).toNat]? with
    | some t => tw_go t ls r md σ
    | none => none)
  | .getfield _ => tw_pr st fun k r => if tw_isO k a md && Nat.blt b (tw_sh k).2 then tw_go (i + 1) ls (tw_val md σ k b :: r) md σ else none
  | .putfield _ => (match st with
    | .int x :: .ref k :: r => if tw_isO k a md && Nat.blt b (tw_sh k).2 && Nat.beq (tw_kd k b).1 0 && (decide (z = 0) || tw_bit x) then tw_go (i + 1) ls r md (tw_upd σ k b x) else none
    | .ref q :: .ref k :: r => if tw_isO k a md && Nat.blt b (tw_sh k).2 && Nat.ble 1 (tw_kd k b).1 && Nat.beq (tw_kd k b).2 q && (md.isSome || Nat.ble 2 (tw_kd k b).1) then tw_go (i + 1) ls r md (tw_upd σ k b 1) else none
    | _ => none)
  | .iaload => tw_pir st fun j k r => if Nat.beq k 0 then (if !(decide (j < 0)) && Nat.blt j.toNatClampNeg L then tw_go (i + 1) ls (.int (xs j.toNatClampNeg) :: r) md σ else none) else if tw_isA k 20 md j then tw_go (i + 1) ls (.int (σ k j.toNatClampNeg) :: r) md σ else none
  | .baload => tw_pir st fun j k r => if tw_isA k 21 md j || tw_isA k 23 md j then tw_go (i + 1) ls (.int (σ k j.toNatClampNeg) :: r) md σ else none
  | .caload => tw_pir st fun j k r => if tw_isA k 22 md j then tw_go (i + 1) ls (.int (σ k j.toNatClampNeg) :: r) md σ else none
  | .aaload => tw_pir st fun j k r => if tw_isA k 24 md j then tw_go (i + 1) ls (tw_val md σ k j.toNatClampNeg :: r) md σ else none
  | .iastore => tw_piir st fun x j k r => if tw_isA k 20 md j then tw_go (i + 1) ls r md (tw_upd σ k j.toNatClampNeg x) else none
  | .bastore => tw_piir st fun x j k r => if tw_isA k 21 md j then tw_go (i + 1) ls r md (tw_upd σ k j.toNatClampNeg (vp_nar .byte x)) else if tw_isA k 23 md j then tw_go (i + 1) ls r md (tw_upd σ k j.toNatClampNeg (vp_nar .boolean x)) else none
  | .castore => tw_piir st fun x j k r => if tw_isA k 22 md j then tw_go (i + 1) ls r md (tw_upd σ k j.toNatClampNeg (vp_nar .char x)) else none
  | .aastore => (match st with
    | .ref q :: .int j :: .ref k :: r => if tw_isA k 24 md j && tw_isO q 0 md && Nat.beq (tw_kd k j.toNatClampNeg).1 1 && Nat.beq (tw_kd k j.toNatClampNeg).2 q && md.isSome then tw_go (i + 1) ls r md (tw_upd σ k j.toNatClampNeg 1) else none
    | _ => none)
  | .arraylength => tw_pr st fun k r => if Nat.beq k 0 then tw_go (i + 1) ls (.int (Int32.ofNat L) :: r) md σ else if tw_live k md && Nat.ble 20 (tw_sh k).1 then tw_go (i + 1) ls (.int (Int32.ofNat (tw_sh k).2) :: r) md σ else none
  | .new _ => (match md with
    | some n => if Nat.blt n tw_NC && Nat.beq (tw_sh (n + 1)).1 a then tw_go (i + 1) ls (.ref (n + 1) :: st) (some (n + 1)) (tw_born σ (n + 1)) else none
    | none => none)
  | .newarray _ => tw_p1 st fun x r => (match md with
    | some n => if Nat.blt n tw_NC && Nat.beq (tw_sh (n + 1)).1 a && !(decide (x < 0)) && Nat.beq x.toNatClampNeg (tw_sh (n + 1)).2 then tw_go (i + 1) ls (.ref (n + 1) :: r) (some (n + 1)) (tw_born σ (n + 1)) else none
    | none => none)
  | .anewarray _ => tw_p1 st fun x r => (match md with
    | some n => if Nat.blt n tw_NC && Nat.beq (tw_sh (n + 1)).1 24 && !(decide (x < 0)) && Nat.beq x.toNatClampNeg (tw_sh (n + 1)).2 then tw_go (i + 1) ls (.ref (n + 1) :: r) (some (n + 1)) (tw_born σ (n + 1)) else none
    | none => none)
  | .ireturn => (match st with
    | [.int x] => if Nat.beq a 0 || tw_bit x then some (.inr (.inl (some (.int x)))) else none
    | _ => none)
  | .areturn => (match st with
    | [.ref k] => some (.inr (.inl (some (.ref k))))
    | [.null] => some (.inr (.inl (some .null)))
    | _ => none)
  | .return_ => (match st with
    | [] => some (.inr (.inl none))
    | _ => none)
  | .invokespecial _ => if Nat.beq a 999 then tw_pr st fun _ r => if Nat.ble r.length 8 then tw_go (i + 1) ls r md σ else none else tw_inv a b st md
  | .invokevirtual _ => tw_inv a b st md
  | .invokestatic _ => if Nat.beq a 998 then none else if Nat.ble b st.length && Nat.ble (st.drop b).length 8 then some (.inr (.inr (a, (st.take b).reverse, st.drop b))) else none
  | _ => none
def tw_stepE (L : Nat) (xs : Nat → Int32) (e : tw_Ent) (i : Nat) (ls st : List Value) (md : tw_Md) (σ : tw_Mem) : Option tw_Out := tw_step L xs e.2.2.1 e.2.2.2.1 e.2.2.2.2.1 e.2.2.2.2.2.1 e.2.2.2.2.2.2 i ls st md σ
def tw_ent (y : Nat) (as : List Value) : List Value := as ++ List.replicate (tw_mL y - as.length) tw_U
/-- every slot that always holds a reference has got it -/
def tw_full (σ : tw_Mem) : Prop := ∀ k, k ≤ tw_NC → ∀ j, (tw_kd k j).1 = 1 → σ k j ≠ 0
/-! what a run comes to: the least relation closed under these rules (said over all relations, for no new kind of relation may be declared) -/
def tw_Cl (L : Nat) (xs : Nat → Int32) (P : Nat → Nat → tw_Cfg → tw_Ret → Prop) : Prop :=
  (∀ (d m i : Nat) (ls st : List Value) (md : tw_Md) (σ : tw_Mem) (e : tw_Ent) (g : tw_Cfg) (r : tw_Ret), tw_fetch m i = some e → tw_stepE L xs e i ls st md σ = some (.inl g) → P d m g r → P d m (i, ls, st, md, σ) r) ∧
  (∀ (d m i : Nat) (ls st : List Value) (md : tw_Md) (σ : tw_Mem) (e : tw_Ent) (v : Option Value), tw_fetch m i = some e → tw_stepE L xs e i ls st md σ = some (.inr (.inl v)) → P d m (i, ls, st, md, σ) (v, md, σ)) ∧
  (∀ (d d1 m i : Nat) (ls st : List Value) (md : tw_Md) (σ : tw_Mem) (e : tw_Ent) (y : Nat) (as rest : List Value) (v : Option Value) (md1 : tw_Md) (σ1 : tw_Mem) (r : tw_Ret), tw_fetch m i = some e → tw_stepE L xs e i ls st md σ = some (.inr (.inr (y, as, rest))) → d1 < d →
    P d1 y (0, tw_ent y as, [], md, σ) (v, md1, σ1) → P d m (i + 1, ls, v.toList ++ rest, md1, σ1) r → P d m (i, ls, st, md, σ) r) ∧
  (∀ (d m i : Nat) (ls rest : List Value) (σ : tw_Mem) (pc ln idx b : Nat) (z : Int32) (ts : List Nat) (k q : Nat) (sp dp n : Int32) (r : tw_Ret), tw_fetch m i = some (pc, ln, .invokestatic idx, 998, b, z, ts) → rest.length ≤ 8 → tw_live k none = true → tw_live q none = true → (tw_sh q).1 = (tw_sh k).1 → 20 ≤ (tw_sh k).1 → (tw_sh k).1 ≤ 23 → k ≠ q →
    0 ≤ sp → 0 ≤ dp → 0 ≤ n → sp.toNatClampNeg + n.toNatClampNeg ≤ (tw_sh k).2 → dp.toNatClampNeg + n.toNatClampNeg ≤ (tw_sh q).2 → ((tw_sh k).1 = 20 ∨ (tw_sh k).1 = 22 ∧ ∀ j, j < n.toNatClampNeg → 0 ≤ σ k (sp.toNatClampNeg + j) ∧ σ k (sp.toNatClampNeg + j) ≤ 65535) →
    P d m (i + 1, ls, rest, none, tw_cpy σ k q sp.toNatClampNeg dp.toNatClampNeg n.toNatClampNeg) r → P d m (i, ls, .int n :: .int dp :: .ref q :: .int sp :: .ref k :: rest, none, σ) r) ∧
  (∀ (d m i : Nat) (ls st : List Value) (σ : tw_Mem) (r : tw_Ret), tw_full σ → P d m (i, ls, st, none, σ) r → P d m (i, ls, st, some tw_NC, σ) r)
def tw_R (L : Nat) (xs : Nat → Int32) (d m : Nat) (g : tw_Cfg) (r : tw_Ret) : Prop := ∀ P, tw_Cl L xs P → P d m g r
theorem tw_go1 {L : Nat} {xs : Nat → Int32} {d m i : Nat} {ls st : List Value} {md : tw_Md} {σ : tw_Mem} {e : tw_Ent} {g : tw_Cfg} {r : tw_Ret} (h1 : tw_fetch m i = some e) (h2 : tw_stepE L xs e i ls st md σ = some (.inl g)) (h3 : tw_R L xs d m g r) : tw_R L xs d m (i, ls, st, md, σ) r :=
  fun P hP => hP.1 d m i ls st md σ e g r h1 h2 (h3 P hP)
theorem tw_ret1 {L : Nat} {xs : Nat → Int32} {d m i : Nat} {ls st : List Value} {md : tw_Md} {σ : tw_Mem} {e : tw_Ent} {v : Option Value} (h1 : tw_fetch m i = some e) (h2 : tw_stepE L xs e i ls st md σ = some (.inr (.inl v))) : tw_R L xs d m (i, ls, st, md, σ) (v, md, σ) :=
  fun P hP => hP.2.1 d m i ls st md σ e v h1 h2
theorem tw_call1 {L : Nat} {xs : Nat → Int32} {d d1 m i : Nat} {ls st : List Value} {md : tw_Md} {σ : tw_Mem} {e : tw_Ent} {y : Nat} {as rest : List Value} {v : Option Value} {md1 : tw_Md} {σ1 : tw_Mem} {r : tw_Ret} (h1 : tw_fetch m i = some e) (h2 : tw_stepE L xs e i ls st md σ = some (.inr (.inr (y, as, rest)))) (hd : d1 < d)
    (h3 : tw_R L xs d1 y (0, tw_ent y as, [], md, σ) (v, md1, σ1)) (h4 : tw_R L xs d m (i + 1, ls, v.toList ++ rest, md1, σ1) r) : tw_R L xs d m (i, ls, st, md, σ) r :=
  fun P hP => hP.2.2.1 d d1 m i ls st md σ e y as rest v md1 σ1 r h1 h2 hd (h3 P hP) (h4 P hP)
theorem tw_copy1 {L : Nat} {xs : Nat → Int32} {d m i : Nat} {ls rest : List Value} {σ : tw_Mem} {pc ln idx b : Nat} {z : Int32} {ts : List Nat} {k q : Nat} {sp dp n : Int32} {r : tw_Ret} (h1 : tw_fetch m i = some (pc, ln, .invokestatic idx, 998, b, z, ts)) (h2 : rest.length ≤ 8) (h3 : tw_live k none = true) (h4 : tw_live q none = true) (h5 : (tw_sh q).1 = (tw_sh k).1) (h6 : 20 ≤ (tw_sh k).1) (h7 : (tw_sh k).1 ≤ 23) (h8 : k ≠ q)
    (h9 : 0 ≤ sp) (h10 : 0 ≤ dp) (h11 : 0 ≤ n) (h12 : sp.toNatClampNeg + n.toNatClampNeg ≤ (tw_sh k).2) (h13 : dp.toNatClampNeg + n.toNatClampNeg ≤ (tw_sh q).2) (h14 : (tw_sh k).1 = 20 ∨ (tw_sh k).1 = 22 ∧ ∀ j, j < n.toNatClampNeg → 0 ≤ σ k (sp.toNatClampNeg + j) ∧ σ k (sp.toNatClampNeg + j) ≤ 65535)
    (h15 : tw_R L xs d m (i + 1, ls, rest, none, tw_cpy σ k q sp.toNatClampNeg dp.toNatClampNeg n.toNatClampNeg) r) : tw_R L xs d m (i, ls, .int n :: .int dp :: .ref q :: .int sp :: .ref k :: rest, none, σ) r :=
  fun P hP => hP.2.2.2.1 d m i ls rest σ pc ln idx b z ts k q sp dp n r h1 h2 h3 h4 h5 h6 h7 h8 h9 h10 h11 h12 h13 h14 (h15 P hP)
theorem tw_full1 {L : Nat} {xs : Nat → Int32} {d m i : Nat} {ls st : List Value} {σ : tw_Mem} {r : tw_Ret} (h1 : tw_full σ) (h2 : tw_R L xs d m (i, ls, st, none, σ) r) : tw_R L xs d m (i, ls, st, some tw_NC, σ) r :=
  fun P hP => hP.2.2.2.2 d m i ls st σ r h1 (h2 P hP)
