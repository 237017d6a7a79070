/-! what the table says is what the code says: looked at by program, an instruction a row -/
def tw_own (m : Nat) : String := (tw_mY m).cls
def tw_cl (ci : Nat) : vw_C := vwCl.getD ci (RX0, TX0, 0)
def tw_w (p : Nat) (w : Jvm.Cond) : Bool := decide (lw_tbl[p]? = some w) && goodWord w
def tw_wn (p : Nat) (w : Jvm.Cond) : Bool := decide (lw_tbl[p]? = some w)
def tw_nx (m i pc : Nat) : Bool := match tw_fetch m i with
  | some e => Nat.beq e.1 pc
  | none => false
def tw_tg (m a pc : Nat) (off : Int) : Bool := match tw_fetch m a with
  | some e => decide ((pc : Int) + off = (e.1 : Int))
  | none => false
def tw_ty (ci j : Nat) : Option Jvm.ClassFile.FieldType := parseFieldDescriptor ((tw_cl ci).2.1 j).2.2.1
def tw_aty (tag : Nat) : Jvm.ClassFile.FieldType := match tag with
  | 20 => .int
  | 21 => .byte
  | 22 => .char
  | 23 => .boolean
  | _ => .object "CardLoom$Card"
def tw_chkI (m i : Nat) (e : tw_Ent) : Bool := match e with
  | (pc, ln, ins, a, b, z, ts) => decide (decode (tw_mB m) pc = .ok (ins, ln)) && (match ins with
    | .iconst v => Nat.beq ln 1 && tw_nx m (i + 1) (pc + 1) && decide (Int32.ofInt v = z)
    | .bipush v => Nat.beq ln 2 && tw_nx m (i + 1) (pc + 2) && decide ((Int8.ofInt v).toInt32 = z)
    | .sipush v => Nat.beq ln 3 && tw_nx m (i + 1) (pc + 3) && decide ((Int16.ofInt v).toInt32 = z)
    | .ldc x => Nat.beq ln 2 && tw_nx m (i + 1) (pc + 2) && tw_w (ts.getD 0 0) (.constant (tw_own m) x z)
    | .ldc_w x => Nat.beq ln 3 && tw_nx m (i + 1) (pc + 3) && tw_w (ts.getD 0 0) (.constant (tw_own m) x z)
    | .aconst_null => Nat.beq ln 1 && tw_nx m (i + 1) (pc + 1)
    | .iload_n k => Nat.beq ln 1 && tw_nx m (i + 1) (pc + 1) && Nat.beq k.val a
    | .iload k => Nat.beq ln 2 && tw_nx m (i + 1) (pc + 2) && Nat.beq k a
    | .aload_n k => Nat.beq ln 1 && tw_nx m (i + 1) (pc + 1) && Nat.beq k.val a
    | .aload k => Nat.beq ln 2 && tw_nx m (i + 1) (pc + 2) && Nat.beq k a
    | .istore_n k => Nat.beq ln 1 && tw_nx m (i + 1) (pc + 1) && Nat.beq k.val a
    | .istore k => Nat.beq ln 2 && tw_nx m (i + 1) (pc + 2) && Nat.beq k a
    | .astore_n k => Nat.beq ln 1 && tw_nx m (i + 1) (pc + 1) && Nat.beq k.val a
    | .astore k => Nat.beq ln 2 && tw_nx m (i + 1) (pc + 2) && Nat.beq k a
    | .iinc k v => Nat.beq ln 3 && tw_nx m (i + 1) (pc + 3) && Nat.beq k a && decide (Int32.ofInt v = z)
    | .iadd => Nat.beq ln 1 && tw_nx m (i + 1) (pc + 1)
    | .isub => Nat.beq ln 1 && tw_nx m (i + 1) (pc + 1)
    | .imul => Nat.beq ln 1 && tw_nx m (i + 1) (pc + 1)
    | .iand => Nat.beq ln 1 && tw_nx m (i + 1) (pc + 1)
    | .ior => Nat.beq ln 1 && tw_nx m (i + 1) (pc + 1)
    | .ixor => Nat.beq ln 1 && tw_nx m (i + 1) (pc + 1)
    | .ishl => Nat.beq ln 1 && tw_nx m (i + 1) (pc + 1)
    | .ishr => Nat.beq ln 1 && tw_nx m (i + 1) (pc + 1)
    | .idiv => Nat.beq ln 1 && tw_nx m (i + 1) (pc + 1)
    | .irem => Nat.beq ln 1 && tw_nx m (i + 1) (pc + 1)
    | .ineg => Nat.beq ln 1 && tw_nx m (i + 1) (pc + 1)
    | .i2b => Nat.beq ln 1 && tw_nx m (i + 1) (pc + 1)
    | .i2c => Nat.beq ln 1 && tw_nx m (i + 1) (pc + 1)
    | .dup => Nat.beq ln 1 && tw_nx m (i + 1) (pc + 1)
    | .dup2 => Nat.beq ln 1 && tw_nx m (i + 1) (pc + 1)
    | .pop => Nat.beq ln 1 && tw_nx m (i + 1) (pc + 1)
    | .iaload => Nat.beq ln 1 && tw_nx m (i + 1) (pc + 1)
    | .baload => Nat.beq ln 1 && tw_nx m (i + 1) (pc + 1)
    | .caload => Nat.beq ln 1 && tw_nx m (i + 1) (pc + 1)
    | .aaload => Nat.beq ln 1 && tw_nx m (i + 1) (pc + 1)
    | .iastore => Nat.beq ln 1 && tw_nx m (i + 1) (pc + 1)
    | .bastore => Nat.beq ln 1 && tw_nx m (i + 1) (pc + 1)
    | .castore => Nat.beq ln 1 && tw_nx m (i + 1) (pc + 1)
    | .aastore => Nat.beq ln 1 && tw_nx m (i + 1) (pc + 1)
    | .arraylength => Nat.beq ln 1 && tw_nx m (i + 1) (pc + 1)
    | .ifCond _ off => Nat.beq ln 3 && tw_nx m (i + 1) (pc + 3) && tw_tg m a pc off
    | .if_icmp _ off => Nat.beq ln 3 && tw_nx m (i + 1) (pc + 3) && tw_tg m a pc off
    | .ifnull off => Nat.beq ln 3 && tw_nx m (i + 1) (pc + 3) && tw_tg m a pc off
    | .ifnonnull off => Nat.beq ln 3 && tw_nx m (i + 1) (pc + 3) && tw_tg m a pc off
    | .goto off => Nat.beq ln 3 && tw_tg m a pc off
    | .tableswitch dflt lo hi offs => tw_tg m a pc dflt && decide (z.toInt = lo) && decide ((b : Int) = hi) && (List.range ts.length).all (fun k => tw_tg m (ts.getD k 0) pc (offs.getD k 0)) && Nat.beq ts.length offs.size
    | .getfield x => Nat.beq ln 3 && tw_nx m (i + 1) (pc + 3) && Nat.blt a vwCl.length && Nat.blt b (tw_cl a).2.2 && tw_w (ts.getD 0 0) (.fieldLink (tw_own m) x ((tw_cl a).2.1 b).1 ((tw_cl a).2.1 b).2.1 ((tw_cl a).2.1 b).2.2.1)
    | .putfield x => Nat.beq ln 3 && tw_nx m (i + 1) (pc + 3) && Nat.blt a vwCl.length && Nat.blt b (tw_cl a).2.2 && tw_w (ts.getD 0 0) (.fieldLink (tw_own m) x ((tw_cl a).2.1 b).1 ((tw_cl a).2.1 b).2.1 ((tw_cl a).2.1 b).2.2.1) &&
        (!((tw_cl a).2.1 b).2.2.2 || (Nat.beq (tw_mK m) 2 && decide (((tw_cl a).2.1 b).1 = tw_own m))) && (decide (tw_ty a b = some .int) || decide (tw_ty a b = some .boolean ∧ ¬ z = 0) || ((tw_ty a b).any refKind))
    | .ireturn => Nat.beq ln 1 && (if Nat.beq a 0 then decide (tw_mR m = some .int) else decide (tw_mR m = some .boolean))
    | .areturn => Nat.beq ln 1 && ((tw_mR m).any refKind)
    | .return_ => Nat.beq ln 1 && decide (tw_mR m = none)
    | .new x => Nat.beq ln 3 && tw_nx m (i + 1) (pc + 3) && Nat.blt a vwCl.length && tw_w (ts.getD 0 0) (.classLink (tw_own m) x (tw_cl a).1) && tw_w (ts.getD 1 0) (.instantiable (tw_cl a).1 (tw_cl a).2.2) && tw_w (ts.getD 2 0) (.initialized (tw_cl a).1)
    | .newarray t => Nat.beq ln 2 && tw_nx m (i + 1) (pc + 2) && Nat.ble 20 a && Nat.blt a 24 && decide (newarray.typeOf t = tw_aty a) && tw_w (ts.getD 0 0) (.arrayClass (tw_aty a))
    | .anewarray x => Nat.beq ln 3 && tw_nx m (i + 1) (pc + 3) && tw_w (ts.getD 0 0) (.classLink (tw_own m) x "CardLoom$Card")
    | .invokevirtual x => Nat.beq ln 3 && tw_nx m (i + 1) (pc + 3) && Nat.blt a tw_NM && Nat.beq (tw_mK a) 1 && Nat.beq (tw_mN a) b && tw_w (ts.getD 0 0) (.methodLink (tw_own m) x (tw_mY a))
    | .invokespecial x => Nat.beq ln 3 && tw_nx m (i + 1) (pc + 3) && (if Nat.beq a 999 then tw_w (ts.getD 0 0) (.methodLink (tw_own m) x Lib.objectInit) && tw_w (ts.getD 1 0) (.instanceMethod Lib.objectInit) && tw_w (ts.getD 2 0) (.code Lib.objectInit ⟨#[0xb1]⟩ 1 none)
        else Nat.blt a tw_NM && Nat.beq (tw_mK a) 2 && Nat.beq (tw_mN a) b && (if Nat.beq (ts.getD 1 0) 0 then tw_w (ts.getD 0 0) (.methodLink (tw_own m) x (tw_mY a)) else tw_wn (ts.getD 0 0) (.methodLinkNest (tw_own m) x (tw_mY a) "CardLoom")))
    | .invokestatic x => Nat.beq ln 3 && tw_nx m (i + 1) (pc + 3) && (if Nat.beq a 998 then tw_w (ts.getD 0 0) (.methodLink (tw_own m) x arraycopyName) && tw_w (ts.getD 1 0) (.native arraycopyName) && tw_w (ts.getD 2 0) (.static arraycopyName) && tw_w (ts.getD 3 0) (.initialized "java/lang/System")
        else Nat.blt a tw_NM && Nat.beq (tw_mK a) 0 && Nat.beq (tw_mN a) b && (if Nat.beq (ts.getD 1 0) 0 then tw_w (ts.getD 0 0) (.methodLink (tw_own m) x (tw_mY a)) else tw_wn (ts.getD 0 0) (.methodLinkNest (tw_own m) x (tw_mY a) "CardLoom")))
    | _ => false)
def tw_chkR (m lo n : Nat) : Bool := (List.range n).all (fun k => match tw_fetch m (lo + k) with
  | some e => tw_chkI m (lo + k) e
  | none => true)
def tw_okE (m : Nat) : Prop := ∀ (i : Nat) (e : tw_Ent), tw_fetch m i = some e → tw_chkI m i e = true
theorem tw_okR {m lo n : Nat} (h : tw_chkR m lo n = true) (i : Nat) (e : tw_Ent) (h1 : lo ≤ i) (h2 : i < lo + n) (he : tw_fetch m i = some e) : tw_chkI m i e = true := by
  have h0 := List.all_eq_true.mp h (i - lo) (List.mem_range.mpr (by omega))
  rw [show lo + (i - lo) = i by omega] at h0
  simpa only [he] using h0
def tw_chkM (m : Nat) : Bool := tw_w ((tw_mW m).getD 1 0) (.initialized (tw_own m)) &&
  decide (tw_own m ≠ "java/lang/invoke/MethodHandle") && decide (tw_own m ≠ "java/lang/invoke/VarHandle") && plainFor (tw_mY m) && decide ((parseMethodDescriptor (tw_mY m).desc).map (fun q => q.parameters.length) = some (tw_mN m)) &&
  Nat.ble (tw_mL m) 30 && Nat.ble (tw_mN m + (if Nat.beq (tw_mK m) 0 then 0 else 1)) (tw_mL m) && Nat.ble (tw_mK m) 2 &&
  (if Nat.beq (tw_mK m) 0 then tw_w ((tw_mW m).getD 2 0) (.static (tw_mY m)) else tw_w ((tw_mW m).getD 2 0) (.instanceMethod (tw_mY m)) && Nat.blt (tw_mC m) vwCl.length && decide ((tw_cl (tw_mC m)).1 = tw_own m)) &&
  (if Nat.beq (tw_mK m) 1 then tw_w ((tw_mW m).getD 3 0) (.selects (tw_own m) (tw_mY m) (tw_mY m)) else true) && (if Nat.beq (tw_mK m) 2 then decide ((tw_mY m).name = "<init>") && decide (tw_mR m = none) else true)
def tw_okM (m : Nat) : Prop := m = tw_LAW ∨ tw_chkM m = true
def tw_okC (m : Nat) : Prop := m = tw_LAW ∨ lw_tbl[(tw_mW m).getD 0 0]? = some (.code (tw_mY m) (tw_mB m) (tw_mL m) (tw_mR m))
