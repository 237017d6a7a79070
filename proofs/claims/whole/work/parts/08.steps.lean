/-! an instruction of the table machine that changes the stack and the locals alone is the machine's instruction -/
section tw_A
variable {D : va_G} {aC : Nat → ClassId} {z b L : Nat} {xs : Nat → Int32} {l : Launch} {md : tw_Md} {σ : tw_Mem} {m pc i : Nat} {ls st r : List Value} {x y v : Int32} {off : Int} {tgt a : Nat}
def tw_AdvS (l : Launch) (D : va_G) (aC : Nat → ClassId) (z b L : Nat) (xs : Nat → Int32) (md : tw_Md) (σ : tw_Mem) (m pc : Nat) (lsA stA : List Value) (i1 : Nat) (lsB stB : List Value) : Prop :=
  ∀ (ad : Nat → Nat) (p : Program) (e : Env) (s : State) (mi : MethodId) (args : Array Value) (below : List Frame) (meth : Method) (c : Code) (H : Heap) (locs : List Loc) (cells slots : Nat) (Rm : Room) (Q : State → Prop) (ls : Array Slot),
    tw_Cx D aC z b L xs m p s mi args meth c → tw_Hx D aC z b ad md σ s H locs → tw_Lr ad md lsA ls → lsA.length = tw_mL m → (∀ v ∈ stA, tw_okv md v) → 1 ≤ Rm.frames → 64 ≤ Rm.locals →
    (∀ (ls1 : Array Slot) (pc1 : Nat), tw_next m i1 pc1 → tw_Lr ad md lsB ls1 → lsB.length = tw_mL m → (∀ v ∈ stB, tw_okv md v) → W p l e Rm s mi args below meth c H locs cells slots Q (F0 mi pc1 ls1 (stB.map (tw_rel ad)))) →
    W p l e Rm s mi args below meth c H locs cells slots Q (F0 mi pc ls (stA.map (tw_rel ad)))
theorem tw_a_iconst {n : Int} (hd : decode (tw_mB m) pc = .ok (.iconst n, 1)) (hn : tw_next m (i + 1) (pc + 1)) (hv : Int32.ofInt n = v) : tw_AdvS l D aC z b L xs md σ m pc ls st (i + 1) ls (.int v :: st) :=
  fun ad p e s mi args below meth c H locs cells slots Rm Q lsC hC hH hL hN hS hf hl k => lv_iconst hC.1 hC.2.1 hd hv (k lsC _ hn hL hN (tw_okc trivial hS))
theorem tw_a_bipush {n : Int} (hd : decode (tw_mB m) pc = .ok (.bipush n, 2)) (hn : tw_next m (i + 1) (pc + 2)) (hv : (Int8.ofInt n).toInt32 = v) : tw_AdvS l D aC z b L xs md σ m pc ls st (i + 1) ls (.int v :: st) :=
  fun ad p e s mi args below meth c H locs cells slots Rm Q lsC hC hH hL hN hS hf hl k => lv_bipush hC.1 hC.2.1 hd hv (k lsC _ hn hL hN (tw_okc trivial hS))
theorem tw_a_sipush {n : Int} (hd : decode (tw_mB m) pc = .ok (.sipush n, 3)) (hn : tw_next m (i + 1) (pc + 3)) (hv : (Int16.ofInt n).toInt32 = v) : tw_AdvS l D aC z b L xs md σ m pc ls st (i + 1) ls (.int v :: st) :=
  fun ad p e s mi args below meth c H locs cells slots Rm Q lsC hC hH hL hN hS hf hl k => lv_sipush hC.1 hC.2.1 hd hv (k lsC _ hn hL hN (tw_okc trivial hS))
theorem tw_a_ldc {q : Nat} (hd : decode (tw_mB m) pc = .ok (.ldc q, 2)) (hn : tw_next m (i + 1) (pc + 2)) (hv : Jvm.Cond.constant (tw_own m) q v ∈ tw_gw) : tw_AdvS l D aC z b L xs md σ m pc ls st (i + 1) ls (.int v :: st) :=
  fun ad p e s mi args below meth c H locs cells slots Rm Q lsC hC hH hL hN hS hf hl k => lv_ldc hC.1 hC.2.1 hC.2.2.2.1 (hC.2.2.2.2.1 _ hv) hd (k lsC _ hn hL hN (tw_okc trivial hS))
theorem tw_a_ldcw {q : Nat} (hd : decode (tw_mB m) pc = .ok (.ldc_w q, 3)) (hn : tw_next m (i + 1) (pc + 3)) (hv : Jvm.Cond.constant (tw_own m) q v ∈ tw_gw) : tw_AdvS l D aC z b L xs md σ m pc ls st (i + 1) ls (.int v :: st) :=
  fun ad p e s mi args below meth c H locs cells slots Rm Q lsC hC hH hL hN hS hf hl k => lv_ldcw hC.1 hC.2.1 hC.2.2.2.1 (hC.2.2.2.2.1 _ hv) hd (k lsC _ hn hL hN (tw_okc trivial hS))
theorem tw_a_null (hd : decode (tw_mB m) pc = .ok (.aconst_null, 1)) (hn : tw_next m (i + 1) (pc + 1)) : tw_AdvS l D aC z b L xs md σ m pc ls st (i + 1) ls (.null :: st) :=
  fun ad p e s mi args below meth c H locs cells slots Rm Q lsC hC hH hL hN hS hf hl k => lv_null hC.1 hC.2.1 hd (k lsC _ hn hL hN (tw_okc trivial hS))
theorem tw_a_iload_n {kk : Fin 4} (hd : decode (tw_mB m) pc = .ok (.iload_n kk, 1)) (hn : tw_next m (i + 1) (pc + 1)) (hk : (kk : Nat) = a) (ha : ls[a]? = some (.int x)) : tw_AdvS l D aC z b L xs md σ m pc ls st (i + 1) ls (.int x :: st) :=
  fun ad p e s mi args below meth c H locs cells slots Rm Q lsC hC hH hL hN hS hf hl k => lv_iload_n hC.1 hC.2.1 hd hk (hL.at ha (fun q => by cases q)) (k lsC _ hn hL hN (tw_okc trivial hS))
theorem tw_a_iload (hd : decode (tw_mB m) pc = .ok (.iload a, 2)) (hn : tw_next m (i + 1) (pc + 2)) (ha : ls[a]? = some (.int x)) : tw_AdvS l D aC z b L xs md σ m pc ls st (i + 1) ls (.int x :: st) :=
  fun ad p e s mi args below meth c H locs cells slots Rm Q lsC hC hH hL hN hS hf hl k => lv_iload hC.1 hC.2.1 hd (hL.at ha (fun q => by cases q)) (k lsC _ hn hL hN (tw_okc trivial hS))
theorem tw_a_aload_n {kk : Fin 4} {q : Nat} (hd : decode (tw_mB m) pc = .ok (.aload_n kk, 1)) (hn : tw_next m (i + 1) (pc + 1)) (hk : (kk : Nat) = a) (ha : ls[a]? = some (.ref q)) : tw_AdvS l D aC z b L xs md σ m pc ls st (i + 1) ls (.ref q :: st) :=
  fun ad p e s mi args below meth c H locs cells slots Rm Q lsC hC hH hL hN hS hf hl k => lv_aload_n hC.1 hC.2.1 hd hk (hL.at ha (fun q => by cases q)) (k lsC _ hn hL hN (tw_okc (hL.2.2 _ _ ha).1 hS))
theorem tw_a_aload {q : Nat} (hd : decode (tw_mB m) pc = .ok (.aload a, 2)) (hn : tw_next m (i + 1) (pc + 2)) (ha : ls[a]? = some (.ref q)) : tw_AdvS l D aC z b L xs md σ m pc ls st (i + 1) ls (.ref q :: st) :=
  fun ad p e s mi args below meth c H locs cells slots Rm Q lsC hC hH hL hN hS hf hl k => lv_aload hC.1 hC.2.1 hd (hL.at ha (fun q => by cases q)) (k lsC _ hn hL hN (tw_okc (hL.2.2 _ _ ha).1 hS))
theorem tw_a_aload_nN {kk : Fin 4} (hd : decode (tw_mB m) pc = .ok (.aload_n kk, 1)) (hn : tw_next m (i + 1) (pc + 1)) (hk : (kk : Nat) = a) (ha : ls[a]? = some (.null)) : tw_AdvS l D aC z b L xs md σ m pc ls st (i + 1) ls (.null :: st) :=
  fun ad p e s mi args below meth c H locs cells slots Rm Q lsC hC hH hL hN hS hf hl k => lv_aload_nN hC.1 hC.2.1 hd hk (hL.at ha (fun q => by cases q)) (k lsC _ hn hL hN (tw_okc trivial hS))
theorem tw_a_aloadN (hd : decode (tw_mB m) pc = .ok (.aload a, 2)) (hn : tw_next m (i + 1) (pc + 2)) (ha : ls[a]? = some (.null)) : tw_AdvS l D aC z b L xs md σ m pc ls st (i + 1) ls (.null :: st) :=
  fun ad p e s mi args below meth c H locs cells slots Rm Q lsC hC hH hL hN hS hf hl k => lv_aloadN hC.1 hC.2.1 hd (hL.at ha (fun q => by cases q)) (k lsC _ hn hL hN (tw_okc trivial hS))
theorem tw_a_istore_n {kk : Fin 4} (hd : decode (tw_mB m) pc = .ok (.istore_n kk, 1)) (hn : tw_next m (i + 1) (pc + 1)) (hk : (kk : Nat) = a) (ha : a < ls.length) : tw_AdvS l D aC z b L xs md σ m pc ls (.int x :: r) (i + 1) (ls.set a (.int x)) r :=
  fun ad p e s mi args below meth c H locs cells slots Rm Q lsC hC hH hL hN hS hf hl k => lv_istore_n hC.1 hC.2.1 hd hk hL.has ha rfl (fun ls1 h1 => k ls1 _ hn (hL.set ha (tw_okh hS) h1) (by rw [List.length_set]; exact hN) (tw_okt hS))
theorem tw_a_istore (hd : decode (tw_mB m) pc = .ok (.istore a, 2)) (hn : tw_next m (i + 1) (pc + 2)) (ha : a < ls.length) : tw_AdvS l D aC z b L xs md σ m pc ls (.int x :: r) (i + 1) (ls.set a (.int x)) r :=
  fun ad p e s mi args below meth c H locs cells slots Rm Q lsC hC hH hL hN hS hf hl k => lv_istore hC.1 hC.2.1 hd hL.has ha rfl (fun ls1 h1 => k ls1 _ hn (hL.set ha (tw_okh hS) h1) (by rw [List.length_set]; exact hN) (tw_okt hS))
theorem tw_a_astore_n {kk : Fin 4} {q : Nat} (hd : decode (tw_mB m) pc = .ok (.astore_n kk, 1)) (hn : tw_next m (i + 1) (pc + 1)) (hk : (kk : Nat) = a) (ha : a < ls.length) : tw_AdvS l D aC z b L xs md σ m pc ls (.ref q :: r) (i + 1) (ls.set a (.ref q)) r :=
  fun ad p e s mi args below meth c H locs cells slots Rm Q lsC hC hH hL hN hS hf hl k => lv_astore_n hC.1 hC.2.1 hd hk hL.has ha rfl (fun ls1 h1 => k ls1 _ hn (hL.set ha (tw_okh hS) h1) (by rw [List.length_set]; exact hN) (tw_okt hS))
theorem tw_a_astore {q : Nat} (hd : decode (tw_mB m) pc = .ok (.astore a, 2)) (hn : tw_next m (i + 1) (pc + 2)) (ha : a < ls.length) : tw_AdvS l D aC z b L xs md σ m pc ls (.ref q :: r) (i + 1) (ls.set a (.ref q)) r :=
  fun ad p e s mi args below meth c H locs cells slots Rm Q lsC hC hH hL hN hS hf hl k => lv_astore hC.1 hC.2.1 hd hL.has ha rfl (fun ls1 h1 => k ls1 _ hn (hL.set ha (tw_okh hS) h1) (by rw [List.length_set]; exact hN) (tw_okt hS))
theorem tw_a_astore_nN {kk : Fin 4} (hd : decode (tw_mB m) pc = .ok (.astore_n kk, 1)) (hn : tw_next m (i + 1) (pc + 1)) (hk : (kk : Nat) = a) (ha : a < ls.length) : tw_AdvS l D aC z b L xs md σ m pc ls (.null :: r) (i + 1) (ls.set a (.null)) r :=
  fun ad p e s mi args below meth c H locs cells slots Rm Q lsC hC hH hL hN hS hf hl k => lv_astore_nN hC.1 hC.2.1 hd hk hL.has ha rfl (fun ls1 h1 => k ls1 _ hn (hL.set ha (tw_okh hS) h1) (by rw [List.length_set]; exact hN) (tw_okt hS))
theorem tw_a_astoreN (hd : decode (tw_mB m) pc = .ok (.astore a, 2)) (hn : tw_next m (i + 1) (pc + 2)) (ha : a < ls.length) : tw_AdvS l D aC z b L xs md σ m pc ls (.null :: r) (i + 1) (ls.set a (.null)) r :=
  fun ad p e s mi args below meth c H locs cells slots Rm Q lsC hC hH hL hN hS hf hl k => lv_astoreN hC.1 hC.2.1 hd hL.has ha rfl (fun ls1 h1 => k ls1 _ hn (hL.set ha (tw_okh hS) h1) (by rw [List.length_set]; exact hN) (tw_okt hS))
theorem tw_a_iinc {n : Int} (hd : decode (tw_mB m) pc = .ok (.iinc a n, 3)) (hn : tw_next m (i + 1) (pc + 3)) (hz : Int32.ofInt n = v) (ha : ls[a]? = some (.int x)) : tw_AdvS l D aC z b L xs md σ m pc ls st (i + 1) (ls.set a (.int (x + v))) st := by
  intro ad p e s mi args below meth c H locs cells slots Rm Q lsC hC hH hL hN hS hf hl k
  have hm : (a, Value.int x) ∈ tw_asc ad ls := tw_asc_mem.mpr ⟨.int x, ha, (fun q => by cases q), rfl⟩
  obtain ⟨j, hj⟩ := List.getElem?_of_mem hm
  have hlt : a < ls.length := (List.getElem?_eq_some_iff.mp ha).1
  subst hz
  exact lv_iinc hC.1 hC.2.1 hd hL.has hj rfl hlt rfl (fun ls1 h1 => k ls1 _ hn (hL.set (v := .int (x + Int32.ofInt n)) hlt trivial h1) (by rw [List.length_set]; exact hN) hS)
theorem tw_a_iadd (hd : decode (tw_mB m) pc = .ok (.iadd, 1)) (hn : tw_next m (i + 1) (pc + 1)) : tw_AdvS l D aC z b L xs md σ m pc ls (.int y :: .int x :: r) (i + 1) ls (.int (x + y) :: r) :=
  fun ad p e s mi args below meth c H locs cells slots Rm Q lsC hC hH hL hN hS hf hl k => lv_iadd hC.1 hC.2.1 hd (k lsC _ hn hL hN (tw_okc trivial (tw_okt (tw_okt hS))))
theorem tw_a_isub (hd : decode (tw_mB m) pc = .ok (.isub, 1)) (hn : tw_next m (i + 1) (pc + 1)) : tw_AdvS l D aC z b L xs md σ m pc ls (.int y :: .int x :: r) (i + 1) ls (.int (x - y) :: r) :=
  fun ad p e s mi args below meth c H locs cells slots Rm Q lsC hC hH hL hN hS hf hl k => lv_isub hC.1 hC.2.1 hd (k lsC _ hn hL hN (tw_okc trivial (tw_okt (tw_okt hS))))
theorem tw_a_imul (hd : decode (tw_mB m) pc = .ok (.imul, 1)) (hn : tw_next m (i + 1) (pc + 1)) : tw_AdvS l D aC z b L xs md σ m pc ls (.int y :: .int x :: r) (i + 1) ls (.int (x * y) :: r) :=
  fun ad p e s mi args below meth c H locs cells slots Rm Q lsC hC hH hL hN hS hf hl k => lv_imul hC.1 hC.2.1 hd (k lsC _ hn hL hN (tw_okc trivial (tw_okt (tw_okt hS))))
theorem tw_a_iand (hd : decode (tw_mB m) pc = .ok (.iand, 1)) (hn : tw_next m (i + 1) (pc + 1)) : tw_AdvS l D aC z b L xs md σ m pc ls (.int y :: .int x :: r) (i + 1) ls (.int (x &&& y) :: r) :=
  fun ad p e s mi args below meth c H locs cells slots Rm Q lsC hC hH hL hN hS hf hl k => lv_iand hC.1 hC.2.1 hd (k lsC _ hn hL hN (tw_okc trivial (tw_okt (tw_okt hS))))
theorem tw_a_ior (hd : decode (tw_mB m) pc = .ok (.ior, 1)) (hn : tw_next m (i + 1) (pc + 1)) : tw_AdvS l D aC z b L xs md σ m pc ls (.int y :: .int x :: r) (i + 1) ls (.int (x ||| y) :: r) :=
  fun ad p e s mi args below meth c H locs cells slots Rm Q lsC hC hH hL hN hS hf hl k => lv_ior hC.1 hC.2.1 hd (k lsC _ hn hL hN (tw_okc trivial (tw_okt (tw_okt hS))))
theorem tw_a_ixor (hd : decode (tw_mB m) pc = .ok (.ixor, 1)) (hn : tw_next m (i + 1) (pc + 1)) : tw_AdvS l D aC z b L xs md σ m pc ls (.int y :: .int x :: r) (i + 1) ls (.int (x ^^^ y) :: r) :=
  fun ad p e s mi args below meth c H locs cells slots Rm Q lsC hC hH hL hN hS hf hl k => lv_ixor hC.1 hC.2.1 hd (k lsC _ hn hL hN (tw_okc trivial (tw_okt (tw_okt hS))))
theorem tw_a_ishl (hd : decode (tw_mB m) pc = .ok (.ishl, 1)) (hn : tw_next m (i + 1) (pc + 1)) : tw_AdvS l D aC z b L xs md σ m pc ls (.int y :: .int x :: r) (i + 1) ls (.int (x <<< (y &&& 31)) :: r) :=
  fun ad p e s mi args below meth c H locs cells slots Rm Q lsC hC hH hL hN hS hf hl k => lv_ishl hC.1 hC.2.1 hd (k lsC _ hn hL hN (tw_okc trivial (tw_okt (tw_okt hS))))
theorem tw_a_ishr (hd : decode (tw_mB m) pc = .ok (.ishr, 1)) (hn : tw_next m (i + 1) (pc + 1)) : tw_AdvS l D aC z b L xs md σ m pc ls (.int y :: .int x :: r) (i + 1) ls (.int (x >>> (y &&& 31)) :: r) :=
  fun ad p e s mi args below meth c H locs cells slots Rm Q lsC hC hH hL hN hS hf hl k => lv_ishr hC.1 hC.2.1 hd (k lsC _ hn hL hN (tw_okc trivial (tw_okt (tw_okt hS))))
theorem tw_a_idiv (hd : decode (tw_mB m) pc = .ok (.idiv, 1)) (hn : tw_next m (i + 1) (pc + 1)) (h0 : ¬ y = 0) : tw_AdvS l D aC z b L xs md σ m pc ls (.int y :: .int x :: r) (i + 1) ls (.int (x / y) :: r) :=
  fun ad p e s mi args below meth c H locs cells slots Rm Q lsC hC hH hL hN hS hf hl k => lv_idiv hC.1 hC.2.1 hd h0 (k lsC _ hn hL hN (tw_okc trivial (tw_okt (tw_okt hS))))
theorem tw_a_irem (hd : decode (tw_mB m) pc = .ok (.irem, 1)) (hn : tw_next m (i + 1) (pc + 1)) (h0 : ¬ y = 0) : tw_AdvS l D aC z b L xs md σ m pc ls (.int y :: .int x :: r) (i + 1) ls (.int (x - x / y * y) :: r) :=
  fun ad p e s mi args below meth c H locs cells slots Rm Q lsC hC hH hL hN hS hf hl k => lv_irem hC.1 hC.2.1 hd h0 (k lsC _ hn hL hN (tw_okc trivial (tw_okt (tw_okt hS))))
theorem tw_a_ineg (hd : decode (tw_mB m) pc = .ok (.ineg, 1)) (hn : tw_next m (i + 1) (pc + 1)) : tw_AdvS l D aC z b L xs md σ m pc ls (.int x :: r) (i + 1) ls (.int (-x) :: r) :=
  fun ad p e s mi args below meth c H locs cells slots Rm Q lsC hC hH hL hN hS hf hl k => lv_ineg hC.1 hC.2.1 hd (k lsC _ hn hL hN (tw_okc trivial (tw_okt hS)))
theorem tw_a_i2b (hd : decode (tw_mB m) pc = .ok (.i2b, 1)) (hn : tw_next m (i + 1) (pc + 1)) : tw_AdvS l D aC z b L xs md σ m pc ls (.int x :: r) (i + 1) ls (.int (x.toInt8.toInt32) :: r) :=
  fun ad p e s mi args below meth c H locs cells slots Rm Q lsC hC hH hL hN hS hf hl k => lv_i2b hC.1 hC.2.1 hd rfl (k lsC _ hn hL hN (tw_okc trivial (tw_okt hS)))
theorem tw_a_i2c (hd : decode (tw_mB m) pc = .ok (.i2c, 1)) (hn : tw_next m (i + 1) (pc + 1)) : tw_AdvS l D aC z b L xs md σ m pc ls (.int x :: r) (i + 1) ls (.int ((x.toUInt32 % 65536).toInt32) :: r) :=
  fun ad p e s mi args below meth c H locs cells slots Rm Q lsC hC hH hL hN hS hf hl k => lv_i2c hC.1 hC.2.1 hd rfl (k lsC _ hn hL hN (tw_okc trivial (tw_okt hS)))
theorem tw_a_dup {u : Value} (hd : decode (tw_mB m) pc = .ok (.dup, 1)) (hn : tw_next m (i + 1) (pc + 1)) : tw_AdvS l D aC z b L xs md σ m pc ls (u :: r) (i + 1) ls (u :: u :: r) :=
  fun ad p e s mi args below meth c H locs cells slots Rm Q lsC hC hH hL hN hS hf hl k => lv_dup hC.1 hC.2.1 hd (tw_okv_cat (tw_okh hS)) (k lsC _ hn hL hN (tw_okc (tw_okh hS) hS))
theorem tw_a_dup2 {u w : Value} (hd : decode (tw_mB m) pc = .ok (.dup2, 1)) (hn : tw_next m (i + 1) (pc + 1)) : tw_AdvS l D aC z b L xs md σ m pc ls (u :: w :: r) (i + 1) ls (u :: w :: u :: w :: r) :=
  fun ad p e s mi args below meth c H locs cells slots Rm Q lsC hC hH hL hN hS hf hl k => lv_dup2_11 hC.1 hC.2.1 hd (tw_okv_cat (tw_okh hS)) (tw_okv_cat (tw_okh (tw_okt hS))) (k lsC _ hn hL hN (tw_okc (tw_okh hS) (tw_okc (tw_okh (tw_okt hS)) hS)))
theorem tw_a_pop {u : Value} (hd : decode (tw_mB m) pc = .ok (.pop, 1)) (hn : tw_next m (i + 1) (pc + 1)) : tw_AdvS l D aC z b L xs md σ m pc ls (u :: r) (i + 1) ls r :=
  fun ad p e s mi args below meth c H locs cells slots Rm Q lsC hC hH hL hN hS hf hl k => lv_pop hC.1 hC.2.1 hd (tw_okv_cat (tw_okh hS)) (k lsC _ hn hL hN (tw_okt hS))
theorem tw_a_icmp_eq (hd : decode (tw_mB m) pc = .ok (.if_icmp .eq off, 3)) (hn : tw_next m (i + 1) (pc + 3)) (ht : (pc : Int) + off = (tgt : Int)) (hg : tw_next m a tgt) : tw_AdvS l D aC z b L xs md σ m pc ls (.int y :: .int x :: r) (if tw_cnd .eq x y then a else i + 1) ls r := by
  intro ad p e s mi args below meth c H locs cells slots Rm Q lsC hC hH hL hN hS hf hl k
  refine lv_icmp_eq hC.1 hC.2.1 hd ht (fun h => ?_) (fun h => ?_)
  · have e1 : tw_cnd .eq x y = true := by unfold tw_cnd; simp only [decide_eq_true_eq]; exact h
    rw [if_pos e1] at k
    exact k lsC _ hg hL hN (tw_okt (tw_okt hS))
  · have e1 : ¬ tw_cnd .eq x y = true := by unfold tw_cnd; simp only [decide_eq_true_eq]; exact h
    rw [if_neg e1] at k
    exact k lsC _ hn hL hN (tw_okt (tw_okt hS))
theorem tw_a_if_eq (hd : decode (tw_mB m) pc = .ok (.ifCond .eq off, 3)) (hn : tw_next m (i + 1) (pc + 3)) (ht : (pc : Int) + off = (tgt : Int)) (hg : tw_next m a tgt) : tw_AdvS l D aC z b L xs md σ m pc ls (.int x :: r) (if tw_cnd .eq x 0 then a else i + 1) ls r := by
  intro ad p e s mi args below meth c H locs cells slots Rm Q lsC hC hH hL hN hS hf hl k
  refine lv_if_eq hC.1 hC.2.1 hd ht (fun h => ?_) (fun h => ?_)
  · have e1 : tw_cnd .eq x 0 = true := by unfold tw_cnd; simp only [decide_eq_true_eq]; exact h
    rw [if_pos e1] at k
    exact k lsC _ hg hL hN (tw_okt hS)
  · have e1 : ¬ tw_cnd .eq x 0 = true := by unfold tw_cnd; simp only [decide_eq_true_eq]; exact h
    rw [if_neg e1] at k
    exact k lsC _ hn hL hN (tw_okt hS)
theorem tw_a_icmp_ne (hd : decode (tw_mB m) pc = .ok (.if_icmp .ne off, 3)) (hn : tw_next m (i + 1) (pc + 3)) (ht : (pc : Int) + off = (tgt : Int)) (hg : tw_next m a tgt) : tw_AdvS l D aC z b L xs md σ m pc ls (.int y :: .int x :: r) (if tw_cnd .ne x y then a else i + 1) ls r := by
  intro ad p e s mi args below meth c H locs cells slots Rm Q lsC hC hH hL hN hS hf hl k
  refine lv_icmp_ne hC.1 hC.2.1 hd ht (fun h => ?_) (fun h => ?_)
  · have e1 : tw_cnd .ne x y = true := by unfold tw_cnd; simp only [Bool.not_eq_true', decide_eq_false_iff_not]; exact h
    rw [if_pos e1] at k
    exact k lsC _ hg hL hN (tw_okt (tw_okt hS))
  · have e1 : ¬ tw_cnd .ne x y = true := by unfold tw_cnd; simp [h]
    rw [if_neg e1] at k
    exact k lsC _ hn hL hN (tw_okt (tw_okt hS))
theorem tw_a_if_ne (hd : decode (tw_mB m) pc = .ok (.ifCond .ne off, 3)) (hn : tw_next m (i + 1) (pc + 3)) (ht : (pc : Int) + off = (tgt : Int)) (hg : tw_next m a tgt) : tw_AdvS l D aC z b L xs md σ m pc ls (.int x :: r) (if tw_cnd .ne x 0 then a else i + 1) ls r := by
  intro ad p e s mi args below meth c H locs cells slots Rm Q lsC hC hH hL hN hS hf hl k
  refine lv_if_ne hC.1 hC.2.1 hd ht (fun h => ?_) (fun h => ?_)
  · have e1 : tw_cnd .ne x 0 = true := by unfold tw_cnd; simp only [Bool.not_eq_true', decide_eq_false_iff_not]; exact h
    rw [if_pos e1] at k
    exact k lsC _ hg hL hN (tw_okt hS)
  · have e1 : ¬ tw_cnd .ne x 0 = true := by unfold tw_cnd; simp [h]
    rw [if_neg e1] at k
    exact k lsC _ hn hL hN (tw_okt hS)
theorem tw_a_icmp_lt (hd : decode (tw_mB m) pc = .ok (.if_icmp .lt off, 3)) (hn : tw_next m (i + 1) (pc + 3)) (ht : (pc : Int) + off = (tgt : Int)) (hg : tw_next m a tgt) : tw_AdvS l D aC z b L xs md σ m pc ls (.int y :: .int x :: r) (if tw_cnd .lt x y then a else i + 1) ls r := by
  intro ad p e s mi args below meth c H locs cells slots Rm Q lsC hC hH hL hN hS hf hl k
  refine lv_icmp_lt hC.1 hC.2.1 hd ht (fun h => ?_) (fun h => ?_)
  · have e1 : tw_cnd .lt x y = true := by unfold tw_cnd; simp only [decide_eq_true_eq]; exact h
    rw [if_pos e1] at k
    exact k lsC _ hg hL hN (tw_okt (tw_okt hS))
  · have e1 : ¬ tw_cnd .lt x y = true := by unfold tw_cnd; simp only [decide_eq_true_eq]; exact h
    rw [if_neg e1] at k
    exact k lsC _ hn hL hN (tw_okt (tw_okt hS))
theorem tw_a_if_lt (hd : decode (tw_mB m) pc = .ok (.ifCond .lt off, 3)) (hn : tw_next m (i + 1) (pc + 3)) (ht : (pc : Int) + off = (tgt : Int)) (hg : tw_next m a tgt) : tw_AdvS l D aC z b L xs md σ m pc ls (.int x :: r) (if tw_cnd .lt x 0 then a else i + 1) ls r := by
  intro ad p e s mi args below meth c H locs cells slots Rm Q lsC hC hH hL hN hS hf hl k
  refine lv_if_lt hC.1 hC.2.1 hd ht (fun h => ?_) (fun h => ?_)
  · have e1 : tw_cnd .lt x 0 = true := by unfold tw_cnd; simp only [decide_eq_true_eq]; exact h
    rw [if_pos e1] at k
    exact k lsC _ hg hL hN (tw_okt hS)
  · have e1 : ¬ tw_cnd .lt x 0 = true := by unfold tw_cnd; simp only [decide_eq_true_eq]; exact h
    rw [if_neg e1] at k
    exact k lsC _ hn hL hN (tw_okt hS)
theorem tw_a_icmp_ge (hd : decode (tw_mB m) pc = .ok (.if_icmp .ge off, 3)) (hn : tw_next m (i + 1) (pc + 3)) (ht : (pc : Int) + off = (tgt : Int)) (hg : tw_next m a tgt) : tw_AdvS l D aC z b L xs md σ m pc ls (.int y :: .int x :: r) (if tw_cnd .ge x y then a else i + 1) ls r := by
  intro ad p e s mi args below meth c H locs cells slots Rm Q lsC hC hH hL hN hS hf hl k
  refine lv_icmp_ge hC.1 hC.2.1 hd ht (fun h => ?_) (fun h => ?_)
  · have e1 : tw_cnd .ge x y = true := by unfold tw_cnd; simp only [decide_eq_true_eq]; exact h
    rw [if_pos e1] at k
    exact k lsC _ hg hL hN (tw_okt (tw_okt hS))
  · have e1 : ¬ tw_cnd .ge x y = true := by unfold tw_cnd; simp only [decide_eq_true_eq]; exact h
    rw [if_neg e1] at k
    exact k lsC _ hn hL hN (tw_okt (tw_okt hS))
theorem tw_a_if_ge (hd : decode (tw_mB m) pc = .ok (.ifCond .ge off, 3)) (hn : tw_next m (i + 1) (pc + 3)) (ht : (pc : Int) + off = (tgt : Int)) (hg : tw_next m a tgt) : tw_AdvS l D aC z b L xs md σ m pc ls (.int x :: r) (if tw_cnd .ge x 0 then a else i + 1) ls r := by
  intro ad p e s mi args below meth c H locs cells slots Rm Q lsC hC hH hL hN hS hf hl k
  refine lv_if_ge hC.1 hC.2.1 hd ht (fun h => ?_) (fun h => ?_)
  · have e1 : tw_cnd .ge x 0 = true := by unfold tw_cnd; simp only [decide_eq_true_eq]; exact h
    rw [if_pos e1] at k
    exact k lsC _ hg hL hN (tw_okt hS)
  · have e1 : ¬ tw_cnd .ge x 0 = true := by unfold tw_cnd; simp only [decide_eq_true_eq]; exact h
    rw [if_neg e1] at k
    exact k lsC _ hn hL hN (tw_okt hS)
theorem tw_a_icmp_gt (hd : decode (tw_mB m) pc = .ok (.if_icmp .gt off, 3)) (hn : tw_next m (i + 1) (pc + 3)) (ht : (pc : Int) + off = (tgt : Int)) (hg : tw_next m a tgt) : tw_AdvS l D aC z b L xs md σ m pc ls (.int y :: .int x :: r) (if tw_cnd .gt x y then a else i + 1) ls r := by
  intro ad p e s mi args below meth c H locs cells slots Rm Q lsC hC hH hL hN hS hf hl k
  refine lv_icmp_gt hC.1 hC.2.1 hd ht (fun h => ?_) (fun h => ?_)
  · have e1 : tw_cnd .gt x y = true := by unfold tw_cnd; simp only [decide_eq_true_eq]; exact h
    rw [if_pos e1] at k
    exact k lsC _ hg hL hN (tw_okt (tw_okt hS))
  · have e1 : ¬ tw_cnd .gt x y = true := by unfold tw_cnd; simp only [decide_eq_true_eq]; exact h
    rw [if_neg e1] at k
    exact k lsC _ hn hL hN (tw_okt (tw_okt hS))
theorem tw_a_if_gt (hd : decode (tw_mB m) pc = .ok (.ifCond .gt off, 3)) (hn : tw_next m (i + 1) (pc + 3)) (ht : (pc : Int) + off = (tgt : Int)) (hg : tw_next m a tgt) : tw_AdvS l D aC z b L xs md σ m pc ls (.int x :: r) (if tw_cnd .gt x 0 then a else i + 1) ls r := by
  intro ad p e s mi args below meth c H locs cells slots Rm Q lsC hC hH hL hN hS hf hl k
  refine lv_if_gt hC.1 hC.2.1 hd ht (fun h => ?_) (fun h => ?_)
  · have e1 : tw_cnd .gt x 0 = true := by unfold tw_cnd; simp only [decide_eq_true_eq]; exact h
    rw [if_pos e1] at k
    exact k lsC _ hg hL hN (tw_okt hS)
  · have e1 : ¬ tw_cnd .gt x 0 = true := by unfold tw_cnd; simp only [decide_eq_true_eq]; exact h
    rw [if_neg e1] at k
    exact k lsC _ hn hL hN (tw_okt hS)
theorem tw_a_icmp_le (hd : decode (tw_mB m) pc = .ok (.if_icmp .le off, 3)) (hn : tw_next m (i + 1) (pc + 3)) (ht : (pc : Int) + off = (tgt : Int)) (hg : tw_next m a tgt) : tw_AdvS l D aC z b L xs md σ m pc ls (.int y :: .int x :: r) (if tw_cnd .le x y then a else i + 1) ls r := by
  intro ad p e s mi args below meth c H locs cells slots Rm Q lsC hC hH hL hN hS hf hl k
  refine lv_icmp_le hC.1 hC.2.1 hd ht (fun h => ?_) (fun h => ?_)
  · have e1 : tw_cnd .le x y = true := by unfold tw_cnd; simp only [decide_eq_true_eq]; exact h
    rw [if_pos e1] at k
    exact k lsC _ hg hL hN (tw_okt (tw_okt hS))
  · have e1 : ¬ tw_cnd .le x y = true := by unfold tw_cnd; simp only [decide_eq_true_eq]; exact h
    rw [if_neg e1] at k
    exact k lsC _ hn hL hN (tw_okt (tw_okt hS))
theorem tw_a_if_le (hd : decode (tw_mB m) pc = .ok (.ifCond .le off, 3)) (hn : tw_next m (i + 1) (pc + 3)) (ht : (pc : Int) + off = (tgt : Int)) (hg : tw_next m a tgt) : tw_AdvS l D aC z b L xs md σ m pc ls (.int x :: r) (if tw_cnd .le x 0 then a else i + 1) ls r := by
  intro ad p e s mi args below meth c H locs cells slots Rm Q lsC hC hH hL hN hS hf hl k
  refine lv_if_le hC.1 hC.2.1 hd ht (fun h => ?_) (fun h => ?_)
  · have e1 : tw_cnd .le x 0 = true := by unfold tw_cnd; simp only [decide_eq_true_eq]; exact h
    rw [if_pos e1] at k
    exact k lsC _ hg hL hN (tw_okt hS)
  · have e1 : ¬ tw_cnd .le x 0 = true := by unfold tw_cnd; simp only [decide_eq_true_eq]; exact h
    rw [if_neg e1] at k
    exact k lsC _ hn hL hN (tw_okt hS)
theorem tw_a_ifnullN {q : Nat} (hd : decode (tw_mB m) pc = .ok (.ifnull off, 3)) (hn : tw_next m (i + 1) (pc + 3)) (ht : (pc : Int) + off = (tgt : Int)) (hg : tw_next m a tgt) : tw_AdvS l D aC z b L xs md σ m pc ls (.null :: r) (a) ls r :=
  fun ad p e s mi args below meth c H locs cells slots Rm Q lsC hC hH hL hN hS hf hl k => lv_ifnullN hC.1 hC.2.1 hd ht (k lsC _ hg hL hN (tw_okt hS))
theorem tw_a_ifnull {q : Nat} (hd : decode (tw_mB m) pc = .ok (.ifnull off, 3)) (hn : tw_next m (i + 1) (pc + 3)) (ht : (pc : Int) + off = (tgt : Int)) (hg : tw_next m a tgt) : tw_AdvS l D aC z b L xs md σ m pc ls (.ref q :: r) (i + 1) ls r :=
  fun ad p e s mi args below meth c H locs cells slots Rm Q lsC hC hH hL hN hS hf hl k => lv_ifnull hC.1 hC.2.1 hd (k lsC _ hn hL hN (tw_okt hS))
theorem tw_a_ifnonnullN {q : Nat} (hd : decode (tw_mB m) pc = .ok (.ifnonnull off, 3)) (hn : tw_next m (i + 1) (pc + 3)) (ht : (pc : Int) + off = (tgt : Int)) (hg : tw_next m a tgt) : tw_AdvS l D aC z b L xs md σ m pc ls (.null :: r) (i + 1) ls r :=
  fun ad p e s mi args below meth c H locs cells slots Rm Q lsC hC hH hL hN hS hf hl k => lv_ifnonnullN hC.1 hC.2.1 hd (k lsC _ hn hL hN (tw_okt hS))
theorem tw_a_ifnonnull {q : Nat} (hd : decode (tw_mB m) pc = .ok (.ifnonnull off, 3)) (hn : tw_next m (i + 1) (pc + 3)) (ht : (pc : Int) + off = (tgt : Int)) (hg : tw_next m a tgt) : tw_AdvS l D aC z b L xs md σ m pc ls (.ref q :: r) (a) ls r :=
  fun ad p e s mi args below meth c H locs cells slots Rm Q lsC hC hH hL hN hS hf hl k => lv_ifnonnull hC.1 hC.2.1 hd ht (k lsC _ hg hL hN (tw_okt hS))
theorem tw_a_goto (hd : decode (tw_mB m) pc = .ok (.goto off, 3)) (ht : (pc : Int) + off = (tgt : Int)) (hg : tw_next m a tgt) : tw_AdvS l D aC z b L xs md σ m pc ls st a ls st :=
  fun ad p e s mi args below meth c H locs cells slots Rm Q lsC hC hH hL hN hS hf hl k => lv_goto hC.1 hC.2.1 hd ht (k lsC _ hg hL hN hS)
theorem tw_a_swOut {dflt lo hi : Int} {offs : Array Int} {len : Nat} (hd : decode (tw_mB m) pc = .ok (.tableswitch dflt lo hi offs, len)) (ht : (pc : Int) + dflt = (tgt : Int)) (hg : tw_next m a tgt) (hx : x.toInt < lo ∨ hi < x.toInt) : tw_AdvS l D aC z b L xs md σ m pc ls (.int x :: r) a ls r :=
  fun ad p e s mi args below meth c H locs cells slots Rm Q lsC hC hH hL hN hS hf hl k => lv_tableOut hC.1 hC.2.1 hd hx ht (k lsC _ hg hL hN (tw_okt hS))
theorem tw_a_swIn {dflt lo hi : Int} {offs : Array Int} {len : Nat} (hd : decode (tw_mB m) pc = .ok (.tableswitch dflt lo hi offs, len)) (h1 : ¬ x.toInt < lo) (h2 : ¬ hi < x.toInt) (ho : offs[(x.toInt - lo).toNat]? = some off) (ht : (pc : Int) + off = (tgt : Int)) (hg : tw_next m a tgt) : tw_AdvS l D aC z b L xs md σ m pc ls (.int x :: r) a ls r :=
  fun ad p e s mi args below meth c H locs cells slots Rm Q lsC hC hH hL hN hS hf hl k => lv_tableIn hC.1 hC.2.1 hd h1 h2 ho ht (k lsC _ hg hL hN (tw_okt hS))
theorem tw_sum1 {ad : Nat → Nat} : ∀ {w : List Value}, (∀ v ∈ w, tw_okv md v) → ((w.map (tw_rel ad)).map fun v => v.category).sum = w.length
  | [], _ => rfl
  | v :: w, h => by
    have h1 := tw_sum1 (ad := ad) (tw_okt h)
    have h2 : (tw_rel ad v).category = 1 := tw_okv_cat (tw_okh h)
    simp only [List.map_cons, List.sum_cons, List.length_cons, h1, h2]
    omega
theorem tw_a_objInit {q idx : Nat} (hd : decode (tw_mB m) pc = .ok (.invokespecial idx, 3)) (hn : tw_next m (i + 1) (pc + 3)) (h1 : Jvm.Cond.methodLink (tw_own m) idx Lib.objectInit ∈ tw_gw) (h2 : Jvm.Cond.instanceMethod Lib.objectInit ∈ tw_gw) (h3 : Jvm.Cond.code Lib.objectInit ⟨#[0xb1]⟩ 1 none ∈ tw_gw) (hr : r.length ≤ 8) : tw_AdvS l D aC z b L xs md σ m pc ls (.ref q :: r) (i + 1) ls r := by
  intro ad p e s mi args below meth c H locs cells slots Rm Q lsC hC hH hL hN hS hf hl k
  have hsum := tw_sum1 (ad := ad) (tw_okt hS)
  exact W.objInit hC.1 hC.2.1 hC.2.2.2.1 (hC.2.2.2.2.1 _ h1) (hC.2.2.2.2.1 _ h2) (hC.2.2.2.2.1 _ h3) rfl (by show lsC.size = _; rw [hL.1, hN, hC.2.2.1]) rfl hd hf (by show 2 * 0 + _ + 12 ≤ _; omega) (k lsC _ hn hL hN (tw_okt hS))
end tw_A
