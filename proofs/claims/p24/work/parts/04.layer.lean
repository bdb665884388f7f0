/-! THE LAYER. A method's body as a predicate over pure worlds (lists of cells): no heap, no frames, no tables in it; 05.layerok says that the machine does what it says. -/
def am_T : List Cond := lw_tbl.filter goodWord
/-- the array classes int, long, char, boolean; where the String constants lie, and their bytes -/
abbrev AmZ : Type := ClassId × ClassId × ClassId × ClassId × (Nat → Nat) × (Nat → Nat)
/-- the String constants: class, entry, text -/
def am_lit : List (String × Nat × String) := [("GraphHouse$Script", 56, "<=+-*()"), ("GraphHouse$Ledger", 171, "l"), ("GraphHouse$Ledger", 173, "ddddl"), ("GraphHouse$Ledger", 175, "d"), ("GraphHouse$Ledger", 177, "dd"), ("GraphHouse$Ledger", 179, ""), ("GraphHouse$Engine", 102, "xnldirsmg")]
def am_len : List Nat := [7, 1, 5, 1, 2, 0, 9]
def am_byt : List (List Int32) := [[60, 61, 43, 45, 42, 40, 41], [108], [100, 100, 100, 100, 108], [100], [100, 100], [], [120, 110, 108, 100, 105, 114, 115, 109, 103]]
abbrev zs (Z : AmZ) (k : Nat) : Nat := Z.2.2.2.2.1 k
abbrev zb (Z : AmZ) (k : Nat) : Nat := Z.2.2.2.2.2 k
abbrev am_js : String := "java/lang/String"
/-- the array classes: int, long, char, boolean -/
def am_tys (Z : AmZ) : List (ClassId × FieldType) := [(Z.1, .int), (Z.2.1, .long), (Z.2.2.1, .char), (Z.2.2.2.1, .boolean)]
/-- pc, locals, operand stack, world, cells and slots that may still be made -/
abbrev AmK : Type := Nat → List (Nat × Value) → List Value → va_W → Nat → Nat → Prop
abbrev AmR : Type := Option Value → va_W → Prop
abbrev AmX : Type := String → va_W → Prop
abbrev AmC : Type := MethodName → List Value → va_W → Nat → Nat → AmR → AmX → Prop
/-- the law's script: its cell, its length, its ints -/
abbrev AmS : Type := Option (Nat × Nat × (Nat → Int32))
/-- where a throw that reaches this frame goes: K, pc, locals, what may still be made -/
abbrev AmH : Type := AmK → Nat → List (Nat × Value) → Nat → Nat → AmX
def am_t (T : u_T) (k : Nat) : FieldType := (parseFieldDescriptor (T k).2.2.1).getD .int
def am_new (T : u_T) (N : Nat) : List Value := (List.range N).map (fun k => defaultValue (am_t T k))
def am_s1 (i : Nat) (v : Value) (lv : List (Nat × Value)) : List (Nat × Value) := (i, v) :: lv.filter (fun q => !(q.1 == i) && !(q.1 + 1 == i && q.2.category == 2))
def am_s2 (i : Nat) (v : Value) (lv : List (Nat × Value)) : List (Nat × Value) := (i, v) :: lv.filter (fun q => !(q.1 == i) && (!(q.1 == i + 1) && !(q.1 + 1 == i && q.2.category == 2)))
def am_fresh (q : Nat) (ws : va_W) : Prop := ∀ (k : Nat) (e : va_E), ws[k]? ≠ some (q, e)
def am_plain (y : MethodName) (n : Nat) : Prop := y.cls ≠ "java/lang/invoke/MethodHandle" ∧ y.cls ≠ "java/lang/invoke/VarHandle" ∧ (parseMethodDescriptor y.desc).map (fun d => d.parameters.length) = some n
/-- System.arraycopy between two int or two long arrays of the world -/
def am_arraycopy (Z : AmZ) (own : String) (i : Nat) (k : List Value → va_W → Prop) (st : List Value) (ws : va_W) : Prop :=
  ∃ (n dp : Int32) (a : Nat) (sp : Int32) (a0 : Nat) (r : List Value) (q0 q1 n0 n1 : Nat), st = Value.int n :: Value.int dp :: Value.ref a :: Value.int sp :: Value.ref a0 :: r ∧ Cond.methodLink own i arraycopyName ∈ am_T ∧ (r.map fun v => v.category).sum ≤ 8 ∧ ¬ sp < 0 ∧ ¬ dp < 0 ∧ ¬ n < 0 ∧ sp.toNatClampNeg + n.toNatClampNeg ≤ n0 ∧ dp.toNatClampNeg + n.toNatClampNeg ≤ n1 ∧
    ((∃ (f g : Nat → Int32), ws[q0]? = some (a0, .inl (Z.1, n0, .inl f)) ∧ ws[q1]? = some (a, .inl (Z.1, n1, .inl g)) ∧ k r (ws.set q1 (a, .inl (Z.1, n1, .inl (va_cpy f g sp.toNatClampNeg dp.toNatClampNeg n.toNatClampNeg))))) ∨
     (∃ (f g : Nat → Int64), ws[q0]? = some (a0, .inl (Z.2.1, n0, .inr (.inl f))) ∧ ws[q1]? = some (a, .inl (Z.2.1, n1, .inr (.inl g))) ∧ k r (ws.set q1 (a, .inl (Z.2.1, n1, .inr (.inl (va_cpy f g sp.toNatClampNeg dp.toNatClampNeg n.toNatClampNeg)))))))
/-- one instruction, as a predicate: K what must hold where it goes on, ret where it returns, xp where it throws, call the calls -/
def am_stp (Z : AmZ) (scr : AmS) (own : String) (cc : ByteArray) (nL : Nat) (rt : Option FieldType) (ini : Bool) (call callW : AmC) (xh : AmH) (ret : AmR) (K : AmK) (pc : Nat) (lv : List (Nat × Value)) (st : List Value) (ws : va_W) (C S : Nat) : Prop :=
  match decode cc pc with
  | .ok (.iconst n, 1) => K (pc + 1) lv (.int (Int32.ofInt n) :: st) ws C S
  | .ok (.bipush n, 2) => K (pc + 2) lv (.int (Int8.ofInt n).toInt32 :: st) ws C S
  | .ok (.sipush n, 3) => K (pc + 3) lv (.int (Int16.ofInt n).toInt32 :: st) ws C S
  | .ok (.lconst n, 1) => K (pc + 1) lv (.long (Int64.ofNat (n : Nat)) :: st) ws C S
  | .ok (.ldc i, 2) => (∃ v, Cond.constant own i v ∈ am_T ∧ K (pc + 2) lv (.int v :: st) ws C S) ∨ ∃ (k : Nat) (tx : String), am_lit[k]? = some (own, i, tx) ∧ K (pc + 2) lv (.ref (zs Z k) :: st) ws C S
  | .ok (.i2b, 1) => ∃ x r, st = Value.int x :: r ∧ K (pc + 1) lv (.int x.toInt8.toInt32 :: r) ws C S
  | .ok (.getstatic i, 3) => (Cond.fieldLink own i am_js "COMPACT_STRINGS" "Z" ∈ am_T ∧ K (pc + 3) lv (.int 1 :: st) ws C S) ∨ (Cond.fieldLink own i "jdk/internal/util/Preconditions" "SIOOBE_FORMATTER" "Ljava/util/function/BiFunction;" ∈ am_T ∧ ∀ v : Value, v.category = 1 → K (pc + 3) lv (v :: st) ws C S)
  | .ok (.ldc_w i, 3) => ∃ v, Cond.constant own i v ∈ am_T ∧ K (pc + 3) lv (.int v :: st) ws C S
  | .ok (.ldc2_w i, 3) => ∃ v, Cond.constantLong own i v ∈ am_T ∧ K (pc + 3) lv (.long v :: st) ws C S
  | .ok (.iload i, 2) => ∃ x, (i, Value.int x) ∈ lv ∧ K (pc + 2) lv (.int x :: st) ws C S
  | .ok (.iload_n i, 1) => ∃ x, ((i : Nat), Value.int x) ∈ lv ∧ K (pc + 1) lv (.int x :: st) ws C S
  | .ok (.istore i, 2) => ∃ x r, st = Value.int x :: r ∧ i < nL ∧ K (pc + 2) (am_s1 i (.int x) lv) (r) ws C S
  | .ok (.istore_n i, 1) => ∃ x r, st = Value.int x :: r ∧ (i : Nat) < nL ∧ K (pc + 1) (am_s1 (i : Nat) (.int x) lv) (r) ws C S
  | .ok (.lload i, 2) => ∃ x, (i, Value.long x) ∈ lv ∧ K (pc + 2) lv (.long x :: st) ws C S
  | .ok (.lload_n i, 1) => ∃ x, ((i : Nat), Value.long x) ∈ lv ∧ K (pc + 1) lv (.long x :: st) ws C S
  | .ok (.lstore i, 2) => ∃ x r, st = Value.long x :: r ∧ i + 1 < nL ∧ K (pc + 2) (am_s2 i (.long x) lv) (r) ws C S
  | .ok (.lstore_n i, 1) => ∃ x r, st = Value.long x :: r ∧ (i : Nat) + 1 < nL ∧ K (pc + 1) (am_s2 (i : Nat) (.long x) lv) (r) ws C S
  | .ok (.aload i, 2) => ∃ x, (i, Value.ref x) ∈ lv ∧ K (pc + 2) lv (.ref x :: st) ws C S
  | .ok (.aload_n i, 1) => ∃ x, ((i : Nat), Value.ref x) ∈ lv ∧ K (pc + 1) lv (.ref x :: st) ws C S
  | .ok (.astore i, 2) => ∃ x r, st = Value.ref x :: r ∧ i < nL ∧ K (pc + 2) (am_s1 i (.ref x) lv) (r) ws C S
  | .ok (.astore_n i, 1) => ∃ x r, st = Value.ref x :: r ∧ (i : Nat) < nL ∧ K (pc + 1) (am_s1 (i : Nat) (.ref x) lv) (r) ws C S
  | .ok (.iinc i n, 3) => ∃ x, (i, Value.int x) ∈ lv ∧ i < nL ∧ K (pc + 3) (am_s1 i (.int (x + Int32.ofInt n)) lv) (st) ws C S
  | .ok (.iadd, 1) => ∃ x y r, st = Value.int y :: Value.int x :: r ∧ K (pc + 1) lv (.int (x + y) :: r) ws C S
  | .ok (.isub, 1) => ∃ x y r, st = Value.int y :: Value.int x :: r ∧ K (pc + 1) lv (.int (x - y) :: r) ws C S
  | .ok (.imul, 1) => ∃ x y r, st = Value.int y :: Value.int x :: r ∧ K (pc + 1) lv (.int (x * y) :: r) ws C S
  | .ok (.iand, 1) => ∃ x y r, st = Value.int y :: Value.int x :: r ∧ K (pc + 1) lv (.int (x &&& y) :: r) ws C S
  | .ok (.ior, 1) => ∃ x y r, st = Value.int y :: Value.int x :: r ∧ K (pc + 1) lv (.int (x ||| y) :: r) ws C S
  | .ok (.ixor, 1) => ∃ x y r, st = Value.int y :: Value.int x :: r ∧ K (pc + 1) lv (.int (x ^^^ y) :: r) ws C S
  | .ok (.ishl, 1) => ∃ x y r, st = Value.int y :: Value.int x :: r ∧ K (pc + 1) lv (.int (x <<< (y &&& 31)) :: r) ws C S
  | .ok (.ishr, 1) => ∃ x y r, st = Value.int y :: Value.int x :: r ∧ K (pc + 1) lv (.int (x >>> (y &&& 31)) :: r) ws C S
  | .ok (.iushr, 1) => ∃ x y r, st = Value.int y :: Value.int x :: r ∧ K (pc + 1) lv (.int ((x.toUInt32 >>> (y.toUInt32 &&& Int32.toUInt32 31)).toInt32) :: r) ws C S
  | .ok (.idiv, 1) => ∃ x y r, st = Value.int y :: Value.int x :: r ∧ ¬ y = 0 ∧ K (pc + 1) lv (.int (x / y) :: r) ws C S
  | .ok (.irem, 1) => ∃ x y r, st = Value.int y :: Value.int x :: r ∧ ¬ y = 0 ∧ K (pc + 1) lv (.int (x - x / y * y) :: r) ws C S
  | .ok (.ladd, 1) => ∃ x y r, st = Value.long y :: Value.long x :: r ∧ K (pc + 1) lv (.long (x + y) :: r) ws C S
  | .ok (.lsub, 1) => ∃ x y r, st = Value.long y :: Value.long x :: r ∧ K (pc + 1) lv (.long (x - y) :: r) ws C S
  | .ok (.lmul, 1) => ∃ x y r, st = Value.long y :: Value.long x :: r ∧ K (pc + 1) lv (.long (x * y) :: r) ws C S
  | .ok (.land, 1) => ∃ x y r, st = Value.long y :: Value.long x :: r ∧ K (pc + 1) lv (.long (x &&& y) :: r) ws C S
  | .ok (.lor, 1) => ∃ x y r, st = Value.long y :: Value.long x :: r ∧ K (pc + 1) lv (.long (x ||| y) :: r) ws C S
  | .ok (.lxor, 1) => ∃ x y r, st = Value.long y :: Value.long x :: r ∧ K (pc + 1) lv (.long (x ^^^ y) :: r) ws C S
  | .ok (.ldiv, 1) => ∃ x y r, st = Value.long y :: Value.long x :: r ∧ ¬ y = 0 ∧ K (pc + 1) lv (.long (x / y) :: r) ws C S
  | .ok (.lrem, 1) => ∃ x y r, st = Value.long y :: Value.long x :: r ∧ ¬ y = 0 ∧ K (pc + 1) lv (.long (x - x / y * y) :: r) ws C S
  | .ok (.lshl, 1) => ∃ x y r, st = Value.int y :: Value.long x :: r ∧ K (pc + 1) lv (.long (x <<< (y.toInt64 &&& 63)) :: r) ws C S
  | .ok (.lshr, 1) => ∃ x y r, st = Value.int y :: Value.long x :: r ∧ K (pc + 1) lv (.long (x >>> (y.toInt64 &&& 63)) :: r) ws C S
  | .ok (.lushr, 1) => ∃ x y r, st = Value.int y :: Value.long x :: r ∧ K (pc + 1) lv (.long ((x.toUInt64 >>> (y.toInt64.toUInt64 &&& Int64.toUInt64 63)).toInt64) :: r) ws C S
  | .ok (.lcmp, 1) => ∃ x y r, st = Value.long y :: Value.long x :: r ∧ K (pc + 1) lv (.int (lg_cmp x y) :: r) ws C S
  | .ok (.ineg, 1) => ∃ x r, st = Value.int x :: r ∧ K (pc + 1) lv (.int (-x) :: r) ws C S
  | .ok (.lneg, 1) => ∃ x r, st = Value.long x :: r ∧ K (pc + 1) lv (.long (-x) :: r) ws C S
  | .ok (.i2l, 1) => ∃ x r, st = Value.int x :: r ∧ K (pc + 1) lv (.long x.toInt64 :: r) ws C S
  | .ok (.l2i, 1) => ∃ x r, st = Value.long x :: r ∧ K (pc + 1) lv (.int x.toInt32 :: r) ws C S
  | .ok (.i2c, 1) => ∃ x r, st = Value.int x :: r ∧ K (pc + 1) lv (.int (x.toUInt32 % 65536).toInt32 :: r) ws C S
  | .ok (.dup, 1) => ∃ (v : Value) (r : List Value), st = v :: r ∧ v.category = 1 ∧ K (pc + 1) lv (v :: v :: r) ws C S
  | .ok (.pop, 1) => ∃ (v : Value) (r : List Value), st = v :: r ∧ v.category = 1 ∧ K (pc + 1) lv (r) ws C S
  | .ok (.pop2, 1) => ∃ (v : Value) (r : List Value), st = v :: r ∧ v.category = 2 ∧ K (pc + 1) lv (r) ws C S
  | .ok (.dup2, 1) => ∃ (v w : Value) (r : List Value), st = v :: w :: r ∧ v.category = 1 ∧ w.category = 1 ∧ K (pc + 1) lv (v :: w :: v :: w :: r) ws C S
  | .ok (.ifCond .eq o, 3) => ∃ x r, st = Value.int x :: r ∧ 0 ≤ (pc : Int) + o ∧ (x = 0 → K ((pc : Int) + o).toNat lv (r) ws C S) ∧ (¬ x = 0 → K (pc + 3) lv (r) ws C S)
  | .ok (.ifCond .ne o, 3) => ∃ x r, st = Value.int x :: r ∧ 0 ≤ (pc : Int) + o ∧ (¬ x = 0 → K ((pc : Int) + o).toNat lv (r) ws C S) ∧ (x = 0 → K (pc + 3) lv (r) ws C S)
  | .ok (.ifCond .lt o, 3) => ∃ x r, st = Value.int x :: r ∧ 0 ≤ (pc : Int) + o ∧ (x < 0 → K ((pc : Int) + o).toNat lv (r) ws C S) ∧ (¬ x < 0 → K (pc + 3) lv (r) ws C S)
  | .ok (.ifCond .ge o, 3) => ∃ x r, st = Value.int x :: r ∧ 0 ≤ (pc : Int) + o ∧ (0 ≤ x → K ((pc : Int) + o).toNat lv (r) ws C S) ∧ (¬ 0 ≤ x → K (pc + 3) lv (r) ws C S)
  | .ok (.ifCond .gt o, 3) => ∃ x r, st = Value.int x :: r ∧ 0 ≤ (pc : Int) + o ∧ (0 < x → K ((pc : Int) + o).toNat lv (r) ws C S) ∧ (¬ 0 < x → K (pc + 3) lv (r) ws C S)
  | .ok (.ifCond .le o, 3) => ∃ x r, st = Value.int x :: r ∧ 0 ≤ (pc : Int) + o ∧ (x ≤ 0 → K ((pc : Int) + o).toNat lv (r) ws C S) ∧ (¬ x ≤ 0 → K (pc + 3) lv (r) ws C S)
  | .ok (.if_icmp .eq o, 3) => ∃ x y r, st = Value.int y :: Value.int x :: r ∧ 0 ≤ (pc : Int) + o ∧ (x = y → K ((pc : Int) + o).toNat lv (r) ws C S) ∧ (¬ x = y → K (pc + 3) lv (r) ws C S)
  | .ok (.if_icmp .ne o, 3) => ∃ x y r, st = Value.int y :: Value.int x :: r ∧ 0 ≤ (pc : Int) + o ∧ (¬ x = y → K ((pc : Int) + o).toNat lv (r) ws C S) ∧ (x = y → K (pc + 3) lv (r) ws C S)
  | .ok (.if_icmp .lt o, 3) => ∃ x y r, st = Value.int y :: Value.int x :: r ∧ 0 ≤ (pc : Int) + o ∧ (x < y → K ((pc : Int) + o).toNat lv (r) ws C S) ∧ (¬ x < y → K (pc + 3) lv (r) ws C S)
  | .ok (.if_icmp .ge o, 3) => ∃ x y r, st = Value.int y :: Value.int x :: r ∧ 0 ≤ (pc : Int) + o ∧ (y ≤ x → K ((pc : Int) + o).toNat lv (r) ws C S) ∧ (¬ y ≤ x → K (pc + 3) lv (r) ws C S)
  | .ok (.if_icmp .gt o, 3) => ∃ x y r, st = Value.int y :: Value.int x :: r ∧ 0 ≤ (pc : Int) + o ∧ (y < x → K ((pc : Int) + o).toNat lv (r) ws C S) ∧ (¬ y < x → K (pc + 3) lv (r) ws C S)
  | .ok (.if_icmp .le o, 3) => ∃ x y r, st = Value.int y :: Value.int x :: r ∧ 0 ≤ (pc : Int) + o ∧ (x ≤ y → K ((pc : Int) + o).toNat lv (r) ws C S) ∧ (¬ x ≤ y → K (pc + 3) lv (r) ws C S)
  | .ok (.goto o, 3) => 0 ≤ (pc : Int) + o ∧ K ((pc : Int) + o).toNat lv (st) ws C S
  | .ok (.tableswitch df lo hi os, _) => ∃ x r, st = Value.int x :: r ∧ (∀ o, ¬ x.toInt < lo → ¬ hi < x.toInt → os[(x.toInt - lo).toNat]? = some o → 0 ≤ (pc : Int) + o ∧ K ((pc : Int) + o).toNat lv (r) ws C S) ∧ (¬ x.toInt < lo → ¬ hi < x.toInt → (os[(x.toInt - lo).toNat]?).isSome = true) ∧ ((x.toInt < lo ∨ hi < x.toInt) → 0 ≤ (pc : Int) + df ∧ K ((pc : Int) + df).toNat lv (r) ws C S)
  | .ok (.lookupswitch df ps, _) => ∃ x r, st = Value.int x :: r ∧ (ps.toList.zip (ps.toList.drop 1)).all (fun (a, next) => a.1 < next.1) = true ∧ 0 ≤ (pc : Int) + Op.lookupswitch.offset ps.toList df x.toInt ∧ K ((pc : Int) + Op.lookupswitch.offset ps.toList df x.toInt).toNat lv (r) ws C S
  | .ok (.getfield i, 3) => (∃ (a : Nat) (r : List Value) (q ci : Nat) (fs : List Value) (Cn : String) (T : u_T) (N k : Nat) (v : Value), st = Value.ref a :: r ∧ ws[q]? = some (a, .inr (ci, fs)) ∧ vwCl[ci]? = some (Cn, T, N) ∧ k < N ∧ Cond.fieldLink own i (T k).1 (T k).2.1 (T k).2.2.1 ∈ am_T ∧ fs[k]? = some v ∧ K (pc + 3) lv (v :: r) ws C S) ∨ ∃ (k : Nat) (r : List Value), k < 7 ∧ st = Value.ref (zs Z k) :: r ∧ ((Cond.fieldLink own i am_js "value" "[B" ∈ am_T ∧ K (pc + 3) lv (.ref (zb Z k) :: r) ws C S) ∨ (Cond.fieldLink own i am_js "coder" "B" ∈ am_T ∧ K (pc + 3) lv (.int 0 :: r) ws C S))
  | .ok (.putfield i, 3) => ∃ (a : Nat) (r : List Value) (q ci : Nat) (fs : List Value) (Cn : String) (T : u_T) (N k : Nat) (v : Value), st = v :: Value.ref a :: r ∧ ws[q]? = some (a, .inr (ci, fs)) ∧ vwCl[ci]? = some (Cn, T, N) ∧ k < N ∧ Cond.fieldLink own i (T k).1 (T k).2.1 (T k).2.2.1 ∈ am_T ∧ k < fs.length ∧ narrow (am_t T k) v = v ∧ fits (am_t T k) v = true ∧ ((T k).2.2.2 = true → ini = true ∧ (T k).1 = own) ∧ K (pc + 3) lv (r) (ws.set q (a, .inr (ci, fs.set k v))) C S
  | .ok (.iaload, 1) => (∃ (b L : Nat) (xs : Nat → Int32) (j : Int32) (r : List Value), scr = some (b, L, xs) ∧ st = Value.int j :: Value.ref b :: r ∧ vp_in j L ∧ K (pc + 1) lv (.int (xs j.toNatClampNeg) :: r) ws C S) ∨ ∃ (a : Nat) (j : Int32) (r : List Value) (q n : Nat) (f : Nat → Int32), st = Value.int j :: Value.ref a :: r ∧ ws[q]? = some (a, .inl (Z.1, n, .inl f)) ∧ vp_in j n ∧ K (pc + 1) lv (.int (f j.toNatClampNeg) :: r) ws C S
  | .ok (.laload, 1) => ∃ (a : Nat) (j : Int32) (r : List Value) (q n : Nat) (f : Nat → Int64), st = Value.int j :: Value.ref a :: r ∧ ws[q]? = some (a, .inl (Z.2.1, n, .inr (.inl f))) ∧ vp_in j n ∧ K (pc + 1) lv (.long (f j.toNatClampNeg) :: r) ws C S
  | .ok (.caload, 1) => ∃ (a : Nat) (j : Int32) (r : List Value) (q n : Nat) (f : Nat → Int32), st = Value.int j :: Value.ref a :: r ∧ ws[q]? = some (a, .inl (Z.2.2.1, n, .inl f)) ∧ vp_in j n ∧ K (pc + 1) lv (.int (f j.toNatClampNeg) :: r) ws C S
  | .ok (.baload, 1) => (∃ (a : Nat) (j : Int32) (r : List Value) (q n : Nat) (f : Nat → Int32), st = Value.int j :: Value.ref a :: r ∧ ws[q]? = some (a, .inl (Z.2.2.2.1, n, .inl f)) ∧ vp_in j n ∧ K (pc + 1) lv (.int (f j.toNatClampNeg) :: r) ws C S) ∨ ∃ (k : Nat) (j : Int32) (r : List Value), k < 7 ∧ st = Value.int j :: Value.ref (zb Z k) :: r ∧ vp_in j (am_len.getD k 0) ∧ K (pc + 1) lv (.int ((am_byt.getD k []).getD j.toNatClampNeg 0) :: r) ws C S
  | .ok (.iastore, 1) => ∃ (a : Nat) (j x : Int32) (r : List Value) (q n : Nat) (f : Nat → Int32), st = Value.int x :: Value.int j :: Value.ref a :: r ∧ ws[q]? = some (a, .inl (Z.1, n, .inl f)) ∧ vp_in j n ∧ K (pc + 1) lv (r) (ws.set q (a, .inl (Z.1, n, .inl (upd f j.toNatClampNeg x)))) C S
  | .ok (.lastore, 1) => ∃ (a : Nat) (j : Int32) (x : Int64) (r : List Value) (q n : Nat) (f : Nat → Int64), st = Value.long x :: Value.int j :: Value.ref a :: r ∧ ws[q]? = some (a, .inl (Z.2.1, n, .inr (.inl f))) ∧ vp_in j n ∧ K (pc + 1) lv (r) (ws.set q (a, .inl (Z.2.1, n, .inr (.inl (vp_updL f j.toNatClampNeg x))))) C S
  | .ok (.castore, 1) => ∃ (a : Nat) (j x : Int32) (r : List Value) (q n : Nat) (f : Nat → Int32), st = Value.int x :: Value.int j :: Value.ref a :: r ∧ ws[q]? = some (a, .inl (Z.2.2.1, n, .inl f)) ∧ vp_in j n ∧ K (pc + 1) lv (r) (ws.set q (a, .inl (Z.2.2.1, n, .inl (upd f j.toNatClampNeg (vp_nar .char x))))) C S
  | .ok (.bastore, 1) => ∃ (a : Nat) (j x : Int32) (r : List Value) (q n : Nat) (f : Nat → Int32), st = Value.int x :: Value.int j :: Value.ref a :: r ∧ ws[q]? = some (a, .inl (Z.2.2.2.1, n, .inl f)) ∧ vp_in j n ∧ K (pc + 1) lv (r) (ws.set q (a, .inl (Z.2.2.2.1, n, .inl (upd f j.toNatClampNeg (vp_nar .boolean x))))) C S
  | .ok (.arraylength, 1) => (∃ (b L : Nat) (xs : Nat → Int32) (r : List Value), scr = some (b, L, xs) ∧ st = Value.ref b :: r ∧ K (pc + 1) lv (.int (Int32.ofNat L) :: r) ws C S) ∨ (∃ (a : Nat) (r : List Value) (q : Nat) (cA : ClassId) (x : vp_A) (t : Nat) (ty : FieldType), st = Value.ref a :: r ∧ ws[q]? = some (a, .inl (cA, x)) ∧ (am_tys Z)[t]? = some (cA, ty) ∧ K (pc + 1) lv (.int (Int32.ofNat x.1) :: r) ws C S) ∨ ∃ (k : Nat) (r : List Value), k < 7 ∧ st = Value.ref (zb Z k) :: r ∧ K (pc + 1) lv (.int (Int32.ofNat (am_len.getD k 0)) :: r) ws C S
  | .ok (.new i, 3) => ∃ (ci : Nat) (Cn : String) (T : u_T) (N : Nat), vwCl[ci]? = some (Cn, T, N) ∧ Cond.classLink own i Cn ∈ am_T ∧ 1 ≤ C ∧ N ≤ S ∧ ∀ q, am_fresh q ws → K (pc + 3) lv (.ref q :: st) (ws ++ [(q, .inr (ci, am_new T N))]) (C - 1) (S - N)
  | .ok (.newarray .int, 2) => ∃ (n : Int32) (r : List Value), st = Value.int n :: r ∧ ¬ n < 0 ∧ n.toNatClampNeg ≤ 60000000 ∧ 1 ≤ C ∧ n.toNatClampNeg ≤ S ∧ ∀ q, am_fresh q ws → K (pc + 2) lv (.ref q :: r) (ws ++ [(q, .inl (Z.1, n.toNatClampNeg, .inl (fun _ => 0)))]) (C - 1) (S - n.toNatClampNeg)
  | .ok (.newarray .long, 2) => ∃ (n : Int32) (r : List Value), st = Value.int n :: r ∧ ¬ n < 0 ∧ n.toNatClampNeg ≤ 60000000 ∧ 1 ≤ C ∧ n.toNatClampNeg ≤ S ∧ ∀ q, am_fresh q ws → K (pc + 2) lv (.ref q :: r) (ws ++ [(q, .inl (Z.2.1, n.toNatClampNeg, .inr (.inl (fun _ => 0))))]) (C - 1) (S - n.toNatClampNeg)
  | .ok (.newarray .char, 2) => ∃ (n : Int32) (r : List Value), st = Value.int n :: r ∧ ¬ n < 0 ∧ n.toNatClampNeg ≤ 60000000 ∧ 1 ≤ C ∧ n.toNatClampNeg ≤ S ∧ ∀ q, am_fresh q ws → K (pc + 2) lv (.ref q :: r) (ws ++ [(q, .inl (Z.2.2.1, n.toNatClampNeg, .inl (fun _ => 0)))]) (C - 1) (S - n.toNatClampNeg)
  | .ok (.newarray .boolean, 2) => ∃ (n : Int32) (r : List Value), st = Value.int n :: r ∧ ¬ n < 0 ∧ n.toNatClampNeg ≤ 60000000 ∧ 1 ≤ C ∧ n.toNatClampNeg ≤ S ∧ ∀ q, am_fresh q ws → K (pc + 2) lv (.ref q :: r) (ws ++ [(q, .inl (Z.2.2.2.1, n.toNatClampNeg, .inl (fun _ => 0)))]) (C - 1) (S - n.toNatClampNeg)
  | .ok (.invokevirtual i, 3) => (∃ (y : MethodName) (b : Nat) (As r : List Value) (mc1 ms1 q ci : Nat) (fs : List Value) (T : u_T) (N : Nat), st = As.reverse ++ Value.ref b :: r ∧ am_plain y As.length ∧ Cond.methodLink own i y ∈ am_T ∧ Cond.instanceMethod y ∈ am_T ∧ Cond.selects y.cls y y ∈ am_T ∧ Cond.initialized y.cls ∈ am_T ∧ ws[q]? = some (b, .inr (ci, fs)) ∧ vwCl[ci]? = some (y.cls, T, N) ∧ (r.map fun v => v.category).sum ≤ 8 ∧ mc1 ≤ C ∧ ms1 ≤ S ∧ call y (.ref b :: As) ws mc1 ms1 (fun v u => K (pc + 3) lv (v.toList ++ r) u (C - mc1) (S - ms1)) (xh K pc lv (C - mc1) (S - ms1))) ∨ (∃ (y : MethodName) (b : Nat) (As r : List Value) (mc1 ms1 k : Nat), st = As.reverse ++ Value.ref b :: r ∧ am_plain y As.length ∧ Cond.methodLink own i y ∈ am_T ∧ Cond.instanceMethod y ∈ am_T ∧ Cond.selects y.cls y y ∈ am_T ∧ Cond.initialized y.cls ∈ am_T ∧ k < 7 ∧ b = zs Z k ∧ y.cls = am_js ∧ (r.map fun v => v.category).sum ≤ 8 ∧ mc1 ≤ C ∧ ms1 ≤ S ∧ call y (.ref b :: As) ws mc1 ms1 (fun v u => K (pc + 3) lv (v.toList ++ r) u (C - mc1) (S - ms1)) (xh K pc lv (C - mc1) (S - ms1)))
  | .ok (.invokestatic i, 3) => am_arraycopy Z own i (fun r u => K (pc + 3) lv (r) u C S) st ws ∨ ∃ (y : MethodName) (As r : List Value) (mc1 ms1 : Nat), st = As.reverse ++ r ∧ am_plain y As.length ∧ Cond.static y ∈ am_T ∧ Cond.initialized y.cls ∈ am_T ∧ (r.map fun v => v.category).sum ≤ 8 ∧ mc1 ≤ C ∧ ms1 ≤ S ∧ ((Cond.methodLink own i y ∈ am_T ∧ call y As ws mc1 ms1 (fun v u => K (pc + 3) lv (v.toList ++ r) u (C - mc1) (S - ms1)) (xh K pc lv (C - mc1) (S - ms1))) ∨ (Cond.methodLink own i y ∈ am_T ∧ callW y As ws mc1 ms1 (fun v u => K (pc + 3) lv (v.toList ++ r) u (C - mc1) (S - ms1)) (fun _ _ => False)) ∨ ∃ host, Cond.methodLinkNest own i y host ∈ lw_tbl ∧ call y As ws mc1 ms1 (fun v u => K (pc + 3) lv (v.toList ++ r) u (C - mc1) (S - ms1)) (fun _ _ => False))
  | .ok (.invokespecial i, 3) => (∃ a r, st = Value.ref a :: r ∧ (r.map fun v => v.category).sum ≤ 8 ∧ Cond.methodLink own i objectInit ∈ am_T ∧ K (pc + 3) lv (r) ws C S) ∨ ∃ (y : MethodName) (b : Nat) (As r : List Value) (mc1 ms1 : Nat), st = As.reverse ++ Value.ref b :: r ∧ am_plain y As.length ∧ y.name = "<init>" ∧ Cond.instanceMethod y ∈ am_T ∧ Cond.initialized y.cls ∈ am_T ∧ (r.map fun v => v.category).sum ≤ 8 ∧ mc1 ≤ C ∧ ms1 ≤ S ∧ (∃ bytes maxL, Cond.code y bytes maxL none ∈ am_T) ∧ (Cond.methodLink own i y ∈ am_T ∨ ∃ host, Cond.methodLinkNest own i y host ∈ lw_tbl) ∧ call y (.ref b :: As) ws mc1 ms1 (fun v u => K (pc + 3) lv (v.toList ++ r) u (C - mc1) (S - ms1)) (fun _ _ => False)
  | .ok (.ireturn, 1) => ∃ (v : Int32) (ty : FieldType), st = [Value.int v] ∧ rt = some ty ∧ narrow ty (.int v) = .int v ∧ ret (some (.int v)) ws
  | .ok (.lreturn, 1) => ∃ (v : Int64), st = [Value.long v] ∧ rt = some .long ∧ ret (some (.long v)) ws
  | .ok (.areturn, 1) => ∃ (a : Nat) (ty : FieldType), st = [Value.ref a] ∧ rt = some ty ∧ ((∃ n, ty = .object n) ∨ ∃ t, ty = .array t) ∧ ret (some (.ref a)) ws
  | .ok (.return_, 1) => st = [] ∧ rt = none ∧ ret none ws
  | _ => False
/-- an instruction that returns -/
def am_end (cc : ByteArray) (rt : Option FieldType) (ret : AmR) (pc : Nat) (st : List Value) (ws : va_W) : Prop :=
  match decode cc pc with
  | .ok (.ireturn, 1) => ∃ (v : Int32) (ty : FieldType), st = [Value.int v] ∧ rt = some ty ∧ narrow ty (.int v) = .int v ∧ ret (some (.int v)) ws
  | .ok (.lreturn, 1) => ∃ (v : Int64), st = [Value.long v] ∧ rt = some .long ∧ ret (some (.long v)) ws
  | .ok (.areturn, 1) => ∃ (a : Nat) (ty : FieldType), st = [Value.ref a] ∧ rt = some ty ∧ ((∃ n, ty = .object n) ∨ ∃ t, ty = .array t) ∧ ret (some (.ref a)) ws
  | .ok (.return_, 1) => st = [] ∧ rt = none ∧ ret none ws
  | _ => False
/-- cells forgotten, or put in another order -/
def am_less (ws' ws : va_W) : Prop := ∃ g : Nat → Nat, (∀ (k : Nat) (q : Nat × va_E), ws'[k]? = some q → ws[g k]? = some q) ∧ ∀ i j : Nat, i < ws'.length → j < ws'.length → g i = g j → i = j
/-- a body, by fuel -/
def am_run (Z : AmZ) (scr : AmS) (own : String) (cc : ByteArray) (nL : Nat) (rt : Option FieldType) (ini : Bool) (call callW : AmC) (xh : AmH) (ret : AmR) : Nat → AmK
  | 0 => fun _ _ _ _ _ _ => False
  | n + 1 => fun pc lv st ws C S => am_stp Z scr own cc nL rt ini call callW xh ret (am_run Z scr own cc nL rt ini call callW xh ret n) pc lv st ws C S ∨ ∃ ws' : va_W, am_less ws' ws ∧ am_run Z scr own cc nL rt ini call callW xh ret n pc lv st ws' C S
def am_no : AmC := fun _ _ _ _ _ _ _ => False
/-- a method's call, by the depth of calls; leaf: contracts that are proved by hand -/
def am_wp (Z : AmZ) (leaf : AmC) : Nat → AmC
  | 0 => am_no
  | d + 1 => fun y as ws mc ms post xp => (5 ≤ d ∧ leaf y as ws mc ms post xp) ∨ ∃ cc nL rt n, Cond.code y cc nL rt ∈ am_T ∧ nL ≤ 45 ∧ (lg_sl as).length ≤ nL ∧ plainFor y = true ∧ am_run Z none y.cls cc nL rt (decide (y.name = "<init>")) (am_wp Z leaf d) am_no (fun _ _ _ _ _ => xp) post n 0 (lv_args 0 as) [] ws mc ms
