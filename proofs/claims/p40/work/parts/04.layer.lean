section
/-! THE LAYER. A method's body as a predicate over pure worlds (lists of cells): no heap, no frames, no tables in it; 05.layerok says that the machine does what it says. -/
def am_T : List Cond := lw_tbl.filter goodWord
/-- the array classes int, long, char, boolean; where the String constants lie, and their bytes -/
abbrev AmZ : Type := ClassId × ClassId × ClassId × ClassId × (Nat → Nat) × (Nat → Nat)
/-- the String constants: class, entry, text -/
def am_lit : List (String × Nat × String) := [("GraphHouse$Script", 56, "<=+-*()"), ("GraphHouse$Ledger", 171, "l"), ("GraphHouse$Ledger", 173, "ddddl"), ("GraphHouse$Ledger", 175, "d"), ("GraphHouse$Ledger", 177, "dd"), ("GraphHouse$Ledger", 179, ""), ("GraphHouse$Engine", 102, "xnldirsmg")]
def am_len : List Nat := [7, 1, 5, 1, 2, 0, 9]
def am_byt : List (List Int32) := [[60, 61, 43, 45, 42, 40, 41], [108], [100, 100, 100, 100, 108], [100], [100, 100], [], [120, 110, 108, 100, 105, 114, 115, 109, 103]]
abbrev zs (Z : AmZ) (k : Nat) : Nat := Z.2.2.2.2.1 k
abbrev zb (Z : AmZ) (k : Nat) : Nat := Z.2.2.2.2.2 k
abbrev am_js : String := "java/lang/String"
/-- the array classes: int, long, char, boolean -/
def am_tys (Z : AmZ) : List (ClassId × FieldType) := [(Z.1, .int), (Z.2.1, .long), (Z.2.2.1, .char), (Z.2.2.2.1, .boolean)]
/-- pc, locals, operand stack, world, cells and slots that may still be made -/
abbrev AmK : Type := Nat → List (Nat × Value) → List Value → va_W → Nat → Nat → Prop
abbrev AmR : Type := Option Value → va_W → Prop
abbrev AmX : Type := String → va_W → Prop
abbrev AmC : Type := MethodName → List Value → va_W → Nat → Nat → AmR → AmX → Prop
/-- the law's script: its cell, its length, its ints -/
abbrev AmS : Type := Option (Nat × Nat × (Nat → Int32))
/-- where a throw that reaches this frame goes: K, pc, locals, what may still be made -/
abbrev AmH : Type := AmK → Nat → List (Nat × Value) → Nat → Nat → AmX
def am_t (T : u_T) (k : Nat) : FieldType := (parseFieldDescriptor (T k).2.2.1).getD .int
def am_new (T : u_T) (N : Nat) : List Value := (List.range N).map (fun k => defaultValue (am_t T k))
def am_s1 (i : Nat) (v : Value) (lv : List (Nat × Value)) : List (Nat × Value) := (i, v) :: lv.filter (fun q => !(q.1 == i) && !(q.1 + 1 == i && q.2.category == 2))
def am_s2 (i : Nat) (v : Value) (lv : List (Nat × Value)) : List (Nat × Value) := (i, v) :: lv.filter (fun q => !(q.1 == i) && (!(q.1 == i + 1) && !(q.1 + 1 == i && q.2.category == 2)))
def am_fresh (q : Nat) (ws : va_W) : Prop := ∀ (k : Nat) (e : va_E), ws[k]? ≠ some (q, e)
def am_plain (y : MethodName) (n : Nat) : Prop := y.cls ≠ "java/lang/invoke/MethodHandle" ∧ y.cls ≠ "java/lang/invoke/VarHandle" ∧ (parseMethodDescriptor y.desc).map (fun d => d.parameters.length) = some n
/-- System.arraycopy between two int or two long arrays of the world -/
def am_arraycopy (Z : AmZ) (own : String) (i : Nat) (k : List Value → va_W → Prop) (st : List Value) (ws : va_W) : Prop :=
  ∃ (n dp : Int32) (a : Nat) (sp : Int32) (a0 : Nat) (r : List Value) (q0 q1 n0 n1 : Nat), st = Value.int n :: Value.int dp :: Value.ref a :: Value.int sp :: Value.ref a0 :: r ∧ Cond.methodLink own i arraycopyName ∈ am_T ∧ (r.map fun v => v.category).sum ≤ 8 ∧ ¬ sp < 0 ∧ ¬ dp < 0 ∧ ¬ n < 0 ∧ sp.toNatClampNeg + n.toNatClampNeg ≤ n0 ∧ dp.toNatClampNeg + n.toNatClampNeg ≤ n1 ∧
    ((∃ (f g : Nat → Int32), ws[q0]? = some (a0, .inl (Z.1, n0, .inl f)) ∧ ws[q1]? = some (a, .inl (Z.1, n1, .inl g)) ∧ k r (ws.set q1 (a, .inl (Z.1, n1, .inl (va_cpy f g sp.toNatClampNeg dp.toNatClampNeg n.toNatClampNeg))))) ∨
     (∃ (f g : Nat → Int64), ws[q0]? = some (a0, .inl (Z.2.1, n0, .inr (.inl f))) ∧ ws[q1]? = some (a, .inl (Z.2.1, n1, .inr (.inl g))) ∧ k r (ws.set q1 (a, .inl (Z.2.1, n1, .inr (.inl (va_cpy f g sp.toNatClampNeg dp.toNatClampNeg n.toNatClampNeg)))))))
/-- one instruction, as a predicate: K what must hold where it goes on, ret where it returns, xp where it throws, call the calls -/
def am_stp (Z : AmZ) (scr : AmS) (own : String) (cc : ByteArray) (nL : Nat) (rt : Option FieldType) (ini : Bool) (call callW : AmC) (xh : AmH) (ret : AmR) (K : AmK) (pc : Nat) (lv : List (Nat × Value)) (st : List Value) (ws : va_W) (C S : Nat) : Prop :=
  match decode cc pc with
  | .ok (.iconst n, 1) => K (pc + 1) lv (.int (Int32.ofInt n) :: st) ws C S
  | .ok (.bipush n, 2) => K (pc + 2) lv (.int (Int8.ofInt n).toInt32 :: st) ws C S
  | .ok (.sipush n, 3) => K (pc + 3) lv (.int (Int16.ofInt n).toInt32 :: st) ws C S
  | .ok (.lconst n, 1) => K (pc + 1) lv (.long (Int64.ofNat (n : Nat)) :: st) ws C S
  | .ok (.ldc i, 2) => (∃ v, Cond.constant own i v ∈ am_T ∧ K (pc + 2) lv (.int v :: st) ws C S) ∨ ∃ (k : Nat) (tx : String), am_lit[k]? = some (own, i, tx) ∧ K (pc + 2) lv (.ref (zs Z k) :: st) ws C S
  | .ok (.i2b, 1) => ∃ x r, st = Value.int x :: r ∧ K (pc + 1) lv (.int x.toInt8.toInt32 :: r) ws C S
  | .ok (.getstatic i, 3) => (Cond.fieldLink own i am_js "COMPACT_STRINGS" "Z" ∈ am_T ∧ K (pc + 3) lv (.int 1 :: st) ws C S) ∨ (Cond.fieldLink own i "jdk/internal/util/Preconditions" "SIOOBE_FORMATTER" "Ljava/util/function/BiFunction;" ∈ am_T ∧ ∀ v : Value, v.category = 1 → K (pc + 3) lv (v :: st) ws C S)
  | .ok (.ldc_w i, 3) => ∃ v, Cond.constant own i v ∈ am_T ∧ K (pc + 3) lv (.int v :: st) ws C S
  | .ok (.ldc2_w i, 3) => ∃ v, Cond.constantLong own i v ∈ am_T ∧ K (pc + 3) lv (.long v :: st) ws C S
  | .ok (.iload i, 2) => ∃ x, (i, Value.int x) ∈ lv ∧ K (pc + 2) lv (.int x :: st) ws C S
  | .ok (.iload_n i, 1) => ∃ x, ((i : Nat), Value.int x) ∈ lv ∧ K (pc + 1) lv (.int x :: st) ws C S
  | .ok (.istore i, 2) => ∃ x r, st = Value.int x :: r ∧ i < nL ∧ K (pc + 2) (am_s1 i (.int x) lv) (r) ws C S
  | .ok (.istore_n i, 1) => ∃ x r, st = Value.int x :: r ∧ (i : Nat) < nL ∧ K (pc + 1) (am_s1 (i : Nat) (.int x) lv) (r) ws C S
  | .ok (.lload i, 2) => ∃ x, (i, Value.long x) ∈ lv ∧ K (pc + 2) lv (.long x :: st) ws C S
  | .ok (.lload_n i, 1) => ∃ x, ((i : Nat), Value.long x) ∈ lv ∧ K (pc + 1) lv (.long x :: st) ws C S
  | .ok (.lstore i, 2) => ∃ x r, st = Value.long x :: r ∧ i + 1 < nL ∧ K (pc + 2) (am_s2 i (.long x) lv) (r) ws C S
  | .ok (.lstore_n i, 1) => ∃ x r, st = Value.long x :: r ∧ (i : Nat) + 1 < nL ∧ K (pc + 1) (am_s2 (i : Nat) (.long x) lv) (r) ws C S
  | .ok (.aload i, 2) => ∃ x, (i, Value.ref x) ∈ lv ∧ K (pc + 2) lv (.ref x :: st) ws C S
  | .ok (.aload_n i, 1) => ∃ x, ((i : Nat), Value.ref x) ∈ lv ∧ K (pc + 1) lv (.ref x :: st) ws C S
  | .ok (.astore i, 2) => ∃ x r, st = Value.ref x :: r ∧ i < nL ∧ K (pc + 2) (am_s1 i (.ref x) lv) (r) ws C S
  | .ok (.astore_n i, 1) => ∃ x r, st = Value.ref x :: r ∧ (i : Nat) < nL ∧ K (pc + 1) (am_s1 (i : Nat) (.ref x) lv) (r) ws C S
  | .ok (.iinc i n, 3) => ∃ x, (i, Value.int x) ∈ lv ∧ i < nL ∧ K (pc + 3) (am_s1 i (.int (x + Int32.ofInt n)) lv) (st) ws C S
  | .ok (.iadd, 1) => ∃ x y r, st = Value.int y :: Value.int x :: r ∧ K (pc + 1) lv (.int (x + y) :: r) ws C S
  | .ok (.isub, 1) => ∃ x y r, st = Value.int y :: Value.int x :: r ∧ K (pc + 1) lv (.int (x - y) :: r) ws C S
  | .ok (.imul, 1) => ∃ x y r, st = Value.int y :: Value.int x :: r ∧ K (pc + 1) lv (.int (x * y) :: r) ws C S
  | .ok (.iand, 1) => ∃ x y r, st = Value.int y :: Value.int x :: r ∧ K (pc + 1) lv (.int (x &&& y) :: r) ws C S
  | .ok (.ior, 1) => ∃ x y r, st = Value.int y :: Value.int x :: r ∧ K (pc + 1) lv (.int (x ||| y) :: r) ws C S
  | .ok (.ixor, 1) => ∃ x y r, st = Value.int y :: Value.int x :: r ∧ K (pc + 1) lv (.int (x ^^^ y) :: r) ws C S
  | .ok (.ishl, 1) => ∃ x y r, st = Value.int y :: Value.int x :: r ∧ K (pc + 1) lv (.int (x <<< (y &&& 31)) :: r) ws C S
  | .ok (.ishr, 1) => ∃ x y r, st = Value.int y :: Value.int x :: r ∧ K (pc + 1) lv (.int (x >>> (y &&& 31)) :: r) ws C S
  | .ok (.iushr, 1) => ∃ x y r, st = Value.int y :: Value.int x :: r ∧ K (pc + 1) lv (.int ((x.toUInt32 >>> (y.toUInt32 &&& Int32.toUInt32 31)).toInt32) :: r) ws C S
  | .ok (.idiv, 1) => ∃ x y r, st = Value.int y :: Value.int x :: r ∧ ¬ y = 0 ∧ K (pc + 1) lv (.int (x / y) :: r) ws C S
  | .ok (.irem, 1) => ∃ x y r, st = Value.int y :: Value.int x :: r ∧ ¬ y = 0 ∧ K (pc + 1) lv (.int (x - x / y * y) :: r) ws C S
  | .ok (.ladd, 1) => ∃ x y r, st = Value.long y :: Value.long x :: r ∧ K (pc + 1) lv (.long (x + y) :: r) ws C S
  | .ok (.lsub, 1) => ∃ x y r, st = Value.long y :: Value.long x :: r ∧ K (pc + 1) lv (.long (x - y) :: r) ws C S
  | .ok (.lmul, 1) => ∃ x y r, st = Value.long y :: Value.long x :: r ∧ K (pc + 1) lv (.long (x * y) :: r) ws C S
  | .ok (.land, 1) => ∃ x y r, st = Value.long y :: Value.long x :: r ∧ K (pc + 1) lv (.long (x &&& y) :: r) ws C S
  | .ok (.lor, 1) => ∃ x y r, st = Value.long y :: Value.long x :: r ∧ K (pc + 1) lv (.long (x ||| y) :: r) ws C S
  | .ok (.lxor, 1) => ∃ x y r, st = Value.long y :: Value.long x :: r ∧ K (pc + 1) lv (.long (x ^^^ y) :: r) ws C S
  | .ok (.ldiv, 1) => ∃ x y r, st = Value.long y :: Value.long x :: r ∧ ¬ y = 0 ∧ K (pc + 1) lv (.long (x / y) :: r) ws C S
  | .ok (.lrem, 1) => ∃ x y r, st = Value.long y :: Value.long x :: r ∧ ¬ y = 0 ∧ K (pc + 1) lv (.long (x - x / y * y) :: r) ws C S
  | .ok (.lshl, 1) => ∃ x y r, st = Value.int y :: Value.long x :: r ∧ K (pc + 1) lv (.long (x <<< (y.toInt64 &&& 63)) :: r) ws C S
  | .ok (.lshr, 1) => ∃ x y r, st = Value.int y :: Value.long x :: r ∧ K (pc + 1) lv (.long (x >>> (y.toInt64 &&& 63)) :: r) ws C S
  | .ok (.lushr, 1) => ∃ x y r, st = Value.int y :: Value.long x :: r ∧ K (pc + 1) lv (.long ((x.toUInt64 >>> (y.toInt64.toUInt64 &&& Int64.toUInt64 63)).toInt64) :: r) ws C S
  | .ok (.lcmp, 1) => ∃ x y r, st = Value.long y :: Value.long x :: r ∧ K (pc + 1) lv (.int (lg_cmp x y) :: r) ws C S
  | .ok (.ineg, 1) => ∃ x r, st = Value.int x :: r ∧ K (pc + 1) lv (.int (-x) :: r) ws C S
  | .ok (.lneg, 1) => ∃ x r, st = Value.long x :: r ∧ K (pc + 1) lv (.long (-x) :: r) ws C S
  | .ok (.i2l, 1) => ∃ x r, st = Value.int x :: r ∧ K (pc + 1) lv (.long x.toInt64 :: r) ws C S
  | .ok (.l2i, 1) => ∃ x r, st = Value.long x :: r ∧ K (pc + 1) lv (.int x.toInt32 :: r) ws C S
  | .ok (.i2c, 1) => ∃ x r, st = Value.int x :: r ∧ K (pc + 1) lv (.int (x.toUInt32 % 65536).toInt32 :: r) ws C S
  | .ok (.dup, 1) => ∃ (v : Value) (r : List Value), st = v :: r ∧ v.category = 1 ∧ K (pc + 1) lv (v :: v :: r) ws C S
  | .ok (.pop, 1) => ∃ (v : Value) (r : List Value), st = v :: r ∧ v.category = 1 ∧ K (pc + 1) lv (r) ws C S
  | .ok (.pop2, 1) => ∃ (v : Value) (r : List Value), st = v :: r ∧ v.category = 2 ∧ K (pc + 1) lv (r) ws C S
  | .ok (.dup2, 1) => ∃ (v w : Value) (r : List Value), st = v :: w :: r ∧ v.category = 1 ∧ w.category = 1 ∧ K (pc + 1) lv (v :: w :: v :: w :: r) ws C S
  | .ok (.ifCond .eq o, 3) => ∃ x r, st = Value.int x :: r ∧ 0 ≤ (pc : Int) + o ∧ (x = 0 → K ((pc : Int) + o).toNat lv (r) ws C S) ∧ (¬ x = 0 → K (pc + 3) lv (r) ws C S)
  | .ok (.ifCond .ne o, 3) => ∃ x r, st = Value.int x :: r ∧ 0 ≤ (pc : Int) + o ∧ (¬ x = 0 → K ((pc : Int) + o).toNat lv (r) ws C S) ∧ (x = 0 → K (pc + 3) lv (r) ws C S)
  | .ok (.ifCond .lt o, 3) => ∃ x r, st = Value.int x :: r ∧ 0 ≤ (pc : Int) + o ∧ (x < 0 → K ((pc : Int) + o).toNat lv (r) ws C S) ∧ (¬ x < 0 → K (pc + 3) lv (r) ws C S)
  | .ok (.ifCond .ge o, 3) => ∃ x r, st = Value.int x :: r ∧ 0 ≤ (pc : Int) + o ∧ (0 ≤ x → K ((pc : Int) + o).toNat lv (r) ws C S) ∧ (¬ 0 ≤ x → K (pc + 3) lv (r) ws C S)
  | .ok (.ifCond .gt o, 3) => ∃ x r, st = Value.int x :: r ∧ 0 ≤ (pc : Int) + o ∧ (0 < x → K ((pc : Int) + o).toNat lv (r) ws C S) ∧ (¬ 0 < x → K (pc + 3) lv (r) ws C S)
  | .ok (.ifCond .le o, 3) => ∃ x r, st = Value.int x :: r ∧ 0 ≤ (pc : Int) + o ∧ (x ≤ 0 → K ((pc : Int) + o).toNat lv (r) ws C S) ∧ (¬ x ≤ 0 → K (pc + 3) lv (r) ws C S)
  | .ok (.if_icmp .eq o, 3) => ∃ x y r, st = Value.int y :: Value.int x :: r ∧ 0 ≤ (pc : Int) + o ∧ (x = y → K ((pc : Int) + o).toNat lv (r) ws C S) ∧ (¬ x = y → K (pc + 3) lv (r) ws C S)
  | .ok (.if_icmp .ne o, 3) => ∃ x y r, st = Value.int y :: Value.int x :: r ∧ 0 ≤ (pc : Int) + o ∧ (¬ x = y → K ((pc : Int) + o).toNat lv (r) ws C S) ∧ (x = y → K (pc + 3) lv (r) ws C S)
  | .ok (.if_icmp .lt o, 3) => ∃ x y r, st = Value.int y :: Value.int x :: r ∧ 0 ≤ (pc : Int) + o ∧ (x < y → K ((pc : Int) + o).toNat lv (r) ws C S) ∧ (¬ x < y → K (pc + 3) lv (r) ws C S)
  | .ok (.if_icmp .ge o, 3) => ∃ x y r, st = Value.int y :: Value.int x :: r ∧ 0 ≤ (pc : Int) + o ∧ (y ≤ x → K ((pc : Int) + o).toNat lv (r) ws C S) ∧ (¬ y ≤ x → K (pc + 3) lv (r) ws C S)
  | .ok (.if_icmp .gt o, 3) => ∃ x y r, st = Value.int y :: Value.int x :: r ∧ 0 ≤ (pc : Int) + o ∧ (y < x → K ((pc : Int) + o).toNat lv (r) ws C S) ∧ (¬ y < x → K (pc + 3) lv (r) ws C S)
  | .ok (.if_icmp .le o, 3) => ∃ x y r, st = Value.int y :: Value.int x :: r ∧ 0 ≤ (pc : Int) + o ∧ (x ≤ y → K ((pc : Int) + o).toNat lv (r) ws C S) ∧ (¬ x ≤ y → K (pc + 3) lv (r) ws C S)
  | .ok (.goto o, 3) => 0 ≤ (pc : Int) + o ∧ K ((pc : Int) + o).toNat lv (st) ws C S
  | .ok (.tableswitch df lo hi os, _) => ∃ x r, st = Value.int x :: r ∧ (∀ o, ¬ x.toInt < lo → ¬ hi < x.toInt → os[(x.toInt - lo).toNat]? = some o → 0 ≤ (pc : Int) + o ∧ K ((pc : Int) + o).toNat lv (r) ws C S) ∧ (¬ x.toInt < lo → ¬ hi < x.toInt → (os[(x.toInt - lo).toNat]?).isSome = true) ∧ ((x.toInt < lo ∨ hi < x.toInt) → 0 ≤ (pc : Int) + df ∧ K ((pc : Int) + df).toNat lv (r) ws C S)
  | .ok (.lookupswitch df ps, _) => ∃ x r, st = Value.int x :: r ∧ (ps.toList.zip (ps.toList.drop 1)).all (fun (a, next) => a.1 < next.1) = true ∧ 0 ≤ (pc : Int) + Op.lookupswitch.offset ps.toList df x.toInt ∧ K ((pc : Int) + Op.lookupswitch.offset ps.toList df x.toInt).toNat lv (r) ws C S
  | .ok (.getfield i, 3) => (∃ (a : Nat) (r : List Value) (q ci : Nat) (fs : List Value) (Cn : String) (T : u_T) (N k : Nat) (v : Value), st = Value.ref a :: r ∧ ws[q]? = some (a, .inr (ci, fs)) ∧ vwCl[ci]? = some (Cn, T, N) ∧ k < N ∧ Cond.fieldLink own i (T k).1 (T k).2.1 (T k).2.2.1 ∈ am_T ∧ fs[k]? = some v ∧ K (pc + 3) lv (v :: r) ws C S) ∨ ∃ (k : Nat) (r : List Value), k < 7 ∧ st = Value.ref (zs Z k) :: r ∧ ((Cond.fieldLink own i am_js "value" "[B" ∈ am_T ∧ K (pc + 3) lv (.ref (zb Z k) :: r) ws C S) ∨ (Cond.fieldLink own i am_js "coder" "B" ∈ am_T ∧ K (pc + 3) lv (.int 0 :: r) ws C S))
  | .ok (.putfield i, 3) => ∃ (a : Nat) (r : List Value) (q ci : Nat) (fs : List Value) (Cn : String) (T : u_T) (N k : Nat) (v : Value), st = v :: Value.ref a :: r ∧ ws[q]? = some (a, .inr (ci, fs)) ∧ vwCl[ci]? = some (Cn, T, N) ∧ k < N ∧ Cond.fieldLink own i (T k).1 (T k).2.1 (T k).2.2.1 ∈ am_T ∧ k < fs.length ∧ narrow (am_t T k) v = v ∧ fits (am_t T k) v = true ∧ ((T k).2.2.2 = true → ini = true ∧ (T k).1 = own) ∧ K (pc + 3) lv (r) (ws.set q (a, .inr (ci, fs.set k v))) C S
  | .ok (.iaload, 1) => (∃ (b L : Nat) (xs : Nat → Int32) (j : Int32) (r : List Value), scr = some (b, L, xs) ∧ st = Value.int j :: Value.ref b :: r ∧ vp_in j L ∧ K (pc + 1) lv (.int (xs j.toNatClampNeg) :: r) ws C S) ∨ ∃ (a : Nat) (j : Int32) (r : List Value) (q n : Nat) (f : Nat → Int32), st = Value.int j :: Value.ref a :: r ∧ ws[q]? = some (a, .inl (Z.1, n, .inl f)) ∧ vp_in j n ∧ K (pc + 1) lv (.int (f j.toNatClampNeg) :: r) ws C S
  | .ok (.laload, 1) => ∃ (a : Nat) (j : Int32) (r : List Value) (q n : Nat) (f : Nat → Int64), st = Value.int j :: Value.ref a :: r ∧ ws[q]? = some (a, .inl (Z.2.1, n, .inr (.inl f))) ∧ vp_in j n ∧ K (pc + 1) lv (.long (f j.toNatClampNeg) :: r) ws C S
  | .ok (.caload, 1) => ∃ (a : Nat) (j : Int32) (r : List Value) (q n : Nat) (f : Nat → Int32), st = Value.int j :: Value.ref a :: r ∧ ws[q]? = some (a, .inl (Z.2.2.1, n, .inl f)) ∧ vp_in j n ∧ K (pc + 1) lv (.int (f j.toNatClampNeg) :: r) ws C S
  | .ok (.baload, 1) => (∃ (a : Nat) (j : Int32) (r : List Value) (q n : Nat) (f : Nat → Int32), st = Value.int j :: Value.ref a :: r ∧ ws[q]? = some (a, .inl (Z.2.2.2.1, n, .inl f)) ∧ vp_in j n ∧ K (pc + 1) lv (.int (f j.toNatClampNeg) :: r) ws C S) ∨ ∃ (k : Nat) (j : Int32) (r : List Value), k < 7 ∧ st = Value.int j :: Value.ref (zb Z k) :: r ∧ vp_in j (am_len.getD k 0) ∧ K (pc + 1) lv (.int ((am_byt.getD k []).getD j.toNatClampNeg 0) :: r) ws C S
  | .ok (.iastore, 1) => ∃ (a : Nat) (j x : Int32) (r : List Value) (q n : Nat) (f : Nat → Int32), st = Value.int x :: Value.int j :: Value.ref a :: r ∧ ws[q]? = some (a, .inl (Z.1, n, .inl f)) ∧ vp_in j n ∧ K (pc + 1) lv (r) (ws.set q (a, .inl (Z.1, n, .inl (upd f j.toNatClampNeg x)))) C S
  | .ok (.lastore, 1) => ∃ (a : Nat) (j : Int32) (x : Int64) (r : List Value) (q n : Nat) (f : Nat → Int64), st = Value.long x :: Value.int j :: Value.ref a :: r ∧ ws[q]? = some (a, .inl (Z.2.1, n, .inr (.inl f))) ∧ vp_in j n ∧ K (pc + 1) lv (r) (ws.set q (a, .inl (Z.2.1, n, .inr (.inl (vp_updL f j.toNatClampNeg x))))) C S
  | .ok (.castore, 1) => ∃ (a : Nat) (j x : Int32) (r : List Value) (q n : Nat) (f : Nat → Int32), st = Value.int x :: Value.int j :: Value.ref a :: r ∧ ws[q]? = some (a, .inl (Z.2.2.1, n, .inl f)) ∧ vp_in j n ∧ K (pc + 1) lv (r) (ws.set q (a, .inl (Z.2.2.1, n, .inl (upd f j.toNatClampNeg (vp_nar .char x))))) C S
  | .ok (.bastore, 1) => ∃ (a : Nat) (j x : Int32) (r : List Value) (q n : Nat) (f : Nat → Int32), st = Value.int x :: Value.int j :: Value.ref a :: r ∧ ws[q]? = some (a, .inl (Z.2.2.2.1, n, .inl f)) ∧ vp_in j n ∧ K (pc + 1) lv (r) (ws.set q (a, .inl (Z.2.2.2.1, n, .inl (upd f j.toNatClampNeg (vp_nar .boolean x))))) C S
  | .ok (.arraylength, 1) => (∃ (b L : Nat) (xs : Nat → Int32) (r : List Value), scr = some (b, L, xs) ∧ st = Value.ref b :: r ∧ K (pc + 1) lv (.int (Int32.ofNat L) :: r) ws C S) ∨ (∃ (a : Nat) (r : List Value) (q : Nat) (cA : ClassId) (x : vp_A) (t : Nat) (ty : FieldType), st = Value.ref a :: r ∧ ws[q]? = some (a, .inl (cA, x)) ∧ (am_tys Z)[t]? = some (cA, ty) ∧ K (pc + 1) lv (.int (Int32.ofNat x.1) :: r) ws C S) ∨ ∃ (k : Nat) (r : List Value), k < 7 ∧ st = Value.ref (zb Z k) :: r ∧ K (pc + 1) lv (.int (Int32.ofNat (am_len.getD k 0)) :: r) ws C S
  | .ok (.new i, 3) => ∃ (ci : Nat) (Cn : String) (T : u_T) (N : Nat), vwCl[ci]? = some (Cn, T, N) ∧ Cond.classLink own i Cn ∈ am_T ∧ 1 ≤ C ∧ N ≤ S ∧ ∀ q, am_fresh q ws → K (pc + 3) lv (.ref q :: st) (ws ++ [(q, .inr (ci, am_new T N))]) (C - 1) (S - N)
  | .ok (.newarray .int, 2) => ∃ (n : Int32) (r : List Value), st = Value.int n :: r ∧ ¬ n < 0 ∧ n.toNatClampNeg ≤ 60000000 ∧ 1 ≤ C ∧ n.toNatClampNeg ≤ S ∧ ∀ q, am_fresh q ws → K (pc + 2) lv (.ref q :: r) (ws ++ [(q, .inl (Z.1, n.toNatClampNeg, .inl (fun _ => 0)))]) (C - 1) (S - n.toNatClampNeg)
  | .ok (.newarray .long, 2) => ∃ (n : Int32) (r : List Value), st = Value.int n :: r ∧ ¬ n < 0 ∧ n.toNatClampNeg ≤ 60000000 ∧ 1 ≤ C ∧ n.toNatClampNeg ≤ S ∧ ∀ q, am_fresh q ws → K (pc + 2) lv (.ref q :: r) (ws ++ [(q, .inl (Z.2.1, n.toNatClampNeg, .inr (.inl (fun _ => 0))))]) (C - 1) (S - n.toNatClampNeg)
  | .ok (.newarray .char, 2) => ∃ (n : Int32) (r : List Value), st = Value.int n :: r ∧ ¬ n < 0 ∧ n.toNatClampNeg ≤ 60000000 ∧ 1 ≤ C ∧ n.toNatClampNeg ≤ S ∧ ∀ q, am_fresh q ws → K (pc + 2) lv (.ref q :: r) (ws ++ [(q, .inl (Z.2.2.1, n.toNatClampNeg, .inl (fun _ => 0)))]) (C - 1) (S - n.toNatClampNeg)
  | .ok (.newarray .boolean, 2) => ∃ (n : Int32) (r : List Value), st = Value.int n :: r ∧ ¬ n < 0 ∧ n.toNatClampNeg ≤ 60000000 ∧ 1 ≤ C ∧ n.toNatClampNeg ≤ S ∧ ∀ q, am_fresh q ws → K (pc + 2) lv (.ref q :: r) (ws ++ [(q, .inl (Z.2.2.2.1, n.toNatClampNeg, .inl (fun _ => 0)))]) (C - 1) (S - n.toNatClampNeg)
  | .ok (.invokevirtual i, 3) => (∃ (y : MethodName) (b : Nat) (As r : List Value) (mc1 ms1 q ci : Nat) (fs : List Value) (T : u_T) (N : Nat), st = As.reverse ++ Value.ref b :: r ∧ am_plain y As.length ∧ Cond.methodLink own i y ∈ am_T ∧ Cond.instanceMethod y ∈ am_T ∧ Cond.selects y.cls y y ∈ am_T ∧ Cond.initialized y.cls ∈ am_T ∧ ws[q]? = some (b, .inr (ci, fs)) ∧ vwCl[ci]? = some (y.cls, T, N) ∧ (r.map fun v => v.category).sum ≤ 8 ∧ mc1 ≤ C ∧ ms1 ≤ S ∧ call y (.ref b :: As) ws mc1 ms1 (fun v u => K (pc + 3) lv (v.toList ++ r) u (C - mc1) (S - ms1)) (xh K pc lv (C - mc1) (S - ms1))) ∨ (∃ (y : MethodName) (b : Nat) (As r : List Value) (mc1 ms1 k : Nat), st = As.reverse ++ Value.ref b :: r ∧ am_plain y As.length ∧ Cond.methodLink own i y ∈ am_T ∧ Cond.instanceMethod y ∈ am_T ∧ Cond.selects y.cls y y ∈ am_T ∧ Cond.initialized y.cls ∈ am_T ∧ k < 7 ∧ b = zs Z k ∧ y.cls = am_js ∧ (r.map fun v => v.category).sum ≤ 8 ∧ mc1 ≤ C ∧ ms1 ≤ S ∧ call y (.ref b :: As) ws mc1 ms1 (fun v u => K (pc + 3) lv (v.toList ++ r) u (C - mc1) (S - ms1)) (xh K pc lv (C - mc1) (S - ms1)))
  | .ok (.invokestatic i, 3) => am_arraycopy Z own i (fun r u => K (pc + 3) lv (r) u C S) st ws ∨ ∃ (y : MethodName) (As r : List Value) (mc1 ms1 : Nat), st = As.reverse ++ r ∧ am_plain y As.length ∧ Cond.static y ∈ am_T ∧ Cond.initialized y.cls ∈ am_T ∧ (r.map fun v => v.category).sum ≤ 8 ∧ mc1 ≤ C ∧ ms1 ≤ S ∧ ((Cond.methodLink own i y ∈ am_T ∧ call y As ws mc1 ms1 (fun v u => K (pc + 3) lv (v.toList ++ r) u (C - mc1) (S - ms1)) (xh K pc lv (C - mc1) (S - ms1))) ∨ (Cond.methodLink own i y ∈ am_T ∧ callW y As ws mc1 ms1 (fun v u => K (pc + 3) lv (v.toList ++ r) u (C - mc1) (S - ms1)) (fun _ _ => False)) ∨ ∃ host, Cond.methodLinkNest own i y host ∈ lw_tbl ∧ call y As ws mc1 ms1 (fun v u => K (pc + 3) lv (v.toList ++ r) u (C - mc1) (S - ms1)) (fun _ _ => False))
  | .ok (.invokespecial i, 3) => (∃ a r, st = Value.ref a :: r ∧ (r.map fun v => v.category).sum ≤ 8 ∧ Cond.methodLink own i objectInit ∈ am_T ∧ K (pc + 3) lv (r) ws C S) ∨ ∃ (y : MethodName) (b : Nat) (As r : List Value) (mc1 ms1 : Nat), st = As.reverse ++ Value.ref b :: r ∧ am_plain y As.length ∧ y.name = "<init>" ∧ Cond.instanceMethod y ∈ am_T ∧ Cond.initialized y.cls ∈ am_T ∧ (r.map fun v => v.category).sum ≤ 8 ∧ mc1 ≤ C ∧ ms1 ≤ S ∧ (∃ bytes maxL, Cond.code y bytes maxL none ∈ am_T) ∧ (Cond.methodLink own i y ∈ am_T ∨ ∃ host, Cond.methodLinkNest own i y host ∈ lw_tbl) ∧ call y (.ref b :: As) ws mc1 ms1 (fun v u => K (pc + 3) lv (v.toList ++ r) u (C - mc1) (S - ms1)) (fun _ _ => False)
  | .ok (.ireturn, 1) => ∃ (v : Int32) (ty : FieldType), st = [Value.int v] ∧ rt = some ty ∧ narrow ty (.int v) = .int v ∧ ret (some (.int v)) ws
  | .ok (.lreturn, 1) => ∃ (v : Int64), st = [Value.long v] ∧ rt = some .long ∧ ret (some (.long v)) ws
  | .ok (.areturn, 1) => ∃ (a : Nat) (ty : FieldType), st = [Value.ref a] ∧ rt = some ty ∧ ((∃ n, ty = .object n) ∨ ∃ t, ty = .array t) ∧ ret (some (.ref a)) ws
  | .ok (.return_, 1) => st = [] ∧ rt = none ∧ ret none ws
  | _ => False
/-- an instruction that returns -/
def am_end (cc : ByteArray) (rt : Option FieldType) (ret : AmR) (pc : Nat) (st : List Value) (ws : va_W) : Prop :=
  match decode cc pc with
  | .ok (.ireturn, 1) => ∃ (v : Int32) (ty : FieldType), st = [Value.int v] ∧ rt = some ty ∧ narrow ty (.int v) = .int v ∧ ret (some (.int v)) ws
  | .ok (.lreturn, 1) => ∃ (v : Int64), st = [Value.long v] ∧ rt = some .long ∧ ret (some (.long v)) ws
  | .ok (.areturn, 1) => ∃ (a : Nat) (ty : FieldType), st = [Value.ref a] ∧ rt = some ty ∧ ((∃ n, ty = .object n) ∨ ∃ t, ty = .array t) ∧ ret (some (.ref a)) ws
  | .ok (.return_, 1) => st = [] ∧ rt = none ∧ ret none ws
  | _ => False
/-- cells forgotten, or put in another order -/
def am_less (ws' ws : va_W) : Prop := ∃ g : Nat → Nat, (∀ (k : Nat) (q : Nat × va_E), ws'[k]? = some q → ws[g k]? = some q) ∧ ∀ i j : Nat, i < ws'.length → j < ws'.length → g i = g j → i = j
/-- a body, by fuel -/
def am_run (Z : AmZ) (scr : AmS) (own : String) (cc : ByteArray) (nL : Nat) (rt : Option FieldType) (ini : Bool) (call callW : AmC) (xh : AmH) (ret : AmR) : Nat → AmK
  | 0 => fun _ _ _ _ _ _ => False
  | n + 1 => fun pc lv st ws C S => am_stp Z scr own cc nL rt ini call callW xh ret (am_run Z scr own cc nL rt ini call callW xh ret n) pc lv st ws C S ∨ ∃ ws' : va_W, am_less ws' ws ∧ am_run Z scr own cc nL rt ini call callW xh ret n pc lv st ws' C S
def am_no : AmC := fun _ _ _ _ _ _ _ => False
/-- a method's call, by the depth of calls; leaf: contracts that are proved by hand -/
def am_wp (Z : AmZ) (leaf : AmC) : Nat → AmC
  | 0 => am_no
  | d + 1 => fun y as ws mc ms post xp => (5 ≤ d ∧ leaf y as ws mc ms post xp) ∨ ∃ cc nL rt n, Cond.code y cc nL rt ∈ am_T ∧ nL ≤ 45 ∧ (lg_sl as).length ≤ nL ∧ plainFor y = true ∧ am_run Z none y.cls cc nL rt (decide (y.name = "<init>")) (am_wp Z leaf d) am_no (fun _ _ _ _ _ => xp) post n 0 (lv_args 0 as) [] ws mc ms
end
section
/-! THE LAYER IS SOUND. First the tables' words. -/
theorem am_good {w : Cond} (h : w ∈ am_T) : goodWord w = true := (List.mem_filter.mp h).2
theorem am_tbl {w : Cond} (h : w ∈ am_T) : w ∈ lw_tbl := (List.mem_filter.mp h).1
theorem am_at (i : Nat) {w : Cond} (h : lw_tbl[i]? = some w) (g : goodWord w = true) : w ∈ am_T := List.mem_filter.mpr ⟨List.mem_of_getElem? h, g⟩
def evo : List Cond → List Cond → Bool
  | _, [] => true
  | [], _ :: _ => false
  | [t], w :: ws => decide (t = w) && ws.isEmpty
  | t :: _ :: T, w :: ws => decide (t = w) && evo T ws
theorem evo_m : ∀ (T ws : List Cond), evo T ws = true → ∀ w ∈ ws, w ∈ T
  | _, [], _ => fun w hw => absurd hw (List.not_mem_nil)
  | [], _ :: _, h => by cases h
  | [t], x :: ws, h => by
    intro w hw
    have h2 : (decide (t = x) && ws.isEmpty) = true := h
    rw [Bool.and_eq_true, decide_eq_true_iff, List.isEmpty_iff] at h2
    rw [h2.2, List.mem_singleton] at hw
    rw [hw, h2.1]
    exact List.mem_singleton.mpr rfl
  | t :: u :: T, x :: ws, h => by
    intro w hw
    have h2 : (decide (t = x) && evo T ws) = true := h
    rw [Bool.and_eq_true, decide_eq_true_iff] at h2
    rcases List.mem_cons.mp hw with e | e
    · rw [e, ← h2.1]
      exact List.mem_cons_self
    · exact List.mem_cons_of_mem _ (List.mem_cons_of_mem _ (evo_m T ws h2.2 w e))
theorem am_evo {ws : List Cond} (k : Nat) (h1 : evo (lw_tbl.drop k) ws = true) (h2 : ws.all goodWord = true) : ∀ w ∈ ws, w ∈ am_T := by
  intro w hw
  exact List.mem_filter.mpr ⟨List.mem_of_mem_drop (evo_m _ _ h1 w hw), List.all_eq_true.mp h2 w hw⟩
set_option maxRecDepth 100000 in
theorem am_in0 : ∀ w ∈ u_ws RX0 TX0 9, w ∈ am_T := am_evo 526 (by decide +kernel) (by decide +kernel)
theorem am_inst0 : Cond.instantiable RX0 9 ∈ am_T := am_at 512 (by decide +kernel) (by decide +kernel)
theorem am_ini0 : Cond.initialized RX0 ∈ am_T := am_at 178 (by decide +kernel) (by decide +kernel)
set_option maxRecDepth 100000 in
theorem am_in1 : ∀ w ∈ u_ws RX1 TX1 13, w ∈ am_T := am_evo 753 (by decide +kernel) (by decide +kernel)
theorem am_inst1 : Cond.instantiable RX1 13 ∈ am_T := am_at 730 (by decide +kernel) (by decide +kernel)
theorem am_ini1 : Cond.initialized RX1 ∈ am_T := am_at 183 (by decide +kernel) (by decide +kernel)
set_option maxRecDepth 100000 in
theorem am_in2 : ∀ w ∈ u_ws RX2 TX2 19, w ∈ am_T := am_evo 573 (by decide +kernel) (by decide +kernel)
theorem am_inst2 : Cond.instantiable RX2 19 ∈ am_T := am_at 546 (by decide +kernel) (by decide +kernel)
theorem am_ini2 : Cond.initialized RX2 ∈ am_T := am_at 179 (by decide +kernel) (by decide +kernel)
set_option maxRecDepth 100000 in
theorem am_in3 : ∀ w ∈ u_ws RX3 TX3 18, w ∈ am_T := am_evo 332 (by decide +kernel) (by decide +kernel)
theorem am_inst3 : Cond.instantiable RX3 18 ∈ am_T := am_at 214 (by decide +kernel) (by decide +kernel)
theorem am_ini3 : Cond.initialized RX3 ∈ am_T := am_at 173 (by decide +kernel) (by decide +kernel)
set_option maxRecDepth 100000 in
theorem am_in4 : ∀ w ∈ u_ws RX4 TX4 11, w ∈ am_T := am_evo 672 (by decide +kernel) (by decide +kernel)
theorem am_inst4 : Cond.instantiable RX4 11 ∈ am_T := am_at 656 (by decide +kernel) (by decide +kernel)
theorem am_ini4 : Cond.initialized RX4 ∈ am_T := am_at 181 (by decide +kernel) (by decide +kernel)
set_option maxRecDepth 100000 in
theorem am_in5 : ∀ w ∈ u_ws RX5 TX5 4, w ∈ am_T := am_evo 375 (by decide +kernel) (by decide +kernel)
theorem am_inst5 : Cond.instantiable RX5 4 ∈ am_T := am_at 208 (by decide +kernel) (by decide +kernel)
theorem am_ini5 : Cond.initialized RX5 ∈ am_T := am_at 172 (by decide +kernel) (by decide +kernel)
set_option maxRecDepth 100000 in
theorem am_in6 : ∀ w ∈ u_ws RX6 TX6 6, w ∈ am_T := am_evo 498 (by decide +kernel) (by decide +kernel)
theorem am_inst6 : Cond.instantiable RX6 6 ∈ am_T := am_at 487 (by decide +kernel) (by decide +kernel)
theorem am_ini6 : Cond.initialized RX6 ∈ am_T := am_at 177 (by decide +kernel) (by decide +kernel)
set_option maxRecDepth 100000 in
theorem am_in7 : ∀ w ∈ u_ws RX7 TX7 9, w ∈ am_T := am_evo 710 (by decide +kernel) (by decide +kernel)
theorem am_inst7 : Cond.instantiable RX7 9 ∈ am_T := am_at 696 (by decide +kernel) (by decide +kernel)
theorem am_ini7 : Cond.initialized RX7 ∈ am_T := am_at 182 (by decide +kernel) (by decide +kernel)
set_option maxRecDepth 100000 in
theorem am_in8 : ∀ w ∈ u_ws RX8 TX8 10, w ∈ am_T := am_evo 417 (by decide +kernel) (by decide +kernel)
theorem am_inst8 : Cond.instantiable RX8 10 ∈ am_T := am_at 387 (by decide +kernel) (by decide +kernel)
theorem am_ini8 : Cond.initialized RX8 ∈ am_T := am_at 175 (by decide +kernel) (by decide +kernel)
set_option maxRecDepth 100000 in
theorem am_in9 : ∀ w ∈ u_ws RX9 TX9 12, w ∈ am_T := am_evo 630 (by decide +kernel) (by decide +kernel)
theorem am_inst9 : Cond.instantiable RX9 12 ∈ am_T := am_at 613 (by decide +kernel) (by decide +kernel)
theorem am_ini9 : Cond.initialized RX9 ∈ am_T := am_at 180 (by decide +kernel) (by decide +kernel)
set_option maxRecDepth 100000 in
theorem am_in10 : ∀ w ∈ u_ws RX10 TX10 13, w ∈ am_T := am_evo 458 (by decide +kernel) (by decide +kernel)
theorem am_inst10 : Cond.instantiable RX10 13 ∈ am_T := am_at 440 (by decide +kernel) (by decide +kernel)
theorem am_ini10 : Cond.initialized RX10 ∈ am_T := am_at 176 (by decide +kernel) (by decide +kernel)
set_option maxRecDepth 100000 in
theorem am_in11 : ∀ w ∈ u_ws RX11 TX11 12, w ∈ am_T := am_evo 792 (by decide +kernel) (by decide +kernel)
theorem am_inst11 : Cond.instantiable RX11 12 ∈ am_T := am_at 200 (by decide +kernel) (by decide +kernel)
theorem am_ini11 : Cond.initialized RX11 ∈ am_T := am_at 171 (by decide +kernel) (by decide +kernel)
set_option maxRecDepth 100000 in
theorem am_in12 : ∀ w ∈ u_ws RX12 TX12 122, w ∈ am_T := am_evo 2270 (by decide +kernel) (by decide +kernel)
theorem am_inst12 : Cond.instantiable RX12 122 ∈ am_T := am_at 2139 (by decide +kernel) (by decide +kernel)
theorem am_ini12 : Cond.initialized RX12 ∈ am_T := am_at 184 (by decide +kernel) (by decide +kernel)
theorem am_cls {P : String → u_T → Nat → Prop} (h0 : P RX0 TX0 9) (h1 : P RX1 TX1 13) (h2 : P RX2 TX2 19) (h3 : P RX3 TX3 18) (h4 : P RX4 TX4 11) (h5 : P RX5 TX5 4) (h6 : P RX6 TX6 6) (h7 : P RX7 TX7 9) (h8 : P RX8 TX8 10) (h9 : P RX9 TX9 12) (h10 : P RX10 TX10 13) (h11 : P RX11 TX11 12) (h12 : P RX12 TX12 122) : ∀ {ci : Nat} {Cn : String} {T : u_T} {N : Nat}, vwCl[ci]? = some (Cn, T, N) → P Cn T N := by
  intro ci Cn T N h
  match ci, h with
  | 0, h => cases h; exact h0
  | 1, h => cases h; exact h1
  | 2, h => cases h; exact h2
  | 3, h => cases h; exact h3
  | 4, h => cases h; exact h4
  | 5, h => cases h; exact h5
  | 6, h => cases h; exact h6
  | 7, h => cases h; exact h7
  | 8, h => cases h; exact h8
  | 9, h => cases h; exact h9
  | 10, h => cases h; exact h10
  | 11, h => cases h; exact h11
  | 12, h => cases h; exact h12
  | k + 13, h => simp [vwCl] at h
theorem am_in {ci : Nat} {Cn : String} {T : u_T} {N : Nat} (h : vwCl[ci]? = some (Cn, T, N)) : ∀ w ∈ u_ws Cn T N, w ∈ am_T := am_cls (P := fun Cn T N => ∀ w ∈ u_ws Cn T N, w ∈ am_T) am_in0 am_in1 am_in2 am_in3 am_in4 am_in5 am_in6 am_in7 am_in8 am_in9 am_in10 am_in11 am_in12 h
theorem am_inst {ci : Nat} {Cn : String} {T : u_T} {N : Nat} (h : vwCl[ci]? = some (Cn, T, N)) : Cond.instantiable Cn N ∈ am_T := am_cls (P := fun Cn T N => Cond.instantiable Cn N ∈ am_T) am_inst0 am_inst1 am_inst2 am_inst3 am_inst4 am_inst5 am_inst6 am_inst7 am_inst8 am_inst9 am_inst10 am_inst11 am_inst12 h
theorem am_ini {ci : Nat} {Cn : String} {T : u_T} {N : Nat} (h : vwCl[ci]? = some (Cn, T, N)) : Cond.initialized Cn ∈ am_T := am_cls (P := fun Cn T N => Cond.initialized Cn ∈ am_T) am_ini0 am_ini1 am_ini2 am_ini3 am_ini4 am_ini5 am_ini6 am_ini7 am_ini8 am_ini9 am_ini10 am_ini11 am_ini12 h
theorem am_nm {ci : Nat} {Cn : String} {T : u_T} {N : Nat} (h : vwCl[ci]? = some (Cn, T, N)) : ∀ a, a < N → ∀ b, b < N → a ≠ b → (T a).2.1 ≠ (T b).2.1 := am_cls (P := fun Cn T N => ∀ a, a < N → ∀ b, b < N → a ≠ b → (T a).2.1 ≠ (T b).2.1) nmX0 nmX1 nmX2 nmX3 nmX4 nmX5 nmX6 nmX7 nmX8 nmX9 nmX10 nmX11 nmX12 h
theorem am_tyq {T : u_T} {N : Nat} {ty : Nat → FieldType} (h : ∀ k, k < N → parseFieldDescriptor (T k).2.2.1 = some (ty k)) : ∀ k, k < N → parseFieldDescriptor (T k).2.2.1 = some (am_t T k) := fun k hk => by rw [h k hk, am_t, h k hk]; rfl
theorem am_ty {ci : Nat} {Cn : String} {T : u_T} {N : Nat} (h : vwCl[ci]? = some (Cn, T, N)) : ∀ k, k < N → parseFieldDescriptor (T k).2.2.1 = some (am_t T k) := am_cls (P := fun Cn T N => ∀ k, k < N → parseFieldDescriptor (T k).2.2.1 = some (am_t T k)) (am_tyq tyX0_ok) (am_tyq tyX1_ok) (am_tyq tyX2_ok) (am_tyq tyX3_ok) (am_tyq tyX4_ok) (am_tyq tyX5_ok) (am_tyq tyX6_ok) (am_tyq tyX7_ok) (am_tyq tyX8_ok) (am_tyq tyX9_ok) (am_tyq tyX10_ok) (am_tyq tyX11_ok) (am_tyq tyX12_ok) h
theorem am_arr_int : Cond.arrayClass (newarray.typeOf .int) ∈ am_T := am_at 369 (by decide +kernel) (by decide +kernel)
theorem am_arr_long : Cond.arrayClass (newarray.typeOf .long) ∈ am_T := am_at 485 (by decide +kernel) (by decide +kernel)
theorem am_arr_char : Cond.arrayClass (newarray.typeOf .char) ∈ am_T := am_at 438 (by decide +kernel) (by decide +kernel)
theorem am_arr_boolean : Cond.arrayClass (newarray.typeOf .boolean) ∈ am_T := am_at 2515 (by decide +kernel) (by decide +kernel)
theorem am_obj1 : Cond.instanceMethod objectInit ∈ am_T := am_at 205 (by decide +kernel) (by decide +kernel)
theorem am_obj2 : Cond.code objectInit ⟨#[0xb1]⟩ 1 none ∈ am_T := am_at 206 (by decide +kernel) (by decide +kernel)
theorem am_cp1 : Cond.native arraycopyName ∈ am_T := am_at 839 (by decide +kernel) (by decide +kernel)
theorem am_cp2 : Cond.static arraycopyName ∈ am_T := am_at 838 (by decide +kernel) (by decide +kernel)
theorem am_cp3 : Cond.initialized "java/lang/System" ∈ am_T := am_at 191 (by decide +kernel) (by decide +kernel)
set_option maxRecDepth 100000 in
theorem am_ir : lw_tbl.all (fun w => match w with | .code y _ _ r => !(y.name == "<init>") || r.isNone | _ => true) = true := by decide +kernel
theorem am_initret {y : MethodName} {bytes : ByteArray} {maxL : Nat} {ret : Option FieldType} (hy : y.name = "<init>") (w : Cond.code y bytes maxL ret ∈ am_T) : ret = none := by
  have h := List.all_eq_true.mp am_ir _ (am_tbl w)
  simpa [hy] using h
theorem am_newV (T : u_T) (N : Nat) : ∀ j, j < N → defaultValue (am_t T j) = vp_V (am_new T N) j := by
  intro j hj
  simp [am_new, vp_V, List.getD, hj]
theorem am_freshD {A : Nat → Prop} {ws : va_W} {q : Nat} {e : va_E} (hD : va_D A (ws ++ [(q, e)])) : am_fresh q ws := by
  intro k e2 hk
  have hlt : k < ws.length := (List.getElem?_eq_some_iff.mp hk).1
  have h := hD.1 k ws.length (q, e2) (q, e) (by rw [List.getElem?_append_left hlt]; exact hk) (by simp) rfl
  omega
def am_rm (d mc ms : Nat) : Room := { frames := d, cells := mc, slots := ms, locals := 64 * d }
abbrev am_IA : String := "java/lang/IllegalArgumentException"
abbrev am_IS : String := "java/lang/IllegalStateException"
/-- what the tables say that isn't kept by every word's own law: nest mates' links, castable classes, the two exceptions apart -/
def am_nest (U : State) : Prop := (∀ own i y host, Cond.methodLinkNest own i y host ∈ lw_tbl → va_Nw (.methodLinkNest own i y host) U) ∧ (∀ C T, Cond.castable C T ∈ lw_tbl → va_Nw (.castable C T) U) ∧ va_Nc am_IS am_IA U ∧ (∀ x, Cond.declares x ∈ lw_tbl → va_Nw (.declares x) U)
theorem am_nest.same {u U : State} (h : u.vm = U.vm) (q : am_nest u) : am_nest U := ⟨fun own i y host hw => va_Nw.same rfl h (q.1 own i y host hw), fun C T hw => va_Nw.same rfl h (q.2.1 C T hw), va_Nc.moved (by rw [h]; exact Vm.Alike.refl _) q.2.2.1, fun x hw => va_Nw.same rfl h (q.2.2.2 x hw)⟩
theorem am_nest.warm {s U : State} (hW : s.WarmedH U.vm) (q : am_nest s) : am_nest U := ⟨fun own i y host hw => va_Nw.warmM hW (q.1 own i y host hw), fun C T hw => va_Nw.warmC hW (q.2.1 C T hw), va_Nc.moved hW.alike q.2.2.1, fun x hw => va_Nw.warmD hW (q.2.2.2 x hw)⟩
/-- words that aren't good, but of the three sorts that am_nest keeps -/
def am_nn : Cond → Bool
  | .castable _ _ => true
  | .declares _ => true
  | _ => false
theorem am_nest.word {U : State} (q : am_nest U) {w : Cond} (hn : am_nn w = true) (hw : w ∈ lw_tbl) (a : Array Value) : w.before a U = true := by
  cases w with
  | castable C T => exact va_Nw.use rfl (q.2.1 C T hw)
  | declares x => exact va_Nw.use rfl (q.2.2.2 x hw)
  | _ => simp [am_nn] at hn
def am_Q (D : va_G) (Z : AmZ) (A : Nat → Prop) (post : AmR) : Array Value → State → Outcome → State → Prop := fun _ st oc t => (∃ v u, oc = .returned v ∧ post v u ∧ va_P D vwCl u t.heap ∧ va_K D vwCl (am_tys Z) t ∧ va_D A u) ∧ va_F A st t
def am_X (D : va_G) (Z : AmZ) (A : Nat → Prop) (xp : AmX) : String → State → State → Prop := fun E st t => ∃ u, xp E u ∧ va_P D vwCl u t.heap ∧ va_K D vwCl (am_tys Z) t ∧ va_D A u ∧ va_F A st t
/-- what lies there from the beginning: a static of Throwable, the String constants, two statics of the JDK -/
def am_N (Z : AmZ) (A : Nat → Prop) (U : State) (H : Heap) : Prop := vx_Zq Bundle.tN "SUPPRESSED_SENTINEL" Bundle.listD A U H ∧ vk_S 7 am_len am_byt Z.2.2.2.2.1 Z.2.2.2.2.2 A U H ∧ (∀ (k : Nat) (own : String) (i : Nat) (tx : String), am_lit[k]? = some (own, i, tx) → vk_R own i tx (zs Z k) U) ∧ va_Z am_js "COMPACT_STRINGS" "Z" (.int 1) A U H ∧ va_Zq "jdk/internal/util/Preconditions" "SIOOBE_FORMATTER" "Ljava/util/function/BiFunction;" A U H
theorem am_N.same {Z : AmZ} {A : Nat → Prop} {u U : State} {H : Heap} (h : u.vm = U.vm) (q : am_N Z A u H) : am_N Z A U H :=
  have ha : u.vm.Alike U.vm := by rw [h]; exact Vm.Alike.refl _
  ⟨vx_Zq.moved ha q.1, vk_S.moved ha q.2.1, fun k own i tx e => vk_R.same h.symm (q.2.2.1 k own i tx e), va_Z.moved ha q.2.2.2.1, va_Zq.moved ha q.2.2.2.2⟩
theorem am_N.warm {Z : AmZ} {A : Nat → Prop} {s U : State} {H : Heap} (hW : s.WarmedH U.vm) (q : am_N Z A s H) : am_N Z A U H :=
  ⟨vx_Zq.moved hW.alike q.1, vk_S.moved hW.alike q.2.1, fun k own i tx e => vk_R.warm hW (q.2.2.1 k own i tx e), va_Z.moved hW.alike q.2.2.2.1, va_Zq.moved hW.alike q.2.2.2.2⟩
theorem am_N.kept {Z : AmZ} {A : Nat → Prop} {U : State} {H H1 : Heap} (q : am_N Z A U H) (hq : ∀ a : Nat, a < H.size → ¬ A a → H1[a]? = H[a]?) : am_N Z A U H1 := ⟨q.1.kept hq, q.2.1.kept hq, q.2.2.1, q.2.2.2.1.kept hq, q.2.2.2.2.kept hq⟩
theorem am_N.narrow {Z : AmZ} {A B : Nat → Prop} {U : State} {H : Heap} (q : am_N Z A U H) (hAB : ∀ q, B q → A q) : am_N Z B U H := ⟨q.1.narrow hAB, q.2.1.narrow hAB, q.2.2.1, q.2.2.2.1.narrow hAB, q.2.2.2.2.narrow hAB⟩
def am_Pre (D : va_G) (Z : AmZ) (as : List Value) (ws : va_W) (sz : Nat) : Array Value → State → Prop := va_Pc as (fun U => U.heap.size = sz ∧ va_P D vwCl ws U.heap ∧ va_K D vwCl (am_tys Z) U ∧ va_D (fun _ => True) ws ∧ am_nest U ∧ vx_Zq Bundle.tN "UNASSIGNED_STACK" Bundle.steD (va_A ws sz) U U.heap ∧ am_N Z (va_A ws sz) U U.heap)
/-- a method's contract, of a world ws and arguments as: it returns with post, or throws with xp -/
def am_Met (l : Launch) (D : va_G) (Z : AmZ) (d : Nat) (y : MethodName) (as : List Value) (ws : va_W) (mc ms : Nat) (post : AmR) (xp : AmX) : Prop :=
  ∃ bytes maxL ret, Cond.code y bytes maxL ret ∈ am_T ∧ maxL ≤ 45 ∧ ∀ sz, vx_Met l y (Cond.code y bytes maxL ret :: am_T) (am_rm d mc ms) (am_Pre D Z as ws sz) (am_Q D Z (va_A ws sz) post) (am_X D Z (va_A ws sz) xp) mc ms (va_A ws sz)
/-- the same of a method with a table of handlers, which lets nothing out -/
def am_MetW (l : Launch) (D : va_G) (Z : AmZ) (d : Nat) (y : MethodName) (as : List Value) (ws : va_W) (mc ms : Nat) (post : AmR) (_ : AmX) : Prop :=
  ∃ bytes maxL ret hh, Cond.codeWith y bytes maxL ret hh ∈ am_T ∧ maxL ≤ 45 ∧ ∀ sz, vx_Met l y (Cond.codeWith y bytes maxL ret hh :: am_T) (am_rm d mc ms) (am_Pre D Z as ws sz) (am_Q D Z (va_A ws sz) post) (am_X D Z (va_A ws sz) (fun _ _ => False)) mc ms (va_A ws sz)
theorem am_goodIn {w0 : Cond} (h0 : w0 ∈ am_T) : GoodIn am_T (w0 :: am_T) := fun w hw => by
  have hm : w ∈ am_T := by
    rcases List.mem_cons.mp hw with h | h
    · rw [h]; exact h0
    · exact h
  exact ⟨hm, good_of_word (am_good hm)⟩
theorem am_blind {D : va_G} {Z : AmZ} {as : List Value} {ws : va_W} {sz : Nat} : FrameBlind (am_Pre D Z as ws sz) := by
  intro a U g mk q
  obtain ⟨q0, q1, qP, qK, qD, qN, q2, q3⟩ := q
  exact ⟨q0, q1, qP, va_K.moved (u := U) (U := U.calling g mk a) (Vm.Alike.refl U.vm) qK, qD, am_nest.same (rfl : U.vm = (U.calling g mk a).vm) qN, vx_Zq.moved (u := U) (U := U.calling g mk a) (Vm.Alike.refl U.vm) q2, am_N.same (rfl : U.vm = (U.calling g mk a).vm) q3⟩
theorem am_noX {l : Launch} {D : va_G} {Z : AmZ} {A : Nat → Prop} {y : MethodName} {ws : List Cond} {rm : Room} {Pc : Array Value → State → Prop} {Qc : Array Value → State → Outcome → State → Prop} {mc ms : Nat} {free : Addr → Prop} (h : vx_Met l y ws rm Pc Qc (am_X D Z A (fun _ _ => False)) mc ms free) : Met l y ws rm Pc Qc mc ms free := by
  intro p e h1 h2 h3 s m args below h4 h5 h6 h7
  obtain ⟨n, o, a1, a2, a3, a4⟩ := h p e h1 h2 h3 s m args below h4 h5 h6 h7
  refine ⟨n, o, a1, a2, a3, ?_⟩
  rcases a4 with a4 | ⟨q, -, E, ce, L, ⟨u, hf, -⟩, -⟩
  · exact a4
  · exact hf.elim
section AM
variable {p : Program} {l : Launch} {e : Env} {R : Room} {s : State} {m : MethodId} {args : Array Value} {below : List Frame} {meth : Method} {c : Code} {D : va_G} {Z : AmZ} {own : String} {cc : ByteArray} {nL d mc ms : Nat} {rt : Option FieldType} {ini : Bool} {call : AmC} {callW : AmC} {xh : AmH} {scr : AmS} {K : AmK} {ret : AmR} {xp : AmX} {A : Nat → Prop} {Q : State → Prop}
theorem am_sameA_int {cA : ClassId} (hK1 : va_K D vwCl (am_tys Z ++ [(cA, .int)]) s) : cA = Z.1 := by
  have h1 : s.vm.findClass ("[" ++ FieldType.int.toString) = some Z.1 := (hK1.2 0 _ rfl).2
  have h2 : s.vm.findClass ("[" ++ FieldType.int.toString) = some cA := (hK1.2 4 _ rfl).2
  exact Option.some.inj (h2.symm.trans h1)
theorem am_sameA_long {cA : ClassId} (hK1 : va_K D vwCl (am_tys Z ++ [(cA, .long)]) s) : cA = Z.2.1 := by
  have h1 : s.vm.findClass ("[" ++ FieldType.long.toString) = some Z.2.1 := (hK1.2 1 _ rfl).2
  have h2 : s.vm.findClass ("[" ++ FieldType.long.toString) = some cA := (hK1.2 4 _ rfl).2
  exact Option.some.inj (h2.symm.trans h1)
theorem am_sameA_char {cA : ClassId} (hK1 : va_K D vwCl (am_tys Z ++ [(cA, .char)]) s) : cA = Z.2.2.1 := by
  have h1 : s.vm.findClass ("[" ++ FieldType.char.toString) = some Z.2.2.1 := (hK1.2 2 _ rfl).2
  have h2 : s.vm.findClass ("[" ++ FieldType.char.toString) = some cA := (hK1.2 4 _ rfl).2
  exact Option.some.inj (h2.symm.trans h1)
theorem am_sameA_boolean {cA : ClassId} (hK1 : va_K D vwCl (am_tys Z ++ [(cA, .boolean)]) s) : cA = Z.2.2.2.1 := by
  have h1 : s.vm.findClass ("[" ++ FieldType.boolean.toString) = some Z.2.2.2.1 := (hK1.2 3 _ rfl).2
  have h2 : s.vm.findClass ("[" ++ FieldType.boolean.toString) = some cA := (hK1.2 4 _ rfl).2
  exact Option.some.inj (h2.symm.trans h1)
theorem am_free {H0 H : Heap} {locs : List Loc} {ws : va_W} (hD : va_D A ws) (hS : va_S A H0 H locs) (hA : ∀ q, H0.size ≤ q → A q) : ∀ q, va_A ws H.size q → A q := by
  intro q h
  rcases h with ⟨k, e, h⟩ | h
  · exact hD.2 k (q, e) h
  · exact hA q (Nat.le_trans hS.1 h)
theorem am_cb {y : MethodName} {bytes : ByteArray} {maxL i kc ks n : Nat} {ret1 : Option FieldType} (hts : ∀ w ∈ am_T, w.before args s = true) (w5 : Cond.code y bytes maxL ret1 ∈ am_T) (w4 : Cond.initialized y.cls ∈ am_T) (w1 : Cond.methodLink own i y ∈ am_T) (hpl : am_plain y n) (hmL : maxL ≤ 45) (hRf : d + 1 ≤ R.frames) (hRl : 64 * (d + 1) ≤ R.locals) : CallB R s args own i y bytes maxL ret1 (Cond.code y bytes maxL ret1 :: am_T) (am_rm d kc ks) kc ks n := by
  exact callB_of n hts (am_goodIn w5) rfl rfl rfl (hts _ w4) (hts _ w1) hpl ⟨hRf, by simp only [am_rm]; omega⟩
theorem am_cn {y : MethodName} {bytes : ByteArray} {maxL i kc ks n : Nat} {host : String} {ret1 : Option FieldType} (hts : ∀ w ∈ am_T, w.before args s = true) (w5 : Cond.code y bytes maxL ret1 ∈ am_T) (w4 : Cond.initialized y.cls ∈ am_T) (w1 : va_Nw (.methodLinkNest own i y host) s) (hpl : am_plain y n) (hmL : maxL ≤ 45) (hRf : d + 1 ≤ R.frames) (hRl : 64 * (d + 1) ≤ R.locals) : va_CN R s args own i y host bytes maxL ret1 (Cond.code y bytes maxL ret1 :: am_T) (am_rm d kc ks) kc ks n := by
  exact va_cnB n hts (am_goodIn w5) rfl rfl rfl w1 (hts _ w4) hpl ⟨hRf, by simp only [am_rm]; omega⟩
theorem am_csw {y : MethodName} {bytes : ByteArray} {maxL i kc ks n : Nat} {ret1 : Option FieldType} {hh : List (Nat × Nat × Nat × Nat)} (hts : ∀ w ∈ am_T, w.before args s = true) (w5 : Cond.codeWith y bytes maxL ret1 hh ∈ am_T) (w4 : Cond.initialized y.cls ∈ am_T) (w1 : Cond.methodLink own i y ∈ am_T) (w2 : Cond.static y ∈ am_T) (hpl : am_plain y n) (hmL : maxL ≤ 45) (hRf : d + 1 ≤ R.frames) (hRl : 64 * (d + 1) ≤ R.locals) : vx_CSW R s args own i y bytes maxL ret1 hh (Cond.codeWith y bytes maxL ret1 hh :: am_T) (am_rm d kc ks) kc ks n := by
  refine vx_cwSW n hts (fun w hw => ?_) rfl rfl rfl hpl ⟨hRf, by simp only [am_rm]; omega⟩
  have hm : w ∈ am_T := by
    simp only [va_wsS, List.cons_append, List.nil_append, List.mem_cons] at hw
    rcases hw with rfl | rfl | rfl | rfl | hw
    · exact w1
    · exact w2
    · exact w4
    · exact w5
    · exact hw
  exact ⟨hm, good_of_word (am_good hm)⟩
theorem am_pre {H : Heap} {locs : List Loc} {ws : va_W} {as : List Value} (hKn : va_K D vwCl (am_tys Z) s) (hP : va_P D vwCl ws H) (hD : va_D A ws) (hS : va_S A s.heap H locs) (hA : ∀ q, s.heap.size ≤ q → A q) (hnest : am_nest s) (hU : vx_Zq Bundle.tN "UNASSIGNED_STACK" Bundle.steD A s s.heap) (hN : am_N Z A s s.heap) : ∀ U : State, U.heap = H → s.WarmedH U.vm → am_Pre D Z as ws H.size as.toArray U := by
  intro U hH hW
  have hF := am_free hD hS hA
  refine ⟨rfl, by rw [hH], by rw [hH]; exact hP, va_K.moved hW.alike hKn, hD.weaken (fun _ _ _ _ => trivial), hnest.warm hW, ?_, ?_⟩
  · rw [hH]
    exact ((vx_Zq.moved hW.alike hU).kept (fun a h1 h2 => hS.2.1 a h1 h2)).narrow hF
  · rw [hH]
    exact ((am_N.warm hW hN).kept (fun a h1 h2 => hS.2.1 a h1 h2)).narrow hF
theorem am_back {H : Heap} {locs : List Loc} {cells slots kc ks pc : Nat} {ls : Array Slot} {st0 rest : List Value} {ws : va_W} {post1 : AmR} {a : Array Value} (hA : ∀ q, s.heap.size ≤ q → A q) (hD : va_D A ws) (hS : va_S A s.heap H locs)
    (hr : vx_Run p l e R s m args below meth c H locs cells slots kc ks (F0 m pc ls st0) rest (am_Q D Z (va_A ws H.size) post1 a) (am_X D Z (va_A ws H.size) xp) (va_A ws H.size))
    (kx : ∀ q E ce u H1 locs1, xp E u → va_P D vwCl u H1 → va_D A u → va_S A s.heap H1 locs1 → H1[q]? = some ce → ce.vm = .none → s.vm.findClass E = some ce.cls → vx_W p l e R s m args below meth c H1 locs1 (cells + kc) (slots + ks) Q (F0 m pc ls rest) q)
    (kk : ∀ v u H1 locs1, post1 v u → va_P D vwCl u H1 → va_D A u → va_S A s.heap H1 locs1 → W p l e R s m args below meth c H1 locs1 (cells + kc) (slots + ks) Q (F0 m (pc + 3) ls (v.toList ++ rest))) :
    W p l e R s m args below meth c H locs cells slots Q (F0 m pc ls st0) := by
  have hF := am_free hD hS hA
  intro T hT X
  rcases hr T hT X with ⟨v, st₀, t, T', L, h0, X', hL, e1, e2, ⟨⟨v2, u, hv, hp, hP1, hK1, hD1⟩, hFr⟩, st⟩ | ⟨q, st₀, t, T', L, E, ce, h0, X', hL, e1, e2, ⟨u, hp, hP1, hK1, hD1, hFr⟩, hce, hcv, hcl, st⟩
  · cases hv
    obtain ⟨k1, k2, k3⟩ := vx_keep h0 e1 hS (fun q _ h => hF q h) hF hL hFr
    obtain ⟨t2, a1, b1⟩ := kk v u T'.heap (locs ++ L) hp (by rw [e1]; exact hP1) (hD1.weaken (fun _ q _ h => hF q.1 h)) k3 T' rfl X'
    exact ⟨t2, st t2 a1, b1⟩
  · obtain ⟨k1, k2, k3⟩ := vx_keep h0 e1 hS (fun q _ h => hF q h) hF hL hFr
    obtain ⟨t2, a1, b1⟩ := kx q E ce u T'.heap (locs ++ L) hp (by rw [e1]; exact hP1) (hD1.weaken (fun _ q _ h => hF q.1 h)) k3 (by rw [e1]; exact hce) hcv hcl T' rfl X'
    exact ⟨t2, st.trans a1, b1⟩
theorem am_backN {H : Heap} {locs : List Loc} {cells slots kc ks pc : Nat} {ls : Array Slot} {st0 rest : List Value} {ws : va_W} {post1 : AmR} {a : Array Value} (hA : ∀ q, s.heap.size ≤ q → A q) (hD : va_D A ws) (hS : va_S A s.heap H locs)
    (hr : va_Run p l e R s m args below meth c H locs cells slots kc ks (F0 m pc ls st0) rest (am_Q D Z (va_A ws H.size) post1 a) (va_A ws H.size))
    (kk : ∀ v u H1 locs1, post1 v u → va_P D vwCl u H1 → va_D A u → va_S A s.heap H1 locs1 → W p l e R s m args below meth c H1 locs1 (cells + kc) (slots + ks) Q (F0 m (pc + 3) ls (v.toList ++ rest))) :
    W p l e R s m args below meth c H locs cells slots Q (F0 m pc ls st0) := by
  have hF := am_free hD hS hA
  intro T hT X
  obtain ⟨v, st₀, t, T', L, h0, X', hL, e1, e2, ⟨⟨v2, u, hv, hp, hP1, hK1, hD1⟩, hFr⟩, st⟩ := hr T hT X
  cases hv
  obtain ⟨k1, k2, k3⟩ := vx_keep h0 e1 hS (fun q _ h => hF q h) hF hL hFr
  obtain ⟨t2, a1, b1⟩ := kk v u T'.heap (locs ++ L) hp (by rw [e1]; exact hP1) (hD1.weaken (fun _ q _ h => hF q.1 h)) k3 T' rfl X'
  exact ⟨t2, st t2 a1, b1⟩
theorem am_copy {H : Heap} {locs : List Loc} {cells slots pc i : Nat} {ls : Array Slot} {st : List Value} {ws : va_W} {k : List Value → va_W → Prop} (hx : p.tables.exec = Jvm.exec) (hb : c.code = cc) (hml : c.maxLocals = ls.size) (hown : s.vm.findClass own = some m.cls) (hts : ∀ w ∈ am_T, w.before args s = true) (hKn : va_K D vwCl (am_tys Z) s) (hP : va_P D vwCl ws H) (hD : va_D A ws) (hS : va_S A s.heap H locs) (hRf : d + 1 ≤ R.frames) (hRl : 64 * (d + 1) ≤ R.locals)
    (kk : ∀ r u H1 locs1, k r u → va_P D vwCl u H1 → va_D A u → va_S A s.heap H1 locs1 → W p l e R s m args below meth c H1 locs1 cells slots Q (F0 m (pc + 3) ls r)) (hd : decode cc pc = .ok (.invokestatic i, 3)) (h : am_arraycopy Z own i k st ws) : W p l e R s m args below meth c H locs cells slots Q (F0 m pc ls st) := by
  obtain ⟨n, dp, a, sp, a0, r, q0, q1, n0, n1, rfl, w1, hcat, h1, h2, h3, h4, h5, h⟩ := h
  have hf : 1 ≤ R.frames := by omega
  have hlo : (r.map fun v => v.category).sum + (nativeFrameWords "java/lang/System" "arraycopy" 5 + 11) ≤ R.locals := by
    rw [show nativeFrameWords "java/lang/System" "arraycopy" 5 = 7 by decide +kernel]
    omega
  rcases h with ⟨f, g, ha0, ha1, h⟩ | ⟨f, g, ha0, ha1, h⟩
  · exact va_copyi hx hb hml hown (hts _ w1) (hts _ am_cp1) (hts _ am_cp2) (hts _ am_cp3) hKn hP hD hS q0 q1 0 0 ha0 ha1 rfl rfl rfl h1 h2 h3 h4 h5 (fun _ _ => rfl) hf hlo hd (fun H1 locs1 hP1 hD1 hS1 => kk r _ H1 locs1 h hP1 hD1 hS1)
  · exact va_copyl hx hb hml hown (hts _ w1) (hts _ am_cp1) (hts _ am_cp2) (hts _ am_cp3) hKn hP hD hS q0 q1 1 1 ha0 ha1 rfl rfl rfl h1 h2 h3 h4 h5 (fun _ _ => rfl) hf hlo hd (fun H1 locs1 hP1 hD1 hS1 => kk r _ H1 locs1 h hP1 hD1 hS1)

theorem am_one (hKn : va_K D vwCl (am_tys Z) s) (hx : p.tables.exec = Jvm.exec) (hb : c.code = cc) (hml : c.maxLocals = nL) (hown : s.vm.findClass own = some m.cls) (hts : ∀ w ∈ am_T, w.before args s = true) (hnest : am_nest s) (hini : ini = true → meth.name = "<init>") (hA : ∀ q, s.heap.size ≤ q → A q) (hscr : ∀ b L xs, scr = some (b, L, xs) → va_X b L xs s s.heap ∧ b < s.heap.size ∧ ¬ A b)
    (hU : vx_Zq Bundle.tN "UNASSIGNED_STACK" Bundle.steD A s s.heap) (hN : am_N Z A s s.heap) (hRc : R.cells = mc) (hRs : R.slots = ms) (hRf : d + 1 ≤ R.frames) (hRl : 64 * (d + 1) ≤ R.locals) (hcall : ∀ y as ws kc ks post xp, call y as ws kc ks post xp → am_Met l D Z d y as ws kc ks post xp) (hcallW : ∀ y as ws kc ks post xp, callW y as ws kc ks post xp → am_MetW l D Z d y as ws kc ks post xp)
    (hend : ∀ pc ls st ws H locs cells slots, am_end cc rt ret pc st ws → va_P D vwCl ws H → va_D A ws → va_S A s.heap H locs → cells ≤ mc → slots ≤ ms → W p l e R s m args below meth c H locs cells slots Q (F0 m pc ls st))
    (hthr : ∀ pc lv ls rest q E ce u H1 locs1 cells slots C S, xh K pc lv C S E u → lv_has ls nL lv → va_P D vwCl u H1 → va_D A u → va_S A s.heap H1 locs1 → H1[q]? = some ce → ce.vm = .none → s.vm.findClass E = some ce.cls → cells + C ≤ mc → slots + S ≤ ms → vx_W p l e R s m args below meth c H1 locs1 cells slots Q (F0 m pc ls rest) q)
    (KK : ∀ pc lv st ws C S, K pc lv st ws C S → ∀ H locs cells slots ls, lv_has ls nL lv → va_P D vwCl ws H → va_D A ws → va_S A s.heap H locs → cells + C ≤ mc → slots + S ≤ ms → W p l e R s m args below meth c H locs cells slots Q (F0 m pc ls st))
    {pc : Nat} {lv : List (Nat × Value)} {st : List Value} {ws : va_W} {C S : Nat} (h : am_stp Z scr own cc nL rt ini call callW xh ret K pc lv st ws C S) {H : Heap} {locs : List Loc} {cells slots : Nat} {ls : Array Slot} (hl : lv_has ls nL lv) (hP : va_P D vwCl ws H) (hD : va_D A ws) (hS : va_S A s.heap H locs) (hc : cells + C ≤ mc) (hs : slots + S ≤ ms) :
    W p l e R s m args below meth c H locs cells slots Q (F0 m pc ls st) := by
  unfold am_stp at h
  split at h
  · rename_i hd
    exact lv_iconst hx hb hd rfl (KK _ _ _ _ _ _ h _ _ _ _ _ hl hP hD hS hc hs)
  · rename_i hd
    exact lv_bipush hx hb hd rfl (KK _ _ _ _ _ _ h _ _ _ _ _ hl hP hD hS hc hs)
  · rename_i hd
    exact lv_sipush hx hb hd rfl (KK _ _ _ _ _ _ h _ _ _ _ _ hl hP hD hS hc hs)
  · rename_i hd
    exact lv_lconst hx hb hd rfl (KK _ _ _ _ _ _ h _ _ _ _ _ hl hP hD hS hc hs)
  · rename_i hd
    rcases h with ⟨v, hw, h⟩ | ⟨k, tx, e1, h⟩
    · exact lv_ldc hx hb hown (hts _ hw) hd (KK _ _ _ _ _ _ h _ _ _ _ _ hl hP hD hS hc hs)
    · exact va_ldcS hx hb hown (hN.2.2.1 _ _ _ _ e1) hd (KK _ _ _ _ _ _ h _ _ _ _ _ hl hP hD hS hc hs)
  · rename_i hd
    obtain ⟨x, r, rfl, h⟩ := h; exact lv_i2b hx hb hd rfl (KK _ _ _ _ _ _ h _ _ _ _ _ hl hP hD hS hc hs)
  · rename_i hd
    rcases h with ⟨hw, h⟩ | ⟨hw, h⟩
    · exact va_gets hx hb hN.2.2.2.1 hS hown (hts _ hw) (fun _ z => z) hd (KK _ _ _ _ _ _ h _ _ _ _ _ hl hP hD hS hc hs)
    · rcases hN.2.2.2.2 with hZ | ⟨t9, hZ⟩
      · exact va_gets hx hb hZ hS hown (hts _ hw) (fun _ z => z) hd (KK _ _ _ _ _ _ (h _ rfl) _ _ _ _ _ hl hP hD hS hc hs)
      · exact va_gets hx hb hZ hS hown (hts _ hw) (fun _ z => z) hd (KK _ _ _ _ _ _ (h _ rfl) _ _ _ _ _ hl hP hD hS hc hs)
  · rename_i hd
    obtain ⟨v, hw, h⟩ := h; exact lv_ldcw hx hb hown (hts _ hw) hd (KK _ _ _ _ _ _ h _ _ _ _ _ hl hP hD hS hc hs)
  · rename_i hd
    obtain ⟨v, hw, h⟩ := h; exact lv_ldc2 hx hb hown (hts _ hw) hd (KK _ _ _ _ _ _ h _ _ _ _ _ hl hP hD hS hc hs)
  · rename_i hd
    obtain ⟨x, hm, h⟩ := h; exact lv_iload hx hb hd (hl.2.2 _ hm) (KK _ _ _ _ _ _ h _ _ _ _ _ hl hP hD hS hc hs)
  · rename_i hd
    obtain ⟨x, hm, h⟩ := h; exact lv_iload_n hx hb hd rfl (hl.2.2 _ hm) (KK _ _ _ _ _ _ h _ _ _ _ _ hl hP hD hS hc hs)
  · rename_i hd
    obtain ⟨x, r, rfl, hn, h⟩ := h; exact lv_istore hx hb hd hl hn rfl (fun ls' hl' => KK _ _ _ _ _ _ h _ _ _ _ _ hl' hP hD hS hc hs)
  · rename_i hd
    obtain ⟨x, r, rfl, hn, h⟩ := h; exact lv_istore_n hx hb hd rfl hl hn rfl (fun ls' hl' => KK _ _ _ _ _ _ h _ _ _ _ _ hl' hP hD hS hc hs)
  · rename_i hd
    obtain ⟨x, hm, h⟩ := h; exact lv_lload hx hb hd (hl.2.2 _ hm) (KK _ _ _ _ _ _ h _ _ _ _ _ hl hP hD hS hc hs)
  · rename_i hd
    obtain ⟨x, hm, h⟩ := h; exact lv_lload_n hx hb hd rfl (hl.2.2 _ hm) (KK _ _ _ _ _ _ h _ _ _ _ _ hl hP hD hS hc hs)
  · rename_i hd
    obtain ⟨x, r, rfl, hn, h⟩ := h; exact lv_lstore hx hb hd hl hn rfl (fun ls' hl' => KK _ _ _ _ _ _ h _ _ _ _ _ hl' hP hD hS hc hs)
  · rename_i hd
    obtain ⟨x, r, rfl, hn, h⟩ := h; exact lv_lstore_n hx hb hd rfl hl hn rfl (fun ls' hl' => KK _ _ _ _ _ _ h _ _ _ _ _ hl' hP hD hS hc hs)
  · rename_i hd
    obtain ⟨x, hm, h⟩ := h; exact lv_aload hx hb hd (hl.2.2 _ hm) (KK _ _ _ _ _ _ h _ _ _ _ _ hl hP hD hS hc hs)
  · rename_i hd
    obtain ⟨x, hm, h⟩ := h; exact lv_aload_n hx hb hd rfl (hl.2.2 _ hm) (KK _ _ _ _ _ _ h _ _ _ _ _ hl hP hD hS hc hs)
  · rename_i hd
    obtain ⟨x, r, rfl, hn, h⟩ := h; exact lv_astore hx hb hd hl hn rfl (fun ls' hl' => KK _ _ _ _ _ _ h _ _ _ _ _ hl' hP hD hS hc hs)
  · rename_i hd
    obtain ⟨x, r, rfl, hn, h⟩ := h; exact lv_astore_n hx hb hd rfl hl hn rfl (fun ls' hl' => KK _ _ _ _ _ _ h _ _ _ _ _ hl' hP hD hS hc hs)
  · rename_i hd
    obtain ⟨x, hm, hn, h⟩ := h; obtain ⟨k, hk⟩ := List.getElem?_of_mem hm; exact lv_iinc hx hb hd hl hk rfl hn rfl (fun ls' hl' => KK _ _ _ _ _ _ h _ _ _ _ _ hl' hP hD hS hc hs)
  · rename_i hd
    obtain ⟨x, y, r, rfl, h⟩ := h; exact lv_iadd hx hb hd (KK _ _ _ _ _ _ h _ _ _ _ _ hl hP hD hS hc hs)
  · rename_i hd
    obtain ⟨x, y, r, rfl, h⟩ := h; exact lv_isub hx hb hd (KK _ _ _ _ _ _ h _ _ _ _ _ hl hP hD hS hc hs)
  · rename_i hd
    obtain ⟨x, y, r, rfl, h⟩ := h; exact lv_imul hx hb hd (KK _ _ _ _ _ _ h _ _ _ _ _ hl hP hD hS hc hs)
  · rename_i hd
    obtain ⟨x, y, r, rfl, h⟩ := h; exact lv_iand hx hb hd (KK _ _ _ _ _ _ h _ _ _ _ _ hl hP hD hS hc hs)
  · rename_i hd
    obtain ⟨x, y, r, rfl, h⟩ := h; exact lv_ior hx hb hd (KK _ _ _ _ _ _ h _ _ _ _ _ hl hP hD hS hc hs)
  · rename_i hd
    obtain ⟨x, y, r, rfl, h⟩ := h; exact lv_ixor hx hb hd (KK _ _ _ _ _ _ h _ _ _ _ _ hl hP hD hS hc hs)
  · rename_i hd
    obtain ⟨x, y, r, rfl, h⟩ := h; exact lv_ishl hx hb hd (KK _ _ _ _ _ _ h _ _ _ _ _ hl hP hD hS hc hs)
  · rename_i hd
    obtain ⟨x, y, r, rfl, h⟩ := h; exact lv_ishr hx hb hd (KK _ _ _ _ _ _ h _ _ _ _ _ hl hP hD hS hc hs)
  · rename_i hd
    obtain ⟨x, y, r, rfl, h⟩ := h; exact lv_iushr hx hb hd rfl (KK _ _ _ _ _ _ h _ _ _ _ _ hl hP hD hS hc hs)
  · rename_i hd
    obtain ⟨x, y, r, rfl, hz, h⟩ := h; exact lv_idiv hx hb hd hz (KK _ _ _ _ _ _ h _ _ _ _ _ hl hP hD hS hc hs)
  · rename_i hd
    obtain ⟨x, y, r, rfl, hz, h⟩ := h; exact lv_irem hx hb hd hz (KK _ _ _ _ _ _ h _ _ _ _ _ hl hP hD hS hc hs)
  · rename_i hd
    obtain ⟨x, y, r, rfl, h⟩ := h; exact lv_ladd hx hb hd (KK _ _ _ _ _ _ h _ _ _ _ _ hl hP hD hS hc hs)
  · rename_i hd
    obtain ⟨x, y, r, rfl, h⟩ := h; exact lv_lsub hx hb hd (KK _ _ _ _ _ _ h _ _ _ _ _ hl hP hD hS hc hs)
  · rename_i hd
    obtain ⟨x, y, r, rfl, h⟩ := h; exact lv_lmul hx hb hd (KK _ _ _ _ _ _ h _ _ _ _ _ hl hP hD hS hc hs)
  · rename_i hd
    obtain ⟨x, y, r, rfl, h⟩ := h; exact lv_land hx hb hd (KK _ _ _ _ _ _ h _ _ _ _ _ hl hP hD hS hc hs)
  · rename_i hd
    obtain ⟨x, y, r, rfl, h⟩ := h; exact lv_lor hx hb hd (KK _ _ _ _ _ _ h _ _ _ _ _ hl hP hD hS hc hs)
  · rename_i hd
    obtain ⟨x, y, r, rfl, h⟩ := h; exact lv_lxor hx hb hd (KK _ _ _ _ _ _ h _ _ _ _ _ hl hP hD hS hc hs)
  · rename_i hd
    obtain ⟨x, y, r, rfl, hz, h⟩ := h; exact lv_ldiv hx hb hd hz (KK _ _ _ _ _ _ h _ _ _ _ _ hl hP hD hS hc hs)
  · rename_i hd
    obtain ⟨x, y, r, rfl, hz, h⟩ := h; exact lv_lrem hx hb hd hz (KK _ _ _ _ _ _ h _ _ _ _ _ hl hP hD hS hc hs)
  · rename_i hd
    obtain ⟨x, y, r, rfl, h⟩ := h; exact lv_lshl hx hb hd rfl (KK _ _ _ _ _ _ h _ _ _ _ _ hl hP hD hS hc hs)
  · rename_i hd
    obtain ⟨x, y, r, rfl, h⟩ := h; exact lv_lshr hx hb hd rfl (KK _ _ _ _ _ _ h _ _ _ _ _ hl hP hD hS hc hs)
  · rename_i hd
    obtain ⟨x, y, r, rfl, h⟩ := h; exact lv_lushr hx hb hd rfl (KK _ _ _ _ _ _ h _ _ _ _ _ hl hP hD hS hc hs)
  · rename_i hd
    obtain ⟨x, y, r, rfl, h⟩ := h; exact W.lcmp hx hb hd (KK _ _ _ _ _ _ h _ _ _ _ _ hl hP hD hS hc hs)
  · rename_i hd
    obtain ⟨x, r, rfl, h⟩ := h; exact lv_ineg hx hb hd (KK _ _ _ _ _ _ h _ _ _ _ _ hl hP hD hS hc hs)
  · rename_i hd
    obtain ⟨x, r, rfl, h⟩ := h; exact lv_lneg hx hb hd (KK _ _ _ _ _ _ h _ _ _ _ _ hl hP hD hS hc hs)
  · rename_i hd
    obtain ⟨x, r, rfl, h⟩ := h; exact lv_i2l hx hb hd rfl (KK _ _ _ _ _ _ h _ _ _ _ _ hl hP hD hS hc hs)
  · rename_i hd
    obtain ⟨x, r, rfl, h⟩ := h; exact lv_l2i hx hb hd rfl (KK _ _ _ _ _ _ h _ _ _ _ _ hl hP hD hS hc hs)
  · rename_i hd
    obtain ⟨x, r, rfl, h⟩ := h; exact lv_i2c hx hb hd rfl (KK _ _ _ _ _ _ h _ _ _ _ _ hl hP hD hS hc hs)
  · rename_i hd
    obtain ⟨v, r, rfl, hv, h⟩ := h; exact lv_dup hx hb hd hv (KK _ _ _ _ _ _ h _ _ _ _ _ hl hP hD hS hc hs)
  · rename_i hd
    obtain ⟨v, r, rfl, hv, h⟩ := h; exact lv_pop hx hb hd hv (KK _ _ _ _ _ _ h _ _ _ _ _ hl hP hD hS hc hs)
  · rename_i hd
    obtain ⟨v, r, rfl, hv, h⟩ := h; exact lv_pop2_2 hx hb hd hv (KK _ _ _ _ _ _ h _ _ _ _ _ hl hP hD hS hc hs)
  · rename_i hd
    obtain ⟨v, w, r, rfl, hv, hw, h⟩ := h; exact lv_dup2_11 hx hb hd hv hw (KK _ _ _ _ _ _ h _ _ _ _ _ hl hP hD hS hc hs)
  · rename_i hd
    obtain ⟨x, r, rfl, ho, h1, h2⟩ := h; exact lv_if_eq hx hb hd (Int.toNat_of_nonneg ho).symm (fun z => KK _ _ _ _ _ _ (h1 z) _ _ _ _ _ hl hP hD hS hc hs) (fun z => KK _ _ _ _ _ _ (h2 z) _ _ _ _ _ hl hP hD hS hc hs)
  · rename_i hd
    obtain ⟨x, r, rfl, ho, h1, h2⟩ := h; exact lv_if_ne hx hb hd (Int.toNat_of_nonneg ho).symm (fun z => KK _ _ _ _ _ _ (h1 z) _ _ _ _ _ hl hP hD hS hc hs) (fun z => KK _ _ _ _ _ _ (h2 z) _ _ _ _ _ hl hP hD hS hc hs)
  · rename_i hd
    obtain ⟨x, r, rfl, ho, h1, h2⟩ := h; exact lv_if_lt hx hb hd (Int.toNat_of_nonneg ho).symm (fun z => KK _ _ _ _ _ _ (h1 z) _ _ _ _ _ hl hP hD hS hc hs) (fun z => KK _ _ _ _ _ _ (h2 z) _ _ _ _ _ hl hP hD hS hc hs)
  · rename_i hd
    obtain ⟨x, r, rfl, ho, h1, h2⟩ := h; exact lv_if_ge hx hb hd (Int.toNat_of_nonneg ho).symm (fun z => KK _ _ _ _ _ _ (h1 z) _ _ _ _ _ hl hP hD hS hc hs) (fun z => KK _ _ _ _ _ _ (h2 z) _ _ _ _ _ hl hP hD hS hc hs)
  · rename_i hd
    obtain ⟨x, r, rfl, ho, h1, h2⟩ := h; exact lv_if_gt hx hb hd (Int.toNat_of_nonneg ho).symm (fun z => KK _ _ _ _ _ _ (h1 z) _ _ _ _ _ hl hP hD hS hc hs) (fun z => KK _ _ _ _ _ _ (h2 z) _ _ _ _ _ hl hP hD hS hc hs)
  · rename_i hd
    obtain ⟨x, r, rfl, ho, h1, h2⟩ := h; exact lv_if_le hx hb hd (Int.toNat_of_nonneg ho).symm (fun z => KK _ _ _ _ _ _ (h1 z) _ _ _ _ _ hl hP hD hS hc hs) (fun z => KK _ _ _ _ _ _ (h2 z) _ _ _ _ _ hl hP hD hS hc hs)
  · rename_i hd
    obtain ⟨x, y, r, rfl, ho, h1, h2⟩ := h; exact lv_icmp_eq hx hb hd (Int.toNat_of_nonneg ho).symm (fun z => KK _ _ _ _ _ _ (h1 z) _ _ _ _ _ hl hP hD hS hc hs) (fun z => KK _ _ _ _ _ _ (h2 z) _ _ _ _ _ hl hP hD hS hc hs)
  · rename_i hd
    obtain ⟨x, y, r, rfl, ho, h1, h2⟩ := h; exact lv_icmp_ne hx hb hd (Int.toNat_of_nonneg ho).symm (fun z => KK _ _ _ _ _ _ (h1 z) _ _ _ _ _ hl hP hD hS hc hs) (fun z => KK _ _ _ _ _ _ (h2 z) _ _ _ _ _ hl hP hD hS hc hs)
  · rename_i hd
    obtain ⟨x, y, r, rfl, ho, h1, h2⟩ := h; exact lv_icmp_lt hx hb hd (Int.toNat_of_nonneg ho).symm (fun z => KK _ _ _ _ _ _ (h1 z) _ _ _ _ _ hl hP hD hS hc hs) (fun z => KK _ _ _ _ _ _ (h2 z) _ _ _ _ _ hl hP hD hS hc hs)
  · rename_i hd
    obtain ⟨x, y, r, rfl, ho, h1, h2⟩ := h; exact lv_icmp_ge hx hb hd (Int.toNat_of_nonneg ho).symm (fun z => KK _ _ _ _ _ _ (h1 z) _ _ _ _ _ hl hP hD hS hc hs) (fun z => KK _ _ _ _ _ _ (h2 z) _ _ _ _ _ hl hP hD hS hc hs)
  · rename_i hd
    obtain ⟨x, y, r, rfl, ho, h1, h2⟩ := h; exact lv_icmp_gt hx hb hd (Int.toNat_of_nonneg ho).symm (fun z => KK _ _ _ _ _ _ (h1 z) _ _ _ _ _ hl hP hD hS hc hs) (fun z => KK _ _ _ _ _ _ (h2 z) _ _ _ _ _ hl hP hD hS hc hs)
  · rename_i hd
    obtain ⟨x, y, r, rfl, ho, h1, h2⟩ := h; exact lv_icmp_le hx hb hd (Int.toNat_of_nonneg ho).symm (fun z => KK _ _ _ _ _ _ (h1 z) _ _ _ _ _ hl hP hD hS hc hs) (fun z => KK _ _ _ _ _ _ (h2 z) _ _ _ _ _ hl hP hD hS hc hs)
  · rename_i hd
    exact lv_goto hx hb hd (Int.toNat_of_nonneg h.1).symm (KK _ _ _ _ _ _ h.2 _ _ _ _ _ hl hP hD hS hc hs)
  · rename_i df lo hi os ln hd
    obtain ⟨x, r, rfl, h1, h2, h3⟩ := h; by_cases z1 : x.toInt < lo
    · exact lv_tableOut hx hb hd (Or.inl z1) (Int.toNat_of_nonneg (h3 (Or.inl z1)).1).symm (KK _ _ _ _ _ _ (h3 (Or.inl z1)).2 _ _ _ _ _ hl hP hD hS hc hs)
    · by_cases z2 : hi < x.toInt
      · exact lv_tableOut hx hb hd (Or.inr z2) (Int.toNat_of_nonneg (h3 (Or.inr z2)).1).symm (KK _ _ _ _ _ _ (h3 (Or.inr z2)).2 _ _ _ _ _ hl hP hD hS hc hs)
      · obtain ⟨o, ho⟩ := Option.isSome_iff_exists.mp (h2 z1 z2)
        exact lv_tableIn hx hb hd z1 z2 ho (Int.toNat_of_nonneg (h1 o z1 z2 ho).1).symm (KK _ _ _ _ _ _ (h1 o z1 z2 ho).2 _ _ _ _ _ hl hP hD hS hc hs)
  · rename_i hd
    obtain ⟨x, r, rfl, hp, ho, h⟩ := h; exact lv_lookup hx hb hd hp rfl (Int.toNat_of_nonneg ho).symm (KK _ _ _ _ _ _ h _ _ _ _ _ hl hP hD hS hc hs)
  · rename_i hd
    rcases h with ⟨a, r, q, ci, fs, Cn, T, N, k, v, rfl, he, hcl, hk, hw, hv, h⟩ | ⟨k, r, hk, rfl, ⟨hw, h⟩ | ⟨hw, h⟩⟩
    · exact va_get hx hb hts (am_in hcl) hown hKn hP q he hcl k hk (hts _ hw) (fun _ z => z) hv hd (KK _ _ _ _ _ _ h _ _ _ _ _ hl hP hD hS hc hs)
    · exact vk_getf hx hb (hN.2.1.1 k hk).2.2.1 hS hown (hts _ hw) (fun _ z => z) hd (KK _ _ _ _ _ _ h _ _ _ _ _ hl hP hD hS hc hs)
    · exact vk_getf hx hb (hN.2.1.1 k hk).2.1 hS hown (hts _ hw) (fun _ z => z) hd (KK _ _ _ _ _ _ h _ _ _ _ _ hl hP hD hS hc hs)
  · rename_i hd
    obtain ⟨a, r, q, ci, fs, Cn, T, N, k, v, rfl, he, hcl, hk, hw, hkl, hnar, hfit, hfin, h⟩ := h
    by_cases z : (T k).2.2.2 = true
    · exact va_putF hx hb hts (am_in hcl) (am_t T) (am_ty hcl) (am_nm hcl) hown hKn hP hD hS q he hcl k hk (hts _ hw) (fun _ z => z) z (hini (hfin z).1) (hfin z).2 (am_ty hcl k hk) hnar hfit hkl hd (fun H1 locs1 hP1 hD1 hS1 => KK _ _ _ _ _ _ h _ _ _ _ _ hl hP1 hD1 hS1 hc hs)
    · exact va_put hx hb hts (am_in hcl) (am_t T) (am_ty hcl) (am_nm hcl) hown hKn hP hD hS q he hcl k hk (hts _ hw) (fun _ z => z) (by simpa using z) (am_ty hcl k hk) hnar hfit hkl hd (fun H1 locs1 hP1 hD1 hS1 => KK _ _ _ _ _ _ h _ _ _ _ _ hl hP1 hD1 hS1 hc hs)
  · rename_i hd
    rcases h with ⟨b, L, xs, j, r, e9, rfl, hin, h⟩ | ⟨a, j, r, q, n, f, rfl, he, hin, h⟩
    · exact va_sld hx hb (hscr _ _ _ e9).1 (hscr _ _ _ e9).2.1 (hscr _ _ _ e9).2.2 hS hin hd (KK _ _ _ _ _ _ h _ _ _ _ _ hl hP hD hS hc hs)
    · exact va_iald hx hb hKn hP q 0 he rfl hin hd (KK _ _ _ _ _ _ h _ _ _ _ _ hl hP hD hS hc hs)
  · rename_i hd
    obtain ⟨a, j, r, q, n, f, rfl, he, hin, h⟩ := h; exact va_lald hx hb hKn hP q 1 he rfl hin hd (KK _ _ _ _ _ _ h _ _ _ _ _ hl hP hD hS hc hs)
  · rename_i hd
    obtain ⟨a, j, r, q, n, f, rfl, he, hin, h⟩ := h; exact va_cald hx hb hKn hP q 2 he rfl hin hd (KK _ _ _ _ _ _ h _ _ _ _ _ hl hP hD hS hc hs)
  · rename_i hd
    rcases h with ⟨a, j, r, q, n, f, rfl, he, hin, h⟩ | ⟨k, j, r, hk, rfl, hin, h⟩
    · exact va_zald hx hb hKn hP q 3 he rfl hin hd (KK _ _ _ _ _ _ h _ _ _ _ _ hl hP hD hS hc hs)
    · exact va_tb hx hb (hN.2.1.1 k hk).2.2.2 hS hin rfl hd (KK _ _ _ _ _ _ h _ _ _ _ _ hl hP hD hS hc hs)
  · rename_i hd
    obtain ⟨a, j, x, r, q, n, f, rfl, he, hin, h⟩ := h; exact va_iast hx hb hKn hP hD hS q 0 he rfl hin hd (fun H1 locs1 hP1 hD1 hS1 => KK _ _ _ _ _ _ h _ _ _ _ _ hl hP1 hD1 hS1 hc hs)
  · rename_i hd
    obtain ⟨a, j, x, r, q, n, f, rfl, he, hin, h⟩ := h; exact va_last hx hb hKn hP hD hS q 1 he rfl hin hd (fun H1 locs1 hP1 hD1 hS1 => KK _ _ _ _ _ _ h _ _ _ _ _ hl hP1 hD1 hS1 hc hs)
  · rename_i hd
    obtain ⟨a, j, x, r, q, n, f, rfl, he, hin, h⟩ := h; exact va_cast hx hb hKn hP hD hS q 2 he rfl hin hd (fun H1 locs1 hP1 hD1 hS1 => KK _ _ _ _ _ _ h _ _ _ _ _ hl hP1 hD1 hS1 hc hs)
  · rename_i hd
    obtain ⟨a, j, x, r, q, n, f, rfl, he, hin, h⟩ := h; exact va_zast hx hb hKn hP hD hS q 3 he rfl hin hd (fun H1 locs1 hP1 hD1 hS1 => KK _ _ _ _ _ _ h _ _ _ _ _ hl hP1 hD1 hS1 hc hs)
  · rename_i hd
    rcases h with ⟨b, L, xs, r, e9, rfl, h⟩ | ⟨a, r, q, cA, x, t, ty, rfl, he, ht, h⟩ | ⟨k, r, hk, rfl, h⟩
    · exact va_slen hx hb (hscr _ _ _ e9).1 (hscr _ _ _ e9).2.1 (hscr _ _ _ e9).2.2 hS hd (KK _ _ _ _ _ _ h _ _ _ _ _ hl hP hD hS hc hs)
    · exact va_alen hx hb hKn hP q t he ht rfl hd (KK _ _ _ _ _ _ h _ _ _ _ _ hl hP hD hS hc hs)
    · exact va_tlen hx hb (hN.2.1.1 k hk).2.2.2 hS rfl hd (KK _ _ _ _ _ _ h _ _ _ _ _ hl hP hD hS hc hs)
  · rename_i hd
    obtain ⟨ci, Cn, T, N, hcl, hw, h1, h2, h⟩ := h
    exact va_new hx hb hts (am_in hcl) (am_t T) (am_ty hcl) hown (hts _ hw) (hts _ (am_inst hcl)) (hts _ (am_ini hcl)) hKn hP hD hS hA hcl (am_newV T N) (by rw [hRc]; omega) (by rw [hRs]; omega) hd (fun q H1 hP1 hD1 hS1 => KK _ _ _ _ _ _ (h q (am_freshD hD1)) _ _ _ _ _ hl hP1 hD1 hS1 (by omega) (by omega))
  · rename_i hd
    obtain ⟨n, r, rfl, hn, hbig, h1, h2, h⟩ := h
    refine va_newa hx hb (hts _ am_arr_int) (ty := .int) rfl hKn hP hD hS hA (N' := n.toNatClampNeg) (a0 := (n.toNatClampNeg, .inl (fun _ => 0))) (fun _ => rfl) hn rfl (by simp only [componentBytes]; omega) (by rw [hRc]; omega) (by rw [hRs]; omega) hd (fun q cA H1 hK1 hP1 hD1 hS1 => ?_)
    have hcA : cA = Z.1 := am_sameA_int hK1
    subst hcA
    exact KK _ _ _ _ _ _ (h q (am_freshD hD1)) _ _ _ _ _ hl hP1 hD1 hS1 (by omega) (by omega)
  · rename_i hd
    obtain ⟨n, r, rfl, hn, hbig, h1, h2, h⟩ := h
    refine va_newa hx hb (hts _ am_arr_long) (ty := .long) rfl hKn hP hD hS hA (N' := n.toNatClampNeg) (a0 := (n.toNatClampNeg, .inr (.inl (fun _ => 0)))) (fun _ => rfl) hn rfl (by simp only [componentBytes]; omega) (by rw [hRc]; omega) (by rw [hRs]; omega) hd (fun q cA H1 hK1 hP1 hD1 hS1 => ?_)
    have hcA : cA = Z.2.1 := am_sameA_long hK1
    subst hcA
    exact KK _ _ _ _ _ _ (h q (am_freshD hD1)) _ _ _ _ _ hl hP1 hD1 hS1 (by omega) (by omega)
  · rename_i hd
    obtain ⟨n, r, rfl, hn, hbig, h1, h2, h⟩ := h
    refine va_newa hx hb (hts _ am_arr_char) (ty := .char) rfl hKn hP hD hS hA (N' := n.toNatClampNeg) (a0 := (n.toNatClampNeg, .inl (fun _ => 0))) (fun _ => rfl) hn rfl (by simp only [componentBytes]; omega) (by rw [hRc]; omega) (by rw [hRs]; omega) hd (fun q cA H1 hK1 hP1 hD1 hS1 => ?_)
    have hcA : cA = Z.2.2.1 := am_sameA_char hK1
    subst hcA
    exact KK _ _ _ _ _ _ (h q (am_freshD hD1)) _ _ _ _ _ hl hP1 hD1 hS1 (by omega) (by omega)
  · rename_i hd
    obtain ⟨n, r, rfl, hn, hbig, h1, h2, h⟩ := h
    refine va_newa hx hb (hts _ am_arr_boolean) (ty := .boolean) rfl hKn hP hD hS hA (N' := n.toNatClampNeg) (a0 := (n.toNatClampNeg, .inl (fun _ => 0))) (fun _ => rfl) hn rfl (by simp only [componentBytes]; omega) (by rw [hRc]; omega) (by rw [hRs]; omega) hd (fun q cA H1 hK1 hP1 hD1 hS1 => ?_)
    have hcA : cA = Z.2.2.2.1 := am_sameA_boolean hK1
    subst hcA
    exact KK _ _ _ _ _ _ (h q (am_freshD hD1)) _ _ _ _ _ hl hP1 hD1 hS1 (by omega) (by omega)
  · rename_i hd
    rcases h with ⟨y, b, As, r, mc1, ms1, q, ci, fs, T, N, rfl, hpl, w1, w2, w3, w4, he, hcl, hcat, h1, h2, h⟩ | ⟨y, b, As, r, mc1, ms1, k, rfl, hpl, w1, w2, w3, w4, hk, rfl, hcs, hcat, h1, h2, h⟩
    · obtain ⟨bytes, maxL, ret1, w5, hmL, hM⟩ := hcall _ _ _ _ _ _ _ h
      have hFr := am_free (A := A) hD hS hA
      refine am_back hA hD hS (vx_runV (As := As) (rest := r) (n := As.length) ⟨hx, hb, hml, hown, hts⟩ (hM H.size) ⟨am_cb hts w5 w4 w1 hpl hmL hRf hRl, hts _ w2, hts _ w3⟩ ⟨am_blind, va_recv hKn hP hcl he, am_pre hKn hP hD hS hA hnest hU hN⟩ rfl rfl hl.1 rfl (lv_room hcat) hd (by rw [hRc, hRs]; omega)) (fun q9 E ce u H1 locs1 hp hP1 hD1 hS1 g1 g2 g3 => hthr _ _ _ _ _ _ _ _ _ _ _ _ _ _ hp hl hP1 hD1 hS1 g1 g2 g3 (by omega) (by omega)) (fun v u H1 locs1 hp hP1 hD1 hS1 => KK _ _ _ _ _ _ hp _ _ _ _ _ hl hP1 hD1 hS1 (by omega) (by omega))
    · obtain ⟨bytes, maxL, ret1, w5, hmL, hM⟩ := hcall _ _ _ _ _ _ _ h
      have hFr := am_free (A := A) hD hS hA
      refine am_back hA hD hS (vx_runV (As := As) (rest := r) (n := As.length) ⟨hx, hb, hml, hown, hts⟩ (hM H.size) ⟨am_cb hts w5 w4 w1 hpl hmL hRf hRl, hts _ w2, hts _ w3⟩ ⟨am_blind, (by rw [hcs]; exact vk_recv hN.2.1 hk hS), am_pre hKn hP hD hS hA hnest hU hN⟩ rfl rfl hl.1 rfl (lv_room hcat) hd (by rw [hRc, hRs]; omega)) (fun q9 E ce u H1 locs1 hp hP1 hD1 hS1 g1 g2 g3 => hthr _ _ _ _ _ _ _ _ _ _ _ _ _ _ hp hl hP1 hD1 hS1 g1 g2 g3 (by omega) (by omega)) (fun v u H1 locs1 hp hP1 hD1 hS1 => KK _ _ _ _ _ _ hp _ _ _ _ _ hl hP1 hD1 hS1 (by omega) (by omega))
  · rename_i hd
    rcases h with h | h
    · exact am_copy hx hb (hl.1.trans hml.symm).symm hown hts hKn hP hD hS hRf hRl (fun r u H1 locs1 h1 hP1 hD1 hS1 => KK _ _ _ _ _ _ h1 _ _ _ _ _ hl hP1 hD1 hS1 hc hs) hd h
    · obtain ⟨y, As, r, mc1, ms1, rfl, hpl, w2, w4, hcat, h1, h2, h | h | ⟨host, w1, h⟩⟩ := h
      · obtain ⟨bytes, maxL, ret1, w5, hmL, hM⟩ := hcall _ _ _ _ _ _ _ h.2
        exact am_back hA hD hS (vx_runS (As := As) (rest := r) (n := As.length) ⟨hx, hb, hml, hown, hts⟩ (hM H.size) ⟨am_cb hts w5 w4 h.1 hpl hmL hRf hRl, hts _ w2⟩ ⟨am_blind, am_pre hKn hP hD hS hA hnest hU hN⟩ rfl rfl hl.1 rfl (lv_room hcat) hd (by rw [hRc, hRs]; omega)) (fun q9 E ce u H1 locs1 hp hP1 hD1 hS1 g1 g2 g3 => hthr _ _ _ _ _ _ _ _ _ _ _ _ _ _ hp hl hP1 hD1 hS1 g1 g2 g3 (by omega) (by omega)) (fun v u H1 locs1 hp hP1 hD1 hS1 => KK _ _ _ _ _ _ hp _ _ _ _ _ hl hP1 hD1 hS1 (by omega) (by omega))
      · obtain ⟨bytes, maxL, ret1, hh, w5, hmL, hM⟩ := hcallW _ _ _ _ _ _ _ h.2
        exact am_backN hA hD hS (vx_runSW (As := As) (rest := r) (n := As.length) ⟨hx, hb, hml, hown, hts⟩ (am_noX (hM H.size)) (am_csw hts w5 w4 h.1 w2 hpl hmL hRf hRl) ⟨am_blind, am_pre hKn hP hD hS hA hnest hU hN⟩ rfl rfl hl.1 rfl (lv_room hcat) hd (by rw [hRc, hRs]; omega)) (fun v u H1 locs1 hp hP1 hD1 hS1 => KK _ _ _ _ _ _ hp _ _ _ _ _ hl hP1 hD1 hS1 (by omega) (by omega))
      · obtain ⟨bytes, maxL, ret1, w5, hmL, hM⟩ := hcall _ _ _ _ _ _ _ h
        exact am_backN hA hD hS (va_runSN (As := As) (rest := r) (n := As.length) ⟨hx, hb, hml, hown, hts⟩ (am_noX (hM H.size)) ⟨am_cn hts w5 w4 (hnest.1 _ _ _ _ w1) hpl hmL hRf hRl, hts _ w2, trivial⟩ ⟨am_blind, am_pre hKn hP hD hS hA hnest hU hN⟩ rfl rfl hl.1 rfl (lv_room hcat) hd (by rw [hRc, hRs]; omega)) (fun v u H1 locs1 hp hP1 hD1 hS1 => KK _ _ _ _ _ _ hp _ _ _ _ _ hl hP1 hD1 hS1 (by omega) (by omega))
  · rename_i hd
    rcases h with ⟨a, r, rfl, hcat, w1, h⟩ | ⟨y, b, As, r, mc1, ms1, rfl, hpl, hyn, w2, w4, hcat, h1, h2, -, hlk, h⟩
    · exact W.objInit hx hb hown (hts _ w1) (hts _ am_obj1) (hts _ am_obj2) rfl (by rw [hml]; exact hl.1) rfl hd (by omega) (by have := lv_room (m := m) (pc := pc) (ls := ls) (rest := r) hcat; simp only [JFrame.monitorRoom] at *; omega) (KK _ _ _ _ _ _ h _ _ _ _ _ hl hP hD hS hc hs)
    · obtain ⟨bytes, maxL, ret1, w5, hmL, hM⟩ := hcall _ _ _ _ _ _ _ h
      obtain rfl : ret1 = none := am_initret hyn w5
      rcases hlk with w1 | ⟨host, w1⟩
      · exact am_backN hA hD hS (va_runI (As := As) (rest := r) (n := As.length) ⟨hx, hb, hml, hown, hts⟩ (am_noX (hM H.size)) ⟨am_cb hts w5 w4 w1 hpl hmL hRf hRl, hyn, hts _ w2⟩ ⟨am_blind, am_pre hKn hP hD hS hA hnest hU hN⟩ rfl rfl hl.1 rfl (lv_room hcat) hd (by rw [hRc, hRs]; omega)) (fun v u H1 locs1 hp hP1 hD1 hS1 => KK _ _ _ _ _ _ hp _ _ _ _ _ hl hP1 hD1 hS1 (by omega) (by omega))
      · exact am_backN hA hD hS (va_runIN (As := As) (rest := r) (n := As.length) ⟨hx, hb, hml, hown, hts⟩ (am_noX (hM H.size)) ⟨am_cn hts w5 w4 (hnest.1 _ _ _ _ w1) hpl hmL hRf hRl, hyn, hts _ w2⟩ ⟨am_blind, am_pre hKn hP hD hS hA hnest hU hN⟩ rfl rfl hl.1 rfl (lv_room hcat) hd (by rw [hRc, hRs]; omega)) (fun v u H1 locs1 hp hP1 hD1 hS1 => KK _ _ _ _ _ _ hp _ _ _ _ _ hl hP1 hD1 hS1 (by omega) (by omega))
  · rename_i hd
    exact hend _ _ _ _ _ _ _ _ (by unfold am_end; rw [hd]; exact h) hP hD hS (by omega) (by omega)
  · rename_i hd
    exact hend _ _ _ _ _ _ _ _ (by unfold am_end; rw [hd]; exact h) hP hD hS (by omega) (by omega)
  · rename_i hd
    exact hend _ _ _ _ _ _ _ _ (by unfold am_end; rw [hd]; exact h) hP hD hS (by omega) (by omega)
  · rename_i hd
    exact hend _ _ _ _ _ _ _ _ (by unfold am_end; rw [hd]; exact h) hP hD hS (by omega) (by omega)
  · exact h.elim
theorem am_runok (hKn : va_K D vwCl (am_tys Z) s) (hx : p.tables.exec = Jvm.exec) (hb : c.code = cc) (hml : c.maxLocals = nL) (hown : s.vm.findClass own = some m.cls) (hts : ∀ w ∈ am_T, w.before args s = true) (hnest : am_nest s) (hini : ini = true → meth.name = "<init>") (hA : ∀ q, s.heap.size ≤ q → A q) (hscr : ∀ b L xs, scr = some (b, L, xs) → va_X b L xs s s.heap ∧ b < s.heap.size ∧ ¬ A b)
    (hU : vx_Zq Bundle.tN "UNASSIGNED_STACK" Bundle.steD A s s.heap) (hN : am_N Z A s s.heap) (hRc : R.cells = mc) (hRs : R.slots = ms) (hRf : d + 1 ≤ R.frames) (hRl : 64 * (d + 1) ≤ R.locals) (hcall : ∀ y as ws kc ks post xp, call y as ws kc ks post xp → am_Met l D Z d y as ws kc ks post xp) (hcallW : ∀ y as ws kc ks post xp, callW y as ws kc ks post xp → am_MetW l D Z d y as ws kc ks post xp)
    (hend : ∀ pc ls st ws H locs cells slots, am_end cc rt ret pc st ws → va_P D vwCl ws H → va_D A ws → va_S A s.heap H locs → cells ≤ mc → slots ≤ ms → W p l e R s m args below meth c H locs cells slots Q (F0 m pc ls st))
    (hthr : ∀ (K : AmK), (∀ pc lv st ws C S, K pc lv st ws C S → ∀ H locs cells slots ls, lv_has ls nL lv → va_P D vwCl ws H → va_D A ws → va_S A s.heap H locs → cells + C ≤ mc → slots + S ≤ ms → W p l e R s m args below meth c H locs cells slots Q (F0 m pc ls st)) → ∀ pc lv ls rest q E ce u H1 locs1 cells slots C S, xh K pc lv C S E u → lv_has ls nL lv → va_P D vwCl u H1 → va_D A u → va_S A s.heap H1 locs1 → H1[q]? = some ce → ce.vm = .none → s.vm.findClass E = some ce.cls → cells + C ≤ mc → slots + S ≤ ms → vx_W p l e R s m args below meth c H1 locs1 cells slots Q (F0 m pc ls rest) q) :
    ∀ n pc lv st ws C S, am_run Z scr own cc nL rt ini call callW xh ret n pc lv st ws C S → ∀ H locs cells slots ls, lv_has ls nL lv → va_P D vwCl ws H → va_D A ws → va_S A s.heap H locs → cells + C ≤ mc → slots + S ≤ ms → W p l e R s m args below meth c H locs cells slots Q (F0 m pc ls st) := by
  intro n
  induction n with
  | zero => intro pc lv st ws C S h; exact h.elim
  | succ n ih =>
    intro pc lv st ws C S h H locs cells slots ls hl hP hD hS hc hs
    rcases h with h | ⟨ws', ⟨g, hg, hi⟩, h⟩
    · exact am_one (K := am_run Z scr own cc nL rt ini call callW xh ret n) hKn hx hb hml hown hts hnest hini hA hscr hU hN hRc hRs hRf hRl hcall hcallW hend (hthr _ ih) ih h hl hP hD hS hc hs
    · exact ih pc lv st ws' C S h H locs cells slots ls hl (fun k q hk => hP (g k) q (hg k q hk)) (va_D.by hD g hg hi) hS hc hs
/-- the ends of an ordinary method -/
theorem am_ends (hKn : va_K D vwCl (am_tys Z) s) (hx : p.tables.exec = Jvm.exec) (hb : c.code = cc) (hr : meth.sig.returnType = rt) (hlocks : meth.locks = false) : ∀ pc ls st ws H locs cells slots, am_end cc rt ret pc st ws → va_P D vwCl ws H → va_D A ws → va_S A s.heap H locs → cells ≤ mc → slots ≤ ms → W p l e R s m args below meth c H locs cells slots (vx_MQ below (am_Q D Z A ret) (am_X D Z A xp) args s mc ms A) (F0 m pc ls st) := by
  intro pc ls st ws H locs cells slots h hP hD hS hc hs
  unfold am_end at h
  split at h
  · rename_i hd
    obtain ⟨v, ty, rfl, rfl, hn, h⟩ := h
    exact W.widen hc hs (vx_ret (W.zret hx hb hr hn (fun t ht hW => ⟨⟨_, ws, rfl, h, by rw [ht]; exact hP, va_K.moved hW.alike hKn, hD⟩, hS.F ht⟩) hS.2.2 hd hlocks))
  · rename_i hd
    obtain ⟨v, rfl, rfl, h⟩ := h
    exact W.widen hc hs (vx_ret (W.lret hx hb hr (fun t ht hW => ⟨⟨_, ws, rfl, h, by rw [ht]; exact hP, va_K.moved hW.alike hKn, hD⟩, hS.F ht⟩) hS.2.2 hd hlocks))
  · rename_i hd
    obtain ⟨a, ty, rfl, rfl, hty, h⟩ := h
    exact W.widen hc hs (vx_ret (W.aret hx hb hr hty (Or.inr ⟨a, rfl⟩) (fun t ht hW => ⟨⟨_, ws, rfl, h, by rw [ht]; exact hP, va_K.moved hW.alike hKn, hD⟩, hS.F ht⟩) hS.2.2 hd hlocks))
  · rename_i hd
    obtain ⟨rfl, rfl, h⟩ := h
    exact W.widen hc hs (vx_ret (W.vret hx hb hr (fun t ht hW => ⟨⟨_, ws, rfl, h, by rw [ht]; exact hP, va_K.moved hW.alike hKn, hD⟩, hS.F ht⟩) hS.2.2 hd hlocks))
  · exact h.elim
end AM
/-- a body, of a member that the machine itself has no entry for (its class may have others) -/
theorem am_ofW {l : Launch} {y : MethodName} {ws ws' : List Cond} {rm : Room} {Pc : Array Value → State → Prop} {Qc : Array Value → State → Outcome → State → Prop} {XC : String → State → State → Prop} {mc ms : Nat} {free : Addr → Prop} {cc : ByteArray} {maxL : Nat} {ret : Option FieldType}
    (hy : plainFor y = true) (hw : ws = Cond.code y cc maxL ret :: ws')
    (body : ∀ p e s m args below meth c s₁, BodyLoose p l y (headSpec ws rm) cc maxL ret e s m args below meth c s₁ → c.maxLocals = maxL → (∀ x ∈ c.exceptionTable.toList, False) → Pc args s →
      W p l e (headSpec ws rm).room s m args below meth c s.heap [] 0 0 (vx_MQ below Qc XC args s mc ms free) (entryFrame m args maxL)) : vx_Met l y ws rm Pc Qc XC mc ms free := by
  have hm : Cond.code y cc maxL ret ∈ ws := by rw [hw]; exact List.mem_cons_self
  refine MetFree.of_bodySF (code := cc) (maxLocals := maxL) (ret := ret) hy (fun args s m h hn => ?_) (fun p e s m args below meth c s₁ B hml hP _ => ?_)
  · obtain ⟨meth, c, h1, h2, h3, h4, h5, h6, -, -⟩ := Cond.code_spec hn (atoms_spec (ws := ws) h _ hm)
    exact ⟨meth, c, h1, h2, h3, h4, h5, h6⟩
  · have ht : ∀ x ∈ c.exceptionTable.toList, False := by
      obtain ⟨meth9, c9, h1, h2, -, -, -, -, h7, -⟩ := Cond.code_spec B.named (atoms_spec (ws := ws) B.pre _ hm)
      cases Option.some.inj (h1.symm.trans B.method)
      cases Option.some.inj (h2.symm.trans (Stand.of_body B).code)
      intro x hx
      rw [Array.isEmpty_iff.mp h7] at hx
      cases hx
    obtain ⟨t, a1, o, b1, b2, b3⟩ := body p e s m args below meth c s₁ B hml ht hP s₁ (by rw [B.state]; rfl) (Stand.of_body B)
    exact ⟨t, o, a1, b1, b2, b3⟩
theorem am_ofWH {l : Launch} {y : MethodName} {ws ws' : List Cond} {rm : Room} {Pc : Array Value → State → Prop} {Qc : Array Value → State → Outcome → State → Prop} {XC : String → State → State → Prop} {mc ms : Nat} {free : Addr → Prop} {cc : ByteArray} {maxL : Nat} {ret : Option FieldType} {hh : List (Nat × Nat × Nat × Nat)}
    (hy : plainFor y = true) (hw : ws = Cond.codeWith y cc maxL ret hh :: ws')
    (body : ∀ p e s m args below meth c s₁, BodyLoose p l y (headSpec ws rm) cc maxL ret e s m args below meth c s₁ → c.maxLocals = maxL → Pc args s →
      W p l e (headSpec ws rm).room s m args below meth c s.heap [] 0 0 (vx_MQ below Qc XC args s mc ms free) (entryFrame m args maxL)) : vx_Met l y ws rm Pc Qc XC mc ms free := by
  have hm : Cond.codeWith y cc maxL ret hh ∈ ws := by rw [hw]; exact List.mem_cons_self
  refine MetFree.of_bodySF (code := cc) (maxLocals := maxL) (ret := ret) hy (fun args s m h hn => ?_) (fun p e s m args below meth c s₁ B hml hP _ => ?_)
  · obtain ⟨m9, meth, c, hn9, h1, h2, h3, h4, -, h5, h6, -⟩ := Cond.codeWith_spec (atoms_spec (ws := ws) h _ hm)
    cases hn.symm.trans hn9
    exact ⟨meth, c, h1, h2, h3, h4, h5, h6⟩
  · obtain ⟨t, a1, o, b1, b2, b3⟩ := body p e s m args below meth c s₁ B hml hP s₁ (by rw [B.state]; rfl) (Stand.of_body B)
    exact ⟨t, o, a1, b1, b2, b3⟩
/-- THE LAYER IS SOUND: what am_wp says of a call, the machine does -/
theorem am_wpok {l : Launch} {D : va_G} {Z : AmZ} {leaf : AmC} (hleaf : ∀ d y as ws mc ms post xp, leaf y as ws mc ms post xp → am_Met l D Z (d + 6) y as ws mc ms post xp) : ∀ d y as ws mc ms post xp, am_wp Z leaf d y as ws mc ms post xp → am_Met l D Z d y as ws mc ms post xp := by
  intro d
  induction d with
  | zero => intro y as ws mc ms post xp h; exact h.elim
  | succ d ih =>
    intro y as ws mc ms post xp h
    rcases h with ⟨h5, h⟩ | ⟨cc, nL, rt, n, w5, hnL, hlen, hpn, h⟩
    · obtain ⟨k, rfl⟩ : ∃ k, d = k + 5 := ⟨d - 5, by omega⟩
      exact hleaf k y as ws mc ms post xp h
    · refine ⟨cc, nL, rt, w5, hnL, fun sz => ?_⟩
      refine am_ofW (cc := cc) (maxL := nL) (ret := rt) hpn rfl ?_
      intro p e s m args below meth c s₁ B hml htab hv
      obtain ⟨rfl, hsz, hP, hK, hD0, hnest, hU, hN⟩ := hv
      have hts : ∀ w ∈ am_T, w.before as.toArray s = true := fun w hw => atoms_spec (ws := Cond.code y cc nL rt :: am_T) B.pre w (List.mem_cons_of_mem _ hw)
      have hown : s.vm.findClass y.cls = some m.cls := findClass_of_methodNamed B.named
      have hin : decide (y.name = "<init>") = true → meth.name = "<init>" := fun z => (name_of_methodNamed B.named B.method).1.trans (of_decide_eq_true z)
      subst hsz
      have hl := lv_entry as (n := nL) hlen
      rw [lg_entry_eq]
      generalize (lg_sl as ++ List.replicate (nL - (lg_sl as).length) Slot.unset).toArray = ls at hl ⊢
      refine am_runok (A := va_A ws s.heap.size) (mc := mc) (ms := ms) (d := d) hK B.exec B.bytes hml hown hts hnest hin (fun q hq => Or.inr hq) (fun _ _ _ z => by cases z) hU hN rfl rfl (Nat.le_refl _) (Nat.le_refl _) ih (fun _ _ _ _ _ _ _ z => z.elim) (am_ends hK B.exec B.bytes B.returns B.notSynchronized) ?_ n 0 (lv_args 0 as) [] ws mc ms h s.heap [] 0 0 ls hl hP hD0.self va_S.rf (by omega) (by omega)
      intro K _ pc lv ls rest q E ce u H1 locs1 cells slots C S hxp hl1 hP1 hD1 hS1 g1 g2 g3 hc hs
      exact vx_out (fun x hx => (htab x hx).elim) B.notSynchronized g1 g2 g3 (fun t9 ht9 hal9 => ⟨u, hxp, by rw [ht9]; exact hP1, va_K.moved hal9 hK, hD1, hS1.F ht9⟩) hS1.2.2 (by omega) (by omega)
end
section
/-! allow and ready: the two methods that throw -/
theorem am_dA0 : decode cX11_allow 0 = .ok (.iload_n 0, 1) := by decide +kernel
theorem am_dA1 : decode cX11_allow 1 = .ok (.ifCond .ne 11, 3) := by decide +kernel
theorem am_dA4 : decode cX11_allow 4 = .ok (.new 369, 3) := by decide +kernel
theorem am_dA7 : decode cX11_allow 7 = .ok (.dup, 1) := by decide +kernel
theorem am_dA8 : decode cX11_allow 8 = .ok (.invokespecial 371, 3) := by decide +kernel
theorem am_dA11 : decode cX11_allow 11 = .ok (.athrow, 1) := by decide +kernel
theorem am_dA12 : decode cX11_allow 12 = .ok (.return_, 1) := by decide +kernel
theorem am_dR0 : decode cX11_ready 0 = .ok (.iload_n 0, 1) := by decide +kernel
theorem am_dR1 : decode cX11_ready 1 = .ok (.ifCond .ne 11, 3) := by decide +kernel
theorem am_dR4 : decode cX11_ready 4 = .ok (.new 372, 3) := by decide +kernel
theorem am_dR7 : decode cX11_ready 7 = .ok (.dup, 1) := by decide +kernel
theorem am_dR8 : decode cX11_ready 8 = .ok (.invokespecial 374, 3) := by decide +kernel
theorem am_dR11 : decode cX11_ready 11 = .ok (.athrow, 1) := by decide +kernel
theorem am_dR12 : decode cX11_ready 12 = .ok (.return_, 1) := by decide +kernel
def am_up : List String := ["java/lang/RuntimeException", "java/lang/Exception"]
/-- a method 'static void f(boolean b) { if (!b) throw new E(); }' -/
def am_thr (E : String) (as : List Value) (ws : va_W) (mc ms : Nat) (post : AmR) (xp : AmX) : Prop := ∃ g : Int32, as = [.int g] ∧ (¬ g = 0 → post none ws) ∧ (g = 0 → 1 ≤ mc ∧ 6 ≤ ms ∧ xp E ws)
theorem am_throk {l : Launch} (hl0 : l.stackTraces = false) {D : va_G} {Z : AmZ} {d : Nat} {y : MethodName} {cc : ByteArray} {E : String} {ik ic : Nat} (w5 : Cond.code y cc 1 none ∈ am_T) (hyc : y.cls = RX11)
    (d0 : decode cc 0 = .ok (.iload_n 0, 1)) (d1 : decode cc 1 = .ok (.ifCond .ne 11, 3)) (d4 : decode cc 4 = .ok (.new ik, 3)) (d7 : decode cc 7 = .ok (.dup, 1)) (d8 : decode cc 8 = .ok (.invokespecial ic, 3)) (d11 : decode cc 11 = .ok (.athrow, 1)) (d12 : decode cc 12 = .ok (.return_, 1))
    (hfit : Bundle.fit E = true) (wk : Cond.classLink RX11 ik E ∈ am_T) (wi : Cond.initialized E ∈ am_T) (wat : ∀ w ∈ (vx_at0 RX11 ic E am_up).filter goodWord, w ∈ am_T) (wno : ∀ w ∈ (vx_at0 RX11 ic E am_up).filter (fun w => !goodWord w), am_nn w = true ∧ w ∈ lw_tbl) (wot : ∀ w ∈ vx_at0 RX11 ic E am_up, vx_ot w = true)
    {as : List Value} {ws : va_W} {mc ms : Nat} {post : AmR} {xp : AmX} (h : am_thr E as ws mc ms post xp) : am_Met l D Z (d + 6) y as ws mc ms post xp := by
  obtain ⟨g, rfl, h1, h2⟩ := h
  refine ⟨cc, 1, none, w5, by decide, fun sz => ?_⟩
  refine vx_ofW (cc := cc) (maxL := 1) (ret := none) (by rw [hyc]; decide +kernel) rfl ?_
  intro p e s m args below meth c s₁ B hml htab hv
  obtain ⟨rfl, hsz, hP, hK, hD0, hnest, hU, hN⟩ := hv
  have hts : ∀ w ∈ am_T, w.before ([Value.int g] : List Value).toArray s = true := fun w hw => atoms_spec (ws := Cond.code y cc 1 none :: am_T) B.pre w (List.mem_cons_of_mem _ hw)
  have hown : s.vm.findClass RX11 = some m.cls := hyc ▸ findClass_of_methodNamed B.named
  subst hsz
  have hD : va_D (va_A ws s.heap.size) ws := hD0.self
  have hl := lv_entry [Value.int g] (n := 1) (Nat.le_of_ble_eq_true rfl)
  rw [lg_entry_eq]
  generalize (lg_sl [Value.int g] ++ List.replicate (1 - (lg_sl [Value.int g]).length) Slot.unset).toArray = ls at hl ⊢
  refine lv_iload_n (x := g) B.exec B.bytes d0 rfl (hl.2.2 (0, .int g) List.mem_cons_self) ?_
  refine lv_if_ne (tgt := 12) B.exec B.bytes d1 (by decide) (fun z => ?_) (fun z => ?_)
  · exact W.widen (Nat.zero_le mc) (Nat.zero_le ms) (vx_ret (W.vret B.exec B.bytes B.returns (fun t ht hW => ⟨⟨_, ws, rfl, h1 z, by rw [ht]; exact hP, va_K.moved hW.alike hK, hD⟩, (va_S.rf (A := va_A ws s.heap.size)).F ht⟩) (fun _ hz => by cases hz) d12 B.notSynchronized))
  · obtain ⟨k1, k2, k3⟩ := h2 z
    refine vx_throw0 (A := va_A ws s.heap.size) (own := RX11) (cls := E) (names := am_up) (ik := ik) (ic := ic) B.exec B.bytes hl0 hown hfit (by decide +kernel) (hts _ wk) (hts _ wi) (vx_hat (B := (vx_at0 RX11 ic E am_up).filter (fun w => !goodWord w)) (fun w hw => hts w (wat w hw)) (fun w hw => hw) (fun w hw => hnest.word (wno w hw).1 (wno w hw).2 _)) (fun w hw => ?_) hU hN.1 va_S.rf (hl.1.trans hml.symm) d4 d7 d8 d11 (fun x hx => (htab x hx).elim) ?_ ?_ ?_ ?_ B.notSynchronized ?_ (fun _ hz => by cases hz) (by omega) (by omega)
    · rcases List.mem_cons.mp hw with rfl | hw
      · rfl
      · rcases List.mem_cons.mp hw with rfl | hw
        · rfl
        · exact wot w hw
    · show 2 + 3 < d + 6
      omega
    · show 0 + (13 * (2 + 1) + 42) ≤ 64 * (d + 6)
      omega
    · show 0 + 1 ≤ mc
      omega
    · show 0 + 6 ≤ ms
      omega
    · intro t hal hz hk
      have hPt : va_P D vwCl ws t.heap := hP.kept (fun k q hq => hk q.1 (hP k q hq).lt)
      exact ⟨ws, k3, hPt, va_K.moved hal hK, hD, hz, fun q h3 _ => hk q h3⟩
theorem am_near {L : List Cond} (k n : Nat) (h : ∀ w ∈ L.filter goodWord, w ∈ (lw_tbl.drop k).take n ++ lw_tbl) : ∀ w ∈ L.filter goodWord, w ∈ am_T := fun w hw => List.mem_filter.mpr ⟨(List.mem_append.mp (h w hw)).elim (fun q => List.mem_of_mem_drop (List.mem_of_mem_take q)) id, (List.mem_filter.mp hw).2⟩
theorem am_nearn {L : List Cond} (k n : Nat) (h : ∀ w ∈ L, am_nn w = true ∧ w ∈ (lw_tbl.drop k).take n ++ lw_tbl) : ∀ w ∈ L, am_nn w = true ∧ w ∈ lw_tbl := fun w hw => ⟨(h w hw).1, (List.mem_append.mp (h w hw).2).elim (fun q => List.mem_of_mem_drop (List.mem_of_mem_take q)) id⟩
set_option maxRecDepth 100000 in
theorem am_allowok {l : Launch} (hl0 : l.stackTraces = false) {D : va_G} {Z : AmZ} {d : Nat} {as : List Value} {ws : va_W} {mc ms : Nat} {post : AmR} {xp : AmX} (h : am_thr am_IA as ws mc ms post xp) : am_Met l D Z (d + 6) yX11_allow as ws mc ms post xp :=
  am_throk (ik := 369) (ic := 371) hl0 (am_at 1323 (by decide +kernel) (by decide +kernel)) rfl am_dA0 am_dA1 am_dA4 am_dA7 am_dA8 am_dA11 am_dA12 (by decide +kernel) (am_at 1324 (by decide +kernel) (by decide +kernel)) (am_at 188 (by decide +kernel) (by decide +kernel)) (am_near 1323 140 (by decide +kernel)) (am_nearn 1323 140 (by decide +kernel)) (by decide +kernel) h
set_option maxRecDepth 100000 in
theorem am_readyok {l : Launch} (hl0 : l.stackTraces = false) {D : va_G} {Z : AmZ} {d : Nat} {as : List Value} {ws : va_W} {mc ms : Nat} {post : AmR} {xp : AmX} (h : am_thr am_IS as ws mc ms post xp) : am_Met l D Z (d + 6) yX11_ready as ws mc ms post xp :=
  am_throk (ik := 372) (ic := 374) hl0 (am_at 1389 (by decide +kernel) (by decide +kernel)) rfl am_dR0 am_dR1 am_dR4 am_dR7 am_dR8 am_dR11 am_dR12 (by decide +kernel) (am_at 1390 (by decide +kernel) (by decide +kernel)) (am_at 189 (by decide +kernel) (by decide +kernel)) (am_near 1323 140 (by decide +kernel)) (am_nearn 1323 140 (by decide +kernel)) (by decide +kernel) h
end
section
/-! methods with a table of handlers (the law's own wrappers): a throw is caught, and the body goes on -/
def am_hx (own : String) (hh : List (Nat × Nat × Nat × Nat)) : AmH := fun K pc lv C S E u =>
  ∃ (pre : List ExceptionTableEntry) (x : ExceptionTableEntry) (suf : List ExceptionTableEntry), tableOf hh = pre ++ x :: suf ∧ covers x pc = true ∧ x.catchType ≠ 0 ∧ Cond.classLink own x.catchType E ∈ am_T ∧ Cond.castable E E ∈ lw_tbl ∧
    (∀ z ∈ pre, z.catchType ≠ 0 ∧ E = am_IS ∧ Cond.classLink own z.catchType am_IA ∈ am_T) ∧ ∀ q, K x.handlerPc lv [.ref q] u C S
def am_wpW (Z : AmZ) (leaf : AmC) : Nat → AmC
  | 0 => am_no
  | d + 1 => fun y as ws mc ms post _ => ∃ cc nL rt hh n, Cond.codeWith y cc nL rt hh ∈ am_T ∧ nL ≤ 45 ∧ (lg_sl as).length ≤ nL ∧ plainFor y = true ∧ am_run Z none y.cls cc nL rt false (am_wp Z leaf d) am_no (am_hx y.cls hh) post n 0 (lv_args 0 as) [] ws mc ms
theorem am_wpWok {l : Launch} {D : va_G} {Z : AmZ} {leaf : AmC} (hleaf : ∀ d y as ws mc ms post xp, leaf y as ws mc ms post xp → am_Met l D Z (d + 6) y as ws mc ms post xp) : ∀ d y as ws mc ms post xp, am_wpW Z leaf d y as ws mc ms post xp → am_MetW l D Z d y as ws mc ms post xp := by
  intro d y as ws mc ms post xp h
  cases d with
  | zero => exact h.elim
  | succ d =>
    obtain ⟨cc, nL, rt, hh, n, w5, hnL, hlen, hpn, h⟩ := h
    refine ⟨cc, nL, rt, hh, w5, hnL, fun sz => ?_⟩
    refine am_ofWH (cc := cc) (maxL := nL) (ret := rt) (hh := hh) hpn rfl ?_
    intro p e s m args below meth c s₁ B hml hv
    obtain ⟨rfl, hsz, hP, hK, hD0, hnest, hU, hN⟩ := hv
    have hts : ∀ w ∈ am_T, w.before as.toArray s = true := fun w hw => atoms_spec (ws := Cond.codeWith y cc nL rt hh :: am_T) B.pre w (List.mem_cons_of_mem _ hw)
    have htb : c.exceptionTable.toList = tableOf hh := vx_table (x := y) B (hts _ w5)
    have hown : s.vm.findClass y.cls = some m.cls := findClass_of_methodNamed B.named
    subst hsz
    have hl := lv_entry as (n := nL) hlen
    rw [lg_entry_eq]
    generalize (lg_sl as ++ List.replicate (nL - (lg_sl as).length) Slot.unset).toArray = ls at hl ⊢
    refine am_runok (A := va_A ws s.heap.size) (mc := mc) (ms := ms) (d := d) hK B.exec B.bytes hml hown hts hnest (fun z => by cases z) (fun q hq => Or.inr hq) (fun _ _ _ z => by cases z) hU hN rfl rfl (Nat.le_refl _) (Nat.le_refl _) (am_wpok hleaf d) (fun _ _ _ _ _ _ _ z => z.elim) (am_ends hK B.exec B.bytes B.returns B.notSynchronized) ?_ n 0 (lv_args 0 as) [] ws mc ms h s.heap [] 0 0 ls hl hP hD0.self va_S.rf (by omega) (by omega)
    intro K KK pc lv ls rest q E ce u H1 locs1 cells slots C S hxp hl1 hP1 hD1 hS1 g1 g2 g3 hc hs
    obtain ⟨pre, x, suf, e1, e2, e3, e4, e5, e6, e7⟩ := hxp
    exact vx_catch hown pre x suf (htb.trans e1) (fun z hz => Or.inr ⟨(e6 z hz).1, am_IA, hts _ (e6 z hz).2.2, by rw [(e6 z hz).2.1]; exact hnest.2.2.1⟩) e2 e3 (hts _ e4) (va_Nw.use rfl (hnest.2.1 E E e5)) g1 g2 g3 (KK _ _ _ _ _ _ (e7 q) _ _ _ _ _ hl1 hP1 hD1 hS1 hc hs)
end
section
/-! THE CLAIM OUT OF ONE WALK OF THE LAW'S BODY. Your part is whole_start (and what it stands on); all else here is the same for every law, but numbers. -/
def R_law : String := "GraphHouseLaw"
def lw_P (b : Addr) (xs : List Int32) (args : Array Value) (s : State) : Prop := args = #[.ref b] ∧ s.IntsAt b xs ∧ xs.length ≤ 384 ∧ (Jvm.Cond.and given_1 narrow_1).before args s = true
def lw_Q (_ : Array Value) (s : State) (o : Outcome) (t : State) : Prop := o = .returned (some (.int 1)) ∧ Framed s o t [] 600128 7301098
def lw_Z (below : List Frame) (a : Array Value) (s : State) : State → Prop := fun t => ∃ o, t.status = .running ∧ Ended t below o ∧ lw_Q a s o t
/-- the law's own end, with 1 on the stack, nothing written that was there before, its room as the claim has it -/
theorem lw_ret {p : Program} {l : Launch} {e : Env} {s : State} {m : MethodId} {below : List Frame} {meth : Method} {c : Code} {b : Nat} (hx : p.tables.exec = Jvm.exec) (hb : c.code = code) (hr : meth.sig.returnType = ret) (hlocks : meth.locks = false) {pc : Nat} {H : Heap} {ls : Array Slot} (hdg : decode code pc = .ok (.ireturn, 1)) : W p l e room_1 s m #[Value.ref b] below meth c H [] 600128 7301098 (lw_Z below #[Value.ref b] s) (F0 m pc ls [.int 1]) := by
  intro T hT X
  obtain ⟨fs, hret, hrun, hended, hW, hframe⟩ := X.leave (v := some (.int 1)) (hlocks := hlocks) (fun h => by rw [hr] at h; cases h)
  have hmeth' : T.vm.method? m = some meth := X.method'
  refine ⟨T.setFrames fs, ?_, .returned (some (.int 1)), hrun, hended, rfl, ⟨_, rfl⟩, hW, hframe⟩
  jvm_step X.here [X.here.top, hx, hb, hdg, hmeth', hr, ret, narrow_b1]
  (try refine ⟨rfl, ?_⟩); (try refine ⟨rfl, ?_⟩)
  first | (intro acts; rw [hret _ acts rfl rfl rfl]) | rw [hret _ _ rfl rfl rfl]
  exact Steps.refl _
/-- what holds at the law's entry: the machine, the code, the tables' words (any of lw_tbl by 'hts w (by decide +kernel)'), the script of L ints xs at the cell b, what the Statement gives of the start (any of its parts by flat_of_before) -/
def lw_At (p : Program) (s : State) (m : MethodId) (meth : Method) (c : Code) (b L : Nat) (xs : Nat → Int32) : Prop :=
  p.tables.exec = Jvm.exec ∧ c.code = code ∧ meth.sig.returnType = ret ∧ c.maxLocals = 8 ∧ s.vm.findClass R_law = some m.cls ∧ (∀ w ∈ lw_tbl, w.before #[Value.ref b] s = true) ∧ va_X b L xs s s.heap ∧ b < s.heap.size ∧ meth.locks = false ∧ (Jvm.Cond.and given_1 narrow_1).before #[Value.ref b] s = true
/-- the leaves: allow and ready -/
def am_leaf : AmC := fun y as ws mc ms post xp => (y = yX11_allow ∧ am_thr am_IA as ws mc ms post xp) ∨ (y = yX11_ready ∧ am_thr am_IS as ws mc ms post xp)
theorem am_leafok {l : Launch} (hl0 : l.stackTraces = false) {D : va_G} {Z : AmZ} : ∀ d y as ws mc ms post xp, am_leaf y as ws mc ms post xp → am_Met l D Z (d + 6) y as ws mc ms post xp := by
  intro d y as ws mc ms post xp h
  rcases h with ⟨rfl, h⟩ | ⟨rfl, h⟩
  · exact am_allowok hl0 h
  · exact am_readyok hl0 h
theorem am_K {b : Nat} {s : State} (adK adV : Nat → Nat) (hts : ∀ w ∈ lw_tbl, w.before #[Value.ref b] s = true) : ∃ (D : va_G) (Z : AmZ), va_K D vwCl (am_tys Z) s ∧ Z.2.2.2.2 = (adK, adV) := by
  have H : ∀ k : Nat, ∃ (cC : ClassId) (iS : Nat → Nat), ∀ q : vw_C, vwCl[k]? = some q → u_Kn s q.1 q.2.1 q.2.2 cC iS := by
    intro k
    cases hk : vwCl[k]? with
    | none => exact ⟨0, fun _ => 0, fun q h => by cases h⟩
    | some q =>
      obtain ⟨Cn, T, N⟩ := q
      obtain ⟨cC, iS, h⟩ := u_known (C := Cn) (T := T) (N := N) (n := N) (fun w hw => hts w (am_tbl hw)) (am_in hk) (hts _ (am_tbl (am_inst hk)))
      exact ⟨cC, iS, fun q hq => by cases hq; exact h⟩
  have G : ∀ ty : FieldType, Cond.arrayClass ty ∈ lw_tbl → ∃ cA : ClassId, ArrOfT s cA ty ∧ s.vm.findClass ("[" ++ ty.toString) = some cA := by
    intro ty hw
    obtain ⟨cA, kA, comp, h1, h2, h3⟩ := Cond.arrayClass_spec (hts _ hw)
    exact ⟨cA, fun n z => ⟨fun k h => (by cases h), kA, h2, comp, h3⟩, h1⟩
  obtain ⟨c1, a1, b1⟩ := G _ (am_tbl am_arr_int)
  obtain ⟨c2, a2, b2⟩ := G _ (am_tbl am_arr_long)
  obtain ⟨c3, a3, b3⟩ := G _ (am_tbl am_arr_char)
  obtain ⟨c4, a4, b4⟩ := G _ (am_tbl am_arr_boolean)
  refine ⟨(fun k => Classical.choose (H k), fun k => Classical.choose (Classical.choose_spec (H k))), (c1, c2, c3, c4, adK, adV), ⟨fun k q hq => Classical.choose_spec (Classical.choose_spec (H k)) q hq, fun k q hk => ?_⟩, rfl⟩
  match k, hk with
  | 0, hk => cases hk; exact ⟨a1, b1⟩
  | 1, hk => cases hk; exact ⟨a2, b2⟩
  | 2, hk => cases hk; exact ⟨a3, b3⟩
  | 3, hk => cases hk; exact ⟨a4, b4⟩
  | k + 4, hk => simp [am_tys] at hk
/-! the String constants as they lie at the start -/
def am_tm (i : Nat) : Term := match am_lit[i]? with
  | some (o, k, _) => .string o k
  | none => .arg 0
set_option maxRecDepth 100000 in
theorem am_s1x : ∀ i, i < 7 → Cond.exactly (am_tm i) am_js ∈ flatC narrow_1 := by decide +kernel
set_option maxRecDepth 100000 in
theorem am_s2x : ∀ i, i < 7 → Cond.eq (.field (am_tm i) am_js "coder" "B") (.int 0) ∈ flatC narrow_1 := by decide +kernel
set_option maxRecDepth 100000 in
theorem am_s3x : ∀ i, i < 7 → Cond.arrayOf (.field (am_tm i) am_js "value" "[B") .byte ∈ flatC narrow_1 := by decide +kernel
set_option maxRecDepth 100000 in
theorem am_s4x : ∀ i, i < 7 → Cond.eq (.length (.field (am_tm i) am_js "value" "[B")) (.int (Int32.ofNat (am_len.getD i 0))) ∈ flatC narrow_1 := by decide +kernel
set_option maxRecDepth 100000 in
theorem am_s5x : ∀ i, i < 7 → ∀ j, j < am_len.getD i 0 → Cond.eq (.elem (.field (am_tm i) am_js "value" "[B") (.int (Int32.ofNat j))) (.int ((am_byt.getD i []).getD j 0)) ∈ flatC narrow_1 := by decide +kernel
set_option maxRecDepth 100000 in
theorem am_s6x : ∀ i, i < 7 → ∀ j, j < 7 → i ≠ j → Cond.not (.eq (am_tm i) (am_tm j)) ∈ flatC narrow_1 ∨ Cond.not (.eq (am_tm j) (am_tm i)) ∈ flatC narrow_1 := by decide +kernel
set_option maxRecDepth 100000 in
theorem am_s7x : Cond.eq (.static am_js "COMPACT_STRINGS" "Z") (.int 1) ∈ flatC narrow_1 := by decide +kernel
set_option maxRecDepth 100000 in
theorem am_s8x : Cond.isRef (.static "jdk/internal/util/Preconditions" "SIOOBE_FORMATTER" "Ljava/util/function/BiFunction;") ∈ flatC narrow_1 := by decide +kernel
theorem am_s9x : ∀ i, i < 7 → am_len.getD i 0 < 2 ^ 31 := by decide
theorem am_s10x {k : Nat} {own : String} {i : Nat} {tx : String} (h : am_lit[k]? = some (own, i, tx)) : Cond.stringRef own i tx ∈ lw_tbl ∧ k < 7 ∧ am_tm k = .string own i := by
  match k, h with
  | 0, h => cases h; exact ⟨List.mem_of_getElem? (i := 859) (by decide +kernel), by decide, rfl⟩
  | 1, h => cases h; exact ⟨List.mem_of_getElem? (i := 953) (by decide +kernel), by decide, rfl⟩
  | 2, h => cases h; exact ⟨List.mem_of_getElem? (i := 954) (by decide +kernel), by decide, rfl⟩
  | 3, h => cases h; exact ⟨List.mem_of_getElem? (i := 955) (by decide +kernel), by decide, rfl⟩
  | 4, h => cases h; exact ⟨List.mem_of_getElem? (i := 956) (by decide +kernel), by decide, rfl⟩
  | 5, h => cases h; exact ⟨List.mem_of_getElem? (i := 957) (by decide +kernel), by decide, rfl⟩
  | 6, h => cases h; exact ⟨List.mem_of_getElem? (i := 1298) (by decide +kernel), by decide, rfl⟩
  | k + 7, h => simp [am_lit] at h
set_option maxRecDepth 100000 in
theorem am_notISIA : Cond.not (.castable am_IS am_IA) ∈ flatC (Jvm.Cond.and given_1 narrow_1) := by decide +kernel
set_option maxRecDepth 100000 in
theorem am_isU : Cond.isRef (.static Bundle.tN "UNASSIGNED_STACK" Bundle.steD) ∈ flatC (Jvm.Cond.and given_1 narrow_1) := by decide +kernel
set_option maxRecDepth 100000 in
theorem am_isN : Cond.isRef (.static Bundle.tN "SUPPRESSED_SENTINEL" Bundle.listD) ∈ flatC (Jvm.Cond.and given_1 narrow_1) := by decide +kernel
set_option maxRecDepth 100000 in
/-- THE LAW: what the layer says of its body, the machine does -/
theorem am_law {p : Program} {e : Env} {s : State} {m : MethodId} {below : List Frame} {meth : Method} {c : Code} {l : Launch} (hl0 : l.stackTraces = false) {b L : Nat} {xs : Nat → Int32} (C0 : lw_At p s m meth c b L xs)
    (hlaw : ∀ Z : AmZ, ∃ n, am_run Z (some (b, L, xs)) RL code 8 ret false (am_wp Z am_leaf 1300) (am_wpW Z am_leaf 1300) (fun _ _ _ _ _ _ _ => False) (fun v _ => v = some (.int 1)) n 0 [(0, .ref b)] [] [] 600128 7301098) :
    W p l e room_1 s m #[Value.ref b] below meth c s.heap [] 0 0 (lw_Z below #[Value.ref b] s) (entryFrame m ([Value.ref b] : List Value).toArray 8) := by
  obtain ⟨hx, hb, hr, hml, hown, hts, hX, hbl, hlocks, hgv⟩ := id C0
  have hfl := flat_of_before _ hgv
  have hnw : narrow_1.before #[Value.ref b] s = true := by
    have h9 := hgv
    simp only [Cond.before_and, Bool.and_eq_true] at h9
    exact h9.2
  have hfn := flat_of_before _ hnw
  have hA0 : ∀ a : Nat, a < s.heap.size → ¬ (fun q : Nat => s.heap.size ≤ q) a := fun a h1 h2 => Nat.not_le.mpr h1 h2
  obtain ⟨adK, adV, hvS, hev⟩ := vk_Sof (args := #[Value.ref b]) (s := s) (N := 7) (tm := am_tm) (len := am_len) (byt := am_byt) (A := fun q : Nat => s.heap.size ≤ q) am_s9x (fun i hi => hfn _ (am_s1x i hi)) (fun i hi => hfn _ (am_s2x i hi)) (fun i hi => hfn _ (am_s3x i hi)) (fun i hi => hfn _ (am_s4x i hi)) (fun i hi j hj => hfn _ (am_s5x i hi j hj)) (fun i j hi hj hij => (am_s6x i hi j hj hij).imp (fun z => hfn _ z) (fun z => hfn _ z)) hA0
  obtain ⟨D, Z, hK, hZs⟩ := am_K adK adV hts
  obtain ⟨n, hn⟩ := hlaw Z
  have hnest : am_nest s := ⟨fun own i y host hw => va_Nw.of rfl (hts _ hw), fun C T hw => va_Nw.of rfl (hts _ hw), va_Nc.of (hfl _ am_notISIA), fun x hw => va_Nw.of rfl (hts _ hw)⟩
  have hini : (Cond.initialized Bundle.tN).before #[Value.ref b] s = true := hts _ (List.mem_of_getElem? (i := 185) (by decide +kernel))
  have hU := vx_Zqof (A := fun q : Nat => s.heap.size ≤ q) (hts (.laysStatic Bundle.tN "UNASSIGNED_STACK" Bundle.steD) (List.mem_of_getElem? (i := 1351) (by decide +kernel))) hini (hfl _ am_isU) hA0
  have hN0 := vx_Zqof (A := fun q : Nat => s.heap.size ≤ q) (hts (.laysStatic Bundle.tN "SUPPRESSED_SENTINEL" Bundle.listD) (List.mem_of_getElem? (i := 1353) (by decide +kernel))) hini (hfl _ am_isN) hA0
  have hzk : ∀ k, zs Z k = adK k := fun k => by show Z.2.2.2.2.1 k = adK k; rw [hZs]
  have hN : am_N Z (fun q : Nat => s.heap.size ≤ q) s s.heap := by
    refine ⟨hN0, by rw [hZs]; exact hvS, fun k own i tx e => ?_, va_Zof (hts (.laysStatic am_js "COMPACT_STRINGS" "Z") (List.mem_of_getElem? (i := 873) (by decide +kernel))) (hts (.initialized am_js) (List.mem_of_getElem? (i := 192) (by decide +kernel))) (va_eqt (hfn _ am_s7x)) hA0, va_Zqof (hts (.laysStatic "jdk/internal/util/Preconditions" "SIOOBE_FORMATTER" "Ljava/util/function/BiFunction;") (List.mem_of_getElem? (i := 916) (by decide +kernel))) (hts (.initialized "jdk/internal/util/Preconditions") (List.mem_of_getElem? (i := 195) (by decide +kernel))) (hfn _ am_s8x) hA0⟩
    obtain ⟨g1, g2, g3⟩ := am_s10x e
    have h9 := hev k g2
    rw [g3] at h9
    rw [hzk]
    exact vk_R.of (hts _ g1) h9
  have hP : va_P D vwCl [] s.heap := fun k q h => by simp at h
  have hD : va_D (fun q : Nat => s.heap.size ≤ q) [] := ⟨fun i j p q h => by simp at h, fun k q h => by simp at h⟩
  have hl := lv_entry ([.ref b]) (n := 8) (Nat.le_of_ble_eq_true rfl)
  rw [lg_entry_eq]
  generalize (lg_sl ([.ref b]) ++ List.replicate (8 - (lg_sl ([.ref b])).length) Slot.unset).toArray = ls at hl ⊢
  refine am_runok (A := fun q : Nat => s.heap.size ≤ q) (mc := 600128) (ms := 7301098) (d := 1300) hK hx hb hml hown (fun w hw => hts w (am_tbl hw)) hnest (fun z => by cases z) (fun q hq => hq) (fun b1 L1 xs1 z => ?_) hU hN rfl rfl (by decide +kernel) (by decide +kernel) (am_wpok (am_leafok hl0) 1300) (am_wpWok (am_leafok hl0) 1300) ?_ (fun K _ pc lv ls rest q E ce u H1 locs1 cells slots C S h => h.elim) n 0 [(0, .ref b)] [] [] 600128 7301098 hn s.heap [] 0 0 ls hl hP hD va_S.rf (by omega) (by omega)
  · cases z
    exact ⟨hX, hbl, Nat.not_le.mpr hbl⟩
  · intro pc ls st ws H locs cells slots h hP hD hS hc hs
    unfold am_end at h
    split at h
    · rename_i hd
      obtain ⟨v, ty, rfl, -, -, h⟩ := h
      cases h
      exact va_forget (fun q hq => hS.2.2 q hq) (W.widen hc hs (lw_ret hx hb hr hlocks hd))
    · obtain ⟨v, rfl, h1, h2⟩ := h
      cases h2
    · obtain ⟨v, ty, rfl, h1, h2, h3⟩ := h
      cases h3
    · obtain ⟨h1, h2, h3⟩ := h
      cases h3
    · exact h.elim
end
section
/-! more fuel, weaker ends: am_run and am_wp are monotone -/
theorem am_mono {Z : AmZ} {scr : AmS} {own : String} {cc : ByteArray} {nL : Nat} {rt : Option FieldType} {ini : Bool} {call callW : AmC} {xh xh' : AmH} {ret ret' : AmR} {K K' : AmK} (hK : ∀ pc lv st ws C S, K pc lv st ws C S → K' pc lv st ws C S) (hret : ∀ v u, ret v u → ret' v u)
    (hcall : ∀ y as ws mc ms post post' xp xp', (∀ v u, post v u → post' v u) → (∀ E u, xp E u → xp' E u) → call y as ws mc ms post xp → call y as ws mc ms post' xp') (hcallW : ∀ y as ws mc ms post post' xp xp', (∀ v u, post v u → post' v u) → (∀ E u, xp E u → xp' E u) → callW y as ws mc ms post xp → callW y as ws mc ms post' xp') (hxh : ∀ pc lv C S E u, xh K pc lv C S E u → xh' K' pc lv C S E u)
    {pc : Nat} {lv : List (Nat × Value)} {st : List Value} {ws : va_W} {C S : Nat} (h : am_stp Z scr own cc nL rt ini call callW xh ret K pc lv st ws C S) : am_stp Z scr own cc nL rt ini call callW xh' ret' K' pc lv st ws C S := by
  unfold am_stp at h
  unfold am_stp
  split at h
  · rename_i hd
    exact hK _ _ _ _ _ _ h
  · rename_i hd
    exact hK _ _ _ _ _ _ h
  · rename_i hd
    exact hK _ _ _ _ _ _ h
  · rename_i hd
    exact hK _ _ _ _ _ _ h
  · rename_i hd
    rcases h with ⟨v, hw, h⟩ | ⟨k, tx, e1, h⟩
    · exact Or.inl ⟨v, hw, hK _ _ _ _ _ _ h⟩
    · exact Or.inr ⟨k, tx, e1, hK _ _ _ _ _ _ h⟩
  · rename_i hd
    obtain ⟨x, r, e0, h⟩ := h; exact ⟨x, r, e0, hK _ _ _ _ _ _ h⟩
  · rename_i hd
    rcases h with ⟨hw, h⟩ | ⟨hw, h⟩
    · exact Or.inl ⟨hw, hK _ _ _ _ _ _ h⟩
    · exact Or.inr ⟨hw, fun v hv => hK _ _ _ _ _ _ (h v hv)⟩
  · rename_i hd
    obtain ⟨v, hw, h⟩ := h; exact ⟨v, hw, hK _ _ _ _ _ _ h⟩
  · rename_i hd
    obtain ⟨v, hw, h⟩ := h; exact ⟨v, hw, hK _ _ _ _ _ _ h⟩
  · rename_i hd
    obtain ⟨x, hm, h⟩ := h; exact ⟨x, hm, hK _ _ _ _ _ _ h⟩
  · rename_i hd
    obtain ⟨x, hm, h⟩ := h; exact ⟨x, hm, hK _ _ _ _ _ _ h⟩
  · rename_i hd
    obtain ⟨x, r, e0, hn, h⟩ := h; exact ⟨x, r, e0, hn, hK _ _ _ _ _ _ h⟩
  · rename_i hd
    obtain ⟨x, r, e0, hn, h⟩ := h; exact ⟨x, r, e0, hn, hK _ _ _ _ _ _ h⟩
  · rename_i hd
    obtain ⟨x, hm, h⟩ := h; exact ⟨x, hm, hK _ _ _ _ _ _ h⟩
  · rename_i hd
    obtain ⟨x, hm, h⟩ := h; exact ⟨x, hm, hK _ _ _ _ _ _ h⟩
  · rename_i hd
    obtain ⟨x, r, e0, hn, h⟩ := h; exact ⟨x, r, e0, hn, hK _ _ _ _ _ _ h⟩
  · rename_i hd
    obtain ⟨x, r, e0, hn, h⟩ := h; exact ⟨x, r, e0, hn, hK _ _ _ _ _ _ h⟩
  · rename_i hd
    obtain ⟨x, hm, h⟩ := h; exact ⟨x, hm, hK _ _ _ _ _ _ h⟩
  · rename_i hd
    obtain ⟨x, hm, h⟩ := h; exact ⟨x, hm, hK _ _ _ _ _ _ h⟩
  · rename_i hd
    obtain ⟨x, r, e0, hn, h⟩ := h; exact ⟨x, r, e0, hn, hK _ _ _ _ _ _ h⟩
  · rename_i hd
    obtain ⟨x, r, e0, hn, h⟩ := h; exact ⟨x, r, e0, hn, hK _ _ _ _ _ _ h⟩
  · rename_i hd
    obtain ⟨x, hm, hn, h⟩ := h; exact ⟨x, hm, hn, hK _ _ _ _ _ _ h⟩
  · rename_i hd
    obtain ⟨x, y, r, e0, h⟩ := h; exact ⟨x, y, r, e0, hK _ _ _ _ _ _ h⟩
  · rename_i hd
    obtain ⟨x, y, r, e0, h⟩ := h; exact ⟨x, y, r, e0, hK _ _ _ _ _ _ h⟩
  · rename_i hd
    obtain ⟨x, y, r, e0, h⟩ := h; exact ⟨x, y, r, e0, hK _ _ _ _ _ _ h⟩
  · rename_i hd
    obtain ⟨x, y, r, e0, h⟩ := h; exact ⟨x, y, r, e0, hK _ _ _ _ _ _ h⟩
  · rename_i hd
    obtain ⟨x, y, r, e0, h⟩ := h; exact ⟨x, y, r, e0, hK _ _ _ _ _ _ h⟩
  · rename_i hd
    obtain ⟨x, y, r, e0, h⟩ := h; exact ⟨x, y, r, e0, hK _ _ _ _ _ _ h⟩
  · rename_i hd
    obtain ⟨x, y, r, e0, h⟩ := h; exact ⟨x, y, r, e0, hK _ _ _ _ _ _ h⟩
  · rename_i hd
    obtain ⟨x, y, r, e0, h⟩ := h; exact ⟨x, y, r, e0, hK _ _ _ _ _ _ h⟩
  · rename_i hd
    obtain ⟨x, y, r, e0, h⟩ := h; exact ⟨x, y, r, e0, hK _ _ _ _ _ _ h⟩
  · rename_i hd
    obtain ⟨x, y, r, e0, hz, h⟩ := h; exact ⟨x, y, r, e0, hz, hK _ _ _ _ _ _ h⟩
  · rename_i hd
    obtain ⟨x, y, r, e0, hz, h⟩ := h; exact ⟨x, y, r, e0, hz, hK _ _ _ _ _ _ h⟩
  · rename_i hd
    obtain ⟨x, y, r, e0, h⟩ := h; exact ⟨x, y, r, e0, hK _ _ _ _ _ _ h⟩
  · rename_i hd
    obtain ⟨x, y, r, e0, h⟩ := h; exact ⟨x, y, r, e0, hK _ _ _ _ _ _ h⟩
  · rename_i hd
    obtain ⟨x, y, r, e0, h⟩ := h; exact ⟨x, y, r, e0, hK _ _ _ _ _ _ h⟩
  · rename_i hd
    obtain ⟨x, y, r, e0, h⟩ := h; exact ⟨x, y, r, e0, hK _ _ _ _ _ _ h⟩
  · rename_i hd
    obtain ⟨x, y, r, e0, h⟩ := h; exact ⟨x, y, r, e0, hK _ _ _ _ _ _ h⟩
  · rename_i hd
    obtain ⟨x, y, r, e0, h⟩ := h; exact ⟨x, y, r, e0, hK _ _ _ _ _ _ h⟩
  · rename_i hd
    obtain ⟨x, y, r, e0, hz, h⟩ := h; exact ⟨x, y, r, e0, hz, hK _ _ _ _ _ _ h⟩
  · rename_i hd
    obtain ⟨x, y, r, e0, hz, h⟩ := h; exact ⟨x, y, r, e0, hz, hK _ _ _ _ _ _ h⟩
  · rename_i hd
    obtain ⟨x, y, r, e0, h⟩ := h; exact ⟨x, y, r, e0, hK _ _ _ _ _ _ h⟩
  · rename_i hd
    obtain ⟨x, y, r, e0, h⟩ := h; exact ⟨x, y, r, e0, hK _ _ _ _ _ _ h⟩
  · rename_i hd
    obtain ⟨x, y, r, e0, h⟩ := h; exact ⟨x, y, r, e0, hK _ _ _ _ _ _ h⟩
  · rename_i hd
    obtain ⟨x, y, r, e0, h⟩ := h; exact ⟨x, y, r, e0, hK _ _ _ _ _ _ h⟩
  · rename_i hd
    obtain ⟨x, r, e0, h⟩ := h; exact ⟨x, r, e0, hK _ _ _ _ _ _ h⟩
  · rename_i hd
    obtain ⟨x, r, e0, h⟩ := h; exact ⟨x, r, e0, hK _ _ _ _ _ _ h⟩
  · rename_i hd
    obtain ⟨x, r, e0, h⟩ := h; exact ⟨x, r, e0, hK _ _ _ _ _ _ h⟩
  · rename_i hd
    obtain ⟨x, r, e0, h⟩ := h; exact ⟨x, r, e0, hK _ _ _ _ _ _ h⟩
  · rename_i hd
    obtain ⟨x, r, e0, h⟩ := h; exact ⟨x, r, e0, hK _ _ _ _ _ _ h⟩
  · rename_i hd
    obtain ⟨v, r, e0, hv, h⟩ := h; exact ⟨v, r, e0, hv, hK _ _ _ _ _ _ h⟩
  · rename_i hd
    obtain ⟨v, r, e0, hv, h⟩ := h; exact ⟨v, r, e0, hv, hK _ _ _ _ _ _ h⟩
  · rename_i hd
    obtain ⟨v, r, e0, hv, h⟩ := h; exact ⟨v, r, e0, hv, hK _ _ _ _ _ _ h⟩
  · rename_i hd
    obtain ⟨v, w, r, e0, hv, hw, h⟩ := h; exact ⟨v, w, r, e0, hv, hw, hK _ _ _ _ _ _ h⟩
  · rename_i hd
    obtain ⟨x, r, e0, ho, h1, h2⟩ := h; exact ⟨x, r, e0, ho, fun z => hK _ _ _ _ _ _ (h1 z), fun z => hK _ _ _ _ _ _ (h2 z)⟩
  · rename_i hd
    obtain ⟨x, r, e0, ho, h1, h2⟩ := h; exact ⟨x, r, e0, ho, fun z => hK _ _ _ _ _ _ (h1 z), fun z => hK _ _ _ _ _ _ (h2 z)⟩
  · rename_i hd
    obtain ⟨x, r, e0, ho, h1, h2⟩ := h; exact ⟨x, r, e0, ho, fun z => hK _ _ _ _ _ _ (h1 z), fun z => hK _ _ _ _ _ _ (h2 z)⟩
  · rename_i hd
    obtain ⟨x, r, e0, ho, h1, h2⟩ := h; exact ⟨x, r, e0, ho, fun z => hK _ _ _ _ _ _ (h1 z), fun z => hK _ _ _ _ _ _ (h2 z)⟩
  · rename_i hd
    obtain ⟨x, r, e0, ho, h1, h2⟩ := h; exact ⟨x, r, e0, ho, fun z => hK _ _ _ _ _ _ (h1 z), fun z => hK _ _ _ _ _ _ (h2 z)⟩
  · rename_i hd
    obtain ⟨x, r, e0, ho, h1, h2⟩ := h; exact ⟨x, r, e0, ho, fun z => hK _ _ _ _ _ _ (h1 z), fun z => hK _ _ _ _ _ _ (h2 z)⟩
  · rename_i hd
    obtain ⟨x, y, r, e0, ho, h1, h2⟩ := h; exact ⟨x, y, r, e0, ho, fun z => hK _ _ _ _ _ _ (h1 z), fun z => hK _ _ _ _ _ _ (h2 z)⟩
  · rename_i hd
    obtain ⟨x, y, r, e0, ho, h1, h2⟩ := h; exact ⟨x, y, r, e0, ho, fun z => hK _ _ _ _ _ _ (h1 z), fun z => hK _ _ _ _ _ _ (h2 z)⟩
  · rename_i hd
    obtain ⟨x, y, r, e0, ho, h1, h2⟩ := h; exact ⟨x, y, r, e0, ho, fun z => hK _ _ _ _ _ _ (h1 z), fun z => hK _ _ _ _ _ _ (h2 z)⟩
  · rename_i hd
    obtain ⟨x, y, r, e0, ho, h1, h2⟩ := h; exact ⟨x, y, r, e0, ho, fun z => hK _ _ _ _ _ _ (h1 z), fun z => hK _ _ _ _ _ _ (h2 z)⟩
  · rename_i hd
    obtain ⟨x, y, r, e0, ho, h1, h2⟩ := h; exact ⟨x, y, r, e0, ho, fun z => hK _ _ _ _ _ _ (h1 z), fun z => hK _ _ _ _ _ _ (h2 z)⟩
  · rename_i hd
    obtain ⟨x, y, r, e0, ho, h1, h2⟩ := h; exact ⟨x, y, r, e0, ho, fun z => hK _ _ _ _ _ _ (h1 z), fun z => hK _ _ _ _ _ _ (h2 z)⟩
  · rename_i hd
    exact ⟨h.1, hK _ _ _ _ _ _ h.2⟩
  · rename_i df lo hi os ln hd
    obtain ⟨x, r, e0, h1, h2, h3⟩ := h; exact ⟨x, r, e0, fun o z1 z2 z3 => ⟨(h1 o z1 z2 z3).1, hK _ _ _ _ _ _ (h1 o z1 z2 z3).2⟩, h2, fun z => ⟨(h3 z).1, hK _ _ _ _ _ _ (h3 z).2⟩⟩
  · rename_i hd
    obtain ⟨x, r, e0, hp, ho, h⟩ := h; exact ⟨x, r, e0, hp, ho, hK _ _ _ _ _ _ h⟩
  · rename_i hd
    rcases h with ⟨a, r, q, ci, fs, Cn, T, N, k, v, e0, he, hcl, hk, hw, hv, h⟩ | ⟨k, r, hk, e0, ⟨hw, h⟩ | ⟨hw, h⟩⟩
    · exact Or.inl ⟨a, r, q, ci, fs, Cn, T, N, k, v, e0, he, hcl, hk, hw, hv, hK _ _ _ _ _ _ h⟩
    · exact Or.inr ⟨k, r, hk, e0, Or.inl ⟨hw, hK _ _ _ _ _ _ h⟩⟩
    · exact Or.inr ⟨k, r, hk, e0, Or.inr ⟨hw, hK _ _ _ _ _ _ h⟩⟩
  · rename_i hd
    obtain ⟨a, r, q, ci, fs, Cn, T, N, k, v, e0, he, hcl, hk, hw, hkl, hnar, hfit, hfin, h⟩ := h; exact ⟨a, r, q, ci, fs, Cn, T, N, k, v, e0, he, hcl, hk, hw, hkl, hnar, hfit, hfin, hK _ _ _ _ _ _ h⟩
  · rename_i hd
    rcases h with ⟨b, L, xs, j, r, e9, e0, hin, h⟩ | ⟨a, j, r, q, n, f, e0, he, hin, h⟩
    · exact Or.inl ⟨b, L, xs, j, r, e9, e0, hin, hK _ _ _ _ _ _ h⟩
    · exact Or.inr ⟨a, j, r, q, n, f, e0, he, hin, hK _ _ _ _ _ _ h⟩
  · rename_i hd
    obtain ⟨a, j, r, q, n, f, e0, he, hin, h⟩ := h; exact ⟨a, j, r, q, n, f, e0, he, hin, hK _ _ _ _ _ _ h⟩
  · rename_i hd
    obtain ⟨a, j, r, q, n, f, e0, he, hin, h⟩ := h; exact ⟨a, j, r, q, n, f, e0, he, hin, hK _ _ _ _ _ _ h⟩
  · rename_i hd
    rcases h with ⟨a, j, r, q, n, f, e0, he, hin, h⟩ | ⟨k, j, r, hk, e0, hin, h⟩
    · exact Or.inl ⟨a, j, r, q, n, f, e0, he, hin, hK _ _ _ _ _ _ h⟩
    · exact Or.inr ⟨k, j, r, hk, e0, hin, hK _ _ _ _ _ _ h⟩
  · rename_i hd
    obtain ⟨a, j, x, r, q, n, f, e0, he, hin, h⟩ := h; exact ⟨a, j, x, r, q, n, f, e0, he, hin, hK _ _ _ _ _ _ h⟩
  · rename_i hd
    obtain ⟨a, j, x, r, q, n, f, e0, he, hin, h⟩ := h; exact ⟨a, j, x, r, q, n, f, e0, he, hin, hK _ _ _ _ _ _ h⟩
  · rename_i hd
    obtain ⟨a, j, x, r, q, n, f, e0, he, hin, h⟩ := h; exact ⟨a, j, x, r, q, n, f, e0, he, hin, hK _ _ _ _ _ _ h⟩
  · rename_i hd
    obtain ⟨a, j, x, r, q, n, f, e0, he, hin, h⟩ := h; exact ⟨a, j, x, r, q, n, f, e0, he, hin, hK _ _ _ _ _ _ h⟩
  · rename_i hd
    rcases h with ⟨b, L, xs, r, e9, e0, h⟩ | ⟨a, r, q, cA, x, t, ty, e0, he, ht, h⟩ | ⟨k, r, hk, e0, h⟩
    · exact Or.inl ⟨b, L, xs, r, e9, e0, hK _ _ _ _ _ _ h⟩
    · exact Or.inr (Or.inl ⟨a, r, q, cA, x, t, ty, e0, he, ht, hK _ _ _ _ _ _ h⟩)
    · exact Or.inr (Or.inr ⟨k, r, hk, e0, hK _ _ _ _ _ _ h⟩)
  · rename_i hd
    obtain ⟨ci, Cn, T, N, hcl, hw, h1, h2, h⟩ := h; exact ⟨ci, Cn, T, N, hcl, hw, h1, h2, fun q hq => hK _ _ _ _ _ _ (h q hq)⟩
  · rename_i hd
    obtain ⟨n, r, e0, hn, hbig, h1, h2, h⟩ := h; exact ⟨n, r, e0, hn, hbig, h1, h2, fun q hq => hK _ _ _ _ _ _ (h q hq)⟩
  · rename_i hd
    obtain ⟨n, r, e0, hn, hbig, h1, h2, h⟩ := h; exact ⟨n, r, e0, hn, hbig, h1, h2, fun q hq => hK _ _ _ _ _ _ (h q hq)⟩
  · rename_i hd
    obtain ⟨n, r, e0, hn, hbig, h1, h2, h⟩ := h; exact ⟨n, r, e0, hn, hbig, h1, h2, fun q hq => hK _ _ _ _ _ _ (h q hq)⟩
  · rename_i hd
    obtain ⟨n, r, e0, hn, hbig, h1, h2, h⟩ := h; exact ⟨n, r, e0, hn, hbig, h1, h2, fun q hq => hK _ _ _ _ _ _ (h q hq)⟩
  · rename_i hd
    rcases h with ⟨y, b, As, r, mc1, ms1, q, ci, fs, T, N, e0, hpl, w1, w2, w3, w4, he, hcl, hcat, h1, h2, h⟩ | ⟨y, b, As, r, mc1, ms1, k, e0, hpl, w1, w2, w3, w4, hk, eb, hcs, hcat, h1, h2, h⟩
    · exact Or.inl ⟨y, b, As, r, mc1, ms1, q, ci, fs, T, N, e0, hpl, w1, w2, w3, w4, he, hcl, hcat, h1, h2, hcall _ _ _ _ _ _ _ _ _ (fun v u => hK _ _ _ _ _ _) (fun E u => hxh _ _ _ _ E u) h⟩
    · exact Or.inr ⟨y, b, As, r, mc1, ms1, k, e0, hpl, w1, w2, w3, w4, hk, eb, hcs, hcat, h1, h2, hcall _ _ _ _ _ _ _ _ _ (fun v u => hK _ _ _ _ _ _) (fun E u => hxh _ _ _ _ E u) h⟩
  · rename_i hd
    rcases h with h | h
    · obtain ⟨n, dp, a, sp, a0, r, q0, q1, n0, n1, e0, w1, hcat, h1, h2, h3, h4, h5, h⟩ := h
      refine Or.inl ⟨n, dp, a, sp, a0, r, q0, q1, n0, n1, e0, w1, hcat, h1, h2, h3, h4, h5, ?_⟩
      rcases h with ⟨f, g, ha0, ha1, h⟩ | ⟨f, g, ha0, ha1, h⟩
      · exact Or.inl ⟨f, g, ha0, ha1, hK _ _ _ _ _ _ h⟩
      · exact Or.inr ⟨f, g, ha0, ha1, hK _ _ _ _ _ _ h⟩
    · obtain ⟨y, As, r, mc1, ms1, e0, hpl, w2, w4, hcat, h1, h2, h⟩ := h
      refine Or.inr ⟨y, As, r, mc1, ms1, e0, hpl, w2, w4, hcat, h1, h2, ?_⟩
      rcases h with h | h | ⟨host, w1, h⟩
      · exact Or.inl ⟨h.1, hcall _ _ _ _ _ _ _ _ _ (fun v u => hK _ _ _ _ _ _) (fun E u => hxh _ _ _ _ E u) h.2⟩
      · exact Or.inr (Or.inl ⟨h.1, hcallW _ _ _ _ _ _ _ _ _ (fun v u => hK _ _ _ _ _ _) (fun E u => id) h.2⟩)
      · exact Or.inr (Or.inr ⟨host, w1, hcall _ _ _ _ _ _ _ _ _ (fun v u => hK _ _ _ _ _ _) (fun E u => id) h⟩)
  · rename_i hd
    rcases h with ⟨a, r, e0, hcat, w1, h⟩ | ⟨y, b, As, r, mc1, ms1, e0, hpl, hyn, w2, w4, hcat, h1, h2, hcd, hlk, h⟩
    · exact Or.inl ⟨a, r, e0, hcat, w1, hK _ _ _ _ _ _ h⟩
    · exact Or.inr ⟨y, b, As, r, mc1, ms1, e0, hpl, hyn, w2, w4, hcat, h1, h2, hcd, hlk, hcall _ _ _ _ _ _ _ _ _ (fun v u => hK _ _ _ _ _ _) (fun E u => id) h⟩
  · rename_i hd
    obtain ⟨v, ty, e0, e1, hn, h⟩ := h; exact ⟨v, ty, e0, e1, hn, hret _ _ h⟩
  · rename_i hd
    obtain ⟨v, e0, e1, h⟩ := h; exact ⟨v, e0, e1, hret _ _ h⟩
  · rename_i hd
    obtain ⟨v, ty, e0, e1, hn, h⟩ := h; exact ⟨v, ty, e0, e1, hn, hret _ _ h⟩
  · rename_i hd
    exact ⟨h.1, h.2.1, hret _ _ h.2.2⟩
  · exact h.elim
theorem am_run_mono {Z : AmZ} {scr : AmS} {own : String} {cc : ByteArray} {nL : Nat} {rt : Option FieldType} {ini : Bool} {call callW : AmC} {xh xh' : AmH} {ret ret' : AmR} (hret : ∀ v u, ret v u → ret' v u)
    (hcall : ∀ y as ws mc ms post post' xp xp', (∀ v u, post v u → post' v u) → (∀ E u, xp E u → xp' E u) → call y as ws mc ms post xp → call y as ws mc ms post' xp') (hcallW : ∀ y as ws mc ms post post' xp xp', (∀ v u, post v u → post' v u) → (∀ E u, xp E u → xp' E u) → callW y as ws mc ms post xp → callW y as ws mc ms post' xp')
    (hxh : ∀ K K' : AmK, (∀ pc lv st ws C S, K pc lv st ws C S → K' pc lv st ws C S) → ∀ pc lv C S E u, xh K pc lv C S E u → xh' K' pc lv C S E u) : ∀ n n', n ≤ n' → ∀ pc lv st ws C S, am_run Z scr own cc nL rt ini call callW xh ret n pc lv st ws C S → am_run Z scr own cc nL rt ini call callW xh' ret' n' pc lv st ws C S := by
  intro n
  induction n with
  | zero => intro n' _ pc lv st ws C S h; exact h.elim
  | succ n ih =>
    intro n' hn pc lv st ws C S h
    obtain ⟨k, rfl⟩ : ∃ k, n' = k + 1 := ⟨n' - 1, by omega⟩
    rcases h with h | ⟨ws', hs, h⟩
    · exact Or.inl (am_mono (ih k (by omega)) hret hcall hcallW (hxh _ _ (ih k (by omega))) h)
    · exact Or.inr ⟨ws', hs, ih k (by omega) pc lv st ws' C S h⟩
theorem am_wp_mono {Z : AmZ} {leaf : AmC} (hleaf : ∀ y as ws mc ms post post' xp xp', (∀ v u, post v u → post' v u) → (∀ E u, xp E u → xp' E u) → leaf y as ws mc ms post xp → leaf y as ws mc ms post' xp') : ∀ d y as ws mc ms post post' xp xp', (∀ v u, post v u → post' v u) → (∀ E u, xp E u → xp' E u) → am_wp Z leaf d y as ws mc ms post xp → am_wp Z leaf d y as ws mc ms post' xp' := by
  intro d
  induction d with
  | zero => intro y as ws mc ms post post' xp xp' _ _ h; exact h.elim
  | succ d ih =>
    intro y as ws mc ms post post' xp xp' h1 h2 h
    rcases h with ⟨h5, h⟩ | ⟨cc, nL, rt, n, w5, hnL, hlen, hpn, h⟩
    · exact Or.inl ⟨h5, hleaf _ _ _ _ _ _ _ _ _ h1 h2 h⟩
    · exact Or.inr ⟨cc, nL, rt, n, w5, hnL, hlen, hpn, am_run_mono h1 ih (fun _ _ _ _ _ _ _ _ _ _ _ z => z.elim) (fun _ _ _ _ _ _ _ E u => h2 E u) n n (Nat.le_refl n) _ _ _ _ _ _ h⟩
theorem am_leaf_mono : ∀ y as ws mc ms post post' xp xp', (∀ v u, post v u → post' v u) → (∀ E u, xp E u → xp' E u) → am_leaf y as ws mc ms post xp → am_leaf y as ws mc ms post' xp' := by
  intro y as ws mc ms post post' xp xp' h1 h2 h
  rcases h with ⟨rfl, g, e0, k1, k2⟩ | ⟨rfl, g, e0, k1, k2⟩
  · exact Or.inl ⟨rfl, g, e0, fun z => h1 _ _ (k1 z), fun z => ⟨(k2 z).1, (k2 z).2.1, h2 _ _ (k2 z).2.2⟩⟩
  · exact Or.inr ⟨rfl, g, e0, fun z => h1 _ _ (k1 z), fun z => ⟨(k2 z).1, (k2 z).2.1, h2 _ _ (k2 z).2.2⟩⟩
theorem am_hx_mono {own : String} {hh : List (Nat × Nat × Nat × Nat)} : ∀ K K' : AmK, (∀ pc lv st ws C S, K pc lv st ws C S → K' pc lv st ws C S) → ∀ pc lv C S E u, am_hx own hh K pc lv C S E u → am_hx own hh K' pc lv C S E u := by
  intro K K' hK pc lv C S E u h
  obtain ⟨pre, x, suf, e1, e2, e3, e4, e5, e6, e7⟩ := h
  exact ⟨pre, x, suf, e1, e2, e3, e4, e5, e6, fun q => hK _ _ _ _ _ _ (e7 q)⟩
theorem am_wpW_mono {Z : AmZ} {leaf : AmC} (hleaf : ∀ y as ws mc ms post post' xp xp', (∀ v u, post v u → post' v u) → (∀ E u, xp E u → xp' E u) → leaf y as ws mc ms post xp → leaf y as ws mc ms post' xp') : ∀ d y as ws mc ms post post' xp xp', (∀ v u, post v u → post' v u) → (∀ E u, xp E u → xp' E u) → am_wpW Z leaf d y as ws mc ms post xp → am_wpW Z leaf d y as ws mc ms post' xp' := by
  intro d y as ws mc ms post post' xp xp' h1 h2 h
  cases d with
  | zero => exact h.elim
  | succ d =>
    obtain ⟨cc, nL, rt, hh, n, w5, hnL, hlen, hpn, h⟩ := h
    exact ⟨cc, nL, rt, hh, n, w5, hnL, hlen, hpn, am_run_mono h1 (am_wp_mono hleaf d) (fun _ _ _ _ _ _ _ _ _ _ _ z => z.elim) am_hx_mono n n (Nat.le_refl n) _ _ _ _ _ _ h⟩
end
