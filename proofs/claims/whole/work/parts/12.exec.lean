/-! AN EXECUTOR over abstract values: what the kernel can run. Ints: a constant, one of the script's ints (number 6: the first one & 63), a range. Refs: 0 null, 1 some reference, 2 the script, k + 3 the world's cell k. -/
abbrev XI : Type := Int32 ⊕ (Nat ⊕ (Int × Int))
abbrev XV : Type := XI ⊕ (Option Int64 ⊕ Nat)
abbrev XC : Type := (Nat × Nat × XV × List (Nat × XV)) ⊕ (Nat × List XV)
/-- method, pc, locals, stack, cells and slots left, 1: the call that stands open may not throw -/
abbrev XF : Type := Nat × Nat × List (Nat × XV) × List XV × Nat × Nat × Nat
abbrev XE : Type := List (Int × Int)
abbrev XS : Type := List XF × List XC × XE
def xlook {α : Type} (k : Nat) : List (Nat × α) → Option α
  | [] => none
  | q :: l => cond (Nat.beq q.1 k) (some q.2) (xlook k l)
abbrev xk0 (c : Int32) : XV := .inl (.inl c)
abbrev xrg (lo hi : Int) : XI := .inr (.inr (lo, hi))
def xtop : XI := .inr (.inr (-2147483648, 2147483647))
def xlong : XV → Bool
  | .inr (.inl _) => true
  | _ => false
def xcat (l : List XV) : Nat := l.foldr (fun v n => cond (xlong v) (n + 2) (n + 1)) 0
def xs1 (i : Nat) (v : XV) (l : List (Nat × XV)) : List (Nat × XV) := (i, v) :: l.filter (fun q => !(Nat.beq q.1 i) && !(Nat.beq (q.1 + 1) i && xlong q.2))
def xs2 (i : Nat) (v : XV) (l : List (Nat × XV)) : List (Nat × XV) := (i, v) :: l.filter (fun q => !(Nat.beq q.1 i) && (!(Nat.beq q.1 (i + 1)) && !(Nat.beq (q.1 + 1) i && xlong q.2)))
def xargs : Nat → List XV → List (Nat × XV)
  | _, [] => []
  | i, v :: vs => (i, v) :: xargs (cond (xlong v) (i + 2) (i + 1)) vs
def xiv (E : XE) : XI → Int × Int
  | .inl c => (c.toInt, c.toInt)
  | .inr (.inl k) => (E[k]?).getD (-2147483648, 2147483647)
  | .inr (.inr r) => r
def xbin (f : Int32 → Int32 → Int32) : XI → XI → XI
  | .inl x, .inl y => .inl (f x y)
  | _, _ => xtop
def xadd : XI → XI → XI
  | .inl x, .inl y => .inl (x + y)
  | .inl x, b => if x = 0 then b else xtop
  | a, .inl y => if y = 0 then a else xtop
  | _, _ => xtop
def xand : XI → XI → XI
  | .inl x, .inl y => .inl (x &&& y)
  | .inr (.inl 0), .inl y => if y = 63 then .inr (.inl 6) else xtop
  | _, _ => xtop
def xun (f : Int32 → Int32) : XI → XI
  | .inl x => .inl (f x)
  | _ => xtop
def xbinL (f : Int64 → Int64 → Int64) : Option Int64 → Option Int64 → Option Int64
  | some x, some y => some (f x y)
  | _, _ => none
def xshL (f : Int64 → Int32 → Int64) : Option Int64 → XI → Option Int64
  | some x, .inl y => some (f x y)
  | _, _ => none
def xcmpL : Option Int64 → Option Int64 → XI
  | some x, some y => .inl (lg_cmp x y)
  | _, _ => xrg (-1) 1
def xi2l : XI → Option Int64
  | .inl x => some x.toInt64
  | _ => none
def xl2i : Option Int64 → XI
  | some x => .inl x.toInt32
  | none => xtop
def xi2c : XI → XI
  | .inl x => .inl (x.toUInt32 % 65536).toInt32
  | _ => xtop
/-- comparisons: 0 eq, 1 ne, 2 lt, 3 ge, 4 gt, 5 le -/
def xP (o : Nat) (x y : Int32) : Prop := match o with
  | 0 => x = y
  | 1 => ¬ x = y
  | 2 => x < y
  | 3 => y ≤ x
  | 4 => y < x
  | _ => x ≤ y
/-- of x < y, by ranges -/
def xlt (a b : Int × Int) : Option Bool := cond (decide (a.2 < b.1)) (some true) (cond (decide (b.2 ≤ a.1)) (some false) none)
def xeq (a b : Int × Int) : Option Bool := cond (decide (a.1 = a.2 ∧ b.1 = b.2 ∧ a.1 = b.1)) (some true) (cond (decide (a.2 < b.1 ∨ b.2 < a.1)) (some false) none)
def xdec (o : Nat) (a b : Int × Int) : Option Bool := match o with
  | 0 => xeq a b
  | 1 => (xeq a b).map not
  | 2 => xlt a b
  | 3 => (xlt a b).map not
  | 4 => xlt b a
  | _ => (xlt b a).map not
/-- the range left of a value of range r, if it compares so (t) with c -/
def xcut (o : Nat) (t : Bool) (r : Int × Int) (c : Int) : Int × Int := match o, t with
  | 0, true => (c, c)
  | 1, false => (c, c)
  | 2, true => (r.1, c - 1)
  | 3, false => (r.1, c - 1)
  | 2, false => (c, r.2)
  | 3, true => (c, r.2)
  | 4, true => (c + 1, r.2)
  | 5, false => (c + 1, r.2)
  | 4, false => (r.1, c)
  | 5, true => (r.1, c)
  | _, _ => r
def xref (E : XE) (o : Nat) (t : Bool) (x y : XI) : XE := match x, y with
  | .inr (.inl k), .inl c => match E[k]? with
    | some r => E.set k (xcut o t r c.toInt)
    | none => E
  | _, _ => E
/-- the branches that may be taken, with what is then known -/
def xbr (E : XE) (o : Nat) (x y : XI) : List (Bool × XE) := match xdec o (xiv E x) (xiv E y) with
  | some t => [(t, E)]
  | none => [(true, xref E o true x y), (false, xref E o false x y)]
def xget (d : XV) (mods : List (Nat × XV)) (j : Nat) : XV := (xlook j mods).getD d
def xput (d : XV) (mods : List (Nat × XV)) (j : Nat) (v : XV) : List (Nat × XV) := cond (decide (xget d mods j = v)) mods ((j, v) :: mods)
/-- an index within n: the place, or none where only the range is known -/
def xidx (E : XE) (n : Nat) : XI → Option (Option Nat)
  | .inl c => cond (decide (0 ≤ c.toInt ∧ c.toInt < (n : Int))) (some (some c.toNatClampNeg)) none
  | x => cond (decide (0 ≤ (xiv E x).1 ∧ (xiv E x).2 < (n : Int))) (some none) none
def xread (E : XE) (n : Nat) (d : XV) (mods : List (Nat × XV)) (x : XI) : Option XV := match xidx E n x with
  | some (some j) => some (xget d mods j)
  | some none => match mods with
    | [] => some d
    | _ => none
  | none => none
def xfit : Nat → XV → Bool
  | 0, .inl _ => true
  | 1, .inr (.inl _) => true
  | 2, .inl (.inl c) => decide (c = 0 ∨ c = 1)
  | 3, .inr (.inr _) => true
  | _, _ => false
/-- what a value of a return type must be -/
def xrok (E : XE) : Option FieldType → XI → Bool
  | some .int, _ => true
  | some .boolean, x => decide (0 ≤ (xiv E x).1 ∧ (xiv E x).2 ≤ 1)
  | _, _ => false
def xnar (_ : XE) : Nat → XI → XI
  | 2, .inl c => .inl (vp_nar .char c)
  | 3, .inl c => .inl (vp_nar .boolean c)
  | 2, _ => xtop
  | 3, _ => xtop
  | _, x => x
def xdef : Nat → XV
  | 1 => .inr (.inl (some 0))
  | 3 => .inr (.inr 0)
  | _ => .inl (.inl 0)
def xarr0 (tag : Nat) : XV := cond (Nat.beq tag 1) (.inr (.inl (some 0))) (.inl (.inl 0))
/-- the frames that a throw leaves: e 0 an illegal argument, 1 an illegal state -/
def xunw (e : Nat) : List XF → Option (List XF)
  | [] => none
  | (m, pc, l, _, C, S, f) :: fs => cond (Nat.beq f 0 && Nat.blt m xm_n) (match xk m, xh m with
    | 0, _ => xunw e fs
    | 1, q :: r => cond (Nat.ble q.1 pc && Nat.blt pc q.2.1 && !(Nat.beq q.2.2.2 0)) (match xlook q.2.2.2 xq with
      | some (t, _) => cond (Nat.beq t e) (some ((m, q.2.2.1, l, [.inr (.inr 1)], C, S, 0) :: fs)) (cond (Nat.beq t 0 && Nat.beq e 1) (match r with
        | q2 :: _ => cond (Nat.ble q2.1 pc && Nat.blt pc q2.2.1 && !(Nat.beq q2.2.2.2 0)) (match xlook q2.2.2.2 xq with
          | some (t2, _) => cond (Nat.beq t2 1) (some ((m, q2.2.2.1, l, [.inr (.inr 1)], C, S, 0) :: fs)) none
          | none => none) none
        | [] => none) none)
      | none => none) none
    | _, _ => none) none
def xtgt (pc : Nat) (o : Int) : Option Nat := cond (decide (0 ≤ (pc : Int) + o)) (some ((pc : Int) + o).toNat) none
def xjump (m pc : Nat) (l : List (Nat × XV)) (r : List XV) (C S : Nat) (fs : List XF) (h : List XC) (o : Int) (bs : List (Bool × XE)) : Option (List XS) := match xtgt pc o with
  | some t => some (bs.map (fun q => ((m, cond q.1 t (pc + 3), l, r, C, S, 0) :: fs, h, q.2)))
  | none => none
/-- the call of method k with arguments as (the receiver among them), r left on the stack -/
def xcall (m pc : Nat) (l : List (Nat × XV)) (r as : List XV) (C S : Nat) (fs : List XF) (h : List XC) (E : XE) (k f : Nat) : Option (List XS) :=
  cond (Nat.ble (xbud k).1 C && Nat.ble (xbud k).2 S && Nat.ble (xcat r) 8 && Nat.ble (xcat as) (xn k) && Nat.ble fs.length 1000) (some [((k, 0, xargs 0 as, [], (xbud k).1, (xbud k).2, 0) :: (m, pc, l, r, C - (xbud k).1, S - (xbud k).2, f) :: fs, h, E)]) none
/-- a call of allow (e = 0) or ready (e = 1) -/
def xleaf (m pc : Nat) (l : List (Nat × XV)) (g : XI) (r : List XV) (C S : Nat) (fs : List XF) (h : List XC) (E : XE) (e : Nat) : Option (List XS) :=
  cond (Nat.ble 1 C && Nat.ble 6 S && Nat.ble (xcat r) 8 && Nat.ble fs.length 1000) (match xunw e ((m, pc, l, r, C - 1, S - 6, 0) :: fs) with
    | some fs2 => some ((xbr E 0 g (.inl 0)).map (fun q => (cond q.1 fs2 ((m, pc + 3, l, r, C - 1, S - 6, 0) :: fs), h, q.2)))
    | none => none) none
/-- a switch: by a constant, or by one of the script's ints of few values -/
def xsw1 (pc : Nat) (df lo hi : Int) (os : Array Int) (v : Int) : Option Nat := cond (decide (v < lo ∨ hi < v)) (xtgt pc df) (match os[(v - lo).toNat]? with
  | some o => xtgt pc o
  | none => none)
def xswL (m pc : Nat) (l : List (Nat × XV)) (r : List XV) (C S : Nat) (fs : List XF) (h : List XC) (E : XE) (df lo hi : Int) (os : Array Int) (k : Nat) (a : Int) : Nat → Option (List XS)
  | 0 => some []
  | n + 1 => match xsw1 pc df lo hi os (a + n), xswL m pc l r C S fs h E df lo hi os k a n with
    | some t, some ss => some (((m, t, l, r, C, S, 0) :: fs, h, E.set k (a + n, a + n)) :: ss)
    | _, _ => none
def xswitch (m pc : Nat) (l : List (Nat × XV)) (r : List XV) (C S : Nat) (fs : List XF) (h : List XC) (E : XE) (df lo hi : Int) (os : Array Int) (x : XI) : Option (List XS) := match x with
  | .inl c => match xsw1 pc df lo hi os c.toInt with
    | some t => some [((m, t, l, r, C, S, 0) :: fs, h, E)]
    | none => none
  | .inr (.inl k) => match E[k]? with
    | some (a, b) => cond (decide (b - a < 70)) (xswL m pc l r C S fs h E df lo hi os k a ((b - a + 1).toNat)) none
    | none => none
  | _ => none
def xcopy (m pc : Nat) (l : List (Nat × XV)) (st : List XV) (C S : Nat) (fs : List XF) (h : List XC) (E : XE) : Option (List XS) := match st with
  | .inl (.inl n) :: .inl (.inl dp) :: .inr (.inr (a + 3)) :: .inl (.inl sp) :: .inr (.inr (a0 + 3)) :: r => match h[a0]?, h[a]? with
    | some (.inl (t0, n0, d0, m0)), some (.inl (t1, n1, _, _)) => cond (Nat.beq t0 t1 && Nat.blt t0 2 && decide (n.toInt = (n1 : Int) ∧ dp = 0 ∧ sp = 0 ∧ n1 ≤ n0) && Nat.ble (xcat r) 8) (some [((m, pc + 3, l, r, C, S, 0) :: fs, h.set a (.inl (t1, n1, d0, m0)), E)]) none
    | _, _ => none
  | _ => none
def xstep (L : Nat) (s : XS) : Option (List XS) := match s with
  | ([], _, _) => none
  | ((m, pc, l, st, C, S, _) :: fs, h, E) =>
    match cond (Nat.blt m xm_n) (xlook pc (xi m pc)) none with
    | none => none
    | some (i, len) => match i, len, st with
    | .iconst n, 1, st => some [((m, pc + 1, l, xk0 (Int32.ofInt n) :: st, C, S, 0) :: fs, h, E)]
    | .bipush n, 2, st => some [((m, pc + 2, l, xk0 (Int8.ofInt n).toInt32 :: st, C, S, 0) :: fs, h, E)]
    | .sipush n, 3, st => some [((m, pc + 3, l, xk0 (Int16.ofInt n).toInt32 :: st, C, S, 0) :: fs, h, E)]
    | .lconst n, 1, st => some [((m, pc + 1, l, .inr (.inl (some (Int64.ofNat (n : Nat)))) :: st, C, S, 0) :: fs, h, E)]
    | .ldc i, 2, st => match xlook i (xa (xo m)) with
      | some (v, _) => some [((m, pc + 2, l, xk0 v :: st, C, S, 0) :: fs, h, E)]
      | none => none
    | .ldc_w i, 3, st => match xlook i (xa (xo m)) with
      | some (v, _) => some [((m, pc + 3, l, xk0 v :: st, C, S, 0) :: fs, h, E)]
      | none => none
    | .ldc2_w i, 3, st => match xlook i (xb (xo m)) with
      | some (v, _) => some [((m, pc + 3, l, .inr (.inl (some v)) :: st, C, S, 0) :: fs, h, E)]
      | none => none
    | .iload i, 2, st => match xlook i l with
      | some (.inl x) => some [((m, pc + 2, l, .inl x :: st, C, S, 0) :: fs, h, E)]
      | _ => none
    | .iload_n i, 1, st => match xlook (i : Nat) l with
      | some (.inl x) => some [((m, pc + 1, l, .inl x :: st, C, S, 0) :: fs, h, E)]
      | _ => none
    | .istore i, 2, .inl x :: r => cond (Nat.blt i (xn m)) (some [((m, pc + 2, xs1 i (.inl x) l, r, C, S, 0) :: fs, h, E)]) none
    | .istore_n i, 1, .inl x :: r => cond (Nat.blt (i : Nat) (xn m)) (some [((m, pc + 1, xs1 (i : Nat) (.inl x) l, r, C, S, 0) :: fs, h, E)]) none
    | .lload i, 2, st => match xlook i l with
      | some (.inr (.inl x)) => some [((m, pc + 2, l, .inr (.inl x) :: st, C, S, 0) :: fs, h, E)]
      | _ => none
    | .lload_n i, 1, st => match xlook (i : Nat) l with
      | some (.inr (.inl x)) => some [((m, pc + 1, l, .inr (.inl x) :: st, C, S, 0) :: fs, h, E)]
      | _ => none
    | .lstore i, 2, .inr (.inl x) :: r => cond (Nat.blt (i + 1) (xn m)) (some [((m, pc + 2, xs2 i (.inr (.inl x)) l, r, C, S, 0) :: fs, h, E)]) none
    | .lstore_n i, 1, .inr (.inl x) :: r => cond (Nat.blt ((i : Nat) + 1) (xn m)) (some [((m, pc + 1, xs2 (i : Nat) (.inr (.inl x)) l, r, C, S, 0) :: fs, h, E)]) none
    | .aload i, 2, st => match xlook i l with
      | some (.inr (.inr (x + 1))) => some [((m, pc + 2, l, .inr (.inr (x + 1)) :: st, C, S, 0) :: fs, h, E)]
      | _ => none
    | .aload_n i, 1, st => match xlook (i : Nat) l with
      | some (.inr (.inr (x + 1))) => some [((m, pc + 1, l, .inr (.inr (x + 1)) :: st, C, S, 0) :: fs, h, E)]
      | _ => none
    | .astore i, 2, .inr (.inr (x + 1)) :: r => cond (Nat.blt i (xn m)) (some [((m, pc + 2, xs1 i (.inr (.inr (x + 1))) l, r, C, S, 0) :: fs, h, E)]) none
    | .astore_n i, 1, .inr (.inr (x + 1)) :: r => cond (Nat.blt (i : Nat) (xn m)) (some [((m, pc + 1, xs1 (i : Nat) (.inr (.inr (x + 1))) l, r, C, S, 0) :: fs, h, E)]) none
    | .iinc i n, 3, st => match xlook i l with
      | some (.inl x) => cond (Nat.blt i (xn m)) (some [((m, pc + 3, xs1 i (.inl (xadd x (.inl (Int32.ofInt n)))) l, st, C, S, 0) :: fs, h, E)]) none
      | _ => none
    | .iadd, 1, .inl y :: .inl x :: r => some [((m, pc + 1, l, .inl (xadd x y) :: r, C, S, 0) :: fs, h, E)]
    | .iand, 1, .inl y :: .inl x :: r => some [((m, pc + 1, l, .inl (xand x y) :: r, C, S, 0) :: fs, h, E)]
    | .isub, 1, .inl y :: .inl x :: r => some [((m, pc + 1, l, .inl (xbin (fun x y => x - y) x y) :: r, C, S, 0) :: fs, h, E)]
    | .imul, 1, .inl y :: .inl x :: r => some [((m, pc + 1, l, .inl (xbin (fun x y => x * y) x y) :: r, C, S, 0) :: fs, h, E)]
    | .ior, 1, .inl y :: .inl x :: r => some [((m, pc + 1, l, .inl (xbin (fun x y => x ||| y) x y) :: r, C, S, 0) :: fs, h, E)]
    | .ixor, 1, .inl y :: .inl x :: r => some [((m, pc + 1, l, .inl (xbin (fun x y => x ^^^ y) x y) :: r, C, S, 0) :: fs, h, E)]
    | .ishl, 1, .inl y :: .inl x :: r => some [((m, pc + 1, l, .inl (xbin (fun x y => x <<< (y &&& 31)) x y) :: r, C, S, 0) :: fs, h, E)]
    | .ishr, 1, .inl y :: .inl x :: r => some [((m, pc + 1, l, .inl (xbin (fun x y => x >>> (y &&& 31)) x y) :: r, C, S, 0) :: fs, h, E)]
    | .iushr, 1, .inl y :: .inl x :: r => some [((m, pc + 1, l, .inl (xbin (fun x y => (x.toUInt32 >>> (y.toUInt32 &&& Int32.toUInt32 31)).toInt32) x y) :: r, C, S, 0) :: fs, h, E)]
    | .idiv, 1, .inl (.inl y) :: .inl x :: r => cond (decide (y = 0)) none (some [((m, pc + 1, l, .inl (xbin (fun x y => x / y) x (.inl y)) :: r, C, S, 0) :: fs, h, E)])
    | .irem, 1, .inl (.inl y) :: .inl x :: r => cond (decide (y = 0)) none (some [((m, pc + 1, l, .inl (xbin (fun x y => x - x / y * y) x (.inl y)) :: r, C, S, 0) :: fs, h, E)])
    | .ladd, 1, .inr (.inl y) :: .inr (.inl x) :: r => some [((m, pc + 1, l, .inr (.inl (xbinL (fun x y => x + y) x y)) :: r, C, S, 0) :: fs, h, E)]
    | .lsub, 1, .inr (.inl y) :: .inr (.inl x) :: r => some [((m, pc + 1, l, .inr (.inl (xbinL (fun x y => x - y) x y)) :: r, C, S, 0) :: fs, h, E)]
    | .lmul, 1, .inr (.inl y) :: .inr (.inl x) :: r => some [((m, pc + 1, l, .inr (.inl (xbinL (fun x y => x * y) x y)) :: r, C, S, 0) :: fs, h, E)]
    | .land, 1, .inr (.inl y) :: .inr (.inl x) :: r => some [((m, pc + 1, l, .inr (.inl (xbinL (fun x y => x &&& y) x y)) :: r, C, S, 0) :: fs, h, E)]
    | .lor, 1, .inr (.inl y) :: .inr (.inl x) :: r => some [((m, pc + 1, l, .inr (.inl (xbinL (fun x y => x ||| y) x y)) :: r, C, S, 0) :: fs, h, E)]
    | .lxor, 1, .inr (.inl y) :: .inr (.inl x) :: r => some [((m, pc + 1, l, .inr (.inl (xbinL (fun x y => x ^^^ y) x y)) :: r, C, S, 0) :: fs, h, E)]
    | .ldiv, 1, .inr (.inl (some y)) :: .inr (.inl x) :: r => cond (decide (y = 0)) none (some [((m, pc + 1, l, .inr (.inl (xbinL (fun x y => x / y) x (some y))) :: r, C, S, 0) :: fs, h, E)])
    | .lrem, 1, .inr (.inl (some y)) :: .inr (.inl x) :: r => cond (decide (y = 0)) none (some [((m, pc + 1, l, .inr (.inl (xbinL (fun x y => x - x / y * y) x (some y))) :: r, C, S, 0) :: fs, h, E)])
    | .lshl, 1, .inl y :: .inr (.inl x) :: r => some [((m, pc + 1, l, .inr (.inl (xshL (fun x y => x <<< (y.toInt64 &&& 63)) x y)) :: r, C, S, 0) :: fs, h, E)]
    | .lshr, 1, .inl y :: .inr (.inl x) :: r => some [((m, pc + 1, l, .inr (.inl (xshL (fun x y => x >>> (y.toInt64 &&& 63)) x y)) :: r, C, S, 0) :: fs, h, E)]
    | .lushr, 1, .inl y :: .inr (.inl x) :: r => some [((m, pc + 1, l, .inr (.inl (xshL (fun x y => (x.toUInt64 >>> (y.toInt64.toUInt64 &&& Int64.toUInt64 63)).toInt64) x y)) :: r, C, S, 0) :: fs, h, E)]
    | .lcmp, 1, .inr (.inl y) :: .inr (.inl x) :: r => some [((m, pc + 1, l, .inl (xcmpL x y) :: r, C, S, 0) :: fs, h, E)]
    | .ineg, 1, .inl x :: r => some [((m, pc + 1, l, .inl (xun (fun x => -x) x) :: r, C, S, 0) :: fs, h, E)]
    | .lneg, 1, .inr (.inl x) :: r => some [((m, pc + 1, l, .inr (.inl (x.map (fun x => -x))) :: r, C, S, 0) :: fs, h, E)]
    | .i2l, 1, .inl x :: r => some [((m, pc + 1, l, .inr (.inl (xi2l x)) :: r, C, S, 0) :: fs, h, E)]
    | .l2i, 1, .inr (.inl x) :: r => some [((m, pc + 1, l, .inl (xl2i x) :: r, C, S, 0) :: fs, h, E)]
    | .i2c, 1, .inl x :: r => some [((m, pc + 1, l, .inl (xi2c x) :: r, C, S, 0) :: fs, h, E)]
    | .dup, 1, v :: r => cond (xlong v) none (some [((m, pc + 1, l, v :: v :: r, C, S, 0) :: fs, h, E)])
    | .pop, 1, v :: r => cond (xlong v) none (some [((m, pc + 1, l, r, C, S, 0) :: fs, h, E)])
    | .pop2, 1, v :: r => cond (xlong v) (some [((m, pc + 1, l, r, C, S, 0) :: fs, h, E)]) none
    | .dup2, 1, v :: w :: r => cond (xlong v || xlong w) none (some [((m, pc + 1, l, v :: w :: v :: w :: r, C, S, 0) :: fs, h, E)])
    | .ifCond .eq o, 3, .inl x :: r => xjump m pc l r C S fs h o (xbr E 0 x (.inl 0))
    | .ifCond .ne o, 3, .inl x :: r => xjump m pc l r C S fs h o (xbr E 1 x (.inl 0))
    | .ifCond .lt o, 3, .inl x :: r => xjump m pc l r C S fs h o (xbr E 2 x (.inl 0))
    | .ifCond .ge o, 3, .inl x :: r => xjump m pc l r C S fs h o (xbr E 3 x (.inl 0))
    | .ifCond .gt o, 3, .inl x :: r => xjump m pc l r C S fs h o (xbr E 4 x (.inl 0))
    | .ifCond .le o, 3, .inl x :: r => xjump m pc l r C S fs h o (xbr E 5 x (.inl 0))
    | .if_icmp .eq o, 3, .inl y :: .inl x :: r => xjump m pc l r C S fs h o (xbr E 0 x y)
    | .if_icmp .ne o, 3, .inl y :: .inl x :: r => xjump m pc l r C S fs h o (xbr E 1 x y)
    | .if_icmp .lt o, 3, .inl y :: .inl x :: r => xjump m pc l r C S fs h o (xbr E 2 x y)
    | .if_icmp .ge o, 3, .inl y :: .inl x :: r => xjump m pc l r C S fs h o (xbr E 3 x y)
    | .if_icmp .gt o, 3, .inl y :: .inl x :: r => xjump m pc l r C S fs h o (xbr E 4 x y)
    | .if_icmp .le o, 3, .inl y :: .inl x :: r => xjump m pc l r C S fs h o (xbr E 5 x y)
    | .goto o, 3, st => match xtgt pc o with
      | some t => some [((m, t, l, st, C, S, 0) :: fs, h, E)]
      | none => none
    | .tableswitch df lo hi os, _, .inl x :: r => xswitch m pc l r C S fs h E df lo hi os x
    | .lookupswitch df ps, _, .inl (.inl c) :: r => cond ((ps.toList.zip (ps.toList.drop 1)).all (fun (a, next) => a.1 < next.1)) (match xtgt pc (Op.lookupswitch.offset ps.toList df c.toInt) with
      | some t => some [((m, t, l, r, C, S, 0) :: fs, h, E)]
      | none => none) none
    | .getfield i, 3, .inr (.inr (a + 3)) :: r => match h[a]?, xlook i (xf (xo m)) with
      | some (.inr (ci, fv)), some (cj, k, _) => cond (Nat.beq ci cj) (match fv[k]? with
        | some v => some [((m, pc + 3, l, v :: r, C, S, 0) :: fs, h, E)]
        | none => none) none
      | _, _ => none
    | .putfield i, 3, v :: .inr (.inr (a + 3)) :: r => match h[a]?, xlook i (xf (xo m)) with
      | some (.inr (ci, fv)), some (cj, k, _) => cond (Nat.beq ci cj && Nat.blt k fv.length) (match (xt ci)[k]? with
        | some (ty, fin) => cond (xfit ty v && (!(Nat.beq fin 1) || (xin m && Nat.beq ci (xo m)))) (some [((m, pc + 3, l, r, C, S, 0) :: fs, h.set a (.inr (ci, fv.set k v)), E)]) none
        | none => none) none
      | _, _ => none
    | .iaload, 1, .inl (.inl c) :: .inr (.inr 2) :: r => cond (decide (0 ≤ c.toInt ∧ c.toInt < (L : Int)) && Nat.ble L 6 && Nat.beq m 0) (some [((m, pc + 1, l, .inl (.inr (.inl c.toNatClampNeg)) :: r, C, S, 0) :: fs, h, E)]) none
    | .iaload, 1, .inl x :: .inr (.inr (a + 3)) :: r => match h[a]? with
      | some (.inl (0, n, d, ms)) => match xread E n d ms x with
        | some v => some [((m, pc + 1, l, v :: r, C, S, 0) :: fs, h, E)]
        | none => none
      | _ => none
    | .laload, 1, .inl x :: .inr (.inr (a + 3)) :: r => match h[a]? with
      | some (.inl (1, n, d, ms)) => match xread E n d ms x with
        | some v => some [((m, pc + 1, l, v :: r, C, S, 0) :: fs, h, E)]
        | none => none
      | _ => none
    | .caload, 1, .inl x :: .inr (.inr (a + 3)) :: r => match h[a]? with
      | some (.inl (2, n, d, ms)) => match xread E n d ms x with
        | some v => some [((m, pc + 1, l, v :: r, C, S, 0) :: fs, h, E)]
        | none => none
      | _ => none
    | .baload, 1, .inl x :: .inr (.inr (a + 3)) :: r => match h[a]? with
      | some (.inl (3, n, d, ms)) => match xread E n d ms x with
        | some v => some [((m, pc + 1, l, v :: r, C, S, 0) :: fs, h, E)]
        | none => none
      | _ => none
    | .iastore, 1, .inl v :: .inl (.inl c) :: .inr (.inr (a + 3)) :: r => match h[a]? with
      | some (.inl (0, n, d, ms)) => cond (decide (0 ≤ c.toInt ∧ c.toInt < (n : Int))) (some [((m, pc + 1, l, r, C, S, 0) :: fs, h.set a (.inl (0, n, d, xput d ms c.toNatClampNeg (.inl (xnar E 0 v)))), E)]) none
      | _ => none
    | .castore, 1, .inl v :: .inl (.inl c) :: .inr (.inr (a + 3)) :: r => match h[a]? with
      | some (.inl (2, n, d, ms)) => cond (decide (0 ≤ c.toInt ∧ c.toInt < (n : Int))) (some [((m, pc + 1, l, r, C, S, 0) :: fs, h.set a (.inl (2, n, d, xput d ms c.toNatClampNeg (.inl (xnar E 2 v)))), E)]) none
      | _ => none
    | .bastore, 1, .inl v :: .inl (.inl c) :: .inr (.inr (a + 3)) :: r => match h[a]? with
      | some (.inl (3, n, d, ms)) => cond (decide (0 ≤ c.toInt ∧ c.toInt < (n : Int))) (some [((m, pc + 1, l, r, C, S, 0) :: fs, h.set a (.inl (3, n, d, xput d ms c.toNatClampNeg (.inl (xnar E 3 v)))), E)]) none
      | _ => none
    | .lastore, 1, .inr (.inl v) :: .inl (.inl c) :: .inr (.inr (a + 3)) :: r => match h[a]? with
      | some (.inl (1, n, d, ms)) => cond (decide (0 ≤ c.toInt ∧ c.toInt < (n : Int))) (some [((m, pc + 1, l, r, C, S, 0) :: fs, h.set a (.inl (1, n, d, xput d ms c.toNatClampNeg (.inr (.inl v)))), E)]) none
      | _ => none
    | .arraylength, 1, .inr (.inr 2) :: r => cond (Nat.beq m 0) (some [((m, pc + 1, l, xk0 (Int32.ofNat L) :: r, C, S, 0) :: fs, h, E)]) none
    | .arraylength, 1, .inr (.inr (a + 3)) :: r => match h[a]? with
      | some (.inl (tg, n, _, _)) => cond (Nat.blt tg 4) (some [((m, pc + 1, l, xk0 (Int32.ofNat n) :: r, C, S, 0) :: fs, h, E)]) none
      | _ => none
    | .new i, 3, st => match xlook i (xw (xo m)) with
      | some (ci, _) => cond (Nat.ble 1 C && Nat.ble (xt ci).length S) (some [((m, pc + 3, l, .inr (.inr (h.length + 3)) :: st, C - 1, S - (xt ci).length, 0) :: fs, h ++ [.inr (ci, (xt ci).map (fun q => xdef q.1))], E)]) none
      | none => none
    | .newarray .int, 2, .inl (.inl c) :: r => cond (decide (0 ≤ c.toInt) && Nat.ble c.toNatClampNeg 60000000 && Nat.ble 1 C && Nat.ble c.toNatClampNeg S) (some [((m, pc + 2, l, .inr (.inr (h.length + 3)) :: r, C - 1, S - c.toNatClampNeg, 0) :: fs, h ++ [.inl (0, c.toNatClampNeg, xarr0 0, [])], E)]) none
    | .newarray .long, 2, .inl (.inl c) :: r => cond (decide (0 ≤ c.toInt) && Nat.ble c.toNatClampNeg 60000000 && Nat.ble 1 C && Nat.ble c.toNatClampNeg S) (some [((m, pc + 2, l, .inr (.inr (h.length + 3)) :: r, C - 1, S - c.toNatClampNeg, 0) :: fs, h ++ [.inl (1, c.toNatClampNeg, xarr0 1, [])], E)]) none
    | .newarray .char, 2, .inl (.inl c) :: r => cond (decide (0 ≤ c.toInt) && Nat.ble c.toNatClampNeg 60000000 && Nat.ble 1 C && Nat.ble c.toNatClampNeg S) (some [((m, pc + 2, l, .inr (.inr (h.length + 3)) :: r, C - 1, S - c.toNatClampNeg, 0) :: fs, h ++ [.inl (2, c.toNatClampNeg, xarr0 2, [])], E)]) none
    | .newarray .boolean, 2, .inl (.inl c) :: r => cond (decide (0 ≤ c.toInt) && Nat.ble c.toNatClampNeg 60000000 && Nat.ble 1 C && Nat.ble c.toNatClampNeg S) (some [((m, pc + 2, l, .inr (.inr (h.length + 3)) :: r, C - 1, S - c.toNatClampNeg, 0) :: fs, h ++ [.inl (3, c.toNatClampNeg, xarr0 3, [])], E)]) none
    | .invokevirtual i, 3, st => match xlook i (xl (xo m)) with
      | some (k, n, _, w) => match st.drop n with
        | .inr (.inr (a + 3)) :: r => match h[a]? with
          | some (.inr (ci, _)) => cond (Nat.beq ci (xo k) && Nat.beq w 0 && Nat.blt k 1000 && Nat.beq (xk k) 0 && Nat.beq (xsta k) 0 && !(xin k) && Nat.blt 0 k) (xcall m pc l r (.inr (.inr (a + 3)) :: (st.take n).reverse) C S fs h E k 0) none
          | _ => none
        | _ => none
      | none => none
    | .invokestatic i, 3, st => match xlook i (xl (xo m)) with
      | some (k, n, _, w) => cond (Nat.ble n st.length && Nat.blt 0 k) (cond (Nat.beq k 1001) (xcopy m pc l st C S fs h E) (cond (Nat.beq k 1002 || Nat.beq k 1003) (match st with
        | .inl g :: r => xleaf m pc l g r C S fs h E (k - 1002)
        | _ => none) (cond (Nat.blt k 1000 && Nat.beq (xsta k) 1 && (Nat.beq (xk k) 0 || (Nat.beq (xk k) 1 && Nat.beq m 0 && Nat.beq w 0 && Nat.beq fs.length 0))) (xcall m pc l (st.drop n) (st.take n).reverse C S fs h E k (cond (Nat.beq w 0 && Nat.beq (xk k) 0) 0 1)) none))) none
      | none => none
    | .invokespecial i, 3, st => match xlook i (xl (xo m)) with
      | some (k, n, _, _) => match st.drop n with
        | .inr (.inr (a + 1)) :: r => cond (Nat.beq k 1000) (cond (Nat.ble (xcat r) 8 && Nat.beq n 0) (some [((m, pc + 3, l, r, C, S, 0) :: fs, h, E)]) none) (cond (Nat.blt k 1000 && xin k && Nat.beq (xk k) 0 && Nat.beq (xsta k) 0 && Nat.blt 0 k) (xcall m pc l r (.inr (.inr (a + 1)) :: (st.take n).reverse) C S fs h E k 1) none)
        | _ => none
      | none => none
    | .ireturn, 1, [.inl x] => cond (xrok E (xr m) x) (match fs with
      | [] => cond (decide (xiv E x = (1, 1)) && Nat.beq m 0) (some []) none
      | (m2, pc2, l2, st2, C2, S2, _) :: fs2 => some [((m2, pc2 + 3, l2, .inl x :: st2, C2, S2, 0) :: fs2, h, E)]) none
    | .lreturn, 1, [.inr (.inl x)] => cond (decide (xr m = some .long)) (match fs with
      | [] => none
      | (m2, pc2, l2, st2, C2, S2, _) :: fs2 => some [((m2, pc2 + 3, l2, .inr (.inl x) :: st2, C2, S2, 0) :: fs2, h, E)]) none
    | .areturn, 1, [.inr (.inr (a + 1))] => match xr m, fs with
      | some (.object _), (m2, pc2, l2, st2, C2, S2, _) :: fs2 => some [((m2, pc2 + 3, l2, .inr (.inr (a + 1)) :: st2, C2, S2, 0) :: fs2, h, E)]
      | _, _ => none
    | .return_, 1, [] => match xr m, fs with
      | none, (m2, pc2, l2, st2, C2, S2, _) :: fs2 => some [((m2, pc2 + 3, l2, st2, C2, S2, 0) :: fs2, h, E)]
      | _, _ => none
    | _, _, _ => none
noncomputable def xrun (L : Nat) (n : Nat) : List XS → Bool := Nat.rec (fun _ => false) (fun _ ih w => match w with
  | [] => true
  | s :: r => match xstep L s with
    | none => false
    | some ss => ih (ss ++ r)) n
