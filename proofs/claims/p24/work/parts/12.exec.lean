/-! AN EXECUTOR over abstract values: what the kernel can run. Ints: a constant, one of the script's ints (number 6: the first one & 63), a range. Refs: 0 null, 1 some reference, 2 the script, k + 3 the world's cell k. -/
abbrev XI : Type := Int32 ⊕ (Nat ⊕ (Int × Int))
/-- longs: a constant, one of the script's ints, or anything -/
abbrev XL : Type := Option (Int64 ⊕ Nat)
abbrev XV : Type := XI ⊕ (XL ⊕ Nat)
/-! trees of fixed depth -/
noncomputable def XT (α : Type) : Nat → Type := fun d => Nat.rec (Option α) (fun _ t => t × t) d
noncomputable def xtn {α : Type} {d : Nat} (l r : XT α d) : XT α (d + 1) := (l, r)
noncomputable def xtz {α : Type} (d : Nat) : XT α d := @Nat.rec (fun d => XT α d) (none : Option α) (fun _ t => (t, t)) d
noncomputable def xtget {α : Type} (d : Nat) : XT α d → Nat → Option α := @Nat.rec (fun d => XT α d → Nat → Option α) (fun t _ => t) (fun d ih t i => cond (Nat.beq (Nat.land (Nat.shiftRight i d) 1) 0) (ih (Prod.fst t) i) (ih (Prod.snd t) i)) d
noncomputable def xtset {α : Type} (d : Nat) : XT α d → Nat → α → XT α d := @Nat.rec (fun d => XT α d → Nat → α → XT α d) (fun _ _ c => some c) (fun d ih t i c => cond (Nat.beq (Nat.land (Nat.shiftRight i d) 1) 0) (ih (Prod.fst t) i c, Prod.snd t) (Prod.fst t, ih (Prod.snd t) i c)) d
noncomputable def xtL {α : Type} (l : List α) : XT α 7 := @List.rec α (fun _ => Nat → XT α 7 → XT α 7) (fun _ t => t) (fun q _ ih k t => ih (k + 1) (xtset 7 t k q)) l 0 (xtz 7)
/-- what was put into an array: nothing yet, or a tree by its size -/
noncomputable abbrev XA : Type := Unit ⊕ (XT XV 6 ⊕ (XT XV 11 ⊕ XT XV 18))
/-- an array: 0 int, 1 long, 2 char, 3 boolean; length, what stands where nothing was put, what was put; or an object: class, fields -/
noncomputable abbrev XC : Type := (Nat × Nat × XV × XA) ⊕ (Nat × XT XV 7)
noncomputable abbrev XHp : Type := Nat × XT XC 10
noncomputable def xhg (h : XHp) (a : Nat) : Option XC := xtget 10 h.2 a
noncomputable def xhs (h : XHp) (a : Nat) (c : XC) : XHp := (h.1, xtset 10 h.2 a c)
noncomputable def xhp (h : XHp) (c : XC) : XHp := (h.1 + 1, xtset 10 h.2 h.1 c)
noncomputable def xoc (h : XHp) (a : Nat) : Option (Nat × XT XV 7) := match xhg h a with
  | some (.inr q) => some q
  | _ => none
noncomputable def xac (h : XHp) (a : Nat) : Option (Nat × Nat × XV × XA) := match xhg h a with
  | some (.inl q) => some q
  | _ => none
/-- method, pc, locals, stack, cells and slots left, 1: the call that stands open may not throw -/
abbrev XF : Type := Nat × Nat × List (Nat × XV) × List XV × Nat × Nat × Nat
/-- ranges of the script's ints; 6: of the first one & 63; 7: of the script's length -/
abbrev XE : Type := List (Int × Int)
noncomputable abbrev XS : Type := List XF × XHp × XE
noncomputable def xlook {α : Type} (k : Nat) (l : List (Nat × α)) : Option α := @List.rec (Nat × α) (fun _ => Option α) none (fun q _ ih => cond (Nat.beq q.1 k) (some q.2) ih) l
noncomputable def xfil (p : Nat × XV → Bool) (l : List (Nat × XV)) : List (Nat × XV) := @List.rec (Nat × XV) (fun _ => List (Nat × XV)) [] (fun q _ ih => cond (p q) (q :: ih) ih) l
abbrev xk0 (c : Int32) : XV := .inl (.inl c)
abbrev xrg (lo hi : Int) : XI := .inr (.inr (lo, hi))
noncomputable def xtop : XI := .inr (.inr (-2147483648, 2147483647))
noncomputable def xlong : XV → Bool
  | .inr (.inl _) => true
  | _ => false
noncomputable def xcat (l : List XV) : Nat := l.foldr (fun v n => cond (xlong v) (n + 2) (n + 1)) 0
noncomputable def xs1 (i : Nat) (v : XV) (l : List (Nat × XV)) : List (Nat × XV) := (i, v) :: xfil (fun q => !(Nat.beq q.1 i) && !(Nat.beq (q.1 + 1) i && xlong q.2)) l
noncomputable def xs2 (i : Nat) (v : XV) (l : List (Nat × XV)) : List (Nat × XV) := (i, v) :: xfil (fun q => !(Nat.beq q.1 i) && (!(Nat.beq q.1 (i + 1)) && !(Nat.beq (q.1 + 1) i && xlong q.2))) l
noncomputable def xargs (i : Nat) (l : List XV) : List (Nat × XV) := @List.rec XV (fun _ => Nat → List (Nat × XV)) (fun _ => []) (fun v _ ih i => (i, v) :: ih (cond (xlong v) (i + 2) (i + 1))) l i
noncomputable def xiv (E : XE) : XI → Int × Int
  | .inl c => (c.toInt, c.toInt)
  | .inr (.inl k) => (E[k]?).getD (-2147483648, 2147483647)
  | .inr (.inr r) => r
noncomputable def xbin (f : Int32 → Int32 → Int32) : XI → XI → XI
  | .inl x, .inl y => .inl (f x y)
  | _, _ => xtop
noncomputable def xadd : XI → XI → XI
  | .inl x, .inl y => .inl (x + y)
  | .inl x, b => if x = 0 then b else xtop
  | a, .inl y => if y = 0 then a else xtop
  | _, _ => xtop
noncomputable def xand : XI → XI → XI
  | .inl x, .inl y => .inl (x &&& y)
  | .inr (.inl 0), .inl y => if y = 63 then .inr (.inl 6) else xtop
  | _, _ => xtop
noncomputable def xun (f : Int32 → Int32) : XI → XI
  | .inl x => .inl (f x)
  | _ => xtop
noncomputable def xbinL (f : Int64 → Int64 → Int64) : XL → XL → XL
  | some (.inl x), some (.inl y) => some (.inl (f x y))
  | _, _ => none
noncomputable def xshL (f : Int64 → Int32 → Int64) : XL → XI → XL
  | some (.inl x), .inl y => some (.inl (f x y))
  | _, _ => none
noncomputable def xunL (f : Int64 → Int64) : XL → XL
  | some (.inl x) => some (.inl (f x))
  | _ => none
/-- -1, 0, 1 -/
noncomputable def xsg (a c : Int) : Int := cond (decide (a < c)) (-1) (cond (decide (a = c)) 0 1)
/-- what a comparison of longs may give, with what is then known -/
noncomputable def xcmpB (E : XE) : XL → XL → List (XI × XE)
  | some (.inl x), some (.inl y) => [(.inl (lg_cmp x y), E)]
  | some (.inr k), some (.inl c) => match E[k]? with
    | some r => cond (decide (c.toInt ≤ r.1 ∨ r.2 ≤ c.toInt)) [(xrg (xsg r.1 c.toInt) (xsg r.2 c.toInt), E)] [(.inl (-1), E.set k (r.1, c.toInt - 1)), (.inl 0, E.set k (c.toInt, c.toInt)), (.inl 1, E.set k (c.toInt + 1, r.2))]
    | none => [(xrg (-1) 1, E)]
  | some (.inl c), some (.inr k) => match E[k]? with
    | some r => cond (decide (r.1 < c.toInt)) [(.inl 1, E.set k (r.1, cond (decide (r.2 < c.toInt)) r.2 (c.toInt - 1)))] [] ++ (cond (decide (r.1 ≤ c.toInt ∧ c.toInt ≤ r.2)) [(.inl 0, E.set k (c.toInt, c.toInt))] [] ++ cond (decide (c.toInt < r.2)) [(.inl (-1), E.set k (cond (decide (c.toInt < r.1)) r.1 (c.toInt + 1), r.2))] [])
    | none => [(xrg (-1) 1, E)]
  | some (.inr k), some (.inr j) => cond (Nat.beq k j) [(.inl 0, E)] [(xrg (-1) 1, E)]
  | _, _ => [(xrg (-1) 1, E)]
noncomputable def xi2l : XI → XL
  | .inl x => some (.inl x.toInt64)
  | .inr (.inl k) => some (.inr k)
  | _ => none
noncomputable def xl2i : XL → XI
  | some (.inl x) => .inl x.toInt32
  | some (.inr k) => .inr (.inl k)
  | none => xtop
noncomputable def xi2c : XI → XI
  | .inl x => .inl (x.toUInt32 % 65536).toInt32
  | _ => xtop
/-- comparisons: 0 eq, 1 ne, 2 lt, 3 ge, 4 gt, 5 le -/
noncomputable def xP (o : Nat) (x y : Int32) : Prop := match o with
  | 0 => x = y
  | 1 => ¬ x = y
  | 2 => x < y
  | 3 => y ≤ x
  | 4 => y < x
  | _ => x ≤ y
/-- of x < y, by ranges -/
noncomputable def xlt (a b : Int × Int) : Option Bool := cond (decide (a.2 < b.1)) (some true) (cond (decide (b.2 ≤ a.1)) (some false) none)
noncomputable def xeq (a b : Int × Int) : Option Bool := cond (decide (a.1 = a.2 ∧ b.1 = b.2 ∧ a.1 = b.1)) (some true) (cond (decide (a.2 < b.1 ∨ b.2 < a.1)) (some false) none)
noncomputable def xdec (o : Nat) (a b : Int × Int) : Option Bool := match o with
  | 0 => xeq a b
  | 1 => (xeq a b).map not
  | 2 => xlt a b
  | 3 => (xlt a b).map not
  | 4 => xlt b a
  | _ => (xlt b a).map not
/-- the range left of a value of range r, if it compares so (t) with c -/
noncomputable def xcut (o : Nat) (t : Bool) (r : Int × Int) (c : Int) : Int × Int := match o, t with
  | 0, true => (c, c)
  | 1, false => (c, c)
  | 2, true => (r.1, c - 1)
  | 3, false => (r.1, c - 1)
  | 2, false => (c, r.2)
  | 3, true => (c, r.2)
  | 4, true => (c + 1, r.2)
  | 5, false => (c + 1, r.2)
  | 4, false => (r.1, c)
  | 5, true => (r.1, c)
  | _, _ => r
/-- the comparison seen from the other side -/
noncomputable def xmir : Nat → Nat
  | 0 => 0
  | 1 => 1
  | 2 => 4
  | 3 => 5
  | 4 => 2
  | _ => 3
noncomputable def xref (E : XE) (o : Nat) (t : Bool) (x y : XI) : XE := match x, y with
  | .inr (.inl k), .inl c => match E[k]? with
    | some r => E.set k (xcut o t r c.toInt)
    | none => E
  | .inl c, .inr (.inl k) => match E[k]? with
    | some r => E.set k (xcut (xmir o) t r c.toInt)
    | none => E
  | _, _ => E
/-- the branches that may be taken, with what is then known -/
noncomputable def xbr (E : XE) (o : Nat) (x y : XI) : List (Bool × XE) := match xdec o (xiv E x) (xiv E y) with
  | some t => [(t, E)]
  | none => [(true, xref E o true x y), (false, xref E o false x y)]
noncomputable def xcap : XA → Nat
  | .inl _ => 262144
  | .inr (.inl _) => 64
  | .inr (.inr (.inl _)) => 2048
  | .inr (.inr (.inr _)) => 262144
noncomputable def xget (d : XV) (t : XA) (j : Nat) : XV := match t with
  | .inl _ => d
  | .inr (.inl t) => (xtget 6 t j).getD d
  | .inr (.inr (.inl t)) => (xtget 11 t j).getD d
  | .inr (.inr (.inr t)) => (xtget 18 t j).getD d
noncomputable def xput (n : Nat) (d : XV) (t : XA) (j : Nat) (v : XV) : XA := match t with
  | .inl _ => cond (decide (d = v)) (.inl ()) (cond (Nat.ble n 64) (.inr (.inl (xtset 6 (xtz 6) j v))) (cond (Nat.ble n 2048) (.inr (.inr (.inl (xtset 11 (xtz 11) j v)))) (.inr (.inr (.inr (xtset 18 (xtz 18) j v))))))
  | .inr (.inl t) => .inr (.inl (xtset 6 t j v))
  | .inr (.inr (.inl t)) => .inr (.inr (.inl (xtset 11 t j v)))
  | .inr (.inr (.inr t)) => .inr (.inr (.inr (xtset 18 t j v)))
/-- an index within n: the place, or none where only the range is known -/
noncomputable def xidx (E : XE) (n : Nat) : XI → Option (Option Nat)
  | .inl c => cond (decide (0 ≤ c.toInt ∧ c.toInt < (n : Int))) (some (some c.toNatClampNeg)) none
  | x => cond (decide (0 ≤ (xiv E x).1 ∧ (xiv E x).2 < (n : Int))) (some none) none
noncomputable def xread2 (d : XV) (t : XA) : Option (Option Nat) → Option XV
  | some (some j) => some (xget d t j)
  | some none => match t with
    | .inl _ => some d
    | .inr _ => none
  | none => none
noncomputable def xread (E : XE) (n : Nat) (d : XV) (t : XA) (x : XI) : Option XV := xread2 d t (xidx E n x)
noncomputable def xfit : Nat → XV → Bool
  | 0, .inl _ => true
  | 1, .inr (.inl _) => true
  | 2, .inl (.inl c) => decide (c = 0 ∨ c = 1)
  | 3, .inr (.inr _) => true
  | _, _ => false
/-- what a value of a return type must be -/
noncomputable def xrok (E : XE) : Option FieldType → XI → Bool
  | some .int, _ => true
  | some .boolean, x => decide (0 ≤ (xiv E x).1 ∧ (xiv E x).2 ≤ 1)
  | _, _ => false
noncomputable def xnar (_ : XE) : Nat → XI → XI
  | 2, .inl c => .inl (vp_nar .char c)
  | 3, .inl c => .inl (vp_nar .boolean c)
  | 2, _ => xtop
  | 3, _ => xtop
  | _, x => x
noncomputable def xdef : Nat → XV
  | 1 => .inr (.inl (some (.inl 0)))
  | 3 => .inr (.inr 0)
  | _ => .inl (.inl 0)
noncomputable def xarr0 (tag : Nat) : XV := cond (Nat.beq tag 1) (.inr (.inl (some (.inl 0)))) (.inl (.inl 0))
/-- the frames that a throw leaves: e 0 an illegal argument, 1 an illegal state -/
noncomputable def xunw (e : Nat) : List XF → Option (List XF)
  | [] => none
  | (m, pc, l, _, C, S, f) :: fs => cond (Nat.beq f 0 && Nat.blt m xm_n) (match xk m, xh m with
    | 0, _ => xunw e fs
    | 1, q :: r => cond (Nat.ble q.1 pc && Nat.blt pc q.2.1 && !(Nat.beq q.2.2.2 0)) (match xlook q.2.2.2 xq with
      | some (t, _) => cond (Nat.beq t e) (some ((m, q.2.2.1, l, [.inr (.inr 1)], C, S, 0) :: fs)) (cond (Nat.beq t 0 && Nat.beq e 1) (match r with
        | q2 :: _ => cond (Nat.ble q2.1 pc && Nat.blt pc q2.2.1 && !(Nat.beq q2.2.2.2 0)) (match xlook q2.2.2.2 xq with
          | some (t2, _) => cond (Nat.beq t2 1) (some ((m, q2.2.2.1, l, [.inr (.inr 1)], C, S, 0) :: fs)) none
          | none => none) none
        | [] => none) none)
      | none => none) none
    | _, _ => none) none
noncomputable def xtgt (pc : Nat) (o : Int) : Option Nat := cond (decide (0 ≤ (pc : Int) + o)) (some ((pc : Int) + o).toNat) none
noncomputable def xjump (m pc : Nat) (l : List (Nat × XV)) (r : List XV) (C S : Nat) (fs : List XF) (h : XHp) (o : Int) (bs : List (Bool × XE)) : Option (List XS) := match xtgt pc o with
  | some t => some (bs.map (fun q => ((m, cond q.1 t (pc + 3), l, r, C, S, 0) :: fs, h, q.2)))
  | none => none
/-- the call of method k with arguments as (the receiver among them), r left on the stack -/
noncomputable def xcall (m pc : Nat) (l : List (Nat × XV)) (r as : List XV) (C S : Nat) (fs : List XF) (h : XHp) (E : XE) (k f : Nat) : Option (List XS) :=
  cond (Nat.ble (xbud k).1 C && Nat.ble (xbud k).2 S && Nat.ble (xcat r) 8 && Nat.ble (xcat as) (xn k) && Nat.ble fs.length 1000) (some [((k, 0, xargs 0 as, [], (xbud k).1, (xbud k).2, 0) :: (m, pc, l, r, C - (xbud k).1, S - (xbud k).2, f) :: fs, h, E)]) none
/-- a call of allow (e = 0) or ready (e = 1) -/
noncomputable def xleaf (m pc : Nat) (l : List (Nat × XV)) (g : XI) (r : List XV) (C S : Nat) (fs : List XF) (h : XHp) (E : XE) (e : Nat) : Option (List XS) :=
  cond (Nat.ble 1 C && Nat.ble 6 S && Nat.ble (xcat r) 8 && Nat.ble fs.length 1000) (match xunw e ((m, pc, l, r, C - 1, S - 6, 0) :: fs) with
    | some fs2 => some ((xbr E 0 g (.inl 0)).map (fun q => (cond q.1 fs2 ((m, pc + 3, l, r, C - 1, S - 6, 0) :: fs), h, q.2)))
    | none => none) none
/-- a switch: by a constant, or by one of the script's ints of few values -/
noncomputable def xsw1 (pc : Nat) (df lo hi : Int) (os : Array Int) (v : Int) : Option Nat := cond (decide (v < lo ∨ hi < v)) (xtgt pc df) (match os[(v - lo).toNat]? with
  | some o => xtgt pc o
  | none => none)
noncomputable def xswitch (m pc : Nat) (l : List (Nat × XV)) (r : List XV) (C S : Nat) (fs : List XF) (h : XHp) (E : XE) (df lo hi : Int) (os : Array Int) (x : XI) : Option (List XS) := cond (decide ((xiv E x).1 = (xiv E x).2)) (match xsw1 pc df lo hi os (xiv E x).1 with
  | some t => some [((m, t, l, r, C, S, 0) :: fs, h, E)]
  | none => none) none
noncomputable def xcopy (m pc : Nat) (l : List (Nat × XV)) (st : List XV) (C S : Nat) (fs : List XF) (h : XHp) (E : XE) : Option (List XS) := match st with
  | .inl (.inl n) :: .inl (.inl dp) :: .inr (.inr (a + 3)) :: .inl (.inl sp) :: .inr (.inr (a0 + 3)) :: r => match xac h a0 with
    | some (t0, n0, d0, m0) => match xac h a with
      | some (t1, n1, _, _) => cond (Nat.beq t0 t1 && Nat.blt t0 2 && decide (n.toInt = (n1 : Int) ∧ dp = 0 ∧ sp = 0 ∧ n1 ≤ n0) && Nat.ble (xcat r) 8) (some [((m, pc + 3, l, r, C, S, 0) :: fs, xhs h a (.inl (t1, n1, d0, m0)), E)]) none
      | none => none
    | none => none
  | _ => none
noncomputable def xst_0 (m pc : Nat) (l : List (Nat × XV)) (C S : Nat) (fs : List XF) (h : XHp) (E : XE) (n : Int) (st : List XV) : Option (List XS) := some [((m, pc + 1, l, xk0 (Int32.ofInt n) :: st, C, S, 0) :: fs, h, E)]
noncomputable def xst_1 (m pc : Nat) (l : List (Nat × XV)) (C S : Nat) (fs : List XF) (h : XHp) (E : XE) (n : Int) (st : List XV) : Option (List XS) := some [((m, pc + 2, l, xk0 (Int8.ofInt n).toInt32 :: st, C, S, 0) :: fs, h, E)]
noncomputable def xst_2 (m pc : Nat) (l : List (Nat × XV)) (C S : Nat) (fs : List XF) (h : XHp) (E : XE) (n : Int) (st : List XV) : Option (List XS) := some [((m, pc + 3, l, xk0 (Int16.ofInt n).toInt32 :: st, C, S, 0) :: fs, h, E)]
noncomputable def xst_3 (m pc : Nat) (l : List (Nat × XV)) (C S : Nat) (fs : List XF) (h : XHp) (E : XE) (n : Fin 2) (st : List XV) : Option (List XS) := some [((m, pc + 1, l, .inr (.inl (some (.inl (Int64.ofNat (n : Nat))))) :: st, C, S, 0) :: fs, h, E)]
noncomputable def xst_4 (m pc : Nat) (l : List (Nat × XV)) (C S : Nat) (fs : List XF) (h : XHp) (E : XE) (i : Nat) (st : List XV) : Option (List XS) := match xlook i (xa (xo m)) with
      | some (v, _) => some [((m, pc + 2, l, xk0 v :: st, C, S, 0) :: fs, h, E)]
      | none => none
noncomputable def xst_5 (m pc : Nat) (l : List (Nat × XV)) (C S : Nat) (fs : List XF) (h : XHp) (E : XE) (i : Nat) (st : List XV) : Option (List XS) := match xlook i (xa (xo m)) with
      | some (v, _) => some [((m, pc + 3, l, xk0 v :: st, C, S, 0) :: fs, h, E)]
      | none => none
noncomputable def xst_6 (m pc : Nat) (l : List (Nat × XV)) (C S : Nat) (fs : List XF) (h : XHp) (E : XE) (i : Nat) (st : List XV) : Option (List XS) := match xlook i (xb (xo m)) with
      | some (v, _) => some [((m, pc + 3, l, .inr (.inl (some (.inl v))) :: st, C, S, 0) :: fs, h, E)]
      | none => none
noncomputable def xst_7 (m pc : Nat) (l : List (Nat × XV)) (C S : Nat) (fs : List XF) (h : XHp) (E : XE) (i : Nat) (st : List XV) : Option (List XS) := match xlook i l with
      | some (.inl x) => some [((m, pc + 2, l, .inl x :: st, C, S, 0) :: fs, h, E)]
      | _ => none
noncomputable def xst_8 (m pc : Nat) (l : List (Nat × XV)) (C S : Nat) (fs : List XF) (h : XHp) (E : XE) (i : Fin 4) (st : List XV) : Option (List XS) := match xlook (i : Nat) l with
      | some (.inl x) => some [((m, pc + 1, l, .inl x :: st, C, S, 0) :: fs, h, E)]
      | _ => none
noncomputable def xst_9 (m pc : Nat) (l : List (Nat × XV)) (C S : Nat) (fs : List XF) (h : XHp) (E : XE) (i : Nat) (x : XI) (r : List XV) : Option (List XS) := cond (Nat.blt i (xn m)) (some [((m, pc + 2, xs1 i (.inl x) l, r, C, S, 0) :: fs, h, E)]) none
noncomputable def xst_10 (m pc : Nat) (l : List (Nat × XV)) (C S : Nat) (fs : List XF) (h : XHp) (E : XE) (i : Fin 4) (x : XI) (r : List XV) : Option (List XS) := cond (Nat.blt (i : Nat) (xn m)) (some [((m, pc + 1, xs1 (i : Nat) (.inl x) l, r, C, S, 0) :: fs, h, E)]) none
noncomputable def xst_11 (m pc : Nat) (l : List (Nat × XV)) (C S : Nat) (fs : List XF) (h : XHp) (E : XE) (i : Nat) (st : List XV) : Option (List XS) := match xlook i l with
      | some (.inr (.inl x)) => some [((m, pc + 2, l, .inr (.inl x) :: st, C, S, 0) :: fs, h, E)]
      | _ => none
noncomputable def xst_12 (m pc : Nat) (l : List (Nat × XV)) (C S : Nat) (fs : List XF) (h : XHp) (E : XE) (i : Fin 4) (st : List XV) : Option (List XS) := match xlook (i : Nat) l with
      | some (.inr (.inl x)) => some [((m, pc + 1, l, .inr (.inl x) :: st, C, S, 0) :: fs, h, E)]
      | _ => none
noncomputable def xst_13 (m pc : Nat) (l : List (Nat × XV)) (C S : Nat) (fs : List XF) (h : XHp) (E : XE) (i : Nat) (x : XL) (r : List XV) : Option (List XS) := cond (Nat.blt (i + 1) (xn m)) (some [((m, pc + 2, xs2 i (.inr (.inl x)) l, r, C, S, 0) :: fs, h, E)]) none
noncomputable def xst_14 (m pc : Nat) (l : List (Nat × XV)) (C S : Nat) (fs : List XF) (h : XHp) (E : XE) (i : Fin 4) (x : XL) (r : List XV) : Option (List XS) := cond (Nat.blt ((i : Nat) + 1) (xn m)) (some [((m, pc + 1, xs2 (i : Nat) (.inr (.inl x)) l, r, C, S, 0) :: fs, h, E)]) none
noncomputable def xst_15 (m pc : Nat) (l : List (Nat × XV)) (C S : Nat) (fs : List XF) (h : XHp) (E : XE) (i : Nat) (st : List XV) : Option (List XS) := match xlook i l with
      | some (.inr (.inr (x + 1))) => some [((m, pc + 2, l, .inr (.inr (x + 1)) :: st, C, S, 0) :: fs, h, E)]
      | _ => none
noncomputable def xst_16 (m pc : Nat) (l : List (Nat × XV)) (C S : Nat) (fs : List XF) (h : XHp) (E : XE) (i : Fin 4) (st : List XV) : Option (List XS) := match xlook (i : Nat) l with
      | some (.inr (.inr (x + 1))) => some [((m, pc + 1, l, .inr (.inr (x + 1)) :: st, C, S, 0) :: fs, h, E)]
      | _ => none
noncomputable def xst_17 (m pc : Nat) (l : List (Nat × XV)) (C S : Nat) (fs : List XF) (h : XHp) (E : XE) (i : Nat) (x : Nat) (r : List XV) : Option (List XS) := cond (Nat.blt i (xn m)) (some [((m, pc + 2, xs1 i (.inr (.inr (x + 1))) l, r, C, S, 0) :: fs, h, E)]) none
noncomputable def xst_18 (m pc : Nat) (l : List (Nat × XV)) (C S : Nat) (fs : List XF) (h : XHp) (E : XE) (i : Fin 4) (x : Nat) (r : List XV) : Option (List XS) := cond (Nat.blt (i : Nat) (xn m)) (some [((m, pc + 1, xs1 (i : Nat) (.inr (.inr (x + 1))) l, r, C, S, 0) :: fs, h, E)]) none
noncomputable def xst_19 (m pc : Nat) (l : List (Nat × XV)) (C S : Nat) (fs : List XF) (h : XHp) (E : XE) (i : Nat) (n : Int) (st : List XV) : Option (List XS) := match xlook i l with
      | some (.inl x) => cond (Nat.blt i (xn m)) (some [((m, pc + 3, xs1 i (.inl (xadd x (.inl (Int32.ofInt n)))) l, st, C, S, 0) :: fs, h, E)]) none
      | _ => none
noncomputable def xst_20 (m pc : Nat) (l : List (Nat × XV)) (C S : Nat) (fs : List XF) (h : XHp) (E : XE) (y : XI) (x : XI) (r : List XV) : Option (List XS) := some [((m, pc + 1, l, .inl (xadd x y) :: r, C, S, 0) :: fs, h, E)]
noncomputable def xst_21 (m pc : Nat) (l : List (Nat × XV)) (C S : Nat) (fs : List XF) (h : XHp) (E : XE) (y : XI) (x : XI) (r : List XV) : Option (List XS) := some [((m, pc + 1, l, .inl (xand x y) :: r, C, S, 0) :: fs, h, E)]
noncomputable def xst_22 (m pc : Nat) (l : List (Nat × XV)) (C S : Nat) (fs : List XF) (h : XHp) (E : XE) (y : XI) (x : XI) (r : List XV) : Option (List XS) := some [((m, pc + 1, l, .inl (xbin (fun x y => x - y) x y) :: r, C, S, 0) :: fs, h, E)]
noncomputable def xst_23 (m pc : Nat) (l : List (Nat × XV)) (C S : Nat) (fs : List XF) (h : XHp) (E : XE) (y : XI) (x : XI) (r : List XV) : Option (List XS) := some [((m, pc + 1, l, .inl (xbin (fun x y => x * y) x y) :: r, C, S, 0) :: fs, h, E)]
noncomputable def xst_24 (m pc : Nat) (l : List (Nat × XV)) (C S : Nat) (fs : List XF) (h : XHp) (E : XE) (y : XI) (x : XI) (r : List XV) : Option (List XS) := some [((m, pc + 1, l, .inl (xbin (fun x y => x ||| y) x y) :: r, C, S, 0) :: fs, h, E)]
noncomputable def xst_25 (m pc : Nat) (l : List (Nat × XV)) (C S : Nat) (fs : List XF) (h : XHp) (E : XE) (y : XI) (x : XI) (r : List XV) : Option (List XS) := some [((m, pc + 1, l, .inl (xbin (fun x y => x ^^^ y) x y) :: r, C, S, 0) :: fs, h, E)]
noncomputable def xst_26 (m pc : Nat) (l : List (Nat × XV)) (C S : Nat) (fs : List XF) (h : XHp) (E : XE) (y : XI) (x : XI) (r : List XV) : Option (List XS) := some [((m, pc + 1, l, .inl (xbin (fun x y => x <<< (y &&& 31)) x y) :: r, C, S, 0) :: fs, h, E)]
noncomputable def xst_27 (m pc : Nat) (l : List (Nat × XV)) (C S : Nat) (fs : List XF) (h : XHp) (E : XE) (y : XI) (x : XI) (r : List XV) : Option (List XS) := some [((m, pc + 1, l, .inl (xbin (fun x y => x >>> (y &&& 31)) x y) :: r, C, S, 0) :: fs, h, E)]
noncomputable def xst_28 (m pc : Nat) (l : List (Nat × XV)) (C S : Nat) (fs : List XF) (h : XHp) (E : XE) (y : XI) (x : XI) (r : List XV) : Option (List XS) := some [((m, pc + 1, l, .inl (xbin (fun x y => (x.toUInt32 >>> (y.toUInt32 &&& Int32.toUInt32 31)).toInt32) x y) :: r, C, S, 0) :: fs, h, E)]
noncomputable def xst_29 (m pc : Nat) (l : List (Nat × XV)) (C S : Nat) (fs : List XF) (h : XHp) (E : XE) (y : Int32) (x : XI) (r : List XV) : Option (List XS) := cond (decide (y = 0)) none (some [((m, pc + 1, l, .inl (xbin (fun x y => x / y) x (.inl y)) :: r, C, S, 0) :: fs, h, E)])
noncomputable def xst_30 (m pc : Nat) (l : List (Nat × XV)) (C S : Nat) (fs : List XF) (h : XHp) (E : XE) (y : Int32) (x : XI) (r : List XV) : Option (List XS) := cond (decide (y = 0)) none (some [((m, pc + 1, l, .inl (xbin (fun x y => x - x / y * y) x (.inl y)) :: r, C, S, 0) :: fs, h, E)])
noncomputable def xst_31 (m pc : Nat) (l : List (Nat × XV)) (C S : Nat) (fs : List XF) (h : XHp) (E : XE) (y : XL) (x : XL) (r : List XV) : Option (List XS) := some [((m, pc + 1, l, .inr (.inl (xbinL (fun x y => x + y) x y)) :: r, C, S, 0) :: fs, h, E)]
noncomputable def xst_32 (m pc : Nat) (l : List (Nat × XV)) (C S : Nat) (fs : List XF) (h : XHp) (E : XE) (y : XL) (x : XL) (r : List XV) : Option (List XS) := some [((m, pc + 1, l, .inr (.inl (xbinL (fun x y => x - y) x y)) :: r, C, S, 0) :: fs, h, E)]
noncomputable def xst_33 (m pc : Nat) (l : List (Nat × XV)) (C S : Nat) (fs : List XF) (h : XHp) (E : XE) (y : XL) (x : XL) (r : List XV) : Option (List XS) := some [((m, pc + 1, l, .inr (.inl (xbinL (fun x y => x * y) x y)) :: r, C, S, 0) :: fs, h, E)]
noncomputable def xst_34 (m pc : Nat) (l : List (Nat × XV)) (C S : Nat) (fs : List XF) (h : XHp) (E : XE) (y : XL) (x : XL) (r : List XV) : Option (List XS) := some [((m, pc + 1, l, .inr (.inl (xbinL (fun x y => x &&& y) x y)) :: r, C, S, 0) :: fs, h, E)]
noncomputable def xst_35 (m pc : Nat) (l : List (Nat × XV)) (C S : Nat) (fs : List XF) (h : XHp) (E : XE) (y : XL) (x : XL) (r : List XV) : Option (List XS) := some [((m, pc + 1, l, .inr (.inl (xbinL (fun x y => x ||| y) x y)) :: r, C, S, 0) :: fs, h, E)]
noncomputable def xst_36 (m pc : Nat) (l : List (Nat × XV)) (C S : Nat) (fs : List XF) (h : XHp) (E : XE) (y : XL) (x : XL) (r : List XV) : Option (List XS) := some [((m, pc + 1, l, .inr (.inl (xbinL (fun x y => x ^^^ y) x y)) :: r, C, S, 0) :: fs, h, E)]
noncomputable def xst_37 (m pc : Nat) (l : List (Nat × XV)) (C S : Nat) (fs : List XF) (h : XHp) (E : XE) (y : Int64) (x : XL) (r : List XV) : Option (List XS) := cond (decide (y = 0)) none (some [((m, pc + 1, l, .inr (.inl (xbinL (fun x y => x / y) x (some (.inl y)))) :: r, C, S, 0) :: fs, h, E)])
noncomputable def xst_38 (m pc : Nat) (l : List (Nat × XV)) (C S : Nat) (fs : List XF) (h : XHp) (E : XE) (y : Int64) (x : XL) (r : List XV) : Option (List XS) := cond (decide (y = 0)) none (some [((m, pc + 1, l, .inr (.inl (xbinL (fun x y => x - x / y * y) x (some (.inl y)))) :: r, C, S, 0) :: fs, h, E)])
noncomputable def xst_39 (m pc : Nat) (l : List (Nat × XV)) (C S : Nat) (fs : List XF) (h : XHp) (E : XE) (y : XI) (x : XL) (r : List XV) : Option (List XS) := some [((m, pc + 1, l, .inr (.inl (xshL (fun x y => x <<< (y.toInt64 &&& 63)) x y)) :: r, C, S, 0) :: fs, h, E)]
noncomputable def xst_40 (m pc : Nat) (l : List (Nat × XV)) (C S : Nat) (fs : List XF) (h : XHp) (E : XE) (y : XI) (x : XL) (r : List XV) : Option (List XS) := some [((m, pc + 1, l, .inr (.inl (xshL (fun x y => x >>> (y.toInt64 &&& 63)) x y)) :: r, C, S, 0) :: fs, h, E)]
noncomputable def xst_41 (m pc : Nat) (l : List (Nat × XV)) (C S : Nat) (fs : List XF) (h : XHp) (E : XE) (y : XI) (x : XL) (r : List XV) : Option (List XS) := some [((m, pc + 1, l, .inr (.inl (xshL (fun x y => (x.toUInt64 >>> (y.toInt64.toUInt64 &&& Int64.toUInt64 63)).toInt64) x y)) :: r, C, S, 0) :: fs, h, E)]
noncomputable def xst_42 (m pc : Nat) (l : List (Nat × XV)) (C S : Nat) (fs : List XF) (h : XHp) (E : XE) (y : XL) (x : XL) (r : List XV) : Option (List XS) := some ((xcmpB E x y).map (fun q => ((m, pc + 1, l, .inl q.1 :: r, C, S, 0) :: fs, h, q.2)))
noncomputable def xst_43 (m pc : Nat) (l : List (Nat × XV)) (C S : Nat) (fs : List XF) (h : XHp) (E : XE) (x : XI) (r : List XV) : Option (List XS) := some [((m, pc + 1, l, .inl (xun (fun x => -x) x) :: r, C, S, 0) :: fs, h, E)]
noncomputable def xst_44 (m pc : Nat) (l : List (Nat × XV)) (C S : Nat) (fs : List XF) (h : XHp) (E : XE) (x : XL) (r : List XV) : Option (List XS) := some [((m, pc + 1, l, .inr (.inl (xunL (fun x => -x) x)) :: r, C, S, 0) :: fs, h, E)]
noncomputable def xst_45 (m pc : Nat) (l : List (Nat × XV)) (C S : Nat) (fs : List XF) (h : XHp) (E : XE) (x : XI) (r : List XV) : Option (List XS) := some [((m, pc + 1, l, .inr (.inl (xi2l x)) :: r, C, S, 0) :: fs, h, E)]
noncomputable def xst_46 (m pc : Nat) (l : List (Nat × XV)) (C S : Nat) (fs : List XF) (h : XHp) (E : XE) (x : XL) (r : List XV) : Option (List XS) := some [((m, pc + 1, l, .inl (xl2i x) :: r, C, S, 0) :: fs, h, E)]
noncomputable def xst_47 (m pc : Nat) (l : List (Nat × XV)) (C S : Nat) (fs : List XF) (h : XHp) (E : XE) (x : XI) (r : List XV) : Option (List XS) := some [((m, pc + 1, l, .inl (xi2c x) :: r, C, S, 0) :: fs, h, E)]
noncomputable def xst_48 (m pc : Nat) (l : List (Nat × XV)) (C S : Nat) (fs : List XF) (h : XHp) (E : XE) (v : XV) (r : List XV) : Option (List XS) := cond (xlong v) none (some [((m, pc + 1, l, v :: v :: r, C, S, 0) :: fs, h, E)])
noncomputable def xst_49 (m pc : Nat) (l : List (Nat × XV)) (C S : Nat) (fs : List XF) (h : XHp) (E : XE) (v : XV) (r : List XV) : Option (List XS) := cond (xlong v) none (some [((m, pc + 1, l, r, C, S, 0) :: fs, h, E)])
noncomputable def xst_50 (m pc : Nat) (l : List (Nat × XV)) (C S : Nat) (fs : List XF) (h : XHp) (E : XE) (v : XV) (r : List XV) : Option (List XS) := cond (xlong v) (some [((m, pc + 1, l, r, C, S, 0) :: fs, h, E)]) none
noncomputable def xst_51 (m pc : Nat) (l : List (Nat × XV)) (C S : Nat) (fs : List XF) (h : XHp) (E : XE) (v : XV) (w : XV) (r : List XV) : Option (List XS) := cond (xlong v || xlong w) none (some [((m, pc + 1, l, v :: w :: v :: w :: r, C, S, 0) :: fs, h, E)])
noncomputable def xst_52 (m pc : Nat) (l : List (Nat × XV)) (C S : Nat) (fs : List XF) (h : XHp) (E : XE) (o : Int) (x : XI) (r : List XV) : Option (List XS) := xjump m pc l r C S fs h o (xbr E 0 x (.inl 0))
noncomputable def xst_53 (m pc : Nat) (l : List (Nat × XV)) (C S : Nat) (fs : List XF) (h : XHp) (E : XE) (o : Int) (x : XI) (r : List XV) : Option (List XS) := xjump m pc l r C S fs h o (xbr E 1 x (.inl 0))
noncomputable def xst_54 (m pc : Nat) (l : List (Nat × XV)) (C S : Nat) (fs : List XF) (h : XHp) (E : XE) (o : Int) (x : XI) (r : List XV) : Option (List XS) := xjump m pc l r C S fs h o (xbr E 2 x (.inl 0))
noncomputable def xst_55 (m pc : Nat) (l : List (Nat × XV)) (C S : Nat) (fs : List XF) (h : XHp) (E : XE) (o : Int) (x : XI) (r : List XV) : Option (List XS) := xjump m pc l r C S fs h o (xbr E 3 x (.inl 0))
noncomputable def xst_56 (m pc : Nat) (l : List (Nat × XV)) (C S : Nat) (fs : List XF) (h : XHp) (E : XE) (o : Int) (x : XI) (r : List XV) : Option (List XS) := xjump m pc l r C S fs h o (xbr E 4 x (.inl 0))
noncomputable def xst_57 (m pc : Nat) (l : List (Nat × XV)) (C S : Nat) (fs : List XF) (h : XHp) (E : XE) (o : Int) (x : XI) (r : List XV) : Option (List XS) := xjump m pc l r C S fs h o (xbr E 5 x (.inl 0))
noncomputable def xst_58 (m pc : Nat) (l : List (Nat × XV)) (C S : Nat) (fs : List XF) (h : XHp) (E : XE) (o : Int) (y : XI) (x : XI) (r : List XV) : Option (List XS) := xjump m pc l r C S fs h o (xbr E 0 x y)
noncomputable def xst_59 (m pc : Nat) (l : List (Nat × XV)) (C S : Nat) (fs : List XF) (h : XHp) (E : XE) (o : Int) (y : XI) (x : XI) (r : List XV) : Option (List XS) := xjump m pc l r C S fs h o (xbr E 1 x y)
noncomputable def xst_60 (m pc : Nat) (l : List (Nat × XV)) (C S : Nat) (fs : List XF) (h : XHp) (E : XE) (o : Int) (y : XI) (x : XI) (r : List XV) : Option (List XS) := xjump m pc l r C S fs h o (xbr E 2 x y)
noncomputable def xst_61 (m pc : Nat) (l : List (Nat × XV)) (C S : Nat) (fs : List XF) (h : XHp) (E : XE) (o : Int) (y : XI) (x : XI) (r : List XV) : Option (List XS) := xjump m pc l r C S fs h o (xbr E 3 x y)
noncomputable def xst_62 (m pc : Nat) (l : List (Nat × XV)) (C S : Nat) (fs : List XF) (h : XHp) (E : XE) (o : Int) (y : XI) (x : XI) (r : List XV) : Option (List XS) := xjump m pc l r C S fs h o (xbr E 4 x y)
noncomputable def xst_63 (m pc : Nat) (l : List (Nat × XV)) (C S : Nat) (fs : List XF) (h : XHp) (E : XE) (o : Int) (y : XI) (x : XI) (r : List XV) : Option (List XS) := xjump m pc l r C S fs h o (xbr E 5 x y)
noncomputable def xst_64 (m pc : Nat) (l : List (Nat × XV)) (C S : Nat) (fs : List XF) (h : XHp) (E : XE) (o : Int) (st : List XV) : Option (List XS) := match xtgt pc o with
      | some t => some [((m, t, l, st, C, S, 0) :: fs, h, E)]
      | none => none
noncomputable def xst_65 (m pc : Nat) (l : List (Nat × XV)) (C S : Nat) (fs : List XF) (h : XHp) (E : XE) (df : Int) (lo : Int) (hi : Int) (os : Array Int) (x : XI) (r : List XV) : Option (List XS) := xswitch m pc l r C S fs h E df lo hi os x
noncomputable def xst_66 (m pc : Nat) (l : List (Nat × XV)) (C S : Nat) (fs : List XF) (h : XHp) (E : XE) (df : Int) (ps : Array (Int × Int)) (c : Int32) (r : List XV) : Option (List XS) := cond ((ps.toList.zip (ps.toList.drop 1)).all (fun (a, next) => a.1 < next.1)) (match xtgt pc (Op.lookupswitch.offset ps.toList df c.toInt) with
      | some t => some [((m, t, l, r, C, S, 0) :: fs, h, E)]
      | none => none) none
noncomputable def xst_67 (m pc : Nat) (l : List (Nat × XV)) (C S : Nat) (fs : List XF) (h : XHp) (E : XE) (i : Nat) (a : Nat) (r : List XV) : Option (List XS) := match xoc h a with
      | some (ci, fv) => match xfD (xo m) i with
        | some (cj, k, _) => cond (Nat.beq ci cj) (match xtget 7 fv k with
          | some v => some [((m, pc + 3, l, v :: r, C, S, 0) :: fs, h, E)]
          | none => none) none
        | none => none
      | none => none
noncomputable def xst_68 (m pc : Nat) (l : List (Nat × XV)) (C S : Nat) (fs : List XF) (h : XHp) (E : XE) (i : Nat) (v : XV) (a : Nat) (r : List XV) : Option (List XS) := match xoc h a with
      | some (ci, fv) => match xfD (xo m) i with
        | some (cj, k, _) => cond (Nat.beq ci cj) (match xtget 7 (xtL (xt ci)) k with
        | some (ty, fin) => cond (xfit ty v && (!(Nat.beq fin 1) || (xin m && Nat.beq ci (xo m)))) (some [((m, pc + 3, l, r, C, S, 0) :: fs, xhs h a (.inr (ci, xtset 7 fv k v)), E)]) none
        | none => none) none
        | none => none
      | none => none
noncomputable def xst_69 (m pc : Nat) (l : List (Nat × XV)) (C S : Nat) (fs : List XF) (h : XHp) (E : XE) (c : Int32) (r : List XV) : Option (List XS) := match E[7]? with
      | some (lo, _) => cond (decide (0 ≤ c.toInt ∧ c.toInt < lo) && Nat.beq m 0 && Nat.blt c.toNatClampNeg 6) (some [((m, pc + 1, l, .inl (.inr (.inl c.toNatClampNeg)) :: r, C, S, 0) :: fs, h, E)]) none
      | none => none
noncomputable def xst_70 (m pc : Nat) (l : List (Nat × XV)) (C S : Nat) (fs : List XF) (h : XHp) (E : XE) (x : XI) (a : Nat) (r : List XV) : Option (List XS) := match xac h a with
      | some (tg, n, d, ms) => cond (Nat.beq tg 0) (match xread E n d ms x with
        | some v => some [((m, pc + 1, l, v :: r, C, S, 0) :: fs, h, E)]
        | none => none) none
      | none => none
noncomputable def xst_71 (m pc : Nat) (l : List (Nat × XV)) (C S : Nat) (fs : List XF) (h : XHp) (E : XE) (x : XI) (a : Nat) (r : List XV) : Option (List XS) := match xac h a with
      | some (tg, n, d, ms) => cond (Nat.beq tg 1) (match xread E n d ms x with
        | some v => some [((m, pc + 1, l, v :: r, C, S, 0) :: fs, h, E)]
        | none => none) none
      | none => none
noncomputable def xst_72 (m pc : Nat) (l : List (Nat × XV)) (C S : Nat) (fs : List XF) (h : XHp) (E : XE) (x : XI) (a : Nat) (r : List XV) : Option (List XS) := match xac h a with
      | some (tg, n, d, ms) => cond (Nat.beq tg 2) (match xread E n d ms x with
        | some v => some [((m, pc + 1, l, v :: r, C, S, 0) :: fs, h, E)]
        | none => none) none
      | none => none
noncomputable def xst_73 (m pc : Nat) (l : List (Nat × XV)) (C S : Nat) (fs : List XF) (h : XHp) (E : XE) (x : XI) (a : Nat) (r : List XV) : Option (List XS) := match xac h a with
      | some (tg, n, d, ms) => cond (Nat.beq tg 3) (match xread E n d ms x with
        | some v => some [((m, pc + 1, l, v :: r, C, S, 0) :: fs, h, E)]
        | none => none) none
      | none => none
noncomputable def xst_74 (m pc : Nat) (l : List (Nat × XV)) (C S : Nat) (fs : List XF) (h : XHp) (E : XE) (v : XI) (c : Int32) (a : Nat) (r : List XV) : Option (List XS) := match xac h a with
      | some (tg, n, d, ms) => cond (Nat.beq tg 0 && decide (0 ≤ c.toInt ∧ c.toInt < (n : Int))) (some [((m, pc + 1, l, r, C, S, 0) :: fs, xhs h a (.inl (0, n, d, xput n d ms c.toNatClampNeg (.inl (xnar E 0 v)))), E)]) none
      | none => none
noncomputable def xst_75 (m pc : Nat) (l : List (Nat × XV)) (C S : Nat) (fs : List XF) (h : XHp) (E : XE) (v : XI) (c : Int32) (a : Nat) (r : List XV) : Option (List XS) := match xac h a with
      | some (tg, n, d, ms) => cond (Nat.beq tg 2 && decide (0 ≤ c.toInt ∧ c.toInt < (n : Int))) (some [((m, pc + 1, l, r, C, S, 0) :: fs, xhs h a (.inl (2, n, d, xput n d ms c.toNatClampNeg (.inl (xnar E 2 v)))), E)]) none
      | none => none
noncomputable def xst_76 (m pc : Nat) (l : List (Nat × XV)) (C S : Nat) (fs : List XF) (h : XHp) (E : XE) (v : XI) (c : Int32) (a : Nat) (r : List XV) : Option (List XS) := match xac h a with
      | some (tg, n, d, ms) => cond (Nat.beq tg 3 && decide (0 ≤ c.toInt ∧ c.toInt < (n : Int))) (some [((m, pc + 1, l, r, C, S, 0) :: fs, xhs h a (.inl (3, n, d, xput n d ms c.toNatClampNeg (.inl (xnar E 3 v)))), E)]) none
      | none => none
noncomputable def xst_77 (m pc : Nat) (l : List (Nat × XV)) (C S : Nat) (fs : List XF) (h : XHp) (E : XE) (v : XL) (c : Int32) (a : Nat) (r : List XV) : Option (List XS) := match xac h a with
      | some (tg, n, d, ms) => cond (Nat.beq tg 1 && decide (0 ≤ c.toInt ∧ c.toInt < (n : Int))) (some [((m, pc + 1, l, r, C, S, 0) :: fs, xhs h a (.inl (1, n, d, xput n d ms c.toNatClampNeg (.inr (.inl v)))), E)]) none
      | none => none
noncomputable def xst_78 (m pc : Nat) (l : List (Nat × XV)) (C S : Nat) (fs : List XF) (h : XHp) (E : XE) (r : List XV) : Option (List XS) := match E[7]? with
      | some (lo, hi) => cond (decide (lo = hi) && Nat.beq m 0) (some [((m, pc + 1, l, xk0 (Int32.ofInt lo) :: r, C, S, 0) :: fs, h, E)]) none
      | none => none
noncomputable def xst_79 (m pc : Nat) (l : List (Nat × XV)) (C S : Nat) (fs : List XF) (h : XHp) (E : XE) (a : Nat) (r : List XV) : Option (List XS) := match xac h a with
      | some (tg, n, _, _) => cond (Nat.blt tg 4) (some [((m, pc + 1, l, xk0 (Int32.ofNat n) :: r, C, S, 0) :: fs, h, E)]) none
      | none => none
noncomputable def xst_80 (m pc : Nat) (l : List (Nat × XV)) (C S : Nat) (fs : List XF) (h : XHp) (E : XE) (i : Nat) (st : List XV) : Option (List XS) := match xlook i (xw (xo m)) with
      | some (ci, _) => cond (Nat.ble 1 C && Nat.ble (xt ci).length S && Nat.blt h.1 1024) (some [((m, pc + 3, l, .inr (.inr (h.1 + 3)) :: st, C - 1, S - (xt ci).length, 0) :: fs, xhp h (.inr (ci, xtL ((xt ci).map (fun q => xdef q.1)))), E)]) none
      | none => none
noncomputable def xst_81 (m pc : Nat) (l : List (Nat × XV)) (C S : Nat) (fs : List XF) (h : XHp) (E : XE) (c : Int32) (r : List XV) : Option (List XS) := cond (decide (0 ≤ c.toInt) && Nat.ble c.toNatClampNeg 262144 && Nat.ble 1 C && Nat.ble c.toNatClampNeg S && Nat.blt h.1 1024) (some [((m, pc + 2, l, .inr (.inr (h.1 + 3)) :: r, C - 1, S - c.toNatClampNeg, 0) :: fs, xhp h (.inl (0, c.toNatClampNeg, xarr0 0, .inl ())), E)]) none
noncomputable def xst_82 (m pc : Nat) (l : List (Nat × XV)) (C S : Nat) (fs : List XF) (h : XHp) (E : XE) (c : Int32) (r : List XV) : Option (List XS) := cond (decide (0 ≤ c.toInt) && Nat.ble c.toNatClampNeg 262144 && Nat.ble 1 C && Nat.ble c.toNatClampNeg S && Nat.blt h.1 1024) (some [((m, pc + 2, l, .inr (.inr (h.1 + 3)) :: r, C - 1, S - c.toNatClampNeg, 0) :: fs, xhp h (.inl (1, c.toNatClampNeg, xarr0 1, .inl ())), E)]) none
noncomputable def xst_83 (m pc : Nat) (l : List (Nat × XV)) (C S : Nat) (fs : List XF) (h : XHp) (E : XE) (c : Int32) (r : List XV) : Option (List XS) := cond (decide (0 ≤ c.toInt) && Nat.ble c.toNatClampNeg 262144 && Nat.ble 1 C && Nat.ble c.toNatClampNeg S && Nat.blt h.1 1024) (some [((m, pc + 2, l, .inr (.inr (h.1 + 3)) :: r, C - 1, S - c.toNatClampNeg, 0) :: fs, xhp h (.inl (2, c.toNatClampNeg, xarr0 2, .inl ())), E)]) none
noncomputable def xst_84 (m pc : Nat) (l : List (Nat × XV)) (C S : Nat) (fs : List XF) (h : XHp) (E : XE) (c : Int32) (r : List XV) : Option (List XS) := cond (decide (0 ≤ c.toInt) && Nat.ble c.toNatClampNeg 262144 && Nat.ble 1 C && Nat.ble c.toNatClampNeg S && Nat.blt h.1 1024) (some [((m, pc + 2, l, .inr (.inr (h.1 + 3)) :: r, C - 1, S - c.toNatClampNeg, 0) :: fs, xhp h (.inl (3, c.toNatClampNeg, xarr0 3, .inl ())), E)]) none
noncomputable def xst_85 (m pc : Nat) (l : List (Nat × XV)) (C S : Nat) (fs : List XF) (h : XHp) (E : XE) (i : Nat) (st : List XV) : Option (List XS) := match xlD (xo m) i with
      | some (k, n, _, w) => match st.drop n with
        | .inr (.inr (a + 3)) :: r => match xoc h a with
          | some (ci, _) => cond (Nat.beq ci (xo k) && Nat.beq w 0 && Nat.blt k 1000 && Nat.beq (xk k) 0 && Nat.beq (xsta k) 0 && !(xin k) && Nat.blt 0 k) (xcall m pc l r (.inr (.inr (a + 3)) :: (st.take n).reverse) C S fs h E k 0) none
          | none => none
        | _ => none
      | none => none
noncomputable def xst_86 (m pc : Nat) (l : List (Nat × XV)) (C S : Nat) (fs : List XF) (h : XHp) (E : XE) (i : Nat) (st : List XV) : Option (List XS) := match xlD (xo m) i with
      | some (k, n, _, w) => cond (Nat.ble n st.length && Nat.blt 0 k) (cond (Nat.beq k 1001) (xcopy m pc l st C S fs h E) (cond (Nat.beq k 1002 || Nat.beq k 1003) (match st with
        | .inl g :: r => xleaf m pc l g r C S fs h E (k - 1002)
        | _ => none) (cond (Nat.blt k 1000 && Nat.beq (xsta k) 1 && (Nat.beq (xk k) 0 || (Nat.beq (xk k) 1 && Nat.beq m 0 && Nat.beq w 0 && Nat.beq fs.length 0))) (xcall m pc l (st.drop n) (st.take n).reverse C S fs h E k (cond (Nat.beq w 0 && Nat.beq (xk k) 0) 0 1)) none))) none
      | none => none
noncomputable def xst_87 (m pc : Nat) (l : List (Nat × XV)) (C S : Nat) (fs : List XF) (h : XHp) (E : XE) (i : Nat) (st : List XV) : Option (List XS) := match xlD (xo m) i with
      | some (k, n, _, _) => match st.drop n with
        | .inr (.inr (a + 1)) :: r => cond (Nat.beq k 1000) (cond (Nat.ble (xcat r) 8 && Nat.beq n 0) (some [((m, pc + 3, l, r, C, S, 0) :: fs, h, E)]) none) (cond (Nat.blt k 1000 && xin k && Nat.beq (xk k) 0 && Nat.beq (xsta k) 0 && Nat.blt 0 k) (xcall m pc l r (.inr (.inr (a + 1)) :: (st.take n).reverse) C S fs h E k 1) none)
        | _ => none
      | none => none
noncomputable def xst_88 (m pc : Nat) (l : List (Nat × XV)) (C S : Nat) (fs : List XF) (h : XHp) (E : XE) (x : XI) : Option (List XS) := cond (xrok E (xr m) x) (match fs with
      | [] => cond (decide (xiv E x = (1, 1)) && Nat.beq m 0) (some []) none
      | (m2, pc2, l2, st2, C2, S2, _) :: fs2 => some [((m2, pc2 + 3, l2, .inl x :: st2, C2, S2, 0) :: fs2, h, E)]) none
noncomputable def xst_89 (m pc : Nat) (l : List (Nat × XV)) (C S : Nat) (fs : List XF) (h : XHp) (E : XE) (x : XL) : Option (List XS) := cond (decide (xr m = some .long)) (match fs with
      | [] => none
      | (m2, pc2, l2, st2, C2, S2, _) :: fs2 => some [((m2, pc2 + 3, l2, .inr (.inl x) :: st2, C2, S2, 0) :: fs2, h, E)]) none
noncomputable def xst_90 (m pc : Nat) (l : List (Nat × XV)) (C S : Nat) (fs : List XF) (h : XHp) (E : XE) (a : Nat) : Option (List XS) := match xr m, fs with
      | some (.object _), (m2, pc2, l2, st2, C2, S2, _) :: fs2 => some [((m2, pc2 + 3, l2, .inr (.inr (a + 1)) :: st2, C2, S2, 0) :: fs2, h, E)]
      | _, _ => none
noncomputable def xst_91 (m pc : Nat) (l : List (Nat × XV)) (C S : Nat) (fs : List XF) (h : XHp) (E : XE) : Option (List XS) := match xr m, fs with
      | none, (m2, pc2, l2, st2, C2, S2, _) :: fs2 => some [((m2, pc2 + 3, l2, st2, C2, S2, 0) :: fs2, h, E)]
      | _, _ => none
noncomputable def xd_iconst (m pc : Nat) (l : List (Nat × XV)) (C S : Nat) (fs : List XF) (h : XHp) (E : XE) (a0 : Int) (len : Nat) (st : List XV) : Option (List XS) := match len, st with
  | 1, st => xst_0 m pc l C S fs h E a0 st
  | _, _ => none
noncomputable def xd_bipush (m pc : Nat) (l : List (Nat × XV)) (C S : Nat) (fs : List XF) (h : XHp) (E : XE) (a0 : Int) (len : Nat) (st : List XV) : Option (List XS) := match len, st with
  | 2, st => xst_1 m pc l C S fs h E a0 st
  | _, _ => none
noncomputable def xd_sipush (m pc : Nat) (l : List (Nat × XV)) (C S : Nat) (fs : List XF) (h : XHp) (E : XE) (a0 : Int) (len : Nat) (st : List XV) : Option (List XS) := match len, st with
  | 3, st => xst_2 m pc l C S fs h E a0 st
  | _, _ => none
noncomputable def xd_lconst (m pc : Nat) (l : List (Nat × XV)) (C S : Nat) (fs : List XF) (h : XHp) (E : XE) (a0 : Fin 2) (len : Nat) (st : List XV) : Option (List XS) := match len, st with
  | 1, st => xst_3 m pc l C S fs h E a0 st
  | _, _ => none
noncomputable def xd_ldc (m pc : Nat) (l : List (Nat × XV)) (C S : Nat) (fs : List XF) (h : XHp) (E : XE) (a0 : Nat) (len : Nat) (st : List XV) : Option (List XS) := match len, st with
  | 2, st => xst_4 m pc l C S fs h E a0 st
  | _, _ => none
noncomputable def xd_ldc_w (m pc : Nat) (l : List (Nat × XV)) (C S : Nat) (fs : List XF) (h : XHp) (E : XE) (a0 : Nat) (len : Nat) (st : List XV) : Option (List XS) := match len, st with
  | 3, st => xst_5 m pc l C S fs h E a0 st
  | _, _ => none
noncomputable def xd_ldc2_w (m pc : Nat) (l : List (Nat × XV)) (C S : Nat) (fs : List XF) (h : XHp) (E : XE) (a0 : Nat) (len : Nat) (st : List XV) : Option (List XS) := match len, st with
  | 3, st => xst_6 m pc l C S fs h E a0 st
  | _, _ => none
noncomputable def xd_iload (m pc : Nat) (l : List (Nat × XV)) (C S : Nat) (fs : List XF) (h : XHp) (E : XE) (a0 : Nat) (len : Nat) (st : List XV) : Option (List XS) := match len, st with
  | 2, st => xst_7 m pc l C S fs h E a0 st
  | _, _ => none
noncomputable def xd_iload_n (m pc : Nat) (l : List (Nat × XV)) (C S : Nat) (fs : List XF) (h : XHp) (E : XE) (a0 : Fin 4) (len : Nat) (st : List XV) : Option (List XS) := match len, st with
  | 1, st => xst_8 m pc l C S fs h E a0 st
  | _, _ => none
noncomputable def xd_istore (m pc : Nat) (l : List (Nat × XV)) (C S : Nat) (fs : List XF) (h : XHp) (E : XE) (a0 : Nat) (len : Nat) (st : List XV) : Option (List XS) := match len, st with
  | 2, .inl x :: r => xst_9 m pc l C S fs h E a0 x r
  | _, _ => none
noncomputable def xd_istore_n (m pc : Nat) (l : List (Nat × XV)) (C S : Nat) (fs : List XF) (h : XHp) (E : XE) (a0 : Fin 4) (len : Nat) (st : List XV) : Option (List XS) := match len, st with
  | 1, .inl x :: r => xst_10 m pc l C S fs h E a0 x r
  | _, _ => none
noncomputable def xd_lload (m pc : Nat) (l : List (Nat × XV)) (C S : Nat) (fs : List XF) (h : XHp) (E : XE) (a0 : Nat) (len : Nat) (st : List XV) : Option (List XS) := match len, st with
  | 2, st => xst_11 m pc l C S fs h E a0 st
  | _, _ => none
noncomputable def xd_lload_n (m pc : Nat) (l : List (Nat × XV)) (C S : Nat) (fs : List XF) (h : XHp) (E : XE) (a0 : Fin 4) (len : Nat) (st : List XV) : Option (List XS) := match len, st with
  | 1, st => xst_12 m pc l C S fs h E a0 st
  | _, _ => none
noncomputable def xd_lstore (m pc : Nat) (l : List (Nat × XV)) (C S : Nat) (fs : List XF) (h : XHp) (E : XE) (a0 : Nat) (len : Nat) (st : List XV) : Option (List XS) := match len, st with
  | 2, .inr (.inl x) :: r => xst_13 m pc l C S fs h E a0 x r
  | _, _ => none
noncomputable def xd_lstore_n (m pc : Nat) (l : List (Nat × XV)) (C S : Nat) (fs : List XF) (h : XHp) (E : XE) (a0 : Fin 4) (len : Nat) (st : List XV) : Option (List XS) := match len, st with
  | 1, .inr (.inl x) :: r => xst_14 m pc l C S fs h E a0 x r
  | _, _ => none
noncomputable def xd_aload (m pc : Nat) (l : List (Nat × XV)) (C S : Nat) (fs : List XF) (h : XHp) (E : XE) (a0 : Nat) (len : Nat) (st : List XV) : Option (List XS) := match len, st with
  | 2, st => xst_15 m pc l C S fs h E a0 st
  | _, _ => none
noncomputable def xd_aload_n (m pc : Nat) (l : List (Nat × XV)) (C S : Nat) (fs : List XF) (h : XHp) (E : XE) (a0 : Fin 4) (len : Nat) (st : List XV) : Option (List XS) := match len, st with
  | 1, st => xst_16 m pc l C S fs h E a0 st
  | _, _ => none
noncomputable def xd_astore (m pc : Nat) (l : List (Nat × XV)) (C S : Nat) (fs : List XF) (h : XHp) (E : XE) (a0 : Nat) (len : Nat) (st : List XV) : Option (List XS) := match len, st with
  | 2, .inr (.inr (x + 1)) :: r => xst_17 m pc l C S fs h E a0 x r
  | _, _ => none
noncomputable def xd_astore_n (m pc : Nat) (l : List (Nat × XV)) (C S : Nat) (fs : List XF) (h : XHp) (E : XE) (a0 : Fin 4) (len : Nat) (st : List XV) : Option (List XS) := match len, st with
  | 1, .inr (.inr (x + 1)) :: r => xst_18 m pc l C S fs h E a0 x r
  | _, _ => none
noncomputable def xd_iinc (m pc : Nat) (l : List (Nat × XV)) (C S : Nat) (fs : List XF) (h : XHp) (E : XE) (a0 : Nat) (a1 : Int) (len : Nat) (st : List XV) : Option (List XS) := match len, st with
  | 3, st => xst_19 m pc l C S fs h E a0 a1 st
  | _, _ => none
noncomputable def xd_iadd (m pc : Nat) (l : List (Nat × XV)) (C S : Nat) (fs : List XF) (h : XHp) (E : XE) (len : Nat) (st : List XV) : Option (List XS) := match len, st with
  | 1, .inl y :: .inl x :: r => xst_20 m pc l C S fs h E y x r
  | _, _ => none
noncomputable def xd_iand (m pc : Nat) (l : List (Nat × XV)) (C S : Nat) (fs : List XF) (h : XHp) (E : XE) (len : Nat) (st : List XV) : Option (List XS) := match len, st with
  | 1, .inl y :: .inl x :: r => xst_21 m pc l C S fs h E y x r
  | _, _ => none
noncomputable def xd_isub (m pc : Nat) (l : List (Nat × XV)) (C S : Nat) (fs : List XF) (h : XHp) (E : XE) (len : Nat) (st : List XV) : Option (List XS) := match len, st with
  | 1, .inl y :: .inl x :: r => xst_22 m pc l C S fs h E y x r
  | _, _ => none
noncomputable def xd_imul (m pc : Nat) (l : List (Nat × XV)) (C S : Nat) (fs : List XF) (h : XHp) (E : XE) (len : Nat) (st : List XV) : Option (List XS) := match len, st with
  | 1, .inl y :: .inl x :: r => xst_23 m pc l C S fs h E y x r
  | _, _ => none
noncomputable def xd_ior (m pc : Nat) (l : List (Nat × XV)) (C S : Nat) (fs : List XF) (h : XHp) (E : XE) (len : Nat) (st : List XV) : Option (List XS) := match len, st with
  | 1, .inl y :: .inl x :: r => xst_24 m pc l C S fs h E y x r
  | _, _ => none
noncomputable def xd_ixor (m pc : Nat) (l : List (Nat × XV)) (C S : Nat) (fs : List XF) (h : XHp) (E : XE) (len : Nat) (st : List XV) : Option (List XS) := match len, st with
  | 1, .inl y :: .inl x :: r => xst_25 m pc l C S fs h E y x r
  | _, _ => none
noncomputable def xd_ishl (m pc : Nat) (l : List (Nat × XV)) (C S : Nat) (fs : List XF) (h : XHp) (E : XE) (len : Nat) (st : List XV) : Option (List XS) := match len, st with
  | 1, .inl y :: .inl x :: r => xst_26 m pc l C S fs h E y x r
  | _, _ => none
noncomputable def xd_ishr (m pc : Nat) (l : List (Nat × XV)) (C S : Nat) (fs : List XF) (h : XHp) (E : XE) (len : Nat) (st : List XV) : Option (List XS) := match len, st with
  | 1, .inl y :: .inl x :: r => xst_27 m pc l C S fs h E y x r
  | _, _ => none
noncomputable def xd_iushr (m pc : Nat) (l : List (Nat × XV)) (C S : Nat) (fs : List XF) (h : XHp) (E : XE) (len : Nat) (st : List XV) : Option (List XS) := match len, st with
  | 1, .inl y :: .inl x :: r => xst_28 m pc l C S fs h E y x r
  | _, _ => none
noncomputable def xd_idiv (m pc : Nat) (l : List (Nat × XV)) (C S : Nat) (fs : List XF) (h : XHp) (E : XE) (len : Nat) (st : List XV) : Option (List XS) := match len, st with
  | 1, .inl (.inl y) :: .inl x :: r => xst_29 m pc l C S fs h E y x r
  | _, _ => none
noncomputable def xd_irem (m pc : Nat) (l : List (Nat × XV)) (C S : Nat) (fs : List XF) (h : XHp) (E : XE) (len : Nat) (st : List XV) : Option (List XS) := match len, st with
  | 1, .inl (.inl y) :: .inl x :: r => xst_30 m pc l C S fs h E y x r
  | _, _ => none
noncomputable def xd_ladd (m pc : Nat) (l : List (Nat × XV)) (C S : Nat) (fs : List XF) (h : XHp) (E : XE) (len : Nat) (st : List XV) : Option (List XS) := match len, st with
  | 1, .inr (.inl y) :: .inr (.inl x) :: r => xst_31 m pc l C S fs h E y x r
  | _, _ => none
noncomputable def xd_lsub (m pc : Nat) (l : List (Nat × XV)) (C S : Nat) (fs : List XF) (h : XHp) (E : XE) (len : Nat) (st : List XV) : Option (List XS) := match len, st with
  | 1, .inr (.inl y) :: .inr (.inl x) :: r => xst_32 m pc l C S fs h E y x r
  | _, _ => none
noncomputable def xd_lmul (m pc : Nat) (l : List (Nat × XV)) (C S : Nat) (fs : List XF) (h : XHp) (E : XE) (len : Nat) (st : List XV) : Option (List XS) := match len, st with
  | 1, .inr (.inl y) :: .inr (.inl x) :: r => xst_33 m pc l C S fs h E y x r
  | _, _ => none
noncomputable def xd_land (m pc : Nat) (l : List (Nat × XV)) (C S : Nat) (fs : List XF) (h : XHp) (E : XE) (len : Nat) (st : List XV) : Option (List XS) := match len, st with
  | 1, .inr (.inl y) :: .inr (.inl x) :: r => xst_34 m pc l C S fs h E y x r
  | _, _ => none
noncomputable def xd_lor (m pc : Nat) (l : List (Nat × XV)) (C S : Nat) (fs : List XF) (h : XHp) (E : XE) (len : Nat) (st : List XV) : Option (List XS) := match len, st with
  | 1, .inr (.inl y) :: .inr (.inl x) :: r => xst_35 m pc l C S fs h E y x r
  | _, _ => none
noncomputable def xd_lxor (m pc : Nat) (l : List (Nat × XV)) (C S : Nat) (fs : List XF) (h : XHp) (E : XE) (len : Nat) (st : List XV) : Option (List XS) := match len, st with
  | 1, .inr (.inl y) :: .inr (.inl x) :: r => xst_36 m pc l C S fs h E y x r
  | _, _ => none
noncomputable def xd_ldiv (m pc : Nat) (l : List (Nat × XV)) (C S : Nat) (fs : List XF) (h : XHp) (E : XE) (len : Nat) (st : List XV) : Option (List XS) := match len, st with
  | 1, .inr (.inl (some (.inl y))) :: .inr (.inl x) :: r => xst_37 m pc l C S fs h E y x r
  | _, _ => none
noncomputable def xd_lrem (m pc : Nat) (l : List (Nat × XV)) (C S : Nat) (fs : List XF) (h : XHp) (E : XE) (len : Nat) (st : List XV) : Option (List XS) := match len, st with
  | 1, .inr (.inl (some (.inl y))) :: .inr (.inl x) :: r => xst_38 m pc l C S fs h E y x r
  | _, _ => none
noncomputable def xd_lshl (m pc : Nat) (l : List (Nat × XV)) (C S : Nat) (fs : List XF) (h : XHp) (E : XE) (len : Nat) (st : List XV) : Option (List XS) := match len, st with
  | 1, .inl y :: .inr (.inl x) :: r => xst_39 m pc l C S fs h E y x r
  | _, _ => none
noncomputable def xd_lshr (m pc : Nat) (l : List (Nat × XV)) (C S : Nat) (fs : List XF) (h : XHp) (E : XE) (len : Nat) (st : List XV) : Option (List XS) := match len, st with
  | 1, .inl y :: .inr (.inl x) :: r => xst_40 m pc l C S fs h E y x r
  | _, _ => none
noncomputable def xd_lushr (m pc : Nat) (l : List (Nat × XV)) (C S : Nat) (fs : List XF) (h : XHp) (E : XE) (len : Nat) (st : List XV) : Option (List XS) := match len, st with
  | 1, .inl y :: .inr (.inl x) :: r => xst_41 m pc l C S fs h E y x r
  | _, _ => none
noncomputable def xd_lcmp (m pc : Nat) (l : List (Nat × XV)) (C S : Nat) (fs : List XF) (h : XHp) (E : XE) (len : Nat) (st : List XV) : Option (List XS) := match len, st with
  | 1, .inr (.inl y) :: .inr (.inl x) :: r => xst_42 m pc l C S fs h E y x r
  | _, _ => none
noncomputable def xd_ineg (m pc : Nat) (l : List (Nat × XV)) (C S : Nat) (fs : List XF) (h : XHp) (E : XE) (len : Nat) (st : List XV) : Option (List XS) := match len, st with
  | 1, .inl x :: r => xst_43 m pc l C S fs h E x r
  | _, _ => none
noncomputable def xd_lneg (m pc : Nat) (l : List (Nat × XV)) (C S : Nat) (fs : List XF) (h : XHp) (E : XE) (len : Nat) (st : List XV) : Option (List XS) := match len, st with
  | 1, .inr (.inl x) :: r => xst_44 m pc l C S fs h E x r
  | _, _ => none
noncomputable def xd_i2l (m pc : Nat) (l : List (Nat × XV)) (C S : Nat) (fs : List XF) (h : XHp) (E : XE) (len : Nat) (st : List XV) : Option (List XS) := match len, st with
  | 1, .inl x :: r => xst_45 m pc l C S fs h E x r
  | _, _ => none
noncomputable def xd_l2i (m pc : Nat) (l : List (Nat × XV)) (C S : Nat) (fs : List XF) (h : XHp) (E : XE) (len : Nat) (st : List XV) : Option (List XS) := match len, st with
  | 1, .inr (.inl x) :: r => xst_46 m pc l C S fs h E x r
  | _, _ => none
noncomputable def xd_i2c (m pc : Nat) (l : List (Nat × XV)) (C S : Nat) (fs : List XF) (h : XHp) (E : XE) (len : Nat) (st : List XV) : Option (List XS) := match len, st with
  | 1, .inl x :: r => xst_47 m pc l C S fs h E x r
  | _, _ => none
noncomputable def xd_dup (m pc : Nat) (l : List (Nat × XV)) (C S : Nat) (fs : List XF) (h : XHp) (E : XE) (len : Nat) (st : List XV) : Option (List XS) := match len, st with
  | 1, v :: r => xst_48 m pc l C S fs h E v r
  | _, _ => none
noncomputable def xd_pop (m pc : Nat) (l : List (Nat × XV)) (C S : Nat) (fs : List XF) (h : XHp) (E : XE) (len : Nat) (st : List XV) : Option (List XS) := match len, st with
  | 1, v :: r => xst_49 m pc l C S fs h E v r
  | _, _ => none
noncomputable def xd_pop2 (m pc : Nat) (l : List (Nat × XV)) (C S : Nat) (fs : List XF) (h : XHp) (E : XE) (len : Nat) (st : List XV) : Option (List XS) := match len, st with
  | 1, v :: r => xst_50 m pc l C S fs h E v r
  | _, _ => none
noncomputable def xd_dup2 (m pc : Nat) (l : List (Nat × XV)) (C S : Nat) (fs : List XF) (h : XHp) (E : XE) (len : Nat) (st : List XV) : Option (List XS) := match len, st with
  | 1, v :: w :: r => xst_51 m pc l C S fs h E v w r
  | _, _ => none
noncomputable def xd_ifCond (m pc : Nat) (l : List (Nat × XV)) (C S : Nat) (fs : List XF) (h : XHp) (E : XE) (a0 : Jvm.ClassFile.Cond) (a1 : Int) (len : Nat) (st : List XV) : Option (List XS) := match a0, len, st with
  | .eq, 3, .inl x :: r => xst_52 m pc l C S fs h E a1 x r
  | .ne, 3, .inl x :: r => xst_53 m pc l C S fs h E a1 x r
  | .lt, 3, .inl x :: r => xst_54 m pc l C S fs h E a1 x r
  | .ge, 3, .inl x :: r => xst_55 m pc l C S fs h E a1 x r
  | .gt, 3, .inl x :: r => xst_56 m pc l C S fs h E a1 x r
  | .le, 3, .inl x :: r => xst_57 m pc l C S fs h E a1 x r
  | _, _, _ => none
noncomputable def xd_if_icmp (m pc : Nat) (l : List (Nat × XV)) (C S : Nat) (fs : List XF) (h : XHp) (E : XE) (a0 : Jvm.ClassFile.Cond) (a1 : Int) (len : Nat) (st : List XV) : Option (List XS) := match a0, len, st with
  | .eq, 3, .inl y :: .inl x :: r => xst_58 m pc l C S fs h E a1 y x r
  | .ne, 3, .inl y :: .inl x :: r => xst_59 m pc l C S fs h E a1 y x r
  | .lt, 3, .inl y :: .inl x :: r => xst_60 m pc l C S fs h E a1 y x r
  | .ge, 3, .inl y :: .inl x :: r => xst_61 m pc l C S fs h E a1 y x r
  | .gt, 3, .inl y :: .inl x :: r => xst_62 m pc l C S fs h E a1 y x r
  | .le, 3, .inl y :: .inl x :: r => xst_63 m pc l C S fs h E a1 y x r
  | _, _, _ => none
noncomputable def xd_goto (m pc : Nat) (l : List (Nat × XV)) (C S : Nat) (fs : List XF) (h : XHp) (E : XE) (a0 : Int) (len : Nat) (st : List XV) : Option (List XS) := match len, st with
  | 3, st => xst_64 m pc l C S fs h E a0 st
  | _, _ => none
noncomputable def xd_tableswitch (m pc : Nat) (l : List (Nat × XV)) (C S : Nat) (fs : List XF) (h : XHp) (E : XE) (a0 : Int) (a1 : Int) (a2 : Int) (a3 : Array Int) (len : Nat) (st : List XV) : Option (List XS) := match len, st with
  | _, .inl x :: r => xst_65 m pc l C S fs h E a0 a1 a2 a3 x r
  | _, _ => none
noncomputable def xd_lookupswitch (m pc : Nat) (l : List (Nat × XV)) (C S : Nat) (fs : List XF) (h : XHp) (E : XE) (a0 : Int) (a1 : Array (Int × Int)) (len : Nat) (st : List XV) : Option (List XS) := match len, st with
  | _, .inl (.inl c) :: r => xst_66 m pc l C S fs h E a0 a1 c r
  | _, _ => none
noncomputable def xd_getfield (m pc : Nat) (l : List (Nat × XV)) (C S : Nat) (fs : List XF) (h : XHp) (E : XE) (a0 : Nat) (len : Nat) (st : List XV) : Option (List XS) := match len, st with
  | 3, .inr (.inr (a + 3)) :: r => xst_67 m pc l C S fs h E a0 a r
  | _, _ => none
noncomputable def xd_putfield (m pc : Nat) (l : List (Nat × XV)) (C S : Nat) (fs : List XF) (h : XHp) (E : XE) (a0 : Nat) (len : Nat) (st : List XV) : Option (List XS) := match len, st with
  | 3, v :: .inr (.inr (a + 3)) :: r => xst_68 m pc l C S fs h E a0 v a r
  | _, _ => none
noncomputable def xd_iaload (m pc : Nat) (l : List (Nat × XV)) (C S : Nat) (fs : List XF) (h : XHp) (E : XE) (len : Nat) (st : List XV) : Option (List XS) := match len, st with
  | 1, .inl (.inl c) :: .inr (.inr 2) :: r => xst_69 m pc l C S fs h E c r
  | 1, .inl x :: .inr (.inr (a + 3)) :: r => xst_70 m pc l C S fs h E x a r
  | _, _ => none
noncomputable def xd_laload (m pc : Nat) (l : List (Nat × XV)) (C S : Nat) (fs : List XF) (h : XHp) (E : XE) (len : Nat) (st : List XV) : Option (List XS) := match len, st with
  | 1, .inl x :: .inr (.inr (a + 3)) :: r => xst_71 m pc l C S fs h E x a r
  | _, _ => none
noncomputable def xd_caload (m pc : Nat) (l : List (Nat × XV)) (C S : Nat) (fs : List XF) (h : XHp) (E : XE) (len : Nat) (st : List XV) : Option (List XS) := match len, st with
  | 1, .inl x :: .inr (.inr (a + 3)) :: r => xst_72 m pc l C S fs h E x a r
  | _, _ => none
noncomputable def xd_baload (m pc : Nat) (l : List (Nat × XV)) (C S : Nat) (fs : List XF) (h : XHp) (E : XE) (len : Nat) (st : List XV) : Option (List XS) := match len, st with
  | 1, .inl x :: .inr (.inr (a + 3)) :: r => xst_73 m pc l C S fs h E x a r
  | _, _ => none
noncomputable def xd_iastore (m pc : Nat) (l : List (Nat × XV)) (C S : Nat) (fs : List XF) (h : XHp) (E : XE) (len : Nat) (st : List XV) : Option (List XS) := match len, st with
  | 1, .inl v :: .inl (.inl c) :: .inr (.inr (a + 3)) :: r => xst_74 m pc l C S fs h E v c a r
  | _, _ => none
noncomputable def xd_castore (m pc : Nat) (l : List (Nat × XV)) (C S : Nat) (fs : List XF) (h : XHp) (E : XE) (len : Nat) (st : List XV) : Option (List XS) := match len, st with
  | 1, .inl v :: .inl (.inl c) :: .inr (.inr (a + 3)) :: r => xst_75 m pc l C S fs h E v c a r
  | _, _ => none
noncomputable def xd_bastore (m pc : Nat) (l : List (Nat × XV)) (C S : Nat) (fs : List XF) (h : XHp) (E : XE) (len : Nat) (st : List XV) : Option (List XS) := match len, st with
  | 1, .inl v :: .inl (.inl c) :: .inr (.inr (a + 3)) :: r => xst_76 m pc l C S fs h E v c a r
  | _, _ => none
noncomputable def xd_lastore (m pc : Nat) (l : List (Nat × XV)) (C S : Nat) (fs : List XF) (h : XHp) (E : XE) (len : Nat) (st : List XV) : Option (List XS) := match len, st with
  | 1, .inr (.inl v) :: .inl (.inl c) :: .inr (.inr (a + 3)) :: r => xst_77 m pc l C S fs h E v c a r
  | _, _ => none
noncomputable def xd_arraylength (m pc : Nat) (l : List (Nat × XV)) (C S : Nat) (fs : List XF) (h : XHp) (E : XE) (len : Nat) (st : List XV) : Option (List XS) := match len, st with
  | 1, .inr (.inr 2) :: r => xst_78 m pc l C S fs h E r
  | 1, .inr (.inr (a + 3)) :: r => xst_79 m pc l C S fs h E a r
  | _, _ => none
noncomputable def xd_new (m pc : Nat) (l : List (Nat × XV)) (C S : Nat) (fs : List XF) (h : XHp) (E : XE) (a0 : Nat) (len : Nat) (st : List XV) : Option (List XS) := match len, st with
  | 3, st => xst_80 m pc l C S fs h E a0 st
  | _, _ => none
noncomputable def xd_newarray (m pc : Nat) (l : List (Nat × XV)) (C S : Nat) (fs : List XF) (h : XHp) (E : XE) (a0 : ArrayType) (len : Nat) (st : List XV) : Option (List XS) := match a0, len, st with
  | .int, 2, .inl (.inl c) :: r => xst_81 m pc l C S fs h E c r
  | .long, 2, .inl (.inl c) :: r => xst_82 m pc l C S fs h E c r
  | .char, 2, .inl (.inl c) :: r => xst_83 m pc l C S fs h E c r
  | .boolean, 2, .inl (.inl c) :: r => xst_84 m pc l C S fs h E c r
  | _, _, _ => none
noncomputable def xd_invokevirtual (m pc : Nat) (l : List (Nat × XV)) (C S : Nat) (fs : List XF) (h : XHp) (E : XE) (a0 : Nat) (len : Nat) (st : List XV) : Option (List XS) := match len, st with
  | 3, st => xst_85 m pc l C S fs h E a0 st
  | _, _ => none
noncomputable def xd_invokestatic (m pc : Nat) (l : List (Nat × XV)) (C S : Nat) (fs : List XF) (h : XHp) (E : XE) (a0 : Nat) (len : Nat) (st : List XV) : Option (List XS) := match len, st with
  | 3, st => xst_86 m pc l C S fs h E a0 st
  | _, _ => none
noncomputable def xd_invokespecial (m pc : Nat) (l : List (Nat × XV)) (C S : Nat) (fs : List XF) (h : XHp) (E : XE) (a0 : Nat) (len : Nat) (st : List XV) : Option (List XS) := match len, st with
  | 3, st => xst_87 m pc l C S fs h E a0 st
  | _, _ => none
noncomputable def xd_ireturn (m pc : Nat) (l : List (Nat × XV)) (C S : Nat) (fs : List XF) (h : XHp) (E : XE) (len : Nat) (st : List XV) : Option (List XS) := match len, st with
  | 1, [.inl x] => xst_88 m pc l C S fs h E x
  | _, _ => none
noncomputable def xd_lreturn (m pc : Nat) (l : List (Nat × XV)) (C S : Nat) (fs : List XF) (h : XHp) (E : XE) (len : Nat) (st : List XV) : Option (List XS) := match len, st with
  | 1, [.inr (.inl x)] => xst_89 m pc l C S fs h E x
  | _, _ => none
noncomputable def xd_areturn (m pc : Nat) (l : List (Nat × XV)) (C S : Nat) (fs : List XF) (h : XHp) (E : XE) (len : Nat) (st : List XV) : Option (List XS) := match len, st with
  | 1, [.inr (.inr (a + 1))] => xst_90 m pc l C S fs h E a
  | _, _ => none
noncomputable def xd_return_ (m pc : Nat) (l : List (Nat × XV)) (C S : Nat) (fs : List XF) (h : XHp) (E : XE) (len : Nat) (st : List XV) : Option (List XS) := match len, st with
  | 1, [] => xst_91 m pc l C S fs h E 
  | _, _ => none
noncomputable def xstep (s : XS) : Option (List XS) := match s with
  | ([], _, _) => none
  | ((m, pc, l, st, C, S, _) :: fs, h, E) =>
    match cond (Nat.blt m xm_n) (xlook pc (xi m pc)) none with
    | none => none
    | some (i, len) => match i with
    | .iconst a0 => xd_iconst m pc l C S fs h E a0 len st
    | .bipush a0 => xd_bipush m pc l C S fs h E a0 len st
    | .sipush a0 => xd_sipush m pc l C S fs h E a0 len st
    | .lconst a0 => xd_lconst m pc l C S fs h E a0 len st
    | .ldc a0 => xd_ldc m pc l C S fs h E a0 len st
    | .ldc_w a0 => xd_ldc_w m pc l C S fs h E a0 len st
    | .ldc2_w a0 => xd_ldc2_w m pc l C S fs h E a0 len st
    | .iload a0 => xd_iload m pc l C S fs h E a0 len st
    | .iload_n a0 => xd_iload_n m pc l C S fs h E a0 len st
    | .istore a0 => xd_istore m pc l C S fs h E a0 len st
    | .istore_n a0 => xd_istore_n m pc l C S fs h E a0 len st
    | .lload a0 => xd_lload m pc l C S fs h E a0 len st
    | .lload_n a0 => xd_lload_n m pc l C S fs h E a0 len st
    | .lstore a0 => xd_lstore m pc l C S fs h E a0 len st
    | .lstore_n a0 => xd_lstore_n m pc l C S fs h E a0 len st
    | .aload a0 => xd_aload m pc l C S fs h E a0 len st
    | .aload_n a0 => xd_aload_n m pc l C S fs h E a0 len st
    | .astore a0 => xd_astore m pc l C S fs h E a0 len st
    | .astore_n a0 => xd_astore_n m pc l C S fs h E a0 len st
    | .iinc a0 a1 => xd_iinc m pc l C S fs h E a0 a1 len st
    | .iadd  => xd_iadd m pc l C S fs h E  len st
    | .iand  => xd_iand m pc l C S fs h E  len st
    | .isub  => xd_isub m pc l C S fs h E  len st
    | .imul  => xd_imul m pc l C S fs h E  len st
    | .ior  => xd_ior m pc l C S fs h E  len st
    | .ixor  => xd_ixor m pc l C S fs h E  len st
    | .ishl  => xd_ishl m pc l C S fs h E  len st
    | .ishr  => xd_ishr m pc l C S fs h E  len st
    | .iushr  => xd_iushr m pc l C S fs h E  len st
    | .idiv  => xd_idiv m pc l C S fs h E  len st
    | .irem  => xd_irem m pc l C S fs h E  len st
    | .ladd  => xd_ladd m pc l C S fs h E  len st
    | .lsub  => xd_lsub m pc l C S fs h E  len st
    | .lmul  => xd_lmul m pc l C S fs h E  len st
    | .land  => xd_land m pc l C S fs h E  len st
    | .lor  => xd_lor m pc l C S fs h E  len st
    | .lxor  => xd_lxor m pc l C S fs h E  len st
    | .ldiv  => xd_ldiv m pc l C S fs h E  len st
    | .lrem  => xd_lrem m pc l C S fs h E  len st
    | .lshl  => xd_lshl m pc l C S fs h E  len st
    | .lshr  => xd_lshr m pc l C S fs h E  len st
    | .lushr  => xd_lushr m pc l C S fs h E  len st
    | .lcmp  => xd_lcmp m pc l C S fs h E  len st
    | .ineg  => xd_ineg m pc l C S fs h E  len st
    | .lneg  => xd_lneg m pc l C S fs h E  len st
    | .i2l  => xd_i2l m pc l C S fs h E  len st
    | .l2i  => xd_l2i m pc l C S fs h E  len st
    | .i2c  => xd_i2c m pc l C S fs h E  len st
    | .dup  => xd_dup m pc l C S fs h E  len st
    | .pop  => xd_pop m pc l C S fs h E  len st
    | .pop2  => xd_pop2 m pc l C S fs h E  len st
    | .dup2  => xd_dup2 m pc l C S fs h E  len st
    | .ifCond a0 a1 => xd_ifCond m pc l C S fs h E a0 a1 len st
    | .if_icmp a0 a1 => xd_if_icmp m pc l C S fs h E a0 a1 len st
    | .goto a0 => xd_goto m pc l C S fs h E a0 len st
    | .tableswitch a0 a1 a2 a3 => xd_tableswitch m pc l C S fs h E a0 a1 a2 a3 len st
    | .lookupswitch a0 a1 => xd_lookupswitch m pc l C S fs h E a0 a1 len st
    | .getfield a0 => xd_getfield m pc l C S fs h E a0 len st
    | .putfield a0 => xd_putfield m pc l C S fs h E a0 len st
    | .iaload  => xd_iaload m pc l C S fs h E  len st
    | .laload  => xd_laload m pc l C S fs h E  len st
    | .caload  => xd_caload m pc l C S fs h E  len st
    | .baload  => xd_baload m pc l C S fs h E  len st
    | .iastore  => xd_iastore m pc l C S fs h E  len st
    | .castore  => xd_castore m pc l C S fs h E  len st
    | .bastore  => xd_bastore m pc l C S fs h E  len st
    | .lastore  => xd_lastore m pc l C S fs h E  len st
    | .arraylength  => xd_arraylength m pc l C S fs h E  len st
    | .new a0 => xd_new m pc l C S fs h E a0 len st
    | .newarray a0 => xd_newarray m pc l C S fs h E a0 len st
    | .invokevirtual a0 => xd_invokevirtual m pc l C S fs h E a0 len st
    | .invokestatic a0 => xd_invokestatic m pc l C S fs h E a0 len st
    | .invokespecial a0 => xd_invokespecial m pc l C S fs h E a0 len st
    | .ireturn  => xd_ireturn m pc l C S fs h E  len st
    | .lreturn  => xd_lreturn m pc l C S fs h E  len st
    | .areturn  => xd_areturn m pc l C S fs h E  len st
    | .return_  => xd_return_ m pc l C S fs h E  len st
    | _ => none
noncomputable def xrun (n : Nat) : List XS → Bool := Nat.rec (fun _ => false) (fun _ ih w => match w with
  | [] => true
  | s :: r => match xstep s with
    | none => false
    | some ss => ih (ss ++ r)) n
