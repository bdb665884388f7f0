section
/-! AN EXECUTOR over abstract values: what the kernel can run. Ints: a constant, one of the script's ints (number 6: the first one & 63), a range. Refs: 0 null, 1 some reference, 2 the script, k + 3 the world's cell k. -/
abbrev XI : Type := Int32 ⊕ (Nat ⊕ (Int × Int))
/-- longs: a constant, one of the script's ints, or anything -/
abbrev XL : Type := Option (Int64 ⊕ Nat)
abbrev XV : Type := XI ⊕ (XL ⊕ Nat)
/-! trees of fixed depth -/
noncomputable def XT (α : Type) : Nat → Type := fun d => Nat.rec (Option α) (fun _ t => t × t) d
noncomputable def xtz {α : Type} (d : Nat) : XT α d := @Nat.rec (fun d => XT α d) (none : Option α) (fun _ t => (t, t)) d
noncomputable def xtget {α : Type} (d : Nat) : XT α d → Nat → Option α := @Nat.rec (fun d => XT α d → Nat → Option α) (fun t _ => t) (fun d ih t i => cond (Nat.beq (Nat.land (Nat.shiftRight i d) 1) 0) (ih (Prod.fst t) i) (ih (Prod.snd t) i)) d
noncomputable def xtset {α : Type} (d : Nat) : XT α d → Nat → α → XT α d := @Nat.rec (fun d => XT α d → Nat → α → XT α d) (fun _ _ c => some c) (fun d ih t i c => cond (Nat.beq (Nat.land (Nat.shiftRight i d) 1) 0) (ih (Prod.fst t) i c, Prod.snd t) (Prod.fst t, ih (Prod.snd t) i c)) d
noncomputable def xtL {α : Type} (l : List α) : XT α 7 := @List.rec α (fun _ => Nat → XT α 7 → XT α 7) (fun _ t => t) (fun q _ ih k t => ih (k + 1) (xtset 7 t k q)) l 0 (xtz 7)
/-- what was put into an array: nothing yet, or a tree by its size -/
noncomputable abbrev XA : Type := Unit ⊕ (XT XV 6 ⊕ (XT XV 11 ⊕ XT XV 18))
/-- an array: 0 int, 1 long, 2 char, 3 boolean; length, what stands where nothing was put, what was put; or an object: class, fields -/
noncomputable abbrev XC : Type := (Nat × Nat × XV × XA) ⊕ (Nat × XT XV 7)
noncomputable abbrev XHp : Type := Nat × XT XC 10
noncomputable def xhg (h : XHp) (a : Nat) : Option XC := xtget 10 h.2 a
noncomputable def xhs (h : XHp) (a : Nat) (c : XC) : XHp := (h.1, xtset 10 h.2 a c)
noncomputable def xhp (h : XHp) (c : XC) : XHp := (h.1 + 1, xtset 10 h.2 h.1 c)
noncomputable def xoc (h : XHp) (a : Nat) : Option (Nat × XT XV 7) := match xhg h a with
  | some (.inr q) => some q
  | _ => none
noncomputable def xac (h : XHp) (a : Nat) : Option (Nat × Nat × XV × XA) := match xhg h a with
  | some (.inl q) => some q
  | _ => none
/-- method, pc, locals, stack, cells and slots left, 1: the call that stands open may not throw -/
abbrev XF : Type := Nat × Nat × List (Nat × XV) × List XV × Nat × Nat × Nat
/-- ranges of the script's ints; 6: of the first one & 63; 7: of the script's length -/
abbrev XE : Type := List (Int × Int)
noncomputable abbrev XS : Type := List XF × XHp × XE
noncomputable def xlook {α : Type} (k : Nat) (l : List (Nat × α)) : Option α := @List.rec (Nat × α) (fun _ => Option α) none (fun q _ ih => cond (Nat.beq q.1 k) (some q.2) ih) l
noncomputable def xfil (p : Nat × XV → Bool) (l : List (Nat × XV)) : List (Nat × XV) := @List.rec (Nat × XV) (fun _ => List (Nat × XV)) [] (fun q _ ih => cond (p q) (q :: ih) ih) l
abbrev xk0 (c : Int32) : XV := .inl (.inl c)
noncomputable def xtop : XI := .inr (.inr (-2147483648, 2147483647))
noncomputable def xlong : XV → Bool
  | .inr (.inl _) => true
  | _ => false
noncomputable def xcat (l : List XV) : Nat := l.foldr (fun v n => cond (xlong v) (n + 2) (n + 1)) 0
noncomputable def xs1 (i : Nat) (v : XV) (l : List (Nat × XV)) : List (Nat × XV) := (i, v) :: xfil (fun q => !(Nat.beq q.1 i) && !(Nat.beq (q.1 + 1) i && xlong q.2)) l
noncomputable def xargs (i : Nat) (l : List XV) : List (Nat × XV) := @List.rec XV (fun _ => Nat → List (Nat × XV)) (fun _ => []) (fun v _ ih i => (i, v) :: ih (cond (xlong v) (i + 2) (i + 1))) l i
noncomputable def xiv (E : XE) : XI → Int × Int
  | .inl c => (c.toInt, c.toInt)
  | .inr (.inl k) => (E[k]?).getD (-2147483648, 2147483647)
  | .inr (.inr r) => r
noncomputable def xbin (f : Int32 → Int32 → Int32) : XI → XI → XI
  | .inl x, .inl y => .inl (f x y)
  | _, _ => xtop
noncomputable def xadd : XI → XI → XI
  | .inl x, .inl y => .inl (x + y)
  | .inl x, b => if x = 0 then b else xtop
  | a, .inl y => if y = 0 then a else xtop
  | _, _ => xtop
noncomputable def xand : XI → XI → XI
  | .inl x, .inl y => .inl (x &&& y)
  | .inr (.inl 0), .inl y => if y = 63 then .inr (.inl 6) else xtop
  | _, _ => xtop
/-- comparisons: 0 eq, 1 ne, 2 lt, 3 ge, 4 gt, 5 le -/
noncomputable def xP (o : Nat) (x y : Int32) : Prop := match o with
  | 0 => x = y
  | 1 => ¬ x = y
  | 2 => x < y
  | 3 => y ≤ x
  | 4 => y < x
  | _ => x ≤ y
/-- of x < y, by ranges -/
noncomputable def xlt (a b : Int × Int) : Option Bool := cond (decide (a.2 < b.1)) (some true) (cond (decide (b.2 ≤ a.1)) (some false) none)
noncomputable def xeq (a b : Int × Int) : Option Bool := cond (decide (a.1 = a.2 ∧ b.1 = b.2 ∧ a.1 = b.1)) (some true) (cond (decide (a.2 < b.1 ∨ b.2 < a.1)) (some false) none)
noncomputable def xdec (o : Nat) (a b : Int × Int) : Option Bool := match o with
  | 0 => xeq a b
  | 1 => (xeq a b).map not
  | 2 => xlt a b
  | 3 => (xlt a b).map not
  | 4 => xlt b a
  | _ => (xlt b a).map not
/-- the range left of a value of range r, if it compares so (t) with c -/
noncomputable def xcut (o : Nat) (t : Bool) (r : Int × Int) (c : Int) : Int × Int := match o, t with
  | 0, true => (c, c)
  | 1, false => (c, c)
  | 2, true => (r.1, c - 1)
  | 3, false => (r.1, c - 1)
  | 2, false => (c, r.2)
  | 3, true => (c, r.2)
  | 4, true => (c + 1, r.2)
  | 5, false => (c + 1, r.2)
  | 4, false => (r.1, c)
  | 5, true => (r.1, c)
  | _, _ => r
/-- the comparison seen from the other side -/
noncomputable def xmir : Nat → Nat
  | 0 => 0
  | 1 => 1
  | 2 => 4
  | 3 => 5
  | 4 => 2
  | _ => 3
noncomputable def xref (E : XE) (o : Nat) (t : Bool) (x y : XI) : XE := match x, y with
  | .inr (.inl k), .inl c => match E[k]? with
    | some r => E.set k (xcut o t r c.toInt)
    | none => E
  | .inl c, .inr (.inl k) => match E[k]? with
    | some r => E.set k (xcut (xmir o) t r c.toInt)
    | none => E
  | _, _ => E
/-- the branches that may be taken, with what is then known -/
noncomputable def xbr (E : XE) (o : Nat) (x y : XI) : List (Bool × XE) := match xdec o (xiv E x) (xiv E y) with
  | some t => [(t, E)]
  | none => [(true, xref E o true x y), (false, xref E o false x y)]
noncomputable def xcap : XA → Nat
  | .inl _ => 262144
  | .inr (.inl _) => 64
  | .inr (.inr (.inl _)) => 2048
  | .inr (.inr (.inr _)) => 262144
noncomputable def xget (d : XV) (t : XA) (j : Nat) : XV := match t with
  | .inl _ => d
  | .inr (.inl t) => (xtget 6 t j).getD d
  | .inr (.inr (.inl t)) => (xtget 11 t j).getD d
  | .inr (.inr (.inr t)) => (xtget 18 t j).getD d
noncomputable def xput (n : Nat) (d : XV) (t : XA) (j : Nat) (v : XV) : XA := match t with
  | .inl _ => cond (decide (d = v)) (.inl ()) (cond (Nat.ble n 64) (.inr (.inl (xtset 6 (xtz 6) j v))) (cond (Nat.ble n 2048) (.inr (.inr (.inl (xtset 11 (xtz 11) j v)))) (.inr (.inr (.inr (xtset 18 (xtz 18) j v))))))
  | .inr (.inl t) => .inr (.inl (xtset 6 t j v))
  | .inr (.inr (.inl t)) => .inr (.inr (.inl (xtset 11 t j v)))
  | .inr (.inr (.inr t)) => .inr (.inr (.inr (xtset 18 t j v)))
/-- an index within n: the place, or none where only the range is known -/
noncomputable def xidx (E : XE) (n : Nat) : XI → Option (Option Nat)
  | .inl c => cond (decide (0 ≤ c.toInt ∧ c.toInt < (n : Int))) (some (some c.toNatClampNeg)) none
  | x => cond (decide (0 ≤ (xiv E x).1 ∧ (xiv E x).2 < (n : Int))) (some none) none
noncomputable def xread2 (d : XV) (t : XA) : Option (Option Nat) → Option XV
  | some (some j) => some (xget d t j)
  | some none => match t with
    | .inl _ => some d
    | .inr _ => none
  | none => none
noncomputable def xread (E : XE) (n : Nat) (d : XV) (t : XA) (x : XI) : Option XV := xread2 d t (xidx E n x)
noncomputable def xfit : Nat → XV → Bool
  | 0, .inl _ => true
  | 1, .inr (.inl _) => true
  | 2, .inl (.inl c) => decide (c = 0 ∨ c = 1)
  | 3, .inr (.inr _) => true
  | _, _ => false
noncomputable def xnar (_ : XE) : Nat → XI → XI
  | 2, .inl c => .inl (vp_nar .char c)
  | 3, .inl c => .inl (vp_nar .boolean c)
  | 2, _ => xtop
  | 3, _ => xtop
  | _, x => x
noncomputable def xdef : Nat → XV
  | 1 => .inr (.inl (some (.inl 0)))
  | 3 => .inr (.inr 0)
  | _ => .inl (.inl 0)
noncomputable def xarr0 (tag : Nat) : XV := cond (Nat.beq tag 1) (.inr (.inl (some (.inl 0)))) (.inl (.inl 0))
/-- the frames that a throw leaves: e 0 an illegal argument, 1 an illegal state -/
noncomputable def xunw (e : Nat) : List XF → Option (List XF)
  | [] => none
  | (m, pc, l, _, C, S, f) :: fs => cond (Nat.beq f 0 && Nat.blt m xm_n) (match xk m, xh m with
    | 0, _ => xunw e fs
    | 1, q :: r => cond (Nat.ble q.1 pc && Nat.blt pc q.2.1 && !(Nat.beq q.2.2.2 0)) (match xlook q.2.2.2 xq with
      | some (t, _) => cond (Nat.beq t e) (some ((m, q.2.2.1, l, [.inr (.inr 1)], C, S, 0) :: fs)) (cond (Nat.beq t 0 && Nat.beq e 1) (match r with
        | q2 :: _ => cond (Nat.ble q2.1 pc && Nat.blt pc q2.2.1 && !(Nat.beq q2.2.2.2 0)) (match xlook q2.2.2.2 xq with
          | some (t2, _) => cond (Nat.beq t2 1) (some ((m, q2.2.2.1, l, [.inr (.inr 1)], C, S, 0) :: fs)) none
          | none => none) none
        | [] => none) none)
      | none => none) none
    | _, _ => none) none
noncomputable def xtgt (pc : Nat) (o : Int) : Option Nat := cond (decide (0 ≤ (pc : Int) + o)) (some ((pc : Int) + o).toNat) none
noncomputable def xjump (m pc : Nat) (l : List (Nat × XV)) (r : List XV) (C S : Nat) (fs : List XF) (h : XHp) (o : Int) (bs : List (Bool × XE)) : Option (List XS) := match xtgt pc o with
  | some t => some (bs.map (fun q => ((m, cond q.1 t (pc + 3), l, r, C, S, 0) :: fs, h, q.2)))
  | none => none
/-- the call of method k with arguments as (the receiver among them), r left on the stack -/
noncomputable def xcall (m pc : Nat) (l : List (Nat × XV)) (r as : List XV) (C S : Nat) (fs : List XF) (h : XHp) (E : XE) (k f : Nat) : Option (List XS) :=
  cond (Nat.ble (xbud k).1 C && Nat.ble (xbud k).2 S && Nat.ble (xcat r) 8 && Nat.ble (xcat as) (xn k) && Nat.ble fs.length 1000) (some [((k, 0, xargs 0 as, [], (xbud k).1, (xbud k).2, 0) :: (m, pc, l, r, C - (xbud k).1, S - (xbud k).2, f) :: fs, h, E)]) none
/-- a call of allow (e = 0) or ready (e = 1) -/
noncomputable def xleaf (m pc : Nat) (l : List (Nat × XV)) (g : XI) (r : List XV) (C S : Nat) (fs : List XF) (h : XHp) (E : XE) (e : Nat) : Option (List XS) :=
  cond (Nat.ble 1 C && Nat.ble 6 S && Nat.ble (xcat r) 8 && Nat.ble fs.length 1000) (match xunw e ((m, pc, l, r, C - 1, S - 6, 0) :: fs) with
    | some fs2 => some ((xbr E 0 g (.inl 0)).map (fun q => (cond q.1 fs2 ((m, pc + 3, l, r, C - 1, S - 6, 0) :: fs), h, q.2)))
    | none => none) none
/-- a switch: by a constant, or by one of the script's ints of few values -/
noncomputable def xsw1 (pc : Nat) (df lo hi : Int) (os : Array Int) (v : Int) : Option Nat := cond (decide (v < lo ∨ hi < v)) (xtgt pc df) (match os[(v - lo).toNat]? with
  | some o => xtgt pc o
  | none => none)
noncomputable def xswitch (m pc : Nat) (l : List (Nat × XV)) (r : List XV) (C S : Nat) (fs : List XF) (h : XHp) (E : XE) (df lo hi : Int) (os : Array Int) (x : XI) : Option (List XS) := cond (decide ((xiv E x).1 = (xiv E x).2)) (match xsw1 pc df lo hi os (xiv E x).1 with
  | some t => some [((m, t, l, r, C, S, 0) :: fs, h, E)]
  | none => none) none
noncomputable def xcopy (m pc : Nat) (l : List (Nat × XV)) (st : List XV) (C S : Nat) (fs : List XF) (h : XHp) (E : XE) : Option (List XS) := match st with
  | .inl (.inl n) :: .inl (.inl dp) :: .inr (.inr (a + 3)) :: .inl (.inl sp) :: .inr (.inr (a0 + 3)) :: r => match xac h a0 with
    | some (t0, n0, d0, m0) => match xac h a with
      | some (t1, n1, _, _) => cond (Nat.beq t0 t1 && Nat.blt t0 2 && decide (n.toInt = (n1 : Int) ∧ dp = 0 ∧ sp = 0 ∧ n1 ≤ n0) && Nat.ble (xcat r) 8) (some [((m, pc + 3, l, r, C, S, 0) :: fs, xhs h a (.inl (t1, n1, d0, m0)), E)]) none
      | none => none
    | none => none
  | _ => none
noncomputable def xst_0 (m pc : Nat) (l : List (Nat × XV)) (C S : Nat) (fs : List XF) (h : XHp) (E : XE) (n : Int) (st : List XV) : Option (List XS) := some [((m, pc + 1, l, xk0 (Int32.ofInt n) :: st, C, S, 0) :: fs, h, E)]
noncomputable def xst_1 (m pc : Nat) (l : List (Nat × XV)) (C S : Nat) (fs : List XF) (h : XHp) (E : XE) (n : Int) (st : List XV) : Option (List XS) := some [((m, pc + 2, l, xk0 (Int8.ofInt n).toInt32 :: st, C, S, 0) :: fs, h, E)]
noncomputable def xst_2 (m pc : Nat) (l : List (Nat × XV)) (C S : Nat) (fs : List XF) (h : XHp) (E : XE) (n : Int) (st : List XV) : Option (List XS) := some [((m, pc + 3, l, xk0 (Int16.ofInt n).toInt32 :: st, C, S, 0) :: fs, h, E)]
noncomputable def xst_3 (m pc : Nat) (l : List (Nat × XV)) (C S : Nat) (fs : List XF) (h : XHp) (E : XE) (n : Fin 2) (st : List XV) : Option (List XS) := some [((m, pc + 1, l, .inr (.inl (some (.inl (Int64.ofNat (n : Nat))))) :: st, C, S, 0) :: fs, h, E)]
noncomputable def xst_7 (m pc : Nat) (l : List (Nat × XV)) (C S : Nat) (fs : List XF) (h : XHp) (E : XE) (i : Nat) (st : List XV) : Option (List XS) := match xlook i l with
      | some (.inl x) => some [((m, pc + 2, l, .inl x :: st, C, S, 0) :: fs, h, E)]
      | _ => none
noncomputable def xst_8 (m pc : Nat) (l : List (Nat × XV)) (C S : Nat) (fs : List XF) (h : XHp) (E : XE) (i : Fin 4) (st : List XV) : Option (List XS) := match xlook (i : Nat) l with
      | some (.inl x) => some [((m, pc + 1, l, .inl x :: st, C, S, 0) :: fs, h, E)]
      | _ => none
noncomputable def xst_9 (m pc : Nat) (l : List (Nat × XV)) (C S : Nat) (fs : List XF) (h : XHp) (E : XE) (i : Nat) (x : XI) (r : List XV) : Option (List XS) := cond (Nat.blt i (xn m)) (some [((m, pc + 2, xs1 i (.inl x) l, r, C, S, 0) :: fs, h, E)]) none
noncomputable def xst_10 (m pc : Nat) (l : List (Nat × XV)) (C S : Nat) (fs : List XF) (h : XHp) (E : XE) (i : Fin 4) (x : XI) (r : List XV) : Option (List XS) := cond (Nat.blt (i : Nat) (xn m)) (some [((m, pc + 1, xs1 (i : Nat) (.inl x) l, r, C, S, 0) :: fs, h, E)]) none
noncomputable def xst_12 (m pc : Nat) (l : List (Nat × XV)) (C S : Nat) (fs : List XF) (h : XHp) (E : XE) (i : Fin 4) (st : List XV) : Option (List XS) := match xlook (i : Nat) l with
      | some (.inr (.inl x)) => some [((m, pc + 1, l, .inr (.inl x) :: st, C, S, 0) :: fs, h, E)]
      | _ => none
noncomputable def xst_16 (m pc : Nat) (l : List (Nat × XV)) (C S : Nat) (fs : List XF) (h : XHp) (E : XE) (i : Fin 4) (st : List XV) : Option (List XS) := match xlook (i : Nat) l with
      | some (.inr (.inr (x + 1))) => some [((m, pc + 1, l, .inr (.inr (x + 1)) :: st, C, S, 0) :: fs, h, E)]
      | _ => none
noncomputable def xst_18 (m pc : Nat) (l : List (Nat × XV)) (C S : Nat) (fs : List XF) (h : XHp) (E : XE) (i : Fin 4) (x : Nat) (r : List XV) : Option (List XS) := cond (Nat.blt (i : Nat) (xn m)) (some [((m, pc + 1, xs1 (i : Nat) (.inr (.inr (x + 1))) l, r, C, S, 0) :: fs, h, E)]) none
noncomputable def xst_19 (m pc : Nat) (l : List (Nat × XV)) (C S : Nat) (fs : List XF) (h : XHp) (E : XE) (i : Nat) (n : Int) (st : List XV) : Option (List XS) := match xlook i l with
      | some (.inl x) => cond (Nat.blt i (xn m)) (some [((m, pc + 3, xs1 i (.inl (xadd x (.inl (Int32.ofInt n)))) l, st, C, S, 0) :: fs, h, E)]) none
      | _ => none
noncomputable def xst_21 (m pc : Nat) (l : List (Nat × XV)) (C S : Nat) (fs : List XF) (h : XHp) (E : XE) (y : XI) (x : XI) (r : List XV) : Option (List XS) := some [((m, pc + 1, l, .inl (xand x y) :: r, C, S, 0) :: fs, h, E)]
noncomputable def xst_22 (m pc : Nat) (l : List (Nat × XV)) (C S : Nat) (fs : List XF) (h : XHp) (E : XE) (y : XI) (x : XI) (r : List XV) : Option (List XS) := some [((m, pc + 1, l, .inl (xbin (fun x y => x - y) x y) :: r, C, S, 0) :: fs, h, E)]
noncomputable def xst_48 (m pc : Nat) (l : List (Nat × XV)) (C S : Nat) (fs : List XF) (h : XHp) (E : XE) (v : XV) (r : List XV) : Option (List XS) := cond (xlong v) none (some [((m, pc + 1, l, v :: v :: r, C, S, 0) :: fs, h, E)])
noncomputable def xst_58 (m pc : Nat) (l : List (Nat × XV)) (C S : Nat) (fs : List XF) (h : XHp) (E : XE) (o : Int) (y : XI) (x : XI) (r : List XV) : Option (List XS) := xjump m pc l r C S fs h o (xbr E 0 x y)
noncomputable def xst_59 (m pc : Nat) (l : List (Nat × XV)) (C S : Nat) (fs : List XF) (h : XHp) (E : XE) (o : Int) (y : XI) (x : XI) (r : List XV) : Option (List XS) := xjump m pc l r C S fs h o (xbr E 1 x y)
noncomputable def xst_60 (m pc : Nat) (l : List (Nat × XV)) (C S : Nat) (fs : List XF) (h : XHp) (E : XE) (o : Int) (y : XI) (x : XI) (r : List XV) : Option (List XS) := xjump m pc l r C S fs h o (xbr E 2 x y)
noncomputable def xst_61 (m pc : Nat) (l : List (Nat × XV)) (C S : Nat) (fs : List XF) (h : XHp) (E : XE) (o : Int) (y : XI) (x : XI) (r : List XV) : Option (List XS) := xjump m pc l r C S fs h o (xbr E 3 x y)
noncomputable def xst_62 (m pc : Nat) (l : List (Nat × XV)) (C S : Nat) (fs : List XF) (h : XHp) (E : XE) (o : Int) (y : XI) (x : XI) (r : List XV) : Option (List XS) := xjump m pc l r C S fs h o (xbr E 4 x y)
noncomputable def xst_63 (m pc : Nat) (l : List (Nat × XV)) (C S : Nat) (fs : List XF) (h : XHp) (E : XE) (o : Int) (y : XI) (x : XI) (r : List XV) : Option (List XS) := xjump m pc l r C S fs h o (xbr E 5 x y)
noncomputable def xst_64 (m pc : Nat) (l : List (Nat × XV)) (C S : Nat) (fs : List XF) (h : XHp) (E : XE) (o : Int) (st : List XV) : Option (List XS) := match xtgt pc o with
      | some t => some [((m, t, l, st, C, S, 0) :: fs, h, E)]
      | none => none
noncomputable def xst_65 (m pc : Nat) (l : List (Nat × XV)) (C S : Nat) (fs : List XF) (h : XHp) (E : XE) (df : Int) (lo : Int) (hi : Int) (os : Array Int) (x : XI) (r : List XV) : Option (List XS) := xswitch m pc l r C S fs h E df lo hi os x
noncomputable def xst_67 (m pc : Nat) (l : List (Nat × XV)) (C S : Nat) (fs : List XF) (h : XHp) (E : XE) (i : Nat) (a : Nat) (r : List XV) : Option (List XS) := match xoc h a with
      | some (ci, fv) => match xfD (xo m) i with
        | some (cj, k, _) => cond (Nat.beq ci cj) (match xtget 7 fv k with
          | some v => some [((m, pc + 3, l, v :: r, C, S, 0) :: fs, h, E)]
          | none => none) none
        | none => none
      | none => none
noncomputable def xst_68 (m pc : Nat) (l : List (Nat × XV)) (C S : Nat) (fs : List XF) (h : XHp) (E : XE) (i : Nat) (v : XV) (a : Nat) (r : List XV) : Option (List XS) := match xoc h a with
      | some (ci, fv) => match xfD (xo m) i with
        | some (cj, k, _) => cond (Nat.beq ci cj) (match xtget 7 (xtL (xt ci)) k with
        | some (ty, fin) => cond (xfit ty v && (!(Nat.beq fin 1) || (xin m && Nat.beq ci (xo m)))) (some [((m, pc + 3, l, r, C, S, 0) :: fs, xhs h a (.inr (ci, xtset 7 fv k v)), E)]) none
        | none => none) none
        | none => none
      | none => none
noncomputable def xst_69 (m pc : Nat) (l : List (Nat × XV)) (C S : Nat) (fs : List XF) (h : XHp) (E : XE) (c : Int32) (r : List XV) : Option (List XS) := match E[7]? with
      | some (lo, _) => cond (decide (0 ≤ c.toInt ∧ c.toInt < lo) && Nat.beq m 0 && Nat.blt c.toNatClampNeg 6) (some [((m, pc + 1, l, .inl (.inr (.inl c.toNatClampNeg)) :: r, C, S, 0) :: fs, h, E)]) none
      | none => none
noncomputable def xst_70 (m pc : Nat) (l : List (Nat × XV)) (C S : Nat) (fs : List XF) (h : XHp) (E : XE) (x : XI) (a : Nat) (r : List XV) : Option (List XS) := match xac h a with
      | some (tg, n, d, ms) => cond (Nat.beq tg 0) (match xread E n d ms x with
        | some v => some [((m, pc + 1, l, v :: r, C, S, 0) :: fs, h, E)]
        | none => none) none
      | none => none
noncomputable def xst_74 (m pc : Nat) (l : List (Nat × XV)) (C S : Nat) (fs : List XF) (h : XHp) (E : XE) (v : XI) (c : Int32) (a : Nat) (r : List XV) : Option (List XS) := match xac h a with
      | some (tg, n, d, ms) => cond (Nat.beq tg 0 && decide (0 ≤ c.toInt ∧ c.toInt < (n : Int))) (some [((m, pc + 1, l, r, C, S, 0) :: fs, xhs h a (.inl (0, n, d, xput n d ms c.toNatClampNeg (.inl (xnar E 0 v)))), E)]) none
      | none => none
noncomputable def xst_77 (m pc : Nat) (l : List (Nat × XV)) (C S : Nat) (fs : List XF) (h : XHp) (E : XE) (v : XL) (c : Int32) (a : Nat) (r : List XV) : Option (List XS) := match xac h a with
      | some (tg, n, d, ms) => cond (Nat.beq tg 1 && decide (0 ≤ c.toInt ∧ c.toInt < (n : Int))) (some [((m, pc + 1, l, r, C, S, 0) :: fs, xhs h a (.inl (1, n, d, xput n d ms c.toNatClampNeg (.inr (.inl v)))), E)]) none
      | none => none
noncomputable def xst_78 (m pc : Nat) (l : List (Nat × XV)) (C S : Nat) (fs : List XF) (h : XHp) (E : XE) (r : List XV) : Option (List XS) := match E[7]? with
      | some (lo, hi) => cond (decide (lo = hi) && Nat.beq m 0) (some [((m, pc + 1, l, xk0 (Int32.ofInt lo) :: r, C, S, 0) :: fs, h, E)]) none
      | none => none
noncomputable def xst_79 (m pc : Nat) (l : List (Nat × XV)) (C S : Nat) (fs : List XF) (h : XHp) (E : XE) (a : Nat) (r : List XV) : Option (List XS) := match xac h a with
      | some (tg, n, _, _) => cond (Nat.blt tg 4) (some [((m, pc + 1, l, xk0 (Int32.ofNat n) :: r, C, S, 0) :: fs, h, E)]) none
      | none => none
noncomputable def xst_80 (m pc : Nat) (l : List (Nat × XV)) (C S : Nat) (fs : List XF) (h : XHp) (E : XE) (i : Nat) (st : List XV) : Option (List XS) := match xlook i (xw (xo m)) with
      | some (ci, _) => cond (Nat.ble 1 C && Nat.ble (xt ci).length S && Nat.blt h.1 1024) (some [((m, pc + 3, l, .inr (.inr (h.1 + 3)) :: st, C - 1, S - (xt ci).length, 0) :: fs, xhp h (.inr (ci, xtL ((xt ci).map (fun q => xdef q.1)))), E)]) none
      | none => none
noncomputable def xst_81 (m pc : Nat) (l : List (Nat × XV)) (C S : Nat) (fs : List XF) (h : XHp) (E : XE) (c : Int32) (r : List XV) : Option (List XS) := cond (decide (0 ≤ c.toInt) && Nat.ble c.toNatClampNeg 262144 && Nat.ble 1 C && Nat.ble c.toNatClampNeg S && Nat.blt h.1 1024) (some [((m, pc + 2, l, .inr (.inr (h.1 + 3)) :: r, C - 1, S - c.toNatClampNeg, 0) :: fs, xhp h (.inl (0, c.toNatClampNeg, xarr0 0, .inl ())), E)]) none
noncomputable def xst_82 (m pc : Nat) (l : List (Nat × XV)) (C S : Nat) (fs : List XF) (h : XHp) (E : XE) (c : Int32) (r : List XV) : Option (List XS) := cond (decide (0 ≤ c.toInt) && Nat.ble c.toNatClampNeg 262144 && Nat.ble 1 C && Nat.ble c.toNatClampNeg S && Nat.blt h.1 1024) (some [((m, pc + 2, l, .inr (.inr (h.1 + 3)) :: r, C - 1, S - c.toNatClampNeg, 0) :: fs, xhp h (.inl (1, c.toNatClampNeg, xarr0 1, .inl ())), E)]) none
noncomputable def xst_83 (m pc : Nat) (l : List (Nat × XV)) (C S : Nat) (fs : List XF) (h : XHp) (E : XE) (c : Int32) (r : List XV) : Option (List XS) := cond (decide (0 ≤ c.toInt) && Nat.ble c.toNatClampNeg 262144 && Nat.ble 1 C && Nat.ble c.toNatClampNeg S && Nat.blt h.1 1024) (some [((m, pc + 2, l, .inr (.inr (h.1 + 3)) :: r, C - 1, S - c.toNatClampNeg, 0) :: fs, xhp h (.inl (2, c.toNatClampNeg, xarr0 2, .inl ())), E)]) none
noncomputable def xst_84 (m pc : Nat) (l : List (Nat × XV)) (C S : Nat) (fs : List XF) (h : XHp) (E : XE) (c : Int32) (r : List XV) : Option (List XS) := cond (decide (0 ≤ c.toInt) && Nat.ble c.toNatClampNeg 262144 && Nat.ble 1 C && Nat.ble c.toNatClampNeg S && Nat.blt h.1 1024) (some [((m, pc + 2, l, .inr (.inr (h.1 + 3)) :: r, C - 1, S - c.toNatClampNeg, 0) :: fs, xhp h (.inl (3, c.toNatClampNeg, xarr0 3, .inl ())), E)]) none
noncomputable def xst_85 (m pc : Nat) (l : List (Nat × XV)) (C S : Nat) (fs : List XF) (h : XHp) (E : XE) (i : Nat) (st : List XV) : Option (List XS) := match xlD (xo m) i with
      | some (k, n, _, w) => match st.drop n with
        | .inr (.inr (a + 3)) :: r => match xoc h a with
          | some (ci, _) => cond (Nat.beq ci (xo k) && Nat.beq w 0 && Nat.blt k 1000 && Nat.beq (xk k) 0 && Nat.beq (xsta k) 0 && !(xin k) && Nat.blt 0 k) (xcall m pc l r (.inr (.inr (a + 3)) :: (st.take n).reverse) C S fs h E k 0) none
          | none => none
        | _ => none
      | none => none
noncomputable def xst_86 (m pc : Nat) (l : List (Nat × XV)) (C S : Nat) (fs : List XF) (h : XHp) (E : XE) (i : Nat) (st : List XV) : Option (List XS) := match xlD (xo m) i with
      | some (k, n, _, w) => cond (Nat.ble n st.length && Nat.blt 0 k) (cond (Nat.beq k 1001) (xcopy m pc l st C S fs h E) (cond (Nat.beq k 1002 || Nat.beq k 1003) (match st with
        | .inl g :: r => xleaf m pc l g r C S fs h E (k - 1002)
        | _ => none) (cond (Nat.blt k 1000 && Nat.beq (xsta k) 1 && (Nat.beq (xk k) 0 || (Nat.beq (xk k) 1 && Nat.beq m 0 && Nat.beq w 0 && Nat.beq fs.length 0))) (xcall m pc l (st.drop n) (st.take n).reverse C S fs h E k (cond (Nat.beq w 0 && Nat.beq (xk k) 0) 0 1)) none))) none
      | none => none
noncomputable def xst_87 (m pc : Nat) (l : List (Nat × XV)) (C S : Nat) (fs : List XF) (h : XHp) (E : XE) (i : Nat) (st : List XV) : Option (List XS) := match xlD (xo m) i with
      | some (k, n, _, _) => match st.drop n with
        | .inr (.inr (a + 1)) :: r => cond (Nat.beq k 1000) (cond (Nat.ble (xcat r) 8 && Nat.beq n 0) (some [((m, pc + 3, l, r, C, S, 0) :: fs, h, E)]) none) (cond (Nat.blt k 1000 && xin k && Nat.beq (xk k) 0 && Nat.beq (xsta k) 0 && Nat.blt 0 k) (xcall m pc l r (.inr (.inr (a + 1)) :: (st.take n).reverse) C S fs h E k 1) none)
        | _ => none
      | none => none
noncomputable def xst_91 (m pc : Nat) (l : List (Nat × XV)) (C S : Nat) (fs : List XF) (h : XHp) (E : XE) : Option (List XS) := match xr m, fs with
      | none, (m2, pc2, l2, st2, C2, S2, _) :: fs2 => some [((m2, pc2 + 3, l2, st2, C2, S2, 0) :: fs2, h, E)]
      | _, _ => none
noncomputable def xd_iconst (m pc : Nat) (l : List (Nat × XV)) (C S : Nat) (fs : List XF) (h : XHp) (E : XE) (a0 : Int) (len : Nat) (st : List XV) : Option (List XS) := match len, st with
  | 1, st => xst_0 m pc l C S fs h E a0 st
  | _, _ => none
noncomputable def xd_bipush (m pc : Nat) (l : List (Nat × XV)) (C S : Nat) (fs : List XF) (h : XHp) (E : XE) (a0 : Int) (len : Nat) (st : List XV) : Option (List XS) := match len, st with
  | 2, st => xst_1 m pc l C S fs h E a0 st
  | _, _ => none
noncomputable def xd_sipush (m pc : Nat) (l : List (Nat × XV)) (C S : Nat) (fs : List XF) (h : XHp) (E : XE) (a0 : Int) (len : Nat) (st : List XV) : Option (List XS) := match len, st with
  | 3, st => xst_2 m pc l C S fs h E a0 st
  | _, _ => none
noncomputable def xd_lconst (m pc : Nat) (l : List (Nat × XV)) (C S : Nat) (fs : List XF) (h : XHp) (E : XE) (a0 : Fin 2) (len : Nat) (st : List XV) : Option (List XS) := match len, st with
  | 1, st => xst_3 m pc l C S fs h E a0 st
  | _, _ => none
noncomputable def xd_iload (m pc : Nat) (l : List (Nat × XV)) (C S : Nat) (fs : List XF) (h : XHp) (E : XE) (a0 : Nat) (len : Nat) (st : List XV) : Option (List XS) := match len, st with
  | 2, st => xst_7 m pc l C S fs h E a0 st
  | _, _ => none
noncomputable def xd_iload_n (m pc : Nat) (l : List (Nat × XV)) (C S : Nat) (fs : List XF) (h : XHp) (E : XE) (a0 : Fin 4) (len : Nat) (st : List XV) : Option (List XS) := match len, st with
  | 1, st => xst_8 m pc l C S fs h E a0 st
  | _, _ => none
noncomputable def xd_istore (m pc : Nat) (l : List (Nat × XV)) (C S : Nat) (fs : List XF) (h : XHp) (E : XE) (a0 : Nat) (len : Nat) (st : List XV) : Option (List XS) := match len, st with
  | 2, .inl x :: r => xst_9 m pc l C S fs h E a0 x r
  | _, _ => none
noncomputable def xd_istore_n (m pc : Nat) (l : List (Nat × XV)) (C S : Nat) (fs : List XF) (h : XHp) (E : XE) (a0 : Fin 4) (len : Nat) (st : List XV) : Option (List XS) := match len, st with
  | 1, .inl x :: r => xst_10 m pc l C S fs h E a0 x r
  | _, _ => none
noncomputable def xd_lload_n (m pc : Nat) (l : List (Nat × XV)) (C S : Nat) (fs : List XF) (h : XHp) (E : XE) (a0 : Fin 4) (len : Nat) (st : List XV) : Option (List XS) := match len, st with
  | 1, st => xst_12 m pc l C S fs h E a0 st
  | _, _ => none
noncomputable def xd_aload_n (m pc : Nat) (l : List (Nat × XV)) (C S : Nat) (fs : List XF) (h : XHp) (E : XE) (a0 : Fin 4) (len : Nat) (st : List XV) : Option (List XS) := match len, st with
  | 1, st => xst_16 m pc l C S fs h E a0 st
  | _, _ => none
noncomputable def xd_astore_n (m pc : Nat) (l : List (Nat × XV)) (C S : Nat) (fs : List XF) (h : XHp) (E : XE) (a0 : Fin 4) (len : Nat) (st : List XV) : Option (List XS) := match len, st with
  | 1, .inr (.inr (x + 1)) :: r => xst_18 m pc l C S fs h E a0 x r
  | _, _ => none
noncomputable def xd_iinc (m pc : Nat) (l : List (Nat × XV)) (C S : Nat) (fs : List XF) (h : XHp) (E : XE) (a0 : Nat) (a1 : Int) (len : Nat) (st : List XV) : Option (List XS) := match len, st with
  | 3, st => xst_19 m pc l C S fs h E a0 a1 st
  | _, _ => none
noncomputable def xd_iand (m pc : Nat) (l : List (Nat × XV)) (C S : Nat) (fs : List XF) (h : XHp) (E : XE) (len : Nat) (st : List XV) : Option (List XS) := match len, st with
  | 1, .inl y :: .inl x :: r => xst_21 m pc l C S fs h E y x r
  | _, _ => none
noncomputable def xd_isub (m pc : Nat) (l : List (Nat × XV)) (C S : Nat) (fs : List XF) (h : XHp) (E : XE) (len : Nat) (st : List XV) : Option (List XS) := match len, st with
  | 1, .inl y :: .inl x :: r => xst_22 m pc l C S fs h E y x r
  | _, _ => none
noncomputable def xd_dup (m pc : Nat) (l : List (Nat × XV)) (C S : Nat) (fs : List XF) (h : XHp) (E : XE) (len : Nat) (st : List XV) : Option (List XS) := match len, st with
  | 1, v :: r => xst_48 m pc l C S fs h E v r
  | _, _ => none
noncomputable def xd_if_icmp (m pc : Nat) (l : List (Nat × XV)) (C S : Nat) (fs : List XF) (h : XHp) (E : XE) (a0 : Jvm.ClassFile.Cond) (a1 : Int) (len : Nat) (st : List XV) : Option (List XS) := match a0, len, st with
  | .eq, 3, .inl y :: .inl x :: r => xst_58 m pc l C S fs h E a1 y x r
  | .ne, 3, .inl y :: .inl x :: r => xst_59 m pc l C S fs h E a1 y x r
  | .lt, 3, .inl y :: .inl x :: r => xst_60 m pc l C S fs h E a1 y x r
  | .ge, 3, .inl y :: .inl x :: r => xst_61 m pc l C S fs h E a1 y x r
  | .gt, 3, .inl y :: .inl x :: r => xst_62 m pc l C S fs h E a1 y x r
  | .le, 3, .inl y :: .inl x :: r => xst_63 m pc l C S fs h E a1 y x r
  | _, _, _ => none
noncomputable def xd_goto (m pc : Nat) (l : List (Nat × XV)) (C S : Nat) (fs : List XF) (h : XHp) (E : XE) (a0 : Int) (len : Nat) (st : List XV) : Option (List XS) := match len, st with
  | 3, st => xst_64 m pc l C S fs h E a0 st
  | _, _ => none
noncomputable def xd_tableswitch (m pc : Nat) (l : List (Nat × XV)) (C S : Nat) (fs : List XF) (h : XHp) (E : XE) (a0 : Int) (a1 : Int) (a2 : Int) (a3 : Array Int) (len : Nat) (st : List XV) : Option (List XS) := match len, st with
  | _, .inl x :: r => xst_65 m pc l C S fs h E a0 a1 a2 a3 x r
  | _, _ => none
noncomputable def xd_getfield (m pc : Nat) (l : List (Nat × XV)) (C S : Nat) (fs : List XF) (h : XHp) (E : XE) (a0 : Nat) (len : Nat) (st : List XV) : Option (List XS) := match len, st with
  | 3, .inr (.inr (a + 3)) :: r => xst_67 m pc l C S fs h E a0 a r
  | _, _ => none
noncomputable def xd_putfield (m pc : Nat) (l : List (Nat × XV)) (C S : Nat) (fs : List XF) (h : XHp) (E : XE) (a0 : Nat) (len : Nat) (st : List XV) : Option (List XS) := match len, st with
  | 3, v :: .inr (.inr (a + 3)) :: r => xst_68 m pc l C S fs h E a0 v a r
  | _, _ => none
noncomputable def xd_iaload (m pc : Nat) (l : List (Nat × XV)) (C S : Nat) (fs : List XF) (h : XHp) (E : XE) (len : Nat) (st : List XV) : Option (List XS) := match len, st with
  | 1, .inl (.inl c) :: .inr (.inr 2) :: r => xst_69 m pc l C S fs h E c r
  | 1, .inl x :: .inr (.inr (a + 3)) :: r => xst_70 m pc l C S fs h E x a r
  | _, _ => none
noncomputable def xd_iastore (m pc : Nat) (l : List (Nat × XV)) (C S : Nat) (fs : List XF) (h : XHp) (E : XE) (len : Nat) (st : List XV) : Option (List XS) := match len, st with
  | 1, .inl v :: .inl (.inl c) :: .inr (.inr (a + 3)) :: r => xst_74 m pc l C S fs h E v c a r
  | _, _ => none
noncomputable def xd_lastore (m pc : Nat) (l : List (Nat × XV)) (C S : Nat) (fs : List XF) (h : XHp) (E : XE) (len : Nat) (st : List XV) : Option (List XS) := match len, st with
  | 1, .inr (.inl v) :: .inl (.inl c) :: .inr (.inr (a + 3)) :: r => xst_77 m pc l C S fs h E v c a r
  | _, _ => none
noncomputable def xd_arraylength (m pc : Nat) (l : List (Nat × XV)) (C S : Nat) (fs : List XF) (h : XHp) (E : XE) (len : Nat) (st : List XV) : Option (List XS) := match len, st with
  | 1, .inr (.inr 2) :: r => xst_78 m pc l C S fs h E r
  | 1, .inr (.inr (a + 3)) :: r => xst_79 m pc l C S fs h E a r
  | _, _ => none
noncomputable def xd_new (m pc : Nat) (l : List (Nat × XV)) (C S : Nat) (fs : List XF) (h : XHp) (E : XE) (a0 : Nat) (len : Nat) (st : List XV) : Option (List XS) := match len, st with
  | 3, st => xst_80 m pc l C S fs h E a0 st
  | _, _ => none
noncomputable def xd_newarray (m pc : Nat) (l : List (Nat × XV)) (C S : Nat) (fs : List XF) (h : XHp) (E : XE) (a0 : ArrayType) (len : Nat) (st : List XV) : Option (List XS) := match a0, len, st with
  | .int, 2, .inl (.inl c) :: r => xst_81 m pc l C S fs h E c r
  | .long, 2, .inl (.inl c) :: r => xst_82 m pc l C S fs h E c r
  | .char, 2, .inl (.inl c) :: r => xst_83 m pc l C S fs h E c r
  | .boolean, 2, .inl (.inl c) :: r => xst_84 m pc l C S fs h E c r
  | _, _, _ => none
noncomputable def xd_invokevirtual (m pc : Nat) (l : List (Nat × XV)) (C S : Nat) (fs : List XF) (h : XHp) (E : XE) (a0 : Nat) (len : Nat) (st : List XV) : Option (List XS) := match len, st with
  | 3, st => xst_85 m pc l C S fs h E a0 st
  | _, _ => none
noncomputable def xd_invokestatic (m pc : Nat) (l : List (Nat × XV)) (C S : Nat) (fs : List XF) (h : XHp) (E : XE) (a0 : Nat) (len : Nat) (st : List XV) : Option (List XS) := match len, st with
  | 3, st => xst_86 m pc l C S fs h E a0 st
  | _, _ => none
noncomputable def xd_invokespecial (m pc : Nat) (l : List (Nat × XV)) (C S : Nat) (fs : List XF) (h : XHp) (E : XE) (a0 : Nat) (len : Nat) (st : List XV) : Option (List XS) := match len, st with
  | 3, st => xst_87 m pc l C S fs h E a0 st
  | _, _ => none
noncomputable def xd_return_ (m pc : Nat) (l : List (Nat × XV)) (C S : Nat) (fs : List XF) (h : XHp) (E : XE) (len : Nat) (st : List XV) : Option (List XS) := match len, st with
  | 1, [] => xst_91 m pc l C S fs h E 
  | _, _ => none
noncomputable def xstep (s : XS) : Option (List XS) := match s with
  | ([], _, _) => none
  | ((m, pc, l, st, C, S, _) :: fs, h, E) =>
    match cond (Nat.blt m xm_n) (xlook pc (xi m pc)) none with
    | none => none
    | some (i, len) => match i with
    | .iconst a0 => xd_iconst m pc l C S fs h E a0 len st
    | .bipush a0 => xd_bipush m pc l C S fs h E a0 len st
    | .sipush a0 => xd_sipush m pc l C S fs h E a0 len st
    | .lconst a0 => xd_lconst m pc l C S fs h E a0 len st
    | .iload a0 => xd_iload m pc l C S fs h E a0 len st
    | .iload_n a0 => xd_iload_n m pc l C S fs h E a0 len st
    | .istore a0 => xd_istore m pc l C S fs h E a0 len st
    | .istore_n a0 => xd_istore_n m pc l C S fs h E a0 len st
    | .lload_n a0 => xd_lload_n m pc l C S fs h E a0 len st
    | .aload_n a0 => xd_aload_n m pc l C S fs h E a0 len st
    | .astore_n a0 => xd_astore_n m pc l C S fs h E a0 len st
    | .iinc a0 a1 => xd_iinc m pc l C S fs h E a0 a1 len st
    | .iand  => xd_iand m pc l C S fs h E  len st
    | .isub  => xd_isub m pc l C S fs h E  len st
    | .dup  => xd_dup m pc l C S fs h E  len st
    | .if_icmp a0 a1 => xd_if_icmp m pc l C S fs h E a0 a1 len st
    | .goto a0 => xd_goto m pc l C S fs h E a0 len st
    | .tableswitch a0 a1 a2 a3 => xd_tableswitch m pc l C S fs h E a0 a1 a2 a3 len st
    | .getfield a0 => xd_getfield m pc l C S fs h E a0 len st
    | .putfield a0 => xd_putfield m pc l C S fs h E a0 len st
    | .iaload  => xd_iaload m pc l C S fs h E  len st
    | .iastore  => xd_iastore m pc l C S fs h E  len st
    | .lastore  => xd_lastore m pc l C S fs h E  len st
    | .arraylength  => xd_arraylength m pc l C S fs h E  len st
    | .new a0 => xd_new m pc l C S fs h E a0 len st
    | .newarray a0 => xd_newarray m pc l C S fs h E a0 len st
    | .invokevirtual a0 => xd_invokevirtual m pc l C S fs h E a0 len st
    | .invokestatic a0 => xd_invokestatic m pc l C S fs h E a0 len st
    | .invokespecial a0 => xd_invokespecial m pc l C S fs h E a0 len st
    | .return_  => xd_return_ m pc l C S fs h E  len st
    | _ => none
end
section
/-! THE EXECUTOR IS SOUND over am_run: what it runs through, holds -/
-- ---- the trees
theorem xtget_z {α : Type} (d i : Nat) : xtget (α := α) d (xtz d) i = none := by
  induction d with
  | zero => rfl
  | succ d ih =>
    show cond _ (xtget d (xtz d) i) (xtget d (xtz d) i) = none
    cases Nat.beq (Nat.land (Nat.shiftRight i d) 1) 0 <;> exact ih
theorem xbit (i j d : Nat) : (i % 2 ^ (d + 1) = j % 2 ^ (d + 1)) ↔ (Nat.beq (Nat.land (Nat.shiftRight i d) 1) 0 = Nat.beq (Nat.land (Nat.shiftRight j d) 1) 0 ∧ i % 2 ^ d = j % 2 ^ d) := by
  have e : ∀ i, Nat.beq (Nat.land (Nat.shiftRight i d) 1) 0 = decide (i / 2 ^ d % 2 = 0) := by
    intro i
    have h : Nat.land (Nat.shiftRight i d) 1 = i / 2 ^ d % 2 := by
      show (i >>> d) &&& 1 = _
      rw [Nat.and_one_is_mod, Nat.shiftRight_eq_div_pow]
    rw [h]
    cases hb : Nat.beq (i / 2 ^ d % 2) 0 with
    | true => exact (decide_eq_true (Nat.eq_of_beq_eq_true hb)).symm
    | false => exact (decide_eq_false (Nat.ne_of_beq_eq_false hb)).symm
  rw [e, e, Nat.mod_pow_succ, Nat.mod_pow_succ]
  have h1 := Nat.mod_lt i (Nat.two_pow_pos d)
  have h2 := Nat.mod_lt j (Nat.two_pow_pos d)
  have a1 : i / 2 ^ d % 2 = 0 ∨ i / 2 ^ d % 2 = 1 := by omega
  have a2 : j / 2 ^ d % 2 = 0 ∨ j / 2 ^ d % 2 = 1 := by omega
  rcases a1 with a1 | a1 <;> rcases a2 with a2 | a2 <;> rw [a1, a2] <;> simp <;> omega
theorem xtget_set {α : Type} (d : Nat) (t : XT α d) (i j : Nat) (c : α) : xtget d (xtset d t j c) i = if i % 2 ^ d = j % 2 ^ d then some c else xtget d t i := by
  induction d with
  | zero => rw [Nat.pow_zero, Nat.mod_one, Nat.mod_one, if_pos rfl]; rfl
  | succ d ih =>
    have hb := xbit i j d
    show cond (Nat.beq (Nat.land (Nat.shiftRight i d) 1) 0) (xtget d (Prod.fst (cond (Nat.beq (Nat.land (Nat.shiftRight j d) 1) 0) (xtset d (Prod.fst t) j c, Prod.snd t) (Prod.fst t, xtset d (Prod.snd t) j c) : XT α d × XT α d)) i) (xtget d (Prod.snd (cond (Nat.beq (Nat.land (Nat.shiftRight j d) 1) 0) (xtset d (Prod.fst t) j c, Prod.snd t) (Prod.fst t, xtset d (Prod.snd t) j c) : XT α d × XT α d)) i) = if _ then _ else cond (Nat.beq (Nat.land (Nat.shiftRight i d) 1) 0) (xtget d (Prod.fst t) i) (xtget d (Prod.snd t) i)
    cases h1 : Nat.beq (Nat.land (Nat.shiftRight i d) 1) 0 <;> cases h2 : Nat.beq (Nat.land (Nat.shiftRight j d) 1) 0 <;> rw [h1, h2] at hb <;> simp only [cond]
    · rw [ih]; simp at hb; simp only [hb]
    · simp at hb; simp [hb]
    · simp at hb; simp [hb]
    · rw [ih]; simp at hb; simp only [hb]
theorem xtget_lt {α : Type} {d : Nat} (t : XT α d) {i j : Nat} (hi : i < 2 ^ d) (hj : j < 2 ^ d) (c : α) : xtget d (xtset d t j c) i = if i = j then some c else xtget d t i := by
  rw [xtget_set, Nat.mod_eq_of_lt hi, Nat.mod_eq_of_lt hj]
noncomputable def xtLg {α : Type} (l : List α) (k : Nat) (t : XT α 7) : XT α 7 := @List.rec α (fun _ => Nat → XT α 7 → XT α 7) (fun _ t => t) (fun q _ ih k t => ih (k + 1) (xtset 7 t k q)) l k t
theorem xtLg_get {α : Type} : ∀ (l : List α) (k : Nat) (t : XT α 7) (i : Nat), k + l.length ≤ 128 → i < 128 → xtget 7 (xtLg l k t) i = if k ≤ i ∧ i < k + l.length then l[i - k]? else xtget 7 t i
  | [], k, t, i, _, _ => by
    rw [if_neg (fun z => by have h1 := z.1; have h2 := z.2; simp only [List.length_nil] at h2; omega)]; rfl
  | q :: l, k, t, i, hk, hi => by
    have e : xtLg (q :: l) k t = xtLg l (k + 1) (xtset 7 t k q) := rfl
    simp only [List.length_cons] at hk ⊢
    rw [e, xtLg_get l (k + 1) _ i (by omega) hi, xtget_lt t (by omega : i < 2 ^ 7) (by omega : k < 2 ^ 7)]
    by_cases h1 : k + 1 ≤ i ∧ i < k + 1 + l.length
    · rw [if_pos h1, if_pos (by omega)]
      obtain ⟨j, hj⟩ : ∃ j, i - k = j + 1 := ⟨i - k - 1, by omega⟩
      rw [hj, show i - (k + 1) = j by omega]; rfl
    · rw [if_neg h1]
      by_cases h2 : i = k
      · rw [if_pos h2, if_pos (by omega), h2, Nat.sub_self]; rfl
      · rw [if_neg h2, if_neg (by omega)]
theorem xtL_get {α : Type} {l : List α} (hl : l.length ≤ 128) {i : Nat} (hi : i < 128) : xtget 7 (xtL l) i = l[i]? := by
  have e : xtL l = xtLg l 0 (xtz 7) := rfl
  rw [e, xtLg_get l 0 _ i (by omega) hi, xtget_z]
  by_cases h : i < l.length
  · rw [if_pos (by omega)]; rfl
  · rw [if_neg (by omega), List.getElem?_eq_none (by omega)]
def xir (σ : Nat → Int32) (n : Int32) : XI → Prop
  | .inl c => n = c
  | .inr (.inl k) => n = σ k
  | .inr (.inr r) => r.1 ≤ n.toInt ∧ n.toInt ≤ r.2
def xLr (σ : Nat → Int32) (c : Int64) : XL → Prop
  | none => True
  | some (.inl d) => c = d
  | some (.inr k) => c = (σ k).toInt64
def xrr (b : Nat) (ads : List Nat) (v : Value) : Nat → Prop
  | 0 => v = .null
  | 1 => ∃ a, v = .ref a
  | 2 => v = .ref b
  | k + 3 => ∃ a, v = .ref a ∧ ads[k]? = some a
def xvr (σ : Nat → Int32) (b : Nat) (ads : List Nat) (v : Value) : XV → Prop
  | .inl x => ∃ n, v = .int n ∧ xir σ n x
  | .inr (.inl o) => ∃ c, v = .long c ∧ xLr σ c o
  | .inr (.inr k) => xrr b ads v k
def xsr (σ : Nat → Int32) (b : Nat) (ads : List Nat) : List Value → List XV → Prop
  | [], [] => True
  | v :: vs, x :: xs => xvr σ b ads v x ∧ xsr σ b ads vs xs
  | [], _ :: _ => False
  | _ :: _, [] => False
def xlr (σ : Nat → Int32) (b : Nat) (ads : List Nat) (lv : List (Nat × Value)) (xl : List (Nat × XV)) : Prop := ∀ i x, (i, x) ∈ xl → ∃ v, (i, v) ∈ lv ∧ xvr σ b ads v x
def xer (σ : Nat → Int32) (E : XE) : Prop := (∀ (k : Nat) (r : Int × Int), E[k]? = some r → r.1 ≤ (σ k).toInt ∧ (σ k).toInt ≤ r.2) ∧ σ 6 = σ 0 &&& 63
def xads (ws : va_W) : List Nat := ws.map (fun q => q.1)
/-- an object's fields -/
def xor (σ : Nat → Int32) (b : Nat) (ads : List Nat) (ci : Nat) (fs : List Value) (t : XT XV 7) : Prop := fs.length = (xt ci).length ∧ ∀ (k : Nat) (v : Value), k < 128 → fs[k]? = some v → ∃ x, xtget 7 t k = some x ∧ xvr σ b ads v x
def xcr (σ : Nat → Int32) (b : Nat) (ads : List Nat) (Z : AmZ) (e : va_E) : XC → Prop
  | .inr (ci, t) => ∃ fs, e = .inr (ci, fs) ∧ xor σ b ads ci fs t
  | .inl (0, n, d, t) => ∃ f : Nat → Int32, e = .inl (Z.1, n, .inl f) ∧ n ≤ xcap t ∧ ∀ j, j < n → xvr σ b ads (.int (f j)) (xget d t j)
  | .inl (1, n, d, t) => ∃ f : Nat → Int64, e = .inl (Z.2.1, n, .inr (.inl f)) ∧ n ≤ xcap t ∧ ∀ j, j < n → xvr σ b ads (.long (f j)) (xget d t j)
  | .inl (2, n, d, t) => ∃ f : Nat → Int32, e = .inl (Z.2.2.1, n, .inl f) ∧ n ≤ xcap t ∧ ∀ j, j < n → xvr σ b ads (.int (f j)) (xget d t j)
  | .inl (3, n, d, t) => ∃ f : Nat → Int32, e = .inl (Z.2.2.2.1, n, .inl f) ∧ n ≤ xcap t ∧ ∀ j, j < n → xvr σ b ads (.int (f j)) (xget d t j)
  | .inl (_ + 4, _, _, _) => False
def xhr (σ : Nat → Int32) (b : Nat) (Z : AmZ) (ws : va_W) (h : XHp) : Prop := ws.length = h.1 ∧ h.1 ≤ 1024 ∧ ∀ (k a : Nat) (e : va_E), ws[k]? = some (a, e) → ∃ c, xhg h k = some c ∧ xcr σ b (xads ws) Z e c
/-- the script's ints and its length -/
def XX (L : Nat) (xs σ : Nat → Int32) : Prop := (∀ j, j < 6 → xs j = σ j) ∧ L ≤ 384 ∧ σ 7 = Int32.ofNat L
theorem xlen7 {L : Nat} {xs σ : Nat → Int32} (h : XX L xs σ) : (σ 7).toInt = (L : Int) := by
  obtain ⟨-, h1, h2⟩ := h
  rw [h2]
  exact Int32.toInt_ofNat_of_lt (by omega)
theorem xofL {L : Nat} {xs σ : Nat → Int32} (h : XX L xs σ) : Int32.ofNat L = Int32.ofInt (L : Int) := by
  first | exact Int32.ofInt_eq_ofNat.symm | exact Int32.toBitVec_inj.mp (by simp) | exact congrArg Int32.ofBitVec (BitVec.ofInt_natCast 32 L).symm
/-- a frame that waits: method, pc, locals, stack, cells and slots left, fuel, 1: the open call may not throw -/
abbrev XG : Type := Nat × Nat × List (Nat × Value) × List Value × Nat × Nat × Nat × Nat
noncomputable def xHof (m : Nat) (X : AmX) : AmH := match xk m with
  | 0 => fun _ _ _ _ _ => X
  | 1 => am_hx (xcls (xo m)) (xh m)
  | _ => fun _ _ _ _ _ _ _ => False
noncomputable def XRun (L : Nat) (Z : AmZ) (b : Nat) (xs : Nat → Int32) (m r : Nat) (ret : AmR) (X : AmX) (n : Nat) : AmK := am_run Z (if m = 0 then some (b, L, xs) else none) (xcls (xo m)) (xc m) (xn m) (xr m) (xin m) (am_wp Z am_leaf (1300 - r)) (if m = 0 then am_wpW Z am_leaf 1300 else am_no) (xHof m X) ret n
noncomputable def xCC (L : Nat) (Z : AmZ) (b : Nat) (xs : Nat → Int32) : List XG → AmR × AmX
  | [] => (fun v _ => v = some (.int 1), fun _ _ => False)
  | (m, pc, lv, vs, C, S, nf, f) :: cs => (fun v u => XRun L Z b xs m cs.length (xCC L Z b xs cs).1 (xCC L Z b xs cs).2 nf (pc + 3) lv (v.toList ++ vs) u C S, fun E u => f = 0 ∧ xHof m (xCC L Z b xs cs).2 (XRun L Z b xs m cs.length (xCC L Z b xs cs).1 (xCC L Z b xs cs).2 nf) pc lv C S E u)
noncomputable def XR (L : Nat) (Z : AmZ) (b : Nat) (xs : Nat → Int32) (m : Nat) (cfs : List XG) (n : Nat) : AmK := XRun L Z b xs m cfs.length (xCC L Z b xs cfs).1 (xCC L Z b xs cfs).2 n
def xfr (σ : Nat → Int32) (b : Nat) (ads : List Nat) (n : Nat) : List XG → List XF → Prop
  | [], [] => True
  | (m, pc, lv, vs, C, S, nf, f) :: cs, (m2, pc2, l, st, C2, S2, f2) :: fs => m = m2 ∧ pc = pc2 ∧ C = C2 ∧ S = S2 ∧ f = f2 ∧ n ≤ nf ∧ xlr σ b ads lv l ∧ xsr σ b ads vs st ∧ xfr σ b ads n cs fs
  | [], _ :: _ => False
  | _ :: _, [] => False
def XGood (n : Nat) : XS → Prop
  | ([], _, _) => True
  | ((m, pc, l, st, C, S, _) :: fs, h, E) => ∀ (L : Nat) (Z : AmZ) (σ : Nat → Int32) (b : Nat) (xs : Nat → Int32) (ws : va_W) (lv : List (Nat × Value)) (vs : List Value) (cfs : List XG), XX L xs σ → xer σ E → xhr σ b Z ws h → xlr σ b (xads ws) lv l → xsr σ b (xads ws) vs st → xfr σ b (xads ws) n cfs fs → XR L Z b xs m cfs n pc lv vs ws C S
theorem xg {n m pc : Nat} {l : List (Nat × XV)} {st : List XV} {C S f : Nat} {fs : List XF} {h : XHp} {E : XE} (G : XGood n ((m, pc, l, st, C, S, f) :: fs, h, E)) {L : Nat} {Z : AmZ} {σ : Nat → Int32} {b : Nat} {xs : Nat → Int32} {ws : va_W} {lv : List (Nat × Value)} {vs : List Value} {cfs : List XG} (hxs : XX L xs σ) (hE : xer σ E) (hH : xhr σ b Z ws h) (hl : xlr σ b (xads ws) lv l) (hs : xsr σ b (xads ws) vs st) (hf : xfr σ b (xads ws) n cfs fs) : XR L Z b xs m cfs n pc lv vs ws C S := G L Z σ b xs ws lv vs cfs hxs hE hH hl hs hf
theorem xoc_w {h : XHp} {a : Nat} {q : Nat × XT XV 7} (hx : xoc h a = some q) : xhg h a = some (.inr q) := by
  unfold xoc at hx
  generalize xhg h a = o at hx
  cases o with
  | none => cases hx
  | some c =>
    cases c with
    | inl x => cases hx
    | inr q2 => exact congrArg (fun z => some (Sum.inr z)) (Option.some.inj hx)
theorem xac_w {h : XHp} {a : Nat} {q : Nat × Nat × XV × XA} (hx : xac h a = some q) : xhg h a = some (.inl q) := by
  unfold xac at hx
  generalize xhg h a = o at hx
  cases o with
  | none => cases hx
  | some c =>
    cases c with
    | inr x => cases hx
    | inl q2 => exact congrArg (fun z => some (Sum.inl z)) (Option.some.inj hx)
-- ---- the values
theorem xcond {α : Type} {c : Bool} {x : Option α} {y : α} (h : cond c x none = some y) : c = true ∧ x = some y := by
  cases c
  · cases h
  · exact ⟨rfl, h⟩
theorem xcondn {α : Type} {c : Bool} {x : Option α} {y : α} (h : cond c none x = some y) : c = false ∧ x = some y := by
  cases c
  · exact ⟨rfl, h⟩
  · cases h
theorem xlook_mem {α : Type} {k : Nat} {l : List (Nat × α)} {v : α} (h : xlook k l = some v) : (k, v) ∈ l := by
  induction l with
  | nil => cases h
  | cons q l ih =>
    have h : cond (Nat.beq q.1 k) (some q.2) (xlook k l) = some v := h
    cases hb : Nat.beq q.1 k with
    | true =>
      rw [hb] at h
      have e1 := Nat.eq_of_beq_eq_true hb
      have e2 : q.2 = v := Option.some.inj h
      rw [← e1, ← e2]
      exact List.mem_cons_self
    | false =>
      rw [hb] at h
      exact List.mem_cons_of_mem _ (ih h)
theorem xfil_mem {p : Nat × XV → Bool} {l : List (Nat × XV)} {q : Nat × XV} (h : q ∈ xfil p l) : q ∈ l ∧ p q = true := by
  induction l with
  | nil => cases h
  | cons r l ih =>
    have h : q ∈ cond (p r) (r :: xfil p l) (xfil p l) := h
    cases hb : p r with
    | true =>
      rw [hb] at h
      rcases List.mem_cons.mp h with rfl | h
      · exact ⟨List.mem_cons_self, hb⟩
      · exact ⟨List.mem_cons_of_mem _ (ih h).1, (ih h).2⟩
    | false =>
      rw [hb] at h
      exact ⟨List.mem_cons_of_mem _ (ih h).1, (ih h).2⟩
theorem xbeq (a c : Nat) : Nat.beq a c = (a == c) := by
  cases h : Nat.beq a c with
  | true => exact (beq_iff_eq.mpr (Nat.eq_of_beq_eq_true h)).symm
  | false => exact (beq_eq_false_iff_ne.mpr (Nat.ne_of_beq_eq_false h)).symm
theorem xir_top (σ : Nat → Int32) (n : Int32) : xir σ n xtop := by
  have h1 := Int32.le_toInt n
  have h2 := Int32.toInt_lt n
  exact ⟨by simp only; omega, by simp only; omega⟩
section XV
variable {σ : Nat → Int32} {b : Nat} {ads : List Nat} {E : XE}
theorem xir_add {n k : Int32} : ∀ {x y : XI}, xir σ n x → xir σ k y → xir σ (n + k) (xadd x y)
  | .inl x, .inl y, hx, hy => by
    have hx : n = x := hx
    have hy : k = y := hy
    rw [hx, hy]; exact (rfl : x + y = x + y)
  | .inl x, .inr y, hx, hy => by
    have hx : n = x := hx
    show xir σ (n + k) (if x = 0 then .inr y else xtop)
    split
    · rename_i h0
      rw [hx, h0, Int32.zero_add]; exact hy
    · exact xir_top _ _
  | .inr x, .inl y, hx, hy => by
    have hy : k = y := hy
    show xir σ (n + k) (if y = 0 then .inr x else xtop)
    split
    · rename_i h0
      rw [hy, h0, Int32.add_zero]; exact hx
    · exact xir_top _ _
  | .inr _, .inr _, _, _ => xir_top _ _
theorem xir_bin {f : Int32 → Int32 → Int32} {n k : Int32} : ∀ {x y : XI}, xir σ n x → xir σ k y → xir σ (f n k) (xbin f x y)
  | .inl x, .inl y, hx, hy => by
    have hx : n = x := hx
    have hy : k = y := hy
    rw [hx, hy]; exact (rfl : f x y = f x y)
  | .inl _, .inr _, _, _ => xir_top _ _
  | .inr _, .inl _, _, _ => xir_top _ _
  | .inr _, .inr _, _, _ => xir_top _ _
theorem xir_and {n k : Int32} (hE : xer σ E) : ∀ {x y : XI}, xir σ n x → xir σ k y → xir σ (n &&& k) (xand x y)
  | .inl x, .inl y, hx, hy => by
    have hx : n = x := hx
    have hy : k = y := hy
    rw [hx, hy]; exact (rfl : x &&& y = x &&& y)
  | .inr (.inl 0), .inl y, hx, hy => by
    have hx : n = σ 0 := hx
    have hy : k = y := hy
    show xir σ (n &&& k) (if y = 63 then .inr (.inl 6) else xtop)
    split
    · rename_i h0
      rw [hx, hy, h0]; exact hE.2.symm
    · exact xir_top _ _
  | .inl _, .inr _, _, _ => xir_top _ _
  | .inr (.inl (_ + 1)), .inl _, _, _ => xir_top _ _
  | .inr (.inr _), .inl _, _, _ => xir_top _ _
  | .inr _, .inr _, _, _ => by
    unfold xand
    split <;> first | exact xir_top _ _ | (rename_i h1 h2; cases h2) | (rename_i h1; cases h1)
theorem xir_nar0 {n : Int32} {x : XI} (h : xir σ n x) : xir σ n (xnar E 0 x) := h
theorem xvr_i {v : Value} {x : XI} (h : xvr σ b ads v (.inl x)) : ∃ n, v = .int n ∧ xvr σ b ads (.int n) (.inl x) := by
  obtain ⟨n, rfl, h⟩ := h
  exact ⟨n, rfl, n, rfl, h⟩
theorem xvr_l {v : Value} {x : XL} (h : xvr σ b ads v (.inr (.inl x))) : ∃ n, v = .long n ∧ xvr σ b ads (.long n) (.inr (.inl x)) := by
  obtain ⟨n, rfl, h⟩ := h
  exact ⟨n, rfl, n, rfl, h⟩
theorem xvr_a {v : Value} {k : Nat} (h : xvr σ b ads v (.inr (.inr (k + 1)))) : ∃ a, v = .ref a ∧ xvr σ b ads (.ref a) (.inr (.inr (k + 1))) := by
  match k, h with
  | 0, ⟨a, h⟩ => exact ⟨a, h, a, rfl⟩
  | 1, h => exact ⟨b, h, rfl⟩
  | k + 2, ⟨a, h1, h2⟩ => exact ⟨a, h1, a, rfl, h2⟩
theorem xvr_cat {v : Value} : ∀ {x : XV}, xvr σ b ads v x → v.category = cond (xlong x) 2 1
  | .inl _, ⟨_, h, _⟩ => by rw [h]; rfl
  | .inr (.inl _), ⟨_, h, _⟩ => by rw [h]; rfl
  | .inr (.inr 0), h => by rw [(h : v = .null)]; rfl
  | .inr (.inr 1), ⟨_, h⟩ => by rw [h]; rfl
  | .inr (.inr 2), h => by rw [(h : v = .ref b)]; rfl
  | .inr (.inr (_ + 3)), ⟨_, h, _⟩ => by rw [h]; rfl
theorem xvr_c1 {v : Value} {x : XV} (h : xvr σ b ads v x) (hb : xlong x = false) : v.category = 1 := by rw [xvr_cat h, hb]; rfl
theorem xsr_c {vs : List Value} {x : XV} {r : List XV} (h : xsr σ b ads vs (x :: r)) : ∃ v vr, vs = v :: vr ∧ xvr σ b ads v x ∧ xsr σ b ads vr r := by
  cases vs with
  | nil => exact h.elim
  | cons v vr => exact ⟨v, vr, rfl, h.1, h.2⟩
theorem xsr_i {vs : List Value} {x : XI} {r : List XV} (h : xsr σ b ads vs (.inl x :: r)) : ∃ n vr, vs = .int n :: vr ∧ xir σ n x ∧ xsr σ b ads vr r := by
  obtain ⟨v, vr, rfl, ⟨n, rfl, h1⟩, h2⟩ := xsr_c h
  exact ⟨n, vr, rfl, h1, h2⟩
theorem xsr_l {vs : List Value} {x : XL} {r : List XV} (h : xsr σ b ads vs (.inr (.inl x) :: r)) : ∃ n vr, vs = .long n :: vr ∧ xLr σ n x ∧ xsr σ b ads vr r := by
  obtain ⟨v, vr, rfl, ⟨n, rfl, h1⟩, h2⟩ := xsr_c h
  exact ⟨n, vr, rfl, h1, h2⟩
theorem xsr_n {vs : List Value} (h : xsr σ b ads vs []) : vs = [] := by
  cases vs with
  | nil => rfl
  | cons v vr => exact h.elim
theorem xsr_len {vs : List Value} {st : List XV} (h : xsr σ b ads vs st) : vs.length = st.length := by
  induction st generalizing vs with
  | nil => rw [xsr_n h]; rfl
  | cons x r ih =>
    obtain ⟨v, vr, rfl, -, h2⟩ := xsr_c h
    simp [ih h2]
theorem xsr_append {vs ws : List Value} {st tt : List XV} (h : xsr σ b ads vs st) (h2 : xsr σ b ads ws tt) : xsr σ b ads (vs ++ ws) (st ++ tt) := by
  induction st generalizing vs with
  | nil => rw [xsr_n h]; exact h2
  | cons y r ih =>
    obtain ⟨w, vr, rfl, h1, h3⟩ := xsr_c h
    exact ⟨h1, ih h3⟩
theorem xsr_rev {vs : List Value} {st : List XV} (h : xsr σ b ads vs st) : xsr σ b ads vs.reverse st.reverse := by
  induction st generalizing vs with
  | nil => rw [xsr_n h]; exact trivial
  | cons y r ih =>
    obtain ⟨w, vr, rfl, h1, h3⟩ := xsr_c h
    rw [List.reverse_cons, List.reverse_cons]
    exact xsr_append (ih h3) ⟨h1, trivial⟩
theorem xsr_take {vs : List Value} {st : List XV} (h : xsr σ b ads vs st) (n : Nat) : xsr σ b ads (vs.take n) (st.take n) ∧ xsr σ b ads (vs.drop n) (st.drop n) := by
  induction st generalizing vs n with
  | nil => rw [xsr_n h]; cases n <;> exact ⟨trivial, trivial⟩
  | cons y r ih =>
    obtain ⟨w, vr, rfl, h1, h3⟩ := xsr_c h
    cases n with
    | zero => exact ⟨trivial, h1, h3⟩
    | succ n => exact ⟨⟨h1, (ih h3 n).1⟩, (ih h3 n).2⟩
theorem xsr_cat {vs : List Value} {st : List XV} (h : xsr σ b ads vs st) : (vs.map fun v => v.category).sum = xcat st := by
  induction st generalizing vs with
  | nil => rw [xsr_n h]; rfl
  | cons y r ih =>
    obtain ⟨w, vr, rfl, h1, h3⟩ := xsr_c h
    have e := ih h3
    simp only [List.map_cons, List.sum_cons, xvr_cat h1, e]
    show _ = cond (xlong y) (xcat r + 2) (xcat r + 1)
    cases xlong y <;> simp only [cond] <;> omega
theorem xsr_sl {vs : List Value} {st : List XV} (h : xsr σ b ads vs st) : (lg_sl vs).length = xcat st := by
  induction st generalizing vs with
  | nil => rw [xsr_n h]; rfl
  | cons y r ih =>
    obtain ⟨w, vr, rfl, h1, h3⟩ := xsr_c h
    have e := ih h3
    show _ = cond (xlong y) (xcat r + 2) (xcat r + 1)
    simp only [lg_sl, List.flatMap_cons, List.length_append] at e ⊢
    rw [e, xvr_cat h1]
    cases xlong y <;> simp <;> omega
theorem xlr_args {vs : List Value} {st : List XV} (h : xsr σ b ads vs st) : ∀ i, xlr σ b ads (lv_args i vs) (xargs i st) := by
  induction st generalizing vs with
  | nil => intro i j x hm; cases hm
  | cons y r ih =>
    obtain ⟨w, vr, rfl, h1, h3⟩ := xsr_c h
    intro i j x hm
    have e : (if w.category = 2 then i + 2 else i + 1) = cond (xlong y) (i + 2) (i + 1) := by
      rw [xvr_cat h1]
      cases xlong y <;> rfl
    have hm : (j, x) ∈ (i, y) :: xargs (cond (xlong y) (i + 2) (i + 1)) r := hm
    rcases List.mem_cons.mp hm with hm | hm
    · cases hm
      exact ⟨w, List.mem_cons_self, h1⟩
    · obtain ⟨v, hv, hr⟩ := ih h3 _ j x hm
      refine ⟨v, List.mem_cons_of_mem _ ?_, hr⟩
      rw [e]; exact hv
theorem xlr_xs1 {lv : List (Nat × Value)} {l : List (Nat × XV)} {i : Nat} {v : Value} {x : XV} (h : xlr σ b ads lv l) (hv : xvr σ b ads v x) : xlr σ b ads (am_s1 i v lv) (xs1 i x l) := by
  intro j y hm
  rcases List.mem_cons.mp hm with hm | hm
  · cases hm
    exact ⟨v, List.mem_cons_self, hv⟩
  · obtain ⟨hm1, hp⟩ := xfil_mem hm
    obtain ⟨w, hw, hr⟩ := h j y hm1
    refine ⟨w, List.mem_cons_of_mem _ (List.mem_filter.mpr ⟨hw, ?_⟩), hr⟩
    have hcat := xvr_cat hr
    simp only [Bool.and_eq_true, Bool.not_eq_true', xbeq] at hp
    have e : (w.category == 2) = xlong y := by rw [hcat]; cases xlong y <;> rfl
    simp only [Bool.and_eq_true, Bool.not_eq_true', e]
    exact hp
/-- more cells: what was known stays -/
theorem xvr_app {v : Value} (q : Nat) : ∀ {x : XV}, xvr σ b ads v x → xvr σ b (ads ++ [q]) v x
  | .inl _, h => h
  | .inr (.inl _), h => h
  | .inr (.inr 0), h => h
  | .inr (.inr 1), h => h
  | .inr (.inr 2), h => h
  | .inr (.inr (k + 3)), ⟨a, h1, h2⟩ => ⟨a, h1, by rw [List.getElem?_append_left (List.getElem?_eq_some_iff.mp h2).1]; exact h2⟩
theorem xsr_app {vs : List Value} {st : List XV} (q : Nat) (h : xsr σ b ads vs st) : xsr σ b (ads ++ [q]) vs st := by
  induction st generalizing vs with
  | nil => rw [xsr_n h]; exact trivial
  | cons y r ih =>
    obtain ⟨w, vr, rfl, h1, h3⟩ := xsr_c h
    exact ⟨xvr_app q h1, ih h3⟩
theorem xlr_app {lv : List (Nat × Value)} {l : List (Nat × XV)} (q : Nat) (h : xlr σ b ads lv l) : xlr σ b (ads ++ [q]) lv l := fun i x hm => by
  obtain ⟨v, h1, h2⟩ := h i x hm
  exact ⟨v, h1, xvr_app q h2⟩
theorem xfr_app {n : Nat} (q : Nat) : ∀ {cs : List XG} {fs : List XF}, xfr σ b ads n cs fs → xfr σ b (ads ++ [q]) n cs fs
  | [], [], _ => trivial
  | (_, _, _, _, _, _, _, _) :: _, (_, _, _, _, _, _, _) :: _, ⟨h1, h2, h3, h4, h5, h6, h7, h8, h9⟩ => ⟨h1, h2, h3, h4, h5, h6, xlr_app q h7, xsr_app q h8, xfr_app q h9⟩
theorem xfr_le {n n' : Nat} (hn : n' ≤ n) : ∀ {cs : List XG} {fs : List XF}, xfr σ b ads n cs fs → xfr σ b ads n' cs fs
  | [], [], _ => trivial
  | (_, _, _, _, _, _, _, _) :: _, (_, _, _, _, _, _, _) :: _, ⟨h1, h2, h3, h4, h5, h6, h7, h8, h9⟩ => ⟨h1, h2, h3, h4, h5, Nat.le_trans hn h6, h7, h8, xfr_le hn h9⟩
theorem xfr_len {n : Nat} : ∀ {cs : List XG} {fs : List XF}, xfr σ b ads n cs fs → cs.length = fs.length
  | [], [], _ => rfl
  | (_, _, _, _, _, _, _, _) :: _, (_, _, _, _, _, _, _) :: _, ⟨_, _, _, _, _, _, _, _, h9⟩ => by simp [xfr_len h9]
theorem xcr_app {Z : AmZ} {e : va_E} (q : Nat) : ∀ {c : XC}, xcr σ b ads Z e c → xcr σ b (ads ++ [q]) Z e c
  | .inr (_, _), ⟨fs, h1, h2, h3⟩ => ⟨fs, h1, h2, fun k v hk hv => by
    obtain ⟨x, h4, h5⟩ := h3 k v hk hv
    exact ⟨x, h4, xvr_app q h5⟩⟩
  | .inl (0, _, _, _), ⟨f, h1, hc, h2⟩ => ⟨f, h1, hc, fun j hj => xvr_app q (h2 j hj)⟩
  | .inl (1, _, _, _), ⟨f, h1, hc, h2⟩ => ⟨f, h1, hc, fun j hj => xvr_app q (h2 j hj)⟩
  | .inl (2, _, _, _), ⟨f, h1, hc, h2⟩ => ⟨f, h1, hc, fun j hj => xvr_app q (h2 j hj)⟩
  | .inl (3, _, _, _), ⟨f, h1, hc, h2⟩ => ⟨f, h1, hc, fun j hj => xvr_app q (h2 j hj)⟩
  | .inl (_ + 4, _, _, _), h => h.elim
end XV
theorem xads_eq {ws : va_W} {k a : Nat} {e e2 : va_E} (he : ws[k]? = some (a, e)) : xads (ws.set k (a, e2)) = xads ws := by
  unfold xads
  rw [List.map_set]
  apply List.ext_getElem?
  intro i
  rw [List.getElem?_set]
  split
  · rename_i hik
    subst hik
    rw [List.length_map, List.getElem?_map, he]
    have hlt : k < ws.length := (List.getElem?_eq_some_iff.mp he).1
    simp [hlt]
  · rfl
theorem xads_push (ws : va_W) (q : Nat) (e : va_E) : xads (ws ++ [(q, e)]) = xads ws ++ [q] := by simp [xads]
theorem xads_at {ws : va_W} {k a : Nat} (h : (xads ws)[k]? = some a) : ∃ e, ws[k]? = some (a, e) := by
  unfold xads at h
  rw [List.getElem?_map] at h
  cases hk : ws[k]? with
  | none => rw [hk] at h; cases h
  | some q => rw [hk] at h; cases h; exact ⟨q.2, rfl⟩
end
section
section XH
variable {σ : Nat → Int32} {b : Nat} {Z : AmZ} {ws : va_W} {h : XHp}
theorem xhr_at (hH : xhr σ b Z ws h) {k a : Nat} (ha : (xads ws)[k]? = some a) {c : XC} (hc : xhg h k = some c) : ∃ e, ws[k]? = some (a, e) ∧ xcr σ b (xads ws) Z e c := by
  obtain ⟨e, he⟩ := xads_at ha
  obtain ⟨c2, h1, h2⟩ := hH.2.2 k a e he
  cases hc.symm.trans h1
  exact ⟨e, he, h2⟩
theorem xhr_o (hH : xhr σ b Z ws h) {k a ci : Nat} {fv : XT XV 7} (ha : (xads ws)[k]? = some a) (hc : xhg h k = some (.inr (ci, fv))) : ∃ fs, ws[k]? = some (a, .inr (ci, fs)) ∧ xor σ b (xads ws) ci fs fv := by
  obtain ⟨e, he, fs, rfl, h2⟩ := xhr_at hH ha hc
  exact ⟨fs, he, h2⟩
theorem xhr_0 (hH : xhr σ b Z ws h) {k a n : Nat} {d : XV} {ms : XA} (ha : (xads ws)[k]? = some a) (hc : xhg h k = some (.inl (0, n, d, ms))) : ∃ f : Nat → Int32, ws[k]? = some (a, .inl (Z.1, n, .inl f)) ∧ n ≤ xcap ms ∧ ∀ j, j < n → xvr σ b (xads ws) (.int (f j)) (xget d ms j) := by
  obtain ⟨e, he, f, rfl, h2⟩ := xhr_at hH ha hc
  exact ⟨f, he, h2⟩
theorem xhr_1 (hH : xhr σ b Z ws h) {k a n : Nat} {d : XV} {ms : XA} (ha : (xads ws)[k]? = some a) (hc : xhg h k = some (.inl (1, n, d, ms))) : ∃ f : Nat → Int64, ws[k]? = some (a, .inl (Z.2.1, n, .inr (.inl f))) ∧ n ≤ xcap ms ∧ ∀ j, j < n → xvr σ b (xads ws) (.long (f j)) (xget d ms j) := by
  obtain ⟨e, he, f, rfl, h2⟩ := xhr_at hH ha hc
  exact ⟨f, he, h2⟩
theorem xhr_2 (hH : xhr σ b Z ws h) {k a n : Nat} {d : XV} {ms : XA} (ha : (xads ws)[k]? = some a) (hc : xhg h k = some (.inl (2, n, d, ms))) : ∃ f : Nat → Int32, ws[k]? = some (a, .inl (Z.2.2.1, n, .inl f)) ∧ n ≤ xcap ms ∧ ∀ j, j < n → xvr σ b (xads ws) (.int (f j)) (xget d ms j) := by
  obtain ⟨e, he, f, rfl, h2⟩ := xhr_at hH ha hc
  exact ⟨f, he, h2⟩
theorem xhr_3 (hH : xhr σ b Z ws h) {k a n : Nat} {d : XV} {ms : XA} (ha : (xads ws)[k]? = some a) (hc : xhg h k = some (.inl (3, n, d, ms))) : ∃ f : Nat → Int32, ws[k]? = some (a, .inl (Z.2.2.2.1, n, .inl f)) ∧ n ≤ xcap ms ∧ ∀ j, j < n → xvr σ b (xads ws) (.int (f j)) (xget d ms j) := by
  obtain ⟨e, he, f, rfl, h2⟩ := xhr_at hH ha hc
  exact ⟨f, he, h2⟩
theorem xhr_len (hH : xhr σ b Z ws h) {k a tg n : Nat} {d : XV} {ms : XA} (ha : (xads ws)[k]? = some a) (hc : xhg h k = some (.inl (tg, n, d, ms))) : ∃ (cA : ClassId) (x : vp_A) (t : Nat) (ty : FieldType), ws[k]? = some (a, .inl (cA, x)) ∧ (am_tys Z)[t]? = some (cA, ty) ∧ n = x.1 := by
  match tg, hc with
  | 0, hc => obtain ⟨f, he, -⟩ := xhr_0 hH ha hc; exact ⟨_, _, 0, _, he, rfl, rfl⟩
  | 1, hc => obtain ⟨f, he, -⟩ := xhr_1 hH ha hc; exact ⟨_, _, 1, _, he, rfl, rfl⟩
  | 2, hc => obtain ⟨f, he, -⟩ := xhr_2 hH ha hc; exact ⟨_, _, 2, _, he, rfl, rfl⟩
  | 3, hc => obtain ⟨f, he, -⟩ := xhr_3 hH ha hc; exact ⟨_, _, 3, _, he, rfl, rfl⟩
  | tg + 4, hc => obtain ⟨e, -, hx⟩ := xhr_at hH ha hc; exact hx.elim
theorem xhr_set (hH : xhr σ b Z ws h) {k a : Nat} {e e2 : va_E} {c2 : XC} (he : ws[k]? = some (a, e)) (hc : xcr σ b (xads ws) Z e2 c2) : xhr σ b Z (ws.set k (a, e2)) (xhs h k c2) := by
  have hlt : k < ws.length := (List.getElem?_eq_some_iff.mp he).1
  have hlt2 : k < 1024 := by have := hH.1; have := hH.2.1; omega
  refine ⟨by rw [List.length_set]; exact hH.1, hH.2.1, fun i a1 e1 hi => ?_⟩
  have hi3 : i < 1024 := by
    have h1 := (List.getElem?_eq_some_iff.mp hi).1
    rw [List.length_set] at h1
    have := hH.1; have := hH.2.1; omega
  rw [xads_eq he]
  have eg : xhg (xhs h k c2) i = if i = k then some c2 else xhg h i := xtget_lt (d := 10) h.2 hi3 hlt2 c2
  rw [eg]
  rw [List.getElem?_set] at hi
  split at hi
  · rename_i hik
    subst hik
    cases hi
    rw [if_pos rfl]
    exact ⟨c2, rfl, hc⟩
  · rename_i hik
    rw [if_neg (fun z => hik z.symm)]
    exact hH.2.2 i a1 e1 hi
theorem xget_put {n : Nat} {d : XV} {t : XA} {j i : Nat} (v : XV) (hn : n ≤ xcap t) (hi : i < n) (hj : j < n) : xget d (xput n d t j v) i = if i = j then v else xget d t i := by
  match t, hn with
  | .inr (.inl t), hn =>
    have hn : n ≤ 64 := hn
    show (xtget 6 (xtset 6 t j v) i).getD d = _
    rw [xtget_lt t (by omega : i < 2 ^ 6) (by omega : j < 2 ^ 6)]
    split <;> rfl
  | .inr (.inr (.inl t)), hn =>
    have hn : n ≤ 2048 := hn
    show (xtget 11 (xtset 11 t j v) i).getD d = _
    rw [xtget_lt t (by omega : i < 2 ^ 11) (by omega : j < 2 ^ 11)]
    split <;> rfl
  | .inr (.inr (.inr t)), hn =>
    have hn : n ≤ 262144 := hn
    show (xtget 18 (xtset 18 t j v) i).getD d = _
    rw [xtget_lt t (by omega : i < 2 ^ 18) (by omega : j < 2 ^ 18)]
    split <;> rfl
  | .inl u, hn =>
    have hn : n ≤ 262144 := hn
    unfold xput
    simp only
    cases hb : decide (d = v) with
    | true =>
      have e := of_decide_eq_true hb
      simp only [cond]
      show d = if i = j then v else d
      split
      · exact e
      · rfl
    | false =>
      simp only [cond]
      cases h1 : Nat.ble n 64 with
      | true =>
        have h1 := Nat.le_of_ble_eq_true h1
        show (xtget 6 (xtset 6 (xtz 6) j v) i).getD d = if i = j then v else d
        rw [xtget_lt _ (by omega : i < 2 ^ 6) (by omega : j < 2 ^ 6), xtget_z]
        split <;> rfl
      | false =>
        cases h2 : Nat.ble n 2048 with
        | true =>
          have h2 := Nat.le_of_ble_eq_true h2
          show (xtget 11 (xtset 11 (xtz 11) j v) i).getD d = if i = j then v else d
          rw [xtget_lt _ (by omega : i < 2 ^ 11) (by omega : j < 2 ^ 11), xtget_z]
          split <;> rfl
        | false =>
          show (xtget 18 (xtset 18 (xtz 18) j v) i).getD d = if i = j then v else d
          rw [xtget_lt _ (by omega : i < 2 ^ 18) (by omega : j < 2 ^ 18), xtget_z]
          split <;> rfl
theorem xcap_put {n : Nat} {d : XV} {t : XA} {j : Nat} (v : XV) (hn : n ≤ xcap t) : n ≤ xcap (xput n d t j v) := by
  match t, hn with
  | .inr (.inl t), hn => exact hn
  | .inr (.inr (.inl t)), hn => exact hn
  | .inr (.inr (.inr t)), hn => exact hn
  | .inl u, hn =>
    unfold xput
    simp only
    cases hb : decide (d = v) with
    | true => exact hn
    | false =>
      simp only [cond]
      cases h1 : Nat.ble n 64 with
      | true => exact Nat.le_of_ble_eq_true h1
      | false =>
        cases h2 : Nat.ble n 2048 with
        | true => exact Nat.le_of_ble_eq_true h2
        | false => exact hn
theorem xhr_set0 (hH : xhr σ b Z ws h) {k a n : Nat} {f : Nat → Int32} {d : XV} {ms : XA} {j : Nat} {x : Int32} {v : XV} (he : ws[k]? = some (a, .inl (Z.1, n, .inl f))) (hcap : n ≤ xcap ms) (hf : ∀ i, i < n → xvr σ b (xads ws) (.int (f i)) (xget d ms i)) (hj : j < n) (hv : xvr σ b (xads ws) (.int x) v) : xhr σ b Z (ws.set k (a, .inl (Z.1, n, .inl (upd f j x)))) (xhs h k (.inl (0, n, d, xput n d ms j v))) := by
  refine xhr_set hH he ⟨_, rfl, xcap_put v hcap, fun i hi => ?_⟩
  rw [xget_put v hcap hi hj]
  by_cases hij : i = j
  · rw [if_pos hij, hij, pk_us]; exact hv
  · rw [if_neg hij, pk_un hij]; exact hf i hi
theorem xhr_set1 (hH : xhr σ b Z ws h) {k a n : Nat} {f : Nat → Int64} {d : XV} {ms : XA} {j : Nat} {x : Int64} {v : XV} (he : ws[k]? = some (a, .inl (Z.2.1, n, .inr (.inl f)))) (hcap : n ≤ xcap ms) (hf : ∀ i, i < n → xvr σ b (xads ws) (.long (f i)) (xget d ms i)) (hj : j < n) (hv : xvr σ b (xads ws) (.long x) v) : xhr σ b Z (ws.set k (a, .inl (Z.2.1, n, .inr (.inl (vp_updL f j x))))) (xhs h k (.inl (1, n, d, xput n d ms j v))) := by
  refine xhr_set hH he ⟨_, rfl, xcap_put v hcap, fun i hi => ?_⟩
  rw [xget_put v hcap hi hj]
  by_cases hij : i = j
  · rw [if_pos hij, hij, pk_uLs]; exact hv
  · rw [if_neg hij, pk_uLn hij]; exact hf i hi
theorem xhr_app (hH : xhr σ b Z ws h) {q : Nat} {e : va_E} {c : XC} (hlt : h.1 < 1024) (hc : xcr σ b (xads ws) Z e c) : xhr σ b Z (ws ++ [(q, e)]) (xhp h c) := by
  refine ⟨by rw [List.length_append, List.length_singleton, hH.1]; rfl, hlt, fun i a1 e1 hi => ?_⟩
  rw [xads_push]
  have hi9 := (List.getElem?_eq_some_iff.mp hi).1
  rw [List.length_append, List.length_singleton] at hi9
  have h1 := hH.1
  have eg : xhg (xhp h c) i = if i = h.1 then some c else xhg h i := xtget_lt (d := 10) h.2 (show i < 2 ^ 10 by omega) (show h.1 < 2 ^ 10 by omega) c
  rw [eg]
  by_cases hlt2 : i < ws.length
  · rw [List.getElem?_append_left hlt2] at hi
    obtain ⟨c2, h2, h3⟩ := hH.2.2 i a1 e1 hi
    rw [if_neg (by omega)]
    exact ⟨c2, h2, xcr_app q h3⟩
  · have hi2 : i = ws.length := by omega
    subst hi2
    simp at hi
    obtain ⟨rfl, rfl⟩ := hi
    rw [if_pos h1]
    exact ⟨c, rfl, xcr_app q hc⟩
theorem xnew_ref (hH : xhr σ b Z ws h) {q : Nat} {e : va_E} : xvr σ b (xads (ws ++ [(q, e)])) (.ref q) (.inr (.inr (h.1 + 3))) := by
  refine ⟨q, rfl, ?_⟩
  rw [xads_push, ← hH.1]
  have : ws.length = (xads ws).length := by simp [xads]
  rw [this]
  simp
theorem xarr_0 {ads : List Nat} {n : Nat} (hn : n ≤ 262144) : xcr σ b ads Z (.inl (Z.1, n, .inl (fun _ => 0))) (.inl (0, n, xarr0 0, .inl ())) := ⟨_, rfl, hn, fun _ _ => ⟨0, rfl, rfl⟩⟩
theorem xarr_1 {ads : List Nat} {n : Nat} (hn : n ≤ 262144) : xcr σ b ads Z (.inl (Z.2.1, n, .inr (.inl (fun _ => 0)))) (.inl (1, n, xarr0 1, .inl ())) := ⟨_, rfl, hn, fun _ _ => ⟨0, rfl, rfl⟩⟩
theorem xarr_2 {ads : List Nat} {n : Nat} (hn : n ≤ 262144) : xcr σ b ads Z (.inl (Z.2.2.1, n, .inl (fun _ => 0))) (.inl (2, n, xarr0 2, .inl ())) := ⟨_, rfl, hn, fun _ _ => ⟨0, rfl, rfl⟩⟩
theorem xarr_3 {ads : List Nat} {n : Nat} (hn : n ≤ 262144) : xcr σ b ads Z (.inl (Z.2.2.2.1, n, .inl (fun _ => 0))) (.inl (3, n, xarr0 3, .inl ())) := ⟨_, rfl, hn, fun _ _ => ⟨0, rfl, rfl⟩⟩
end XH
-- ---- the tables
theorem xi_okw {cc : ByteArray} {l : XIs} (h : xi_ok cc l = true) {pc : Nat} {i : Instr} {len : Nat} (hl : xlook pc l = some (i, len)) : decode cc pc = .ok (i, len) := by
  have h1 := List.all_eq_true.mp h (pc, i, len) (xlook_mem hl)
  have h2 := of_decide_eq_true h1
  exact h2
theorem xi_w {m pc : Nat} {i : Instr} {len : Nat} (h : cond (Nat.blt m xm_n) (xlook pc (xi m pc)) none = some (i, len)) : m < xm_n ∧ decode (xc m) pc = .ok (i, len) := by
  obtain ⟨h1, h2⟩ := xcond h
  have hm : m < xm_n := Nat.le_of_ble_eq_true h1
  have ha : xi_ok (xc m) (xi m pc) = true := xi_all hm pc
  exact ⟨hm, xi_okw ha h2⟩
theorem xo_w {m : Nat} (hm : m < xm_n) : xo m < 21 := of_decide_eq_true (List.all_eq_true.mp xo_all m (List.mem_range.mpr hm))
theorem xa_w {m i : Nat} (hm : m < xm_n) {v : Int32} {p : Nat} (h : xlook i (xa (xo m)) = some (v, p)) : Cond.constant (xcls (xo m)) i v ∈ am_T := xps_T (xps_ok (xa_all (xo_w hm)) _ (xlook_mem h))
theorem xb_w {m i : Nat} (hm : m < xm_n) {v : Int64} {p : Nat} (h : xlook i (xb (xo m)) = some (v, p)) : Cond.constantLong (xcls (xo m)) i v ∈ am_T := xps_T (xps_ok (xb_all (xo_w hm)) _ (xlook_mem h))
theorem xf_w {m i : Nat} (hm : m < xm_n) {ci k p : Nat} (h : xfD (xo m) i = some (ci, k, p)) : ∃ Cn T N, vwCl[ci]? = some (Cn, T, N) ∧ k < N ∧ Cond.fieldLink (xcls (xo m)) i (T k).1 (T k).2.1 (T k).2.2.1 ∈ am_T := by
  obtain ⟨h1, h2⟩ := xps_ok (xf_all (xo_w hm)) _ (xfD_mem (xo_w hm) h)
  unfold xf_ck at h2
  rw [Bool.and_eq_true] at h2
  have h3 := xps_T ⟨h1, h2.1⟩
  have h4 := h2.2
  unfold xf_wd at h3
  unfold xf_nk at h4
  cases hv : vwCl[ci]? with
  | none => simp only [hv] at h4; cases h4
  | some q =>
    obtain ⟨Cn, T, N⟩ := q
    simp only [hv] at h3 h4
    exact ⟨Cn, T, N, rfl, of_decide_eq_true h4, h3⟩
theorem xt_ck_ok {T : u_T} : ∀ {k : Nat} {l : List (Nat × Nat)}, xt_ck T k l = true → ∀ {j : Nat} {q : Nat × Nat}, l[j]? = some q → (T (k + j)).2.2.2 = decide (q.2 = 1) ∧ (match q.1 with
    | 0 => am_t T (k + j) = .int
    | 1 => am_t T (k + j) = .long
    | 2 => am_t T (k + j) = .boolean
    | _ => (∃ n, am_t T (k + j) = .object n) ∨ ∃ t, am_t T (k + j) = .array t)
  | k, [], _, j, q, hq => by simp at hq
  | k, p :: l, h, j, q, hq => by
    unfold xt_ck at h
    simp only [Bool.and_eq_true] at h
    cases j with
    | zero =>
      cases hq
      refine ⟨of_decide_eq_true h.1.1, ?_⟩
      have h2 := h.1.2
      rw [Nat.add_zero]
      obtain ⟨a, c⟩ := p
      match a, h2 with
      | 0, h2 => exact of_decide_eq_true (p := am_t T k = .int) h2
      | 1, h2 => exact of_decide_eq_true (p := am_t T k = .long) h2
      | 2, h2 => exact of_decide_eq_true (p := am_t T k = .boolean) h2
      | a + 3, h2 =>
        show (∃ n, am_t T k = .object n) ∨ ∃ t, am_t T k = .array t
        have h3 : (match am_t T k with
          | .object _ => true
          | .array _ => true
          | _ => false) = true := h2
        cases hx : am_t T k with
        | object n => exact Or.inl ⟨n, rfl⟩
        | array t => exact Or.inr ⟨t, rfl⟩
        | _ => rw [hx] at h3; cases h3
    | succ j =>
      have := xt_ck_ok (k := k + 1) h.2 (j := j) hq
      rw [show k + 1 + j = k + (j + 1) by omega] at this
      exact this
theorem xt_all {ci : Nat} {Cn : String} {T : u_T} {N : Nat} (h : vwCl[ci]? = some (Cn, T, N)) : xt_ck T 0 (xt ci) = true ∧ (xt ci).length = N := by
  match ci, h with
  | 0, h => cases h; exact xt_ok0
  | 1, h => cases h; exact xt_ok1
  | 2, h => cases h; exact xt_ok2
  | 3, h => cases h; exact xt_ok3
  | 4, h => cases h; exact xt_ok4
  | 5, h => cases h; exact xt_ok5
  | 6, h => cases h; exact xt_ok6
  | 7, h => cases h; exact xt_ok7
  | 8, h => cases h; exact xt_ok8
  | 9, h => cases h; exact xt_ok9
  | 10, h => cases h; exact xt_ok10
  | 11, h => cases h; exact xt_ok11
  | 12, h => cases h; exact xt_ok12
  | k + 13, h => simp [vwCl] at h
theorem xcls_all {ci : Nat} {Cn : String} {T : u_T} {N : Nat} (h : vwCl[ci]? = some (Cn, T, N)) : Cn = xcls ci ∧ ci < 13 := by
  match ci, h with
  | 0, h => cases h; exact ⟨by decide +kernel, by decide⟩
  | 1, h => cases h; exact ⟨by decide +kernel, by decide⟩
  | 2, h => cases h; exact ⟨by decide +kernel, by decide⟩
  | 3, h => cases h; exact ⟨by decide +kernel, by decide⟩
  | 4, h => cases h; exact ⟨by decide +kernel, by decide⟩
  | 5, h => cases h; exact ⟨by decide +kernel, by decide⟩
  | 6, h => cases h; exact ⟨by decide +kernel, by decide⟩
  | 7, h => cases h; exact ⟨by decide +kernel, by decide⟩
  | 8, h => cases h; exact ⟨by decide +kernel, by decide⟩
  | 9, h => cases h; exact ⟨by decide +kernel, by decide⟩
  | 10, h => cases h; exact ⟨by decide +kernel, by decide⟩
  | 11, h => cases h; exact ⟨by decide +kernel, by decide⟩
  | 12, h => cases h; exact ⟨by decide +kernel, by decide⟩
  | k + 13, h => simp [vwCl] at h
noncomputable def xdcl (ci : Nat) : Bool := match vwCl[ci]? with
  | some (_, T, N) => (List.range N).all (fun k => decide ((T k).1 = xcls ci))
  | none => true
set_option maxRecDepth 100000 in
theorem xdcl_ok : (List.range 13).all xdcl = true := by decide +kernel
theorem xdcl_all {ci : Nat} {Cn : String} {T : u_T} {N k : Nat} (h : vwCl[ci]? = some (Cn, T, N)) (hk : k < N) : (T k).1 = xcls ci := by
  have h1 := List.all_eq_true.mp xdcl_ok ci (List.mem_range.mpr (xcls_all h).2)
  unfold xdcl at h1
  simp only [h] at h1
  exact of_decide_eq_true (List.all_eq_true.mp h1 k (List.mem_range.mpr hk))
theorem xt_le : (List.range 13).all (fun c => decide ((xt c).length ≤ 128)) = true := by decide +kernel
theorem xt_le_all {ci : Nat} {Cn : String} {T : u_T} {N : Nat} (h : vwCl[ci]? = some (Cn, T, N)) : (xt ci).length ≤ 128 := of_decide_eq_true (List.all_eq_true.mp xt_le ci (List.mem_range.mpr (xcls_all h).2))
theorem xtL_xt {ci : Nat} {Cn : String} {T : u_T} {N k : Nat} {q : Nat × Nat} (hcl : vwCl[ci]? = some (Cn, T, N)) (hk : k < N) (h : xtget 7 (xtL (xt ci)) k = some q) : (xt ci)[k]? = some q := by
  have h1 := xt_le_all hcl
  have h2 := (xt_all hcl).2
  rw [xtL_get h1 (by omega)] at h
  exact h
theorem xor_len {σ : Nat → Int32} {b : Nat} {ads : List Nat} {ci : Nat} {fs : List Value} {t : XT XV 7} {Cn : String} {T : u_T} {N : Nat} (h : xor σ b ads ci fs t) (hcl : vwCl[ci]? = some (Cn, T, N)) : fs.length = N := h.1.trans (xt_all hcl).2
theorem xor_get {σ : Nat → Int32} {b : Nat} {ads : List Nat} {ci : Nat} {fs : List Value} {t : XT XV 7} {Cn : String} {T : u_T} {N k : Nat} {x : XV} (h : xor σ b ads ci fs t) (hcl : vwCl[ci]? = some (Cn, T, N)) (hk : k < N) (hx : xtget 7 t k = some x) : ∃ v, fs[k]? = some v ∧ xvr σ b ads v x := by
  have h1 := xt_le_all hcl
  have h2 := (xt_all hcl).2
  have h3 := xor_len h hcl
  have hv : fs[k]? = some (fs[k]'(by omega)) := List.getElem?_eq_getElem _
  obtain ⟨y, h4, h5⟩ := h.2 k _ (by omega) hv
  cases h4.symm.trans hx
  exact ⟨_, hv, h5⟩
theorem xhr_seto {σ : Nat → Int32} {b : Nat} {Z : AmZ} {ws : va_W} {h : XHp} (hH : xhr σ b Z ws h) {k a ci j : Nat} {fs : List Value} {fv : XT XV 7} {v : Value} {x : XV} {Cn : String} {T : u_T} {N : Nat} (he : ws[k]? = some (a, .inr (ci, fs))) (hf : xor σ b (xads ws) ci fs fv) (hcl : vwCl[ci]? = some (Cn, T, N)) (hj : j < N) (hv : xvr σ b (xads ws) v x) : xhr σ b Z (ws.set k (a, .inr (ci, fs.set j v))) (xhs h k (.inr (ci, xtset 7 fv j x))) := by
  refine xhr_set hH he ⟨_, rfl, by rw [List.length_set]; exact hf.1, fun i w hi hw => ?_⟩
  have h1 := xt_le_all hcl
  have h2 := (xt_all hcl).2
  rw [xtget_lt fv (show i < 2 ^ 7 by omega) (show j < 2 ^ 7 by omega)]
  rw [List.getElem?_set] at hw
  split at hw
  · rename_i hij
    subst hij
    split at hw
    · cases hw
      rw [if_pos rfl]
      exact ⟨x, rfl, hv⟩
    · cases hw
  · rename_i hij
    rw [if_neg (fun z => hij z.symm)]
    exact hf.2 i w hi hw
theorem xt_w {σ : Nat → Int32} {b : Nat} {ads : List Nat} {ci : Nat} {Cn : String} {T : u_T} {N k ty fin : Nat} {v : Value} {x : XV} (hcl : vwCl[ci]? = some (Cn, T, N)) (hty : (xt ci)[k]? = some (ty, fin)) (hv : xvr σ b ads v x) (hf : xfit ty x = true) : narrow (am_t T k) v = v ∧ fits (am_t T k) v = true ∧ (T k).2.2.2 = decide (fin = 1) := by
  obtain ⟨h1, h2⟩ := xt_ck_ok (xt_all hcl).1 hty
  rw [Nat.zero_add] at h1 h2
  refine ⟨?_, ?_, h1⟩
  all_goals
    match ty, x, h2, hf, hv with
    | 0, .inl _, h2, _, ⟨n, e, _⟩ => rw [(h2 : am_t T k = .int), e]; rfl
    | 1, .inr (.inl _), h2, _, ⟨n, e, _⟩ => rw [(h2 : am_t T k = .long), e]; rfl
    | 2, .inl (.inl c), h2, hf, ⟨n, e, hn⟩ =>
      rw [(h2 : am_t T k = .boolean), e, (hn : n = c)]
      rcases (of_decide_eq_true hf : c = 0 ∨ c = 1) with h0 | h0 <;> rw [h0] <;> rfl
    | 3, .inr (.inr j), h2, _, hv =>
      have hr : v = .null ∨ ∃ a, v = .ref a := by
        cases j with
        | zero => exact Or.inl hv
        | succ j => obtain ⟨a, e, -⟩ := xvr_a hv; exact Or.inr ⟨a, e⟩
      rcases (h2 : (∃ n, am_t T k = .object n) ∨ ∃ t, am_t T k = .array t) with ⟨n, e⟩ | ⟨n, e⟩ <;> rcases hr with e2 | ⟨a, e2⟩ <;> rw [e, e2] <;> rfl
theorem xfin_ok {m : Nat} {ci : Nat} {Cn : String} {T : u_T} {N k fin : Nat} (h : (T k).2.2.2 = decide (fin = 1)) (z : (T k).2.2.2 = true) (hb : (!(Nat.beq fin 1) || (xin m && Nat.beq ci (xo m))) = true) (hcl : vwCl[ci]? = some (Cn, T, N)) (hk : k < N) : xin m = true ∧ (T k).1 = xcls (xo m) := by
  rw [h] at z
  have e := of_decide_eq_true z
  rw [e, Nat.beq_refl, Bool.not_true, Bool.false_or, Bool.and_eq_true] at hb
  exact ⟨hb.1, by rw [xdcl_all hcl hk, Nat.eq_of_beq_eq_true hb.2]⟩
theorem xdf_v {σ : Nat → Int32} {b : Nat} {ads : List Nat} {T : u_T} {k : Nat} {q : Nat × Nat} (h2 : match q.1 with
    | 0 => am_t T k = .int
    | 1 => am_t T k = .long
    | 2 => am_t T k = .boolean
    | _ => (∃ n, am_t T k = .object n) ∨ ∃ t, am_t T k = .array t) (h3 : q.1 < 4) : xvr σ b ads (defaultValue (am_t T k)) (xdef q.1) := by
  obtain ⟨a, c⟩ := q
  match a, h2, h3 with
  | 0, h2, _ => rw [(h2 : am_t T k = .int)]; exact ⟨0, rfl, rfl⟩
  | 1, h2, _ => rw [(h2 : am_t T k = .long)]; exact ⟨0, rfl, rfl⟩
  | 2, h2, _ => rw [(h2 : am_t T k = .boolean)]; exact ⟨0, rfl, rfl⟩
  | 3, h2, _ =>
    rcases (h2 : (∃ n, am_t T k = .object n) ∨ ∃ t, am_t T k = .array t) with ⟨n, e⟩ | ⟨n, e⟩ <;> rw [e] <;> exact rfl
  | a + 4, _, h3 => exact absurd h3 (by simp only; omega)
theorem xt_lt : (List.range 13).all (fun c => (xt c).all (fun q => decide (q.1 < 4))) = true := by decide +kernel
theorem xdf_o {σ : Nat → Int32} {b : Nat} {ads : List Nat} {Z : AmZ} {ci : Nat} {Cn : String} {T : u_T} {N : Nat} (hcl : vwCl[ci]? = some (Cn, T, N)) : xcr σ b ads Z (.inr (ci, am_new T N)) (.inr (ci, xtL ((xt ci).map (fun q => xdef q.1)))) := by
  obtain ⟨h1, h2⟩ := xt_all hcl
  have h0 := xt_le_all hcl
  refine ⟨_, rfl, by simp [am_new, h2], fun j v hj hv => ?_⟩
  have hjN : j < N := by
    have := (List.getElem?_eq_some_iff.mp hv).1
    simpa [am_new] using this
  have hq : (xt ci)[j]? = some ((xt ci)[j]'(by omega)) := List.getElem?_eq_getElem _
  rw [xtL_get (by rw [List.length_map]; exact h0) hj, List.getElem?_map, hq]
  have hv2 : v = defaultValue (am_t T j) := by
    simp [am_new, hjN] at hv
    exact hv.symm
  obtain ⟨-, h4⟩ := xt_ck_ok h1 hq
  rw [Nat.zero_add] at h4
  rw [hv2]
  exact ⟨_, rfl, xdf_v h4 (of_decide_eq_true (List.all_eq_true.mp (List.all_eq_true.mp xt_lt ci (List.mem_range.mpr (xcls_all hcl).2)) _ (List.mem_of_getElem? hq)))⟩
theorem xw_w {m i : Nat} (hm : m < xm_n) {ci p : Nat} (h : xlook i (xw (xo m)) = some (ci, p)) : ∃ Cn T N, vwCl[ci]? = some (Cn, T, N) ∧ Cond.classLink (xcls (xo m)) i Cn ∈ am_T ∧ (xt ci).length = N := by
  obtain ⟨h1, h2⟩ := xps_ok (xw_all (xo_w hm)) _ (xlook_mem h)
  unfold xw_ck at h2
  rw [Bool.and_eq_true] at h2
  have h3 := xps_T ⟨h1, h2.1⟩
  unfold xw_wd at h3
  cases hv : vwCl[ci]? with
  | none => have h4 := h2.2; simp only [hv] at h4; cases h4
  | some q =>
    obtain ⟨Cn, T, N⟩ := q
    simp only [hv] at h3
    exact ⟨Cn, T, N, rfl, h3, (xt_all hv).2⟩
theorem xins_ok : (List.range' 1 439).all (fun k => decide (xsta k = 0 → xo k < 13)) = true := by decide +kernel
theorem xins_all {k : Nat} (h0 : 0 < k) (hk : k < xm_n) (hs : xsta k = 0) : xo k < 13 := of_decide_eq_true (List.all_eq_true.mp xins_ok k (List.mem_range'_1.mpr ⟨h0, hk⟩)) hs
theorem xwr_ok : (List.range 440).all (fun k => decide (xk k = 1 → xo k = 13)) = true := by decide +kernel
theorem xcls13 : xcls 13 = RL := by decide +kernel
theorem xwr_all {k : Nat} (hk : k < xm_n) (h1 : xk k = 1) : xcls (xo k) = RL := by rw [of_decide_eq_true (List.all_eq_true.mp xwr_ok k (List.mem_range.mpr hk)) h1]; exact xcls13
theorem xcov {a e pc h c : Nat} (h1 : Nat.ble a pc = true) (h2 : Nat.blt pc e = true) : covers (⟨a, e, h, c⟩ : ExceptionTableEntry) pc = true := by
  have h1 := Nat.le_of_ble_eq_true h1
  have h2 : pc < e := Nat.le_of_ble_eq_true h2
  simp [covers, h1, h2]
theorem xne0 {c : Nat} (h : (!(Nat.beq c 0)) = true) : c ≠ 0 := fun z => by rw [z] at h; cases h
theorem xcast_all {e : Nat} (he : e < 2) : Cond.castable (if e = 0 then am_IA else am_IS) (if e = 0 then am_IA else am_IS) ∈ lw_tbl := by
  match e, he with
  | 0, _ => exact List.mem_of_getElem? (i := 1326) (by decide +kernel)
  | 1, _ => exact List.mem_of_getElem? (i := 1392) (by decide +kernel)
  | e + 2, he => exact absurd he (by omega)
theorem xwi_ok : (List.range 440).all (fun k => decide (xk k = 1 → xin k = false)) = true := by decide +kernel
theorem xwi_all {k : Nat} (hk : k < xm_n) (h1 : xk k = 1) : xin k = false := of_decide_eq_true (List.all_eq_true.mp xwi_ok k (List.mem_range.mpr hk)) h1
theorem xq_w {i t p : Nat} (h : xlook i xq = some (t, p)) : Cond.classLink RL i (if t = 0 then am_IA else am_IS) ∈ am_T := xps_T ⟨List.mem_of_getElem? (of_decide_eq_true (List.all_eq_true.mp xq_ok _ (xlook_mem h))), rfl⟩
end
section
-- ---- branches
section XB
variable {σ : Nat → Int32} {E : XE}
theorem xiv_ok (hE : xer σ E) {n : Int32} : ∀ {x : XI}, xir σ n x → (xiv E x).1 ≤ n.toInt ∧ n.toInt ≤ (xiv E x).2
  | .inl c, h => by rw [(h : n = c)]; exact ⟨Int.le_refl _, Int.le_refl _⟩
  | .inr (.inr r), h => h
  | .inr (.inl k), h => by
    rw [(h : n = σ k)]
    show ((E[k]?).getD (-2147483648, 2147483647)).1 ≤ _ ∧ _ ≤ ((E[k]?).getD (-2147483648, 2147483647)).2
    cases hk : E[k]? with
    | none => exact xir_top σ (σ k)
    | some r => exact hE.1 k r hk
theorem xP_int (o : Nat) (x y : Int32) : xP o x y ↔ (match o with
  | 0 => x.toInt = y.toInt
  | 1 => ¬ x.toInt = y.toInt
  | 2 => x.toInt < y.toInt
  | 3 => y.toInt ≤ x.toInt
  | 4 => y.toInt < x.toInt
  | _ => x.toInt ≤ y.toInt) := by
  match o with
  | 0 => exact Int32.toInt_inj.symm
  | 1 => exact not_congr Int32.toInt_inj.symm
  | 2 => exact Int32.lt_iff_toInt_lt
  | 3 => exact Int32.le_iff_toInt_le
  | 4 => exact Int32.lt_iff_toInt_lt
  | o + 5 => exact Int32.le_iff_toInt_le
theorem xlt_ok {a c : Int × Int} {t : Bool} {n k : Int} (h : xlt a c = some t) (h1 : a.1 ≤ n) (h2 : n ≤ a.2) (h3 : c.1 ≤ k) (h4 : k ≤ c.2) : t = true ↔ n < k := by
  unfold xlt at h
  cases hb : decide (a.2 < c.1) with
  | true => rw [hb] at h; cases h; have := of_decide_eq_true hb; exact ⟨fun _ => by omega, fun _ => rfl⟩
  | false =>
    rw [hb] at h
    simp only [cond] at h
    cases hd : decide (c.2 ≤ a.1) with
    | true => rw [hd] at h; cases h; have := of_decide_eq_true hd; exact ⟨fun z => (by cases z), fun z => absurd z (by omega)⟩
    | false => rw [hd] at h; cases h
theorem xeq_ok {a c : Int × Int} {t : Bool} {n k : Int} (h : xeq a c = some t) (h1 : a.1 ≤ n) (h2 : n ≤ a.2) (h3 : c.1 ≤ k) (h4 : k ≤ c.2) : t = true ↔ n = k := by
  unfold xeq at h
  cases hb : decide (a.1 = a.2 ∧ c.1 = c.2 ∧ a.1 = c.1) with
  | true => rw [hb] at h; cases h; have := of_decide_eq_true hb; exact ⟨fun _ => by omega, fun _ => rfl⟩
  | false =>
    rw [hb] at h
    simp only [cond] at h
    cases hd : decide (a.2 < c.1 ∨ c.2 < a.1) with
    | true => rw [hd] at h; cases h; have := of_decide_eq_true hd; exact ⟨fun z => (by cases z), fun z => absurd z (by omega)⟩
    | false => rw [hd] at h; cases h
theorem xmapnot {o : Option Bool} {t : Bool} (h : o.map not = some t) : o = some (!t) := by
  cases o with
  | none => cases h
  | some u => cases h; rw [Bool.not_not]
theorem xdec_ok {o : Nat} {a c : Int × Int} {t : Bool} {n k : Int32} (h : xdec o a c = some t) (h1 : a.1 ≤ n.toInt ∧ n.toInt ≤ a.2) (h3 : c.1 ≤ k.toInt ∧ k.toInt ≤ c.2) : t = true ↔ xP o n k := by
  rw [xP_int]
  match o, h with
  | 0, h => exact xeq_ok h h1.1 h1.2 h3.1 h3.2
  | 1, h =>
    have := xeq_ok (xmapnot h) h1.1 h1.2 h3.1 h3.2
    show t = true ↔ ¬ n.toInt = k.toInt
    rw [← this]; cases t <;> decide
  | 2, h => exact xlt_ok h h1.1 h1.2 h3.1 h3.2
  | 3, h =>
    have := xlt_ok (xmapnot h) h1.1 h1.2 h3.1 h3.2
    show t = true ↔ k.toInt ≤ n.toInt
    rw [← Int.not_lt, ← this]; cases t <;> decide
  | 4, h => exact xlt_ok h h3.1 h3.2 h1.1 h1.2
  | o + 5, h =>
    have := xlt_ok (xmapnot (h : (xlt c a).map not = some t)) h3.1 h3.2 h1.1 h1.2
    show t = true ↔ n.toInt ≤ k.toInt
    rw [← Int.not_lt, ← this]; cases t <;> decide
theorem xcut_ok {o : Nat} {t : Bool} {r : Int × Int} {n k : Int32} (h : t = true ↔ xP o n k) (h1 : r.1 ≤ n.toInt ∧ n.toInt ≤ r.2) : (xcut o t r k.toInt).1 ≤ n.toInt ∧ n.toInt ≤ (xcut o t r k.toInt).2 := by
  rw [xP_int] at h
  match o, t, h with
  | 0, false, _ => exact h1
  | 1, true, _ => exact h1
  | 0, true, h =>
    have h : true = true ↔ n.toInt = k.toInt := h
    show k.toInt ≤ n.toInt ∧ n.toInt ≤ k.toInt
    have h2 := h.mp rfl
    omega
  | 1, false, h =>
    have h : false = true ↔ ¬ n.toInt = k.toInt := h
    show k.toInt ≤ n.toInt ∧ n.toInt ≤ k.toInt
    have h2 : ¬ (¬ n.toInt = k.toInt) := fun z => by cases h.mpr z
    omega
  | 2, false, h =>
    have h : false = true ↔ n.toInt < k.toInt := h
    show k.toInt ≤ n.toInt ∧ n.toInt ≤ r.2
    have h2 : ¬ (n.toInt < k.toInt) := fun z => by cases h.mpr z
    omega
  | 2, true, h =>
    have h : true = true ↔ n.toInt < k.toInt := h
    show r.1 ≤ n.toInt ∧ n.toInt ≤ k.toInt - 1
    have h2 := h.mp rfl
    omega
  | 3, false, h =>
    have h : false = true ↔ k.toInt ≤ n.toInt := h
    show r.1 ≤ n.toInt ∧ n.toInt ≤ k.toInt - 1
    have h2 : ¬ (k.toInt ≤ n.toInt) := fun z => by cases h.mpr z
    omega
  | 3, true, h =>
    have h : true = true ↔ k.toInt ≤ n.toInt := h
    show k.toInt ≤ n.toInt ∧ n.toInt ≤ r.2
    have h2 := h.mp rfl
    omega
  | 4, false, h =>
    have h : false = true ↔ k.toInt < n.toInt := h
    show r.1 ≤ n.toInt ∧ n.toInt ≤ k.toInt
    have h2 : ¬ (k.toInt < n.toInt) := fun z => by cases h.mpr z
    omega
  | 4, true, h =>
    have h : true = true ↔ k.toInt < n.toInt := h
    show k.toInt + 1 ≤ n.toInt ∧ n.toInt ≤ r.2
    have h2 := h.mp rfl
    omega
  | 5, false, h =>
    have h : false = true ↔ n.toInt ≤ k.toInt := h
    show k.toInt + 1 ≤ n.toInt ∧ n.toInt ≤ r.2
    have h2 : ¬ (n.toInt ≤ k.toInt) := fun z => by cases h.mpr z
    omega
  | 5, true, h =>
    have h : true = true ↔ n.toInt ≤ k.toInt := h
    show r.1 ≤ n.toInt ∧ n.toInt ≤ k.toInt
    have h2 := h.mp rfl
    omega
  | o + 6, true, _ => exact h1
  | o + 6, false, _ => exact h1
theorem xer_set (hE : xer σ E) {k : Nat} {r : Int × Int} (h : r.1 ≤ (σ k).toInt ∧ (σ k).toInt ≤ r.2) : xer σ (E.set k r) := by
  refine ⟨fun i q hi => ?_, hE.2⟩
  rw [List.getElem?_set] at hi
  split at hi
  · rename_i hik
    subst hik
    split at hi
    · cases hi; exact h
    · cases hi
  · exact hE.1 i q hi
theorem xP_mir (o : Nat) (n k : Int32) : xP o n k ↔ xP (xmir o) k n := by
  match o with
  | 0 => exact eq_comm
  | 1 => exact not_congr eq_comm
  | 2 => exact Iff.rfl
  | 3 => exact Iff.rfl
  | 4 => exact Iff.rfl
  | o + 5 => exact Iff.rfl
theorem xref_ok (hE : xer σ E) {o : Nat} {t : Bool} {n k : Int32} : ∀ {x y : XI}, xir σ n x → xir σ k y → (t = true ↔ xP o n k) → xer σ (xref E o t x y)
  | .inr (.inl j), .inl c, hx, hy, h => by
    have hx : n = σ j := hx
    have hy : k = c := hy
    show xer σ (match E[j]? with
      | some r => E.set j (xcut o t r c.toInt)
      | none => E)
    cases hj : E[j]? with
    | none => exact hE
    | some r =>
      have h1 := hE.1 j r hj
      rw [← hx] at h1
      have h2 := xcut_ok h h1
      rw [hx, hy] at h2
      exact xer_set hE h2
  | .inl c, .inr (.inl j), hx, hy, h => by
    have hx : n = c := hx
    have hy : k = σ j := hy
    show xer σ (match E[j]? with
      | some r => E.set j (xcut (xmir o) t r c.toInt)
      | none => E)
    cases hj : E[j]? with
    | none => exact hE
    | some r =>
      have h1 := hE.1 j r hj
      rw [← hy] at h1
      have h2 := xcut_ok (h.trans (xP_mir o n k)) h1
      rw [hy, hx] at h2
      exact xer_set hE h2
  | .inl _, .inl _, _, _, _ => hE
  | .inl _, .inr (.inr _), _, _, _ => hE
  | .inr (.inr _), .inl _, _, _, _ => hE
  | .inr (.inr _), .inr _, _, _, _ => hE
  | .inr (.inl _), .inr _, _, _, _ => hE
theorem xbr_ok (hE : xer σ E) (o : Nat) {n k : Int32} {x y : XI} (hx : xir σ n x) (hy : xir σ k y) : ∃ q ∈ xbr E o x y, (q.1 = true ↔ xP o n k) ∧ xer σ q.2 := by
  unfold xbr
  cases hd : xdec o (xiv E x) (xiv E y) with
  | some t => exact ⟨(t, E), List.mem_cons_self, xdec_ok hd (xiv_ok hE hx) (xiv_ok hE hy), hE⟩
  | none =>
    rcases Classical.em (xP o n k) with z | z
    · exact ⟨(true, xref E o true x y), List.mem_cons_self, iff_of_true rfl z, xref_ok hE hx hy (iff_of_true rfl z)⟩
    · exact ⟨(false, xref E o false x y), List.mem_cons_of_mem _ List.mem_cons_self, iff_of_false Bool.false_ne_true z, xref_ok hE hx hy (iff_of_false Bool.false_ne_true z)⟩
theorem lg_cmp_cases (x y : Int64) : (x.toInt < y.toInt ∧ lg_cmp x y = -1) ∨ (x.toInt = y.toInt ∧ lg_cmp x y = 0) ∨ (y.toInt < x.toInt ∧ lg_cmp x y = 1) := by
  unfold lg_cmp
  simp only [gt_iff_lt, Int64.lt_iff_toInt_lt, ← Int64.toInt_inj]
  split
  · rename_i h; exact Or.inr (Or.inr ⟨h, rfl⟩)
  · split
    · rename_i h; exact Or.inr (Or.inl ⟨h, rfl⟩)
    · exact Or.inl ⟨by omega, rfl⟩
theorem xread_ok {b : Nat} {ads : List Nat} (hE : xer σ E) {n : Int32} {N : Nat} {d v : XV} {ms : XA} {x : XI} (hx : xir σ n x) (h : xread E N d ms x = some v) : vp_in n N ∧ ∀ w, xvr σ b ads w (xget d ms n.toNatClampNeg) → xvr σ b ads w v := by
  replace h : xread2 d ms (xidx E N x) = some v := h
  cases hi : xidx E N x with
  | none => rw [hi] at h; cases h
  | some o =>
    rw [hi] at h
    cases o with
    | some j =>
      have h : xget d ms j = v := Option.some.inj h
      subst h
      match x, hx, hi with
      | .inl c, hx, hi =>
        obtain ⟨h1, h2⟩ := xcond (hi : cond (decide (0 ≤ c.toInt ∧ c.toInt < (N : Int))) (some (some c.toNatClampNeg)) none = some (some j))
        have h2 : c.toNatClampNeg = j := Option.some.inj (Option.some.inj h2)
        subst h2
        have hx : n = c := hx
        rw [hx]
        exact ⟨vp_in_iff.mpr (of_decide_eq_true h1), fun w hw => hw⟩
      | .inr c, hx, hi =>
        obtain ⟨h1, h2⟩ := xcond (hi : cond (decide (0 ≤ (xiv E (.inr c)).1 ∧ (xiv E (.inr c)).2 < (N : Int))) (some none) none = some (some j))
        cases (Option.some.inj h2 : (none : Option Nat) = some j)
    | none =>
      match x, hx, hi with
      | .inl c, hx, hi =>
        obtain ⟨h1, h2⟩ := xcond (hi : cond (decide (0 ≤ c.toInt ∧ c.toInt < (N : Int))) (some (some c.toNatClampNeg)) none = some none)
        cases (Option.some.inj h2 : some c.toNatClampNeg = none)
      | .inr c, hx, hi =>
        obtain ⟨h1, -⟩ := xcond (hi : cond (decide (0 ≤ (xiv E (.inr c)).1 ∧ (xiv E (.inr c)).2 < (N : Int))) (some none) none = some none)
        have h2 := of_decide_eq_true h1
        have h3 := xiv_ok hE hx
        match ms, h with
        | .inl u, h =>
          have h : d = v := Option.some.inj h
          subst h
          exact ⟨vp_in_iff.mpr ⟨by omega, by omega⟩, fun w hw => hw⟩
        | .inr u, h => cases (h : (none : Option XV) = some v)
end XB
theorem xin_lt {n : Int32} {N : Nat} (h : vp_in n N) : n.toNatClampNeg < N := Nat.not_le.mp fun q => h (Or.inr q)
theorem xpos {c : Int32} (h : 0 ≤ c.toInt) : ¬ c < 0 := fun z => by
  have := Int32.lt_iff_toInt_lt.mp z
  rw [show (0 : Int32).toInt = 0 from rfl] at this
  omega
theorem xtgt_ok {pc t : Nat} {o : Int} (h : xtgt pc o = some t) : 0 ≤ (pc : Int) + o ∧ t = ((pc : Int) + o).toNat := by
  obtain ⟨h1, h2⟩ := xcond h
  exact ⟨of_decide_eq_true h1, (Option.some.inj h2).symm⟩
section XO
variable {L n : Nat} {ss : List XS} {m pc : Nat} {l : List (Nat × XV)} {st r : List XV} {C S : Nat} {fs : List XF} {h : XHp} {E : XE}
variable {Z : AmZ} {σ : Nat → Int32} {b : Nat} {xs : Nat → Int32} {ws : va_W} {lv : List (Nat × Value)} {vs : List Value} {cfs : List XG}
theorem xjmp1 {o : Nat} {off : Int} {x y : XI} {x1 y1 : Int32} {P : Prop} (hx : xjump m pc l r C S fs h off (xbr E o x y) = some ss) (G : ∀ s' ∈ ss, XGood n s') (hxs : XX L xs σ) (hE : xer σ E) (hx1 : xir σ x1 x) (hy1 : xir σ y1 y) (hH : xhr σ b Z ws h) (hl : xlr σ b (xads ws) lv l) (hs : xsr σ b (xads ws) vs r) (hf : xfr σ b (xads ws) n cfs fs)
    (k : 0 ≤ (pc : Int) + off → (xP o x1 y1 → XR L Z b xs m cfs n ((pc : Int) + off).toNat lv vs ws C S) → (¬ xP o x1 y1 → XR L Z b xs m cfs n (pc + 3) lv vs ws C S) → P) : P := by
  unfold xjump at hx
  cases ht : xtgt pc off with
  | none => simp only [ht] at hx; cases hx
  | some t =>
    simp only [ht] at hx
    cases hx
    obtain ⟨h0, rfl⟩ := xtgt_ok ht
    obtain ⟨q, hq, h1, h2⟩ := xbr_ok hE o hx1 hy1
    have g0 : XGood n ((m, cond q.1 ((pc : Int) + off).toNat (pc + 3), l, r, C, S, 0) :: fs, h, q.2) := G _ (List.mem_map.mpr ⟨q, hq, rfl⟩)
    have g := xg g0 hxs h2 hH hl hs hf
    refine k h0 (fun z => ?_) (fun z => ?_)
    · rw [h1.mpr z] at g; exact g
    · have : q.1 = false := by
        cases hq1 : q.1 with
        | false => rfl
        | true => exact absurd (h1.mp hq1) z
      rw [this] at g; exact g
theorem xsw1_ok {df lo hi v : Int} {os : Array Int} {t : Nat} {P : Nat → Prop} (hx : xsw1 pc df lo hi os v = some t) (hk : P t) : (∀ o, ¬ v < lo → ¬ hi < v → os[(v - lo).toNat]? = some o → 0 ≤ (pc : Int) + o ∧ P ((pc : Int) + o).toNat) ∧ (¬ v < lo → ¬ hi < v → (os[(v - lo).toNat]?).isSome = true) ∧ ((v < lo ∨ hi < v) → 0 ≤ (pc : Int) + df ∧ P ((pc : Int) + df).toNat) := by
  unfold xsw1 at hx
  cases hb : decide (v < lo ∨ hi < v) with
  | true =>
    rw [hb] at hx
    obtain ⟨h0, rfl⟩ := xtgt_ok (hx : xtgt pc df = some t)
    have hb := of_decide_eq_true hb
    exact ⟨fun o z1 z2 => absurd hb (by omega), fun z1 z2 => absurd hb (by omega), fun _ => ⟨h0, hk⟩⟩
  | false =>
    rw [hb] at hx
    have hb := of_decide_eq_false hb
    cases ho : os[(v - lo).toNat]? with
    | none => simp only [ho] at hx; cases hx
    | some o =>
      simp only [ho] at hx
      obtain ⟨h0, rfl⟩ := xtgt_ok (hx : xtgt pc o = some t)
      exact ⟨fun o2 _ _ z => by cases z; exact ⟨h0, hk⟩, fun _ _ => rfl, fun z => absurd z hb⟩
theorem xswitch_ok {df lo hi : Int} {os : Array Int} {x : XI} {x1 : Int32} (hx : xswitch m pc l r C S fs h E df lo hi os x = some ss) (G : ∀ s' ∈ ss, XGood n s') (hxs : XX L xs σ) (hE : xer σ E) (hx1 : xir σ x1 x) (hH : xhr σ b Z ws h) (hl : xlr σ b (xads ws) lv l) (hs : xsr σ b (xads ws) vs r) (hf : xfr σ b (xads ws) n cfs fs) :
    ∃ x r, Value.int x1 :: vs = Value.int x :: r ∧ (∀ o, ¬ x.toInt < lo → ¬ hi < x.toInt → os[(x.toInt - lo).toNat]? = some o → 0 ≤ (pc : Int) + o ∧ XR L Z b xs m cfs n ((pc : Int) + o).toNat lv r ws C S) ∧ (¬ x.toInt < lo → ¬ hi < x.toInt → (os[(x.toInt - lo).toNat]?).isSome = true) ∧ ((x.toInt < lo ∨ hi < x.toInt) → 0 ≤ (pc : Int) + df ∧ XR L Z b xs m cfs n ((pc : Int) + df).toNat lv r ws C S) := by
  refine ⟨x1, vs, rfl, ?_⟩
  obtain ⟨hb, hx⟩ := xcond hx
  have hr := xiv_ok hE hx1
  have e : x1.toInt = (xiv E x).1 := by
    have h1 := of_decide_eq_true hb
    have h2 := hr.1
    have h3 := hr.2
    omega
  cases ht : xsw1 pc df lo hi os (xiv E x).1 with
  | none => rw [ht] at hx; cases hx
  | some t =>
    rw [ht] at hx
    have hss : [((m, t, l, r, C, S, 0) :: fs, h, E)] = ss := Option.some.inj hx
    subst hss
    rw [← e] at ht
    exact xsw1_ok (P := fun t => XR L Z b xs m cfs n t lv vs ws C S) ht (xg (G _ List.mem_cons_self) hxs hE hH hl hs hf)
end XO
-- ---- calls, returns, throws
theorem xHof_mono (m : Nat) (X : AmX) : ∀ K K' : AmK, (∀ pc lv st ws C S, K pc lv st ws C S → K' pc lv st ws C S) → ∀ pc lv C S E u, xHof m X K pc lv C S E u → xHof m X K' pc lv C S E u := by
  intro K K' hK pc lv C S E u h
  unfold xHof at h ⊢
  revert h
  generalize xk m = k
  intro h
  match k, h with
  | 0, h => exact h
  | 1, h => exact am_hx_mono K K' hK pc lv C S E u h
  | k + 2, h => exact h.elim
theorem xcw_mono (Z : AmZ) (m : Nat) : ∀ y as ws mc ms post post' xp xp', (∀ v u, post v u → post' v u) → (∀ E u, xp E u → xp' E u) → (if m = 0 then am_wpW Z am_leaf 1300 else am_no) y as ws mc ms post xp → (if m = 0 then am_wpW Z am_leaf 1300 else am_no) y as ws mc ms post' xp' := by
  intro y as ws mc ms post post' xp xp' h1 h2 h
  split at h
  · rename_i hm
    rw [if_pos hm]
    exact am_wpW_mono am_leaf_mono 1300 y as ws mc ms post post' xp xp' h1 h2 h
  · exact h.elim
theorem XRun_mono {L : Nat} {Z : AmZ} {b : Nat} {xs : Nat → Int32} {m r : Nat} {ret : AmR} {X : AmX} {n n' : Nat} (hn : n ≤ n') {pc : Nat} {lv : List (Nat × Value)} {st : List Value} {ws : va_W} {C S : Nat} (h : XRun L Z b xs m r ret X n pc lv st ws C S) : XRun L Z b xs m r ret X n' pc lv st ws C S :=
  am_run_mono (fun _ _ z => z) (am_wp_mono am_leaf_mono _) (xcw_mono Z m) (xHof_mono m X) n n' hn pc lv st ws C S h
section XJ
variable {L n : Nat} {ss : List XS} {m pc : Nat} {l : List (Nat × XV)} {st r : List XV} {C S : Nat} {fs : List XF} {h : XHp} {E : XE}
variable {Z : AmZ} {σ : Nat → Int32} {b : Nat} {xs : Nat → Int32} {ws : va_W} {lv : List (Nat × Value)} {vs vr : List Value} {cfs : List XG}
/-- what the tables say of a method k -/
theorem xm_w {k : Nat} (h0 : 0 < k) (hk : k < xm_n) : xn k ≤ 45 ∧ plainFor (xy k) = true ∧ (xy k).cls = xcls (xo k) ∧ ((xy k).cls ≠ "java/lang/invoke/MethodHandle" ∧ (xy k).cls ≠ "java/lang/invoke/VarHandle") ∧ (xk k = 0 → Cond.code (xy k) (xc k) (xn k) (xr k) ∈ am_T) ∧ (¬ xk k = 0 → Cond.codeWith (xy k) (xc k) (xn k) (xr k) (xh k) ∈ am_T) ∧ (xsta k = 1 → Cond.static (xy k) ∈ am_T) ∧ (¬ xsta k = 1 → Cond.instanceMethod (xy k) ∈ am_T) ∧ Cond.initialized (xy k).cls ∈ am_T ∧ (xsta k = 0 → xin k = false → Cond.selects (xy k).cls (xy k) (xy k) ∈ am_T) ∧ xin k = decide ((xy k).name = "<init>") := by
  have hc := xmp_all h0 hk
  have hi := xin_all hk
  have hcode := xmc_all h0 hk
  unfold xm_pl at hc
  simp only [Bool.and_eq_true, decide_eq_true_eq] at hc
  obtain ⟨⟨⟨⟨c1, c2⟩, c3⟩, c4⟩, c5⟩ := hc
  have hmem : k ∈ List.range' 1 439 := List.mem_range'_1.mpr ⟨h0, hk⟩
  obtain ⟨g1, hg1⟩ := xm_any (List.all_eq_true.mp xm_in1 k hmem)
  have w1 := xps_T (xps_ok xm_ok1 _ hg1)
  unfold xm_w1 at w1
  obtain ⟨g3, hg3⟩ := xm_any (List.all_eq_true.mp xm_in3 (xo k) (List.mem_range.mpr (xo_w hk)))
  have w3 : Cond.initialized (xcls (xo k)) ∈ am_T := xps_T (xps_ok xm_ok3 _ hg3)
  refine ⟨c1, c2, c3, ⟨c4, c5⟩, fun z => ?_, fun z => ?_, fun z => ?_, fun z => ?_, by rw [c3]; exact w3, fun z z2 => ?_, hi⟩
  · rw [if_pos z] at hcode; exact hcode
  · rw [if_neg z] at hcode; exact hcode
  · rw [if_pos z] at w1; exact w1
  · rw [if_neg z] at w1; exact w1
  · have h2 := List.all_eq_true.mp xm_in2 k hmem
    rw [z, z2] at h2
    obtain ⟨g2, hg2⟩ := xm_any (l := xm_2) (m := k) (by simpa using h2)
    exact xps_T (xps_ok xm_ok2 _ hg2)
theorem xl_w {i k nn p w : Nat} (hm : m < xm_n) (hx : xlD (xo m) i = some (k, nn, p, w)) (hk : k < 1000) : k < xm_n ∧ (parseMethodDescriptor (xy k).desc).map (fun d => d.parameters.length) = some nn ∧ (w = 0 → Cond.methodLink (xcls (xo m)) i (xy k) ∈ am_T) ∧ (¬ w = 0 → Cond.methodLinkNest (xcls (xo m)) i (xy k) "GraphHouse" ∈ lw_tbl) := by
  have hmem := xlD_mem (xo_w hm) hx
  obtain ⟨h1, h2⟩ := xps_ok (xl_all (xo_w hm)) _ hmem
  have hn := of_decide_eq_true (List.all_eq_true.mp (xl_nall (xo_w hm)) _ hmem)
  have hk2 : k < xm_n := by
    rcases hn with z | z
    · exact z
    · exact absurd (show 1000 ≤ k from z) (Nat.not_le.mpr hk)
  unfold xl_ck at h2
  unfold xl_wd at h1 h2
  simp only at h1 h2
  rw [if_neg (by omega), if_neg (by omega), if_neg (by omega), if_neg (by omega)] at h1 h2
  simp only [Bool.and_eq_true, Bool.or_eq_true, decide_eq_true_eq] at h2
  have hd : (parseMethodDescriptor (xy k).desc).map (fun d => d.parameters.length) = some nn := by
    rcases h2.2 with z | z
    · exact absurd (show 1000 ≤ k from z) (Nat.not_le.mpr hk)
    · exact z
  by_cases hw : w = 0
  · rw [if_pos hw] at h1 h2
    refine ⟨hk2, hd, fun _ => xps_T ⟨h1, ?_⟩, fun z => absurd hw z⟩
    rcases h2.1 with z | z
    · exact z
    · rw [hw] at z; cases z
  · rw [if_neg hw] at h1
    exact ⟨hk2, hd, fun z => absurd z hw, fun _ => h1⟩
theorem xl_s {i k nn p w : Nat} {y : MethodName} (hm : m < xm_n) (hx : xlD (xo m) i = some (k, nn, p, w)) (hk : (k = 1000 ∧ y = (objectInit : MethodName)) ∨ (k = 1001 ∧ y = (arraycopyName : MethodName)) ∨ (k = 1002 ∧ y = yX11_allow) ∨ (k = 1003 ∧ y = yX11_ready)) : Cond.methodLink (xcls (xo m)) i y ∈ am_T := by
  obtain ⟨h1, -⟩ := xps_ok (xl_all (xo_w hm)) _ (xlD_mem (xo_w hm) hx)
  unfold xl_wd at h1
  simp only at h1
  rcases hk with ⟨rfl, rfl⟩ | ⟨rfl, rfl⟩ | ⟨rfl, rfl⟩ | ⟨rfl, rfl⟩
  · rw [if_pos rfl] at h1; exact xps_T ⟨h1, rfl⟩
  · rw [if_neg (by decide), if_pos rfl] at h1; exact xps_T ⟨h1, rfl⟩
  · rw [if_neg (by decide), if_neg (by decide), if_pos rfl] at h1; exact xps_T ⟨h1, rfl⟩
  · rw [if_neg (by decide), if_neg (by decide), if_neg (by decide), if_pos rfl] at h1; exact xps_T ⟨h1, rfl⟩
theorem xcall_ok {k f : Nat} {as : List XV} {av : List Value} (hx : xcall m pc l r as C S fs h E k f = some ss) (G : ∀ s' ∈ ss, XGood n s') (hxs : XX L xs σ) (hE : xer σ E) (hH : xhr σ b Z ws h) (hl : xlr σ b (xads ws) lv l) (hr : xsr σ b (xads ws) vr r) (ha : xsr σ b (xads ws) av as) (hf : xfr σ b (xads ws) n cfs fs) :
    (xbud k).1 ≤ C ∧ (xbud k).2 ≤ S ∧ (vr.map fun v => v.category).sum ≤ 8 ∧ (lg_sl av).length ≤ xn k ∧ cfs.length ≤ 1000 ∧ XR L Z b xs k ((m, pc, lv, vr, C - (xbud k).1, S - (xbud k).2, n, f) :: cfs) n 0 (lv_args 0 av) [] ws (xbud k).1 (xbud k).2 := by
  obtain ⟨hb, hx⟩ := xcond hx
  simp only [Bool.and_eq_true] at hb
  obtain ⟨⟨⟨⟨b1, b2⟩, b3⟩, b4⟩, b5⟩ := hb
  cases hx
  refine ⟨Nat.le_of_ble_eq_true b1, Nat.le_of_ble_eq_true b2, by rw [xsr_cat hr]; exact Nat.le_of_ble_eq_true b3, by rw [xsr_sl ha]; exact Nat.le_of_ble_eq_true b4, by rw [xfr_len hf]; exact Nat.le_of_ble_eq_true b5, ?_⟩
  exact xg (G _ List.mem_cons_self) hxs hE hH (xlr_args ha 0) trivial ⟨rfl, rfl, rfl, rfl, rfl, Nat.le_refl n, hl, hr, hf⟩
/-- an ordinary callee -/
theorem xwp {k f : Nat} {av : List Value} {C' S' mc ms : Nat} (h0 : 0 < k) (hk : k < xm_n) (hk0 : xk k = 0) (hlen : (lg_sl av).length ≤ xn k) (hd : cfs.length ≤ 1000) (g : XR L Z b xs k ((m, pc, lv, vr, C', S', n, f) :: cfs) n 0 (lv_args 0 av) [] ws mc ms) :
    am_wp Z am_leaf (1300 - cfs.length) (xy k) av ws mc ms (fun v u => XR L Z b xs m cfs n (pc + 3) lv (v.toList ++ vr) u C' S') (fun E u => f = 0 ∧ xHof m (xCC L Z b xs cfs).2 (XR L Z b xs m cfs n) pc lv C' S' E u) := by
  obtain ⟨c1, c2, c3, -, c5, -, -, -, -, -, c11⟩ := xm_w h0 hk
  obtain ⟨d, hd2⟩ : ∃ d, 1300 - cfs.length = d + 1 := ⟨1299 - cfs.length, by omega⟩
  have hd3 : 1300 - (cfs.length + 1) = d := by omega
  rw [hd2]
  refine Or.inr ⟨xc k, xn k, xr k, n, c5 hk0, c1, hlen, c2, ?_⟩
  unfold XR XRun at g
  rw [if_neg (Nat.pos_iff_ne_zero.mp h0), if_neg (Nat.pos_iff_ne_zero.mp h0)] at g
  have eH : xHof k (xCC L Z b xs ((m, pc, lv, vr, C', S', n, f) :: cfs)).2 = fun _ _ _ _ _ => (xCC L Z b xs ((m, pc, lv, vr, C', S', n, f) :: cfs)).2 := by
    unfold xHof
    simp only [hk0]
  rw [eH, ← c3, c11, List.length_cons, hd3] at g
  exact g
end XJ
end
section
section XK
variable {L n : Nat} {ss : List XS} {m pc i : Nat} {l : List (Nat × XV)} {st r : List XV} {C S : Nat} {fs : List XF} {h : XHp} {E : XE}
variable {Z : AmZ} {σ : Nat → Int32} {b : Nat} {xs : Nat → Int32} {ws : va_W} {lv : List (Nat × Value)} {vs vr : List Value} {cfs : List XG}
theorem xtk (vs : List Value) (n : Nat) : ((vs.take n).reverse).reverse ++ vs.drop n = vs := by rw [List.reverse_reverse, List.take_append_drop]
theorem xinvV (hm : m < xm_n) (hx : (match xlD (xo m) i with
      | some (k, n, _, w) => match st.drop n with
        | .inr (.inr (a + 3)) :: r => match xoc h a with
          | some (ci, _) => cond (Nat.beq ci (xo k) && Nat.beq w 0 && Nat.blt k 1000 && Nat.beq (xk k) 0 && Nat.beq (xsta k) 0 && !(xin k) && Nat.blt 0 k) (xcall m pc l r (.inr (.inr (a + 3)) :: (st.take n).reverse) C S fs h E k 0) none
          | none => none
        | _ => none
      | none => none) = some ss) (G : ∀ s' ∈ ss, XGood n s') (hxs : XX L xs σ) (hE : xer σ E) (hH : xhr σ b Z ws h) (hl : xlr σ b (xads ws) lv l) (hs : xsr σ b (xads ws) vs st) (hf : xfr σ b (xads ws) n cfs fs) :
    ∃ (y : MethodName) (b1 : Nat) (As r : List Value) (mc1 ms1 q ci : Nat) (fs : List Value) (T : u_T) (N : Nat), vs = As.reverse ++ Value.ref b1 :: r ∧ am_plain y As.length ∧ Cond.methodLink (xcls (xo m)) i y ∈ am_T ∧ Cond.instanceMethod y ∈ am_T ∧ Cond.selects y.cls y y ∈ am_T ∧ Cond.initialized y.cls ∈ am_T ∧ ws[q]? = some (b1, .inr (ci, fs)) ∧ vwCl[ci]? = some (y.cls, T, N) ∧ (r.map fun v => v.category).sum ≤ 8 ∧ mc1 ≤ C ∧ ms1 ≤ S ∧ am_wp Z am_leaf (1300 - cfs.length) y (.ref b1 :: As) ws mc1 ms1 (fun v u => XR L Z b xs m cfs n (pc + 3) lv (v.toList ++ r) u (C - mc1) (S - ms1)) (xHof m (xCC L Z b xs cfs).2 (XR L Z b xs m cfs n) pc lv (C - mc1) (S - ms1)) := by
  split at hx
  · rename_i k nn p9 w hlk
    split at hx
    · rename_i a r9 hdr
      split at hx
      · rename_i ci fv hha
        replace hha := xoc_w hha
        obtain ⟨hb, hx⟩ := xcond hx
        simp only [Bool.and_eq_true] at hb
        obtain ⟨⟨⟨⟨⟨⟨b1, b2⟩, b3⟩, b4⟩, b5⟩, b6⟩, b7⟩ := hb
        have b1 := Nat.eq_of_beq_eq_true b1
        have b2 := Nat.eq_of_beq_eq_true b2
        have b3 : k < 1000 := Nat.le_of_ble_eq_true b3
        have b4 := Nat.eq_of_beq_eq_true b4
        have b5 := Nat.eq_of_beq_eq_true b5
        have b6 : xin k = false := by simpa using b6
        have b7 : 0 < k := Nat.le_of_ble_eq_true b7
        obtain ⟨t1, t2⟩ := xsr_take hs nn
        rw [hdr] at t2
        obtain ⟨v1, vr, e1, hv1, hr⟩ := xsr_c t2
        obtain ⟨a1, rfl, ha⟩ := hv1
        obtain ⟨fs1, he, hfs⟩ := xhr_o hH ha hha
        obtain ⟨k1, k2, k3, -⟩ := xl_w hm hlk b3
        obtain ⟨c1, c2, c3, c4, c5, -, -, c8, c9, c10, -⟩ := xm_w b7 k1
        have hav : xsr σ b (xads ws) (.ref a1 :: (vs.take nn).reverse) (.inr (.inr (a + 3)) :: (st.take nn).reverse) := ⟨⟨a1, rfl, ha⟩, xsr_rev t1⟩
        obtain ⟨g1, g2, g3, g4, g5, g6⟩ := xcall_ok hx G hxs hE hH hl hr hav hf
        have hw := xwp b7 k1 b4 g4 g5 g6
        have hlen : (vs.take nn).reverse.length = nn := by
          have e2 : (vs.drop nn).length = vr.length + 1 := by rw [e1]; rfl
          rw [List.length_drop] at e2
          rw [List.length_reverse, List.length_take]
          omega
        obtain ⟨q, hq⟩ : ∃ q, vwCl[ci]? = some q := ⟨_, List.getElem?_eq_getElem (show ci < vwCl.length by rw [b1]; exact xins_all b7 k1 b5)⟩
        obtain ⟨Cn, T, N⟩ := q
        have hCn : Cn = (xy k).cls := by rw [(xcls_all hq).1, b1, c3]
        refine ⟨xy k, a1, (vs.take nn).reverse, vr, (xbud k).1, (xbud k).2, a, ci, fs1, T, N, ?_, ?_, k3 b2, c8 (by rw [b5]; decide), c10 b5 b6, c9, he, by rw [← hCn]; exact hq, g3, g1, g2, ?_⟩
        · rw [← e1]; exact (xtk vs nn).symm
        · rw [hlen]; exact ⟨c4.1, c4.2, k2⟩
        · exact am_wp_mono am_leaf_mono _ _ _ _ _ _ _ _ _ _ (fun _ _ z => z) (fun E u z => z.2) hw
      · cases hx
    · cases hx
  · cases hx
theorem xinvI (hm : m < xm_n) (hx : (match xlD (xo m) i with
      | some (k, n, _, _) => match st.drop n with
        | .inr (.inr (a + 1)) :: r => cond (Nat.beq k 1000) (cond (Nat.ble (xcat r) 8 && Nat.beq n 0) (some [((m, pc + 3, l, r, C, S, 0) :: fs, h, E)]) none) (cond (Nat.blt k 1000 && xin k && Nat.beq (xk k) 0 && Nat.beq (xsta k) 0 && Nat.blt 0 k) (xcall m pc l r (.inr (.inr (a + 1)) :: (st.take n).reverse) C S fs h E k 1) none)
        | _ => none
      | none => none) = some ss) (G : ∀ s' ∈ ss, XGood n s') (hxs : XX L xs σ) (hE : xer σ E) (hH : xhr σ b Z ws h) (hl : xlr σ b (xads ws) lv l) (hs : xsr σ b (xads ws) vs st) (hf : xfr σ b (xads ws) n cfs fs) :
    (∃ a r, vs = Value.ref a :: r ∧ (r.map fun v => v.category).sum ≤ 8 ∧ Cond.methodLink (xcls (xo m)) i objectInit ∈ am_T ∧ XR L Z b xs m cfs n (pc + 3) lv r ws C S) ∨ ∃ (y : MethodName) (b1 : Nat) (As r : List Value) (mc1 ms1 : Nat), vs = As.reverse ++ Value.ref b1 :: r ∧ am_plain y As.length ∧ y.name = "<init>" ∧ Cond.instanceMethod y ∈ am_T ∧ Cond.initialized y.cls ∈ am_T ∧ (r.map fun v => v.category).sum ≤ 8 ∧ mc1 ≤ C ∧ ms1 ≤ S ∧ (∃ bytes maxL, Cond.code y bytes maxL none ∈ am_T) ∧ (Cond.methodLink (xcls (xo m)) i y ∈ am_T ∨ ∃ host, Cond.methodLinkNest (xcls (xo m)) i y host ∈ lw_tbl) ∧ am_wp Z am_leaf (1300 - cfs.length) y (.ref b1 :: As) ws mc1 ms1 (fun v u => XR L Z b xs m cfs n (pc + 3) lv (v.toList ++ r) u (C - mc1) (S - ms1)) (fun _ _ => False) := by
  split at hx
  · rename_i k nn p9 w hlk
    split at hx
    · rename_i a r9 hdr
      obtain ⟨t1, t2⟩ := xsr_take hs nn
      rw [hdr] at t2
      obtain ⟨v1, vr, e1, hv1, hr⟩ := xsr_c t2
      obtain ⟨a1, rfl, hv1⟩ := xvr_a hv1
      cases hk : Nat.beq k 1000 with
      | true =>
        rw [hk] at hx
        obtain ⟨hb, hx⟩ := xcond (hx : cond _ _ none = _)
        rw [Bool.and_eq_true] at hb
        cases hx
        have hn := Nat.eq_of_beq_eq_true hb.2
        subst hn
        have e1 : vs = .ref a1 :: vr := e1
        exact Or.inl ⟨a1, vr, e1, by rw [xsr_cat hr]; exact Nat.le_of_ble_eq_true hb.1, xl_s hm hlk (Or.inl ⟨Nat.eq_of_beq_eq_true hk, rfl⟩), xg (G _ List.mem_cons_self) hxs hE hH hl hr hf⟩
      | false =>
        rw [hk] at hx
        obtain ⟨hb, hx⟩ := xcond (hx : cond _ _ none = _)
        simp only [Bool.and_eq_true] at hb
        obtain ⟨⟨⟨⟨b3, b6⟩, b4⟩, b5⟩, b7⟩ := hb
        have b3 : k < 1000 := Nat.le_of_ble_eq_true b3
        have b4 := Nat.eq_of_beq_eq_true b4
        have b5 := Nat.eq_of_beq_eq_true b5
        have b7 : 0 < k := Nat.le_of_ble_eq_true b7
        obtain ⟨k1, k2, k3, k4⟩ := xl_w hm hlk b3
        obtain ⟨c1, c2, c3, c4, c5, -, -, c8, c9, c10, c11⟩ := xm_w b7 k1
        have hav : xsr σ b (xads ws) (.ref a1 :: (vs.take nn).reverse) (.inr (.inr (a + 1)) :: (st.take nn).reverse) := ⟨hv1, xsr_rev t1⟩
        obtain ⟨g1, g2, g3, g4, g5, g6⟩ := xcall_ok hx G hxs hE hH hl hr hav hf
        have hw := xwp b7 k1 b4 g4 g5 g6
        have hlen : (vs.take nn).reverse.length = nn := by
          have e2 : (vs.drop nn).length = vr.length + 1 := by rw [e1]; rfl
          rw [List.length_drop] at e2
          rw [List.length_reverse, List.length_take]
          omega
        have hin : (xy k).name = "<init>" := of_decide_eq_true (by rw [← c11]; exact b6)
        refine Or.inr ⟨xy k, a1, (vs.take nn).reverse, vr, (xbud k).1, (xbud k).2, ?_, ?_, hin, c8 (by rw [b5]; decide), c9, g3, g1, g2, ⟨xc k, xn k, ?_⟩, ?_, ?_⟩
        · rw [← e1]; exact (xtk vs nn).symm
        · rw [hlen]; exact ⟨c4.1, c4.2, k2⟩
        · have hc := c5 b4
          rw [am_initret hin hc] at hc; exact hc
        · by_cases hw0 : w = 0
          · exact Or.inl (k3 hw0)
          · exact Or.inr ⟨_, k4 hw0⟩
        · exact am_wp_mono am_leaf_mono _ _ _ _ _ _ _ _ _ _ (fun _ _ z => z) (fun E u z => absurd z.1 (by decide)) hw
    · cases hx
  · cases hx
/-- a throw that reaches the waiting frames -/
theorem xunw_ok {e : Nat} (he : e < 2) {E2 : XE} (hxs : XX L xs σ) (hE : xer σ E2) (hH : xhr σ b Z ws h) : ∀ {fs fs2 : List XF} {cfs : List XG}, xunw e fs = some fs2 → XGood n (fs2, h, E2) → xfr σ b (xads ws) n cfs fs → (xCC L Z b xs cfs).2 (if e = 0 then am_IA else am_IS) ws
  | [], fs2, cfs, hx, G, hf => by cases hx
  | (m, pc, l, st, C, S, f) :: fs, fs2, [], hx, G, hf => hf.elim
  | (m, pc, l, st, C, S, f) :: fs, fs2, (m1, pc1, lv, vr, C1, S1, nf, f1) :: cs, hx, G, hf => by
    obtain ⟨rfl, rfl, rfl, rfl, rfl, hn, hl, hr, hf⟩ := hf
    unfold xunw at hx
    obtain ⟨hf1, hx⟩ := xcond hx
    rw [Bool.and_eq_true] at hf1
    have hf0 : f1 = 0 := Nat.eq_of_beq_eq_true hf1.1
    have hm1 : m1 < xm_n := Nat.le_of_ble_eq_true hf1.2
    refine ⟨hf0, ?_⟩
    have hand : ∀ (q : Nat × Nat × Nat × Nat), fs2 = (m1, q.2.2.1, l, [.inr (.inr 1)], C1, S1, 0) :: fs → ∀ a, XRun L Z b xs m1 cs.length (xCC L Z b xs cs).1 (xCC L Z b xs cs).2 nf q.2.2.1 lv [.ref a] ws C1 S1 := by
      intro q e1 a
      rw [e1] at G
      exact XRun_mono hn (xg G hxs hE hH hl ⟨⟨a, rfl⟩, trivial⟩ hf)
    unfold xHof
    split at hx
    · rename_i hk0
      simp only [hk0]
      exact xunw_ok he hxs hE hH hx G hf
    · rename_i q r hk1 hq
      simp only [hk1]
      have hRL : xcls (xo m1) = RL := xwr_all hm1 hk1
      obtain ⟨hb, hx⟩ := xcond hx
      simp only [Bool.and_eq_true] at hb
      split at hx
      · rename_i t p hlq
        cases hte : Nat.beq t e with
        | true =>
          rw [hte] at hx
          have hte := Nat.eq_of_beq_eq_true hte
          subst hte
          refine ⟨[], ⟨q.1, q.2.1, q.2.2.1, q.2.2.2⟩, tableOf r, by rw [hq]; rfl, ?_, ?_, ?_, ?_, fun z hz => by (cases hz), hand q (Option.some.inj hx).symm⟩
          · exact xcov hb.1.1 hb.1.2
          · exact xne0 hb.2
          · rw [hRL]; exact xq_w hlq
          · exact xcast_all he
        | false =>
          rw [hte] at hx
          obtain ⟨hb2, hx⟩ := xcond (hx : cond _ _ none = _)
          rw [Bool.and_eq_true] at hb2
          have t0 := Nat.eq_of_beq_eq_true hb2.1
          have e1 := Nat.eq_of_beq_eq_true hb2.2
          subst t0; subst e1
          cases r with
          | cons q2 r2 =>
            obtain ⟨hb3, hx⟩ := xcond hx
            simp only [Bool.and_eq_true] at hb3
            split at hx
            · rename_i t2 p2 hlq2
              obtain ⟨hb4, hx⟩ := xcond hx
              have ht2 := Nat.eq_of_beq_eq_true hb4
              subst ht2
              refine ⟨[⟨q.1, q.2.1, q.2.2.1, q.2.2.2⟩], ⟨q2.1, q2.2.1, q2.2.2.1, q2.2.2.2⟩, tableOf r2, by rw [hq]; rfl, ?_, ?_, ?_, ?_, fun z hz => ?_, hand q2 (Option.some.inj hx).symm⟩
              · exact xcov hb3.1.1 hb3.1.2
              · exact xne0 hb3.2
              · rw [hRL]; exact xq_w hlq2
              · exact xcast_all he
              · rw [List.mem_singleton.mp hz]
                refine ⟨xne0 hb.2, rfl, ?_⟩
                rw [hRL]; exact xq_w hlq
            · cases hx
          | nil => cases hx
      · cases hx
    · cases hx
theorem xretK {v : Option Value} {x : Option XV} {m2 pc2 : Nat} {l2 : List (Nat × XV)} {st2 : List XV} {C2 S2 f2 : Nat} {fs2 : List XF} {cfs : List XG} (G : XGood n ((m2, pc2 + 3, l2, x.toList ++ st2, C2, S2, 0) :: fs2, h, E)) (hv : xsr σ b (xads ws) v.toList x.toList) (hxs : XX L xs σ) (hE : xer σ E) (hH : xhr σ b Z ws h) (hf : xfr σ b (xads ws) (n + 1) cfs ((m2, pc2, l2, st2, C2, S2, f2) :: fs2)) : (xCC L Z b xs cfs).1 v ws := by
  match cfs, hf with
  | [], hf => exact hf.elim
  | (m1, pc1, lv1, vr1, C1, S1, nf, f1) :: cs, hf =>
    obtain ⟨rfl, rfl, rfl, rfl, rfl, hn, hl, hr, hf⟩ := hf
    exact XRun_mono (Nat.le_of_succ_le hn) (xg G hxs hE hH hl (xsr_append hv hr) (xfr_le (Nat.le_succ n) hf))
theorem xlf1 : Cond.static yX11_allow ∈ am_T := am_at 1322 (by decide +kernel) (by decide +kernel)
theorem xlf2 : Cond.static yX11_ready ∈ am_T := am_at 1388 (by decide +kernel) (by decide +kernel)
theorem xlf3 : am_plain yX11_allow 1 := by refine ⟨by decide +kernel, by decide +kernel, by decide +kernel⟩
theorem xlf4 : am_plain yX11_ready 1 := by refine ⟨by decide +kernel, by decide +kernel, by decide +kernel⟩
theorem xleaf_ok {e : Nat} (he : e < 2) {g : XI} {g1 : Int32} (hx : xleaf m pc l g r C S fs h E e = some ss) (G : ∀ s' ∈ ss, XGood n s') (hxs : XX L xs σ) (hE : xer σ E) (hg : xir σ g1 g) (hH : xhr σ b Z ws h) (hl : xlr σ b (xads ws) lv l) (hr : xsr σ b (xads ws) vr r) (hf : xfr σ b (xads ws) n cfs fs) :
    (vr.map fun v => v.category).sum ≤ 8 ∧ 1 ≤ C ∧ 6 ≤ S ∧ cfs.length ≤ 1000 ∧ am_thr (if e = 0 then am_IA else am_IS) [.int g1] ws 1 6 (fun v u => XR L Z b xs m cfs n (pc + 3) lv (v.toList ++ vr) u (C - 1) (S - 6)) (xHof m (xCC L Z b xs cfs).2 (XR L Z b xs m cfs n) pc lv (C - 1) (S - 6)) := by
  obtain ⟨hb, hx⟩ := xcond hx
  simp only [Bool.and_eq_true] at hb
  obtain ⟨⟨⟨b1, b2⟩, b3⟩, b4⟩ := hb
  refine ⟨by rw [xsr_cat hr]; exact Nat.le_of_ble_eq_true b3, Nat.le_of_ble_eq_true b1, Nat.le_of_ble_eq_true b2, by rw [xfr_len hf]; exact Nat.le_of_ble_eq_true b4, g1, rfl, ?_⟩
  split at hx
  · rename_i fs2 hu
    cases hx
    obtain ⟨q, hq, h1, h2⟩ := xbr_ok (k := 0) (y := .inl 0) hE 0 hg (show xir σ 0 (.inl 0) from rfl)
    have g9 := G _ (List.mem_map.mpr ⟨q, hq, rfl⟩)
    refine ⟨fun z => ?_, fun z => ?_⟩
    · have hq1 : q.1 = false := by
        cases hq1 : q.1 with
        | false => rfl
        | true => exact absurd (h1.mp hq1) z
      rw [hq1] at g9
      exact xg g9 hxs h2 hH hl hr hf
    · rw [h1.mpr z] at g9
      exact ⟨Nat.le_refl _, Nat.le_refl _, (xunw_ok (cfs := (m, pc, lv, vr, C - 1, S - 6, n, 0) :: cfs) he hxs h2 hH hu g9 ⟨rfl, rfl, rfl, rfl, rfl, Nat.le_refl n, hl, hr, hf⟩).2⟩
  · cases hx
theorem xcopy_ok (hw : Cond.methodLink (xcls (xo m)) i arraycopyName ∈ am_T) (hx : xcopy m pc l st C S fs h E = some ss) (G : ∀ s' ∈ ss, XGood n s') (hxs : XX L xs σ) (hE : xer σ E) (hH : xhr σ b Z ws h) (hl : xlr σ b (xads ws) lv l) (hs : xsr σ b (xads ws) vs st) (hf : xfr σ b (xads ws) n cfs fs) : am_arraycopy Z (xcls (xo m)) i (fun r u => XR L Z b xs m cfs n (pc + 3) lv r u C S) vs ws := by
  unfold xcopy at hx
  split at hx
  · rename_i nn dp a sp a0 r9
    split at hx
    · rename_i t0 n0 d0 m0 hh0
      replace hh0 := xac_w hh0
      split at hx
      · rename_i t1 n1 d1 m1 hh1
        replace hh1 := xac_w hh1
        obtain ⟨hb, hx⟩ := xcond hx
        simp only [Bool.and_eq_true] at hb
        obtain ⟨⟨⟨b1, b2⟩, b3⟩, b4⟩ := hb
        cases hx
        have b1 := Nat.eq_of_beq_eq_true b1
        have b2 : t0 < 2 := Nat.le_of_ble_eq_true b2
        obtain ⟨b5, b6, b7, b8⟩ := of_decide_eq_true b3
        obtain ⟨x1, v1, rfl, hx1, hs⟩ := xsr_i hs
        obtain ⟨x2, v2, rfl, hx2, hs⟩ := xsr_i hs
        obtain ⟨x3, v3, rfl, hx3, hs⟩ := xsr_c hs
        obtain ⟨x4, v4, rfl, hx4, hs⟩ := xsr_i hs
        obtain ⟨x5, v5, rfl, hx5, hs9⟩ := xsr_c hs
        obtain ⟨a1, rfl, ha1⟩ := hx3
        obtain ⟨a2, rfl, ha2⟩ := hx5
        have hx1 : x1 = nn := hx1
        have hx2 : x2 = dp := hx2
        have hx4 : x4 = sp := hx4
        subst hx1; subst hx2; subst hx4; subst b6; subst b7; subst b1
        have hn1 : x1.toNatClampNeg = n1 := by
          show x1.toInt.toNat = n1
          rw [b5]; rfl
        have z0 : (0 : Int32).toNatClampNeg = 0 := rfl
        have hn0 : ¬ x1 < 0 := xpos (by rw [b5]; omega)
        refine ⟨x1, 0, a1, 0, a2, v5, a0, a, n0, n1, rfl, hw, by rw [xsr_cat hs9]; exact Nat.le_of_ble_eq_true b4, by decide, by decide, hn0, by rw [hn1, z0]; omega, by rw [hn1, z0]; omega, ?_⟩
        match t0, b2, hh0, hh1 with
        | 0, _, hh0, hh1 =>
          obtain ⟨f, he0, hc0, hf0⟩ := xhr_0 hH ha2 hh0
          obtain ⟨g, he1, hc1, hf1⟩ := xhr_0 hH ha1 hh1
          refine Or.inl ⟨f, g, he0, he1, ?_⟩
          refine xg (G _ List.mem_cons_self) hxs hE (xhr_set hH he1 ⟨_, rfl, Nat.le_trans b8 hc0, fun j hj => ?_⟩) (by rw [xads_eq he1]; exact hl) (by rw [xads_eq he1]; exact hs9) (by rw [xads_eq he1]; exact hf)
          rw [pk_cpy_in (by rw [z0]; omega) (by rw [z0, hn1]; omega), z0]
          simp only [Nat.zero_add, Nat.sub_zero]
          exact hf0 j (by omega)
        | 1, _, hh0, hh1 =>
          obtain ⟨f, he0, hc0, hf0⟩ := xhr_1 hH ha2 hh0
          obtain ⟨g, he1, hc1, hf1⟩ := xhr_1 hH ha1 hh1
          refine Or.inr ⟨f, g, he0, he1, ?_⟩
          refine xg (G _ List.mem_cons_self) hxs hE (xhr_set hH he1 ⟨_, rfl, Nat.le_trans b8 hc0, fun j hj => ?_⟩) (by rw [xads_eq he1]; exact hl) (by rw [xads_eq he1]; exact hs9) (by rw [xads_eq he1]; exact hf)
          rw [pk_cpy_in (by rw [z0]; omega) (by rw [z0, hn1]; omega), z0]
          simp only [Nat.zero_add, Nat.sub_zero]
          exact hf0 j (by omega)
        | t + 2, b2, _, _ => exact absurd b2 (by omega)
      · cases hx
    · cases hx
  · cases hx
theorem xinvS (hm : m < xm_n) (hx : (match xlD (xo m) i with
      | some (k, n, _, w) => cond (Nat.ble n st.length && Nat.blt 0 k) (cond (Nat.beq k 1001) (xcopy m pc l st C S fs h E) (cond (Nat.beq k 1002 || Nat.beq k 1003) (match st with
        | .inl g :: r => xleaf m pc l g r C S fs h E (k - 1002)
        | _ => none) (cond (Nat.blt k 1000 && Nat.beq (xsta k) 1 && (Nat.beq (xk k) 0 || (Nat.beq (xk k) 1 && Nat.beq m 0 && Nat.beq w 0 && Nat.beq fs.length 0))) (xcall m pc l (st.drop n) (st.take n).reverse C S fs h E k (cond (Nat.beq w 0 && Nat.beq (xk k) 0) 0 1)) none))) none
      | none => none) = some ss) (G : ∀ s' ∈ ss, XGood n s') (hxs : XX L xs σ) (hE : xer σ E) (hH : xhr σ b Z ws h) (hl : xlr σ b (xads ws) lv l) (hs : xsr σ b (xads ws) vs st) (hf : xfr σ b (xads ws) n cfs fs) :
    am_arraycopy Z (xcls (xo m)) i (fun r u => XR L Z b xs m cfs n (pc + 3) lv r u C S) vs ws ∨ ∃ (y : MethodName) (As r : List Value) (mc1 ms1 : Nat), vs = As.reverse ++ r ∧ am_plain y As.length ∧ Cond.static y ∈ am_T ∧ Cond.initialized y.cls ∈ am_T ∧ (r.map fun v => v.category).sum ≤ 8 ∧ mc1 ≤ C ∧ ms1 ≤ S ∧ ((Cond.methodLink (xcls (xo m)) i y ∈ am_T ∧ am_wp Z am_leaf (1300 - cfs.length) y As ws mc1 ms1 (fun v u => XR L Z b xs m cfs n (pc + 3) lv (v.toList ++ r) u (C - mc1) (S - ms1)) (xHof m (xCC L Z b xs cfs).2 (XR L Z b xs m cfs n) pc lv (C - mc1) (S - ms1))) ∨ (Cond.methodLink (xcls (xo m)) i y ∈ am_T ∧ (if m = 0 then am_wpW Z am_leaf 1300 else am_no) y As ws mc1 ms1 (fun v u => XR L Z b xs m cfs n (pc + 3) lv (v.toList ++ r) u (C - mc1) (S - ms1)) (fun _ _ => False)) ∨ ∃ host, Cond.methodLinkNest (xcls (xo m)) i y host ∈ lw_tbl ∧ am_wp Z am_leaf (1300 - cfs.length) y As ws mc1 ms1 (fun v u => XR L Z b xs m cfs n (pc + 3) lv (v.toList ++ r) u (C - mc1) (S - ms1)) (fun _ _ => False)) := by
  split at hx
  · rename_i k nn p9 w hlk
    obtain ⟨hb, hx⟩ := xcond hx
    rw [Bool.and_eq_true] at hb
    have h0 : 0 < k := Nat.le_of_ble_eq_true hb.2
    cases h1 : Nat.beq k 1001 with
    | true =>
      rw [h1] at hx
      exact Or.inl (xcopy_ok (xl_s hm hlk (Or.inr (Or.inl ⟨Nat.eq_of_beq_eq_true h1, rfl⟩))) hx G hxs hE hH hl hs hf)
    | false =>
      rw [h1] at hx
      simp only [cond] at hx
      refine Or.inr ?_
      cases h2 : (Nat.beq k 1002 || Nat.beq k 1003) with
      | true =>
        rw [h2] at hx
        simp only at hx
        split at hx
        · rename_i g r9
          obtain ⟨g1, vr, rfl, hg, hr⟩ := xsr_i hs
          rw [Bool.or_eq_true] at h2
          have he : k - 1002 < 2 := by
            rcases h2 with z | z <;> have z := Nat.eq_of_beq_eq_true z <;> omega
          obtain ⟨q1, q2, q3, q4, q5⟩ := xleaf_ok he hx G hxs hE hg hH hl hr hf
          obtain ⟨d, hd2⟩ : ∃ d, 1300 - cfs.length = d + 1 := ⟨1299 - cfs.length, by omega⟩
          rcases h2 with z | z
          · have z := Nat.eq_of_beq_eq_true z
            subst z
            refine ⟨yX11_allow, [.int g1], vr, 1, 6, rfl, xlf3, xlf1, am_ini11, q1, q2, q3, Or.inl ⟨xl_s hm hlk (Or.inr (Or.inr (Or.inl ⟨rfl, rfl⟩))), ?_⟩⟩
            rw [hd2]
            exact Or.inl ⟨by omega, Or.inl ⟨rfl, q5⟩⟩
          · have z := Nat.eq_of_beq_eq_true z
            subst z
            refine ⟨yX11_ready, [.int g1], vr, 1, 6, rfl, xlf4, xlf2, am_ini11, q1, q2, q3, Or.inl ⟨xl_s hm hlk (Or.inr (Or.inr (Or.inr ⟨rfl, rfl⟩))), ?_⟩⟩
            rw [hd2]
            exact Or.inl ⟨by omega, Or.inr ⟨rfl, q5⟩⟩
        · cases hx
      | false =>
        rw [h2] at hx
        obtain ⟨hb2, hx⟩ := xcond (hx : cond _ _ none = _)
        simp only [Bool.and_eq_true] at hb2
        obtain ⟨⟨b3, b5⟩, b4⟩ := hb2
        have b3 : k < 1000 := Nat.le_of_ble_eq_true b3
        have b5 := Nat.eq_of_beq_eq_true b5
        obtain ⟨k1, k2, k3, k4⟩ := xl_w hm hlk b3
        obtain ⟨c1, c2, c3, c4, c5, c6, c7, -, c9, -, c11⟩ := xm_w h0 k1
        obtain ⟨t1, t2⟩ := xsr_take hs nn
        obtain ⟨g1, g2, g3, g4, g5, g6⟩ := xcall_ok hx G hxs hE hH hl t2 (xsr_rev t1) hf
        have hlen : (vs.take nn).reverse.length = nn := by
          rw [List.length_reverse, List.length_take, xsr_len hs]
          have := Nat.le_of_ble_eq_true hb.1
          omega
        refine ⟨xy k, (vs.take nn).reverse, vs.drop nn, (xbud k).1, (xbud k).2, (xtk vs nn).symm, ?_, c7 b5, c9, g3, g1, g2, ?_⟩
        · rw [hlen]; exact ⟨c4.1, c4.2, k2⟩
        · cases hk0 : Nat.beq (xk k) 0 with
          | true =>
            have hk0' := Nat.eq_of_beq_eq_true hk0
            have hw := xwp h0 k1 hk0' g4 g5 g6
            by_cases hw0 : w = 0
            · exact Or.inl ⟨k3 hw0, am_wp_mono am_leaf_mono _ _ _ _ _ _ _ _ _ _ (fun _ _ z => z) (fun E u z => z.2) hw⟩
            · refine Or.inr (Or.inr ⟨_, k4 hw0, am_wp_mono am_leaf_mono _ _ _ _ _ _ _ _ _ _ (fun _ _ z => z) (fun E u z => ?_) hw⟩)
              have hwb : Nat.beq w 0 = false := by
                cases hh : Nat.beq w 0 with
                | false => rfl
                | true => exact absurd (Nat.eq_of_beq_eq_true hh) hw0
              rw [hwb] at z
              have z1 : (1 : Nat) = 0 := z.1
              cases z1
          | false =>
            rw [hk0, Bool.false_or, Bool.and_eq_true, Bool.and_eq_true, Bool.and_eq_true] at b4
            have hk1 := Nat.eq_of_beq_eq_true b4.1.1.1
            have hm0 := Nat.eq_of_beq_eq_true b4.1.1.2
            have hw0 := Nat.eq_of_beq_eq_true b4.1.2
            have hcf : cfs = [] := List.length_eq_zero_iff.mp (by rw [xfr_len hf]; exact Nat.eq_of_beq_eq_true b4.2)
            subst hcf
            refine Or.inr (Or.inl ⟨k3 hw0, ?_⟩)
            rw [if_pos hm0]
            refine ⟨xc k, xn k, xr k, xh k, n, c6 (by rw [hk1]; decide), c1, g4, c2, ?_⟩
            unfold XR XRun at g6
            rw [if_neg (Nat.pos_iff_ne_zero.mp h0), if_neg (Nat.pos_iff_ne_zero.mp h0)] at g6
            have eH : ∀ X, xHof k X = am_hx (xcls (xo k)) (xh k) := by
              intro X
              unfold xHof
              simp only [hk1]
            have hin : xin k = false := xwi_all k1 hk1
            rw [eH, ← c3, hin] at g6
            exact g6
  · cases hx
end XK
end
