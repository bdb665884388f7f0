/-! THE EXECUTOR IS SOUND over am_run: what it runs through, holds -/
-- ---- the trees
theorem xtget_z {α : Type} (d i : Nat) : xtget (α := α) d (xtz d) i = none := by
  induction d with
  | zero => rfl
  | succ d ih =>
    show cond _ (xtget d (xtz d) i) (xtget d (xtz d) i) = none
    cases Nat.beq (Nat.land (Nat.shiftRight i d) 1) 0 <;> exact ih
theorem xbit (i j d : Nat) : (i % 2 ^ (d + 1) = j % 2 ^ (d + 1)) ↔ (Nat.beq (Nat.land (Nat.shiftRight i d) 1) 0 = Nat.beq (Nat.land (Nat.shiftRight j d) 1) 0 ∧ i % 2 ^ d = j % 2 ^ d) := by
  have e : ∀ i, Nat.beq (Nat.land (Nat.shiftRight i d) 1) 0 = decide (i / 2 ^ d % 2 = 0) := by
    intro i
    have h : Nat.land (Nat.shiftRight i d) 1 = i / 2 ^ d % 2 := by
      show (i >>> d) &&& 1 = _
      rw [Nat.and_one_is_mod, Nat.shiftRight_eq_div_pow]
    rw [h]
    cases hb : Nat.beq (i / 2 ^ d % 2) 0 with
    | true => exact (decide_eq_true (Nat.eq_of_beq_eq_true hb)).symm
    | false => exact (decide_eq_false (Nat.ne_of_beq_eq_false hb)).symm
  rw [e, e, Nat.mod_pow_succ, Nat.mod_pow_succ]
  have h1 := Nat.mod_lt i (Nat.two_pow_pos d)
  have h2 := Nat.mod_lt j (Nat.two_pow_pos d)
  have a1 : i / 2 ^ d % 2 = 0 ∨ i / 2 ^ d % 2 = 1 := by omega
  have a2 : j / 2 ^ d % 2 = 0 ∨ j / 2 ^ d % 2 = 1 := by omega
  rcases a1 with a1 | a1 <;> rcases a2 with a2 | a2 <;> rw [a1, a2] <;> simp <;> omega
theorem xtget_set {α : Type} (d : Nat) (t : XT α d) (i j : Nat) (c : α) : xtget d (xtset d t j c) i = if i % 2 ^ d = j % 2 ^ d then some c else xtget d t i := by
  induction d with
  | zero => rw [Nat.pow_zero, Nat.mod_one, Nat.mod_one, if_pos rfl]; rfl
  | succ d ih =>
    have hb := xbit i j d
    show cond (Nat.beq (Nat.land (Nat.shiftRight i d) 1) 0) (xtget d (Prod.fst (cond (Nat.beq (Nat.land (Nat.shiftRight j d) 1) 0) (xtset d (Prod.fst t) j c, Prod.snd t) (Prod.fst t, xtset d (Prod.snd t) j c) : XT α d × XT α d)) i) (xtget d (Prod.snd (cond (Nat.beq (Nat.land (Nat.shiftRight j d) 1) 0) (xtset d (Prod.fst t) j c, Prod.snd t) (Prod.fst t, xtset d (Prod.snd t) j c) : XT α d × XT α d)) i) = if _ then _ else cond (Nat.beq (Nat.land (Nat.shiftRight i d) 1) 0) (xtget d (Prod.fst t) i) (xtget d (Prod.snd t) i)
    cases h1 : Nat.beq (Nat.land (Nat.shiftRight i d) 1) 0 <;> cases h2 : Nat.beq (Nat.land (Nat.shiftRight j d) 1) 0 <;> rw [h1, h2] at hb <;> simp only [cond]
    · rw [ih]; simp at hb; simp only [hb]
    · simp at hb; simp [hb]
    · simp at hb; simp [hb]
    · rw [ih]; simp at hb; simp only [hb]
theorem xtget_lt {α : Type} {d : Nat} (t : XT α d) {i j : Nat} (hi : i < 2 ^ d) (hj : j < 2 ^ d) (c : α) : xtget d (xtset d t j c) i = if i = j then some c else xtget d t i := by
  rw [xtget_set, Nat.mod_eq_of_lt hi, Nat.mod_eq_of_lt hj]
noncomputable def xtLg {α : Type} (l : List α) (k : Nat) (t : XT α 7) : XT α 7 := @List.rec α (fun _ => Nat → XT α 7 → XT α 7) (fun _ t => t) (fun q _ ih k t => ih (k + 1) (xtset 7 t k q)) l k t
theorem xtLg_get {α : Type} : ∀ (l : List α) (k : Nat) (t : XT α 7) (i : Nat), k + l.length ≤ 128 → i < 128 → xtget 7 (xtLg l k t) i = if k ≤ i ∧ i < k + l.length then l[i - k]? else xtget 7 t i
  | [], k, t, i, _, _ => by
    rw [if_neg (fun z => by have h1 := z.1; have h2 := z.2; simp only [List.length_nil] at h2; omega)]; rfl
  | q :: l, k, t, i, hk, hi => by
    have e : xtLg (q :: l) k t = xtLg l (k + 1) (xtset 7 t k q) := rfl
    simp only [List.length_cons] at hk ⊢
    rw [e, xtLg_get l (k + 1) _ i (by omega) hi, xtget_lt t (by omega : i < 2 ^ 7) (by omega : k < 2 ^ 7)]
    by_cases h1 : k + 1 ≤ i ∧ i < k + 1 + l.length
    · rw [if_pos h1, if_pos (by omega)]
      obtain ⟨j, hj⟩ : ∃ j, i - k = j + 1 := ⟨i - k - 1, by omega⟩
      rw [hj, show i - (k + 1) = j by omega]; rfl
    · rw [if_neg h1]
      by_cases h2 : i = k
      · rw [if_pos h2, if_pos (by omega), h2, Nat.sub_self]; rfl
      · rw [if_neg h2, if_neg (by omega)]
theorem xtL_get {α : Type} {l : List α} (hl : l.length ≤ 128) {i : Nat} (hi : i < 128) : xtget 7 (xtL l) i = l[i]? := by
  have e : xtL l = xtLg l 0 (xtz 7) := rfl
  rw [e, xtLg_get l 0 _ i (by omega) hi, xtget_z]
  by_cases h : i < l.length
  · rw [if_pos (by omega)]; rfl
  · rw [if_neg (by omega), List.getElem?_eq_none (by omega)]
def xir (σ : Nat → Int32) (n : Int32) : XI → Prop
  | .inl c => n = c
  | .inr (.inl k) => n = σ k
  | .inr (.inr r) => r.1 ≤ n.toInt ∧ n.toInt ≤ r.2
def xLr (σ : Nat → Int32) (c : Int64) : XL → Prop
  | none => True
  | some (.inl d) => c = d
  | some (.inr k) => c = (σ k).toInt64
def xrr (b : Nat) (ads : List Nat) (v : Value) : Nat → Prop
  | 0 => v = .null
  | 1 => ∃ a, v = .ref a
  | 2 => v = .ref b
  | k + 3 => ∃ a, v = .ref a ∧ ads[k]? = some a
def xvr (σ : Nat → Int32) (b : Nat) (ads : List Nat) (v : Value) : XV → Prop
  | .inl x => ∃ n, v = .int n ∧ xir σ n x
  | .inr (.inl o) => ∃ c, v = .long c ∧ xLr σ c o
  | .inr (.inr k) => xrr b ads v k
def xsr (σ : Nat → Int32) (b : Nat) (ads : List Nat) : List Value → List XV → Prop
  | [], [] => True
  | v :: vs, x :: xs => xvr σ b ads v x ∧ xsr σ b ads vs xs
  | [], _ :: _ => False
  | _ :: _, [] => False
def xlr (σ : Nat → Int32) (b : Nat) (ads : List Nat) (lv : List (Nat × Value)) (xl : List (Nat × XV)) : Prop := ∀ i x, (i, x) ∈ xl → ∃ v, (i, v) ∈ lv ∧ xvr σ b ads v x
def xer (σ : Nat → Int32) (E : XE) : Prop := (∀ (k : Nat) (r : Int × Int), E[k]? = some r → r.1 ≤ (σ k).toInt ∧ (σ k).toInt ≤ r.2) ∧ σ 6 = σ 0 &&& 63
def xads (ws : va_W) : List Nat := ws.map (fun q => q.1)
/-- an object's fields -/
def xor (σ : Nat → Int32) (b : Nat) (ads : List Nat) (ci : Nat) (fs : List Value) (t : XT XV 7) : Prop := fs.length = (xt ci).length ∧ ∀ (k : Nat) (v : Value), k < 128 → fs[k]? = some v → ∃ x, xtget 7 t k = some x ∧ xvr σ b ads v x
def xcr (σ : Nat → Int32) (b : Nat) (ads : List Nat) (Z : AmZ) (e : va_E) : XC → Prop
  | .inr (ci, t) => ∃ fs, e = .inr (ci, fs) ∧ xor σ b ads ci fs t
  | .inl (0, n, d, t) => ∃ f : Nat → Int32, e = .inl (Z.1, n, .inl f) ∧ n ≤ xcap t ∧ ∀ j, j < n → xvr σ b ads (.int (f j)) (xget d t j)
  | .inl (1, n, d, t) => ∃ f : Nat → Int64, e = .inl (Z.2.1, n, .inr (.inl f)) ∧ n ≤ xcap t ∧ ∀ j, j < n → xvr σ b ads (.long (f j)) (xget d t j)
  | .inl (2, n, d, t) => ∃ f : Nat → Int32, e = .inl (Z.2.2.1, n, .inl f) ∧ n ≤ xcap t ∧ ∀ j, j < n → xvr σ b ads (.int (f j)) (xget d t j)
  | .inl (3, n, d, t) => ∃ f : Nat → Int32, e = .inl (Z.2.2.2.1, n, .inl f) ∧ n ≤ xcap t ∧ ∀ j, j < n → xvr σ b ads (.int (f j)) (xget d t j)
  | .inl (_ + 4, _, _, _) => False
def xhr (σ : Nat → Int32) (b : Nat) (Z : AmZ) (ws : va_W) (h : XHp) : Prop := ws.length = h.1 ∧ h.1 ≤ 1024 ∧ ∀ (k a : Nat) (e : va_E), ws[k]? = some (a, e) → ∃ c, xhg h k = some c ∧ xcr σ b (xads ws) Z e c
/-- the script's ints and its length -/
def XX (L : Nat) (xs σ : Nat → Int32) : Prop := (∀ j, j < 6 → xs j = σ j) ∧ L ≤ 384 ∧ σ 7 = Int32.ofNat L
theorem xlen7 {L : Nat} {xs σ : Nat → Int32} (h : XX L xs σ) : (σ 7).toInt = (L : Int) := by
  obtain ⟨-, h1, h2⟩ := h
  rw [h2]
  exact Int32.toInt_ofNat_of_lt (by omega)
theorem xofL {L : Nat} {xs σ : Nat → Int32} (h : XX L xs σ) : Int32.ofNat L = Int32.ofInt (L : Int) := by
  first | exact Int32.ofInt_eq_ofNat.symm | exact Int32.toBitVec_inj.mp (by simp) | exact congrArg Int32.ofBitVec (BitVec.ofInt_natCast 32 L).symm
/-- a frame that waits: method, pc, locals, stack, cells and slots left, fuel, 1: the open call may not throw -/
abbrev XG : Type := Nat × Nat × List (Nat × Value) × List Value × Nat × Nat × Nat × Nat
noncomputable def xHof (m : Nat) (X : AmX) : AmH := match xk m with
  | 0 => fun _ _ _ _ _ => X
  | 1 => am_hx (xcls (xo m)) (xh m)
  | _ => fun _ _ _ _ _ _ _ => False
noncomputable def XRun (L : Nat) (Z : AmZ) (b : Nat) (xs : Nat → Int32) (m r : Nat) (ret : AmR) (X : AmX) (n : Nat) : AmK := am_run Z (if m = 0 then some (b, L, xs) else none) (xcls (xo m)) (xc m) (xn m) (xr m) (xin m) (am_wp Z am_leaf (1300 - r)) (if m = 0 then am_wpW Z am_leaf 1300 else am_no) (xHof m X) ret n
noncomputable def xCC (L : Nat) (Z : AmZ) (b : Nat) (xs : Nat → Int32) : List XG → AmR × AmX
  | [] => (fun v _ => v = some (.int 1), fun _ _ => False)
  | (m, pc, lv, vs, C, S, nf, f) :: cs => (fun v u => XRun L Z b xs m cs.length (xCC L Z b xs cs).1 (xCC L Z b xs cs).2 nf (pc + 3) lv (v.toList ++ vs) u C S, fun E u => f = 0 ∧ xHof m (xCC L Z b xs cs).2 (XRun L Z b xs m cs.length (xCC L Z b xs cs).1 (xCC L Z b xs cs).2 nf) pc lv C S E u)
noncomputable def XR (L : Nat) (Z : AmZ) (b : Nat) (xs : Nat → Int32) (m : Nat) (cfs : List XG) (n : Nat) : AmK := XRun L Z b xs m cfs.length (xCC L Z b xs cfs).1 (xCC L Z b xs cfs).2 n
def xfr (σ : Nat → Int32) (b : Nat) (ads : List Nat) (n : Nat) : List XG → List XF → Prop
  | [], [] => True
  | (m, pc, lv, vs, C, S, nf, f) :: cs, (m2, pc2, l, st, C2, S2, f2) :: fs => m = m2 ∧ pc = pc2 ∧ C = C2 ∧ S = S2 ∧ f = f2 ∧ n ≤ nf ∧ xlr σ b ads lv l ∧ xsr σ b ads vs st ∧ xfr σ b ads n cs fs
  | [], _ :: _ => False
  | _ :: _, [] => False
def XGood (n : Nat) : XS → Prop
  | ([], _, _) => True
  | ((m, pc, l, st, C, S, _) :: fs, h, E) => ∀ (L : Nat) (Z : AmZ) (σ : Nat → Int32) (b : Nat) (xs : Nat → Int32) (ws : va_W) (lv : List (Nat × Value)) (vs : List Value) (cfs : List XG), XX L xs σ → xer σ E → xhr σ b Z ws h → xlr σ b (xads ws) lv l → xsr σ b (xads ws) vs st → xfr σ b (xads ws) n cfs fs → XR L Z b xs m cfs n pc lv vs ws C S
theorem xg {n m pc : Nat} {l : List (Nat × XV)} {st : List XV} {C S f : Nat} {fs : List XF} {h : XHp} {E : XE} (G : XGood n ((m, pc, l, st, C, S, f) :: fs, h, E)) {L : Nat} {Z : AmZ} {σ : Nat → Int32} {b : Nat} {xs : Nat → Int32} {ws : va_W} {lv : List (Nat × Value)} {vs : List Value} {cfs : List XG} (hxs : XX L xs σ) (hE : xer σ E) (hH : xhr σ b Z ws h) (hl : xlr σ b (xads ws) lv l) (hs : xsr σ b (xads ws) vs st) (hf : xfr σ b (xads ws) n cfs fs) : XR L Z b xs m cfs n pc lv vs ws C S := G L Z σ b xs ws lv vs cfs hxs hE hH hl hs hf
theorem xoc_w {h : XHp} {a : Nat} {q : Nat × XT XV 7} (hx : xoc h a = some q) : xhg h a = some (.inr q) := by
  unfold xoc at hx
  generalize xhg h a = o at hx
  cases o with
  | none => cases hx
  | some c =>
    cases c with
    | inl x => cases hx
    | inr q2 => exact congrArg (fun z => some (Sum.inr z)) (Option.some.inj hx)
theorem xac_w {h : XHp} {a : Nat} {q : Nat × Nat × XV × XA} (hx : xac h a = some q) : xhg h a = some (.inl q) := by
  unfold xac at hx
  generalize xhg h a = o at hx
  cases o with
  | none => cases hx
  | some c =>
    cases c with
    | inr x => cases hx
    | inl q2 => exact congrArg (fun z => some (Sum.inl z)) (Option.some.inj hx)
-- ---- the values
theorem xcond {α : Type} {c : Bool} {x : Option α} {y : α} (h : cond c x none = some y) : c = true ∧ x = some y := by
  cases c
  · cases h
  · exact ⟨rfl, h⟩
theorem xcondn {α : Type} {c : Bool} {x : Option α} {y : α} (h : cond c none x = some y) : c = false ∧ x = some y := by
  cases c
  · exact ⟨rfl, h⟩
  · cases h
theorem xlook_mem {α : Type} {k : Nat} {l : List (Nat × α)} {v : α} (h : xlook k l = some v) : (k, v) ∈ l := by
  induction l with
  | nil => cases h
  | cons q l ih =>
    have h : cond (Nat.beq q.1 k) (some q.2) (xlook k l) = some v := h
    cases hb : Nat.beq q.1 k with
    | true =>
      rw [hb] at h
      have e1 := Nat.eq_of_beq_eq_true hb
      have e2 : q.2 = v := Option.some.inj h
      rw [← e1, ← e2]
      exact List.mem_cons_self
    | false =>
      rw [hb] at h
      exact List.mem_cons_of_mem _ (ih h)
theorem xfil_mem {p : Nat × XV → Bool} {l : List (Nat × XV)} {q : Nat × XV} (h : q ∈ xfil p l) : q ∈ l ∧ p q = true := by
  induction l with
  | nil => cases h
  | cons r l ih =>
    have h : q ∈ cond (p r) (r :: xfil p l) (xfil p l) := h
    cases hb : p r with
    | true =>
      rw [hb] at h
      rcases List.mem_cons.mp h with rfl | h
      · exact ⟨List.mem_cons_self, hb⟩
      · exact ⟨List.mem_cons_of_mem _ (ih h).1, (ih h).2⟩
    | false =>
      rw [hb] at h
      exact ⟨List.mem_cons_of_mem _ (ih h).1, (ih h).2⟩
theorem xbeq (a c : Nat) : Nat.beq a c = (a == c) := by
  cases h : Nat.beq a c with
  | true => exact (beq_iff_eq.mpr (Nat.eq_of_beq_eq_true h)).symm
  | false => exact (beq_eq_false_iff_ne.mpr (Nat.ne_of_beq_eq_false h)).symm
theorem xir_top (σ : Nat → Int32) (n : Int32) : xir σ n xtop := by
  have h1 := Int32.le_toInt n
  have h2 := Int32.toInt_lt n
  exact ⟨by simp only; omega, by simp only; omega⟩
section XV
variable {σ : Nat → Int32} {b : Nat} {ads : List Nat} {E : XE}
theorem xir_add {n k : Int32} : ∀ {x y : XI}, xir σ n x → xir σ k y → xir σ (n + k) (xadd x y)
  | .inl x, .inl y, hx, hy => by
    have hx : n = x := hx
    have hy : k = y := hy
    rw [hx, hy]; exact (rfl : x + y = x + y)
  | .inl x, .inr y, hx, hy => by
    have hx : n = x := hx
    show xir σ (n + k) (if x = 0 then .inr y else xtop)
    split
    · rename_i h0
      rw [hx, h0, Int32.zero_add]; exact hy
    · exact xir_top _ _
  | .inr x, .inl y, hx, hy => by
    have hy : k = y := hy
    show xir σ (n + k) (if y = 0 then .inr x else xtop)
    split
    · rename_i h0
      rw [hy, h0, Int32.add_zero]; exact hx
    · exact xir_top _ _
  | .inr _, .inr _, _, _ => xir_top _ _
theorem xir_bin {f : Int32 → Int32 → Int32} {n k : Int32} : ∀ {x y : XI}, xir σ n x → xir σ k y → xir σ (f n k) (xbin f x y)
  | .inl x, .inl y, hx, hy => by
    have hx : n = x := hx
    have hy : k = y := hy
    rw [hx, hy]; exact (rfl : f x y = f x y)
  | .inl _, .inr _, _, _ => xir_top _ _
  | .inr _, .inl _, _, _ => xir_top _ _
  | .inr _, .inr _, _, _ => xir_top _ _
theorem xir_and {n k : Int32} (hE : xer σ E) : ∀ {x y : XI}, xir σ n x → xir σ k y → xir σ (n &&& k) (xand x y)
  | .inl x, .inl y, hx, hy => by
    have hx : n = x := hx
    have hy : k = y := hy
    rw [hx, hy]; exact (rfl : x &&& y = x &&& y)
  | .inr (.inl 0), .inl y, hx, hy => by
    have hx : n = σ 0 := hx
    have hy : k = y := hy
    show xir σ (n &&& k) (if y = 63 then .inr (.inl 6) else xtop)
    split
    · rename_i h0
      rw [hx, hy, h0]; exact hE.2.symm
    · exact xir_top _ _
  | .inl _, .inr _, _, _ => xir_top _ _
  | .inr (.inl (_ + 1)), .inl _, _, _ => xir_top _ _
  | .inr (.inr _), .inl _, _, _ => xir_top _ _
  | .inr _, .inr _, _, _ => by
    unfold xand
    split <;> first | exact xir_top _ _ | (rename_i h1 h2; cases h2) | (rename_i h1; cases h1)
theorem xir_un {f : Int32 → Int32} {n : Int32} : ∀ {x : XI}, xir σ n x → xir σ (f n) (xun f x)
  | .inl x, hx => by
    have hx : n = x := hx
    rw [hx]; exact (rfl : f x = f x)
  | .inr _, _ => xir_top _ _
theorem xLr_bin {f : Int64 → Int64 → Int64} {c d : Int64} : ∀ {x y : XL}, xLr σ c x → xLr σ d y → xLr σ (f c d) (xbinL f x y)
  | some (.inl x), some (.inl y), hx, hy => by
    have hx : c = x := hx
    have hy : d = y := hy
    rw [hx, hy]; exact (rfl : f x y = f x y)
  | none, _, _, _ => trivial
  | some (.inr _), _, _, _ => trivial
  | some (.inl _), none, _, _ => trivial
  | some (.inl _), some (.inr _), _, _ => trivial
theorem xLr_sh {f : Int64 → Int32 → Int64} {c : Int64} {k : Int32} : ∀ {x : XL} {y : XI}, xLr σ c x → xir σ k y → xLr σ (f c k) (xshL f x y)
  | some (.inl x), .inl y, hx, hy => by
    have hx : c = x := hx
    have hy : k = y := hy
    rw [hx, hy]; exact (rfl : f x y = f x y)
  | none, _, _, _ => trivial
  | some (.inr _), _, _, _ => trivial
  | some (.inl _), .inr _, _, _ => trivial
theorem xLr_un {f : Int64 → Int64} {c : Int64} : ∀ {x : XL}, xLr σ c x → xLr σ (f c) (xunL f x)
  | some (.inl x), hx => by
    have hx : c = x := hx
    rw [hx]; exact (rfl : f x = f x)
  | some (.inr _), _ => trivial
  | none, _ => trivial
theorem xLr_i2l {n : Int32} : ∀ {x : XI}, xir σ n x → xLr σ n.toInt64 (xi2l x)
  | .inl x, hx => by
    have hx : n = x := hx
    rw [hx]; exact (rfl : x.toInt64 = x.toInt64)
  | .inr (.inl k), hx => by
    have hx : n = σ k := hx
    rw [hx]; exact (rfl : (σ k).toInt64 = (σ k).toInt64)
  | .inr (.inr _), _ => trivial
theorem xir_l2i {c : Int64} : ∀ {x : XL}, xLr σ c x → xir σ c.toInt32 (xl2i x)
  | some (.inl x), hx => by
    have hx : c = x := hx
    rw [hx]; exact (rfl : x.toInt32 = x.toInt32)
  | some (.inr k), hx => by
    have hx : c = (σ k).toInt64 := hx
    show c.toInt32 = σ k
    rw [hx, Int32.toInt32_toInt64]
  | none, _ => xir_top _ _
theorem xir_i2c {n : Int32} : ∀ {x : XI}, xir σ n x → xir σ (n.toUInt32 % 65536).toInt32 (xi2c x)
  | .inl x, hx => by
    have hx : n = x := hx
    rw [hx]; exact (rfl : (x.toUInt32 % 65536).toInt32 = (x.toUInt32 % 65536).toInt32)
  | .inr _, _ => xir_top _ _
theorem xir_nar0 {n : Int32} {x : XI} (h : xir σ n x) : xir σ n (xnar E 0 x) := h
theorem xir_nar2 {n : Int32} : ∀ {x : XI}, xir σ n x → xir σ (vp_nar .char n) (xnar E 2 x)
  | .inl x, hx => by
    have hx : n = x := hx
    rw [hx]; exact (rfl : vp_nar .char x = vp_nar .char x)
  | .inr _, _ => xir_top _ _
theorem xir_nar3 {n : Int32} : ∀ {x : XI}, xir σ n x → xir σ (vp_nar .boolean n) (xnar E 3 x)
  | .inl x, hx => by
    have hx : n = x := hx
    rw [hx]; exact (rfl : vp_nar .boolean x = vp_nar .boolean x)
  | .inr _, _ => xir_top _ _
theorem xvr_i {v : Value} {x : XI} (h : xvr σ b ads v (.inl x)) : ∃ n, v = .int n ∧ xvr σ b ads (.int n) (.inl x) := by
  obtain ⟨n, rfl, h⟩ := h
  exact ⟨n, rfl, n, rfl, h⟩
theorem xvr_l {v : Value} {x : XL} (h : xvr σ b ads v (.inr (.inl x))) : ∃ n, v = .long n ∧ xvr σ b ads (.long n) (.inr (.inl x)) := by
  obtain ⟨n, rfl, h⟩ := h
  exact ⟨n, rfl, n, rfl, h⟩
theorem xvr_a {v : Value} {k : Nat} (h : xvr σ b ads v (.inr (.inr (k + 1)))) : ∃ a, v = .ref a ∧ xvr σ b ads (.ref a) (.inr (.inr (k + 1))) := by
  match k, h with
  | 0, ⟨a, h⟩ => exact ⟨a, h, a, rfl⟩
  | 1, h => exact ⟨b, h, rfl⟩
  | k + 2, ⟨a, h1, h2⟩ => exact ⟨a, h1, a, rfl, h2⟩
theorem xvr_cat {v : Value} : ∀ {x : XV}, xvr σ b ads v x → v.category = cond (xlong x) 2 1
  | .inl _, ⟨_, h, _⟩ => by rw [h]; rfl
  | .inr (.inl _), ⟨_, h, _⟩ => by rw [h]; rfl
  | .inr (.inr 0), h => by rw [(h : v = .null)]; rfl
  | .inr (.inr 1), ⟨_, h⟩ => by rw [h]; rfl
  | .inr (.inr 2), h => by rw [(h : v = .ref b)]; rfl
  | .inr (.inr (_ + 3)), ⟨_, h, _⟩ => by rw [h]; rfl
theorem xvr_c1 {v : Value} {x : XV} (h : xvr σ b ads v x) (hb : xlong x = false) : v.category = 1 := by rw [xvr_cat h, hb]; rfl
theorem xvr_c2 {v : Value} {x : XV} (h : xvr σ b ads v x) (hb : xlong x = true) : v.category = 2 := by rw [xvr_cat h, hb]; rfl
theorem xsr_c {vs : List Value} {x : XV} {r : List XV} (h : xsr σ b ads vs (x :: r)) : ∃ v vr, vs = v :: vr ∧ xvr σ b ads v x ∧ xsr σ b ads vr r := by
  cases vs with
  | nil => exact h.elim
  | cons v vr => exact ⟨v, vr, rfl, h.1, h.2⟩
theorem xsr_i {vs : List Value} {x : XI} {r : List XV} (h : xsr σ b ads vs (.inl x :: r)) : ∃ n vr, vs = .int n :: vr ∧ xir σ n x ∧ xsr σ b ads vr r := by
  obtain ⟨v, vr, rfl, ⟨n, rfl, h1⟩, h2⟩ := xsr_c h
  exact ⟨n, vr, rfl, h1, h2⟩
theorem xsr_l {vs : List Value} {x : XL} {r : List XV} (h : xsr σ b ads vs (.inr (.inl x) :: r)) : ∃ n vr, vs = .long n :: vr ∧ xLr σ n x ∧ xsr σ b ads vr r := by
  obtain ⟨v, vr, rfl, ⟨n, rfl, h1⟩, h2⟩ := xsr_c h
  exact ⟨n, vr, rfl, h1, h2⟩
theorem xsr_n {vs : List Value} (h : xsr σ b ads vs []) : vs = [] := by
  cases vs with
  | nil => rfl
  | cons v vr => exact h.elim
theorem xsr_len {vs : List Value} {st : List XV} (h : xsr σ b ads vs st) : vs.length = st.length := by
  induction st generalizing vs with
  | nil => rw [xsr_n h]; rfl
  | cons x r ih =>
    obtain ⟨v, vr, rfl, -, h2⟩ := xsr_c h
    simp [ih h2]
theorem xsr_get {vs : List Value} {st : List XV} (h : xsr σ b ads vs st) {k : Nat} {x : XV} (hx : st[k]? = some x) : ∃ v, vs[k]? = some v ∧ xvr σ b ads v x := by
  induction st generalizing vs k with
  | nil => simp at hx
  | cons y r ih =>
    obtain ⟨v, vr, rfl, h1, h2⟩ := xsr_c h
    cases k with
    | zero => cases hx; exact ⟨v, rfl, h1⟩
    | succ k => exact ih h2 hx
theorem xsr_set {vs : List Value} {st : List XV} (h : xsr σ b ads vs st) (k : Nat) {v : Value} {x : XV} (hv : xvr σ b ads v x) : xsr σ b ads (vs.set k v) (st.set k x) := by
  induction st generalizing vs k with
  | nil => rw [xsr_n h]; exact trivial
  | cons y r ih =>
    obtain ⟨w, vr, rfl, h1, h2⟩ := xsr_c h
    cases k with
    | zero => exact ⟨hv, h2⟩
    | succ k => exact ⟨h1, ih h2 k⟩
theorem xsr_append {vs ws : List Value} {st tt : List XV} (h : xsr σ b ads vs st) (h2 : xsr σ b ads ws tt) : xsr σ b ads (vs ++ ws) (st ++ tt) := by
  induction st generalizing vs with
  | nil => rw [xsr_n h]; exact h2
  | cons y r ih =>
    obtain ⟨w, vr, rfl, h1, h3⟩ := xsr_c h
    exact ⟨h1, ih h3⟩
theorem xsr_rev {vs : List Value} {st : List XV} (h : xsr σ b ads vs st) : xsr σ b ads vs.reverse st.reverse := by
  induction st generalizing vs with
  | nil => rw [xsr_n h]; exact trivial
  | cons y r ih =>
    obtain ⟨w, vr, rfl, h1, h3⟩ := xsr_c h
    rw [List.reverse_cons, List.reverse_cons]
    exact xsr_append (ih h3) ⟨h1, trivial⟩
theorem xsr_take {vs : List Value} {st : List XV} (h : xsr σ b ads vs st) (n : Nat) : xsr σ b ads (vs.take n) (st.take n) ∧ xsr σ b ads (vs.drop n) (st.drop n) := by
  induction st generalizing vs n with
  | nil => rw [xsr_n h]; cases n <;> exact ⟨trivial, trivial⟩
  | cons y r ih =>
    obtain ⟨w, vr, rfl, h1, h3⟩ := xsr_c h
    cases n with
    | zero => exact ⟨trivial, h1, h3⟩
    | succ n => exact ⟨⟨h1, (ih h3 n).1⟩, (ih h3 n).2⟩
theorem xsr_cat {vs : List Value} {st : List XV} (h : xsr σ b ads vs st) : (vs.map fun v => v.category).sum = xcat st := by
  induction st generalizing vs with
  | nil => rw [xsr_n h]; rfl
  | cons y r ih =>
    obtain ⟨w, vr, rfl, h1, h3⟩ := xsr_c h
    have e := ih h3
    simp only [List.map_cons, List.sum_cons, xvr_cat h1, e]
    show _ = cond (xlong y) (xcat r + 2) (xcat r + 1)
    cases xlong y <;> simp only [cond] <;> omega
theorem xsr_sl {vs : List Value} {st : List XV} (h : xsr σ b ads vs st) : (lg_sl vs).length = xcat st := by
  induction st generalizing vs with
  | nil => rw [xsr_n h]; rfl
  | cons y r ih =>
    obtain ⟨w, vr, rfl, h1, h3⟩ := xsr_c h
    have e := ih h3
    show _ = cond (xlong y) (xcat r + 2) (xcat r + 1)
    simp only [lg_sl, List.flatMap_cons, List.length_append] at e ⊢
    rw [e, xvr_cat h1]
    cases xlong y <;> simp <;> omega
theorem xlr_args {vs : List Value} {st : List XV} (h : xsr σ b ads vs st) : ∀ i, xlr σ b ads (lv_args i vs) (xargs i st) := by
  induction st generalizing vs with
  | nil => intro i j x hm; cases hm
  | cons y r ih =>
    obtain ⟨w, vr, rfl, h1, h3⟩ := xsr_c h
    intro i j x hm
    have e : (if w.category = 2 then i + 2 else i + 1) = cond (xlong y) (i + 2) (i + 1) := by
      rw [xvr_cat h1]
      cases xlong y <;> rfl
    have hm : (j, x) ∈ (i, y) :: xargs (cond (xlong y) (i + 2) (i + 1)) r := hm
    rcases List.mem_cons.mp hm with hm | hm
    · cases hm
      exact ⟨w, List.mem_cons_self, h1⟩
    · obtain ⟨v, hv, hr⟩ := ih h3 _ j x hm
      refine ⟨v, List.mem_cons_of_mem _ ?_, hr⟩
      rw [e]; exact hv
theorem xlr_xs1 {lv : List (Nat × Value)} {l : List (Nat × XV)} {i : Nat} {v : Value} {x : XV} (h : xlr σ b ads lv l) (hv : xvr σ b ads v x) : xlr σ b ads (am_s1 i v lv) (xs1 i x l) := by
  intro j y hm
  rcases List.mem_cons.mp hm with hm | hm
  · cases hm
    exact ⟨v, List.mem_cons_self, hv⟩
  · obtain ⟨hm1, hp⟩ := xfil_mem hm
    obtain ⟨w, hw, hr⟩ := h j y hm1
    refine ⟨w, List.mem_cons_of_mem _ (List.mem_filter.mpr ⟨hw, ?_⟩), hr⟩
    have hcat := xvr_cat hr
    simp only [Bool.and_eq_true, Bool.not_eq_true', xbeq] at hp
    have e : (w.category == 2) = xlong y := by rw [hcat]; cases xlong y <;> rfl
    simp only [Bool.and_eq_true, Bool.not_eq_true', e]
    exact hp
theorem xlr_xs2 {lv : List (Nat × Value)} {l : List (Nat × XV)} {i : Nat} {v : Value} {x : XV} (h : xlr σ b ads lv l) (hv : xvr σ b ads v x) : xlr σ b ads (am_s2 i v lv) (xs2 i x l) := by
  intro j y hm
  rcases List.mem_cons.mp hm with hm | hm
  · cases hm
    exact ⟨v, List.mem_cons_self, hv⟩
  · obtain ⟨hm1, hp⟩ := xfil_mem hm
    obtain ⟨w, hw, hr⟩ := h j y hm1
    refine ⟨w, List.mem_cons_of_mem _ (List.mem_filter.mpr ⟨hw, ?_⟩), hr⟩
    have hcat := xvr_cat hr
    simp only [Bool.and_eq_true, Bool.not_eq_true', xbeq] at hp
    have e : (w.category == 2) = xlong y := by rw [hcat]; cases xlong y <;> rfl
    simp only [Bool.and_eq_true, Bool.not_eq_true', e]
    exact hp
/-- more cells: what was known stays -/
theorem xvr_app {v : Value} (q : Nat) : ∀ {x : XV}, xvr σ b ads v x → xvr σ b (ads ++ [q]) v x
  | .inl _, h => h
  | .inr (.inl _), h => h
  | .inr (.inr 0), h => h
  | .inr (.inr 1), h => h
  | .inr (.inr 2), h => h
  | .inr (.inr (k + 3)), ⟨a, h1, h2⟩ => ⟨a, h1, by rw [List.getElem?_append_left (List.getElem?_eq_some_iff.mp h2).1]; exact h2⟩
theorem xsr_app {vs : List Value} {st : List XV} (q : Nat) (h : xsr σ b ads vs st) : xsr σ b (ads ++ [q]) vs st := by
  induction st generalizing vs with
  | nil => rw [xsr_n h]; exact trivial
  | cons y r ih =>
    obtain ⟨w, vr, rfl, h1, h3⟩ := xsr_c h
    exact ⟨xvr_app q h1, ih h3⟩
theorem xlr_app {lv : List (Nat × Value)} {l : List (Nat × XV)} (q : Nat) (h : xlr σ b ads lv l) : xlr σ b (ads ++ [q]) lv l := fun i x hm => by
  obtain ⟨v, h1, h2⟩ := h i x hm
  exact ⟨v, h1, xvr_app q h2⟩
theorem xfr_app {n : Nat} (q : Nat) : ∀ {cs : List XG} {fs : List XF}, xfr σ b ads n cs fs → xfr σ b (ads ++ [q]) n cs fs
  | [], [], _ => trivial
  | (_, _, _, _, _, _, _, _) :: _, (_, _, _, _, _, _, _) :: _, ⟨h1, h2, h3, h4, h5, h6, h7, h8, h9⟩ => ⟨h1, h2, h3, h4, h5, h6, xlr_app q h7, xsr_app q h8, xfr_app q h9⟩
theorem xfr_le {n n' : Nat} (hn : n' ≤ n) : ∀ {cs : List XG} {fs : List XF}, xfr σ b ads n cs fs → xfr σ b ads n' cs fs
  | [], [], _ => trivial
  | (_, _, _, _, _, _, _, _) :: _, (_, _, _, _, _, _, _) :: _, ⟨h1, h2, h3, h4, h5, h6, h7, h8, h9⟩ => ⟨h1, h2, h3, h4, h5, Nat.le_trans hn h6, h7, h8, xfr_le hn h9⟩
theorem xfr_len {n : Nat} : ∀ {cs : List XG} {fs : List XF}, xfr σ b ads n cs fs → cs.length = fs.length
  | [], [], _ => rfl
  | (_, _, _, _, _, _, _, _) :: _, (_, _, _, _, _, _, _) :: _, ⟨_, _, _, _, _, _, _, _, h9⟩ => by simp [xfr_len h9]
theorem xcr_app {Z : AmZ} {e : va_E} (q : Nat) : ∀ {c : XC}, xcr σ b ads Z e c → xcr σ b (ads ++ [q]) Z e c
  | .inr (_, _), ⟨fs, h1, h2, h3⟩ => ⟨fs, h1, h2, fun k v hk hv => by
    obtain ⟨x, h4, h5⟩ := h3 k v hk hv
    exact ⟨x, h4, xvr_app q h5⟩⟩
  | .inl (0, _, _, _), ⟨f, h1, hc, h2⟩ => ⟨f, h1, hc, fun j hj => xvr_app q (h2 j hj)⟩
  | .inl (1, _, _, _), ⟨f, h1, hc, h2⟩ => ⟨f, h1, hc, fun j hj => xvr_app q (h2 j hj)⟩
  | .inl (2, _, _, _), ⟨f, h1, hc, h2⟩ => ⟨f, h1, hc, fun j hj => xvr_app q (h2 j hj)⟩
  | .inl (3, _, _, _), ⟨f, h1, hc, h2⟩ => ⟨f, h1, hc, fun j hj => xvr_app q (h2 j hj)⟩
  | .inl (_ + 4, _, _, _), h => h.elim
end XV
theorem xads_eq {ws : va_W} {k a : Nat} {e e2 : va_E} (he : ws[k]? = some (a, e)) : xads (ws.set k (a, e2)) = xads ws := by
  unfold xads
  rw [List.map_set]
  apply List.ext_getElem?
  intro i
  rw [List.getElem?_set]
  split
  · rename_i hik
    subst hik
    rw [List.length_map, List.getElem?_map, he]
    have hlt : k < ws.length := (List.getElem?_eq_some_iff.mp he).1
    simp [hlt]
  · rfl
theorem xads_push (ws : va_W) (q : Nat) (e : va_E) : xads (ws ++ [(q, e)]) = xads ws ++ [q] := by simp [xads]
theorem xads_at {ws : va_W} {k a : Nat} (h : (xads ws)[k]? = some a) : ∃ e, ws[k]? = some (a, e) := by
  unfold xads at h
  rw [List.getElem?_map] at h
  cases hk : ws[k]? with
  | none => rw [hk] at h; cases h
  | some q => rw [hk] at h; cases h; exact ⟨q.2, rfl⟩
