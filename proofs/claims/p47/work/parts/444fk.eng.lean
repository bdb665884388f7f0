/-! PROGRAMS RUN -/
def clp (v : Int) : Int := if 1000000000000 < v then 1000000000000 else if v < -1000000000000 then -1000000000000 else v
def BD (v : Int) : Prop := -1000000000000 ≤ v ∧ v ≤ 1000000000000
theorem clp_o (v : Int) : (1000000000000 < v → clp v = 1000000000000) ∧ (v < -1000000000000 → clp v = -1000000000000) ∧ (-1000000000000 ≤ v → v ≤ 1000000000000 → clp v = v) := by
  unfold clp
  refine ⟨fun h => if_pos h, fun h => by rw [if_neg (by omega), if_pos h], fun h1 h2 => by rw [if_neg (by omega), if_neg (by omega)]⟩
theorem clp_b (v : Int) : BD (clp v) := by
  have h := clp_o v
  unfold BD
  by_cases c1 : 1000000000000 < v
  · rw [h.1 c1]; omega
  · by_cases c2 : v < -1000000000000
    · rw [h.2.1 c2]; omega
    · rw [h.2.2 (by omega) (by omega)]; omega
theorem clp_i {v : Int} (h : BD v) : clp v = v := (clp_o v).2.2 h.1 h.2
theorem bd_n {v : Int} (h : BD v) : BD (-v) := by unfold BD at *; omega
theorem bd_i {x : Int32} : BD x.toInt := by
  have h := i_rng x
  unfold In at h
  unfold BD
  omega
theorem vu_at {f : Nat → Int64} {k : Nat} {x : Int64} : vp_updL f k x k = x := if_pos rfl
theorem vu_ne {f : Nat → Int64} {j k : Nat} {x : Int64} (h : j ≠ k) : vp_updL f k x j = f j := if_neg h
theorem sL_v {s : GS} {q j : Nat} {v : Int64} : (sL s q j v).2.1 q = vp_updL (s.2.1 q) j v := by simp [sL]
theorem ldq_v {x y z : Int64} (e : z = x / y) (h0 : 0 ≤ x.toInt) (hy : 0 < y.toInt) : z.toInt = x.toInt / y.toInt := by
  have b := (l_rng x).2
  have q := Int.ediv_le_self (a := x.toInt) y.toInt h0
  have q0 : 0 ≤ x.toInt / y.toInt := Int.ediv_nonneg h0 (by omega)
  rw [e, Int64.toInt_div, Int.tdiv_eq_ediv_of_nonneg h0]
  exact Int.bmod_eq_of_le (by omega) (by omega)
/-! a product within the bound -/
def ABS (x a : Int64) : Prop := (0 ≤ x.toInt ∧ a = x) ∨ (x.toInt < 0 ∧ a = -x)
theorem abs_v {x a : Int64} (h : ABS x a) (hb : BD x.toInt) : 0 ≤ a.toInt ∧ (a.toInt = x.toInt ∨ a.toInt = -x.toInt) := by
  unfold BD at hb
  rcases h with ⟨h0, rfl⟩ | ⟨h0, e⟩
  · exact ⟨h0, Or.inl rfl⟩
  · have t := lneg_t e (by omega) (by omega)
    exact ⟨by omega, Or.inr t⟩
theorem tms_p {a b A D : Int} (hA : A = a ∨ A = -a) (hD : D = b ∨ D = -b) : A * D = a * b ∨ A * D = -(a * b) := by
  rcases hA with rfl | rfl <;> rcases hD with rfl | rfl
  · exact Or.inl rfl
  · exact Or.inr (Int.mul_neg _ _)
  · exact Or.inr (Int.neg_mul _ _)
  · exact Or.inl (Int.neg_mul_neg _ _)
theorem tms_1 {a b A D q : Int} (hA : A = a ∨ A = -a) (hA0 : 0 < A) (hD : D = b ∨ D = -b) (hD0 : 0 ≤ D) (hq : q = 1000000000000 / A) (h : D ≤ q) : BD (a * b) := by
  have m : A * D ≤ A * q := Int.mul_le_mul_of_nonneg_left h (by omega)
  have k := Int.mul_ediv_self_le (x := 1000000000000) (k := A) (by omega)
  have p : 0 ≤ A * D := Int.mul_nonneg (by omega) hD0
  rw [← hq] at k
  unfold BD
  rcases tms_p hA hD with e | e <;> omega
theorem tms_2 {a b A D q : Int} (hA : A = a ∨ A = -a) (hA0 : 0 < A) (hD : D = b ∨ D = -b) (hq : q = 1000000000000 / A) (h : q < D) : 1000000000000 < A * D ∧ 0 < D := by
  have k := Int.lt_mul_ediv_self_add (x := 1000000000000) (k := A) hA0
  have q0 : 0 ≤ q := by rw [hq]; exact Int.ediv_nonneg (by decide) (by omega)
  have m : A * (q + 1) ≤ A * D := Int.mul_le_mul_of_nonneg_left (by omega) (by omega)
  rw [← hq] at k
  rw [Int.mul_add, Int.mul_one] at m
  exact ⟨by omega, by omega⟩
section TM
variable {x y z a b q : Int64}
theorem tm_0 (e : z = x * y) (h : x.toInt = 0) : z.toInt = clp (x.toInt * y.toInt) := by
  have hz : x.toInt * y.toInt = 0 := by rw [h, Int.zero_mul]
  rw [lmul_t e (by omega) (by omega), hz]
  rfl
theorem tm_q (ha : 0 < a.toInt) (hq : q = Int64.ofInt 1000000000000 / a) : q.toInt = 1000000000000 / a.toInt := by
  have h := ldq_v hq (by decide) ha
  exact h
theorem tm_1 (hx : BD x.toInt) (hy : BD y.toInt) (ha : ABS x a) (hb : ABS y b) (hn : x.toInt ≠ 0) (hq : q = Int64.ofInt 1000000000000 / a) (h : b.toInt ≤ q.toInt) (e : z = x * y) : z.toInt = clp (x.toInt * y.toInt) := by
  have va := abs_v ha hx
  have vb := abs_v hb hy
  have hp := tms_1 va.2 (by omega) vb.2 vb.1 (tm_q (by omega) hq) h
  rw [clp_i hp]
  unfold BD at hp
  exact lmul_t e (by omega) (by omega)
theorem tm_2 (hx : BD x.toInt) (hy : BD y.toInt) (ha : ABS x a) (hb : ABS y b) (hn : x.toInt ≠ 0) (hq : q = Int64.ofInt 1000000000000 / a) (h : q.toInt < b.toInt) (hs : 0 < x.toInt ↔ 0 < y.toInt) : (Int64.ofInt 1000000000000).toInt = clp (x.toInt * y.toInt) := by
  have va := abs_v ha hx
  have vb := abs_v hb hy
  have hp := tms_2 va.2 (by omega) vb.2 (tm_q (by omega) hq) h
  have h0 : 0 ≤ x.toInt * y.toInt := by
    by_cases c : 0 < x.toInt
    · exact Int.mul_nonneg (by omega) (by have := hs.mp c; omega)
    · have c2 : ¬ 0 < y.toInt := fun k => c (hs.mpr k)
      exact Int.mul_nonneg_of_nonpos_of_nonpos (by omega) (by omega)
  rw [(clp_o _).1 (by rcases tms_p va.2 vb.2 with e | e <;> omega)]
  rfl
theorem tm_3 (hx : BD x.toInt) (hy : BD y.toInt) (ha : ABS x a) (hb : ABS y b) (hn : x.toInt ≠ 0) (hq : q = Int64.ofInt 1000000000000 / a) (h : q.toInt < b.toInt) (hs : (0 < x.toInt ∧ y.toInt ≤ 0) ∨ (x.toInt ≤ 0 ∧ 0 < y.toInt)) : (Int64.ofInt (-1000000000000)).toInt = clp (x.toInt * y.toInt) := by
  have va := abs_v ha hx
  have vb := abs_v hb hy
  have hp := tms_2 va.2 (by omega) vb.2 (tm_q (by omega) hq) h
  have h0 : x.toInt * y.toInt ≤ 0 := by
    rcases hs with ⟨c, d⟩ | ⟨c, d⟩
    · have m := Int.mul_nonneg (a := x.toInt) (b := -y.toInt) (by omega) (by omega)
      rw [Int.mul_neg] at m
      omega
    · have m := Int.mul_nonneg (a := -x.toInt) (b := y.toInt) (by omega) (by omega)
      rw [Int.neg_mul] at m
      omega
  rw [(clp_o _).2.1 (by rcases tms_p va.2 vb.2 with e | e <;> omega)]
  rfl
end TM
def cmb (c a b : Int) : Int := if c = 43 then clp (a + b) else if c = 45 then clp (a - b) else if c = 42 then clp (a * b) else if c = 60 then (if a < b then 1 else 0) else (if a = b then 1 else 0)
section CMB
variable {c a b : Int}
theorem cmb_p (h : c = 43) : cmb c a b = clp (a + b) := if_pos h
theorem cmb_m (h : c = 45) : cmb c a b = clp (a - b) := by unfold cmb; rw [if_neg (by omega), if_pos h]
theorem cmb_t (h : c = 42) : cmb c a b = clp (a * b) := by unfold cmb; rw [if_neg (by omega), if_neg (by omega), if_pos h]
theorem cmb_l (h : c = 60) : cmb c a b = if a < b then 1 else 0 := by unfold cmb; rw [if_neg (by omega), if_neg (by omega), if_neg (by omega), if_pos h]
theorem cmb_e (h1 : c ≠ 42) (h2 : c ≠ 43) (h3 : c ≠ 45) (h4 : c ≠ 60) : cmb c a b = if a = b then 1 else 0 := by unfold cmb; rw [if_neg h2, if_neg h3, if_neg h1, if_neg h4]
theorem cmb_b : BD (cmb c a b) := by
  unfold cmb
  split
  · exact clp_b _
  · split
    · exact clp_b _
    · split
      · exact clp_b _
      · split <;> split <;> (unfold BD; omega)
end CMB
/-! a program in postfix is worked out -/
def evs (c : Int) (V : Nat → Int) (l : List Int) : List Int := if c < 1000000 then c :: l else if c < 1000100 then V (c - 1000000).toNat :: l else if c = 1000226 then (match l with | a :: r => -a :: r | [] => []) else (match l with | b :: a :: r => cmb (c - 1000100) a b :: r | r => r)
def evl (C V : Nat → Int) (i : Nat) : Nat → List Int
  | 0 => []
  | k + 1 => evs (C (i + k)) V (evl C V i k)
def bot : List Int → Int
  | [] => 0
  | [a] => a
  | _ :: b :: l => bot (b :: l)
def EVP (C V : Nat → Int) (a b : Nat) : Int := bot (evl C V a (b - a))
def STK (f : Nat → Int64) : List Int → Prop
  | [] => True
  | a :: l => (f l.length).toInt = a ∧ BD a ∧ STK f l
section EVS
variable {c : Int} {V : Nat → Int} {l : List Int}
theorem evs_n (h : c < 1000000) : evs c V l = c :: l := if_pos h
theorem evs_v (h1 : ¬ c < 1000000) (h2 : c < 1000100) : evs c V l = V (c - 1000000).toNat :: l := by unfold evs; rw [if_neg h1, if_pos h2]
theorem evs_m {a : Int} (h : c = 1000226) : evs c V (a :: l) = -a :: l := by unfold evs; rw [if_neg (by omega), if_neg (by omega), if_pos h]
theorem evs_b {a b : Int} (h1 : ¬ c < 1000100) (h2 : c ≠ 1000226) : evs c V (b :: a :: l) = cmb (c - 1000100) a b :: l := by unfold evs; rw [if_neg (by omega), if_neg h1, if_neg h2]
end EVS
theorem stk_cg {f g : Nat → Int64} : ∀ {l : List Int}, (∀ j, j < l.length → f j = g j) → STK f l → STK g l
  | [], _, _ => trivial
  | _ :: l, h, q => ⟨by rw [← h l.length (Nat.lt_succ_self _)]; exact q.1, q.2.1, stk_cg (fun j hj => h j (Nat.lt_succ_of_lt hj)) q.2.2⟩
theorem stk_p {f : Nat → Int64} {l : List Int} {k : Nat} {x : Int64} {a : Int} (h : STK f l) (hk : k = l.length) (hx : x.toInt = a) (hb : BD a) : STK (vp_updL f k x) (a :: l) := ⟨by rw [← hk, vu_at]; exact hx, hb, stk_cg (fun j hj => (vu_ne (by omega)).symm) h⟩
theorem stk_b : ∀ {l : List Int} {f : Nat → Int64}, STK f l → l ≠ [] → (f 0).toInt = bot l
  | [], _, _, h => absurd rfl h
  | [_], _, q, _ => q.1
  | _ :: b :: l, _, q, _ => stk_b (l := b :: l) q.2.2 (fun z => by cases z)
/-- what has been worked out before code i: k values lie on the pile -/
def EVI (C V : Nat → Int) (a i k : Int) (f : Nat → Int64) : Prop := STK f (evl C V a.toNat (i.toNat - a.toNat)) ∧ (evl C V a.toNat (i.toNat - a.toNat)).length = k.toNat ∧ (a < i → 1 ≤ k)
section EVI
variable {C V : Nat → Int} {a i i2 k k2 c : Int} {f g : Nat → Int64} {z : Int64} {j : Nat}
theorem evi_0 (hk : k = 0) : EVI C V a a k f := by
  unfold EVI
  rw [Nat.sub_self]
  exact ⟨trivial, by rw [hk]; rfl, fun h => by omega⟩
theorem evi_s (h : EVI C V a i k f) (h0 : 0 ≤ a) (hai : a ≤ i) (hi : i2 = i + 1) (hC : C i.toNat = c) (hl : ∀ l : List Int, l.length = k.toNat → STK f l → STK g (evs c V l) ∧ (evs c V l).length = k2.toNat) (hk : 1 ≤ k2) : EVI C V a i2 k2 g := by
  have e : i2.toNat - a.toNat = (i.toNat - a.toNat) + 1 := by omega
  have e2 : a.toNat + (i.toNat - a.toNat) = i.toNat := by omega
  have ee : evl C V a.toNat (i2.toNat - a.toNat) = evs c V (evl C V a.toNat (i.toNat - a.toNat)) := by
    rw [e]
    show evs (C (a.toNat + (i.toNat - a.toNat))) V _ = _
    rw [e2, hC]
  have q := hl _ h.2.1 h.1
  unfold EVI
  rw [ee]
  exact ⟨q.1, q.2, fun _ => hk⟩
theorem evi_n (h : EVI C V a i k f) (h0 : 0 ≤ a) (hai : a ≤ i) (hi : i2 = i + 1) (hk0 : 0 ≤ k) (hk : k2 = k + 1) (hj : (j : Int) = k) (hC : C i.toNat = c) {w : Int} (hw : ∀ l, evs c V l = w :: l) (hz : z.toInt = w) (hb : BD w) : EVI C V a i2 k2 (vp_updL f j z) :=
  evi_s h h0 hai hi hC (fun l hl q => by rw [hw]; exact ⟨stk_p q (by omega) hz hb, by show l.length + 1 = _; omega⟩) (by omega)
theorem evi_m (h : EVI C V a i k f) (h0 : 0 ≤ a) (hai : a ≤ i) (hi : i2 = i + 1) (hk : 1 ≤ k) (hj : (j : Int) = k - 1) (hC : C i.toNat = c) (hc : c = 1000226) (hz : BD (f j).toInt → z.toInt = -(f j).toInt) : EVI C V a i2 k (vp_updL f j z) := by
  refine evi_s h h0 hai hi hC (fun l hl q => ?_) hk
  cases l with
  | nil => exact absurd hl (by show ¬ 0 = _; omega)
  | cons b r =>
    have hr : r.length + 1 = k.toNat := hl
    have ej : j = r.length := by omega
    have q1 : (f j).toInt = b := by rw [ej]; exact q.1
    rw [evs_m hc]
    exact ⟨stk_p q.2.2 ej (by rw [hz (by rw [q1]; exact q.2.1), q1]) (bd_n q.2.1), hl⟩
theorem evi_b {j1 : Nat} (h : EVI C V a i k f) (h0 : 0 ≤ a) (hai : a ≤ i) (hi : i2 = i + 1) (hk : 2 ≤ k) (hk2 : k2 = k - 1) (hj : (j : Int) = k - 2) (hj1 : (j1 : Int) = k - 1) (hC : C i.toNat = c) (h1 : ¬ c < 1000100) (h2 : c ≠ 1000226) (hz : z.toInt = cmb (c - 1000100) (f j).toInt (f j1).toInt) : EVI C V a i2 k2 (vp_updL f j z) := by
  refine evi_s h h0 hai hi hC (fun l hl q => ?_) (by omega)
  match l, hl, q with
  | [], hl, _ => exact absurd hl (by show ¬ 0 = _; omega)
  | [_], hl, _ => exact absurd hl (by show ¬ 1 = _; omega)
  | b :: d :: r, hl, q =>
    have hr : r.length + 1 + 1 = k.toNat := hl
    have ej : j = r.length := by omega
    have ej1 : j1 = r.length + 1 := by omega
    have q1 : (f j1).toInt = b := by rw [ej1]; exact q.1
    have q2 : (f j).toInt = d := by rw [ej]; exact q.2.2.1
    rw [evs_b h1 h2]
    exact ⟨stk_p q.2.2.2.2 ej (by rw [hz, q1, q2]) cmb_b, by show r.length + 1 = _; omega⟩
theorem evi_1 (h : EVI C V a i k f) (hk : 1 ≤ k) (hj : (j : Int) = k - 1) : BD (f j).toInt := by
  obtain ⟨q, hl, -⟩ := h
  match evl C V a.toNat (i.toNat - a.toNat), hl, q with
  | [], hl, _ => exact absurd hl (by show ¬ 0 = _; omega)
  | b :: r, hl, q =>
    have hr : r.length + 1 = k.toNat := hl
    have ej : j = r.length := by omega
    have q1 : (f j).toInt = b := by rw [ej]; exact q.1
    rw [q1]
    exact q.2.1
theorem evi_2 (h : EVI C V a i k f) (hk : 2 ≤ k) (hj : (j : Int) = k - 2) : BD (f j).toInt := by
  obtain ⟨q, hl, -⟩ := h
  match evl C V a.toNat (i.toNat - a.toNat), hl, q with
  | [], hl, _ => exact absurd hl (by show ¬ 0 = _; omega)
  | [_], hl, _ => exact absurd hl (by show ¬ 1 = _; omega)
  | b :: d :: r, hl, q =>
    have hr : r.length + 1 + 1 = k.toNat := hl
    have ej : j = r.length := by omega
    have q1 : (f j).toInt = d := by rw [ej]; exact q.2.2.1
    rw [q1]
    exact q.2.2.2.1
theorem evi_e (h : EVI C V a i k f) (hai : a < i) (hz : z = f 0) : z.toInt = EVP C V a.toNat i.toNat := by
  have h1 := h.2.2 hai
  rw [hz]
  refine stk_b h.1 (fun e => ?_)
  have hl := h.2.1
  rw [e] at hl
  exact absurd hl (by show ¬ 0 = _; omega)
end EVI
/-- codes that name what there is -/
def CDO (c : Int) : Prop := 1000000 ≤ c → c < 1000100 → c ≤ 1000008
theorem evl_cg {C D V W : Nat → Int} {i : Nat} : ∀ k : Nat, (∀ j, j < k → C (i + j) = D (i + j) ∧ CDO (C (i + j))) → (∀ j, j ≤ 8 → V j = W j) → evl C V i k = evl D W i k
  | 0, _, _ => rfl
  | k + 1, h, hV => by
    have e := evl_cg k (fun j hj => h j (by omega)) hV
    have hk := h k (by omega)
    show evs (C (i + k)) V (evl C V i k) = evs (D (i + k)) W (evl D W i k)
    rw [e, ← hk.1]
    by_cases c1 : C (i + k) < 1000000
    · rw [evs_n c1, evs_n c1]
    · by_cases c2 : C (i + k) < 1000100
      · have := hk.2 (by omega) c2
        rw [evs_v c1 c2, evs_v c1 c2, hV _ (by omega)]
      · unfold evs
        rw [if_neg c1, if_neg c2, if_neg c1, if_neg c2]
theorem evp_cg {C D V W : Nat → Int} {a b : Nat} (h : ∀ j, j < b → C j = D j ∧ CDO (C j)) (hV : ∀ j, j ≤ 8 → V j = W j) : EVP C V a b = EVP D W a b := by
  unfold EVP
  by_cases c : a ≤ b
  · rw [evl_cg (b - a) (fun j hj => h (a + j) (by omega)) hV]
  · rw [show b - a = 0 by omega]; rfl
/-- all that is worked out stays within the bound -/
theorem evl_b {C V : Nat → Int} {i : Nat} (hV : ∀ j, BD (V j)) (hC : ∀ j, C j < 1000000 → BD (C j)) : ∀ k : Nat, ∀ x, x ∈ evl C V i k → BD x
  | 0, x, h => by cases h
  | k + 1, x, h => by
    have ih := evl_b (i := i) hV hC k
    have h2 : x ∈ evs (C (i + k)) V (evl C V i k) := h
    by_cases c1 : C (i + k) < 1000000
    · rw [evs_n c1] at h2
      rcases List.mem_cons.mp h2 with e | e
      · rw [e]; exact hC _ c1
      · exact ih x e
    · by_cases c2 : C (i + k) < 1000100
      · rw [evs_v c1 c2] at h2
        rcases List.mem_cons.mp h2 with e | e
        · rw [e]; exact hV _
        · exact ih x e
      · by_cases c3 : C (i + k) = 1000226
        · revert h2 ih
          generalize evl C V i k = l
          intro ih h2
          cases l with
          | nil =>
            have e : evs (C (i + k)) V [] = [] := by unfold evs; rw [if_neg c1, if_neg c2, if_pos c3]
            rw [e] at h2
            cases h2
          | cons a r =>
            rw [evs_m c3] at h2
            rcases List.mem_cons.mp h2 with e | e
            · rw [e]; exact bd_n (ih a (List.mem_cons_self))
            · exact ih x (List.mem_cons_of_mem _ e)
        · revert h2 ih
          generalize evl C V i k = l
          intro ih h2
          match l, ih, h2 with
          | [], _, h2 =>
            have e : evs (C (i + k)) V [] = [] := by unfold evs; rw [if_neg c1, if_neg c2, if_neg c3]
            rw [e] at h2
            cases h2
          | [a], ih, h2 =>
            have e : evs (C (i + k)) V [a] = [a] := by unfold evs; rw [if_neg c1, if_neg c2, if_neg c3]
            rw [e] at h2
            exact ih x h2
          | b :: a :: r, ih, h2 =>
            rw [evs_b c2 c3] at h2
            rcases List.mem_cons.mp h2 with e | e
            · rw [e]; exact cmb_b
            · exact ih x (List.mem_cons_of_mem _ (List.mem_cons_of_mem _ e))
theorem bot_b : ∀ l : List Int, (∀ x, x ∈ l → BD x) → BD (bot l)
  | [], _ => by show BD 0; unfold BD; omega
  | [a], h => h a List.mem_cons_self
  | _ :: b :: l, h => bot_b (b :: l) (fun x hx => h x (List.mem_cons_of_mem _ hx))
theorem evp_b {C V : Nat → Int} {a b : Nat} (hV : ∀ j, BD (V j)) (hC : ∀ j, C j < 1000000 → BD (C j)) : BD (EVP C V a b) := bot_b _ (evl_b hV hC _)
/-! what the names stand for -/
def fdl (E : Nat → Int) (v : Int) (f : Nat → Int → Int) (a : Int) : Nat → Int
  | 0 => a
  | p + 1 => if E p = v then f p (fdl E v f a p) else fdl E v f a p
theorem fd_h {E : Nat → Int} {v : Int} {f : Nat → Int → Int} {a : Int} {p : Nat} (h : E p = v) : fdl E v f a (p + 1) = f p (fdl E v f a p) := if_pos h
theorem fd_m {E : Nat → Int} {v : Int} {f : Nat → Int → Int} {a : Int} {p : Nat} (h : E p ≠ v) : fdl E v f a (p + 1) = fdl E v f a p := if_neg h
/-- no hit between: nothing changes -/
theorem fd_e {E : Nat → Int} {v : Int} {f : Nat → Int → Int} {a : Int} {p : Nat} : ∀ k : Nat, cn E v (p + k) = cn E v p → fdl E v f a (p + k) = fdl E v f a p
  | 0, _ => rfl
  | k + 1, h => by
    have m1 := cn_mono E v (show p + k ≤ p + k + 1 by omega)
    have m2 := cn_mono E v (show p ≤ p + k by omega)
    have hh : cn E v (p + k + 1) = cn E v p := h
    have e : E (p + k) ≠ v := fun q => by
      rw [cn_hit q] at hh
      omega
    rw [cn_miss e] at hh
    show fdl E v f a (p + k + 1) = _
    rw [fd_m e]
    exact fd_e k hh
theorem fd_q {E : Nat → Int} {v : Int} {f : Nat → Int → Int} {a : Int} {p q : Nat} (h : cn E v p = cn E v q) : fdl E v f a p = fdl E v f a q := by
  rcases Nat.le_total p q with c | c
  · obtain ⟨k, rfl⟩ := Nat.exists_eq_add_of_le c
    exact (fd_e k h.symm).symm
  · obtain ⟨k, rfl⟩ := Nat.exists_eq_add_of_le c
    exact fd_e k h
theorem fd_cg {E F : Nat → Int} {v : Int} {f g : Nat → Int → Int} {a : Int} : ∀ n : Nat, (∀ p, p < n → E p = F p) → (∀ p, p < n → E p = v → ∀ x, f p x = g p x) → fdl E v f a n = fdl F v g a n
  | 0, _, _ => rfl
  | n + 1, h, hf => by
    have e := fd_cg (a := a) n (fun p hp => h p (by omega)) (fun p hp => hf p (by omega))
    have hn := h n (by omega)
    by_cases c : E n = v
    · rw [fd_h c, fd_h (hn.symm.trans c), e]
      exact hf n (by omega) c _
    · rw [fd_m c, fd_m (fun z => c (hn.trans z)), e]
def mnv (a b : Int) : Int := if a ≤ b then a else b
def mxv (a b : Int) : Int := if b ≤ a then a else b
theorem mnv_1 {a b : Int} (h : a ≤ b) : mnv a b = a := if_pos h
theorem mnv_2 {a b : Int} (h : b ≤ a) : mnv a b = b := by
  unfold mnv
  split <;> omega
theorem mxv_1 {a b : Int} (h : b ≤ a) : mxv a b = a := if_pos h
theorem mxv_2 {a b : Int} (h : a ≤ b) : mxv a b = b := by
  unfold mxv
  split <;> omega
theorem mnv_b {a b : Int} (ha : BD a) (hb : BD b) : BD (mnv a b) := by
  unfold mnv
  split
  · exact ha
  · exact hb
theorem mxv_b {a b : Int} (ha : BD a) (hb : BD b) : BD (mxv a b) := by
  unfold mxv
  split
  · exact ha
  · exact hb
/-- the state where an arc begins, and what it is with the arc's weight -/
def vlF (g : GVW) (X : Nat → Int) (p : Nat) : Int := X (g.2.1 p).toInt.toNat
def vlW (g : GVW) (X : Nat → Int) (p : Nat) : Int := clp (vlF g X p + (g.2.2.2.1 p).toInt)
def vlS (g : GVW) (X : Nat → Int) (v : Int) (q : Nat) : Int := fdl (ARE g 1) v (fun p a => a + vlF g X p) 0 q
def vlM (g : GVW) (X : Nat → Int) (v : Int) (q : Nat) : Int := fdl (ARE g 1) v (fun p a => mnv a (vlW g X p)) 1000000000000 q
def vlG (g : GVW) (X : Nat → Int) (v : Int) (q : Nat) : Int := fdl (ARE g 1) v (fun p a => mxv a (vlW g X p)) (-1000000000000) q
def VALm (m : Nat) (g : GVW) (X : Nat → Int) (v : Nat) (r : Int) : Nat → Int
  | 0 => X v
  | 1 => (v : Int)
  | 2 => (g.1 v).toInt
  | 3 => cn (ARE g 0) (v : Int) m
  | 4 => cn (ARE g 1) (v : Int) m
  | 5 => r
  | 6 => clp (vlS g X (v : Int) m)
  | 7 => vlM g X (v : Int) m
  | _ => vlG g X (v : Int) m
def VAL (g : GVW) (X : Nat → Int) (v : Nat) (r : Int) (k : Nat) : Int := VALm 160 g X v r k
/-- the states of nodes stay within the bound -/
def XBD (n : Int) (X : Nat → Int) : Prop := ∀ u : Nat, (u : Int) < n → BD (X u)
theorem vlf_b {g : GVW} {X : Nat → Int} (hn : NDQ g) (hX : XBD g.2.2.2.2.2.2.1 X) {v : Int} {p : Nat} (hp : p < 160) (h : ARE g 1 p = v) (hv : 0 ≤ v) : BD (vlF g X p) ∧ 0 ≤ (g.2.1 p).toInt ∧ (g.2.1 p).toInt < g.2.2.2.2.2.2.1 := by
  have ne : (g.2.1 p).toInt ≠ -1 := fun z => by rw [are_no z] at h; omega
  have q := (hn p hp ne).1
  exact ⟨hX _ (by omega), q⟩
theorem vls_b {g : GVW} {X : Nat → Int} (hn : NDQ g) (hX : XBD g.2.2.2.2.2.2.1 X) {v : Int} (hv : 0 ≤ v) : ∀ q : Nat, q ≤ 160 → -((q : Int) * 1000000000000) ≤ vlS g X v q ∧ vlS g X v q ≤ (q : Int) * 1000000000000
  | 0, _ => ⟨by show _ ≤ (0 : Int); omega, by show (0 : Int) ≤ _; omega⟩
  | q + 1, hq => by
    have ih := vls_b hn hX hv q (by omega)
    by_cases c : ARE g 1 q = v
    · have b := (vlf_b hn hX (by omega) c hv).1
      have e : vlS g X v (q + 1) = vlS g X v q + vlF g X q := fd_h c
      unfold BD at b
      rw [e]
      omega
    · have e : vlS g X v (q + 1) = vlS g X v q := fd_m c
      rw [e]
      omega
theorem vlm_b {g : GVW} {X : Nat → Int} {v : Int} : ∀ q : Nat, BD (vlM g X v q) ∧ BD (vlG g X v q)
  | 0 => ⟨by show BD 1000000000000; unfold BD; omega, by show BD (-1000000000000); unfold BD; omega⟩
  | q + 1 => by
    have ih := vlm_b (g := g) (X := X) (v := v) q
    by_cases c : ARE g 1 q = v
    · have e1 : vlM g X v (q + 1) = mnv (vlM g X v q) (vlW g X q) := fd_h c
      have e2 : vlG g X v (q + 1) = mxv (vlG g X v q) (vlW g X q) := fd_h c
      rw [e1, e2]
      exact ⟨mnv_b ih.1 (clp_b _), mxv_b ih.2 (clp_b _)⟩
    · have e1 : vlM g X v (q + 1) = vlM g X v q := fd_m c
      have e2 : vlG g X v (q + 1) = vlG g X v q := fd_m c
      rw [e1, e2]
      exact ih
theorem val_b {g : GVW} {X : Nat → Int} {v : Nat} {r : Int} (hX : BD (X v)) (hv : v < 32) (hr : BD r) : ∀ k : Nat, BD (VAL g X v r k)
  | 0 => hX
  | 1 => by show BD (v : Int); unfold BD; omega
  | 2 => bd_i
  | 3 => by
    show BD (cn (ARE g 0) (v : Int) 160)
    have a := cn_0 (ARE g 0) (v : Int) 160
    have b := cn_le (ARE g 0) (v : Int) 160
    unfold BD; omega
  | 4 => by
    show BD (cn (ARE g 1) (v : Int) 160)
    have a := cn_0 (ARE g 1) (v : Int) 160
    have b := cn_le (ARE g 1) (v : Int) 160
    unfold BD; omega
  | 5 => hr
  | 6 => clp_b _
  | 7 => (vlm_b 160).1
  | _ + 8 => (vlm_b 160).2
section VCG
variable {g h : GVW} {X Y : Nat → Int} {v : Nat} {r : Int}
theorem vlf_cg (q : GEW g h) (hn : NDQ g) (hX : ∀ u : Nat, (u : Int) < g.2.2.2.2.2.2.1 → X u = Y u) {p : Nat} (hp : p < 160) (hE : ARE g 1 p = (v : Int)) : vlF g X p = vlF h Y p ∧ vlW g X p = vlW h Y p := by
  have ne : (g.2.1 p).toInt ≠ -1 := fun z => by rw [are_no z] at hE; omega
  have d := (hn p hp ne).1
  have a1 : vlF g X p = vlF h Y p := by
    unfold vlF
    rw [← q.2.1 p hp]
    exact hX _ (by omega)
  refine ⟨a1, ?_⟩
  unfold vlW
  rw [a1, (q.2.2.1 p hp ne).2.1]
theorem vls_cg (q : GEW g h) (hn : NDQ g) (hX : ∀ u : Nat, (u : Int) < g.2.2.2.2.2.2.1 → X u = Y u) {n : Nat} (hb : n ≤ 160) : vlS g X (v : Int) n = vlS h Y (v : Int) n ∧ vlM g X (v : Int) n = vlM h Y (v : Int) n ∧ vlG g X (v : Int) n = vlG h Y (v : Int) n := by
  have e1 : ∀ j, j < n → ARE g 1 j = ARE h 1 j := fun j hj => are_e q (by omega)
  unfold vlS vlM vlG
  refine ⟨fd_cg n e1 (fun p hp hE x => ?_), fd_cg n e1 (fun p hp hE x => ?_), fd_cg n e1 (fun p hp hE x => ?_)⟩
  · rw [(vlf_cg q hn hX (by omega) hE).1]
  · rw [(vlf_cg q hn hX (by omega) hE).2]
  · rw [(vlf_cg q hn hX (by omega) hE).2]
theorem val_3 {X : Nat → Int} : VAL g X v r 3 = cn (ARE g 0) (v : Int) 160 := rfl
theorem val_4 {X : Nat → Int} : VAL g X v r 4 = cn (ARE g 1) (v : Int) 160 := rfl
theorem val_6 {X : Nat → Int} : VAL g X v r 6 = clp (vlS g X (v : Int) 160) := rfl
theorem val_7 {X : Nat → Int} : VAL g X v r 7 = vlM g X (v : Int) 160 := rfl
theorem vam_0 {m : Nat} {X : Nat → Int} : VALm m g X v r 0 = X v := rfl
theorem vam_2 {m : Nat} {X : Nat → Int} : VALm m g X v r 2 = (g.1 v).toInt := rfl
theorem vam_3 {m : Nat} {X : Nat → Int} : VALm m g X v r 3 = cn (ARE g 0) (v : Int) m := rfl
theorem vam_4 {m : Nat} {X : Nat → Int} : VALm m g X v r 4 = cn (ARE g 1) (v : Int) m := rfl
theorem vam_6 {m : Nat} {X : Nat → Int} : VALm m g X v r 6 = clp (vlS g X (v : Int) m) := rfl
theorem vam_7 {m : Nat} {X : Nat → Int} : VALm m g X v r 7 = vlM g X (v : Int) m := rfl
theorem vam_8 {m : Nat} {X : Nat → Int} {k : Nat} : VALm m g X v r (k + 8) = vlG g X (v : Int) m := rfl
theorem vam_1 {m : Nat} {X : Nat → Int} : VALm m g X v r 1 = (v : Int) := rfl
theorem vam_5 {m : Nat} {X : Nat → Int} : VALm m g X v r 5 = r := rfl
theorem val_al {v m : Nat} (a0 : X v = Y v) (a2 : (g.1 v).toInt = (h.1 v).toInt) (a3 : cn (ARE g 0) (v : Int) m = cn (ARE h 0) (v : Int) m) (a4 : cn (ARE g 1) (v : Int) m = cn (ARE h 1) (v : Int) m) (a6 : clp (vlS g X (v : Int) m) = clp (vlS h Y (v : Int) m)) (a7 : vlM g X (v : Int) m = vlM h Y (v : Int) m) (a8 : vlG g X (v : Int) m = vlG h Y (v : Int) m) (k : Nat) : VALm m g X v r k = VALm m h Y v r k := by
  by_cases e0 : k = 0
  · rw [e0, vam_0, vam_0]; exact a0
  by_cases e1 : k = 1
  · rw [e1, vam_1, vam_1]
  by_cases e2 : k = 2
  · rw [e2, vam_2, vam_2]; exact a2
  by_cases e3 : k = 3
  · rw [e3, vam_3, vam_3]; exact a3
  by_cases e4 : k = 4
  · rw [e4, vam_4, vam_4]; exact a4
  by_cases e5 : k = 5
  · rw [e5, vam_5, vam_5]
  by_cases e6 : k = 6
  · rw [e6, vam_6, vam_6]; exact a6
  by_cases e7 : k = 7
  · rw [e7, vam_7, vam_7]; exact a7
  rw [show k = (k - 8) + 8 by omega, vam_8, vam_8]
  exact a8
theorem val_cg (q : GEW g h) (hn : NDQ g) (hv : (v : Int) < g.2.2.2.2.2.2.1) (hX : ∀ u : Nat, (u : Int) < g.2.2.2.2.2.2.1 → X u = Y u) (k : Nat) : VAL g X v r k = VAL h Y v r k := by
  have c : ∀ m : Nat, m = 160 → vlS g X (v : Int) m = vlS h Y (v : Int) m ∧ vlM g X (v : Int) m = vlM h Y (v : Int) m ∧ vlG g X (v : Int) m = vlG h Y (v : Int) m ∧ cn (ARE g 0) (v : Int) m = cn (ARE h 0) (v : Int) m ∧ cn (ARE g 1) (v : Int) m = cn (ARE h 1) (v : Int) m := fun m hm => by
    have a := vls_cg (v := v) (n := m) q hn hX (by omega)
    exact ⟨a.1, a.2.1, a.2.2, cn_eq m (fun j hj => are_e q (by omega)), cn_eq m (fun j hj => are_e q (by omega))⟩
  have c2 := c 160 rfl
  show VALm 160 g X v r k = VALm 160 h Y v r k
  exact val_al (m := 160) (hX v hv) (congrArg Int32.toInt (q.1 v hv)) c2.2.2.2.1 c2.2.2.2.2 (congrArg clp c2.1) c2.2.1 c2.2.2.1 k
end VCG
/-! rounds -/
def STA (g : GVW) (C : Nat → Int) (a b : Nat) : Nat → Nat → Int
  | 0 => fun v => EVP C (VAL g (fun _ => 0) v 0) 0 a
  | r + 1 => fun v => EVP C (VAL g (STA g C a b r) v ((r : Int) + 1)) a b
def CHG (g : GVW) (C : Nat → Int) (a b : Nat) (r : Nat) : Prop := ∃ v : Nat, (v : Int) < g.2.2.2.2.2.2.1 ∧ STA g C a b (r + 1) v ≠ STA g C a b r v
/-- the answer of a run: the first round that changes nothing, or all of them -/
def RNS (g : GVW) (C : Nat → Int) (a b : Nat) (m z : Int) : Prop := 0 ≤ z ∧ z ≤ m ∧ (∀ r : Nat, (r : Int) + 1 < z → CHG g C a b r) ∧ (z < m → 1 ≤ z ∧ ¬ CHG g C a b (z - 1).toNat)
def CBD (C : Nat → Int) : Prop := ∀ j, C j < 1000000 → BD (C j)
theorem sta_b {g : GVW} {C : Nat → Int} {a b : Nat} (hC : CBD C) (h32 : g.2.2.2.2.2.2.1 ≤ 32) : ∀ r : Nat, r ≤ 1000 → XBD g.2.2.2.2.2.2.1 (STA g C a b r)
  | 0, _ => fun u hu => evp_b (val_b (by show BD 0; unfold BD; omega) (by omega) (by unfold BD; omega)) hC
  | r + 1, hr => fun u hu => evp_b (val_b (sta_b hC h32 r (by omega) u hu) (by omega) (by unfold BD; omega)) hC
/-- codes alike -/
def CAL (C D : Nat → Int) (b : Nat) : Prop := ∀ j, j < b → C j = D j ∧ CDO (C j)
theorem sta_cg {g h : GVW} {C D : Nat → Int} {a b : Nat} (q : GEW g h) (hn : NDQ g) (hC : CAL C D b) (hab : a ≤ b) : ∀ (r v : Nat), (v : Int) < g.2.2.2.2.2.2.1 → STA g C a b r v = STA h D a b r v
  | 0, v, hv => evp_cg (fun j hj => hC j (by omega)) (fun j _ => val_cg q hn hv (fun _ _ => rfl) j)
  | r + 1, v, hv => evp_cg hC (fun j _ => val_cg q hn hv (fun u hu => sta_cg q hn hC hab r u hu) j)
theorem chg_cg {g h : GVW} {C D : Nat → Int} {a b r : Nat} (q : GEW g h) (hn : NDQ g) (hC : CAL C D b) (hab : a ≤ b) : CHG g C a b r ↔ CHG h D a b r := by
  unfold CHG
  rw [← q.2.2.2]
  constructor
  · rintro ⟨v, hv, ne⟩
    exact ⟨v, hv, by rw [← sta_cg q hn hC hab _ v hv, ← sta_cg q hn hC hab _ v hv]; exact ne⟩
  · rintro ⟨v, hv, ne⟩
    exact ⟨v, hv, by rw [sta_cg q hn hC hab _ v hv, sta_cg q hn hC hab _ v hv]; exact ne⟩
theorem rns_u {g h : GVW} {C D : Nat → Int} {a b : Nat} {m z z2 : Int} (q : GEW g h) (hn : NDQ g) (hC : CAL C D b) (hab : a ≤ b) (h1 : RNS g C a b m z) (h2 : RNS h D a b m z2) : z = z2 := by
  obtain ⟨a1, a2, a3, a4⟩ := h1
  obtain ⟨b1, b2, b3, b4⟩ := h2
  rcases Int.lt_trichotomy z z2 with c | c | c
  · have d := a4 (by omega)
    exact absurd ((chg_cg q hn hC hab).mpr (b3 (z - 1).toNat (by omega))) d.2
  · exact c
  · have d := b4 (by omega)
    exact absurd ((chg_cg q hn hC hab).mp (a3 (z2 - 1).toNat (by omega))) d.2

/-! the class looks at a node -/
def LKI (g : GVW) (X : Nat → Int) (v r a b c : Int) : Prop := (0 ≤ r ∧ r ≤ cn (ARE g 1) v 160) ∧ ∀ q, q ≤ 160 → cn (ARE g 1) v q = r → vlS g X v q = a ∧ vlM g X v q = b ∧ vlG g X v q = c
section LKI
variable {g : GVW} {X : Nat → Int} {v r r2 a a2 b b2 c c2 : Int} {p : Nat}
theorem lki_0 (h : r = 0) (ha : a = 0) (hb : b = 1000000000000) (hc : c = -1000000000000) : LKI g X v r a b c := by
  refine ⟨⟨by omega, by have := cn_0 (ARE g 1) v 160; omega⟩, fun q _ hq => ?_⟩
  have e : cn (ARE g 1) v q = cn (ARE g 1) v 0 := hq.trans h
  rw [ha, hb, hc]
  exact ⟨fd_q e, fd_q e, fd_q e⟩
theorem lki_s (h : LKI g X v r a b c) (hp : p < 160) (hE : ARE g 1 p = v) (hq : cn (ARE g 1) v p = r) (hr : r2 = r + 1) (ha : a2 = a + vlF g X p) (hb : b2 = mnv b (vlW g X p)) (hc : c2 = mxv c (vlW g X p)) : LKI g X v r2 a2 b2 c2 := by
  have k := h.2 p (by omega) hq
  have e1 : cn (ARE g 1) v (p + 1) = r2 := by rw [cn_hit hE]; omega
  refine ⟨⟨by have := h.1.1; omega, by have := cn_mono (ARE g 1) v (show p + 1 ≤ 160 by omega); omega⟩, fun q _ hq2 => ?_⟩
  have e : cn (ARE g 1) v q = cn (ARE g 1) v (p + 1) := hq2.trans e1.symm
  have s1 : vlS g X v (p + 1) = vlS g X v p + vlF g X p := fd_h hE
  have s2 : vlM g X v (p + 1) = mnv (vlM g X v p) (vlW g X p) := fd_h hE
  have s3 : vlG g X v (p + 1) = mxv (vlG g X v p) (vlW g X p) := fd_h hE
  have t1 : vlS g X v q = vlS g X v (p + 1) := fd_q e
  have t2 : vlM g X v q = vlM g X v (p + 1) := fd_q e
  have t3 : vlG g X v q = vlG g X v (p + 1) := fd_q e
  rw [t1, t2, t3, s1, s2, s3, k.1, k.2.1, k.2.2, ha, hb, hc]
  exact ⟨rfl, rfl, rfl⟩
theorem lki_e (h : LKI g X v r a b c) (hr : cn (ARE g 1) v 160 ≤ r) : a = vlS g X v 160 ∧ b = vlM g X v 160 ∧ c = vlG g X v 160 := by
  have k := h.2 160 (Nat.le_refl _) (by have := h.1.2; omega)
  exact ⟨k.1.symm, k.2.1.symm, k.2.2.symm⟩
/-- the sum so far is small -/
theorem lki_b (h : LKI g X v r a b c) (hn : NDQ g) (hX : XBD g.2.2.2.2.2.2.1 X) (hv : 0 ≤ v) (hp : p < 160) (hq : cn (ARE g 1) v p = r) : -160000000000000 ≤ a ∧ a ≤ 160000000000000 := by
  have k := h.2 p (by omega) hq
  have b := vls_b hn hX hv p (by omega)
  rw [k.1] at b
  omega
end LKI
def VBD (f : Nat → Int64) : Prop := ∀ k : Nat, k ≤ 8 → BD (f k).toInt
def VLR (g : GVW) (X : Nat → Int) (v : Nat) (r : Int) (f : Nat → Int64) : Prop := ∀ k : Nat, k ≤ 8 → (f k).toInt = VAL g X v r k
theorem vlr_i {g : GVW} {X : Nat → Int} {f : Nat → Int64} {v : Nat} {x r : Int} {a0 a1 a2 a3 a4 a5 a6 a7 a8 : Int64} (hv : (v : Int) = x) (e0 : a0.toInt = X v) (e1 : a1.toInt = x) (e2 : a2.toInt = (g.1 v).toInt) (e3 : a3.toInt = cn (ARE g 0) x 160) (e4 : a4.toInt = cn (ARE g 1) x 160) (e5 : a5.toInt = r) (e6 : a6.toInt = clp (vlS g X x 160)) (e7 : a7.toInt = vlM g X x 160) (e8 : a8.toInt = vlG g X x 160) : VLR g X v r (vp_updL (vp_updL (vp_updL (vp_updL (vp_updL (vp_updL (vp_updL (vp_updL (vp_updL f 0 a0) 1 a1) 2 a2) 3 a3) 4 a4) 5 a5) 6 a6) 7 a7) 8 a8) := by
  rw [← hv] at e1 e3 e4 e6 e7 e8
  intro k hk
  match k, hk with
  | 0, _ => exact e0
  | 1, _ => exact e1
  | 2, _ => exact e2
  | 3, _ => exact e3
  | 4, _ => exact e4
  | 5, _ => exact e5
  | 6, _ => exact e6
  | 7, _ => exact e7
  | 8, _ => exact e8
  | k + 9, hk => exact absurd hk (by omega)
theorem vlr_b {g : GVW} {X : Nat → Int} {v : Nat} {r : Int} {f : Nat → Int64} (h : VLR g X v r f) (hX : BD (X v)) (hv : v < 32) (hr : BD r) : VBD f := fun k hk => by
  rw [h k hk]
  exact val_b hX hv hr k

theorem sL_o {s : GS} {p q j : Nat} {v : Int64} (h : Nat.beq p q = false) : (sL s q j v).2.1 p = s.2.1 p := by
  have hn : p ≠ q := fun e => by rw [e, Nat.beq_refl] at h; cases h
  simp [sL, hn]
/-! the class does a round -/
def NXV (g : GVW) (C : Nat → Int) (a b : Nat) (X : Nat → Int) (r : Int) (u : Nat) : Int := if r = 0 then EVP C (VAL g X u r) 0 a else EVP C (VAL g X u r) a b
def DRI (W X : Nat → Int) (v c : Int) (f : Nat → Int64) : Prop := (∀ u : Nat, (u : Int) < v → (f u).toInt = W u) ∧ (c ≠ 0 ↔ ∃ u : Nat, (u : Int) < v ∧ W u ≠ X u)
theorem dri_0 {W X : Nat → Int} {v c : Int} {f : Nat → Int64} (hv : v = 0) (hc : c = 0) : DRI W X v c f := ⟨fun u hu => by omega, fun h => absurd hc h, fun ⟨u, hu, _⟩ => by omega⟩
theorem dri_s {W X : Nat → Int} {v v2 c c2 : Int} {f : Nat → Int64} {j : Nat} {z : Int64} (h : DRI W X v c f) (hj : (j : Int) = v) (hz : z.toInt = W j) (hv2 : v2 = v + 1) (hc2 : c2 ≠ 0 ↔ c ≠ 0 ∨ W j ≠ X j) : DRI W X v2 c2 (vp_updL f j z) := by
  refine ⟨fun u hu => ?_, ?_⟩
  · by_cases e : u = j
    · rw [e, vu_at]; exact hz
    · rw [vu_ne e]; exact h.1 u (by omega)
  · rw [hc2, h.2]
    constructor
    · rintro (⟨u, hu, hn⟩ | hn)
      · exact ⟨u, by omega, hn⟩
      · exact ⟨j, by omega, hn⟩
    · rintro ⟨u, hu, hn⟩
      by_cases e : u = j
      · rw [e] at hn; exact Or.inr hn
      · exact Or.inl ⟨u, by omega, hn⟩
theorem i01 {x : Int32} (h : In x 0 1) : x = Int32.ofInt 0 ∨ x = Int32.ofInt 1 := by
  unfold In at h
  by_cases c : x.toInt = 0
  · exact Or.inl (i_eq.mpr (by rw [c]; rfl))
  · exact Or.inr (i_eq.mpr (by rw [show x.toInt = 1 by omega]; rfl))
theorem ior_v {x y z : Int32} (e : z = x ||| y) (hx : In x 0 1) (hy : In y 0 1) : z.toInt ≠ 0 ↔ x.toInt ≠ 0 ∨ y.toInt ≠ 0 := by
  rw [e]
  rcases i01 hx with rfl | rfl <;> rcases i01 hy with rfl | rfl <;> decide
theorem dri_c {c c2 k : Int32} {A B : Int} (e : c2 = c ||| k) (hc : In c 0 1) (hk : In k 0 1) (h : k.toInt ≠ 0 ↔ A ≠ B) : c2.toInt ≠ 0 ↔ c.toInt ≠ 0 ∨ A ≠ B := by rw [ior_v e hc hk, h]
theorem ht_in {st : Nat → Nat → Option Nat} {a : Nat} : ∀ k : Nat, (ht st a k).isSome = true → ∀ j, j < k → ∃ h, (st (a + j) h).isSome = true
  | 0, _, j, hj => absurd hj (Nat.not_lt_zero j)
  | k + 1, h, j, hj => by
    have h2 : ((ht st a k).bind (st (a + k))).isSome = true := h
    cases e : ht st a k with
    | none => rw [e] at h2; cases h2
    | some x =>
      rw [e] at h2
      by_cases c : j = k
      · rw [c]; exact ⟨x, h2⟩
      · exact ht_in k (by rw [e]; rfl) j (by omega)
theorem cdo_hc {c : Int32} {h : Nat} (e : (hc c h).isSome = true) : CDO c.toInt := by
  intro h1 h2
  unfold hc at e
  rw [if_neg (by omega), if_pos h2] at e
  by_cases q : c.toInt ≤ 1000008
  · exact q
  · rw [if_neg q] at e; cases e
theorem cdo_c {s : GS} (hI : Inv s) {j : Nat} (hj : j < (s.2.2.1 102 2).toInt.toNat) : CDO (s.1 103 j).toInt := by
  by_cases c : j < (s.2.2.1 102 1).toInt.toNat
  · have k := kc_1 (a := Int32.ofInt 0) hI rfl rfl
    obtain ⟨h, e⟩ := ht_in _ k j c
    have e0 : (Int32.ofInt 0).toNatClampNeg + j = j := by rw [show (Int32.ofInt 0).toNatClampNeg = 0 from rfl, Nat.zero_add]
    rw [e0] at e
    exact cdo_hc e
  · have k := kc_2 hI rfl rfl
    have e1 : (s.2.2.1 102 1).toNatClampNeg = (s.2.2.1 102 1).toInt.toNat := rfl
    have e2 : (s.2.2.1 102 2).toNatClampNeg = (s.2.2.1 102 2).toInt.toNat := rfl
    obtain ⟨h, e⟩ := ht_in _ k (j - (s.2.2.1 102 1).toInt.toNat) (by omega)
    have e0 : (s.2.2.1 102 1).toNatClampNeg + (j - (s.2.2.1 102 1).toInt.toNat) = j := by omega
    rw [e0] at e
    exact cdo_hc e
theorem nxv_1 {g : GVW} {C : Nat → Int} {a b v : Nat} {X : Nat → Int} {r z : Int} {f : Nat → Int64} (hr : r ≠ 0) (hV : VLR g X v r f) (hC : ∀ j, j < b → CDO (C j)) (h : z = EVP C (fun k => (f k).toInt) a b) : z = NXV g C a b X r v := by
  unfold NXV
  rw [if_neg hr, h]
  exact evp_cg (fun j hj => ⟨rfl, hC j hj⟩) (fun k hk => hV k hk)
theorem nxv_0 {g : GVW} {C : Nat → Int} {a b v : Nat} {X : Nat → Int} {r z : Int} {f : Nat → Int64} (hr : r = 0) (hV : VLR g X v r f) (hC : ∀ j, j < a → CDO (C j)) (h : z = EVP C (fun k => (f k).toInt) 0 a) : z = NXV g C a b X r v := by
  unfold NXV
  rw [if_pos hr, h]
  exact evp_cg (fun j hj => ⟨rfl, hC j hj⟩) (fun k hk => hV k hk)

/-! all rounds -/
theorem prc_fr {s t : GS} {L : FM} (h : PRC s) (hF : Fr L s t) (hk : (qF L.2.2.1 102 1 && qF L.2.2.1 102 2) = true) : PRC t := by
  rw [Bool.and_eq_true] at hk
  unfold PRC at h ⊢
  rw [hF.2.2.1 102 1 hk.1, hF.2.2.1 102 2 hk.2]
  exact h
theorem gew_r {g : GVW} : GEW g g := ⟨fun _ _ => rfl, fun _ _ => rfl, fun _ _ _ => ⟨rfl, rfl, rfl, rfl⟩, rfl⟩
theorem cpl_v {f g h : Nat → Int64} (cp : ∀ k : Nat, h k = va_cpy f g (Int32.ofInt 0).toNatClampNeg (Int32.ofInt 0).toNatClampNeg (Int32.ofInt 32).toNatClampNeg k) {k : Nat} (hk : k < 32) : h k = f k := by
  rw [cp k]
  unfold va_cpy
  rw [if_pos ⟨Nat.zero_le k, by show k < 0 + 32; omega⟩]
  show f (0 + (k - 0)) = f k
  rw [Nat.zero_add, Nat.sub_zero]
section WK
variable {g : GVW} {C : Nat → Int} {a b : Nat} {X : Nat → Int} {f : Nat → Int64} {r r2 m c : Int}
theorem ewk_0 (hn : NDQ g) (hX : ∀ u : Nat, (u : Int) < g.2.2.2.2.2.2.1 → X u = 0) (h : DRI (NXV g C a b X 0) X g.2.2.2.2.2.2.1 c f) : ∀ u : Nat, (u : Int) < g.2.2.2.2.2.2.1 → (f u).toInt = STA g C a b 0 u := fun u hu => by
  rw [h.1 u hu]
  have e : VAL g X u 0 = VAL g (fun _ => 0) u 0 := funext (val_cg gew_r hn hu (fun w hw => hX w hw))
  unfold NXV
  rw [if_pos rfl, e]
  rfl
theorem enx_s (hn : NDQ g) (hr : 1 ≤ r) (hX : ∀ u : Nat, (u : Int) < g.2.2.2.2.2.2.1 → X u = STA g C a b (r - 1).toNat u) {u : Nat} (hu : (u : Int) < g.2.2.2.2.2.2.1) : NXV g C a b X r u = STA g C a b r.toNat u := by
  obtain ⟨k, rfl⟩ : ∃ k : Nat, r = (k : Int) + 1 := ⟨(r - 1).toNat, by omega⟩
  have e1 : ((k : Int) + 1 - 1).toNat = k := by omega
  have e2 : ((k : Int) + 1).toNat = k + 1 := by omega
  rw [e1] at hX
  have e : VAL g X u ((k : Int) + 1) = VAL g (STA g C a b k) u ((k : Int) + 1) := funext (val_cg gew_r hn hu (fun w hw => hX w hw))
  unfold NXV
  rw [if_neg (by omega), e, e2]
  rfl
theorem ewk_s (hn : NDQ g) (hr : 1 ≤ r) (hX : ∀ u : Nat, (u : Int) < g.2.2.2.2.2.2.1 → X u = STA g C a b (r - 1).toNat u) (h : DRI (NXV g C a b X r) X g.2.2.2.2.2.2.1 c f) : (∀ u : Nat, (u : Int) < g.2.2.2.2.2.2.1 → (f u).toInt = STA g C a b r.toNat u) ∧ (c ≠ 0 ↔ CHG g C a b (r - 1).toNat) := by
  refine ⟨fun u hu => by rw [h.1 u hu]; exact enx_s hn hr hX hu, ?_⟩
  have e : (r - 1).toNat + 1 = r.toNat := by omega
  rw [h.2]
  unfold CHG
  rw [e]
  constructor
  · rintro ⟨u, hu, ne⟩
    exact ⟨u, hu, by rw [← enx_s hn hr hX hu, ← hX u hu]; exact ne⟩
  · rintro ⟨u, hu, ne⟩
    exact ⟨u, hu, by rw [enx_s hn hr hX hu, hX u hu]; exact ne⟩
def EWI (g : GVW) (C : Nat → Int) (a b : Nat) (r : Int) (f : Nat → Int64) : Prop := (∀ u : Nat, (u : Int) < g.2.2.2.2.2.2.1 → (f u).toInt = STA g C a b (r - 1).toNat u) ∧ ∀ q : Nat, (q : Int) + 1 < r → CHG g C a b q
def EWP (g : GVW) (C : Nat → Int) (a b : Nat) (m z : Int) (f : Nat → Int64) : Prop := RNS g C a b m z ∧ ∀ u : Nat, (u : Int) < g.2.2.2.2.2.2.1 → (f u).toInt = STA g C a b z.toNat u
theorem ewi_0 (hr : r = 1) (h : ∀ u : Nat, (u : Int) < g.2.2.2.2.2.2.1 → (f u).toInt = STA g C a b 0 u) : EWI g C a b r f := ⟨fun u hu => by rw [hr]; exact h u hu, fun q hq => by omega⟩
theorem ewi_s {f2 : Nat → Int64} (h : EWI g C a b r f) (hr : 1 ≤ r) (h2 : (∀ u : Nat, (u : Int) < g.2.2.2.2.2.2.1 → (f2 u).toInt = STA g C a b r.toNat u) ∧ (c ≠ 0 ↔ CHG g C a b (r - 1).toNat)) (hc : c ≠ 0) (e : r2 = r + 1) : EWI g C a b r2 f2 := by
  refine ⟨fun u hu => by rw [show (r2 - 1).toNat = r.toNat by omega]; exact h2.1 u hu, fun q hq => ?_⟩
  by_cases k : (q : Int) + 1 < r
  · exact h.2 q k
  · rw [show q = (r - 1).toNat by omega]
    exact h2.2.mp hc
theorem ewp_1 {f2 : Nat → Int64} (h : EWI g C a b r f) (hr : 1 ≤ r) (hm : r ≤ m) (h2 : (∀ u : Nat, (u : Int) < g.2.2.2.2.2.2.1 → (f2 u).toInt = STA g C a b r.toNat u) ∧ (c ≠ 0 ↔ CHG g C a b (r - 1).toNat)) (hc : c = 0) : EWP g C a b m r f2 := ⟨⟨by omega, hm, h.2, fun _ => ⟨hr, fun k => h2.2.mpr k hc⟩⟩, h2.1⟩
theorem ewp_2 (h : EWI g C a b r f) (hm : 0 ≤ m) (hr : r = m + 1) : EWP g C a b m m f := ⟨⟨hm, Int.le_refl _, fun q hq => h.2 q (by omega), fun k => by omega⟩, fun u hu => by rw [show m.toNat = (r - 1).toNat by omega]; exact h.1 u hu⟩
/-- what is copied before a round -/
theorem ewi_x {h : Nat → Int64} (hW : EWI g C a b r f) (h32 : g.2.2.2.2.2.2.1 ≤ 32) (cp : ∀ k : Nat, k < 32 → h k = f k) : ∀ u : Nat, (u : Int) < g.2.2.2.2.2.2.1 → (h u).toInt = STA g C a b (r - 1).toNat u := fun u hu => by
  rw [cp u (by omega)]
  exact hW.1 u hu
end WK

def RUP (x y w : Int32) : Prop := In x 0 200 ∧ In y 1 4 ∧ In w 0 90
/-! the reference's product -/
theorem clp_n (w : Int) : clp (-w) = -clp w := by
  have a := clp_o w
  have b := clp_o (-w)
  by_cases c1 : 1000000000000 < w
  · rw [a.1 c1, b.2.1 (by omega)]
  · by_cases c2 : w < -1000000000000
    · rw [a.2.1 c2, b.1 (by omega)]; rfl
    · rw [a.2.2 (by omega) (by omega), b.2.2 (by omega) (by omega)]
section RP
variable {x y z w a b q : Int64}
theorem rpx_0 (h : x.toInt = 0 ∨ y.toInt = 0) : (Int64.ofInt 0).toInt = clp (x.toInt * y.toInt) := by
  have e : x.toInt * y.toInt = 0 := by
    rcases h with h | h
    · rw [h, Int.zero_mul]
    · rw [h, Int.mul_zero]
  rw [e]
  rfl
theorem rp_m (ha : ABS x a) (hb : ABS y b) (hx : BD x.toInt) (hy : BD y.toInt) : ((x.toInt < 0 ↔ y.toInt < 0) → a.toInt * b.toInt = x.toInt * y.toInt) ∧ (¬ (x.toInt < 0 ↔ y.toInt < 0) → a.toInt * b.toInt = -(x.toInt * y.toInt)) := by
  unfold BD at hx hy
  rcases ha with ⟨h0, rfl⟩ | ⟨h0, ea⟩ <;> rcases hb with ⟨k0, rfl⟩ | ⟨k0, eb⟩
  · exact ⟨fun _ => rfl, fun h => absurd ⟨fun k => by omega, fun k => by omega⟩ h⟩
  · rw [lneg_t eb (by omega) (by omega), Int.mul_neg]
    exact ⟨fun h => by have := h.mpr k0; omega, fun _ => rfl⟩
  · rw [lneg_t ea (by omega) (by omega), Int.neg_mul]
    exact ⟨fun h => by have := h.mp h0; omega, fun _ => rfl⟩
  · rw [lneg_t ea (by omega) (by omega), lneg_t eb (by omega) (by omega), Int.neg_mul_neg]
    exact ⟨fun _ => rfl, fun h => absurd ⟨fun _ => k0, fun _ => h0⟩ h⟩
theorem rp_v (hx : BD x.toInt) (hy : BD y.toInt) (ha : ABS x a) (hb : ABS y b) (hn : y.toInt ≠ 0) (hq : q = Int64.ofInt 1000000000000 / b) : (a.toInt ≤ q.toInt → BD (a.toInt * b.toInt)) ∧ (q.toInt < a.toInt → 1000000000000 < a.toInt * b.toInt) := by
  have va := abs_v ha hx
  have vb := abs_v hb hy
  have b0 : 0 < b.toInt := by omega
  rw [Int.mul_comm]
  exact ⟨fun h => tms_1 (Or.inl rfl) b0 (Or.inl rfl) va.1 (tm_q b0 hq) h, fun h => (tms_2 (Or.inl rfl) b0 (Or.inl rfl) (tm_q b0 hq) h).1⟩
theorem rpx_1 (hx : BD x.toInt) (hy : BD y.toInt) (ha : ABS x a) (hb : ABS y b) (hn : y.toInt ≠ 0) (hq : q = Int64.ofInt 1000000000000 / b) (h : a.toInt ≤ q.toInt) (e : z = a * b) (hs : x.toInt < 0 ↔ y.toInt < 0) : z.toInt = clp (x.toInt * y.toInt) := by
  have v := (rp_v hx hy ha hb hn hq).1 h
  rw [← (rp_m ha hb hx hy).1 hs, clp_i v]
  unfold BD at v
  exact lmul_t e (by omega) (by omega)
theorem rpx_2 (hx : BD x.toInt) (hy : BD y.toInt) (ha : ABS x a) (hb : ABS y b) (hn : y.toInt ≠ 0) (hq : q = Int64.ofInt 1000000000000 / b) (h : q.toInt < a.toInt) (hs : x.toInt < 0 ↔ y.toInt < 0) : (Int64.ofInt 1000000000000).toInt = clp (x.toInt * y.toInt) := by
  rw [← (rp_m ha hb hx hy).1 hs, (clp_o _).1 ((rp_v hx hy ha hb hn hq).2 h)]
  rfl
theorem rpx_3 (hx : BD x.toInt) (hy : BD y.toInt) (ha : ABS x a) (hb : ABS y b) (hn : y.toInt ≠ 0) (hq : q = Int64.ofInt 1000000000000 / b) (h : a.toInt ≤ q.toInt) (e : z = a * b) (e2 : w = -z) (hs : ¬ (x.toInt < 0 ↔ y.toInt < 0)) : w.toInt = clp (x.toInt * y.toInt) := by
  have v := (rp_v hx hy ha hb hn hq).1 h
  have m := (rp_m ha hb hx hy).2 hs
  have c := clp_n (-(x.toInt * y.toInt))
  rw [Int.neg_neg, ← m, clp_i v] at c
  rw [c]
  unfold BD at v
  have t := lmul_t e (by omega) (by omega)
  rw [lneg_t e2 (by omega) (by omega), t]
theorem rpx_4 (hx : BD x.toInt) (hy : BD y.toInt) (ha : ABS x a) (hb : ABS y b) (hn : y.toInt ≠ 0) (hq : q = Int64.ofInt 1000000000000 / b) (h : q.toInt < a.toInt) (e2 : w = -(Int64.ofInt 1000000000000)) (hs : ¬ (x.toInt < 0 ↔ y.toInt < 0)) : w.toInt = clp (x.toInt * y.toInt) := by
  have m := (rp_m ha hb hx hy).2 hs
  have k := (rp_v hx hy ha hb hn hq).2 h
  rw [e2, (clp_o _).2.1 (by omega)]
  rfl
end RP
/-! the reference names all -/
def NMI (g : GVW) (X : Nat → Int) (v : Nat) (r : Int) (k0 k1 : Nat) (f : Nat → Int64) : Prop := (f 0).toInt = X v ∧ (f 1).toInt = (v : Int) ∧ (f 2).toInt = (g.1 v).toInt ∧ (f 3).toInt = cn (ARE g 0) (v : Int) k0 ∧ (f 4).toInt = cn (ARE g 1) (v : Int) k1 ∧ (f 5).toInt = r ∧ (f 6).toInt = vlS g X (v : Int) k1 ∧ (f 7).toInt = vlM g X (v : Int) k1 ∧ (f 8).toInt = vlG g X (v : Int) k1
section NMI
variable {g : GVW} {X : Nat → Int} {v : Nat} {r : Int} {k0 k1 : Nat} {f : Nat → Int64}
theorem nmi_0 {a0 a1 a2 a3 a4 a5 a6 a7 a8 : Int64} (e0 : a0.toInt = X v) (e1 : a1.toInt = (v : Int)) (e2 : a2.toInt = (g.1 v).toInt) (e3 : a3.toInt = 0) (e4 : a4.toInt = 0) (e5 : a5.toInt = r) (e6 : a6.toInt = 0) (e7 : a7.toInt = 1000000000000) (e8 : a8.toInt = -1000000000000) : NMI g X v r 0 0 (vp_updL (vp_updL (vp_updL (vp_updL (vp_updL (vp_updL (vp_updL (vp_updL (vp_updL f 0 a0) 1 a1) 2 a2) 3 a3) 4 a4) 5 a5) 6 a6) 7 a7) 8 a8) := ⟨e0, e1, e2, e3, e4, e5, e6, e7, e8⟩
theorem nmi_3h {x z : Int64} (h : NMI g X v r k0 k1 f) (hk : k0 < 160) (hE : ARE g 0 k0 = (v : Int)) (e1 : x = f 3) (e2 : z = x + Int64.ofInt 1) : NMI g X v r (k0 + 1) k1 (vp_updL f 3 z) := by
  obtain ⟨h0, h1, h2, h3, h4, h5, h6, h7, h8⟩ := h
  have c0 := cn_0 (ARE g 0) (v : Int) k0
  have c1 := cn_le (ARE g 0) (v : Int) k0
  have o1 : (Int64.ofInt 1).toInt = 1 := rfl
  rw [← e1] at h3
  have t : z.toInt = x.toInt + (Int64.ofInt 1).toInt := ladd_t e2 (by omega) (by omega)
  refine ⟨h0, h1, h2, ?_, h4, h5, h6, h7, h8⟩
  show z.toInt = _
  rw [cn_hit hE, t, o1, h3]
theorem nmi_3m (h : NMI g X v r k0 k1 f) (hE : ARE g 0 k0 ≠ (v : Int)) : NMI g X v r (k0 + 1) k1 f := by
  obtain ⟨h0, h1, h2, h3, h4, h5, h6, h7, h8⟩ := h
  exact ⟨h0, h1, h2, by rw [cn_miss hE]; exact h3, h4, h5, h6, h7, h8⟩
theorem nmi_4m (h : NMI g X v r k0 k1 f) (hE : ARE g 1 k1 ≠ (v : Int)) : NMI g X v r k0 (k1 + 1) f := by
  obtain ⟨h0, h1, h2, h3, h4, h5, h6, h7, h8⟩ := h
  have s1 : vlS g X (v : Int) (k1 + 1) = vlS g X (v : Int) k1 := fd_m hE
  have s2 : vlM g X (v : Int) (k1 + 1) = vlM g X (v : Int) k1 := fd_m hE
  have s3 : vlG g X (v : Int) (k1 + 1) = vlG g X (v : Int) k1 := fd_m hE
  exact ⟨h0, h1, h2, h3, by rw [cn_miss hE]; exact h4, h5, by rw [s1]; exact h6, by rw [s2]; exact h7, by rw [s3]; exact h8⟩
theorem nmi_4h {x4 z4 x6 z6 xs w x7 z7 x8 z8 : Int64} (h : NMI g X v r k0 k1 f) (hk : k1 < 160) (hn : NDQ g) (hX : XBD g.2.2.2.2.2.2.1 X) (hE : ARE g 1 k1 = (v : Int)) (e4 : x4 = f 4) (a4 : z4 = x4 + Int64.ofInt 1) (e6 : x6 = f 6) (a6 : z6 = x6 + xs) (hs : xs.toInt = vlF g X k1) (hw : w.toInt = vlW g X k1) (e7 : x7 = f 7) (a7 : z7.toInt = mnv x7.toInt w.toInt) (e8 : x8 = f 8) (a8 : z8.toInt = mxv x8.toInt w.toInt) : NMI g X v r k0 (k1 + 1) (vp_updL (vp_updL (vp_updL (vp_updL f 4 z4) 6 z6) 7 z7) 8 z8) := by
  obtain ⟨h0, h1, h2, h3, h4, h5, h6, h7, h8⟩ := h
  have s1 : vlS g X (v : Int) (k1 + 1) = vlS g X (v : Int) k1 + vlF g X k1 := fd_h hE
  have s2 : vlM g X (v : Int) (k1 + 1) = mnv (vlM g X (v : Int) k1) (vlW g X k1) := fd_h hE
  have s3 : vlG g X (v : Int) (k1 + 1) = mxv (vlG g X (v : Int) k1) (vlW g X k1) := fd_h hE
  have c0 := cn_0 (ARE g 1) (v : Int) k1
  have c1 := cn_le (ARE g 1) (v : Int) k1
  have o1 : (Int64.ofInt 1).toInt = 1 := rfl
  have b1 := (vlf_b hn hX hk hE (Int.natCast_nonneg v)).1
  have b2 := vls_b hn hX (Int.natCast_nonneg v) k1 (by omega)
  unfold BD at b1
  rw [← e4] at h4
  rw [← e6] at h6
  rw [← e7] at h7
  rw [← e8] at h8
  have t4 : z4.toInt = x4.toInt + (Int64.ofInt 1).toInt := ladd_t a4 (by omega) (by omega)
  have t6 : z6.toInt = x6.toInt + xs.toInt := ladd_t a6 (by omega) (by omega)
  refine ⟨h0, h1, h2, h3, ?_, h5, ?_, ?_, ?_⟩
  · show z4.toInt = _
    rw [cn_hit hE, t4, o1, h4]
  · show z6.toInt = _
    rw [s1, t6, hs, h6]
  · show z7.toInt = _
    rw [s2, a7, hw, h7]
  · show z8.toInt = _
    rw [s3, a8, hw, h8]
theorem nmi_e {x z : Int64} (h : NMI g X v r 160 160 f) (e : x = f 6) (hz : z.toInt = clp x.toInt) : VLR g X v r (vp_updL f 6 z) := by
  obtain ⟨h0, h1, h2, h3, h4, h5, h6, h7, h8⟩ := h
  rw [← e] at h6
  rw [h6] at hz
  intro k hk
  match k, hk with
  | 0, _ => exact h0
  | 1, _ => exact h1
  | 2, _ => exact h2
  | 3, _ => rw [val_3]; exact h3
  | 4, _ => rw [val_4]; exact h4
  | 5, _ => exact h5
  | 6, _ => rw [val_6]; exact hz
  | 7, _ => rw [val_7]; exact h7
  | 8, _ => exact h8
  | k + 9, hk => exact absurd hk (by omega)
end NMI
theorem are1_n {g : GVW} {p : Nat} (hp : p < 160) (h : ARE g 0 p = -1) : ARE g 1 p = -1 := are_no (by rw [are_f hp rfl] at h; exact h)

/-! the reference works a program out -/
def RPC (s : GS) : Prop := 0 < (s.1 186 1).toInt ∧ (s.1 186 1).toInt < (s.1 186 2).toInt
theorem rcd_a {w v : Int} (h : w = 0) : rcd w v = v := if_pos h
theorem rcd_b {w v : Int} (h : w = 1) : rcd w v = 1000000 + v := by unfold rcd; rw [if_neg (by omega), if_pos h]
theorem rcd_c {w v : Int} (h : w = 2) : rcd w v = 1000226 := by unfold rcd; rw [if_neg (by omega), if_neg (by omega), if_pos h]
theorem rcd_d {w v : Int} (h : 2 < w) : rcd w v = 1000100 + w := by unfold rcd; rw [if_neg (by omega), if_neg (by omega), if_neg (by omega)]
theorem pok_fr {s t : GS} {L : FM} (h : POK s) (hF : Fr L s t) (hk : (qI L.1 184 && qI L.1 185 && qI L.1 186) = true) : POK t := by
  simp only [Bool.and_eq_true] at hk
  unfold POK at h ⊢
  rw [hF.1 184 hk.1.1, hF.1 185 hk.1.2, hF.1 186 hk.2]
  exact h
theorem rpc_fr {s t : GS} {L : FM} (h : RPC s) (hF : Fr L s t) (hk : qI L.1 186 = true) : RPC t := by
  unfold RPC at h ⊢
  rw [hF.1 186 hk]
  exact h

theorem cdo_r {w v : Int32} (h : OKR w v) : CDO (rcd w.toInt v.toInt) := by
  obtain ⟨h1, h2, h3, h4⟩ := h
  intro a b
  by_cases c0 : w.toInt = 0
  · rw [rcd_a c0] at a b ⊢
    have := h2 c0
    omega
  · by_cases c1 : w.toInt = 1
    · rw [rcd_b c1] at a b ⊢
      have := h3 c1
      omega
    · by_cases c2 : w.toInt = 2
      · rw [rcd_c c2] at a b ⊢
        omega
      · rw [rcd_d (by omega)] at a b ⊢
        omega
theorem rcb {f g : Nat → Int32} : CBD (fun j => rcd (f j).toInt (g j).toInt) := by
  intro j _
  show BD (rcd (f j).toInt (g j).toInt)
  have a := i_rng (f j)
  have b := i_rng (g j)
  unfold In at a b
  unfold rcd BD
  split
  · omega
  · split
    · omega
    · split <;> omega
/-! the reference's rounds -/
def ALR (f : Nat → Int64) (v : Int) (W : Nat → Int) : Prop := ∀ u : Nat, (u : Int) < v → (f u).toInt = W u
theorem alr_0 {f : Nat → Int64} {v : Int} {W : Nat → Int} (h : v = 0) : ALR f v W := fun u hu => by omega
theorem alr_s {f : Nat → Int64} {v v2 : Int} {W : Nat → Int} {j : Nat} {z : Int64} (h : ALR f v W) (hj : (j : Int) = v) (hz : z.toInt = W j) (hv : v2 = v + 1) : ALR (vp_updL f j z) v2 W := fun u hu => by
  by_cases e : u = j
  · rw [e, vu_at]; exact hz
  · rw [vu_ne e]; exact h u (by omega)
section RW
variable {g : GVW} {C : Nat → Int} {a b v : Nat} {X : Nat → Int} {f : Nat → Int64} {r z o m : Int}
theorem rz_0 (hV : VLR g X v r f) (hr : r = 0) (hn : NDQ g) (hv : (v : Int) < g.2.2.2.2.2.2.1) (hX : ∀ u : Nat, (u : Int) < g.2.2.2.2.2.2.1 → X u = 0) (hC : ∀ j, j < a → CDO (C j)) (hz : z = EVP C (fun k => (f k).toInt) 0 a) : z = STA g C a b 0 v := by
  subst hr
  rw [nxv_0 (b := b) rfl hV hC hz]
  have e : VAL g X v 0 = VAL g (fun _ => 0) v 0 := funext (val_cg gew_r hn hv (fun w hw => hX w hw))
  unfold NXV
  rw [if_pos rfl, e]
  rfl
theorem rz_1 (hV : VLR g X v r f) (hr : 1 ≤ r) (hn : NDQ g) (hv : (v : Int) < g.2.2.2.2.2.2.1) (hX : ∀ u : Nat, (u : Int) < g.2.2.2.2.2.2.1 → X u = STA g C a b (r - 1).toNat u) (hC : ∀ j, j < b → CDO (C j)) (hz : z = EVP C (fun k => (f k).toInt) a b) : z = STA g C a b r.toNat v := by
  rw [nxv_1 (by omega) hV hC hz]
  exact enx_s hn hr hX hv
def RWI (g : GVW) (C : Nat → Int) (a b : Nat) (r o : Int) (f : Nat → Int64) : Prop := ALR f g.2.2.2.2.2.2.1 (STA g C a b r.toNat) ∧ (∀ q : Nat, (q : Int) + 1 < r → CHG g C a b q) ∧ (o ≠ 0 → 1 ≤ r → CHG g C a b (r - 1).toNat) ∧ (o = 0 → 1 ≤ r ∧ ¬ CHG g C a b (r - 1).toNat)
theorem rwi_0 (h : ALR f g.2.2.2.2.2.2.1 (STA g C a b 0)) (hr : r = 0) (ho : o ≠ 0) : RWI g C a b r o f := by
  subst hr
  exact ⟨h, fun q hq => by omega, fun _ k => by omega, fun k => absurd k ho⟩
theorem rwi_n {k : Nat} (h : ALR f g.2.2.2.2.2.2.1 (STA g C a b (k + 1))) (hh : ∀ q : Nat, q < k → CHG g C a b q) (hc : o ≠ 0 ↔ CHG g C a b k) (hr : r = (k : Int) + 1) : RWI g C a b r o f := by
  have e1 : r.toNat = k + 1 := by omega
  have e2 : (r - 1).toNat = k := by omega
  unfold RWI
  rw [e1, e2]
  exact ⟨h, fun q hq => hh q (by omega), fun k1 _ => hc.mp k1, fun k1 => ⟨by omega, fun k2 => hc.mpr k2 k1⟩⟩
/-- before another round: all so far have changed something -/
theorem rwi_h (h : RWI g C a b r o f) (ho : o ≠ 0) : ∀ q : Nat, q < r.toNat → CHG g C a b q := fun q hq => by
  by_cases c : (q : Int) + 1 < r
  · exact h.2.1 q c
  · rw [show q = (r - 1).toNat by omega]
    exact h.2.2.1 ho (by omega)
theorem rwi_e (h : RWI g C a b r o f) (h0 : 0 ≤ r) (hm : r ≤ m) (he : o = 0 ∨ m ≤ r) : EWP g C a b m r f := by
  refine ⟨⟨h0, hm, h.2.1, fun k => ?_⟩, h.1⟩
  rcases he with he | he
  · exact h.2.2.2 he
  · omega
end RW
def RUR (s t : GS) (C : Nat → Int) (sn : Nat) (x y w z : Int32) : Prop := ((t.2.2.1 109 0).toInt = 1 ∧ ¬ RUP x y w ∧ t.2.1 191 = s.2.1 191 ∧ t.2.2.1 109 sn = s.2.2.1 109 sn) ∨ ((t.2.2.1 109 0).toInt = 0 ∧ RUP x y w ∧ EWP (gvZ s) C (s.1 186 1).toInt.toNat (s.1 186 2).toInt.toNat x.toInt z.toInt (t.2.1 191) ∧ t.2.2.1 109 sn = s.2.2.1 109 20)

def STR (s t : GS) (sn : Nat) (x : Int32) (z : Int64) : Prop := ((t.2.2.1 109 0).toInt = 1 ∧ ¬ (0 ≤ x.toInt ∧ x.toInt < (s.2.2.1 109 sn).toInt)) ∨ ((t.2.2.1 109 0).toInt = 0 ∧ (0 ≤ x.toInt ∧ x.toInt < (s.2.2.1 109 sn).toInt) ∧ z = s.2.1 191 x.toNatClampNeg)

def RUC (s t : GS) (z : Int32) : Prop := (∀ u : Nat, (u : Int) < (shC s).2.2.2.2.2.2.1 → (t.2.1 107 u).toInt = STA (shC s) (fun j => (s.1 103 j).toInt) (s.2.2.1 102 1).toInt.toNat (s.2.2.1 102 2).toInt.toNat z.toInt.toNat u) ∧ (t.2.2.1 102 9).toInt = (shC s).2.2.2.2.2.2.1
