/-! WAYS OF THE REFERENCE: which node reaches which -/
abbrev nmx (s : GS) : Int := (s.2.2.1 109 20).toInt
def arq (s : GS) (u w : Nat) : Prop := ∃ a : Nat, a < 160 ∧ (s.1 112 (bs s + a)).toInt ≠ 0 ∧ (s.1 113 (bs s + a)).toNatClampNeg = u ∧ (s.1 114 (bs s + a)).toNatClampNeg = w
theorem nat_jn {y : Int32} {n : Int} (h : In y 0 31) (h2 : y.toInt < n) : y.toNatClampNeg < 32 ∧ (y.toNatClampNeg : Int) < n := by
  have e : y.toNatClampNeg = y.toInt.toNat := rfl
  obtain ⟨a, b⟩ := h
  constructor <;> omega
theorem arq_n {s : GS} (hI : Inv s) {u w : Nat} (h : arq s u w) : (u < 32 ∧ (u : Int) < nmx s) ∧ w < 32 ∧ (w : Int) < nmx s := by
  obtain ⟨a, ha, ht, h1, h2⟩ := h
  have hn := arc_n hI ha ht
  have n1 := nat_jn hn.1.1 hn.1.2
  have n2 := nat_jn hn.2.1.1 hn.2.1.2
  rw [h1] at n1
  rw [h2] at n2
  exact ⟨n1, n2⟩
theorem arq_cg {s t : GS} (h2 : t.1 112 = s.1 112) (h3 : t.1 113 = s.1 113) (h4 : t.1 114 = s.1 114) (h7 : t.2.2.1 109 19 = s.2.2.1 109 19) : arq t = arq s := by
  funext u w
  unfold arq bs
  rw [h2, h3, h4, h7]
def wkq (E : Nat → Nat → Prop) : Nat → Nat → Nat → Prop
  | 0, u, w => u = w
  | j + 1, u, w => ∃ x, E u x ∧ wkq E j x w
def wlq (E : Nat → Nat → Prop) (u w : Nat) : Prop := ∃ j, wkq E j u w
theorem wl_0 {E : Nat → Nat → Prop} {u : Nat} : wlq E u u := ⟨0, rfl⟩
theorem wl_1 {E : Nat → Nat → Prop} {u w : Nat} (h : E u w) : wlq E u w := ⟨1, w, h, rfl⟩
theorem wl_t {E : Nat → Nat → Prop} {v w : Nat} (h2 : wlq E v w) : ∀ j u, wkq E j u v → wlq E u w := by
  intro j
  induction j with
  | zero => intro u h; rw [show u = v from h]; exact h2
  | succ j ih =>
    intro u h
    obtain ⟨x, hx, hw⟩ := h
    obtain ⟨k, hk⟩ := ih x hw
    exact ⟨k + 1, x, hx, hk⟩
theorem wl_tr {E : Nat → Nat → Prop} {u v w : Nat} (h1 : wlq E u v) (h2 : wlq E v w) : wlq E u w := by
  obtain ⟨j, hj⟩ := h1
  exact wl_t h2 j u hj
theorem up_e {f : Nat → Int32} {k : Nat} {b : Int32} : upd f k b k = b := by unfold upd; rw [if_pos rfl]
theorem up_n {f : Nat → Int32} {k y : Nat} {b : Int32} (h : y ≠ k) : upd f k b y = f y := by unfold upd; rw [if_neg h]
def RQ1 (s : GS) (f : Nat → Int32) (k : Nat) : Prop := (∀ u w : Nat, (u : Int) < nmx s → bt (f u) w = true → wlq (arq s) u w) ∧ ∀ a, a < k → (s.1 112 (bs s + a)).toInt ≠ 0 → bt (f (s.1 113 (bs s + a)).toNatClampNeg) (s.1 114 (bs s + a)).toNatClampNeg = true
theorem rq1_0 {s : GS} {f : Nat → Int32} (h : ∀ u w : Nat, (u : Int) < nmx s → bt (f u) w = true → u = w) : RQ1 s f 0 := ⟨fun u w hu hb => by rw [h u w hu hb]; exact wl_0, fun a ha => absurd ha (Nat.not_lt_zero _)⟩
theorem rq1_no {s : GS} {f : Nat → Int32} {k : Nat} (h : RQ1 s f k) (ht : (s.1 112 (bs s + k)).toInt = 0) : RQ1 s f (k + 1) := by
  refine ⟨h.1, fun a ha hth => ?_⟩
  by_cases c : a = k
  · rw [c] at hth; exact absurd ht hth
  · exact h.2 a (by omega) hth
theorem rq1_st {s : GS} {f : Nat → Int32} {k : Nat} {u v z1 x1 z2 x2 z3 : Int32} (h : RQ1 s f k) (hk : k < 160) (ht : (s.1 112 (bs s + k)).toInt ≠ 0) (hu : u = s.1 113 (bs s + k)) (hv : v = s.1 114 (bs s + k)) (hvr : In v 0 31) (e0 : x1 = f u.toNatClampNeg) (e1 : z1 = Int32.ofInt 1 <<< (v &&& 31)) (e2 : z2 = x1 ||| z1) (e3 : x2 = upd f u.toNatClampNeg z2 v.toNatClampNeg) (e4 : z3 = x2 ||| Int32.ofInt 0) : RQ1 s (upd (upd f u.toNatClampNeg z2) v.toNatClampNeg z3) (k + 1) := by
  have row : ∀ y w, bt (upd (upd f u.toNatClampNeg z2) v.toNatClampNeg z3 y) w = bt (upd f u.toNatClampNeg z2 y) w := by
    intro y w
    by_cases c : y = v.toNatClampNeg
    · rw [c, up_e, bt_or e4, show (Int32.ofInt 0) = (0 : Int32) from rfl, bt_z, Bool.or_false, e3]
    · rw [up_n c]
  have ha : arq s u.toNatClampNeg v.toNatClampNeg := ⟨k, hk, ht, by rw [hu], by rw [hv]⟩
  refine ⟨fun y w hy hb => ?_, fun a hlt hth => ?_⟩
  · rw [row] at hb
    by_cases c : y = u.toNatClampNeg
    · rw [c, up_e, bt_set e1 e2 hvr, e0] at hb
      rw [c] at hy ⊢
      rcases (Bool.or_eq_true _ _).mp hb with q | q
      · exact h.1 _ w hy q
      · rw [of_decide_eq_true q]; exact wl_1 ha
    · rw [up_n c] at hb
      exact h.1 y w hy hb
  · rw [row]
    by_cases c : a = k
    · rw [c, ← hu, ← hv, up_e, bt_set e1 e2 hvr, decide_eq_true rfl, Bool.or_true]
    · have q := h.2 a (by omega) hth
      by_cases c2 : (s.1 113 (bs s + a)).toNatClampNeg = u.toNatClampNeg
      · rw [c2] at q ⊢
        rw [up_e, bt_set e1 e2 hvr, e0, q, Bool.true_or]
      · rw [up_n c2]; exact q
def RQ2 (s : GS) (f : Nat → Int32) (m : Nat) : Prop := RQ1 s f 160 ∧ ∀ v u w : Nat, v < m → (u : Int) < nmx s → bt (f u) v = true → bt (f v) w = true → bt (f u) w = true
def RQ3 (n : Int) (f0 f : Nat → Int32) (m : Nat) (c : Int) : Prop := ∀ u w : Nat, (u : Int) < n → (bt (f u) w = true ↔ (bt (f0 u) w = true ∨ ((u : Int) < c ∧ bt (f0 u) m = true ∧ bt (f0 m) w = true)))
theorem rq3_0 {n : Int} {f : Nat → Int32} {m : Nat} : RQ3 n f f m 0 := fun u w _ => ⟨Or.inl, fun h => by
  rcases h with h | h
  · exact h
  · omega⟩
theorem rq3_s {n c : Int} {f0 f : Nat → Int32} {m : Nat} {y z : Int32} (h : RQ3 n f0 f m c) (hy : y.toInt = c) (hy0 : 0 ≤ y.toInt) (hyn : y.toInt < n) (hm : (m : Int) < n) (hz : ∀ w, (bt z w = true ↔ (bt (f y.toNatClampNeg) w = true ∨ (bt (f y.toNatClampNeg) m = true ∧ bt (f m) w = true)))) : RQ3 n f0 (upd f y.toNatClampNeg z) m (c + 1) := by
  have ey : y.toNatClampNeg = y.toInt.toNat := rfl
  intro u w hu
  by_cases k : u = y.toNatClampNeg
  · rw [k, up_e, hz w]
    rw [k] at hu
    have a := h y.toNatClampNeg w hu
    have b := h y.toNatClampNeg m hu
    have d := h m w hm
    constructor
    · intro q
      rcases q with q | ⟨q1, q2⟩
      · rcases a.mp q with q | ⟨q, -, -⟩
        · exact Or.inl q
        · omega
      · have q3 : bt (f0 y.toNatClampNeg) m = true := by
          rcases b.mp q1 with q | ⟨q, -, -⟩
          · exact q
          · omega
        have q4 : bt (f0 m) w = true := by
          rcases d.mp q2 with q | ⟨-, -, q⟩
          · exact q
          · exact q
        exact Or.inr ⟨by omega, q3, q4⟩
    · intro q
      rcases q with q | ⟨-, q1, q2⟩
      · exact Or.inl (a.mpr (Or.inl q))
      · exact Or.inr ⟨b.mpr (Or.inl q1), d.mpr (Or.inl q2)⟩
  · rw [up_n k, h u w hu]
    constructor
    · intro q
      rcases q with q | ⟨q, q2⟩
      · exact Or.inl q
      · exact Or.inr ⟨by omega, q2⟩
    · intro q
      rcases q with q | ⟨q, q2⟩
      · exact Or.inl q
      · exact Or.inr ⟨by omega, q2⟩
theorem rq2_s {s : GS} {f0 f : Nat → Int32} {m : Nat} {c : Int} (hI : Inv s) (h : RQ2 s f0 m) (h3 : RQ3 (nmx s) f0 f m c) (hc : nmx s ≤ c) (hm : (m : Int) < nmx s) : RQ2 s f (m + 1) := by
  obtain ⟨⟨h1, h2⟩, ht⟩ := h
  have up : ∀ u w : Nat, (u : Int) < nmx s → bt (f0 u) w = true → bt (f u) w = true := fun u w hu hb => (h3 u w hu).mpr (Or.inl hb)
  refine ⟨⟨fun u w hu hb => ?_, fun a ha hth => ?_⟩, fun v u w hv hu b1 b2 => ?_⟩
  · rcases (h3 u w hu).mp hb with q | ⟨-, q1, q2⟩
    · exact h1 u w hu q
    · exact wl_tr (h1 u m hu q1) (h1 m w hm q2)
  · have hn := arc_n hI ha hth
    exact up _ _ (nat_jn hn.1.1 hn.1.2).2 (h2 a ha hth)
  · have hvn : (v : Int) < nmx s := by omega
    have p1 := (h3 u v hu).mp b1
    have p2 := (h3 v w hvn).mp b2
    refine (h3 u w hu).mpr ?_
    by_cases k : v = m
    · rw [k] at p1 p2
      have q1 : bt (f0 u) m = true := by
        rcases p1 with q | ⟨-, q, -⟩
        · exact q
        · exact q
      have q2 : bt (f0 m) w = true := by
        rcases p2 with q | ⟨-, -, q⟩
        · exact q
        · exact q
      exact Or.inr ⟨by omega, q1, q2⟩
    · have hvm : v < m := by omega
      rcases p1 with q | ⟨q0, q1, q2⟩ <;> rcases p2 with r | ⟨r0, r1, r2⟩
      · exact Or.inl (ht v u w hvm hu q r)
      · exact Or.inr ⟨by omega, ht v u m hvm hu q r1, r2⟩
      · exact Or.inr ⟨by omega, q1, ht v m w hvm hm q2 r⟩
      · exact Or.inr ⟨by omega, q1, r2⟩
def RCH (s : GS) (f : Nat → Int32) : Prop := (∀ u w : Nat, (u : Int) < nmx s → bt (f u) w = true → wlq (arq s) u w) ∧ (∀ u w : Nat, arq s u w → bt (f u) w = true) ∧ ∀ u v w : Nat, (u : Int) < nmx s → (v : Int) < nmx s → bt (f u) v = true → bt (f v) w = true → bt (f u) w = true
theorem rch_e {s : GS} {f : Nat → Int32} {m : Nat} (h : RQ2 s f m) (hm : nmx s ≤ (m : Int)) : RCH s f := by
  refine ⟨h.1.1, fun u w ha => ?_, fun u v w hu hv b1 b2 => h.2 v u w (by omega) hu b1 b2⟩
  obtain ⟨a, ha, ht, e1, e2⟩ := ha
  have q := h.1.2 a ha ht
  rw [e1, e2] at q
  exact q
theorem rch_cg {s t : GS} {f : Nat → Int32} (h : RCH s f) (h2 : t.1 112 = s.1 112) (h3 : t.1 113 = s.1 113) (h4 : t.1 114 = s.1 114) (h7 : t.2.2.1 109 19 = s.2.2.1 109 19) (h8 : t.2.2.1 109 20 = s.2.2.1 109 20) : RCH t f := by
  have e := arq_cg h2 h3 h4 h7
  have n : nmx t = nmx s := by unfold nmx; rw [h8]
  unfold RCH
  rw [e, n]
  exact h
/-- a set from which y is reached within it -/
def BTS (t : GS) (y : Nat) (set : Int32) : Prop := bt set y = true ∧ (∀ v : Nat, bt set v = true → (v : Int) < nmx t) ∧ ∀ v : Nat, bt set v = true → wlq (fun u w => arq t u w ∧ bt set u = true ∧ bt set w = true) v y
theorem bts_i {t : GS} {f : Nat → Int32} {x y : Nat} {set : Int32} (hI : Inv t) (hx : (x : Int) < nmx t) (hy : (y : Int) < nmx t) (hS : ∀ j : Nat, (j : Int) < nmx t → bt (f j) j = true) (hR : RCH t f) (hset : ∀ v : Nat, (bt set v = true ↔ ((v : Int) < nmx t ∧ bt (f x) v = true ∧ bt (f v) y = true))) (hnz : set.toInt ≠ 0) : BTS t y set ∧ bt set x = true := by
  obtain ⟨h1, h2, h3⟩ := hR
  obtain ⟨k, -, hk⟩ := cbf_pos (nz_cb hnz)
  obtain ⟨k1, k2, k3⟩ := (hset k).mp hk
  have hxy := h3 x k y hx k1 k2 k3
  have comp : ∀ (j u : Nat), (u : Int) < nmx t → wkq (arq t) j u y → bt (f u) y = true := by
    intro j
    induction j with
    | zero => intro u hu h; rw [show u = y from h]; exact hS y hy
    | succ j ih =>
      intro u hu h
      obtain ⟨z, hz, hw⟩ := h
      have hn := arq_n hI hz
      exact h3 u z y hu hn.2.2 (h2 u z hz) (ih z hn.2.2 hw)
  have main : ∀ j v, bt set v = true → wkq (arq t) j v y → wlq (fun u w => arq t u w ∧ bt set u = true ∧ bt set w = true) v y := by
    intro j
    induction j with
    | zero => intro v _ h; rw [show v = y from h]; exact wl_0
    | succ j ih =>
      intro v hv h
      obtain ⟨z, hz, hw⟩ := h
      have hn := arq_n hI hz
      obtain ⟨v1, v2, v3⟩ := (hset v).mp hv
      have hzs : bt set z = true := (hset z).mpr ⟨hn.2.2, h3 x v z hx v1 v2 (h2 v z hz), comp j z hn.2.2 hw⟩
      obtain ⟨i, hi⟩ := ih z hzs hw
      exact ⟨i + 1, z, ⟨hz, hv, hzs⟩, hi⟩
  refine ⟨⟨(hset y).mpr ⟨hy, hxy, hS y hy⟩, fun v hv => ((hset v).mp hv).1, fun v hv => ?_⟩, (hset x).mpr ⟨hx, hS x hx, hxy⟩⟩
  obtain ⟨v1, v2, v3⟩ := (hset v).mp hv
  obtain ⟨j, hj⟩ := h1 v y v1 v3
  exact main j v hv hj
/-- toGoal: far, with the arc by which it was last changed -/
def TGI (s : GS) (y : Nat) (set : Int32) (B : Int) (t : GS) : Prop := (t.2.1 130 y).toInt < 9000000000000000 ∧ ∃ (τ : Nat → Nat) (T : Nat), (∀ v, τ v < T) ∧ ∀ v : Nat, v < 32 → (v : Int) < nmx s → (t.2.1 130 v).toInt < 9000000000000000 → (-B ≤ (t.2.1 130 v).toInt ∧ (t.2.1 130 v).toInt ≤ B) ∧ (v ≠ y → ∃ a : Nat, a < 160 ∧ (s.1 112 (bs s + a)).toInt ≠ 0 ∧ (s.1 113 (bs s + a)).toNatClampNeg = v ∧ bt set v = true ∧ bt set (s.1 114 (bs s + a)).toNatClampNeg = true ∧ (t.2.1 130 (s.1 114 (bs s + a)).toNatClampNeg).toInt < 9000000000000000 ∧ (t.2.1 130 (s.1 114 (bs s + a)).toNatClampNeg).toInt + (s.1 115 (bs s + a)).toInt ≤ (t.2.1 130 v).toInt ∧ ((t.2.1 130 (s.1 114 (bs s + a)).toNatClampNeg).toInt + (s.1 115 (bs s + a)).toInt = (t.2.1 130 v).toInt → τ (s.1 114 (bs s + a)).toNatClampNeg < τ v))
def TCL (s : GS) (set : Int32) (t : GS) (k : Nat) : Prop := ∀ a, a < k → (s.1 112 (bs s + a)).toInt ≠ 0 → bt set (s.1 113 (bs s + a)).toNatClampNeg = true → bt set (s.1 114 (bs s + a)).toNatClampNeg = true → (t.2.1 130 (s.1 114 (bs s + a)).toNatClampNeg).toInt < 9000000000000000 → (t.2.1 130 (s.1 113 (bs s + a)).toNatClampNeg).toInt ≤ (t.2.1 130 (s.1 114 (bs s + a)).toNatClampNeg).toInt + (s.1 115 (bs s + a)).toInt
theorem tgi_w {s t : GS} {y : Nat} {set : Int32} {B C : Int} (h : TGI s y set B t) (hBC : B ≤ C) : TGI s y set C t := by
  obtain ⟨h1, τ, T, h2, h3⟩ := h
  refine ⟨h1, τ, T, h2, fun v hv hn hq => ?_⟩
  have q := h3 v hv hn hq
  exact ⟨⟨by omega, by omega⟩, q.2⟩
theorem tgi_0 {s t : GS} {y : Nat} {set : Int32} {B : Int} (hB : 0 ≤ B) (hy : (t.2.1 130 y).toInt = 0) (h : ∀ v : Nat, (v : Int) < nmx s → v ≠ y → (t.2.1 130 v).toInt = 9000000000000000) : TGI s y set B t := by
  refine ⟨by omega, fun _ => 0, 1, fun _ => Nat.zero_lt_one, fun v hv hn hq => ?_⟩
  by_cases c : v = y
  · rw [c, hy]
    exact ⟨⟨by omega, by omega⟩, fun k => absurd rfl k⟩
  · have := h v hn c
    omega
theorem tgi_ch {s t T2 : GS} {y : Nat} {set : Int32} {B C : Int} {a : Nat} {u v : Int32} {p z wl : Int64} {w : Int32} (hI : Inv s) (h : TGI s y set B t) (ha : a < 160) (ht : (s.1 112 (bs s + a)).toInt ≠ 0) (hv : v = s.1 113 (bs s + a)) (hu : u = s.1 114 (bs s + a)) (hw : w = s.1 115 (bs s + a)) (bv : bt set v.toNatClampNeg = true) (bu : bt set u.toNatClampNeg = true) (ep : p = t.2.1 130 u.toNatClampNeg) (hp : p.toInt < 9000000000000000) (ez : z = p + wl) (el : wl.toInt = w.toInt) (hlt : z.toInt < (t.2.1 130 v.toNatClampNeg).toInt) (hT : T2.2.1 130 = vp_updL (t.2.1 130) v.toNatClampNeg z) (hB : 0 ≤ B) (hB2 : B ≤ 1000000000000) (hC : B + 1000000 ≤ C) : TGI s y set C T2 := by
  obtain ⟨h1, τ, T, h2, h3⟩ := h
  have hn := arc_n hI ha ht
  rw [← hv, ← hu] at hn
  have n1 := nat_jn hn.1.1 hn.1.2
  have n2 := nat_jn hn.2.1.1 hn.2.1.2
  have hb : In (s.2.2.1 109 19) 0 160 := inv_F hI 0 160 rfl rfl
  obtain ⟨b1, b2⟩ := hb
  have eb : bs s = (s.2.2.1 109 19).toInt.toNat := rfl
  have hwr : In (s.1 115 (bs s + a)) (-1000000) 1000000 := hI.1.1 115 (bs s + a) (show bs s + a < 480 by omega)
  rw [← hw] at hwr
  obtain ⟨w1, w2⟩ := hwr
  have pb := (h3 _ n2.1 n2.2 (by rw [← ep]; exact hp)).1
  rw [← ep] at pb
  have hz : z.toInt = p.toInt + w.toInt := by rw [ladd_t ez (by omega) (by omega), el]
  have fv : (T2.2.1 130 v.toNatClampNeg).toInt = z.toInt := by rw [hT, ul_eq]
  have fo : ∀ k, k ≠ v.toNatClampNeg → (T2.2.1 130 k).toInt = (t.2.1 130 k).toInt := by intro k hk; rw [hT, ul_ne hk]
  have fle : ∀ k, (T2.2.1 130 k).toInt ≤ (t.2.1 130 k).toInt := by
    intro k
    by_cases c : k = v.toNatClampNeg
    · rw [c, fv]; omega
    · rw [fo k c]; exact Int.le_refl _
  refine ⟨by have := fle y; omega, fun k => if k = v.toNatClampNeg then T else τ k, T + 1, fun k => ?_, fun k hk hkn hq => ?_⟩
  · dsimp only
    have := h2 k
    split <;> omega
  · dsimp only
    by_cases c : k = v.toNatClampNeg
    · rw [c, fv]
      refine ⟨⟨by omega, by omega⟩, fun _ => ⟨a, ha, ht, by rw [hv], bv, by rw [← hu]; exact bu, ?_, ?_, ?_⟩⟩
      · rw [← hu]
        have := fle u.toNatClampNeg
        rw [ep] at hp
        omega
      · rw [← hu, ← hw]
        have := fle u.toNatClampNeg
        rw [← ep] at this
        omega
      · rw [← hu, ← hw, if_pos rfl]
        intro q
        by_cases c2 : u.toNatClampNeg = v.toNatClampNeg
        · exfalso
          rw [c2, fv] at q
          rw [c2] at ep
          rw [← ep] at hlt
          omega
        · rw [if_neg c2]; exact h2 _
    · rw [fo k c] at hq ⊢
      obtain ⟨q1, q2⟩ := h3 k hk hkn hq
      refine ⟨⟨by omega, by omega⟩, fun hy => ?_⟩
      obtain ⟨a2, r1, r2, r3, r4, r5, r6, r7, r8⟩ := q2 hy
      refine ⟨a2, r1, r2, r3, r4, r5, ?_, ?_, ?_⟩
      · have := fle (s.1 114 (bs s + a2)).toNatClampNeg
        omega
      · have := fle (s.1 114 (bs s + a2)).toNatClampNeg
        omega
      · intro q
        rw [if_neg c]
        by_cases c2 : (s.1 114 (bs s + a2)).toNatClampNeg = v.toNatClampNeg
        · exfalso
          rw [c2] at q r7
          rw [fv] at q
          omega
        · rw [if_neg c2]
          rw [fo _ c2] at q
          exact r8 q
theorem tcl_s {s t : GS} {set : Int32} {k : Nat} (h : TCL s set t k) (hk : (s.1 112 (bs s + k)).toInt ≠ 0 → bt set (s.1 113 (bs s + k)).toNatClampNeg = true → bt set (s.1 114 (bs s + k)).toNatClampNeg = true → (t.2.1 130 (s.1 114 (bs s + k)).toNatClampNeg).toInt < 9000000000000000 → (t.2.1 130 (s.1 113 (bs s + k)).toNatClampNeg).toInt ≤ (t.2.1 130 (s.1 114 (bs s + k)).toNatClampNeg).toInt + (s.1 115 (bs s + k)).toInt) : TCL s set t (k + 1) := by
  intro a ha
  by_cases c : a = k
  · rw [c]; exact hk
  · exact h a (by omega)
/-- tight arcs -/
def TAQ (s : GS) (set : Int32) (u w : Nat) : Prop := ∃ a : Nat, a < 160 ∧ (s.1 112 (bs s + a)).toInt ≠ 0 ∧ (s.1 113 (bs s + a)).toNatClampNeg = u ∧ (s.1 114 (bs s + a)).toNatClampNeg = w ∧ bt set u = true ∧ bt set w = true ∧ (s.2.1 130 w).toInt < 9000000000000000 ∧ (s.2.1 130 u).toInt = (s.2.1 130 w).toInt + (s.1 115 (bs s + a)).toInt
def FWP (t : GS) (y : Nat) (set : Int32) : Prop := bt set y = true ∧ (∀ v : Nat, bt set v = true → (v : Int) < nmx t ∧ (t.2.1 130 v).toInt < 9000000000000000 ∧ -1000000000000 ≤ (t.2.1 130 v).toInt ∧ (t.2.1 130 v).toInt ≤ 1000000000000) ∧ ∃ r : Nat → Nat, ∀ v : Nat, bt set v = true → (r v : Int) < nmx t ∧ (v ≠ y → ∃ w, TAQ t set v w ∧ r w < r v)
theorem fwp_i {s t : GS} {y : Nat} {set : Int32} {B : Int} (hI : Inv s) (h2 : t.1 112 = s.1 112) (h3 : t.1 113 = s.1 113) (h4 : t.1 114 = s.1 114) (h5 : t.1 115 = s.1 115) (h7 : t.2.2.1 109 19 = s.2.2.1 109 19) (h8 : t.2.2.1 109 20 = s.2.2.1 109 20) (hb : BTS s y set) (h : TGI s y set B t) (hB : B ≤ 1000000000000) (hc : TCL s set t 160) : FWP t y set := by
  have nt : nmx t = nmx s := by unfold nmx; rw [h8]
  have bt' : bs t = bs s := by unfold bs; rw [h7]
  obtain ⟨b1, b2, b3⟩ := hb
  obtain ⟨g1, τ, T, g2, g3⟩ := h
  have fin : ∀ j v, bt set v = true → wkq (fun u w => arq s u w ∧ bt set u = true ∧ bt set w = true) j v y → (t.2.1 130 v).toInt < 9000000000000000 := by
    intro j
    induction j with
    | zero => intro v _ q; rw [show v = y from q]; exact g1
    | succ j ih =>
      intro v hv q
      obtain ⟨x, ⟨hx, -, hxs⟩, hw⟩ := q
      have hn := arq_n hI hx
      have hf := ih x hxs hw
      have bx := (g3 x hn.2.1 hn.2.2 hf).1
      obtain ⟨a, ha, ht, e1, e2⟩ := hx
      have hwr : In (s.1 115 (bs s + a)) (-1000000) 1000000 := by
        have hb : In (s.2.2.1 109 19) 0 160 := inv_F hI 0 160 rfl rfl
        obtain ⟨p1, p2⟩ := hb
        have eb : bs s = (s.2.2.1 109 19).toInt.toNat := rfl
        exact hI.1.1 115 (bs s + a) (show bs s + a < 480 by omega)
      obtain ⟨w1, w2⟩ := hwr
      have q := hc a ha ht
      rw [e1, e2] at q
      have := q hv hxs hf
      omega
  have fin2 : ∀ v, bt set v = true → (t.2.1 130 v).toInt < 9000000000000000 := by
    intro v hv
    obtain ⟨j, hj⟩ := b3 v hv
    exact fin j v hv hj
  refine ⟨b1, fun v hv => ?_, fun v => cq (fun u => decide (τ u < τ v)) (nmx s).toNat, fun v hv => ⟨?_, fun hy => ?_⟩⟩
  · have f := fin2 v hv
    have q := (g3 v (bt_lt hv) (b2 v hv) f).1
    exact ⟨by rw [nt]; exact b2 v hv, f, by omega, by omega⟩
  · rw [nt]
    have hvn := b2 v hv
    have q := cq_lt (p := fun u => decide (τ u < τ v)) (q := fun _ => true) (k := v) (nmx s).toNat (fun _ _ _ => rfl) (by omega) (decide_eq_false (Nat.lt_irrefl _)) rfl
    have q2 := cq_le (fun _ => true) (nmx s).toNat
    dsimp only
    omega
  · obtain ⟨a, r1, r2, r3, r4, r5, r6, r7, r8⟩ := (g3 v (bt_lt hv) (b2 v hv) (fin2 v hv)).2 hy
    have cl := hc a r1 r2 (by rw [r3]; exact hv) r5 r6
    rw [r3] at cl
    have tl := r8 (by omega)
    have hwn := b2 _ r5
    refine ⟨(s.1 114 (bs s + a)).toNatClampNeg, ⟨a, r1, by rw [h2, bt']; exact r2, by rw [h3, bt']; exact r3, by rw [h4, bt'], hv, r5, r6, by rw [h5, bt']; omega⟩, ?_⟩
    refine cq_lt (k := (s.1 114 (bs s + a)).toNatClampNeg) (nmx s).toNat (fun i _ hi => ?_) (by omega) (decide_eq_false (Nat.lt_irrefl _)) (decide_eq_true tl)
    exact decide_eq_true (Nat.lt_trans (of_decide_eq_true hi) tl)
/-- fewest: how many tight arcs lead to y -/
def HHQ (E : Nat → Nat → Prop) (y : Nat) : Nat → Nat → Prop
  | 0, v => v = y
  | j + 1, v => HHQ E y j v ∨ ∃ w, E v w ∧ HHQ E y j w
theorem hh_m {E : Nat → Nat → Prop} {y j v : Nat} (h : HHQ E y j v) : ∀ k, j ≤ k → HHQ E y k v := by
  intro k
  induction k with
  | zero => intro hk; rw [show 0 = j by omega]; exact h
  | succ k ih =>
    intro hk
    by_cases c : j = k + 1
    · rw [← c]; exact h
    · exact Or.inl (ih (by omega))
def FQ (s : GS) (y : Nat) (set : Int32) (f : Nat → Int32) (i : Nat) : Prop := (∀ v : Nat, v < 32 → (v : Int) < nmx s → 0 ≤ (f v).toInt ∧ (f v).toInt ≤ 1000) ∧ (∀ j v : Nat, j ≤ i → v < 32 → (v : Int) < nmx s → HHQ (TAQ s set) y j v → (f v).toInt ≤ (j : Int)) ∧ ∀ v : Nat, v < 32 → (v : Int) < nmx s → (f v).toInt < 1000 → HHQ (TAQ s set) y (f v).toNatClampNeg v
theorem fq_0 {s : GS} {y : Nat} {set : Int32} {f : Nat → Int32} (h : ∀ v : Nat, (v : Int) < nmx s → (f v).toInt = if v = y then 0 else 1000) : FQ s y set f 0 := by
  refine ⟨fun v _ hn => ?_, fun j v hj _ hn hh => ?_, fun v _ hn hq => ?_⟩
  · rw [h v hn]
    split <;> constructor <;> omega
  · have e : j = 0 := by omega
    rw [e] at hh
    rw [h v hn, if_pos (show v = y from hh)]
    omega
  · have e := h v hn
    by_cases c : v = y
    · rw [if_pos c] at e
      rw [show (f v).toNatClampNeg = 0 from (by show (f v).toInt.toNat = 0; omega)]
      exact c
    · rw [if_neg c] at e
      omega
def FQI (s : GS) (y : Nat) (set : Int32) (f : Nat → Int32) (i k : Nat) : Prop := FQ s y set f i ∧ ∀ a, a < k → (s.1 112 (bs s + a)).toInt ≠ 0 → bt set (s.1 113 (bs s + a)).toNatClampNeg = true → bt set (s.1 114 (bs s + a)).toNatClampNeg = true → (s.2.1 130 (s.1 114 (bs s + a)).toNatClampNeg).toInt < 9000000000000000 → (s.2.1 130 (s.1 113 (bs s + a)).toNatClampNeg).toInt = (s.2.1 130 (s.1 114 (bs s + a)).toNatClampNeg).toInt + (s.1 115 (bs s + a)).toInt → HHQ (TAQ s set) y i (s.1 114 (bs s + a)).toNatClampNeg → (f (s.1 113 (bs s + a)).toNatClampNeg).toInt ≤ (i : Int) + 1
theorem fqi_0 {s : GS} {y : Nat} {set : Int32} {f : Nat → Int32} {i : Nat} (h : FQ s y set f i) : FQI s y set f i 0 := ⟨h, fun a ha => absurd ha (Nat.not_lt_zero _)⟩
theorem fqi_no {s : GS} {y : Nat} {set : Int32} {f : Nat → Int32} {i k : Nat} (h : FQI s y set f i k) (hk : (s.1 112 (bs s + k)).toInt ≠ 0 → bt set (s.1 113 (bs s + k)).toNatClampNeg = true → bt set (s.1 114 (bs s + k)).toNatClampNeg = true → (s.2.1 130 (s.1 114 (bs s + k)).toNatClampNeg).toInt < 9000000000000000 → (s.2.1 130 (s.1 113 (bs s + k)).toNatClampNeg).toInt = (s.2.1 130 (s.1 114 (bs s + k)).toNatClampNeg).toInt + (s.1 115 (bs s + k)).toInt → False) : FQI s y set f i (k + 1) := by
  refine ⟨h.1, fun a ha q1 q2 q3 q4 q5 q6 => ?_⟩
  by_cases c : a = k
  · rw [c] at q1 q2 q3 q4 q5
    exact (hk q1 q2 q3 q4 q5).elim
  · exact h.2 a (by omega) q1 q2 q3 q4 q5 q6
theorem fqi_st {s : GS} {y : Nat} {set : Int32} {f : Nat → Int32} {i k : Nat} {u v x z : Int32} (hI : Inv s) (h : FQI s y set f i k) (hk : k < 160) (ht : (s.1 112 (bs s + k)).toInt ≠ 0) (hv : v = s.1 113 (bs s + k)) (hu : u = s.1 114 (bs s + k)) (bv : bt set v.toNatClampNeg = true) (bu : bt set u.toNatClampNeg = true) (h9 : (s.2.1 130 u.toNatClampNeg).toInt < 9000000000000000) (ht2 : (s.2.1 130 v.toNatClampNeg).toInt = (s.2.1 130 u.toNatClampNeg).toInt + (s.1 115 (bs s + k)).toInt) (hx : x.toInt = (f u.toNatClampNeg).toInt + 1) (hz : (x.toInt < (f v.toNatClampNeg).toInt ∧ z = x) ∨ ((f v.toNatClampNeg).toInt ≤ x.toInt ∧ z = f v.toNatClampNeg)) : FQI s y set (upd f v.toNatClampNeg z) i (k + 1) := by
  obtain ⟨⟨h1, h2, h3⟩, h4⟩ := h
  have hn := arc_n hI hk ht
  rw [← hv, ← hu] at hn
  have n1 := nat_jn hn.1.1 hn.1.2
  have n2 := nat_jn hn.2.1.1 hn.2.1.2
  have ta : TAQ s set v.toNatClampNeg u.toNatClampNeg := ⟨k, hk, ht, by rw [hv], by rw [hu], bv, bu, h9, ht2⟩
  have bu1 := h1 _ n2.1 n2.2
  have bv1 := h1 _ n1.1 n1.2
  have zle : z.toInt ≤ (f v.toNatClampNeg).toInt ∧ z.toInt ≤ x.toInt ∧ 0 ≤ z.toInt := by
    rcases hz with ⟨q, e⟩ | ⟨q, e⟩
    · rw [e]; exact ⟨by omega, by omega, by omega⟩
    · rw [e]; exact ⟨by omega, by omega, by omega⟩
  have fle : ∀ j, (upd f v.toNatClampNeg z j).toInt ≤ (f j).toInt := by
    intro j
    by_cases c : j = v.toNatClampNeg
    · rw [c, up_e]; exact zle.1
    · rw [up_n c]; exact Int.le_refl _
  refine ⟨⟨fun j hj hjn => ?_, fun m j hm hj hjn hh => ?_, fun j hj hjn hq => ?_⟩, fun a ha q1 q2 q3 q4 q5 q6 => ?_⟩
  · have := h1 j hj hjn
    have := fle j
    refine ⟨?_, by omega⟩
    by_cases c : j = v.toNatClampNeg
    · rw [c, up_e]; exact zle.2.2
    · rw [up_n c]; omega
  · have := h2 m j hm hj hjn hh
    have := fle j
    omega
  · by_cases c : j = v.toNatClampNeg
    · rw [c] at hjn ⊢
      rw [c, up_e] at hq
      rw [up_e]
      rcases hz with ⟨q, e⟩ | ⟨q, e⟩
      · rw [e]
        rw [e] at hq
        rw [show x.toNatClampNeg = (f u.toNatClampNeg).toNatClampNeg + 1 from (by show x.toInt.toNat = (f u.toNatClampNeg).toInt.toNat + 1; omega)]
        exact Or.inr ⟨_, ta, h3 _ n2.1 n2.2 (by omega)⟩
      · rw [e]
        rw [e] at hq
        exact h3 _ n1.1 n1.2 hq
    · rw [up_n c] at hq ⊢
      exact h3 j hj hjn hq
  · by_cases c : a = k
    · rw [c, ← hv, up_e]
      rw [c, ← hu] at q6
      have := h2 i _ (Nat.le_refl _) n2.1 n2.2 q6
      omega
    · have := h4 a (by omega) q1 q2 q3 q4 q5 q6
      have := fle (s.1 113 (bs s + a)).toNatClampNeg
      omega
theorem fq_r {s : GS} {y : Nat} {set : Int32} {f : Nat → Int32} {i : Nat} (h : FQI s y set f i 160) : FQ s y set f (i + 1) := by
  obtain ⟨⟨h1, h2, h3⟩, h4⟩ := h
  refine ⟨h1, fun j v hj hv hn hh => ?_, h3⟩
  by_cases c : j = i + 1
  · rw [c] at hh ⊢
    rcases hh with hh | ⟨w, ⟨a, a1, a2, a3, a4, a5, a6, a7, a8⟩, hw⟩
    · have := h2 i v (Nat.le_refl _) hv hn hh
      omega
    · have q := h4 a a1 a2
      rw [a3, a4] at q
      have := q a5 a6 a7 a8 hw
      omega
  · exact h2 j v (by omega) hv hn hh
/-- an arc that way goes -/
def WOK (t : GS) (set : Int32) (v a : Nat) : Prop := (t.1 112 (bs t + a)).toInt ≠ 0 ∧ (t.1 113 (bs t + a)).toNatClampNeg = v ∧ bt set (t.1 114 (bs t + a)).toNatClampNeg = true ∧ (t.2.1 130 (t.1 114 (bs t + a)).toNatClampNeg).toInt < 9000000000000000 ∧ (t.2.1 130 v).toInt = (t.2.1 130 (t.1 114 (bs t + a)).toNatClampNeg).toInt + (t.1 115 (bs t + a)).toInt ∧ (t.1 131 v).toInt = (t.1 131 (t.1 114 (bs t + a)).toNatClampNeg).toInt + 1
def WFN (t : GS) (y : Nat) (set : Int32) : Prop := ∀ v : Nat, bt set v = true → (v : Int) < nmx t ∧ (-1000000000000 ≤ (t.2.1 130 v).toInt ∧ (t.2.1 130 v).toInt ≤ 1000000000000) ∧ (0 ≤ (t.1 131 v).toInt ∧ (t.1 131 v).toInt ≤ 1000) ∧ (1 ≤ (t.1 131 v).toInt → ∃ a : Nat, a < 160 ∧ WOK t set v a)
theorem wfn_i {s t : GS} {y : Nat} {set : Int32} {n : Nat} (n1 : nmx s ≤ 32) (h2 : t.1 112 = s.1 112) (h3 : t.1 113 = s.1 113) (h4 : t.1 114 = s.1 114) (h5 : t.1 115 = s.1 115) (h6 : t.2.1 130 = s.2.1 130) (h7 : t.2.2.1 109 19 = s.2.2.1 109 19) (h8 : t.2.2.1 109 20 = s.2.2.1 109 20) (h : FWP s y set) (hf : FQ s y set (t.1 131) n) (hn : nmx s ≤ (n : Int)) : WFN t y set := by
  have nt : nmx t = nmx s := by unfold nmx; rw [h8]
  have bt' : bs t = bs s := by unfold bs; rw [h7]
  obtain ⟨b1, b2, r, hr⟩ := h
  obtain ⟨f1, f2, f3⟩ := hf
  have HR : ∀ (m v : Nat), r v ≤ m → bt set v = true → HHQ (TAQ s set) y (r v) v := by
    intro m
    induction m with
    | zero =>
      intro v hm hv
      by_cases c : v = y
      · exact hh_m (j := 0) c _ (Nat.zero_le _)
      · obtain ⟨w, -, hw⟩ := (hr v hv).2 c
        omega
    | succ m ih =>
      intro v hm hv
      by_cases c : v = y
      · exact hh_m (j := 0) c _ (Nat.zero_le _)
      · obtain ⟨w, hw, hlt⟩ := (hr v hv).2 c
        have hws : bt set w = true := by obtain ⟨a, -, -, -, -, -, q, -, -⟩ := hw; exact q
        have q := ih w (by omega) hws
        exact hh_m (j := r w + 1) (Or.inr ⟨w, hw, q⟩) _ (by omega)
  have le : ∀ v, bt set v = true → (t.1 131 v).toInt ≤ (r v : Int) := by
    intro v hv
    have a := (hr v hv).1
    exact f2 (r v) v (by omega) (bt_lt hv) (b2 v hv).1 (HR _ v (Nat.le_refl _) hv)
  intro v hv
  have bv := b2 v hv
  have fv := f1 v (bt_lt hv) bv.1
  refine ⟨by rw [nt]; exact bv.1, by rw [h6]; exact bv.2.2, fv, fun h1 => ?_⟩
  have lv := le v hv
  have rv := (hr v hv).1
  have n32 : (r v : Int) < 1000 := by
    have q := bt_lt hv
    rcases Int.lt_or_le (r v : Int) 1000 with z | z
    · exact z
    · exfalso
      omega
  have hh := f3 v (bt_lt hv) bv.1 (by omega)
  obtain ⟨k, hk⟩ : ∃ k, (t.1 131 v).toNatClampNeg = k + 1 := ⟨(t.1 131 v).toNatClampNeg - 1, by
    have e : (t.1 131 v).toNatClampNeg = (t.1 131 v).toInt.toNat := rfl
    omega⟩
  have ek : (t.1 131 v).toInt = (k : Int) + 1 := by
    have e : (t.1 131 v).toNatClampNeg = (t.1 131 v).toInt.toNat := rfl
    omega
  rw [hk] at hh
  rcases hh with hh | ⟨w, hw, hh⟩
  · have := f2 k v (by omega) (bt_lt hv) bv.1 hh
    omega
  · obtain ⟨a, a1, a2, a3, a4, a5, a6, a7, a8⟩ := id hw
    have bw := b2 w a6
    have lw := f2 k w (by omega) (bt_lt a6) bw.1 hh
    have fw := f1 w (bt_lt a6) bw.1
    have h4' := f3 w (bt_lt a6) bw.1 (by omega)
    have ew : (t.1 131 w).toNatClampNeg = (t.1 131 w).toInt.toNat := rfl
    have lv2 := f2 ((t.1 131 w).toNatClampNeg + 1) v (by omega) (bt_lt hv) bv.1 (Or.inr ⟨w, hw, h4'⟩)
    refine ⟨a, a1, ?_⟩
    unfold WOK
    rw [h2, h3, h4, h5, h6, bt', a4]
    exact ⟨a2, a3, a6, a7, a8, by omega⟩
theorem ix_k {s : GS} {u y : Int32} (hu : u = s.2.2.1 109 19) (h0 : 0 ≤ u.toInt) (h1 : u.toInt ≤ y.toInt) : bs s + (y.toInt - u.toInt).toNat = y.toNatClampNeg := by
  unfold bs
  rw [← hu]
  show u.toInt.toNat + (y.toInt - u.toInt).toNat = y.toInt.toNat
  omega
theorem bset_no {set z : Int32} {f : Nat → Int32} {x y : Nat} {v c : Int32} (h : ∀ w : Nat, (bt set w = true ↔ ((w : Int) < v.toInt ∧ bt (f x) w = true ∧ bt (f w) y = true))) (hc : c.toInt = v.toInt + 1) (h0 : 0 ≤ v.toInt) (hno : ¬ (bt (f x) v.toNatClampNeg = true ∧ bt (f v.toNatClampNeg) y = true)) (ez : z = set ||| Int32.ofInt 0) : ∀ w : Nat, (bt z w = true ↔ ((w : Int) < c.toInt ∧ bt (f x) w = true ∧ bt (f w) y = true)) := by
  intro w
  have ev : v.toNatClampNeg = v.toInt.toNat := rfl
  rw [bt_or ez, show (Int32.ofInt 0) = (0 : Int32) from rfl, bt_z, Bool.or_false, h w]
  constructor
  · intro q
    exact ⟨by omega, q.2⟩
  · intro q
    refine ⟨?_, q.2⟩
    by_cases k : w = v.toNatClampNeg
    · rw [k] at q; exact absurd q.2 hno
    · omega
theorem bset_yes {set z z1 : Int32} {f : Nat → Int32} {x y : Nat} {v c : Int32} (h : ∀ w : Nat, (bt set w = true ↔ ((w : Int) < v.toInt ∧ bt (f x) w = true ∧ bt (f w) y = true))) (hc : c.toInt = v.toInt + 1) (hv : In v 0 31) (h1 : bt (f x) v.toNatClampNeg = true) (h2 : bt (f v.toNatClampNeg) y = true) (e1 : z1 = Int32.ofInt 1 <<< (v &&& 31)) (ez : z = set ||| z1) : ∀ w : Nat, (bt z w = true ↔ ((w : Int) < c.toInt ∧ bt (f x) w = true ∧ bt (f w) y = true)) := by
  intro w
  have ev : v.toNatClampNeg = v.toInt.toNat := rfl
  have h0 := hv.1
  rw [bt_set e1 ez hv]
  by_cases k : w = v.toNatClampNeg
  · rw [k, decide_eq_true rfl, Bool.or_true]
    exact ⟨fun _ => ⟨by omega, h1, h2⟩, fun _ => rfl⟩
  · rw [decide_eq_false k, Bool.or_false, h w]
    constructor
    · intro q
      exact ⟨by omega, q.2⟩
    · intro q
      exact ⟨by omega, q.2⟩
theorem tgi_add {s t : GS} {y : Nat} {set : Int32} {B : Int} {u w : Int32} {p z wl : Int64} (h : TGI s y set B t) (hB0 : 0 ≤ B) (hB : B ≤ 1000000000000) (hu : In u 0 31) (hn : u.toInt < nmx s) (ep : p = t.2.1 130 u.toNatClampNeg) (hp : p.toInt < 9000000000000000) (hw : In w (-1000000) 1000000) (ez : z = p + wl) (el : wl.toInt = w.toInt) : z.toInt = p.toInt + w.toInt := by
  obtain ⟨-, τ, T, h2, h3⟩ := h
  have n := nat_jn hu hn
  have q := (h3 _ n.1 n.2 (by rw [← ep]; exact hp)).1
  rw [← ep] at q
  obtain ⟨w1, w2⟩ := hw
  rw [ladd_t ez (by omega) (by omega), el]
theorem wa_no {t : GS} {set : Int32} {v : Nat} {y z x : Int32} (h : (∀ a : Nat, y.toInt < (a : Int) → a < 160 → WOK t set v a → 0 ≤ x.toInt) ∧ (0 ≤ x.toInt → WOK t set v x.toNatClampNeg)) (hz : z.toInt = y.toInt - 1) (h0 : 0 ≤ y.toInt) (hno : WOK t set v y.toNatClampNeg → False) : (∀ a : Nat, z.toInt < (a : Int) → a < 160 → WOK t set v a → 0 ≤ x.toInt) ∧ (0 ≤ x.toInt → WOK t set v x.toNatClampNeg) := by
  refine ⟨fun a h1 h2 h3 => ?_, h.2⟩
  have ey : y.toNatClampNeg = y.toInt.toNat := rfl
  by_cases c : a = y.toNatClampNeg
  · rw [c] at h3; exact (hno h3).elim
  · exact h.1 a (by omega) h2 h3
theorem wa_yes {t : GS} {set : Int32} {v : Nat} {y z : Int32} (h0 : 0 ≤ y.toInt) (hw : WOK t set v y.toNatClampNeg) : (∀ a : Nat, z.toInt < (a : Int) → a < 160 → WOK t set v a → 0 ≤ y.toInt) ∧ (0 ≤ y.toInt → WOK t set v y.toNatClampNeg) := ⟨fun _ _ _ _ => h0, fun _ => hw⟩
