section
/-! THE CLASS'S PATTERN -/
section CB
variable {f f0 : Nat → Int64} {m r r1 r2 e z acc acc2 : Int64} {k : Nat}
def CBS (f0 f : Nat → Int64) (m r e : Int64) : Prop := (∀ w, blt r w = true → blt m w = true) ∧ ∀ x y, blt (f x) y = true ↔ (blt (f0 x) y = true ∨ ((blt m x = true ∧ blt r x = false) ∧ blt e y = true))
theorem cbs_0 : CBS f f m m e := ⟨fun _ h => h, fun x y => ⟨Or.inl, fun h => h.elim id (fun q => by rw [q.1.2] at q; exact absurd q.1.1 (by decide))⟩⟩
theorem lbu {x y : Nat} (hz : z = f k ||| e) : blt (vp_updL f k z x) y = true ↔ (blt (f x) y = true ∨ (x = k ∧ blt e y = true)) := by
  by_cases c : x = k
  · rw [c, vp_at, blx_or hz, Bool.or_eq_true]
    exact ⟨fun h => h.imp id (fun q => ⟨rfl, q⟩), fun h => h.imp id (fun q => q.2)⟩
  · rw [vp_ne c]
    exact ⟨Or.inl, fun h => h.elim id (fun q => absurd q.1 c)⟩
theorem low_c (hl : lowL r k) (e1 : r1 = r - Int64.ofInt 1) (e2 : r2 = r &&& r1) {w : Nat} : blt r2 w = true ↔ (blt r w = true ∧ w ≠ k) := by
  rw [lowL_clr hl e1 e2, Bool.and_eq_true]
  simp
theorem low_f (hl : lowL r k) (e1 : r1 = r - Int64.ofInt 1) (e2 : r2 = r &&& r1) {w : Nat} : blt r2 w = false ↔ (blt r w = false ∨ w = k) := by
  have h := low_c hl e1 e2 (w := w)
  cases a : blt r2 w with
  | true =>
    have q := h.mp a
    rw [q.1]
    exact ⟨(fun z => (by cases z)), fun z => z.elim (fun z => by cases z) (fun z => absurd z q.2)⟩
  | false =>
    refine ⟨fun _ => ?_, fun _ => rfl⟩
    cases b : blt r w with
    | false => exact Or.inl rfl
    | true => exact Or.inr (Classical.byContradiction fun q => by rw [h.mpr ⟨b, q⟩] at a; cases a)
theorem cbs_s (h : CBS f0 f m r e) (hl : lowL r k) (hb : blt r k = true) (hz : z = f k ||| e) (e1 : r1 = r - Int64.ofInt 1) (e2 : r2 = r &&& r1) : CBS f0 (vp_updL f k z) m r2 e := by
  refine ⟨fun w hw => h.1 w ((low_c hl e1 e2).mp hw).1, fun x y => (lbu hz).trans ?_⟩
  rw [h.2 x y, low_f hl e1 e2]
  constructor
  · rintro ((q | q) | q)
    · exact Or.inl q
    · exact Or.inr ⟨⟨q.1.1, Or.inl q.1.2⟩, q.2⟩
    · exact Or.inr ⟨⟨by rw [q.1]; exact h.1 k hb, Or.inr q.1⟩, q.2⟩
  · rintro (q | ⟨⟨q1, q2 | q2⟩, q3⟩)
    · exact Or.inl (Or.inl q)
    · exact Or.inl (Or.inr ⟨⟨q1, q2⟩, q3⟩)
    · exact Or.inr ⟨q2, q3⟩
theorem cbs_e (h : CBS f0 f m r e) (hr : r.toInt = 0) : ∀ x y, blt (f x) y = true ↔ (blt (f0 x) y = true ∨ (blt m x = true ∧ blt e y = true)) := fun x y => (h.2 x y).trans (by rw [blx_0 hr]; exact ⟨fun q => q.imp id (fun q => ⟨q.1.1, q.2⟩), fun q => q.imp id (fun q => ⟨⟨q.1, rfl⟩, q.2⟩)⟩)
/-- what lies behind the places of m -/
def BHI (f : Nat → Int64) (m r acc : Int64) (j : Nat) : Prop := (∀ w, blt r w = true → blt m w = true) ∧ ∀ y, blt acc y = true ↔ ∃ x, (blt m x = true ∧ blt r x = false) ∧ blt (f (x + j)) y = true
theorem bhi_0 {j : Nat} (ha : acc = Int64.ofInt 0) : BHI f m m acc j := ⟨fun _ h => h, fun y => by rw [ha, blx_z]; exact ⟨(fun q => (by cases q)), fun ⟨x, q, _⟩ => by rw [q.2] at q; exact absurd q.1 (by decide)⟩⟩
theorem bhi_s {j i : Nat} (h : BHI f m r acc j) (hl : lowL r k) (hb : blt r k = true) (hi : i = k + j) (hz : acc2 = acc ||| f i) (e1 : r1 = r - Int64.ofInt 1) (e2 : r2 = r &&& r1) : BHI f m r2 acc2 j := by
  refine ⟨fun w hw => h.1 w ((low_c hl e1 e2).mp hw).1, fun y => ?_⟩
  rw [blx_or hz, Bool.or_eq_true, h.2 y]
  constructor
  · rintro (⟨x, q1, q2⟩ | q)
    · exact ⟨x, ⟨q1.1, (low_f hl e1 e2).mpr (Or.inl q1.2)⟩, q2⟩
    · exact ⟨k, ⟨h.1 k hb, (low_f hl e1 e2).mpr (Or.inr rfl)⟩, by rw [← hi]; exact q⟩
  · rintro ⟨x, ⟨q1, q2⟩, q3⟩
    rcases (low_f hl e1 e2).mp q2 with q | q
    · exact Or.inl ⟨x, ⟨q1, q⟩, q3⟩
    · rw [q, ← hi] at q3
      exact Or.inr q3
theorem bhi_e {j : Nat} (h : BHI f m r acc j) (hr : r.toInt = 0) : ∀ y, blt acc y = true ↔ ∃ x, blt m x = true ∧ blt (f (x + j)) y = true := fun y => (h.2 y).trans ⟨fun ⟨x, q1, q2⟩ => ⟨x, q1.1, q2⟩, fun ⟨x, q1, q2⟩ => ⟨x, ⟨q1, blx_0 hr⟩, q2⟩⟩
end CB
/-! building -/
/-- the edges of the sign that comes next -/
def RPJ (T : Nat → Int32) (n i x y : Nat) : Prop := i < n ∧ (((T i).toInt = 42 ∨ (T i).toInt = 43) ∧ x = i ∧ y = (pst T i).2.2.2.2.2 ∨ ((T i).toInt = 42 ∨ (T i).toInt = 63) ∧ x = (pst T i).2.2.2.2.2 ∧ y = i)
def BLD (T : Nat → Int32) (n i : Nat) (d : Int) (o : Nat → Int32) (jf mf bf : Nat → Int64) (st : Int64) : Prop :=
  ((pst T i).1 : Int) = d ∧ (∀ l, 1 ≤ l → l ≤ (pst T i).1 → (o l).toNatClampNeg = (pst T i).2.1 l) ∧ (∀ l, l ≤ (pst T i).1 → ∀ y, blt (bf l) y = true ↔ ∃ a, (pst T i).2.2.2.2.1 l a y) ∧ (∀ x, x < 61 → ∀ y, blt (jf x) y = true ↔ ((pst T i).2.2.1 x y ∨ RPJ T n i x y)) ∧ (∀ c, c < 26 → ∀ x, blt (mf c) x = true ↔ (x < i ∧ ((T x).toInt = 46 ∨ (T x).toInt = 97 + (c : Int)))) ∧ ∀ y, blt st y = true ↔ (y = 0 ∨ ∃ a b, (pst T i).2.2.2.2.1 0 a b ∧ y = b + 1)
/-- starts of alternatives: 0 and what stands behind a bar -/
theorem swp_all {T : Nat → Int32} : ∀ (k : Nat) {d b : Int}, PTS T k d b → ∀ x, (x = (pst T k).2.2.2.1 0 ∨ ∃ b, (pst T k).2.2.2.2.1 0 x b) ↔ (x = 0 ∨ ∃ a b, (pst T k).2.2.2.2.1 0 a b ∧ x = b + 1)
  | 0, d, b, h, x => ⟨fun q => q.elim Or.inl (fun ⟨_, z⟩ => z.elim), fun q => q.elim Or.inl (fun ⟨_, _, z, _⟩ => z.elim)⟩
  | k + 1, d, b, ⟨d0, b0, h0, hj, h1, h2, h3, h4, h5⟩, x => by
    have ih := swp_all k h0 x
    have es : pst T (k + 1) = pcX (T k).toInt k (pst T k) := rfl
    rw [es]
    rcases hj with ⟨hc, hj⟩ | ⟨hc, hj⟩ | ⟨hc, hj⟩ | ⟨hc, hj⟩ | ⟨hc, hj⟩ | ⟨_, _, _, _, _, hj⟩
    · rw [pcx_s hc]
      exact ih
    · rw [pcx_o hc]
      show (x = (if 0 = (pst T k).1 + 1 then k + 1 else (pst T k).2.2.2.1 0) ∨ ∃ b, 0 ≠ (pst T k).1 + 1 ∧ (pst T k).2.2.2.2.1 0 x b) ↔ (x = 0 ∨ ∃ a b, (0 ≠ (pst T k).1 + 1 ∧ (pst T k).2.2.2.2.1 0 a b) ∧ x = b + 1)
      rw [if_neg (by omega)]
      constructor
      · intro q
        rcases ih.mp (q.imp id (fun ⟨b, z⟩ => ⟨b, z.2⟩)) with w | ⟨a, b, w1, w2⟩
        · exact Or.inl w
        · exact Or.inr ⟨a, b, ⟨by omega, w1⟩, w2⟩
      · intro q
        rcases ih.mpr (q.imp id (fun ⟨a, b, z, w⟩ => ⟨a, b, z.2, w⟩)) with w | ⟨b, w⟩
        · exact Or.inl w
        · exact Or.inr ⟨b, by omega, w⟩
    · rw [pcx_c hc]
      exact ih
    · rw [pcx_b hc]
      show (x = (if 0 = (pst T k).1 then k + 1 else (pst T k).2.2.2.1 0) ∨ ∃ b, (pst T k).2.2.2.2.1 0 x b ∨ (0 = (pst T k).1 ∧ x = (pst T k).2.2.2.1 (pst T k).1 ∧ b = k)) ↔ (x = 0 ∨ ∃ a b, ((pst T k).2.2.2.2.1 0 a b ∨ (0 = (pst T k).1 ∧ a = (pst T k).2.2.2.1 (pst T k).1 ∧ b = k)) ∧ x = b + 1)
      by_cases c : 0 = (pst T k).1
      · rw [if_pos c, ← c]
        constructor
        · rintro (q | ⟨b, q | q⟩)
          · exact Or.inr ⟨_, k, Or.inr ⟨rfl, rfl, rfl⟩, q⟩
          · exact (ih.mp (Or.inr ⟨b, q⟩)).imp id (fun ⟨a, b, w1, w2⟩ => ⟨a, b, Or.inl w1, w2⟩)
          · exact (ih.mp (Or.inl q.2.1)).imp id (fun ⟨a, b, w1, w2⟩ => ⟨a, b, Or.inl w1, w2⟩)
        · rintro (q | ⟨a, b, q | q, w⟩)
          · rcases ih.mpr (Or.inl q) with w | ⟨b, w⟩
            · exact Or.inr ⟨k, Or.inr ⟨rfl, w, rfl⟩⟩
            · exact Or.inr ⟨b, Or.inl w⟩
          · rcases ih.mpr (Or.inr ⟨a, b, q, w⟩) with w | ⟨b, w⟩
            · exact Or.inr ⟨k, Or.inr ⟨rfl, w, rfl⟩⟩
            · exact Or.inr ⟨b, Or.inl w⟩
          · exact Or.inl (by rw [w, q.2.2])
      · rw [if_neg c]
        constructor
        · rintro (q | ⟨b, q | q⟩)
          · exact (ih.mp (Or.inl q)).imp id (fun ⟨a, b, w1, w2⟩ => ⟨a, b, Or.inl w1, w2⟩)
          · exact (ih.mp (Or.inr ⟨b, q⟩)).imp id (fun ⟨a, b, w1, w2⟩ => ⟨a, b, Or.inl w1, w2⟩)
          · exact absurd q.1 c
        · rintro (q | ⟨a, b, q | q, w⟩)
          · exact (ih.mpr (Or.inl q)).imp id (fun ⟨b, w⟩ => ⟨b, Or.inl w⟩)
          · exact (ih.mpr (Or.inr ⟨a, b, q, w⟩)).imp id (fun ⟨b, w⟩ => ⟨b, Or.inl w⟩)
          · exact absurd q.1 c
    · rw [pcx_l hc]
      exact ih
    · omega
/-- what laying a place writes -/
def LPC (c : Int) (i dp : Nat) (o : Nat → Int32) (jf mf bf jf2 mf2 bf2 : Nat → Int64) (st st2 : Int64) : Prop :=
  (∀ x y, blt (jf2 x) y = true ↔ (blt (jf x) y = true ∨ (¬ ptA c ∧ c ≠ 124 ∧ x = i ∧ y = i + 1) ∨ (c = 124 ∧ 1 ≤ dp ∧ x = (o dp).toNatClampNeg ∧ y = i + 1))) ∧ (∀ κ, κ < 26 → ∀ x, blt (mf2 κ) x = true ↔ (blt (mf κ) x = true ∨ ((c = 46 ∨ c = 97 + (κ : Int)) ∧ x = i))) ∧ (∀ l y, blt (bf2 l) y = true ↔ (blt (bf l) y = true ∨ (c = 124 ∧ l = dp ∧ y = i))) ∧ ∀ y, blt st2 y = true ↔ (blt st y = true ∨ (c = 124 ∧ dp = 0 ∧ y = i + 1))
def LRC (c : Int) (bg i : Nat) (jf jf2 : Nat → Int64) : Prop := ∀ x y, blt (jf2 x) y = true ↔ (blt (jf x) y = true ∨ ((c = 42 ∨ c = 43) ∧ x = i ∧ y = bg) ∨ ((c = 42 ∨ c = 63) ∧ x = bg ∧ y = i))
def LRX (T : Nat → Int32) (n i bgn : Nat) (jf jf2 : Nat → Int64) : Prop := (i + 1 < n ∧ LRC (T (i + 1)).toInt bgn (i + 1) jf jf2) ∨ (n ≤ i + 1 ∧ jf2 = jf)
/-- the sign that comes next -/
theorem lrx_r {T : Nat → Int32} {n i bgn : Nat} {jf jf2 : Nat → Int64} {d1 b1 : Int} {P : Nat → Nat → Prop} (hp : PTS T (i + 1) d1 b1) (hj : i + 1 < n → ptJ (T (i + 1)).toInt b1 d1 0) (hb : b1 ≠ 0 → bgn = (pst T (i + 1)).2.2.2.2.2) (h : ∀ x, x < 61 → ∀ y, blt (jf x) y = true ↔ P x y) (hl : LRX T n i bgn jf jf2) : ∀ x, x < 61 → ∀ y, blt (jf2 x) y = true ↔ (P x y ∨ RPJ T n (i + 1) x y) := fun x hx y => by
  rcases hl with ⟨hn, hl⟩ | ⟨hn, hl⟩
  · rw [hl x y, h x hx y]
    have key : ((T (i + 1)).toInt = 42 ∨ (T (i + 1)).toInt = 43 ∨ (T (i + 1)).toInt = 63) → bgn = (pst T (i + 1)).2.2.2.2.2 := fun hs => hb (by
      rcases hj hn with ⟨hc, q⟩ | ⟨hc, q⟩ | ⟨hc, q⟩ | ⟨hc, q⟩ | ⟨hc, q⟩ | ⟨_, _, _, _, _, q⟩
      · omega
      · omega
      · omega
      · omega
      · unfold ptA at hc
        omega
      · omega)
    constructor
    · rintro (q | ⟨q1, q2, q3⟩ | ⟨q1, q2, q3⟩)
      · exact Or.inl q
      · exact Or.inr ⟨hn, Or.inl ⟨q1, q2, by rw [← key (by omega)]; exact q3⟩⟩
      · exact Or.inr ⟨hn, Or.inr ⟨q1, by rw [← key (by omega)]; exact q2, q3⟩⟩
    · rintro (q | ⟨-, ⟨q1, q2, q3⟩ | ⟨q1, q2, q3⟩⟩)
      · exact Or.inl q
      · exact Or.inr (Or.inl ⟨q1, q2, by rw [key (by omega)]; exact q3⟩)
      · exact Or.inr (Or.inr ⟨q1, by rw [key (by omega)]; exact q2, q3⟩)
  · rw [hl, h x hx y]
    exact ⟨Or.inl, fun q => q.elim id (fun q => absurd q.1 (by omega))⟩
theorem rpj_n {T : Nat → Int32} {n i x y : Nat} (h : ¬ ((T i).toInt = 42 ∨ (T i).toInt = 43 ∨ (T i).toInt = 63)) : ¬ RPJ T n i x y := fun q => by
  rcases q.2 with q | q
  · have := q.1
    omega
  · have := q.1
    omega
section BL
variable {T : Nat → Int32} {n i bgn : Nat} {d d2 b : Int} {o o2 : Nat → Int32} {jf jf1 jf2 jf3 mf mf2 bf bf1 bf2 : Nat → Int64} {st st2 : Int64}
/-- an opening bracket -/
theorem bld_o (hg : PTS T n 0 b) (hi : i < n) (h : BLD T n i d o jf mf bf st) (hc : (T i).toInt = 40) (e2 : d2 = d + 1) (o1 : (o2 d2.toNat).toNatClampNeg = i) (o3 : ∀ l, l ≠ d2.toNat → o2 l = o l) (q1 : ∀ y, blt (bf1 d2.toNat) y = false) (q3 : ∀ l, l ≠ d2.toNat → bf1 l = bf l) (hp : LPC (T i).toInt i d2.toNat o2 jf mf bf1 jf2 mf2 bf2 st st2) (hl : LRX T n i bgn jf2 jf3) : BLD T n (i + 1) d2 o2 jf3 mf2 bf2 st2 := by
  obtain ⟨d0, b0, p0, j0⟩ := pts_p n hi hg
  have nA : ¬ ptA (T i).toInt := by unfold ptA; omega
  have p1 : PTS T (i + 1) (d0 + 1) 0 := ⟨d0, b0, p0, j0, fun _ => rfl, fun q => by omega, fun q => absurd hc q, fun q => by rcases q with q | q; omega; exact absurd q nA, fun _ => rfl⟩
  have j1 : i + 1 < n → ptJ (T (i + 1)).toInt 0 (d0 + 1) 0 := fun hn => by
    obtain ⟨d3, b3, p3, j3⟩ := pts_p n hn hg
    obtain ⟨e3, e4⟩ := pts_u (i + 1) p3 p1
    rw [e3, e4] at j3
    exact j3
  obtain ⟨h1, h2, h3, h4, h5, h6⟩ := h
  obtain ⟨l1, l2, l3, l4⟩ := hp
  have ed : d2.toNat = (pst T i).1 + 1 := by omega
  have es : pst T (i + 1) = pcO i (pst T i) := (show pst T (i + 1) = pcX (T i).toInt i (pst T i) from rfl).trans (pcx_o hc)
  have nr : ∀ x y, ¬ RPJ T n i x y := fun x y => rpj_n (by omega)
  have J := lrx_r p1 j1 (fun z => absurd rfl z) (P := (pst T (i + 1)).2.2.1) (fun x hx y => by
    rw [l1 x y, h4 x hx y, es]
    show _ ↔ ((pst T i).2.2.1 x y ∨ (x = i ∧ y = i + 1))
    constructor
    · rintro ((q | q) | ⟨-, -, q⟩ | ⟨q, -⟩)
      · exact Or.inl q
      · exact absurd q (nr x y)
      · exact Or.inr q
      · omega
    · rintro (q | q)
      · exact Or.inl (Or.inl q)
      · exact Or.inr (Or.inl ⟨nA, by omega, q⟩)) hl
  refine ⟨?_, fun l a1 a2 => ?_, fun l a1 y => ?_, J, fun c hcc x => (l2 c hcc x).trans ?_, fun y => (l4 y).trans ?_⟩
  · rw [es, e2, ← h1]
    show (((pst T i).1 + 1 : Nat) : Int) = _
    omega
  · rw [es] at a2 ⊢
    show (o2 l).toNatClampNeg = (if l = (pst T i).1 + 1 then i else (pst T i).2.1 l)
    by_cases c : l = (pst T i).1 + 1
    · rw [if_pos c, c, ← ed]
      exact o1
    · rw [if_neg c, o3 l (by omega)]
      have a3 : l ≤ (pst T i).1 + 1 := a2
      exact h2 l a1 (by omega)
  · rw [l3 l y, es]
    rw [es] at a1
    have a3 : l ≤ (pst T i).1 + 1 := a1
    show _ ↔ ∃ a, l ≠ (pst T i).1 + 1 ∧ (pst T i).2.2.2.2.1 l a y
    by_cases c : l = (pst T i).1 + 1
    · rw [show blt (bf1 l) y = false by rw [c, ← ed]; exact q1 y]
      exact ⟨fun q => q.elim (fun q => by cases q) (fun q => by omega), fun ⟨a, q, _⟩ => absurd c q⟩
    · rw [q3 l (by omega), h3 l (by omega) y]
      exact ⟨fun q => q.elim (fun ⟨a, q⟩ => ⟨a, c, q⟩) (fun q => by omega), fun ⟨a, _, q⟩ => Or.inl ⟨a, q⟩⟩
  · rw [h5 c hcc x]
    constructor
    · rintro (q | q)
      · exact ⟨by omega, q.2⟩
      · exact ⟨by omega, by rw [q.2]; exact q.1⟩
    · rintro ⟨q1, q2⟩
      by_cases k : x = i
      · exact Or.inr ⟨by rw [← k]; exact q2, k⟩
      · exact Or.inl ⟨by omega, q2⟩
  · rw [h6 y, es]
    show _ ↔ (y = 0 ∨ ∃ a b, (0 ≠ (pst T i).1 + 1 ∧ (pst T i).2.2.2.2.1 0 a b) ∧ y = b + 1)
    exact ⟨fun q => q.elim (fun q => q.imp id (fun ⟨a, b, w, z⟩ => ⟨a, b, ⟨by omega, w⟩, z⟩)) (fun q => by omega), fun q => Or.inl (q.imp id (fun ⟨a, b, w, z⟩ => ⟨a, b, w.2, z⟩))⟩
/-- a closing bracket -/
theorem bld_c (hg : PTS T n 0 b) (hi : i < n) (h : BLD T n i d o jf mf bf st) (hc : (T i).toInt = 41) (hd : 0 < d) (e2 : d2 = d - 1) (hj1 : ∀ x y, blt (jf1 x) y = true ↔ (blt (jf x) y = true ∨ (blt (bf d.toNat) x = true ∧ y = i))) (hp : LPC (T i).toInt i d2.toNat o jf1 mf bf jf2 mf2 bf2 st st2) (hb : bgn = (o d.toNat).toNatClampNeg) (hl : LRX T n i bgn jf2 jf3) : BLD T n (i + 1) d2 o jf3 mf2 bf2 st2 := by
  obtain ⟨d0, b0, p0, j0⟩ := pts_p n hi hg
  have nA : ¬ ptA (T i).toInt := by unfold ptA; omega
  have p1 : PTS T (i + 1) (d0 - 1) 1 := ⟨d0, b0, p0, j0, fun q => by omega, fun _ => rfl, fun _ q => absurd hc q, fun _ => rfl, fun q => absurd (Or.inl hc) q⟩
  have j1 : i + 1 < n → ptJ (T (i + 1)).toInt 1 (d0 - 1) 0 := fun hn => by
    obtain ⟨d3, b3, p3, j3⟩ := pts_p n hn hg
    obtain ⟨e3, e4⟩ := pts_u (i + 1) p3 p1
    rw [e3, e4] at j3
    exact j3
  obtain ⟨h1, h2, h3, h4, h5, h6⟩ := h
  obtain ⟨l1, l2, l3, l4⟩ := hp
  have ed : d.toNat = (pst T i).1 := by omega
  have es : pst T (i + 1) = pcC i (pst T i) := (show pst T (i + 1) = pcX (T i).toInt i (pst T i) from rfl).trans (pcx_c hc)
  have nr : ∀ x y, ¬ RPJ T n i x y := fun x y => rpj_n (by omega)
  have J := lrx_r p1 j1 (bgn := bgn) (fun _ => by
    rw [es, hb, ed]
    exact h2 _ (by omega) (Nat.le_refl _)) (P := (pst T (i + 1)).2.2.1) (fun x hx y => by
    rw [l1 x y, hj1 x y, h4 x hx y, es, ed, h3 _ (Nat.le_refl _) x]
    show _ ↔ (EBK (pst T i).2.2.2.2.1 (pst T i).2.2.1 (pst T i).1 i x y ∨ (x = i ∧ y = i + 1))
    constructor
    · rintro (((q | q) | q) | ⟨-, -, q⟩ | ⟨q, -⟩)
      · exact Or.inl (Or.inl q)
      · exact absurd q (nr x y)
      · exact Or.inl (Or.inr q)
      · exact Or.inr q
      · omega
    · rintro ((q | q) | q)
      · exact Or.inl (Or.inl (Or.inl q))
      · exact Or.inl (Or.inr q)
      · exact Or.inr (Or.inl ⟨nA, by omega, q⟩)) hl
  refine ⟨?_, fun l a1 a2 => ?_, fun l a1 y => ?_, J, fun c hcc x => (l2 c hcc x).trans ?_, fun y => (l4 y).trans ?_⟩
  · rw [es, e2, ← h1]
    show (((pst T i).1 - 1 : Nat) : Int) = _
    omega
  · rw [es] at a2 ⊢
    have a3 : l ≤ (pst T i).1 - 1 := a2
    exact h2 l a1 (by omega)
  · rw [l3 l y, es]
    rw [es] at a1
    have a3 : l ≤ (pst T i).1 - 1 := a1
    show _ ↔ ∃ a, (pst T i).2.2.2.2.1 l a y
    rw [h3 l (by omega) y]
    exact ⟨fun q => q.elim id (fun q => by omega), Or.inl⟩
  · rw [h5 c hcc x]
    constructor
    · rintro (q | q)
      · exact ⟨by omega, q.2⟩
      · exact ⟨by omega, by rw [q.2]; exact q.1⟩
    · rintro ⟨q1, q2⟩
      by_cases k : x = i
      · exact Or.inr ⟨by rw [← k]; exact q2, k⟩
      · exact Or.inl ⟨by omega, q2⟩
  · rw [h6 y, es]
    exact ⟨fun q => q.elim id (fun q => by omega), Or.inl⟩
/-- any other character -/
theorem bld_e (hg : PTS T n 0 b) (hi : i < n) (h : BLD T n i d o jf mf bf st) (hc : ¬ ((T i).toInt = 40 ∧ d < 10)) (hc2 : ¬ ((T i).toInt = 41 ∧ 0 < d)) (hp : LPC (T i).toInt i d.toNat o jf mf bf jf2 mf2 bf2 st st2) (hl : LRX T n i i jf2 jf3) : BLD T n (i + 1) d o jf3 mf2 bf2 st2 := by
  obtain ⟨d0, b0, p0, j0⟩ := pts_p n hi hg
  have pa := pin_all i p0
  obtain ⟨h1, h2, h3, h4, h5, h6⟩ := h
  obtain ⟨l1, l2, l3, l4⟩ := hp
  have ed : d.toNat = (pst T i).1 := by omega
  have dd : d0 = d := by
    have := pa.2.1
    omega
  have n40 : (T i).toInt ≠ 40 := fun q => by
    rcases j0 with ⟨k, w⟩ | ⟨k, w⟩ | ⟨k, w⟩ | ⟨k, w⟩ | ⟨k, w⟩ | ⟨_, _, _, _, _, w⟩
    · unfold ptR at k; omega
    · omega
    · omega
    · omega
    · unfold ptA at k; omega
    · omega
  have n41 : (T i).toInt ≠ 41 := fun q => by
    rcases j0 with ⟨k, w⟩ | ⟨k, w⟩ | ⟨k, w⟩ | ⟨k, w⟩ | ⟨k, w⟩ | ⟨_, _, _, _, _, w⟩
    · unfold ptR at k; omega
    · omega
    · omega
    · omega
    · unfold ptA at k; omega
    · omega
  obtain ⟨b1, p1, hb1⟩ : ∃ b1, PTS T (i + 1) d0 b1 ∧ (b1 ≠ 0 → ptA (T i).toInt) := by
    by_cases k : ptA (T i).toInt
    · exact ⟨1, ⟨d0, b0, p0, j0, fun q => absurd q n40, fun q => absurd q n41, fun _ _ => rfl, fun _ => rfl, fun q => absurd (Or.inr k) q⟩, fun _ => k⟩
    · exact ⟨0, ⟨d0, b0, p0, j0, fun q => absurd q n40, fun q => absurd q n41, fun _ _ => rfl, fun q => q.elim (fun q => absurd q n41) (fun q => absurd q k), fun _ => rfl⟩, fun q => absurd rfl q⟩
  have j1 : i + 1 < n → ptJ (T (i + 1)).toInt b1 d0 0 := fun hn => by
    obtain ⟨d3, b3, p3, j3⟩ := pts_p n hn hg
    obtain ⟨e3, e4⟩ := pts_u (i + 1) p3 p1
    rw [e3, e4] at j3
    exact j3
  have ex : pst T (i + 1) = pcX (T i).toInt i (pst T i) := rfl
  have bgl : b1 ≠ 0 → i = (pst T (i + 1)).2.2.2.2.2 := fun q => by
    rw [ex, pcx_l (hb1 q)]
    rfl
  have M : ∀ c, c < 26 → ∀ x, blt (mf2 c) x = true ↔ (x < i + 1 ∧ ((T x).toInt = 46 ∨ (T x).toInt = 97 + (c : Int))) := fun c hcc x => by
    rw [l2 c hcc x, h5 c hcc x]
    constructor
    · rintro (q | q)
      · exact ⟨by omega, q.2⟩
      · exact ⟨by omega, by rw [q.2]; exact q.1⟩
    · rintro ⟨q1, q2⟩
      by_cases k : x = i
      · exact Or.inr ⟨by rw [← k]; exact q2, k⟩
      · exact Or.inl ⟨by omega, q2⟩
  have DD : ((pst T (i + 1)).1 : Int) = d := by
    have := (pin_all (i + 1) p1).2.1
    omega
  by_cases kb : (T i).toInt = 124
  · have nA : ¬ ptA (T i).toInt := by unfold ptA; omega
    have es : pst T (i + 1) = pcB i (pst T i) := ex.trans (pcx_b kb)
    have J := lrx_r p1 j1 bgl (P := (pst T (i + 1)).2.2.1) (fun x hx y => by
      rw [l1 x y, h4 x hx y, es]
      show _ ↔ ((pst T i).2.2.1 x y ∨ (1 ≤ (pst T i).1 ∧ x = (pst T i).2.1 (pst T i).1 ∧ y = i + 1))
      constructor
      · rintro ((q | q) | ⟨-, q, -⟩ | ⟨-, q1, q2, q3⟩)
        · exact Or.inl q
        · exact absurd q (rpj_n (by omega))
        · exact absurd kb q
        · exact Or.inr ⟨by omega, by rw [q2, ed]; exact h2 _ (by omega) (Nat.le_refl _), q3⟩
      · rintro (q | ⟨q1, q2, q3⟩)
        · exact Or.inl (Or.inl q)
        · exact Or.inr (Or.inr ⟨kb, by omega, by rw [q2, ed]; exact (h2 _ q1 (Nat.le_refl _)).symm, q3⟩)) hl
    refine ⟨DD, fun l a1 a2 => ?_, fun l a1 y => ?_, J, M, fun y => (l4 y).trans ?_⟩
    · rw [es] at a2 ⊢
      exact h2 l a1 a2
    · rw [l3 l y, es]
      rw [es] at a1
      show _ ↔ ∃ a, (pst T i).2.2.2.2.1 l a y ∨ (l = (pst T i).1 ∧ a = (pst T i).2.2.2.1 (pst T i).1 ∧ y = i)
      rw [h3 l a1 y, ed]
      constructor
      · rintro (⟨a, q⟩ | ⟨-, q1, q2⟩)
        · exact ⟨a, Or.inl q⟩
        · exact ⟨_, Or.inr ⟨q1, rfl, q2⟩⟩
      · rintro ⟨a, q | ⟨q1, q2, q3⟩⟩
        · exact Or.inl ⟨a, q⟩
        · exact Or.inr ⟨kb, q1, q3⟩
    · rw [h6 y, es]
      show _ ↔ (y = 0 ∨ ∃ a b, ((pst T i).2.2.2.2.1 0 a b ∨ (0 = (pst T i).1 ∧ a = (pst T i).2.2.2.1 (pst T i).1 ∧ b = i)) ∧ y = b + 1)
      constructor
      · rintro (q | ⟨-, q1, q2⟩)
        · exact q.imp id (fun ⟨a, b, w, z⟩ => ⟨a, b, Or.inl w, z⟩)
        · exact Or.inr ⟨_, i, Or.inr ⟨by omega, rfl, rfl⟩, q2⟩
      · rintro (q | ⟨a, b, w | w, z⟩)
        · exact Or.inl (Or.inl q)
        · exact Or.inl (Or.inr ⟨a, b, w, z⟩)
        · exact Or.inr ⟨kb, by omega, by rw [z, w.2.2]⟩
  · have BF : ∀ l, l ≤ (pst T i).1 → ∀ y, blt (bf2 l) y = true ↔ ∃ a, (pst T i).2.2.2.2.1 l a y := fun l a1 y => by
      rw [l3 l y, h3 l a1 y]
      exact ⟨fun q => q.elim id (fun q => absurd q.1 kb), Or.inl⟩
    have SF : ∀ y, blt st2 y = true ↔ (y = 0 ∨ ∃ a b, (pst T i).2.2.2.2.1 0 a b ∧ y = b + 1) := fun y => by
      rw [l4 y, h6 y]
      exact ⟨fun q => q.elim id (fun q => absurd q.1 kb), Or.inl⟩
    by_cases ks : (T i).toInt = 42 ∨ (T i).toInt = 43 ∨ (T i).toInt = 63
    · have nA : ¬ ptA (T i).toInt := by unfold ptA; omega
      have es : pst T (i + 1) = pcS (T i).toInt i (pst T i) := ex.trans (pcx_s ks)
      have J := lrx_r p1 j1 bgl (P := (pst T (i + 1)).2.2.1) (fun x hx y => by
        rw [l1 x y, h4 x hx y, es]
        show _ ↔ ESG (pst T i).2.2.1 i (pst T i).2.2.2.2.2 ((T i).toInt ≠ 63) ((T i).toInt ≠ 43) x y
        constructor
        · rintro ((q | ⟨-, ⟨q1, q2, q3⟩ | ⟨q1, q2, q3⟩⟩) | ⟨-, -, q⟩ | ⟨q, -⟩)
          · exact Or.inl q
          · exact Or.inr (Or.inr (Or.inl ⟨by omega, q2, q3⟩))
          · exact Or.inr (Or.inr (Or.inr ⟨by omega, q2, q3⟩))
          · exact Or.inr (Or.inl q)
          · exact absurd q kb
        · rintro (q | q | ⟨q1, q2, q3⟩ | ⟨q1, q2, q3⟩)
          · exact Or.inl (Or.inl q)
          · exact Or.inr (Or.inl ⟨nA, kb, q⟩)
          · exact Or.inl (Or.inr ⟨hi, Or.inl ⟨by omega, q2, q3⟩⟩)
          · exact Or.inl (Or.inr ⟨hi, Or.inr ⟨by omega, q2, q3⟩⟩)) hl
      refine ⟨DD, ?_, ?_, J, M, ?_⟩
      · rw [es]
        exact h2
      · rw [es]
        exact BF
      · rw [es]
        exact SF
    · have kA : ptA (T i).toInt := by
        rcases j0 with ⟨k, w⟩ | ⟨k, w⟩ | ⟨k, w⟩ | ⟨k, w⟩ | ⟨k, w⟩ | ⟨_, _, _, _, _, w⟩
        · exact absurd k ks
        · exact absurd k n40
        · exact absurd k n41
        · exact absurd k kb
        · exact k
        · omega
      have es : pst T (i + 1) = pcL i (pst T i) := ex.trans (pcx_l kA)
      have J := lrx_r p1 j1 bgl (P := (pst T (i + 1)).2.2.1) (fun x hx y => by
        rw [l1 x y, h4 x hx y, es]
        show _ ↔ (pst T i).2.2.1 x y
        constructor
        · rintro ((q | q) | ⟨q, -⟩ | ⟨q, -⟩)
          · exact q
          · exact absurd q (rpj_n ks)
          · exact absurd kA q
          · exact absurd q kb
        · exact fun q => Or.inl (Or.inl q)) hl
      refine ⟨DD, ?_, ?_, J, M, ?_⟩
      · rw [es]
        exact h2
      · rw [es]
        exact BF
      · rw [es]
        exact SF
end BL
end
section
/-! LAYING AND CLOSING -/
theorem sLx_o {s : GS} {p q j : Nat} {v : Int64} (h : Nat.beq p q = false) : (sL s q j v).2.1 p = s.2.1 p := by
  show (if p = q then vp_updL (s.2.1 q) j v else s.2.1 p) = s.2.1 p
  rw [if_neg (Nat.ne_of_beq_eq_false h)]
theorem blx_1 {z : Int64} {u : Int32} {i : Nat} (e : z = Int64.ofInt 1 <<< (u.toInt64 &&& 63)) (hu : In u 0 63) (hi : u.toNatClampNeg = i) : ∀ y, blt z y = true ↔ y = i := fun y => by
  rw [blx_one e hu, decide_eq_true_iff, hi]
section LP
variable {c : Int} {i dp k : Nat} {o : Nat → Int32} {jf mf bf mf2 : Nat → Int64} {st st2 z z2 e e2 : Int64}
theorem lpc_o (hA : ¬ ptA c) (hb : c ≠ 124) (hz : z = jf i ||| e) (he : ∀ y, blt e y = true ↔ y = i + 1) : LPC c i dp o jf mf bf (vp_updL jf i z) mf bf st st := by
  refine ⟨fun x y => (lbu hz).trans ?_, fun κ _ x => ⟨Or.inl, fun q => q.elim id (fun q => ?_)⟩, fun l y => ⟨Or.inl, fun q => q.elim id (fun q => absurd q.1 hb)⟩, fun y => ⟨Or.inl, fun q => q.elim id (fun q => absurd q.1 hb)⟩⟩
  · rw [he y]
    exact ⟨fun q => q.imp id (fun q => Or.inl ⟨hA, hb, q⟩), fun q => q.imp id (fun q => q.elim (fun q => q.2.2) (fun q => absurd q.1 hb))⟩
  · exact absurd (by unfold ptA; omega) hA
theorem lpc_l (hc : c = 97 + (k : Int)) (hk : k < 26) (hz : z = mf k ||| e) (he : ∀ y, blt e y = true ↔ y = i) : LPC c i dp o jf mf bf jf (vp_updL mf k z) bf st st := by
  have hA : ptA c := by unfold ptA; omega
  have hb : c ≠ 124 := by omega
  refine ⟨fun x y => ⟨Or.inl, fun q => q.elim id (fun q => q.elim (fun q => absurd hA q.1) (fun q => absurd q.1 hb))⟩, fun κ _ x => (lbu hz).trans ?_, fun l y => ⟨Or.inl, fun q => q.elim id (fun q => absurd q.1 hb)⟩, fun y => ⟨Or.inl, fun q => q.elim id (fun q => absurd q.1 hb)⟩⟩
  rw [he x]
  exact ⟨fun q => q.imp id (fun q => ⟨by omega, q.2⟩), fun q => q.imp id (fun q => ⟨by omega, q.2⟩)⟩
theorem lpc_d (hc : c = 46) (h : ∀ κ, κ < 26 → ∀ x, blt (mf2 κ) x = true ↔ (blt (mf κ) x = true ∨ x = i)) : LPC c i dp o jf mf bf jf mf2 bf st st := by
  have hA : ptA c := by unfold ptA; omega
  have hb : c ≠ 124 := by omega
  refine ⟨fun x y => ⟨Or.inl, fun q => q.elim id (fun q => q.elim (fun q => absurd hA q.1) (fun q => absurd q.1 hb))⟩, fun κ hk x => (h κ hk x).trans ⟨fun q => q.imp id (fun q => ⟨Or.inl hc, q⟩), fun q => q.imp id (fun q => q.2)⟩, fun l y => ⟨Or.inl, fun q => q.elim id (fun q => absurd q.1 hb)⟩, fun y => ⟨Or.inl, fun q => q.elim id (fun q => absurd q.1 hb)⟩⟩
theorem lpc_b (hc : c = 124) (hd : dp = 0) (hz : z = bf dp ||| e) (he : ∀ y, blt e y = true ↔ y = i) (hz2 : z2 = st ||| e2) (he2 : ∀ y, blt e2 y = true ↔ y = i + 1) : LPC c i dp o jf mf bf jf mf (vp_updL bf dp z) st z2 := by
  refine ⟨fun x y => ⟨Or.inl, fun q => q.elim id (fun q => q.elim (fun q => absurd hc q.2.1) (fun q => by omega))⟩, fun κ _ x => ⟨Or.inl, fun q => q.elim id (fun q => by omega)⟩, fun l y => (lbu hz).trans ?_, fun y => ?_⟩
  · rw [he y]
    exact ⟨fun q => q.imp id (fun q => ⟨hc, q⟩), fun q => q.imp id (fun q => q.2)⟩
  · rw [blx_or hz2, Bool.or_eq_true, he2 y]
    exact ⟨fun q => q.imp id (fun q => ⟨hc, hd, q⟩), fun q => q.imp id (fun q => q.2.2)⟩
theorem lpc_c (hc : c = 124) (hd : dp ≠ 0) (hz : z = bf dp ||| e) (he : ∀ y, blt e y = true ↔ y = i) (hz2 : z2 = jf (o dp).toNatClampNeg ||| e2) (he2 : ∀ y, blt e2 y = true ↔ y = i + 1) : LPC c i dp o jf mf bf (vp_updL jf (o dp).toNatClampNeg z2) mf (vp_updL bf dp z) st st := by
  refine ⟨fun x y => (lbu hz2).trans ?_, fun κ _ x => ⟨Or.inl, fun q => q.elim id (fun q => by omega)⟩, fun l y => (lbu hz).trans ?_, fun y => ⟨Or.inl, fun q => q.elim id (fun q => absurd q.2.1 hd)⟩⟩
  · rw [he2 y]
    exact ⟨fun q => q.imp id (fun q => Or.inr ⟨hc, by omega, q⟩), fun q => q.imp id (fun q => q.elim (fun q => absurd hc q.2.1) (fun q => q.2.2))⟩
  · rw [he y]
    exact ⟨fun q => q.imp id (fun q => ⟨hc, q⟩), fun q => q.imp id (fun q => q.2)⟩
end LP
/-! closing -/
section WR
variable {n m i j : Nat} {f f0 g : Nat → Int64} {z e : Int64}
/-- edges between the places up to n -/
def EQJ (f : Nat → Int64) (n x y : Nat) : Prop := x ≤ n ∧ blt (f x) y = true
/-- ways are found, as far as they go by places below m -/
def WRS (f0 f : Nat → Int64) (n m : Nat) : Prop := (∀ x y, x ≤ n → blt (f x) y = true → wlq (EQJ f0 n) x y) ∧ (∀ x y, x ≤ n → blt (f0 x) y = true → blt (f x) y = true) ∧ (∀ x, x ≤ n → blt (f x) x = true) ∧ ∀ v, v < m → ∀ x w, x ≤ n → v ≤ n → blt (f x) v = true → blt (f v) w = true → blt (f x) w = true
/-- each place leads to itself -/
def WR0 (f0 f : Nat → Int64) (i : Nat) : Prop := ∀ x y, blt (f x) y = true ↔ (blt (f0 x) y = true ∨ (x < i ∧ y = x))
theorem wr0_s (h : WR0 f0 f i) (hz : z = f i ||| e) (he : ∀ y, blt e y = true ↔ y = i) : WR0 f0 (vp_updL f i z) (i + 1) := fun x y => by
  rw [lbu hz, h x y, he y]
  constructor
  · rintro ((q | q) | q)
    · exact Or.inl q
    · exact Or.inr ⟨by omega, q.2⟩
    · exact Or.inr ⟨by omega, by omega⟩
  · rintro (q | q)
    · exact Or.inl (Or.inl q)
    · by_cases c : x = i
      · exact Or.inr ⟨c, by omega⟩
      · exact Or.inl (Or.inr ⟨by omega, q.2⟩)
theorem wrs_0 (h : WR0 f0 f i) (hi : n + 1 ≤ i) : WRS f0 f n 0 := by
  refine ⟨fun x y hx q => ?_, fun x y hx q => (h x y).mpr (Or.inl q), fun x hx => (h x x).mpr (Or.inr ⟨by omega, rfl⟩), fun v hv => absurd hv (Nat.not_lt_zero _)⟩
  rcases (h x y).mp q with q | q
  · exact wl_1 ⟨hx, q⟩
  · rw [q.2]
    exact wl_0
/-- in the sweep over k: the rows below i have been gone through -/
def WRK (f g : Nat → Int64) (k i : Nat) : Prop := ∀ x y, blt (g x) y = true ↔ (blt (f x) y = true ∨ (x < i ∧ blt (f x) k = true ∧ blt (f k) y = true))
theorem wrk_0 : WRK f f j 0 := fun x y => ⟨Or.inl, fun q => q.elim id (fun q => absurd q.1 (Nat.not_lt_zero _))⟩
theorem wrk_k (h : WRK f g j i) : ∀ y, blt (g j) y = true ↔ blt (f j) y = true := fun y => (h j y).trans ⟨fun q => q.elim id (fun q => q.2.2), Or.inl⟩
theorem wrk_f (h : WRK f g j i) : blt (g i) j = true ↔ blt (f i) j = true := (h i j).trans ⟨fun q => q.elim id (fun q => q.2.1), Or.inl⟩
theorem wrk_y (h : WRK f g j i) (hb : blt (g i) j = true) (hz : z = g i ||| g j) : WRK f (vp_updL g i z) j (i + 1) := fun x y => by
  rw [lbu hz, h x y, wrk_k h y]
  have hb2 := (wrk_f h).mp hb
  constructor
  · rintro ((q | q) | q)
    · exact Or.inl q
    · exact Or.inr ⟨by omega, q.2⟩
    · exact Or.inr ⟨by omega, by rw [q.1]; exact hb2, q.2⟩
  · rintro (q | q)
    · exact Or.inl (Or.inl q)
    · by_cases c : x = i
      · exact Or.inr ⟨c, q.2.2⟩
      · exact Or.inl (Or.inr ⟨by omega, q.2⟩)
theorem wrk_n (h : WRK f g j i) (hb : ¬ blt (g i) j = true) : WRK f g j (i + 1) := fun x y => by
  rw [h x y]
  constructor
  · rintro (q | q)
    · exact Or.inl q
    · exact Or.inr ⟨by omega, q.2⟩
  · rintro (q | q)
    · exact Or.inl q
    · by_cases c : x = i
      · exact absurd ((wrk_f h).mpr (by rw [← c]; exact q.2.1)) hb
      · exact Or.inr ⟨by omega, q.2⟩
theorem wrs_s (h : WRS f0 f n j) (hk : WRK f g j i) (hi : n + 1 ≤ i) (hj : j ≤ n) : WRS f0 g n (j + 1) := by
  obtain ⟨h1, h2, h3, h4⟩ := h
  refine ⟨fun x y hx q => ?_, fun x y hx q => (hk x y).mpr (Or.inl (h2 x y hx q)), fun x hx => (hk x x).mpr (Or.inl (h3 x hx)), fun v hv x w hx hvn a b => ?_⟩
  · rcases (hk x y).mp q with q | q
    · exact h1 x y hx q
    · exact wl_tr (h1 x j hx q.2.1) (h1 j y hj q.2.2)
  · have mk : blt (f x) j = true → blt (f j) w = true → blt (g x) w = true := fun a b => (hk x w).mpr (Or.inr ⟨by omega, a, b⟩)
    by_cases c : v = j
    · rw [c] at a b
      have a2 : blt (f x) j = true := (hk x j).mp a |>.elim id (fun q => q.2.1)
      exact mk a2 ((wrk_k hk w).mp b)
    · have vj : v < j := by omega
      rcases (hk x v).mp a with a | a
      · rcases (hk v w).mp b with b | b
        · exact (hk x w).mpr (Or.inl (h4 v vj x w hx hvn a b))
        · exact mk (h4 v vj x j hx hvn a b.2.1) b.2.2
      · rcases (hk v w).mp b with b | b
        · exact mk a.2.1 (h4 v vj j w hj hvn a.2.2 b)
        · exact mk a.2.1 b.2.2
theorem wrs_e (h : WRS f0 f n m) (hm : n + 1 ≤ m) (hb : ∀ x y, x ≤ n → blt (f0 x) y = true → y ≤ n) : ∀ x, x ≤ n → ∀ y, blt (f x) y = true ↔ wlq (EQJ f0 n) x y := fun x hx y => by
  obtain ⟨h1, h2, h3, h4⟩ := h
  refine ⟨h1 x y hx, fun q => ?_⟩
  have r := wl_in (E := EQJ f0 n) (P := fun y => y ≤ n ∧ blt (f x) y = true) (fun a b e hq => ⟨hb a b e.1 e.2, h4 a (by have := e.1; omega) x b hx e.1 hq.2 (h2 a b e.1 e.2)⟩) q ⟨hx, h3 x hx⟩
  exact r.2
end WR
theorem bld_0 {T : Nat → Int32} {n : Nat} {b : Int} {o : Nat → Int32} {jf mf bf : Nat → Int64} {st : Int64} (hg : PTS T n 0 b) (h1 : ∀ x, x < 61 → jf x = Int64.ofInt 0) (h2 : ∀ c, c < 26 → mf c = Int64.ofInt 0) (h3 : bf 0 = Int64.ofInt 0) (h4 : st = Int64.ofInt 1) : BLD T n 0 0 o jf mf bf st := by
  have nr : ∀ x y, ¬ RPJ T n 0 x y := fun x y q => by
    obtain ⟨d0, b0, p0, j0⟩ := pts_p n q.1 hg
    obtain ⟨e1, e2⟩ := p0
    rcases j0 with ⟨k, w⟩ | ⟨k, w⟩ | ⟨k, w⟩ | ⟨k, w⟩ | ⟨k, w⟩ | ⟨_, _, _, _, _, w⟩
    · omega
    · exact rpj_n (by omega) q
    · exact rpj_n (by omega) q
    · exact rpj_n (by omega) q
    · exact rpj_n (by unfold ptA at k; omega) q
    · omega
  refine ⟨rfl, fun l a1 a2 => absurd a2 (by show ¬ l ≤ 0; omega), fun l a1 y => ?_, fun x hx y => ?_, fun c hc x => ?_, fun y => ?_⟩
  · have e : l = 0 := by
      have a2 : l ≤ 0 := a1
      omega
    rw [e, h3, blx_z]
    exact ⟨(fun q => (by cases q)), fun ⟨a, q⟩ => q.elim⟩
  · rw [h1 x hx, blx_z]
    exact ⟨(fun q => (by cases q)), fun q => q.elim (fun q => q.elim) (fun q => absurd q (nr x y))⟩
  · rw [h2 c hc, blx_z]
    exact ⟨(fun q => (by cases q)), fun q => absurd q.1 (Nat.not_lt_zero _)⟩
  · rw [h4]
    have e : blt (Int64.ofInt 1) y = decide (y = 0) := by
      have w := blx_one (z := Int64.ofInt 1) (u := Int32.ofInt 0) (k := y) (by decide +kernel) ⟨by decide, by decide⟩
      exact w
    rw [e, decide_eq_true_iff]
    exact ⟨Or.inl, fun q => q.elim id (fun ⟨_, _, q, _⟩ => q.elim)⟩
/-- what closing leaves -/
def CLJ (n : Nat) (f0 f mf : Nat → Int64) (ac st st2 : Int64) : Prop := (∀ x, x ≤ n → ∀ y, blt (f x) y = true ↔ (wlq (EQJ f0 n) x y ∧ (blt ac y = true ∨ ∃ c, c < 26 ∧ blt (mf c) y = true))) ∧ ∀ y, blt st2 y = true ↔ ∃ x, blt st x = true ∧ blt (f x) y = true
theorem bld_bd {T : Nat → Int32} {n : Nat} {b d : Int} {o : Nat → Int32} {jf mf bf : Nat → Int64} {st : Int64} (hg : PTS T n 0 b) (h : BLD T n n d o jf mf bf st) {x y : Nat} (hx : x < 61) (q : blt (jf x) y = true) : y ≤ n := by
  rcases (h.2.2.2.1 x hx y).mp q with q | q
  · exact ((pin_all n hg).1.1.1 x y q).2
  · exact absurd q.1 (Nat.lt_irrefl _)
theorem bld_d {T : Nat → Int32} {n : Nat} {b d : Int} {o : Nat → Int32} {jf mf bf : Nat → Int64} {st : Int64} (hg : PTS T n 0 b) (h : BLD T n n d o jf mf bf st) : d = 0 := by
  have e := (pin_all n hg).2.1
  have e2 := h.1
  omega
/-- the pattern stands -/
theorem pca_of {T : Nat → Int32} {n : Nat} {b : Int} {o : Nat → Int32} {jf mf bf jf1 jf2 : Nat → Int64} {st st2 ac : Int64} (hn60 : n ≤ 60) (hg : PTS T n 0 b) (h : BLD T n n 0 o jf mf bf st) (ha : ∀ y, blt ac y = true ↔ y = n) (h1 : ∀ x y, blt (jf1 x) y = true ↔ (blt (jf x) y = true ∨ (blt (bf 0) x = true ∧ blt ac y = true))) (h2 : CLJ n jf1 jf2 mf ac st st2) : PCA T n (fun x y => blt (jf2 x) y) (fun c x => blt (mf c) x) (fun y => blt st2 y) (fun y => blt ac y) := by
  obtain ⟨b1, b2, b3, b4, b5, b6⟩ := h
  obtain ⟨i1, i2, -⟩ := pin_all n hg
  have d0 : (pst T n).1 = 0 := by omega
  have g1 := i1.1.1
  have bars : ∀ a x, (pst T n).2.2.2.2.1 0 a x → x < n := fun a x hA => by
    have c := geo_a i1.1 (show 0 ≤ (pst T n).1 by omega) hA
    have c2 := i1.1.2.2.2.1
    omega
  have ed : ∀ x, x < 61 → ∀ y, blt (jf1 x) y = true ↔ EWQ T n x y := fun x hx y => by
    rw [h1 x y, b4 x hx y, b3 0 (by omega) x, ha y]
    show _ ↔ ((pst T n).2.2.1 x y ∨ ((∃ a, (pst T n).2.2.2.2.1 0 a x) ∧ y = n))
    exact ⟨fun q => q.elim (fun q => q.elim Or.inl (fun q => absurd q.1 (Nat.lt_irrefl _))) Or.inr, fun q => q.elim (fun q => Or.inl (Or.inl q)) Or.inr⟩
  have bd : ∀ x y, EWQ T n x y → x < n ∧ y ≤ n := fun x y q => by
    rcases q with q | ⟨⟨a, q⟩, e⟩
    · exact g1 x y q
    · exact ⟨bars a x q, by omega⟩
  have wl : ∀ x y, wlq (EQJ jf1 n) x y ↔ wlq (EWQ T n) x y := fun x y => wl_iff (fun u w => ⟨fun q => (ed u (by have := q.1; omega) w).mp q.2, fun q => ⟨by have := (bd u w q).1; omega, (ed u (by have := (bd u w q).1; omega) w).mpr q⟩⟩)
  have en : ∀ y, (blt ac y = true ∨ ∃ c, c < 26 ∧ blt (mf c) y = true) ↔ (y = n ∨ LET T n y) := fun y => by
    rw [ha y]
    constructor
    · rintro (q | ⟨c, hc, q⟩)
      · exact Or.inl q
      · have w := (b5 c hc y).mp q
        exact Or.inr ⟨w.1, by unfold ptA; omega⟩
    · rintro (q | ⟨q1, q2⟩)
      · exact Or.inl q
      · unfold ptA at q2
        by_cases k : (T y).toInt = 46
        · exact Or.inr ⟨0, by omega, (b5 0 (by omega) y).mpr ⟨q1, Or.inl k⟩⟩
        · exact Or.inr ⟨((T y).toInt - 97).toNat, by omega, (b5 _ (by omega) y).mpr ⟨q1, Or.inr (by omega)⟩⟩
  have J : ∀ x, x ≤ n → ∀ y, blt (jf2 x) y = true ↔ (wlq (EWQ T n) x y ∧ (y = n ∨ LET T n y)) := fun x hx y => by rw [h2.1 x hx y, wl x y, en y]
  have sn : ∀ x, (x = 0 ∨ ∃ a b, (pst T n).2.2.2.2.1 0 a b ∧ x = b + 1) ↔ SWP T n x := fun x => by
    rw [← swp_all n hg x]
    exact ⟨fun q => q.elim (fun q => ⟨n, Or.inr ⟨q, rfl⟩⟩) (fun ⟨b, q⟩ => ⟨b, Or.inl q⟩), fun ⟨b, q⟩ => q.elim (fun q => Or.inr ⟨b, q⟩) (fun q => Or.inl q.1)⟩
  refine ⟨fun x hx y => J (x + 1) (by have := hx.1; omega) y, fun y => (h2.2 y).trans ?_, b5, ha⟩
  constructor
  · rintro ⟨x, q1, q2⟩
    have s1 := (sn x).mp ((b6 x).mp q1)
    have xn : x ≤ n := by
      obtain ⟨b, hb⟩ := s1
      rcases hb with hb | hb
      · have := bars x b hb
        have := geo_a i1.1 (show 0 ≤ (pst T n).1 by omega) hb
        omega
      · have := geo_q i1.1 (show 0 ≤ (pst T n).1 by omega)
        have := i1.1.2.2.2.1
        omega
    have w := (J x xn y).mp q2
    exact ⟨⟨x, s1, w.1⟩, w.2⟩
  · rintro ⟨⟨x, s1, w⟩, q⟩
    have xn : x ≤ n := by
      obtain ⟨b, hb⟩ := s1
      rcases hb with hb | hb
      · have := bars x b hb
        have := geo_a i1.1 (show 0 ≤ (pst T n).1 by omega) hb
        omega
      · have := geo_q i1.1 (show 0 ≤ (pst T n).1 by omega)
        have := i1.1.2.2.2.1
        omega
    exact ⟨x, (b6 x).mpr ((sn x).mpr s1), (J x xn y).mpr ⟨w, q⟩⟩
end
section
/-! THE CLASS'S WALK ALONG A PATTERN -/
theorem blx_61 {x : Int64} {k : Nat} (h0 : InL x 0 2305843009213693951) (hb : blt x k = true) : k < 61 := by
  have hge : 2 ^ k ≤ x.toBitVec.toNat := Nat.ge_two_pow_of_testBit hb
  have g1 : 0 ≤ x.toBitVec.toInt := h0.1
  have g2 : x.toBitVec.toInt ≤ 2305843009213693951 := h0.2
  have hl : 2 * x.toBitVec.toNat < 2 ^ 64 := by
    rw [BitVec.toInt_eq_toNat_cond] at g1
    split at g1
    · assumption
    · have := x.toBitVec.isLt
      omega
  rw [BitVec.toInt_eq_toNat_of_lt hl] at g2
  refine Nat.lt_of_not_le fun c => ?_
  have := Nat.pow_le_pow_right (show 0 < 2 by decide) c
  omega
theorem blx_ex {x : Int64} (hx : x.toInt ≠ 0) : ∃ k, blt x k = true := by
  obtain ⟨k, -, h, -⟩ := low64x hx
  exact ⟨k, h⟩
theorem ior0 {x z : Int32} (e : z = x ||| Int32.ofInt 0) : z.toInt = x.toInt := by
  rw [e, show x ||| Int32.ofInt 0 = x from Int32.or_zero]
theorem ior1 {x z : Int32} (e : z = x ||| Int32.ofInt 1) (hx : In x 0 1) : z.toInt ≠ 0 := by
  have h1 := hx.1
  have h2 := hx.2
  rw [e]
  rcases (show x.toInt = 0 ∨ x.toInt = 1 by omega) with c | c
  · rw [show x = Int32.ofInt 0 from Int32.toInt_inj.mp c]
    decide
  · rw [show x = Int32.ofInt 1 from Int32.toInt_inj.mp c]
    decide
section FP
variable {g : GVW} {mf jf nw s0 nx sn nx2 : Nat → Int64} {D D2 : Nat → Prop} {fr : Int} {u : Nat} {c c2 : Int}
/-- where one comes from now by one arc of D -/
def STD (g : GVW) (mf jf nw : Nat → Int64) (D : Nat → Prop) (v y : Nat) : Prop := ∃ p u x, (p < 160 ∧ D p) ∧ (u < 32 ∧ blt (nw u) x = true) ∧ ARE g 0 p = ((u : Nat) : Int) ∧ ARE g 1 p = ((v : Nat) : Int) ∧ blt (mf (g.2.2.2.2.2.1 p).toNatClampNeg) x = true ∧ blt (jf (x + 1)) y = true
def FPI (g : GVW) (mf jf nw s0 nx sn : Nat → Int64) (D : Nat → Prop) (fr : Int) : Prop :=
  (∀ v, v < 32 → ∀ y, blt (nx v) y = true ↔ (STD g mf jf nw D v y ∧ blt (s0 v) y = false)) ∧
  (∀ v, v < 32 → ∀ y, blt (sn v) y = true ↔ (blt (s0 v) y = true ∨ STD g mf jf nw D v y)) ∧
  (fr = 0 → ∀ v, v < 32 → ∀ y, STD g mf jf nw D v y → blt (s0 v) y = true) ∧
  (fr ≠ 0 → ∃ v y, v < 32 ∧ y < 61 ∧ STD g mf jf nw D v y ∧ blt (s0 v) y = false)
theorem fpi_d (h : FPI g mf jf nw s0 nx sn D fr) (e : ∀ v y, STD g mf jf nw D2 v y ↔ STD g mf jf nw D v y) : FPI g mf jf nw s0 nx sn D2 fr :=
  ⟨fun v hv y => (h.1 v hv y).trans ⟨fun q => ⟨(e v y).mpr q.1, q.2⟩, fun q => ⟨(e v y).mp q.1, q.2⟩⟩, fun v hv y => (h.2.1 v hv y).trans ⟨fun q => q.imp id (e v y).mpr, fun q => q.imp id (e v y).mp⟩, fun f v hv y q => h.2.2.1 f v hv y ((e v y).mp q), fun f => by
    obtain ⟨v, y, h1, h2, h3, h4⟩ := h.2.2.2 f
    exact ⟨v, y, h1, h2, (e v y).mpr h3, h4⟩⟩
theorem std_cg (e : ∀ q, q < 160 → (D2 q ↔ D q)) (v y : Nat) : STD g mf jf nw D2 v y ↔ STD g mf jf nw D v y := by
  constructor
  · rintro ⟨p, u, x, ⟨k1, k2⟩, k⟩
    exact ⟨p, u, x, ⟨k1, (e p k1).mp k2⟩, k⟩
  · rintro ⟨p, u, x, ⟨k1, k2⟩, k⟩
    exact ⟨p, u, x, ⟨k1, (e p k1).mpr k2⟩, k⟩
theorem fpi_s (h : FPI g mf jf nw s0 nx sn D fr) {p v : Nat} {a b nt ad z1 z2 : Int64} {fr2 : Int} (hp : p < 160) (hu : u < 32) (hv : v < 32) (e0 : ARE g 0 p = (u : Int)) (e1 : ARE g 1 p = (v : Int)) (hD : ∀ q, q < 160 → (D2 q ↔ (D q ∨ q = p))) (ha : a = nw u &&& mf (g.2.2.2.2.2.1 p).toNatClampNeg) (hb : ∀ y, blt b y = true ↔ ∃ x, blt a x = true ∧ blt (jf (x + 1)) y = true) (hx : nt = sn v ^^^ Int64.ofInt (-1)) (had : ad = b &&& nt) (h1 : z1 = nx v ||| ad) (h2 : z2 = sn v ||| ad) (hr0 : ad.toInt = 0 → fr2 = fr) (hr1 : ad.toInt ≠ 0 → fr2 ≠ 0) (hbd : InL b 0 2305843009213693951) : FPI g mf jf nw s0 (vp_updL nx v z1) (vp_updL sn v z2) D2 fr2 := by
  have nb : ∀ y, blt b y = true ↔ ∃ x, blt (nw u) x = true ∧ blt (mf (g.2.2.2.2.2.1 p).toNatClampNeg) x = true ∧ blt (jf (x + 1)) y = true := fun y => (hb y).trans ⟨fun ⟨x, q1, q2⟩ => by
    rw [blx_and ha, Bool.and_eq_true] at q1
    exact ⟨x, q1.1, q1.2, q2⟩, fun ⟨x, q1, q2, q3⟩ => ⟨x, by rw [blx_and ha, Bool.and_eq_true]; exact ⟨q1, q2⟩, q3⟩⟩
  have sd : ∀ w y, STD g mf jf nw D2 w y ↔ (STD g mf jf nw D w y ∨ (w = v ∧ blt b y = true)) := fun w y => by
    constructor
    · rintro ⟨q, u2, x, ⟨k1, k2⟩, k3, k4, k5, k6, k7⟩
      rcases (hD q k1).mp k2 with k | k
      · exact Or.inl ⟨q, u2, x, ⟨k1, k⟩, k3, k4, k5, k6, k7⟩
      · rw [k] at k4 k5 k6
        rw [e0] at k4
        rw [e1] at k5
        have eu : u = u2 := by omega
        have ev : w = v := by omega
        rw [← eu] at k3
        exact Or.inr ⟨ev, (nb y).mpr ⟨x, k3.2, k6, k7⟩⟩
    · rintro (⟨q, u2, x, ⟨k1, k2⟩, k⟩ | ⟨k1, k2⟩)
      · exact ⟨q, u2, x, ⟨k1, (hD q k1).mpr (Or.inl k2)⟩, k⟩
      · obtain ⟨x, q1, q2, q3⟩ := (nb y).mp k2
        exact ⟨p, u, x, ⟨hp, (hD p hp).mpr (Or.inr rfl)⟩, ⟨hu, q1⟩, e0, by rw [k1]; exact e1, q2, q3⟩
  have av : ∀ y, blt ad y = true ↔ (blt b y = true ∧ blt (sn v) y = false) := fun y => by
    rw [blx_and had, Bool.and_eq_true]
    constructor
    · rintro ⟨q1, q2⟩
      rw [blx_not hx (blx_lt q1)] at q2
      refine ⟨q1, ?_⟩
      cases k : blt (sn v) y with
      | false => rfl
      | true => rw [k] at q2; cases q2
    · rintro ⟨q1, q2⟩
      exact ⟨q1, by rw [blx_not hx (blx_lt q1), q2]; rfl⟩
  have sf : ∀ y, blt (sn v) y = false → blt (s0 v) y = false ∧ ¬ STD g mf jf nw D v y := fun y q => by
    constructor
    · cases k : blt (s0 v) y with
      | false => rfl
      | true => rw [(h.2.1 v hv y).mpr (Or.inl k)] at q; cases q
    · intro k
      rw [(h.2.1 v hv y).mpr (Or.inr k)] at q
      cases q
  have fs : ∀ y, blt (s0 v) y = false → ¬ STD g mf jf nw D v y → blt (sn v) y = false := fun y q1 q2 => by
    cases k : blt (sn v) y with
    | false => rfl
    | true =>
      rcases (h.2.1 v hv y).mp k with e | e
      · rw [e] at q1
        cases q1
      · exact absurd e q2
  refine ⟨fun w hw y => (lbu h1).trans ?_, fun w hw y => (lbu h2).trans ?_, fun f w hw y q => ?_, fun f => ?_⟩
  · rw [h.1 w hw y, av y, sd w y]
    constructor
    · rintro (q | ⟨q1, q2, q3⟩)
      · exact ⟨Or.inl q.1, q.2⟩
      · exact ⟨Or.inr ⟨q1, q2⟩, by rw [q1]; exact (sf y q3).1⟩
    · rintro ⟨q1, q2⟩
      by_cases k : STD g mf jf nw D w y
      · exact Or.inl ⟨k, q2⟩
      · have q3 := q1.resolve_left k
        rw [q3.1] at k q2
        exact Or.inr ⟨q3.1, q3.2, fs y q2 k⟩
  · rw [h.2.1 w hw y, av y, sd w y]
    constructor
    · rintro ((q | q) | ⟨q1, q2, -⟩)
      · exact Or.inl q
      · exact Or.inr (Or.inl q)
      · exact Or.inr (Or.inr ⟨q1, q2⟩)
    · rintro (q | q | ⟨q1, q2⟩)
      · exact Or.inl (Or.inl q)
      · exact Or.inl (Or.inr q)
      · cases k : blt (sn v) y with
        | false => exact Or.inr ⟨q1, q2, rfl⟩
        | true =>
          rw [q1]
          exact Or.inl ((h.2.1 v hv y).mp k)
  · have a0 : ad.toInt = 0 := Classical.byContradiction fun k => hr1 k f
    have f0 : fr = 0 := (hr0 a0).symm.trans f
    rcases (sd w y).mp q with k | ⟨k1, k2⟩
    · exact h.2.2.1 f0 w hw y k
    · rw [k1]
      cases m : blt (sn v) y with
      | false =>
        have z := (av y).mpr ⟨k2, m⟩
        rw [blx_0 a0] at z
        cases z
      | true => exact ((h.2.1 v hv y).mp m).elim id (fun z => h.2.2.1 f0 v hv y z)
  · by_cases a0 : ad.toInt = 0
    · obtain ⟨w, y, k1, k2, k3, k4⟩ := h.2.2.2 (fun z => f ((hr0 a0).trans z))
      exact ⟨w, y, k1, k2, (sd w y).mpr (Or.inl k3), k4⟩
    · obtain ⟨y, hy⟩ := blx_ex a0
      have k := (av y).mp hy
      exact ⟨v, y, hv, blx_61 hbd k.1, (sd v y).mpr (Or.inr ⟨rfl, k.1⟩), (sf y k.2).1⟩
/-- arcs of the nodes below u -/
def DRU (g : GVW) (u q : Nat) : Prop := ∃ w : Nat, w < u ∧ ARE g 0 q = (w : Int)
/-- and of u the first c -/
def DRO (g : GVW) (u : Nat) (c : Int) (q : Nat) : Prop := DRU g u q ∨ (ARE g 0 q = (u : Int) ∧ cn (ARE g 0) (u : Int) q < c)
theorem fpi_0 (h1 : ∀ v, v < 32 → nx v = Int64.ofInt 0) (hu : u = 0) (hf : fr = 0) : FPI g mf jf nw sn nx sn (DRU g u) fr := by
  have no : ∀ v y, ¬ STD g mf jf nw (DRU g u) v y := fun v y ⟨p, _, _, ⟨_, w, hw, _⟩, _⟩ => by omega
  refine ⟨fun v hv y => ?_, fun v hv y => ⟨Or.inl, fun q => q.elim id (fun q => absurd q (no v y))⟩, fun _ v _ y q => absurd q (no v y), fun f => absurd hf f⟩
  rw [h1 v hv, blx_z]
  exact ⟨(fun q => (by cases q)), fun q => absurd q.1 (no v y)⟩
theorem fpi_i (h : FPI g mf jf nw s0 nx sn (DRU g u) fr) (hc : c = 0) : FPI g mf jf nw s0 nx sn (DRO g u c) fr := fpi_d h (std_cg fun q _ => ⟨fun k => k.elim id (fun k => by
  have := cn_0 (ARE g 0) (u : Int) q
  omega), Or.inl⟩)
theorem dru_s {q : Nat} (h : DRU g (u + 1) q) : DRU g u q ∨ ARE g 0 q = (u : Int) := by
  obtain ⟨w, hw, e⟩ := h
  by_cases k : w = u
  · rw [k] at e
    exact Or.inr e
  · exact Or.inl ⟨w, by omega, e⟩
theorem dro_n {q : Nat} (h : DRO g u c q) : DRU g (u + 1) q := by
  rcases h with ⟨w, hw, e⟩ | h
  · exact ⟨w, by omega, e⟩
  · exact ⟨u, by omega, h.1⟩
theorem fpi_n (h : FPI g mf jf nw s0 nx sn (DRO g u c) fr) (hc : ∀ p, p < 160 → ARE g 0 p = (u : Int) → cn (ARE g 0) (u : Int) p < c) : FPI g mf jf nw s0 nx sn (DRU g (u + 1)) fr := fpi_d h (std_cg fun q hq => ⟨fun k => (dru_s k).imp id (fun e => ⟨e, hc q hq e⟩), dro_n⟩)
theorem fpi_z (h : FPI g mf jf nw s0 nx sn (DRO g u c) fr) (hz : (nw u).toInt = 0) : FPI g mf jf nw s0 nx sn (DRU g (u + 1)) fr := by
  refine fpi_d h fun v y => ⟨?_, ?_⟩
  · rintro ⟨p, w, x, ⟨k1, k2⟩, k3, k4, k5⟩
    rcases dru_s k2 with k | k
    · exact ⟨p, w, x, ⟨k1, Or.inl k⟩, k3, k4, k5⟩
    · have e : w = u := by rw [k4] at k; omega
      have z := k3.2
      rw [e, blx_0 hz] at z
      cases z
  · rintro ⟨p, w, x, ⟨k1, k2⟩, k⟩
    exact ⟨p, w, x, ⟨k1, dro_n k2⟩, k⟩
theorem fpi_a (h : FPI g mf jf nw s0 nx sn (DRO g u c) fr) {p v : Nat} {a b nt ad z1 z2 : Int64} {fr2 : Int} (hp : p < 160) (hu : u < 32) (hv : v < 32) (e0 : ARE g 0 p = (u : Int)) (e1 : ARE g 1 p = (v : Int)) (e2 : cn (ARE g 0) (u : Int) p = c) (hc : c2 = c + 1) (ha : a = nw u &&& mf (g.2.2.2.2.2.1 p).toNatClampNeg) (hb : ∀ y, blt b y = true ↔ ∃ x, blt a x = true ∧ blt (jf (x + 1)) y = true) (hx : nt = sn v ^^^ Int64.ofInt (-1)) (had : ad = b &&& nt) (h1 : z1 = nx v ||| ad) (h2 : z2 = sn v ||| ad) (hr0 : ad.toInt = 0 → fr2 = fr) (hr1 : ad.toInt ≠ 0 → fr2 ≠ 0) (hbd : InL b 0 2305843009213693951) : FPI g mf jf nw s0 (vp_updL nx v z1) (vp_updL sn v z2) (DRO g u c2) fr2 := by
  refine fpi_s h hp hu hv e0 e1 (fun q _ => ⟨fun k => ?_, fun k => ?_⟩) ha hb hx had h1 h2 hr0 hr1 hbd
  · rcases k with k | ⟨k1, k2⟩
    · exact Or.inl (Or.inl k)
    · by_cases k3 : cn (ARE g 0) (u : Int) q < c
      · exact Or.inl (Or.inr ⟨k1, k3⟩)
      · exact Or.inr (cn_inj k1 e0 (by omega))
  · rcases k with (k | ⟨k1, k2⟩) | k
    · exact Or.inl k
    · exact Or.inr ⟨k1, by omega⟩
    · rw [k]
      exact Or.inr ⟨e0, by omega⟩
theorem fpi_e (h : FPI g mf jf nw s0 nx sn (DRU g u) fr) (hD : ∀ q w : Nat, q < 160 → ARE g 0 q = (w : Int) → w < u) (h9 : ∀ v, v < 32 → nx2 v = nx v) : FPI g mf jf nw s0 nx2 sn (fun _ => True) fr := by
  have k : FPI g mf jf nw s0 nx sn (fun _ => True) fr := fpi_d h fun v y => ⟨fun ⟨p, w, x, ⟨k1, _⟩, k3, k4, k5⟩ => ⟨p, w, x, ⟨k1, w, hD p w k1 k4, k4⟩, k3, k4, k5⟩, fun ⟨p, w, x, ⟨k1, _⟩, k⟩ => ⟨p, w, x, ⟨k1, trivial⟩, k⟩⟩
  exact ⟨fun v hv y => by rw [h9 v hv]; exact k.1 v hv y, k.2⟩
/-! the layers -/
def ARQ (g : GVW) (c u v : Nat) : Prop := ∃ p, p < 160 ∧ ARE g 0 p = (u : Int) ∧ ARE g 1 p = (v : Int) ∧ (g.2.2.2.2.2.1 p).toNatClampNeg = c ∧ c < 26
def bl2 (f : Nat → Int64) (v y : Nat) : Bool := decide (v < 32) && blt (f v) y
theorem bl2_t {f : Nat → Int64} {v y : Nat} : bl2 f v y = true ↔ (v < 32 ∧ blt (f v) y = true) := by
  unfold bl2
  rw [Bool.and_eq_true, decide_eq_true_eq]
theorem bl2_n {f : Nat → Int64} {v y : Nat} (hv : v < 32) : bl2 f v y = blt (f v) y := by
  unfold bl2
  rw [decide_eq_true hv]
  rfl
abbrev LPQ (g : GVW) (mf jf : Nat → Int64) (st : Int64) (s : Nat) : Nat → Nat → Nat → Prop := PDQ (ARQ g) (fun c x => blt (mf c) x) (fun x y => blt (jf x) y) (fun y => blt st y) s
abbrev STQ (g : GVW) (mf jf nw : Nat → Int64) : Nat → Nat → Prop := STP (ARQ g) (fun c x => blt (mf c) x) (fun x y => blt (jf x) y) (bl2 nw)
theorem std_p (hk : ∀ p, p < 160 → (g.2.2.2.2.2.1 p).toNatClampNeg < 26) (v y : Nat) : STQ g mf jf nw v y ↔ STD g mf jf nw (fun _ => True) v y := by
  constructor
  · rintro ⟨u, x, c, h1, ⟨p, k1, k2, k3, k4, -⟩, h3, h4⟩
    have h3' : blt (mf c) x = true := h3
    rw [← k4] at h3'
    exact ⟨p, u, x, ⟨k1, trivial⟩, bl2_t.mp h1, k2, k3, h3', h4⟩
  · rintro ⟨p, u, x, ⟨k1, -⟩, k3, k4, k5, k6, k7⟩
    exact ⟨u, x, _, bl2_t.mpr k3, ⟨p, k1, k4, k5, rfl, hk p k1⟩, k6, k7⟩
theorem fpi_l (h : FPI g mf jf nw s0 nx sn (fun _ => True) fr) (hk : ∀ p, p < 160 → (g.2.2.2.2.2.1 p).toNatClampNeg < 26) (hv : ∀ p v : Nat, p < 160 → ARE g 1 p = (v : Int) → v < 32) : (∀ v y, bl2 nx v y = true ↔ (STQ g mf jf nw v y ∧ bl2 s0 v y = false)) ∧ (∀ v y, bl2 sn v y = true ↔ (bl2 s0 v y = true ∨ STQ g mf jf nw v y)) := by
  have w32 : ∀ v y, STQ g mf jf nw v y → v < 32 := fun v y q => by
    obtain ⟨p, u, x, ⟨k1, -⟩, k3, k4, k5, -⟩ := (std_p hk v y).mp q
    exact hv p v k1 k5
  constructor
  · intro v y
    by_cases c : v < 32
    · rw [bl2_n c, bl2_n c, std_p hk]
      exact h.1 v c y
    · exact ⟨fun q => absurd (bl2_t.mp q).1 c, fun q => absurd (w32 v y q.1) c⟩
  · intro v y
    by_cases c : v < 32
    · rw [bl2_n c, bl2_n c, std_p hk]
      exact h.2.1 v c y
    · exact ⟨fun q => absurd (bl2_t.mp q).1 c, fun q => q.elim (fun q => absurd (bl2_t.mp q).1 c) (fun q => absurd (w32 v y q) c)⟩
/-- how many pairs -/
def cpq (f : Nat → Nat → Bool) : Nat → Nat
  | 0 => 0
  | k + 1 => cpq f k + (if f (k / 61) (k % 61) = true then 1 else 0)
theorem cpq_le {f : Nat → Nat → Bool} : ∀ k, cpq f k ≤ k
  | 0 => Nat.le_refl _
  | k + 1 => by
    have := cpq_le (f := f) k
    show cpq f k + (if f (k / 61) (k % 61) = true then 1 else 0) ≤ k + 1
    split <;> omega
theorem cpq_m {f h : Nat → Nat → Bool} (e : ∀ v y, f v y = true → h v y = true) : ∀ k, cpq f k ≤ cpq h k
  | 0 => Nat.le_refl _
  | k + 1 => by
    have := cpq_m e k
    show cpq f k + (if f (k / 61) (k % 61) = true then 1 else 0) ≤ cpq h k + (if h (k / 61) (k % 61) = true then 1 else 0)
    by_cases q : f (k / 61) (k % 61) = true
    · rw [if_pos q, if_pos (e _ _ q)]
      omega
    · rw [if_neg q]
      split <;> omega
theorem cpq_s {f h : Nat → Nat → Bool} (e : ∀ v y, f v y = true → h v y = true) {j : Nat} (h1 : f (j / 61) (j % 61) = false) (h2 : h (j / 61) (j % 61) = true) : ∀ k, j < k → cpq f k + 1 ≤ cpq h k
  | 0, hj => absurd hj (Nat.not_lt_zero _)
  | k + 1, hj => by
    show cpq f k + (if f (k / 61) (k % 61) = true then 1 else 0) + 1 ≤ cpq h k + (if h (k / 61) (k % 61) = true then 1 else 0)
    by_cases c : j = k
    · rw [c] at h1 h2
      rw [h1, h2]
      have := cpq_m e k
      show cpq f k + 0 + 1 ≤ cpq h k + 1
      omega
    · have := cpq_s e h1 h2 k (by omega)
      by_cases q : f (k / 61) (k % 61) = true
      · rw [if_pos q, if_pos (e _ _ q)]
        omega
      · rw [if_neg q]
        split <;> omega
variable {st ac : Int64} {s t L : Nat} {now seen : Nat → Int64}
def LFI (g : GVW) (mf jf : Nat → Int64) (st ac : Int64) (s t : Nat) (now seen : Nat → Int64) (L : Nat) : Prop := LAY (LPQ g mf jf st s) L (bl2 now) (bl2 seen) ∧ L ≤ cpq (bl2 seen) 1952 ∧ ∀ M y, M < L → LPQ g mf jf st s M t y → blt ac y = false
theorem lfi_0 {f f2 : Nat → Int64} {z z2 : Int64} (hs : s < 32) (h1 : ∀ v, v < 32 → f v = Int64.ofInt 0) (h2 : ∀ v, v < 32 → f2 v = Int64.ofInt 0) (hz : z = st) (hz2 : z2 = st) (hL : L = 0) : LFI g mf jf st ac s t (vp_updL f s z) (vp_updL f2 s z2) L := by
  have key : ∀ {f : Nat → Int64} {z : Int64}, (∀ v, v < 32 → f v = Int64.ofInt 0) → z = st → ∀ v y, bl2 (vp_updL f s z) v y = true ↔ (v = s ∧ blt st y = true) := fun {f z} h hz v y => by
    rw [bl2_t]
    by_cases c : v = s
    · rw [c, vp_at, hz]
      exact ⟨fun q => ⟨rfl, q.2⟩, fun q => ⟨hs, q.2⟩⟩
    · rw [vp_ne c]
      refine ⟨fun q => ?_, fun q => absurd q.1 c⟩
      have w := q.2
      rw [h v q.1, blx_z] at w
      cases w
  rw [hL]
  exact ⟨lay_0 (key h2 hz2) (key h1 hz), Nat.zero_le _, fun M y hM => absurd hM (Nat.not_lt_zero _)⟩
theorem noa {a b z : Int64} (e : z = a &&& b) (h : z.toInt = 0) : ∀ y, blt a y = true → blt b y = false := fun y q => by
  have w := blx_and (k := y) e
  rw [blx_0 h, q, Bool.true_and] at w
  exact w.symm
theorem lfi_s {L2 : Nat} (h : LFI g mf jf st ac s t nw s0 L) (hf : FPI g mf jf nw s0 nx sn (fun _ => True) fr) (hk : ∀ p, p < 160 → (g.2.2.2.2.2.1 p).toNatClampNeg < 26) (hv : ∀ p v : Nat, p < 160 → ARE g 1 p = (v : Int) → v < 32) (ht : t < 32) (hr : fr ≠ 0) (hn : ∀ y, blt (s0 t) y = true → blt ac y = false) (e : L2 = L + 1) : LFI g mf jf st ac s t nx sn L2 := by
  have w := fpi_l hf hk hv
  rw [e]
  refine ⟨lay_s h.1 w.1 w.2, ?_, fun M y hM p => ?_⟩
  · obtain ⟨v, y, h1, h2, h3, h4⟩ := hf.2.2.2 hr
    have d1 : (61 * v + y) / 61 = v := by omega
    have d2 : (61 * v + y) % 61 = y := by omega
    have m := cpq_s (f := bl2 s0) (h := bl2 sn) (fun v y q => (w.2 v y).mpr (Or.inl q)) (j := 61 * v + y) (by rw [d1, d2, bl2_n h1]; exact h4) (by rw [d1, d2]; exact (w.2 v y).mpr (Or.inr ((std_p hk v y).mpr h3))) 1952 (by omega)
    have := h.2.1
    omega
  · by_cases c : M < L
    · exact h.2.2 M y c p
    · exact hn y (bl2_t.mp ((h.1.1 t y).mpr ⟨M, by omega, p⟩)).2
theorem lfi_x (h : LFI g mf jf st ac s t nw s0 L) (hL : 1952 < L) : False := by
  have a := h.2.1
  have b := cpq_le (f := bl2 s0) 1952
  omega
theorem ftb_y {z : Int64} {r : Int} (h : LFI g mf jf st ac s t nw s0 L) (e : z = s0 t &&& ac) (hz : z.toInt ≠ 0) (ht : t < 32) (hr : r = (L : Int)) : FTB (LPQ g mf jf st s) t (fun y => blt ac y) r := by
  obtain ⟨y, hy⟩ := blx_ex hz
  rw [blx_and e, Bool.and_eq_true] at hy
  obtain ⟨M, hM, p⟩ := (h.1.1 t y).mp (bl2_t.mpr ⟨ht, hy.1⟩)
  refine Or.inr ⟨by omega, ⟨y, ?_, hy.2⟩, fun M2 y2 h2 p2 => h.2.2 M2 y2 (by omega) p2⟩
  by_cases c : M < L
  · have w := h.2.2 M y c p
    rw [hy.2] at w
    cases w
  · rw [show r.toNat = M by omega]
    exact p
theorem ftb_n {r : Int} (h : LFI g mf jf st ac s t nw s0 L) (hf : FPI g mf jf nw s0 nx sn (fun _ => True) fr) (hk : ∀ p, p < 160 → (g.2.2.2.2.2.1 p).toNatClampNeg < 26) (hv : ∀ p v : Nat, p < 160 → ARE g 1 p = (v : Int) → v < 32) (hr : fr = 0) (hn : ∀ y, blt (s0 t) y = true → blt ac y = false) (e : r = -1) : FTB (LPQ g mf jf st s) t (fun y => blt ac y) r := by
  have k := lay_e h.1 (fun v y q => by
    have q2 := (std_p hk v y).mp q
    obtain ⟨p, u, x, ⟨k1, -⟩, k3, k4, k5, -⟩ := q2
    have h32 := hv p v k1 k5
    rw [bl2_n h32]
    exact hf.2.2.1 hr v h32 y ((std_p hk v y).mp q))
  exact Or.inl ⟨e, fun M y p => hn y (bl2_t.mp (k M t y p)).2⟩
end FP
theorem kd_in {s : GS} (hI : Inv s) {q : Nat} (hw : wak q 0 160 = true) (hr : rI q = (0, 25)) : ∀ p, p < 160 → (s.1 q p).toNatClampNeg < 26 := fun p hp => by
  have e := hI.1.1 q p (by rw [(wak_w hw).2.2]; exact hp)
  rw [hr] at e
  have a : (s.1 q p).toInt ≤ 25 := e.2
  show (s.1 q p).toInt.toNat < 26
  omega
theorem to_32 {g : GVW} (hN : NDQ g) (hn : g.2.2.2.2.2.2.1 ≤ 32) : ∀ p v : Nat, p < 160 → ARE g 1 p = (v : Int) → v < 32 := fun p v hp h => by
  have ne := are_ne h
  have r := (hN p hp ne).2
  rw [are_t hp ne (by decide)] at h
  omega
end
section
/-! THE REFERENCE'S WALK ALONG A PATTERN -/
theorem gvz_k {s : GS} (hI : Inv s) (p : Nat) : (gvZ s).2.2.2.2.2.1 p = s.1 117 (bs s + p) := by
  have k2 : (s.2.2.1 109 19).toInt = 160 * (s.2.2.1 109 18).toInt := hI.2.2.2.2.2.2.2.2.2.1
  have i18 := inv_F hI (z := s.2.2.1 109 18) 0 1 rfl rfl
  have eb : bs s = 160 * (s.2.2.1 109 18).toNatClampNeg := by
    show (s.2.2.1 109 19).toInt.toNat = 160 * (s.2.2.1 109 18).toInt.toNat
    have := i18.1
    omega
  rw [eb]
  rfl
theorem trem_w {z x : Int32} {a b k : Int} (hz : z = x - x / Int32.ofInt k * Int32.ofInt k) (hx : In x a b) (h0 : decide (0 < k ∧ k ≤ 2147483647 ∧ 0 ≤ a) = true) : z.toInt = x.toInt % k := by
  have h := t_div (z := x / Int32.ofInt k) rfl hx h0
  have h0 := of_decide_eq_true h0
  obtain ⟨x1, x2⟩ := hx
  have e : (Int32.ofInt k).toInt = k := Int32.toInt_ofInt_of_le (by omega) (by omega)
  have hxm := Int32.toInt_lt x
  have r0 := Int.emod_nonneg x.toInt (show k ≠ 0 by omega)
  have r1 := Int.emod_lt_of_pos x.toInt h0.1
  have rd := Int.mul_ediv_add_emod x.toInt k
  have e1 : (x / Int32.ofInt k * Int32.ofInt k).toInt = k * (x.toInt / k) := by
    rw [Int32.toInt_mul, h, e, Int.mul_comm]
    exact Int.bmod_eq_of_le (by omega) (by omega)
  have e2 : z.toInt = x.toInt - k * (x.toInt / k) := by
    rw [hz, Int32.toInt_sub, e1]
    exact Int.bmod_eq_of_le (by omega) (by omega)
  omega
/-- the numbers of steps: -1 where the row ends -/
def cmr (f : Nat → Int32) (x : Nat) : Int := if x < 2000 then (f x).toInt else -1
def qfr (f : Nat → Int32) (i : Nat) : Nat := (f i).toNatClampNeg
theorem cmr_l {f : Nat → Int32} {x : Nat} (h : x < 2000) : cmr f x = (f x).toInt := if_pos h
theorem cmr_u {f : Nat → Int32} {j : Nat} {v : Int32} (hj : j < 2000) : cmr (upd f j v) j = v.toInt ∧ ∀ x, x ≠ j → cmr (upd f j v) x = cmr f x := by
  refine ⟨by rw [cmr_l hj, ug_at], fun x hx => ?_⟩
  unfold cmr
  rw [ug_ne hx]
theorem qfr_u {f : Nat → Int32} {j : Nat} {v : Int32} : qfr (upd f j v) j = v.toNatClampNeg ∧ ∀ i, i < j → qfr (upd f j v) i = qfr f i := by
  refine ⟨by unfold qfr; rw [ug_at], fun i hi => ?_⟩
  unfold qfr
  rw [ug_ne (by omega)]
/-- of an arc to tv the letters below k are gone through: IS: which of them come next -/
def GOQ (qf0 : Nat → Nat) (cm0 : Nat → Int) (la0 : Nat) (stp : Int) (IS : Nat → Prop) (tv fnd : Nat) (qf : Nat → Nat) (cm : Nat → Int) (la k : Nat) : Prop := ∀ (SU : Nat → Nat → Prop) (ACC : Nat → Prop) (a fi : Nat) (D : Nat → Prop), QBK SU ACC a qf0 cm0 fi la0 D → fi < la0 → stp = cm0 (qf0 fi) + 1 → (∀ p, p < fnd → IS p → SU (qf0 fi) (61 * tv + (p + 1))) → QBK SU ACC a qf cm fi la (fun y => D y ∨ ∃ p, p < k ∧ IS p ∧ y = 61 * tv + (p + 1)) ∧ qf fi = qf0 fi ∧ cm (qf0 fi) = cm0 (qf0 fi) ∧ la0 ≤ la
section GO
variable {qf0 qf qg : Nat → Nat} {cm0 cm cn2 : Nat → Int} {la0 la la2 tv fnd k k2 y : Nat} {stp : Int} {IS : Nat → Prop}
theorem goq_0 (hk : k = 0) : GOQ qf cm la stp IS tv fnd qf cm la k := fun SU ACC a fi D h _ _ _ => ⟨qbk_d h (fun x q => q.elim id (fun ⟨p, hp, _⟩ => absurd hp (by omega))), rfl, rfl, Nat.le_refl _⟩
theorem goq_n (h : GOQ qf0 cm0 la0 stp IS tv fnd qf cm la k) (hn : ¬ IS k) (e : k2 = k + 1) : GOQ qf0 cm0 la0 stp IS tv fnd qf cm la k2 := fun SU ACC a fi D h1 h2 h3 h4 => by
  obtain ⟨w, w2⟩ := h SU ACC a fi D h1 h2 h3 h4
  refine ⟨qbk_d w (fun x q => q.imp id (fun ⟨p, hp, hi, hx⟩ => ⟨p, ?_, hi, hx⟩)), w2⟩
  by_cases c : p = k
  · rw [c] at hi
    exact absurd hi hn
  · omega
theorem goq_w {D : Nat → Prop} (e : k2 = k + 1) (hy : y = 61 * tv + (k + 1)) (x : Nat) : (D x ∨ ∃ p, p < k2 ∧ IS p ∧ x = 61 * tv + (p + 1)) → (D x ∨ ∃ p, p < k ∧ IS p ∧ x = 61 * tv + (p + 1)) ∨ x = y := fun q => by
  rcases q with q | ⟨p, hp, hi, hx⟩
  · exact Or.inl (Or.inl q)
  · by_cases c : p = k
    · rw [c] at hx
      exact Or.inr (hx.trans hy.symm)
    · exact Or.inl (Or.inr ⟨p, by omega, hi, hx⟩)
theorem goq_k (h : GOQ qf0 cm0 la0 stp IS tv fnd qf cm la k) (hy : y = 61 * tv + (k + 1)) (hc : 0 ≤ cm y) (e : k2 = k + 1) : GOQ qf0 cm0 la0 stp IS tv fnd qf cm la k2 := fun SU ACC a fi D h1 h2 h3 h4 => by
  obtain ⟨w, w2⟩ := h SU ACC a fi D h1 h2 h3 h4
  exact ⟨qbk_d (qbk_k (y := y) w (Nat.lt_of_lt_of_le h2 w2.2.2) hc) (goq_w e hy), w2⟩
theorem goq_p (h : GOQ qf0 cm0 la0 stp IS tv fnd qf cm la k) (hk : k < fnd) (hi : IS k) (hy : y = 61 * tv + (k + 1)) (hc : cm y < 0) (e1 : qg la = y) (e2 : ∀ i, i < la → qg i = qf i) (e3 : cn2 y = stp) (e4 : ∀ x, x ≠ y → cn2 x = cm x) (e : k2 = k + 1) (el : la2 = la + 1) : GOQ qf0 cm0 la0 stp IS tv fnd qg cn2 la2 k2 := fun SU ACC a fi D h1 h2 h3 h4 => by
  obtain ⟨w, w1, w2, w3⟩ := h SU ACC a fi D h1 h2 h3 h4
  have hf : fi < la := Nat.lt_of_lt_of_le h2 w3
  have sc : stp = cm (qf fi) + 1 := by rw [w1, w2]; exact h3
  have su : SU (qf fi) y := by rw [w1, hy]; exact h4 k hk hi
  have u := qbk_p w hf su hc e1 e2 sc e3 e4
  have ne : qf0 fi ≠ y := fun z => by
    have q := (w.2.1 fi hf).1
    rw [w1, z] at q
    omega
  rw [el]
  exact ⟨qbk_d u (goq_w e hy), (e2 fi hf).trans w1, (e4 _ ne).trans w2, by omega⟩
end GO
/-- the arcs below k -/
def ARK (g : GVW) (k c u v : Nat) : Prop := ∃ p, p < k ∧ ARE g 0 p = (u : Int) ∧ ARE g 1 p = (v : Int) ∧ (g.2.2.2.2.2.1 p).toNatClampNeg = c ∧ c < 26
section SK
variable {g : GVW} {k fnd x y : Nat} {kd : Nat → Int} {fst : Nat → Bool} {beh : Nat → Nat → Bool}
theorem sur_n (h : ARE g 0 k ≠ ((x / 61 : Nat) : Int)) (q : SUR (ARK g (k + 1)) fnd kd fst beh x y) : SUR (ARK g k) fnd kd fst beh x y := by
  obtain ⟨c, v, p, ⟨r, r1, r2, r3⟩, q2⟩ := q
  refine ⟨c, v, p, ⟨r, ?_, r2, r3⟩, q2⟩
  by_cases e : r = k
  · rw [e] at r2
    exact absurd r2 h
  · omega
theorem sur_y {tv : Nat} {kk : Int} (ht : ARE g 1 k = (tv : Int)) (hk : kk = (((g.2.2.2.2.2.1 k).toNatClampNeg : Nat) : Int)) (q : SUR (ARK g (k + 1)) fnd kd fst beh x y) : SUR (ARK g k) fnd kd fst beh x y ∨ ∃ p, p < fnd ∧ (NXb fst beh (x % 61) p ∧ (kd p = 26 ∨ kd p = kk)) ∧ y = 61 * tv + (p + 1) := by
  obtain ⟨c, v, p, ⟨r, r1, r2, r3, r4, r5⟩, q2, q3, q4, q5⟩ := q
  by_cases e : r = k
  · rw [e] at r3 r4
    have ev : v = tv := by rw [ht] at r3; omega
    rw [ev] at q3
    exact Or.inr ⟨p, q2, ⟨q4, by rw [hk, r4]; exact q5⟩, q3⟩
  · exact Or.inl ⟨c, v, p, ⟨r, by omega, r2, r3, r4, r5⟩, q2, q3, q4, q5⟩
theorem sur_i {tv p : Nat} {kk : Int} (hk1 : k < 160) (h0 : ARE g 0 k = ((x / 61 : Nat) : Int)) (ht : ARE g 1 k = (tv : Int)) (hk : kk = (((g.2.2.2.2.2.1 k).toNatClampNeg : Nat) : Int)) (h26 : kk < 26) (hp : p < fnd) (hi : NXb fst beh (x % 61) p ∧ (kd p = 26 ∨ kd p = kk)) : SUR (ARQ g) fnd kd fst beh x (61 * tv + (p + 1)) := by
  refine ⟨(g.2.2.2.2.2.1 k).toNatClampNeg, tv, p, ⟨k, hk1, h0, ht, rfl, by omega⟩, hp, rfl, hi.1, ?_⟩
  rw [← hk]
  exact hi.2
theorem sur_a (q : SUR (ARQ g) fnd kd fst beh x y) : SUR (ARK g 160) fnd kd fst beh x y := q
theorem sur_0 (q : SUR (ARK g 0) fnd kd fst beh x y) : False := by
  obtain ⟨_, _, _, ⟨r, r1, _⟩, _⟩ := q
  exact absurd r1 (Nat.not_lt_zero _)
end SK
/-- of the state in work the arcs below k are gone through -/
def QFK (g : GVW) (ACC : Nat → Prop) (a fnd : Nat) (kd : Nat → Int) (fst : Nat → Bool) (beh : Nat → Nat → Bool) (qf : Nat → Nat) (cm : Nat → Int) (fi la k : Nat) : Prop := QBK (SUR (ARQ g) fnd kd fst beh) ACC a qf cm fi la (SUR (ARK g k) fnd kd fst beh (qf fi))
section QK
variable {g : GVW} {ACC : Nat → Prop} {a fnd fi la la2 k : Nat} {kd : Nat → Int} {fst : Nat → Bool} {beh : Nat → Nat → Bool} {qf qg : Nat → Nat} {cm cn2 : Nat → Int} {IS : Nat → Prop} {tv : Nat} {kk stp : Int}
theorem qfk_0 (h : QBK (SUR (ARQ g) fnd kd fst beh) ACC a qf cm fi la (fun _ => False)) (hk : k = 0) : QFK g ACC a fnd kd fst beh qf cm fi la k := qbk_d h (fun y q => by rw [hk] at q; exact sur_0 q)
theorem qfk_n {k2 : Nat} (h : QFK g ACC a fnd kd fst beh qf cm fi la k) (hn : ARE g 0 k ≠ ((qf fi / 61 : Nat) : Int)) (e : k2 = k + 1) : QFK g ACC a fnd kd fst beh qf cm fi la k2 := qbk_d h (fun y q => by rw [e] at q; exact sur_n hn q)
theorem qfk_s {k2 : Nat} (h : QFK g ACC a fnd kd fst beh qf cm fi la k) (hf : fi < la) (hg : GOQ qf cm la stp IS tv fnd qg cn2 la2 fnd) (hs : stp = cm (qf fi) + 1) (hIS : ∀ p, p < fnd → (IS p ↔ (NXb fst beh (qf fi % 61) p ∧ (kd p = 26 ∨ kd p = kk)))) (hk1 : k < 160) (h0 : ARE g 0 k = ((qf fi / 61 : Nat) : Int)) (ht : ARE g 1 k = (tv : Int)) (hk : kk = (((g.2.2.2.2.2.1 k).toNatClampNeg : Nat) : Int)) (h26 : kk < 26) (e : k2 = k + 1) : QFK g ACC a fnd kd fst beh qg cn2 fi la2 k2 := by
  obtain ⟨w, w1, w2, w3⟩ := hg _ ACC a fi _ h hf hs (fun p hp hi => sur_i hk1 h0 ht hk h26 hp ((hIS p hp).mp hi))
  unfold QFK
  rw [w1, e]
  exact qbk_d w (fun y q => (sur_y ht hk q).imp id (fun ⟨p, hp, hi, hy⟩ => ⟨p, hp, (hIS p hp).mpr hi, hy⟩))
theorem qfk_e {fi2 : Nat} (h : QFK g ACC a fnd kd fst beh qf cm fi la k) (hk : k = 160) (hf : fi < la) (hn : ¬ ACC (qf fi)) (e : fi2 = fi + 1) : QBK (SUR (ARQ g) fnd kd fst beh) ACC a qf cm fi2 la (fun _ => False) := qbk_n h hf (fun y q => by rw [hk]; exact sur_a q) hn e
end QK
theorem nxb_0 {fst : Nat → Bool} {beh : Nat → Nat → Bool} {i p : Nat} (h : i = 0) : NXb fst beh i p ↔ fst p = true := by rw [h]; exact Iff.rfl
theorem nxb_s {fst : Nat → Bool} {beh : Nat → Nat → Bool} {i j p : Nat} (h : i = j + 1) : NXb fst beh i p ↔ beh j p = true := by rw [h]; exact Iff.rfl
theorem edb_0 {emp : Prop} {lst : Nat → Bool} {i : Nat} (h : i = 0) : EDb emp lst i ↔ emp := by rw [h]; exact Iff.rfl
theorem edb_s {emp : Prop} {lst : Nat → Bool} {i j : Nat} (h : i = j + 1) : EDb emp lst i ↔ lst j = true := by rw [h]; exact Iff.rfl
/-- the reference's rows -/
abbrev fnR (s : GS) : Nat := (s.2.2.1 109 81).toInt.toNat
abbrev kdR (s : GS) : Nat → Int := fun p => (s.1 172 p).toInt
abbrev fsR (s : GS) : Nat → Bool := fun p => blt (s.2.2.2.1 109 85) p
abbrev lsR (s : GS) : Nat → Bool := fun p => blt (s.2.2.2.1 109 86) p
abbrev bhR (s : GS) : Nat → Nat → Bool := fun i p => blt (s.2.1 173 i) p
abbrev emR (s : GS) : Prop := (s.2.2.1 109 84).toInt ≠ 0
noncomputable abbrev acR (s : GS) (t : Nat) : Nat → Prop := fun x => x / 61 = t ∧ EDb (emR s) (lsR s) (x % 61)
def FIQ (s t : GS) (x y z : Int32) : Prop := ((t.2.2.1 109 0).toInt = 1 ∧ ¬ ((0 ≤ x.toInt ∧ x.toInt < (s.2.2.1 109 20).toInt) ∧ (0 ≤ y.toInt ∧ y.toInt < (s.2.2.1 109 20).toInt))) ∨ ((t.2.2.1 109 0).toInt = 0 ∧ ((0 ≤ x.toInt ∧ x.toInt < (s.2.2.1 109 20).toInt) ∧ (0 ≤ y.toInt ∧ y.toInt < (s.2.2.1 109 20).toInt)) ∧ FTA (SUR (ARQ (gvZ s)) (fnR s) (kdR s) (fsR s) (bhR s)) (acR s y.toNatClampNeg) (61 * x.toNatClampNeg) z.toInt)
end
section
/-! THE REFERENCE'S MASKS -/
/-- one level: sequence and alternatives -/
def LVQ (e : Int32) (f la : Int64) (ae : Int32) (af al : Int64) (r : PSR) (l : Nat) : Prop := (e.toInt ≠ 0 ↔ r.1 l) ∧ (∀ p, blt f p = true ↔ r.2.1 l p) ∧ (∀ p, blt la p = true ↔ r.2.2.1 l p) ∧ (ae.toInt ≠ 0 ↔ r.2.2.2.1 l) ∧ (∀ p, blt af p = true ↔ r.2.2.2.2.1 l p) ∧ (∀ p, blt al p = true ↔ r.2.2.2.2.2.1 l p)
def MAT (a9 : Int) (f l : Int64) (r : PSR) : Prop := (a9 ≠ 0 ↔ r.2.2.2.2.2.2.1) ∧ (∀ p, blt f p = true ↔ r.2.2.2.2.2.2.2.1 p) ∧ ∀ p, blt l p = true ↔ r.2.2.2.2.2.2.2.2.1 p
def PKM (s : GS) (D k bg : Nat) (r : PSR) : Prop := (∀ l, l ≤ D → LVQ (s.1 180 l) (s.2.1 181 l) (s.2.1 182 l) (s.1 177 l) (s.2.1 178 l) (s.2.1 179 l) r l) ∧ ((s.2.2.1 109 97).toInt ≠ 0 ↔ bg < k) ∧ (bg < k → MAT (s.2.2.1 109 99).toInt (s.2.2.2.1 109 100) (s.2.2.2.1 109 101) r) ∧ ∀ p, p < 60 → ∀ o, blt (s.2.1 175 p) o = true ↔ r.2.2.2.2.2.2.2.2.2.1 p o
/-- the alternatives with the sequence -/
def prA (d : Nat) (r : PSR) : PSR := (r.1, r.2.1, r.2.2.1, upl r.2.2.2.1 d (r.2.2.2.1 d ∨ r.1 d), upr r.2.2.2.2.1 d (fun p => r.2.2.2.2.1 d p ∨ r.2.1 d p), upr r.2.2.2.2.2.1 d (fun p => r.2.2.2.2.2.1 d p ∨ r.2.2.1 d p), r.2.2.2.2.2.2)
section MS
variable {s t : GS} {D E k bg bg2 : Nat} {r : PSR} {v av : Int32} {z w az aw : Int64}
theorem pmk_n (h : PKM s D k bg r) (ha : (s.2.2.1 109 97).toInt = 0) (e180 : t.1 180 = s.1 180) (e181 : t.2.1 181 = s.2.1 181) (e182 : t.2.1 182 = s.2.1 182) (e177 : t.1 177 = s.1 177) (e178 : t.2.1 178 = s.2.1 178) (e179 : t.2.1 179 = s.2.1 179) (e175 : t.2.1 175 = s.2.1 175) (e97 : (t.2.2.1 109 97).toInt = 0) : PKM t D k k (prG k D bg r) := by
  have nb : ¬ bg < k := fun c => h.2.1.mpr c ha
  rw [show prG k D bg r = r from if_neg nb]
  refine ⟨fun l hl => ?_, ⟨fun q => absurd e97 q, fun q => absurd q (Nat.lt_irrefl _)⟩, fun q => absurd q (Nat.lt_irrefl _), ?_⟩
  · rw [e180, e181, e182, e177, e178, e179]
    exact h.1 l hl
  · rw [e175]
    exact h.2.2.2
theorem pmk_f (h : PKM s D k bg r) (ha : (s.2.2.1 109 97).toInt ≠ 0) (e180 : t.1 180 = upd (s.1 180) D v) (hv : v.toInt ≠ 0 ↔ ((s.1 180 D).toInt ≠ 0 ∧ (s.2.2.1 109 99).toInt ≠ 0)) (e181 : t.2.1 181 = vp_updL (s.2.1 181) D z) (hz : ∀ p, blt z p = true ↔ (blt (s.2.1 181 D) p = true ∨ ((s.1 180 D).toInt ≠ 0 ∧ blt (s.2.2.2.1 109 100) p = true))) (e182 : t.2.1 182 = vp_updL (s.2.1 182) D w) (hw : ∀ p, blt w p = true ↔ (blt (s.2.2.2.1 109 101) p = true ∨ ((s.2.2.1 109 99).toInt ≠ 0 ∧ blt (s.2.1 182 D) p = true))) (e177 : t.1 177 = s.1 177) (e178 : t.2.1 178 = s.2.1 178) (e179 : t.2.1 179 = s.2.1 179) (e175 : ∀ p, p < 60 → ∀ o, blt (t.2.1 175 p) o = true ↔ (blt (s.2.1 175 p) o = true ∨ (blt (s.2.1 182 D) p = true ∧ blt (s.2.2.2.1 109 100) o = true))) (e97 : (t.2.2.1 109 97).toInt = 0) : PKM t D k k (prG k D bg r) := by
  have yb : bg < k := h.2.1.mp ha
  rw [show prG k D bg r = prF D r from if_pos yb]
  obtain ⟨a1, a2, a3⟩ := h.2.2.1 yb
  obtain ⟨q1, q2, q3, q4, q5, q6⟩ := h.1 D (Nat.le_refl _)
  refine ⟨fun l hl => ?_, ⟨fun q => absurd e97 q, fun q => absurd q (Nat.lt_irrefl _)⟩, fun q => absurd q (Nat.lt_irrefl _), fun p hp o => ?_⟩
  · rw [e180, e181, e182, e177, e178, e179]
    by_cases c : l = D
    · rw [c, ug_at, vp_at, vp_at]
      refine ⟨?_, fun p => ?_, fun p => ?_, q4, q5, q6⟩
      · show v.toInt ≠ 0 ↔ upl r.1 D (r.1 D ∧ r.2.2.2.2.2.2.1) D
        rw [upl_e, hv, q1, a1]
      · show blt z p = true ↔ upr r.2.1 D (fun p => r.2.1 D p ∨ (r.1 D ∧ r.2.2.2.2.2.2.2.1 p)) D p
        rw [upr_e, hz p, q2 p, q1, a2 p]
      · show blt w p = true ↔ upr r.2.2.1 D (fun p => r.2.2.2.2.2.2.2.2.1 p ∨ (r.2.2.2.2.2.2.1 ∧ r.2.2.1 D p)) D p
        rw [upr_e, hw p, q3 p, a1, a3 p]
    · rw [ug_ne c, vp_ne c, vp_ne c]
      obtain ⟨w1, w2, w3, w4⟩ := h.1 l hl
      refine ⟨?_, fun p => ?_, fun p => ?_, w4⟩
      · show _ ↔ upl r.1 D (r.1 D ∧ r.2.2.2.2.2.2.1) l
        rw [upl_n c]
        exact w1
      · show _ ↔ upr r.2.1 D (fun p => r.2.1 D p ∨ (r.1 D ∧ r.2.2.2.2.2.2.2.1 p)) l p
        rw [upr_n c]
        exact w2 p
      · show _ ↔ upr r.2.2.1 D (fun p => r.2.2.2.2.2.2.2.2.1 p ∨ (r.2.2.2.2.2.2.1 ∧ r.2.2.1 D p)) l p
        rw [upr_n c]
        exact w3 p
  · refine (e175 p hp o).trans ?_
    rw [h.2.2.2 p hp o, q3 p, a2 o]
    exact Iff.rfl
theorem pmk_a (h : PKM s D k k r) (e180 : t.1 180 = s.1 180) (e181 : t.2.1 181 = s.2.1 181) (e182 : t.2.1 182 = s.2.1 182) (e177 : t.1 177 = upd (s.1 177) D av) (hv : av.toInt ≠ 0 ↔ ((s.1 177 D).toInt ≠ 0 ∨ (s.1 180 D).toInt ≠ 0)) (e178 : t.2.1 178 = vp_updL (s.2.1 178) D az) (hz : az = s.2.1 178 D ||| s.2.1 181 D) (e179 : t.2.1 179 = vp_updL (s.2.1 179) D aw) (hw : aw = s.2.1 179 D ||| s.2.1 182 D) (e175 : t.2.1 175 = s.2.1 175) (e97 : (t.2.2.1 109 97).toInt = (s.2.2.1 109 97).toInt) : PKM t D k k (prA D r) := by
  obtain ⟨q1, q2, q3, q4, q5, q6⟩ := h.1 D (Nat.le_refl _)
  refine ⟨fun l hl => ?_, by rw [e97]; exact h.2.1, fun q => absurd q (Nat.lt_irrefl _), by rw [e175]; exact h.2.2.2⟩
  rw [e180, e181, e182, e177, e178, e179]
  by_cases c : l = D
  · rw [c, ug_at, vp_at, vp_at]
    refine ⟨q1, q2, q3, ?_, fun p => ?_, fun p => ?_⟩
    · show av.toInt ≠ 0 ↔ upl r.2.2.2.1 D (r.2.2.2.1 D ∨ r.1 D) D
      rw [upl_e, hv, q4, q1]
    · show blt az p = true ↔ upr r.2.2.2.2.1 D (fun p => r.2.2.2.2.1 D p ∨ r.2.1 D p) D p
      rw [upr_e, blx_or hz, Bool.or_eq_true, q5 p, q2 p]
    · show blt aw p = true ↔ upr r.2.2.2.2.2.1 D (fun p => r.2.2.2.2.2.1 D p ∨ r.2.2.1 D p) D p
      rw [upr_e, blx_or hw, Bool.or_eq_true, q6 p, q3 p]
  · rw [ug_ne c, vp_ne c, vp_ne c]
    obtain ⟨w1, w2, w3, w4, w5, w6⟩ := h.1 l hl
    refine ⟨w1, w2, w3, ?_, fun p => ?_, fun p => ?_⟩
    · show _ ↔ upl r.2.2.2.1 D (r.2.2.2.1 D ∨ r.1 D) l
      rw [upl_n c]
      exact w4
    · show _ ↔ upr r.2.2.2.2.1 D (fun p => r.2.2.2.2.1 D p ∨ r.2.1 D p) l p
      rw [upr_n c]
      exact w5 p
    · show _ ↔ upr r.2.2.2.2.2.1 D (fun p => r.2.2.2.2.2.1 D p ∨ r.2.2.1 D p) l p
      rw [upr_n c]
      exact w6 p
/-- a bar: a new sequence -/
theorem pmk_b {k2 : Nat} (h : PKM s D k k (prA D r)) (e180 : t.1 180 = upd (s.1 180) D v) (hv : v.toInt ≠ 0) (e181 : t.2.1 181 = vp_updL (s.2.1 181) D (Int64.ofInt 0)) (e182 : t.2.1 182 = vp_updL (s.2.1 182) D (Int64.ofInt 0)) (e177 : t.1 177 = s.1 177) (e178 : t.2.1 178 = s.2.1 178) (e179 : t.2.1 179 = s.2.1 179) (e175 : t.2.1 175 = s.2.1 175) (e97 : (t.2.2.1 109 97).toInt = 0) : PKM t D k2 k2 (prB D r) := by
  refine ⟨fun l hl => ?_, ⟨fun q => absurd e97 q, fun q => absurd q (Nat.lt_irrefl _)⟩, fun q => absurd q (Nat.lt_irrefl _), by rw [e175]; exact h.2.2.2⟩
  rw [e180, e181, e182, e177, e178, e179]
  obtain ⟨w1, w2, w3, w4⟩ := h.1 l hl
  by_cases c : l = D
  · rw [c] at w4 ⊢
    rw [ug_at, vp_at, vp_at]
    refine ⟨?_, fun p => ?_, fun p => ?_, w4⟩
    · show v.toInt ≠ 0 ↔ upl r.1 D True D
      rw [upl_e]
      exact ⟨fun _ => trivial, fun _ => hv⟩
    · show blt (Int64.ofInt 0) p = true ↔ upr r.2.1 D (fun _ => False) D p
      rw [upr_e, blx_z]
      exact ⟨(fun q => (by cases q)), False.elim⟩
    · show blt (Int64.ofInt 0) p = true ↔ upr r.2.2.1 D (fun _ => False) D p
      rw [upr_e, blx_z]
      exact ⟨(fun q => (by cases q)), False.elim⟩
  · rw [ug_ne c, vp_ne c, vp_ne c]
    refine ⟨?_, fun p => ?_, fun p => ?_, w4⟩
    · show _ ↔ upl r.1 D True l
      rw [upl_n c]
      exact w1
    · show _ ↔ upr r.2.1 D (fun _ => False) l p
      rw [upr_n c]
      exact w2 p
    · show _ ↔ upr r.2.2.1 D (fun _ => False) l p
      rw [upr_n c]
      exact w3 p
theorem pmk_o {k2 D2 : Nat} (h : PKM s D k k r) (hD : D2 = D + 1) (e180 : t.1 180 = upd (s.1 180) D2 v) (hv : v.toInt ≠ 0) (e181 : t.2.1 181 = vp_updL (s.2.1 181) D2 (Int64.ofInt 0)) (e182 : t.2.1 182 = vp_updL (s.2.1 182) D2 (Int64.ofInt 0)) (e177 : t.1 177 = upd (s.1 177) D2 av) (hav : av.toInt = 0) (e178 : t.2.1 178 = vp_updL (s.2.1 178) D2 (Int64.ofInt 0)) (e179 : t.2.1 179 = vp_updL (s.2.1 179) D2 (Int64.ofInt 0)) (e175 : t.2.1 175 = s.2.1 175) (e97 : (t.2.2.1 109 97).toInt = 0) : PKM t D2 k2 k2 (prO D r) := by
  refine ⟨fun l hl => ?_, ⟨fun q => absurd e97 q, fun q => absurd q (Nat.lt_irrefl _)⟩, fun q => absurd q (Nat.lt_irrefl _), by rw [e175]; exact h.2.2.2⟩
  rw [e180, e181, e182, e177, e178, e179]
  rw [hD] at hl ⊢
  have zr : ∀ f : Nat → Nat → Prop, ∀ p, blt (Int64.ofInt 0) p = true ↔ upr f (D + 1) (fun _ => False) (D + 1) p := fun f p => by
    rw [upr_e, blx_z]
    exact ⟨(fun q => (by cases q)), False.elim⟩
  by_cases c : l = D + 1
  · rw [c, ug_at, ug_at, vp_at, vp_at, vp_at, vp_at]
    refine ⟨?_, zr r.2.1, zr r.2.2.1, ?_, zr r.2.2.2.2.1, zr r.2.2.2.2.2.1⟩
    · show v.toInt ≠ 0 ↔ upl r.1 (D + 1) True (D + 1)
      rw [upl_e]
      exact ⟨fun _ => trivial, fun _ => hv⟩
    · show av.toInt ≠ 0 ↔ upl r.2.2.2.1 (D + 1) False (D + 1)
      rw [upl_e]
      exact ⟨fun q => absurd hav q, False.elim⟩
  · rw [ug_ne c, ug_ne c, vp_ne c, vp_ne c, vp_ne c, vp_ne c]
    obtain ⟨w1, w2, w3, w4, w5, w6⟩ := h.1 l (by omega)
    refine ⟨?_, fun p => ?_, fun p => ?_, ?_, fun p => ?_, fun p => ?_⟩
    · show _ ↔ upl r.1 (D + 1) True l
      rw [upl_n c]
      exact w1
    · show _ ↔ upr r.2.1 (D + 1) (fun _ => False) l p
      rw [upr_n c]
      exact w2 p
    · show _ ↔ upr r.2.2.1 (D + 1) (fun _ => False) l p
      rw [upr_n c]
      exact w3 p
    · show _ ↔ upl r.2.2.2.1 (D + 1) False l
      rw [upl_n c]
      exact w4
    · show _ ↔ upr r.2.2.2.2.1 (D + 1) (fun _ => False) l p
      rw [upr_n c]
      exact w5 p
    · show _ ↔ upr r.2.2.2.2.2.1 (D + 1) (fun _ => False) l p
      rw [upr_n c]
      exact w6 p
theorem pmk_c {k2 : Nat} (h : PKM s D k k (prA D r)) (hD : D = E + 1) (hb : bg2 < k2) (e180 : t.1 180 = s.1 180) (e181 : t.2.1 181 = s.2.1 181) (e182 : t.2.1 182 = s.2.1 182) (e177 : t.1 177 = s.1 177) (e178 : t.2.1 178 = s.2.1 178) (e179 : t.2.1 179 = s.2.1 179) (e175 : t.2.1 175 = s.2.1 175) (e97 : (t.2.2.1 109 97).toInt ≠ 0) (e99 : t.2.2.1 109 99 = s.1 177 D) (e100 : t.2.2.2.1 109 100 = s.2.1 178 D) (e101 : t.2.2.2.1 109 101 = s.2.1 179 D) : PKM t E k2 bg2 (prC D r) := by
  refine ⟨fun l hl => ?_, ⟨fun _ => hb, fun _ => e97⟩, fun _ => ?_, by rw [e175]; exact h.2.2.2⟩
  · rw [e180, e181, e182, e177, e178, e179]
    have c : ¬ l = D := by omega
    obtain ⟨w1, w2, w3, w4, w5, w6⟩ := h.1 l (by omega)
    refine ⟨w1, w2, w3, ?_, fun p => ?_, fun p => ?_⟩
    · have w : _ ↔ upl r.2.2.2.1 D (r.2.2.2.1 D ∨ r.1 D) l := w4
      rw [upl_n c] at w
      exact w
    · have w : _ ↔ upr r.2.2.2.2.1 D (fun p => r.2.2.2.2.1 D p ∨ r.2.1 D p) l p := w5 p
      rw [upr_n c] at w
      exact w
    · have w : _ ↔ upr r.2.2.2.2.2.1 D (fun p => r.2.2.2.2.2.1 D p ∨ r.2.2.1 D p) l p := w6 p
      rw [upr_n c] at w
      exact w
  · rw [e99, e100, e101]
    obtain ⟨-, -, -, w4, w5, w6⟩ := h.1 D (Nat.le_refl _)
    refine ⟨?_, fun p => ?_, fun p => ?_⟩
    · have w : _ ↔ upl r.2.2.2.1 D (r.2.2.2.1 D ∨ r.1 D) D := w4
      rw [upl_e] at w
      exact w
    · have w : _ ↔ upr r.2.2.2.2.1 D (fun p => r.2.2.2.2.1 D p ∨ r.2.1 D p) D p := w5 p
      rw [upr_e] at w
      exact w
    · have w : _ ↔ upr r.2.2.2.2.2.1 D (fun p => r.2.2.2.2.2.1 D p ∨ r.2.2.1 D p) D p := w6 p
      rw [upr_e] at w
      exact w
theorem pmk_s {k2 : Nat} {c : Int} (h : PKM s D k bg r) (hb : bg < k) (hk : k2 = k + 1) (e180 : t.1 180 = s.1 180) (e181 : t.2.1 181 = s.2.1 181) (e182 : t.2.1 182 = s.2.1 182) (e177 : t.1 177 = s.1 177) (e178 : t.2.1 178 = s.2.1 178) (e179 : t.2.1 179 = s.2.1 179) (e175 : ∀ p, p < 60 → ∀ o, blt (t.2.1 175 p) o = true ↔ (blt (s.2.1 175 p) o = true ∨ (c ≠ 63 ∧ blt (s.2.2.2.1 109 101) p = true ∧ blt (s.2.2.2.1 109 100) o = true))) (e97 : t.2.2.1 109 97 = s.2.2.1 109 97) (e99 : (t.2.2.1 109 99).toInt ≠ 0 ↔ ((s.2.2.1 109 99).toInt ≠ 0 ∨ c ≠ 43)) (e100 : t.2.2.2.1 109 100 = s.2.2.2.1 109 100) (e101 : t.2.2.2.1 109 101 = s.2.2.2.1 109 101) : PKM t D k2 bg (prS c r) := by
  obtain ⟨a1, a2, a3⟩ := h.2.2.1 hb
  refine ⟨fun l hl => ?_, ?_, fun _ => ⟨e99.trans ?_, fun p => ?_, fun p => ?_⟩, fun p hp o => (e175 p hp o).trans ?_⟩
  · rw [e180, e181, e182, e177, e178, e179]
    exact h.1 l hl
  · rw [e97]
    exact ⟨fun _ => by omega, fun _ => h.2.1.mpr hb⟩
  · rw [a1]
    exact Iff.rfl
  · rw [e100]
    exact a2 p
  · rw [e101]
    exact a3 p
  · rw [h.2.2.2 p hp o, a3 p, a2 o]
    exact Iff.rfl
theorem pmk_l {k2 : Nat} (h : PKM s D k k r) (hk : k2 = k + 1) (e180 : t.1 180 = s.1 180) (e181 : t.2.1 181 = s.2.1 181) (e182 : t.2.1 182 = s.2.1 182) (e177 : t.1 177 = s.1 177) (e178 : t.2.1 178 = s.2.1 178) (e179 : t.2.1 179 = s.2.1 179) (e175 : t.2.1 175 = s.2.1 175) (e97 : (t.2.2.1 109 97).toInt ≠ 0) (e99 : (t.2.2.1 109 99).toInt = 0) (e100 : ∀ p, blt (t.2.2.2.1 109 100) p = true ↔ p = lpF r) (e101 : ∀ p, blt (t.2.2.2.1 109 101) p = true ↔ p = lpF r) : PKM t D k2 k (prL k r) := by
  refine ⟨fun l hl => ?_, ⟨fun _ => by omega, fun _ => e97⟩, fun _ => ⟨⟨fun q => absurd e99 q, False.elim⟩, e100, e101⟩, by rw [e175]; exact h.2.2.2⟩
  rw [e180, e181, e182, e177, e178, e179]
  exact h.1 l hl
theorem pmk_0 {T : Nat → Int32} (e180 : (t.1 180 0).toInt ≠ 0) (e181 : t.2.1 181 0 = Int64.ofInt 0) (e182 : t.2.1 182 0 = Int64.ofInt 0) (e177 : (t.1 177 0).toInt = 0) (e178 : t.2.1 178 0 = Int64.ofInt 0) (e179 : t.2.1 179 0 = Int64.ofInt 0) (e175 : ∀ p, p < 60 → t.2.1 175 p = Int64.ofInt 0) (e97 : (t.2.2.1 109 97).toInt = 0) : PKM t 0 0 0 (psr T 0) := by
  have z : ∀ p, blt (Int64.ofInt 0) p = true ↔ False := fun p => by
    rw [blx_z]
    exact ⟨(fun q => (by cases q)), False.elim⟩
  refine ⟨fun l hl => ?_, ⟨fun q => absurd e97 q, fun q => absurd q (Nat.lt_irrefl _)⟩, fun q => absurd q (Nat.lt_irrefl _), fun p hp o => by rw [e175 p hp]; exact z o⟩
  rw [show l = 0 by omega, e181, e182, e178, e179]
  exact ⟨⟨fun _ => trivial, fun _ => e180⟩, z, z, ⟨fun q => absurd e177 q, False.elim⟩, z, z⟩
end MS
/-- follow: what k of the places have behind them -/
def FLW (f0 f : Nat → Int64) (a b : Int64) (k : Nat) : Prop := ∀ p, p < 60 → ∀ o, blt (f p) o = true ↔ (blt (f0 p) o = true ∨ (p < k ∧ blt a p = true ∧ blt b o = true))
section FW
variable {f0 f : Nat → Int64} {a b z y : Int64} {k k2 : Nat}
theorem flw_0 (hk : k = 0) : FLW f f a b k := fun p _ o => ⟨Or.inl, fun q => q.elim id (fun q => absurd q.1 (by omega))⟩
theorem flw_s (h : FLW f0 f a b k) (hk : k < 60) (hz : z = f k ||| y) (hy : ∀ o, blt y o = true ↔ (blt a k = true ∧ blt b o = true)) (e : k2 = k + 1) : FLW f0 (vp_updL f k z) a b k2 := fun p hp o => by
  refine (lbu hz).trans ?_
  rw [h p hp o, hy o]
  constructor
  · rintro ((q | q) | q)
    · exact Or.inl q
    · exact Or.inr ⟨by omega, q.2⟩
    · exact Or.inr ⟨by omega, by rw [q.1]; exact q.2.1, q.2.2⟩
  · rintro (q | ⟨q1, q2, q3⟩)
    · exact Or.inl (Or.inl q)
    · by_cases c : p = k
      · rw [c] at q2
        exact Or.inr ⟨c, q2, q3⟩
      · exact Or.inl (Or.inr ⟨by omega, q2, q3⟩)
theorem flw_e (h : FLW f0 f a b k) (hk : 60 ≤ k) : ∀ p, p < 60 → ∀ o, blt (f p) o = true ↔ (blt (f0 p) o = true ∨ (blt a p = true ∧ blt b o = true)) := fun p hp o => (h p hp o).trans ⟨fun q => q.imp id (fun q => q.2), fun q => q.imp id (fun q => ⟨by omega, q⟩)⟩
end FW
end
section
/-! THE REFERENCE'S PATTERN, CHARACTER BY CHARACTER -/
abbrev lvN (s : GS) : Nat := (s.2.2.1 109 96).toNatClampNeg
/-- what sign does to the masks -/
def SMK (s t : GS) (c : Int) : Prop := ∀ (k bg : Nat) (r : PSR), PKM s (lvN s) k bg r → (s.2.2.1 109 23).toInt = 0 → (t.2.2.1 109 23).toInt = 0 → (c = 40 → PKM t (lvN s + 1) (k + 1) (k + 1) (prO (lvN s) (prG k (lvN s) bg r))) ∧ (c = 41 → ∀ bg2, bg2 < k + 1 → PKM t (lvN s - 1) (k + 1) bg2 (prC (lvN s) (prG k (lvN s) bg r))) ∧ (c = 124 → PKM t (lvN s) (k + 1) (k + 1) (prB (lvN s) (prG k (lvN s) bg r))) ∧ ((c = 42 ∨ c = 43 ∨ c = 63) → bg < k → PKM t (lvN s) (k + 1) bg (prS c r))
def KNQ (f : Nat → Int32) (T : Nat → Int32) (r : PSR) : Prop := ∀ p, p < lpF r → (f p).toInt = if (T (lpP r p)).toInt = 46 then 26 else (T (lpP r p)).toInt - 97
def MKI (T : Nat → Int32) (t : GS) (k : Nat) (fnd : Int32) : Prop := PKM t (pst T k).1 k (pst T k).2.2.2.2.2 (psr T k) ∧ fnd.toNatClampNeg = lpF (psr T k) ∧ KNQ (t.1 174) T (psr T k)
section MK
variable {T : Nat → Int32} {s s1 t : GS} {k k2 n : Nat} {fnd fnd2 v : Int32} {d b d2 b2 : Int}
theorem mki_d (hg : PTS T k (s.2.2.1 109 96).toInt b) : lvN s = (pst T k).1 := by
  have h := (pin_all k hg).2.1
  show (s.2.2.1 109 96).toInt.toNat = _
  omega
/-- a letter or a dot -/
theorem mki_l {c : Int32} (h : MKI T s k fnd) (hg : PTS T k (s.2.2.1 109 96).toInt b) (hf : ∀ (k bg : Nat) (r : PSR), PKM s (lvN s) k bg r → PKM s1 (lvN s) k k (prG k (lvN s) bg r)) (hc : c = T k) (ha : ptA c.toInt) (e2 : k2 = k + 1) (e180 : t.1 180 = s1.1 180) (e181 : t.2.1 181 = s1.2.1 181) (e182 : t.2.1 182 = s1.2.1 182) (e177 : t.1 177 = s1.1 177) (e178 : t.2.1 178 = s1.2.1 178) (e179 : t.2.1 179 = s1.2.1 179) (e175 : t.2.1 175 = s1.2.1 175) (e97 : (t.2.2.1 109 97).toInt ≠ 0) (e99 : (t.2.2.1 109 99).toInt = 0) (e100 : ∀ p, blt (t.2.2.2.1 109 100) p = true ↔ p = fnd.toNatClampNeg) (e101 : ∀ p, blt (t.2.2.2.1 109 101) p = true ↔ p = fnd.toNatClampNeg) (e174 : t.1 174 = upd (s.1 174) fnd.toNatClampNeg v) (hv : v.toInt = if c.toInt = 46 then 26 else c.toInt - 97) (ef : fnd2.toNatClampNeg = fnd.toNatClampNeg + 1) : MKI T t k2 fnd2 := by
  obtain ⟨h1, h2, h3⟩ := h
  have ed := mki_d hg
  rw [hc] at ha
  have es : pst T (k + 1) = pcL k (pst T k) := pcx_l ha
  have er : psr T (k + 1) = prL k (prG k (pst T k).1 (pst T k).2.2.2.2.2 (psr T k)) := prx_l ha
  have w := prg_l (k := k) (d := (pst T k).1) (bg := (pst T k).2.2.2.2.2) (r := psr T k)
  rw [← ed] at h1
  have f1 := hf k _ _ h1
  rw [ed] at f1
  unfold MKI
  rw [e2, es, er]
  refine ⟨pmk_l (k2 := k + 1) f1 rfl e180 e181 e182 e177 e178 e179 e175 e97 e99 (fun p => (e100 p).trans (by rw [w.1, h2])) (fun p => (e101 p).trans (by rw [w.1, h2])), ?_, ?_⟩
  · rw [ef, h2]
    show _ = lpF (prG k (pst T k).1 (pst T k).2.2.2.2.2 (psr T k)) + 1
    rw [w.1]
  · intro p hp
    have hp2 : p < lpF (prG k (pst T k).1 (pst T k).2.2.2.2.2 (psr T k)) + 1 := hp
    rw [w.1] at hp2
    have el : lpP (prL k (prG k (pst T k).1 (pst T k).2.2.2.2.2 (psr T k))) p = if p = lpF (psr T k) then k else lpP (psr T k) p := by
      show (if p = lpF (prG k (pst T k).1 (pst T k).2.2.2.2.2 (psr T k)) then k else lpP (prG k (pst T k).1 (pst T k).2.2.2.2.2 (psr T k)) p) = _
      rw [w.1, w.2]
    rw [el, e174]
    by_cases c2 : p = lpF (psr T k)
    · rw [if_pos c2, c2, ← h2, ug_at, hv, hc]
    · rw [if_neg c2, ug_ne (by rw [h2]; exact c2)]
      exact h3 p (by omega)
/-- any other character -/
theorem mki_x (h : MKI T s k fnd) (hg : PTS T k (s.2.2.1 109 96).toInt b) (hg2 : PTS T (k + 1) d2 b2) (hs : SMK s t (T k).toInt) (h0 : (s.2.2.1 109 23).toInt = 0) (h9 : (t.2.2.1 109 23).toInt = 0) (hn : ¬ ptA (T k).toInt) (e174 : t.1 174 = s.1 174) (e2 : k2 = k + 1) : MKI T t k2 fnd := by
  obtain ⟨h1, h2, h3⟩ := h
  have ed := mki_d hg
  have pa := pin_all k hg
  have pb := pin_all (k + 1) hg2
  obtain ⟨d0, b0, g0, gj, -, -, -, g4, -⟩ := hg2
  have eb := (pts_u k hg g0).2
  rw [← ed] at h1
  have w := hs k _ _ h1 h0 h9
  rw [ed] at w
  have wl := prg_l (k := k) (d := (pst T k).1) (bg := (pst T k).2.2.2.2.2) (r := psr T k)
  have kn : ∀ r : PSR, lpF r = lpF (psr T k) → lpP r = lpP (psr T k) → fnd.toNatClampNeg = lpF r ∧ KNQ (t.1 174) T r := fun r q1 q2 => ⟨h2.trans q1.symm, fun p hp => by
    rw [e174, q2]
    exact h3 p (by rw [← q1]; exact hp)⟩
  unfold MKI
  rw [e2]
  rcases gj with ⟨q1, q2⟩ | ⟨q1, q2⟩ | ⟨q1, q2⟩ | ⟨q1, q2⟩ | ⟨q1, q2⟩ | ⟨-, -, -, -, -, q⟩
  · have es : pst T (k + 1) = pcS (T k).toInt k (pst T k) := pcx_s q1
    have er : psr T (k + 1) = prS (T k).toInt (psr T k) := prx_s q1
    have hb : b ≠ 0 := by
      rw [eb]
      omega
    rw [es, er]
    exact ⟨w.2.2.2 q1 (pa.2.2 hb).1, kn (prS (T k).toInt (psr T k)) rfl rfl⟩
  · have es : pst T (k + 1) = pcO k (pst T k) := pcx_o q1
    have er : psr T (k + 1) = prO (pst T k).1 (prG k (pst T k).1 (pst T k).2.2.2.2.2 (psr T k)) := prx_o q1
    rw [es, er]
    exact ⟨w.1 q1, kn (prO (pst T k).1 (prG k (pst T k).1 (pst T k).2.2.2.2.2 (psr T k))) wl.1 wl.2⟩
  · have es : pst T (k + 1) = pcC k (pst T k) := pcx_c q1
    have er : psr T (k + 1) = prC (pst T k).1 (prG k (pst T k).1 (pst T k).2.2.2.2.2 (psr T k)) := prx_c q1
    have hb : (pst T (k + 1)).2.2.2.2.2 < k + 1 := (pb.2.2 (by rw [g4 (Or.inl q1)]; decide)).1
    rw [es] at hb
    rw [es, er]
    exact ⟨w.2.1 q1 _ hb, kn (prC (pst T k).1 (prG k (pst T k).1 (pst T k).2.2.2.2.2 (psr T k))) wl.1 wl.2⟩
  · have es : pst T (k + 1) = pcB k (pst T k) := pcx_b q1
    have er : psr T (k + 1) = prB (pst T k).1 (prG k (pst T k).1 (pst T k).2.2.2.2.2 (psr T k)) := prx_b q1
    rw [es, er]
    exact ⟨w.2.2.1 q1, kn (prB (pst T k).1 (prG k (pst T k).1 (pst T k).2.2.2.2.2 (psr T k))) wl.1 wl.2⟩
  · exact absurd q1 hn
  · exact absurd q (by decide)
theorem mki_0 (hm : PKM t 0 0 0 (psr T 0)) (hf : fnd.toNatClampNeg = 0) (hk : k = 0) : MKI T t k fnd := by
  rw [hk]
  exact ⟨hm, hf, fun p hp => absurd hp (Nat.not_lt_zero _)⟩
/-- at the end, before the rows are kept -/
def MSE (T : Nat → Int32) (n : Nat) (t : GS) : Prop := (t.2.2.1 109 81).toInt.toNat = lpF (psr T n) ∧ KNQ (t.1 174) T (psr T n) ∧ (∀ p, p < 60 → ∀ o, blt (t.2.1 175 p) o = true ↔ (psE T n).2.2.2.2.2.2.2.2.2.1 p o) ∧ (∀ p, blt (t.2.2.2.1 109 85) p = true ↔ ((psE T n).2.2.2.2.1 0 p ∨ (psE T n).2.1 0 p)) ∧ (∀ p, blt (t.2.2.2.1 109 86) p = true ↔ ((psE T n).2.2.2.2.2.1 0 p ∨ (psE T n).2.2.1 0 p)) ∧ ((t.2.2.1 109 84).toInt ≠ 0 ↔ ((psE T n).2.2.2.1 0 ∨ (psE T n).1 0))
theorem mse_0 (h : MKI T s n fnd) (hg : PTS T n (s.2.2.1 109 96).toInt b) (hl : (s.2.2.1 109 96).toInt = 0) (hf : ∀ (k bg : Nat) (r : PSR), PKM s (lvN s) k bg r → PKM s1 (lvN s) k k (prA (lvN s) (prG k (lvN s) bg r))) (e81 : t.2.2.1 109 81 = fnd) (e174 : t.1 174 = s.1 174) (e175 : t.2.1 175 = s1.2.1 175) (e84 : t.2.2.1 109 84 = s1.1 177 0) (e85 : t.2.2.2.1 109 85 = s1.2.1 178 0) (e86 : t.2.2.2.1 109 86 = s1.2.1 179 0) : MSE T n t := by
  obtain ⟨h1, h2, h3⟩ := h
  have ed := mki_d hg
  have e0 : lvN s = 0 := by
    show (s.2.2.1 109 96).toInt.toNat = 0
    omega
  rw [← ed] at h1
  have f1 := hf n _ _ h1
  rw [e0] at f1
  have f2 : PKM s1 0 n n (prA 0 (psE T n)) := f1
  obtain ⟨-, -, -, w4, w5, w6⟩ := f2.1 0 (Nat.le_refl _)
  refine ⟨by rw [e81]; exact h2, by rw [e174]; exact h3, by rw [e175]; exact f2.2.2.2, fun p => ?_, fun p => ?_, ?_⟩
  · rw [e85]
    have w : _ ↔ upr (psE T n).2.2.2.2.1 0 (fun p => (psE T n).2.2.2.2.1 0 p ∨ (psE T n).2.1 0 p) 0 p := w5 p
    rw [upr_e] at w
    exact w
  · rw [e86]
    have w : _ ↔ upr (psE T n).2.2.2.2.2.1 0 (fun p => (psE T n).2.2.2.2.2.1 0 p ∨ (psE T n).2.2.1 0 p) 0 p := w6 p
    rw [upr_e] at w
    exact w
  · rw [e84]
    have w : _ ↔ upl (psE T n).2.2.2.1 0 ((psE T n).2.2.2.1 0 ∨ (psE T n).1 0) 0 := w4
    rw [upl_e] at w
    exact w
theorem mse_cg (h : MSE T n s) (e81 : t.2.2.1 109 81 = s.2.2.1 109 81) (e174 : t.1 174 = s.1 174) (e175 : t.2.1 175 = s.2.1 175) (e84 : t.2.2.1 109 84 = s.2.2.1 109 84) (e85 : t.2.2.2.1 109 85 = s.2.2.2.1 109 85) (e86 : t.2.2.2.1 109 86 = s.2.2.2.1 109 86) : MSE T n t := by
  unfold MSE
  rw [e81, e174, e175, e84, e85, e86]
  exact h
theorem pra_e (h : MSE T n t) (h60 : (t.2.2.1 109 81).toInt.toNat ≤ 60) (e1 : ∀ p, p < 60 → t.1 172 p = t.1 174 p) (e2 : ∀ p, p < 60 → t.2.1 173 p = t.2.1 175 p) : PRA T n (fnR t) (kdR t) (bhR t) (fsR t) (lsR t) (emR t) := by
  obtain ⟨h1, h2, h3, h4, h5, h6⟩ := h
  have hf : fnR t = lpF (psr T n) := h1
  have h60' : fnR t ≤ 60 := h60
  refine ⟨hf, fun p hp => ?_, fun p r hp => ?_, h4, h5, h6⟩
  · show (t.1 172 p).toInt = _
    rw [e1 p (by omega)]
    exact h2 p (by omega)
  · show blt (t.2.1 173 p) r = true ↔ _
    rw [e2 p (by omega)]
    exact h3 p (by omega) r
end MK
end
