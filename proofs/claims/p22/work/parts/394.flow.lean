section
/-! THE 147OWS OF THE REFERENCE: ways back through the row back -/
def bs (s : GS) : Nat := (s.2.2.1 109 19).toNatClampNeg
/-- the node before v, by the place a of an arc and whether it is gone against -/
def EF (s : GS) (r : Nat → Nat) (v a : Nat) : Prop := (s.1 112 (bs s + a)).toInt ≠ 0 ∧ (s.1 114 (bs s + a)).toNatClampNeg = v ∧ 0 ≤ (s.1 148 (s.1 113 (bs s + a)).toNatClampNeg).toInt ∧ r (s.1 113 (bs s + a)).toNatClampNeg < r v ∧ (s.2.1 147 a).toInt < (s.1 116 (bs s + a)).toInt
def EB (s : GS) (r : Nat → Nat) (v a : Nat) : Prop := (s.1 112 (bs s + a)).toInt ≠ 0 ∧ (s.1 113 (bs s + a)).toNatClampNeg = v ∧ 0 ≤ (s.1 148 (s.1 114 (bs s + a)).toNatClampNeg).toInt ∧ r (s.1 114 (bs s + a)).toNatClampNeg < r v ∧ 0 < (s.2.1 147 a).toInt
def EV (s : GS) (r : Nat → Nat) (v : Nat) : Prop := ∃ a : Nat, a < 160 ∧ (((s.1 148 v).toInt = (a : Int) ∧ EF s r v a) ∨ ((s.1 148 v).toInt = 200 + (a : Int) ∧ EB s r v a))
theorem cM_lt {f : Nat → Int32} {y : Nat} (h : 0 ≤ (f y).toInt) : ∀ n, y < n → cM f n + 1 ≤ n := by
  intro n
  induction n with
  | zero => intro h; omega
  | succ n ih =>
    intro hy
    show cM f n + (if (f n).toInt < 0 then 1 else 0) + 1 ≤ n + 1
    by_cases c : y = n
    · rw [← c, if_neg (by omega)]
      have := cM_le f y
      omega
    · have := ih (by omega)
      split <;> omega
def SI (s : GS) (x n : Int) : Prop := 0 ≤ n ∧ n + (cM (s.1 148) 32 : Int) ≤ 32 ∧ (∀ i : Nat, (i : Int) < n → (s.1 132 i).toInt ≤ 31 ∧ 0 ≤ (s.1 148 (s.1 132 i).toNatClampNeg).toInt) ∧ ∃ r : Nat → Nat, (∀ v, v < 32 → 0 ≤ (s.1 148 v).toInt → (r v : Int) < n) ∧ ∀ v : Nat, v < 32 → (v : Int) < (s.2.2.1 109 20).toInt → (v : Int) ≠ x → 0 ≤ (s.1 148 v).toInt → EV s r v
theorem si_le {s : GS} {x n : Int} (h : SI s x n) : n ≤ 32 := by
  have := h.2.1
  omega
/-- a node comes into the queue -/
theorem si_push {s t : GS} {x n : Int} {w b : Int32} {m a : Nat} (h : SI s x n) (hm : (m : Int) = n) (hb : t.1 148 = upd (s.1 148) w.toNatClampNeg b) (hq : t.1 132 = upd (s.1 132) m w) (h2 : t.1 112 = s.1 112) (h3 : t.1 113 = s.1 113) (h4 : t.1 114 = s.1 114) (h5 : t.1 116 = s.1 116) (h6 : t.2.1 147 = s.2.1 147) (h7 : t.2.2.1 109 19 = s.2.2.1 109 19) (h8 : t.2.2.1 109 20 = s.2.2.1 109 20) (hw : In w 0 31) (h1 : (s.1 148 w.toNatClampNeg).toInt < 0) (ha : a < 160)
    (he : (b.toInt = (a : Int) ∧ (s.1 112 (bs s + a)).toInt ≠ 0 ∧ (s.1 114 (bs s + a)) = w ∧ 0 ≤ (s.1 148 (s.1 113 (bs s + a)).toNatClampNeg).toInt ∧ In (s.1 113 (bs s + a)) 0 31 ∧ (s.2.1 147 a).toInt < (s.1 116 (bs s + a)).toInt) ∨ (b.toInt = 200 + (a : Int) ∧ (s.1 112 (bs s + a)).toInt ≠ 0 ∧ (s.1 113 (bs s + a)) = w ∧ 0 ≤ (s.1 148 (s.1 114 (bs s + a)).toNatClampNeg).toInt ∧ In (s.1 114 (bs s + a)) 0 31 ∧ 0 < (s.2.1 147 a).toInt)) : SI t x (n + 1) := by
  obtain ⟨p0, p1, p2, r, p3, p4⟩ := h
  have hb0 : 0 ≤ b.toInt := by rcases he with he | he <;> omega
  have hw31 : w.toNatClampNeg < 32 := by show w.toInt.toNat < 32; have := hw.2; omega
  have hu := cM_up h1 hb0 32
  rw [if_pos hw31] at hu
  have bsn : bs t = bs s := by unfold bs; rw [h7]
  have old : ∀ v, 0 ≤ (s.1 148 v).toInt → v ≠ w.toNatClampNeg := by
    intro v hv e
    rw [e] at hv
    omega
  have up : ∀ v, v ≠ w.toNatClampNeg → upd (s.1 148) w.toNatClampNeg b v = s.1 148 v := by
    intro v hv
    unfold upd
    rw [if_neg hv]
  have upw : upd (s.1 148) w.toNatClampNeg b w.toNatClampNeg = b := by unfold upd; rw [if_pos rfl]
  refine ⟨by omega, by rw [hb]; omega, fun i hi => ?_, fun k => if k = w.toNatClampNeg then m else r k, fun v hv hk => ?_, fun v hv hn hx hk => ?_⟩
  · rw [hq, hb]
    by_cases c : i = m
    · have e : upd (s.1 132) m w i = w := by unfold upd; rw [if_pos c]
      rw [e, upw]
      exact ⟨hw.2, hb0⟩
    · have e : upd (s.1 132) m w i = s.1 132 i := by unfold upd; rw [if_neg c]
      rw [e]
      have q := p2 i (by omega)
      rw [up _ (old _ q.2)]
      exact q
  · rw [hb] at hk
    by_cases c : v = w.toNatClampNeg
    · show ((if v = w.toNatClampNeg then m else r v : Nat) : Int) < n + 1
      rw [if_pos c]; omega
    · show ((if v = w.toNatClampNeg then m else r v : Nat) : Int) < n + 1
      rw [if_neg c]
      rw [up v c] at hk
      have := p3 v hv hk
      omega
  · rw [hb] at hk
    rw [h8] at hn
    by_cases c : v = w.toNatClampNeg
    · refine ⟨a, ha, ?_⟩
      unfold EF EB
      rw [hb, h2, h3, h4, h5, h6, bsn, c, upw]
      rcases he with he | he
      · refine Or.inl ⟨he.1, he.2.1, by rw [he.2.2.1], ?_, ?_, he.2.2.2.2.2⟩
        · rw [up _ (old _ he.2.2.2.1)]; exact he.2.2.2.1
        · dsimp only
          rw [if_pos rfl, if_neg (old _ he.2.2.2.1)]
          have := p3 _ (show (s.1 113 (bs s + a)).toNatClampNeg < 32 by show (s.1 113 (bs s + a)).toInt.toNat < 32; have := he.2.2.2.2.1.2; omega) he.2.2.2.1
          omega
      · refine Or.inr ⟨he.1, he.2.1, by rw [he.2.2.1], ?_, ?_, he.2.2.2.2.2⟩
        · rw [up _ (old _ he.2.2.2.1)]; exact he.2.2.2.1
        · dsimp only
          rw [if_pos rfl, if_neg (old _ he.2.2.2.1)]
          have := p3 _ (show (s.1 114 (bs s + a)).toNatClampNeg < 32 by show (s.1 114 (bs s + a)).toInt.toNat < 32; have := he.2.2.2.2.1.2; omega) he.2.2.2.1
          omega
    · rw [up v c] at hk
      obtain ⟨a2, ha2, e2⟩ := p4 v hv hn hx hk
      refine ⟨a2, ha2, ?_⟩
      unfold EF EB at e2 ⊢
      rw [hb, h2, h3, h4, h5, h6, bsn, up v c]
      rcases e2 with e2 | e2
      · refine Or.inl ⟨e2.1, e2.2.1, e2.2.2.1, ?_, ?_, e2.2.2.2.2.2⟩
        · rw [up _ (old _ e2.2.2.2.1)]; exact e2.2.2.2.1
        · dsimp only
          rw [if_neg c, if_neg (old _ e2.2.2.2.1)]; exact e2.2.2.2.2.1
      · refine Or.inr ⟨e2.1, e2.2.1, e2.2.2.1, ?_, ?_, e2.2.2.2.2.2⟩
        · rw [up _ (old _ e2.2.2.2.1)]; exact e2.2.2.2.1
        · dsimp only
          rw [if_neg c, if_neg (old _ e2.2.2.2.1)]; exact e2.2.2.2.2.1
theorem si_0 {s t : GS} {x y : Int32} (hx : In x 0 31) (hb : t.1 148 = upd (s.1 148) x.toNatClampNeg y) (hy : 0 ≤ y.toInt) (hq : (t.1 132 0) = x) (h8 : t.2.2.1 109 20 = s.2.2.1 109 20) (h : ∀ k : Nat, (k : Int) < (s.2.2.1 109 20).toInt → (s.1 148 k).toInt < 0) : SI t x.toInt 1 := by
  have hx31 : x.toNatClampNeg < 32 := by show x.toInt.toNat < 32; have := hx.2; omega
  have upw : upd (s.1 148) x.toNatClampNeg y x.toNatClampNeg = y := by unfold upd; rw [if_pos rfl]
  have h1 : 0 ≤ (t.1 148 x.toNatClampNeg).toInt := by rw [hb, upw]; exact hy
  have hl := cM_lt h1 32 hx31
  refine ⟨by omega, by omega, fun i hi => ?_, fun _ => 0, fun v _ _ => by show ((0 : Nat) : Int) < 1; decide, fun v hv hn hne hk => ?_⟩
  · have : i = 0 := by omega
    rw [this, hq]
    exact ⟨hx.2, h1⟩
  · exfalso
    have hx0 := hx.1
    have c : v ≠ x.toNatClampNeg := by
      intro e
      apply hne
      rw [e]
      show ((x.toInt.toNat : Nat) : Int) = x.toInt
      omega
    have e : upd (s.1 148) x.toNatClampNeg y v = s.1 148 v := by unfold upd; rw [if_neg c]
    rw [hb, e] at hk
    rw [h8] at hn
    have := h v hn
    omega
/-- after the search -/
def SRr (s : GS) (x : Int) (r : Nat → Nat) : Prop := (∀ v, v < 32 → 0 ≤ (s.1 148 v).toInt → r v < 32) ∧ ∀ v : Nat, v < 32 → (v : Int) < (s.2.2.1 109 20).toInt → (v : Int) ≠ x → 0 ≤ (s.1 148 v).toInt → EV s r v
def SR (s : GS) (x : Int) : Prop := ∃ r : Nat → Nat, SRr s x r
theorem si_sr {s : GS} {x n : Int} (h : SI s x n) : SR s x := by
  have hn := si_le h
  obtain ⟨p0, p1, p2, r, p3, p4⟩ := h
  exact ⟨r, fun v hv hk => by have := p3 v hv hk; omega, p4⟩
theorem up_ge {f : Nat → Int32} {k w : Nat} {b : Int32} (h : 0 ≤ (f k).toInt) (hb : 0 ≤ b.toInt) : 0 ≤ (upd f w b k).toInt := by
  unfold upd
  split
  · exact hb
  · exact h
theorem bs_x {s : GS} {u x a : Int32} (hu : u = s.2.2.1 109 19) (hx : x.toInt = u.toInt + a.toInt) (h1 : 0 ≤ u.toInt) (h2 : 0 ≤ a.toInt) : bs s + a.toNatClampNeg = x.toNatClampNeg := by
  unfold bs
  rw [← hu]
  show u.toInt.toNat + a.toInt.toNat = x.toInt.toNat
  omega
/-- the arc by which v was reached -/
def BE (s : GS) (v : Nat) : Prop := (0 ≤ (s.1 148 v).toInt ∧ (s.1 148 v).toInt < 160) ∨ (200 ≤ (s.1 148 v).toInt ∧ (s.1 148 v).toInt < 360)
def bf (s : GS) (v : Nat) : Nat := if 200 ≤ (s.1 148 v).toInt then (s.1 114 (bs s + ((s.1 148 v).toInt - 200).toNat)).toNatClampNeg else (s.1 113 (bs s + (s.1 148 v).toInt.toNat)).toNatClampNeg
def ar (s : GS) (v : Nat) : Nat := if 200 ≤ (s.1 148 v).toInt then ((s.1 148 v).toInt - 200).toNat else (s.1 148 v).toInt.toNat
def rm (s : GS) (v : Nat) : Int := if 200 ≤ (s.1 148 v).toInt then (s.2.1 147 (ar s v)).toInt else (s.1 116 (bs s + ar s v)).toInt - (s.2.1 147 (ar s v)).toInt
theorem bs_y {s : GS} {u x b : Int32} {c : Int} (hu : u = s.2.2.1 109 19) (hx : x.toInt = u.toInt + b.toInt - c) (h1 : 0 ≤ u.toInt) (h2 : 0 ≤ b.toInt - c) : x.toNatClampNeg = bs s + (b.toInt - c).toNat := by
  unfold bs
  rw [← hu]
  show x.toInt.toNat = u.toInt.toNat + (b.toInt - c).toNat
  omega
theorem bf_1 {s : GS} {v : Nat} {u x b z : Int32} (hb : b = s.1 148 v) (hu : u = s.2.2.1 109 19) (hx : x.toInt = u.toInt + b.toInt - 200) (h1 : 0 ≤ u.toInt) (hc : 200 ≤ b.toInt) (hz : z = s.1 114 x.toNatClampNeg) : z.toNatClampNeg = bf s v := by
  unfold bf
  rw [← hb, if_pos hc, hz, bs_y hu hx h1 (by omega)]
theorem bf_2 {s : GS} {v : Nat} {u x b z : Int32} (hb : b = s.1 148 v) (hu : u = s.2.2.1 109 19) (hx : x.toInt = u.toInt + b.toInt) (h1 : 0 ≤ u.toInt) (h0 : 0 ≤ b.toInt) (hc : b.toInt < 200) (hz : z = s.1 113 x.toNatClampNeg) : z.toNatClampNeg = bf s v := by
  unfold bf
  have e := bs_y (x := x) (b := b) (c := 0) hu (by omega) h1 (by omega)
  rw [Int.sub_zero] at e
  rw [← hb, if_neg (by omega), hz, e]
theorem lsub_t {x y z : Int64} (hz : z = x - y) (h1 : -4000000000000000000 ≤ x.toInt - y.toInt) (h2 : x.toInt - y.toInt ≤ 4000000000000000000) : z.toInt = x.toInt - y.toInt := by
  rw [hz, Int64.toInt_sub]
  exact Int.bmod_eq_of_le (by omega) (by omega)
theorem ladd_t {x y z : Int64} (hz : z = x + y) (h1 : -4000000000000000000 ≤ x.toInt + y.toInt) (h2 : x.toInt + y.toInt ≤ 4000000000000000000) : z.toInt = x.toInt + y.toInt := by
  rw [hz, Int64.toInt_add]
  exact Int.bmod_eq_of_le (by omega) (by omega)
/-- the flow on v's arc is small -/
def FO (s : GS) (v : Nat) : Prop := -1000000000 ≤ (s.2.1 147 (ar s v)).toInt ∧ (s.2.1 147 (ar s v)).toInt ≤ 1000000000
theorem ar_1 {s : GS} {v : Nat} {b y : Int32} (hb : b = s.1 148 v) (hy : y.toInt = b.toInt - 200) (hc : 200 ≤ b.toInt) : ar s v = y.toNatClampNeg := by
  unfold ar
  rw [← hb, if_pos hc, ← hy]
  rfl
theorem ar_2 {s : GS} {v : Nat} {b : Int32} (hb : b = s.1 148 v) (hc : b.toInt < 200) : ar s v = b.toNatClampNeg := by
  unfold ar
  rw [← hb, if_neg (by omega)]
  rfl
theorem rm_1 {s : GS} {v : Nat} {b y : Int32} {z : Int64} (hb : b = s.1 148 v) (hy : y.toInt = b.toInt - 200) (hc : 200 ≤ b.toInt) (hz : z = s.2.1 147 y.toNatClampNeg) : z.toInt = rm s v := by
  unfold rm
  rw [ar_1 hb hy hc, ← hb, if_pos hc, ← hz]
theorem rm_2 {s : GS} {v : Nat} {b u x o : Int32} {f g z : Int64} (hb : b = s.1 148 v) (hc : b.toInt < 200) (h0 : 0 ≤ b.toInt) (hu : u = s.2.2.1 109 19) (hx : x.toInt = u.toInt + b.toInt) (h1 : 0 ≤ u.toInt) (ho : o = s.1 116 x.toNatClampNeg) (hf : f = s.2.1 147 b.toNatClampNeg) (hg : g.toInt = o.toInt) (hr : In o 0 1000000) (hz : z = g - f) (h : FO s v) : z.toInt = rm s v := by
  unfold FO at h
  rw [ar_2 hb hc, ← hf] at h
  have e : bs s + b.toNatClampNeg = x.toNatClampNeg := bs_x hu hx h1 h0
  obtain ⟨r1, r2⟩ := hr
  unfold rm
  rw [ar_2 hb hc, ← hb, if_neg (by omega), e, ← ho, ← hf, lsub_t hz (by omega) (by omega), hg]
/-- what push leaves -/
def PU (s t : GS) (v : Nat) (m : Int) : Prop := ∃ w : Int64, t.2.1 147 = vp_updL (s.2.1 147) (ar s v) w ∧ (FO s v → -1000000000 ≤ m → m ≤ 1000000000 → w.toInt = (s.2.1 147 (ar s v)).toInt + (if 200 ≤ (s.1 148 v).toInt then -m else m))
theorem pu_1 {s t : GS} {v : Nat} {b y : Int32} {f m w : Int64} (hb : b = s.1 148 v) (hy : y.toInt = b.toInt - 200) (hc : 200 ≤ b.toInt) (hf : f = s.2.1 147 y.toNatClampNeg) (hw : w = f - m) (ht : t.2.1 147 = vp_updL (s.2.1 147) y.toNatClampNeg w) : PU s t v m.toInt := by
  refine ⟨w, by rw [ar_1 hb hy hc]; exact ht, fun h h1 h2 => ?_⟩
  unfold FO at h
  rw [ar_1 hb hy hc, ← hf] at h ⊢
  rw [← hb, if_pos hc, lsub_t hw (by omega) (by omega)]
  omega
theorem pu_2 {s t : GS} {v : Nat} {b : Int32} {f m w : Int64} (hb : b = s.1 148 v) (hc : b.toInt < 200) (hf : f = s.2.1 147 b.toNatClampNeg) (hw : w = f + m) (ht : t.2.1 147 = vp_updL (s.2.1 147) b.toNatClampNeg w) : PU s t v m.toInt := by
  refine ⟨w, by rw [ar_2 hb hc]; exact ht, fun h h1 h2 => ?_⟩
  unfold FO at h
  rw [ar_2 hb hc, ← hf] at h ⊢
  rw [← hb, if_neg (by omega), ladd_t hw (by omega) (by omega)]
/-- most: a way back from t -/
noncomputable def rkf (s : GS) (x : Int) : Nat → Nat := Classical.epsilon (SRr s x)
theorem rkf_ok {s : GS} {x : Int} (h : SR s x) : SRr s x (rkf s x) := Classical.epsilon_spec h
def ND (s : GS) (v : Nat) : Prop := v < 32 ∧ (v : Int) < (s.2.2.1 109 20).toInt ∧ 0 ≤ (s.1 148 v).toInt
def it (s : GS) (t : Nat) : Nat → Nat
  | 0 => t
  | k + 1 => bf s (it s t k)
theorem arc_n {s : GS} (hI : Inv s) {a : Nat} (ha : a < 160) (ht : (s.1 112 (bs s + a)).toInt ≠ 0) : (In (s.1 113 (bs s + a)) 0 31 ∧ (s.1 113 (bs s + a)).toInt < (s.2.2.1 109 20).toInt) ∧ (In (s.1 114 (bs s + a)) 0 31 ∧ (s.1 114 (bs s + a)).toInt < (s.2.2.1 109 20).toInt) ∧ In (s.1 116 (bs s + a)) 0 1000000 := by
  have hb : In (s.2.2.1 109 19) 0 160 := inv_F hI 0 160 rfl rfl
  obtain ⟨b1, b2⟩ := hb
  have eb : bs s = (s.2.2.1 109 19).toInt.toNat := rfl
  have hk := ke_n hI (i := bs s + a) (by omega) (by omega) ht
  have h1 : In (s.1 113 (bs s + a)) 0 31 := hI.1.1 113 (bs s + a) (show bs s + a < 480 by omega)
  have h2 : In (s.1 114 (bs s + a)) 0 31 := hI.1.1 114 (bs s + a) (show bs s + a < 480 by omega)
  have h3 : In (s.1 116 (bs s + a)) 0 1000000 := hI.1.1 116 (bs s + a) (show bs s + a < 480 by omega)
  exact ⟨⟨h1, hk.1⟩, ⟨h2, hk.2⟩, h3⟩
/-- v's arc: where it stands, its other end -/
theorem ev_bf {s : GS} {x : Int} {r : Nat → Nat} {v : Nat} (hI : Inv s) (h : SRr s x r) (hv : ND s v) (hx : (v : Int) ≠ x) : BE s v ∧ ND s (bf s v) ∧ r (bf s v) < r v ∧ 1 ≤ rm s v ∧ ar s v < 160 ∧ (s.1 112 (bs s + ar s v)).toInt ≠ 0 ∧ ((200 ≤ (s.1 148 v).toInt ∧ (s.1 113 (bs s + ar s v)).toNatClampNeg = v ∧ (s.1 114 (bs s + ar s v)).toNatClampNeg = bf s v) ∨ ((s.1 148 v).toInt < 200 ∧ (s.1 114 (bs s + ar s v)).toNatClampNeg = v ∧ (s.1 113 (bs s + ar s v)).toNatClampNeg = bf s v)) := by
  obtain ⟨a, ha, e⟩ := h.2 v hv.1 hv.2.1 hx hv.2.2
  unfold EF EB at e
  rcases e with ⟨e1, e2, e3, e4, e5, e6⟩ | ⟨e1, e2, e3, e4, e5, e6⟩
  · have c : ¬ 200 ≤ (s.1 148 v).toInt := by omega
    have ea : ar s v = a := by unfold ar; rw [if_neg c]; omega
    have eb : bf s v = (s.1 113 (bs s + a)).toNatClampNeg := by unfold bf; rw [if_neg c, show (s.1 148 v).toInt.toNat = a by omega]
    have hn := arc_n hI ha e2
    refine ⟨Or.inl ⟨by omega, by omega⟩, ?_, by rw [eb]; exact e5, ?_, by omega, by rw [ea]; exact e2, Or.inr ⟨by omega, by rw [ea]; exact e3, by rw [ea, eb]⟩⟩
    · rw [eb]
      have q1 := hn.1.1.1
      have q2 := hn.1.1.2
      have q3 := hn.1.2
      have q4 : (s.1 113 (bs s + a)).toNatClampNeg = (s.1 113 (bs s + a)).toInt.toNat := rfl
      exact ⟨by omega, by omega, e4⟩
    · unfold rm; rw [if_neg c, ea]; omega
  · have c : 200 ≤ (s.1 148 v).toInt := by omega
    have ea : ar s v = a := by unfold ar; rw [if_pos c]; omega
    have eb : bf s v = (s.1 114 (bs s + a)).toNatClampNeg := by unfold bf; rw [if_pos c, show ((s.1 148 v).toInt - 200).toNat = a by omega]
    have hn := arc_n hI ha e2
    refine ⟨Or.inr ⟨by omega, by omega⟩, ?_, by rw [eb]; exact e5, ?_, by omega, by rw [ea]; exact e2, Or.inl ⟨by omega, by rw [ea]; exact e3, by rw [ea, eb]⟩⟩
    · rw [eb]
      have q1 := hn.2.1.1.1
      have q2 := hn.2.1.1.2
      have q3 := hn.2.1.2
      have q4 : (s.1 114 (bs s + a)).toNatClampNeg = (s.1 114 (bs s + a)).toInt.toNat := rfl
      exact ⟨by omega, by omega, e4⟩
    · unfold rm; rw [if_pos c, ea]; omega
/-- the way so far -/
def WY (s : GS) (x m : Int) (t k : Nat) : Prop := ∀ j, j < k → (it s t j : Int) ≠ x ∧ ND s (it s t j) ∧ m ≤ rm s (it s t j)
theorem wy_s {s : GS} {x m m2 : Int} {t k : Nat} (h : WY s x m t k) (h1 : (it s t k : Int) ≠ x) (h2 : ND s (it s t k)) (h3 : m2 ≤ m) (h4 : m2 ≤ rm s (it s t k)) : WY s x m2 t (k + 1) := by
  intro j hj
  by_cases c : j = k
  · rw [c]; exact ⟨h1, h2, h4⟩
  · have := h j (by omega)
    exact ⟨this.1, this.2.1, Int.le_trans h3 this.2.2⟩
theorem wy_r {s : GS} {x m : Int} {r : Nat → Nat} {t k : Nat} (hI : Inv s) (hr : SRr s x r) (h : WY s x m t k) : ∀ j, j < k → ∀ i, i < j → r (it s t j) < r (it s t i) := by
  intro j
  induction j with
  | zero => intro _ i hi; omega
  | succ j ih =>
    intro hj i hi
    have hw := h j (by omega)
    have h1 : r (it s t (j + 1)) < r (it s t j) := (ev_bf hI hr hw.2.1 hw.1).2.2.1
    by_cases c : i = j
    · rw [c]; exact h1
    · have := ih (by omega) i (by omega)
      omega
/-- two nodes of a way have different arcs -/
theorem wy_ar {s : GS} {x m : Int} {r : Nat → Nat} {t k i j : Nat} (hI : Inv s) (hr : SRr s x r) (h : WY s x m t k) (hj : j < k) (hi : i < j) : ar s (it s t j) ≠ ar s (it s t i) := by
  have hlt := wy_r hI hr h j hj i hi
  have a := h j hj
  have b := h i (by omega)
  have ea := (ev_bf hI hr a.2.1 a.1)
  have eb := (ev_bf hI hr b.2.1 b.1)
  intro e
  obtain ⟨-, -, r1, -, -, -, d1⟩ := ea
  obtain ⟨-, -, r2, -, -, -, d2⟩ := eb
  rw [e] at d1
  rcases d1 with d1 | d1 <;> rcases d2 with d2 | d2
  · rw [d1.2.1] at d2; rw [d2.2.1] at hlt; omega
  · have q1 : bf s (it s t j) = it s t i := by rw [← d1.2.2]; exact d2.2.1
    rw [q1] at r1; omega
  · have q1 : bf s (it s t j) = it s t i := by rw [← d1.2.2]; exact d2.2.1
    rw [q1] at r1; omega
  · rw [d1.2.1] at d2; rw [d2.2.1] at hlt; omega
/-- what can still leave x -/
def tm (s : GS) (x : Int) (f : Nat → Int64) (a : Nat) : Int := if (s.1 112 (bs s + a)).toInt ≠ 0 then (if (s.1 113 (bs s + a)).toInt = x then (s.1 116 (bs s + a)).toInt - (f a).toInt else 0) + (if (s.1 114 (bs s + a)).toInt = x then (f a).toInt else 0) else 0
def RS (s : GS) (x : Int) (f : Nat → Int64) : Nat → Int
  | 0 => 0
  | n + 1 => RS s x f n + tm s x f n
def FB (s : GS) (f : Nat → Int64) : Prop := ∀ a : Nat, a < 160 → (s.1 112 (bs s + a)).toInt ≠ 0 → 0 ≤ (f a).toInt ∧ (f a).toInt ≤ (s.1 116 (bs s + a)).toInt
theorem tm_b {s : GS} {x : Int} {f : Nat → Int64} (hI : Inv s) (h : FB s f) {a : Nat} (ha : a < 160) : 0 ≤ tm s x f a ∧ tm s x f a ≤ 2000000 := by
  unfold tm
  by_cases c : (s.1 112 (bs s + a)).toInt ≠ 0
  · rw [if_pos c]
    have h1 := h a ha c
    have h2 := (arc_n hI ha c).2.2
    obtain ⟨h3, h4⟩ := h2
    split <;> split <;> constructor <;> omega
  · rw [if_neg c]; constructor <;> omega
theorem RS_b {s : GS} {x : Int} {f : Nat → Int64} (hI : Inv s) (h : FB s f) : ∀ n : Nat, n ≤ 160 → 0 ≤ RS s x f n ∧ RS s x f n ≤ 2000000 * (n : Int) := by
  intro n
  induction n with
  | zero => intro _; exact ⟨Int.le_refl _, by show (0 : Int) ≤ _; omega⟩
  | succ n ih =>
    intro hn
    have h1 := ih (by omega)
    have h2 := tm_b (x := x) hI h (show n < 160 by omega)
    show 0 ≤ RS s x f n + tm s x f n ∧ RS s x f n + tm s x f n ≤ _
    constructor <;> omega
theorem ul_ne {f : Nat → Int64} {a k : Nat} {w : Int64} (h : k ≠ a) : vp_updL f a w k = f k := by unfold vp_updL; rw [if_neg h]
theorem ul_eq {f : Nat → Int64} {a : Nat} {w : Int64} : vp_updL f a w a = w := by unfold vp_updL; rw [if_pos rfl]
theorem tm_ne {s : GS} {x : Int} {f : Nat → Int64} {a k : Nat} {w : Int64} (h : k ≠ a) : tm s x (vp_updL f a w) k = tm s x f k := by
  unfold tm
  rw [ul_ne h]
theorem RS_ne {s : GS} {x : Int} {f : Nat → Int64} {a : Nat} {w : Int64} : ∀ n, n ≤ a → RS s x (vp_updL f a w) n = RS s x f n := by
  intro n
  induction n with
  | zero => intro _; rfl
  | succ n ih =>
    intro hn
    show RS s x (vp_updL f a w) n + tm s x (vp_updL f a w) n = RS s x f n + tm s x f n
    rw [ih (by omega), tm_ne (by omega)]
theorem RS_up {s : GS} {x : Int} {f : Nat → Int64} {a : Nat} {w : Int64} : ∀ n, a < n → RS s x (vp_updL f a w) n = RS s x f n + (tm s x (vp_updL f a w) a - tm s x f a) := by
  intro n
  induction n with
  | zero => intro h; omega
  | succ n ih =>
    intro hn
    show RS s x (vp_updL f a w) n + tm s x (vp_updL f a w) n = RS s x f n + tm s x f n + _
    by_cases c : a = n
    · rw [← c, RS_ne a (Nat.le_refl _)]
      omega
    · rw [ih (by omega), tm_ne (show n ≠ a by omega)]
      omega
/-- where push has come: of K nodes, k are done -/
def PBW (s : GS) (x m : Int) (t : Nat) (f : Nat → Int64) (v : Nat) : Prop := ∃ K k, k ≤ K ∧ (it s t K : Int) = x ∧ WY s x m t K ∧ v = it s t k ∧ FB s f ∧ (∀ j, k ≤ j → j < K → f (ar s (it s t j)) = s.2.1 147 (ar s (it s t j))) ∧ (k < K → RS s x f 160 = RS s x (s.2.1 147) 160) ∧ (k = K → RS s x f 160 + m = RS s x (s.2.1 147) 160)
theorem pbw_s {s : GS} {x m : Int} {t v : Nat} {f : Nat → Int64} {w : Int64} (hI : Inv s) (hr : SR s x) (h : PBW s x m t f v) (hx : (v : Int) ≠ x) (hm1 : 1 ≤ m) (hm2 : m ≤ 1000000000) (hw : w.toInt = (f (ar s v)).toInt + (if 200 ≤ (s.1 148 v).toInt then -m else m)) : PBW s x m t (vp_updL f (ar s v) w) (bf s v) := by
  obtain ⟨r, hr⟩ := hr
  obtain ⟨K, k, h1, h2, h3, h4, h5, h6, h7, h8⟩ := h
  have hk : k < K := by
    by_cases c : k = K
    · rw [h4, c] at hx; exact absurd h2 hx
    · omega
  have hv := h3 k hk
  rw [← h4] at hv
  obtain ⟨q1, q2, q3, q4, q5, q6, q7⟩ := ev_bf hI hr hv.2.1 hv.1
  have hf := h6 k (Nat.le_refl _) hk
  rw [← h4] at hf
  have hb := h5 (ar s v) q5 q6
  have hn := arc_n hI q5 q6
  have hrm := hv.2.2
  have hwb : 0 ≤ w.toInt ∧ w.toInt ≤ (s.1 116 (bs s + ar s v)).toInt := by
    rw [hw, hf]
    rw [hf] at hb
    unfold rm at hrm
    rcases q7 with q7 | q7
    · rw [if_pos q7.1] at hrm ⊢; omega
    · rw [if_neg (by omega)] at hrm ⊢; omega
  have hnx : ∀ y : Int32, In y 0 31 → y.toNatClampNeg = v → y.toInt ≠ x := by
    intro y hy e c
    apply hx
    rw [← e, ← c]
    show ((y.toInt.toNat : Nat) : Int) = y.toInt
    have := hy.1
    omega
  have hbx : ∀ y : Int32, In y 0 31 → y.toNatClampNeg = bf s v → (y.toInt = x ↔ (bf s v : Int) = x) := by
    intro y hy e
    have e2 : (bf s v : Int) = y.toInt := by
      rw [← e]
      show ((y.toInt.toNat : Nat) : Int) = y.toInt
      have := hy.1
      omega
    rw [e2]
  have htm : tm s x (vp_updL f (ar s v) w) (ar s v) - tm s x f (ar s v) = if (bf s v : Int) = x then -m else 0 := by
    unfold tm
    rw [if_pos q6, if_pos q6, ul_eq, hw]
    rcases q7 with q7 | q7
    · have z1 := hnx _ hn.1.1 q7.2.1
      have z2 := hbx _ hn.2.1.1 q7.2.2
      rw [if_neg z1, if_neg z1, if_pos q7.1]
      by_cases c : (bf s v : Int) = x
      · rw [if_pos (z2.mpr c), if_pos (z2.mpr c), if_pos c]; omega
      · rw [if_neg (fun q => c (z2.mp q)), if_neg (fun q => c (z2.mp q)), if_neg c]; omega
    · have z1 := hnx _ hn.2.1.1 q7.2.1
      have z2 := hbx _ hn.1.1 q7.2.2
      rw [if_neg z1, if_neg z1, if_neg (show ¬ 200 ≤ (s.1 148 v).toInt by omega)]
      by_cases c : (bf s v : Int) = x
      · rw [if_pos (z2.mpr c), if_pos (z2.mpr c), if_pos c]; omega
      · rw [if_neg (fun q => c (z2.mp q)), if_neg (fun q => c (z2.mp q)), if_neg c]; omega
  have hRS := RS_up (s := s) (x := x) (f := f) (a := ar s v) (w := w) 160 q5
  have eit : it s t (k + 1) = bf s v := by show bf s (it s t k) = bf s v; rw [← h4]
  have h7 := h7 hk
  refine ⟨K, k + 1, hk, h2, h3, eit.symm, fun a ha ht => ?_, fun j hj hjK => ?_, fun hlt => ?_, fun heq => ?_⟩
  · by_cases c : a = ar s v
    · rw [c, ul_eq]; exact hwb
    · rw [ul_ne c]; exact h5 a ha ht
  · have hd := wy_ar hI hr h3 hjK (show k < j by omega)
    rw [← h4] at hd
    rw [ul_ne hd]
    exact h6 j (by omega) hjK
  · have c : ¬ (bf s v : Int) = x := by rw [← eit]; exact (h3 (k + 1) hlt).1
    rw [if_neg c] at htm
    omega
  · have c : (bf s v : Int) = x := by rw [← eit, heq]; exact h2
    rw [if_pos c] at htm
    omega
theorem pbw_0 {s : GS} {x m : Int} {t k v : Nat} (h : WY s x m t k) (hv : v = it s t k) (hx : (v : Int) = x) (ht : (t : Int) ≠ x) (hf : FB s (s.2.1 147)) : PBW s x m t (s.2.1 147) t := by
  refine ⟨k, 0, Nat.zero_le _, by rw [← hv]; exact hx, h, rfl, hf, fun _ _ _ => rfl, fun _ => rfl, fun e => ?_⟩
  exfalso
  rw [← e] at hv
  have : v = t := hv
  rw [this] at hx
  exact ht hx
theorem pbw_e {s : GS} {x m : Int} {t v : Nat} {f : Nat → Int64} (h : PBW s x m t f v) (hx : (v : Int) = x) : FB s f ∧ RS s x f 160 + m = RS s x (s.2.1 147) 160 := by
  obtain ⟨K, k, h1, h2, h3, h4, h5, h6, h7, h8⟩ := h
  by_cases c : k = K
  · exact ⟨h5, h8 c⟩
  · have := (h3 k (by omega)).1
    rw [← h4] at this
    exact absurd hx this
theorem RS_cg {s t : GS} {x : Int} {f : Nat → Int64} (h2 : t.1 112 = s.1 112) (h3 : t.1 113 = s.1 113) (h4 : t.1 114 = s.1 114) (h5 : t.1 116 = s.1 116) (h7 : t.2.2.1 109 19 = s.2.2.1 109 19) : ∀ n, RS t x f n = RS s x f n := by
  have bsn : bs t = bs s := by unfold bs; rw [h7]
  intro n
  induction n with
  | zero => rfl
  | succ n ih =>
    show RS t x f n + tm t x f n = RS s x f n + tm s x f n
    rw [ih]
    unfold tm
    rw [h2, h3, h4, h5, bsn]
theorem FB_cg {s t : GS} {f : Nat → Int64} (h : FB s f) (h2 : t.1 112 = s.1 112) (h5 : t.1 116 = s.1 116) (h7 : t.2.2.1 109 19 = s.2.2.1 109 19) : FB t f := by
  have bsn : bs t = bs s := by unfold bs; rw [h7]
  unfold FB at h ⊢
  rw [h2, h5, bsn]
  exact h
theorem fb_fo {s : GS} {v : Nat} (hI : Inv s) (h : FB s (s.2.1 147)) (ha : ar s v < 160) (ht : (s.1 112 (bs s + ar s v)).toInt ≠ 0) : FO s v := by
  have h1 := h (ar s v) ha ht
  have h2 := (arc_n hI ha ht).2.2.2
  exact ⟨by omega, by omega⟩
theorem pbw_nd {s : GS} {x m : Int} {t v : Nat} {f : Nat → Int64} (h : PBW s x m t f v) (hx : (v : Int) ≠ x) : ND s v := by
  obtain ⟨K, k, h1, h2, h3, h4, h5, h6, h7, h8⟩ := h
  by_cases c : k = K
  · rw [h4, c] at hx; exact absurd h2 hx
  · rw [h4]; exact (h3 k (by omega)).2.1
theorem pbw_fb {s : GS} {x m : Int} {t v : Nat} {f : Nat → Int64} (h : PBW s x m t f v) : FB s f := by
  obtain ⟨K, k, h1, h2, h3, h4, h5, h6, h7, h8⟩ := h
  exact h5
theorem ar_cg {s t : GS} {v : Nat} (h : t.1 = s.1) : ar t v = ar s v := by unfold ar; rw [h]
theorem bf_cg {s t : GS} {v : Nat} (h : t.1 = s.1) (h2 : t.2.2.1 = s.2.2.1) : bf t v = bf s v := by unfold bf bs; rw [h, h2]
theorem be_cg {s t : GS} {v : Nat} (h : t.1 = s.1) (hb : BE s v) : BE t v := by unfold BE at hb ⊢; rw [h]; exact hb
theorem pbw_pu {s u w : GS} {x m : Int} {t v z : Nat} (hI : Inv s) (hr : SR s x) (h1 : u.1 = s.1) (h2 : u.2.2.1 = s.2.2.1) (h : PBW s x m t (u.2.1 147) v) (hx : (v : Int) ≠ x) (hm1 : 1 ≤ m) (hm2 : m ≤ 1000000000) (hp : PU u w v m) (hz : z = bf u v) : PBW s x m t (w.2.1 147) z := by
  obtain ⟨y, e1, e2⟩ := hp
  have hr2 := hr
  obtain ⟨r, hr2⟩ := hr2
  obtain ⟨q1, q2, q3, q4, q5, q6, q7⟩ := ev_bf hI hr2 (pbw_nd h hx) hx
  have hb := pbw_fb h (ar s v) q5 q6
  have hn := (arc_n hI q5 q6).2.2.2
  have e3 := e2 (by unfold FO; rw [ar_cg h1]; exact ⟨by omega, by omega⟩) (by omega) hm2
  rw [ar_cg h1, h1] at e3
  rw [e1, ar_cg h1, hz, bf_cg h1 h2]
  exact pbw_s hI hr h hx hm1 hm2 e3
theorem ms_e {s u w : GS} {x m : Int} {t v k : Nat} (hI : Inv s) (h1 : u.1 = s.1) (h2 : u.2.2.1 = s.2.2.1) (h : PBW s x m t (u.2.1 147) v) (hx : (v : Int) = x) (hm1 : 1 ≤ m) (w1 : w.2.1 147 = u.2.1 147) (w2 : w.1 112 = u.1 112) (w3 : w.1 113 = u.1 113) (w4 : w.1 114 = u.1 114) (w5 : w.1 116 = u.1 116) (w7 : w.2.2.1 109 19 = u.2.2.1 109 19) (hk : (RS s x (s.2.1 147) 160).toNat < k + 1) : FB w (w.2.1 147) ∧ (RS w x (w.2.1 147) 160).toNat < k := by
  have he := pbw_e h hx
  have f2 : w.1 112 = s.1 112 := by rw [w2, h1]
  have f3 : w.1 113 = s.1 113 := by rw [w3, h1]
  have f4 : w.1 114 = s.1 114 := by rw [w4, h1]
  have f5 : w.1 116 = s.1 116 := by rw [w5, h1]
  have f7 : w.2.2.1 109 19 = s.2.2.1 109 19 := by rw [w7, h2]
  have hb := (RS_b (x := x) hI he.1 160 (Nat.le_refl _)).1
  refine ⟨by rw [w1]; exact FB_cg he.1 f2 f5 f7, ?_⟩
  rw [w1, RS_cg f2 f3 f4 f5 f7]
  omega
end
section
/-! RINGS OF THE REFERENCE'S TREE -/
def nx (s : GS) (w : Nat) : Nat := (s.1 153 (s.1 157 w).toNatClampNeg).toNatClampNeg
def TP (s : GS) (m t : Int) : Prop := ∀ v : Nat, (v : Int) < m → (v : Int) ≠ t → 0 ≤ (s.1 157 v).toInt ∧ (s.1 153 (s.1 157 v).toNatClampNeg).toInt < m
def VC (s : GS) (V : Nat → Int32) (m t v u : Int) : Prop := ∀ w : Nat, (w : Int) < m → (V w).toInt = v → (w : Int) ≠ t ∧ ((V (nx s w)).toInt = v ∨ (nx s w : Int) = u)
def VD (s : GS) (V : Nat → Int32) (m t v : Int) : Prop := ∀ w : Nat, (w : Int) < m → (V w).toInt = v → (w : Int) ≠ t ∧ (V (nx s w)).toInt = v
theorem vc_0 {s : GS} {V : Nat → Int32} {m t v u : Int} (h : ∀ k : Nat, (k : Int) < m → (V k).toInt < v) : VC s V m t v u := by
  intro w hw e
  have := h w hw
  omega
theorem vc_s {s : GS} {V : Nat → Int32} {m t v z : Int} {y b : Int32} (h : VC s V m t v y.toInt) (hy : 0 ≤ y.toInt) (ht : y.toInt ≠ t) (hb : b.toInt = v) (hz : z = (nx s y.toNatClampNeg : Int)) : VC s (upd V y.toNatClampNeg b) m t v z := by
  intro w hw e
  have ny : y.toNatClampNeg = y.toInt.toNat := rfl
  have up : ∀ k, (V k).toInt = v → (upd V y.toNatClampNeg b k).toInt = v := by
    intro k hk
    unfold upd
    split
    · exact hb
    · exact hk
  have upy : (upd V y.toNatClampNeg b y.toNatClampNeg).toInt = v := by unfold upd; rw [if_pos rfl]; exact hb
  by_cases c : w = y.toNatClampNeg
  · refine ⟨by omega, Or.inr ?_⟩
    rw [c, hz]
  · have e2 : upd V y.toNatClampNeg b w = V w := by unfold upd; rw [if_neg c]
    rw [e2] at e
    obtain ⟨h1, h2⟩ := h w hw e
    refine ⟨h1, Or.inl ?_⟩
    rcases h2 with h2 | h2
    · exact up _ h2
    · have e3 : nx s w = y.toNatClampNeg := by omega
      rw [e3]; exact upy
theorem vc_e {s : GS} {V : Nat → Int32} {m t v : Int} {u : Int32} (h : VC s V m t v u.toInt) (hu : 0 ≤ u.toInt) (hv : (V u.toNatClampNeg).toInt = v) : VD s V m t v := by
  intro w hw e
  obtain ⟨h1, h2⟩ := h w hw e
  refine ⟨h1, ?_⟩
  rcases h2 with h2 | h2
  · exact h2
  · have nu : u.toNatClampNeg = u.toInt.toNat := rfl
    have e3 : nx s w = u.toNatClampNeg := by omega
    rw [e3]; exact hv
theorem tp_u {s t : GS} {m a : Int} {y b f : Int32} (h : TP s m a) (h1 : y.toInt < m) (h2 : y.toInt ≠ a) (hy : 0 ≤ y.toInt) (hb : b = t.1 157 y.toNatClampNeg) (ht : t.1 157 = s.1 157) : 0 ≤ b.toInt ∧ (f = t.1 153 b.toNatClampNeg → t.1 153 = s.1 153 → f.toInt < m ∧ (0 ≤ f.toInt → f.toInt = (nx s y.toNatClampNeg : Int))) := by
  have ny : y.toNatClampNeg = y.toInt.toNat := rfl
  have h3 := h y.toNatClampNeg (by omega) (by omega)
  rw [ht] at hb
  rw [← hb] at h3
  refine ⟨h3.1, fun hf hs => ?_⟩
  rw [hs] at hf
  rw [← hf] at h3
  refine ⟨h3.2, fun h0 => ?_⟩
  unfold nx
  rw [← hb, ← hf]
  show f.toInt = ((f.toInt.toNat : Nat) : Int)
  omega
theorem up_lt {f : Nat → Int32} {k w : Nat} {b : Int32} {m : Int} (h : k ≠ w → (f k).toInt < m) (hb : b.toInt < m) : (upd f w b k).toInt < m := by
  unfold upd
  by_cases c : k = w
  · rw [if_pos c]; exact hb
  · rw [if_neg c]; exact h c
theorem up_cm {f : Nat → Int32} {y b : Int32} {n : Nat} (h1 : (f y.toNatClampNeg).toInt < 0) (h2 : 0 ≤ b.toInt) (hn : y.toNatClampNeg < n) : cM (upd f y.toNatClampNeg b) n + 1 = cM f n := by
  have := cM_up h1 h2 n
  rw [if_pos hn] at this
  exact this
def EE (s : GS) (n m : Int) : Prop := ∀ e : Nat, (e : Int) < n → (s.1 153 e).toInt < m ∧ (s.1 154 e).toInt < m
theorem ee_0 {s : GS} {n m : Int} (h : n ≤ 0) : EE s n m := fun e he => by omega
theorem ee_cg {s t : GS} {n m : Int} (h : EE s n m) (h1 : t.1 153 = s.1 153) (h2 : t.1 154 = s.1 154) : EE t n m := by
  unfold EE at h ⊢
  rw [h1, h2]
  exact h
theorem ee_s {s t : GS} {n n2 m : Int} {y z w : Int32} (h : EE s n m) (h1 : t.1 153 = upd (s.1 153) y.toNatClampNeg z) (h2 : t.1 154 = upd (s.1 154) y.toNatClampNeg w) (hy : 0 ≤ y.toInt) (hn : y.toInt = n) (hz : z.toInt < m) (hw : w.toInt < m) (h3 : n2 = n + 1) : EE t n2 m := by
  intro e he
  have ny : y.toNatClampNeg = y.toInt.toNat := rfl
  rw [h1, h2]
  exact ⟨up_lt (fun c => (h e (by omega)).1) hz, up_lt (fun c => (h e (by omega)).2) hw⟩
end
section
/-! LEAST WAYS BY ROUNDS: how many, ranks below 32, potentials, what a change keeps -/
def cq (p : Nat → Bool) : Nat → Nat
  | 0 => 0
  | n + 1 => cq p n + (if p n = true then 1 else 0)
theorem cq_le (p : Nat → Bool) : ∀ n, cq p n ≤ n := by
  intro n
  induction n with
  | zero => exact Nat.le_refl 0
  | succ n ih =>
    show cq p n + (if p n = true then 1 else 0) ≤ n + 1
    split <;> omega
theorem cq_mono {p q : Nat → Bool} : ∀ n, (∀ i, i < n → p i = true → q i = true) → cq p n ≤ cq q n := by
  intro n
  induction n with
  | zero => intro _; exact Nat.le_refl 0
  | succ n ih =>
    intro h
    have h1 := ih (fun i hi => h i (by omega))
    have h2 := h n (by omega)
    show cq p n + (if p n = true then 1 else 0) ≤ cq q n + (if q n = true then 1 else 0)
    by_cases c : p n = true
    · rw [if_pos c, if_pos (h2 c)]; omega
    · rw [if_neg c]; omega
theorem cq_lt {p q : Nat → Bool} {k : Nat} : ∀ n, (∀ i, i < n → p i = true → q i = true) → k < n → p k = false → q k = true → cq p n + 1 ≤ cq q n := by
  intro n
  induction n with
  | zero => intro _ h; omega
  | succ n ih =>
    intro h hk h1 h2
    show cq p n + (if p n = true then 1 else 0) + 1 ≤ cq q n + (if q n = true then 1 else 0)
    by_cases c : k = n
    · subst c
      have h3 := cq_mono (p := p) (q := q) k (fun i hi => h i (by omega))
      rw [if_neg (by rw [h1]; decide), if_pos h2]; omega
    · have h3 := ih (fun i hi => h i (by omega)) (by omega) h1 h2
      have h4 := h n (by omega)
      by_cases c2 : p n = true
      · rw [if_pos c2, if_pos (h4 c2)]; omega
      · rw [if_neg c2]; omega
theorem rank32 (key : Nat → Nat) : ∃ r : Nat → Nat, (∀ v, v < 32 → r v < 32) ∧ ∀ u v, u < 32 → v < 32 → key u < key v → r u < r v := by
  refine ⟨fun v => cq (fun u => decide (key u < key v)) 32, fun v hv => ?_, fun u v hu hv h => ?_⟩
  · have h := cq_lt (p := fun u => decide (key u < key v)) (q := fun _ => true) (k := v) 32 (fun _ _ _ => rfl) hv (decide_eq_false (Nat.lt_irrefl _)) rfl
    have h2 := cq_le (fun _ => true) 32
    dsimp only
    omega
  · refine cq_lt (k := u) 32 (fun i _ hi => ?_) hu (decide_eq_false (Nat.lt_irrefl _)) (decide_eq_true h)
    exact decide_eq_true (Nat.lt_trans (of_decide_eq_true hi) h)
def smq (f : Nat → Nat) : Nat → Nat
  | 0 => 0
  | n + 1 => smq f n + f n
theorem smq_le {f g : Nat → Nat} : ∀ n, (∀ i, i < n → f i ≤ g i) → smq f n ≤ smq g n := by
  intro n
  induction n with
  | zero => intro _; exact Nat.le_refl 0
  | succ n ih =>
    intro h
    have h1 := ih (fun i hi => h i (by omega))
    have h2 := h n (by omega)
    show smq f n + f n ≤ smq g n + g n
    omega
theorem smq_lt {f g : Nat → Nat} {k : Nat} : ∀ n, (∀ i, i < n → f i ≤ g i) → k < n → f k < g k → smq f n < smq g n := by
  intro n
  induction n with
  | zero => intro _ h; omega
  | succ n ih =>
    intro h hk h1
    have h2 := h n (by omega)
    show smq f n + f n < smq g n + g n
    by_cases c : k = n
    · subst c
      have h3 := smq_le (f := f) (g := g) k (fun i hi => h i (by omega))
      omega
    · have h3 := ih (fun i hi => h i (by omega)) (by omega) h1
      omega
theorem smq_c {f : Nat → Nat} {c : Nat} : ∀ n, (∀ i, i < n → f i ≤ c) → smq f n ≤ c * n := by
  intro n
  induction n with
  | zero => intro _; exact Nat.le_refl 0
  | succ n ih =>
    intro h
    have h1 := ih (fun i hi => h i (by omega))
    have h2 := h n (by omega)
    show smq f n + f n ≤ c * (n + 1)
    rw [Nat.mul_succ]
    omega
/-- arcs of 32 nodes with small weights -/
def RB (R : Nat → Nat → Int → Prop) : Prop := ∀ u v w, R u v w → u < 32 ∧ v < 32 ∧ -1000000 ≤ w ∧ w ≤ 1000000
/-- a potential -/
def FE (R : Nat → Nat → Int → Prop) (pi : Nat → Int) : Prop := ∀ u v w, R u v w → pi v ≤ pi u + w
theorem gapq {pi : Nat → Nat} {v : Nat} (hv : v < 32) (h : 32000000 ≤ pi v) : ∃ j, j < 32 ∧ ∀ u, u < 32 → pi u < 1000000 * j ∨ 1000000 * j + 1000000 ≤ pi u := by
  apply Classical.byContradiction
  intro hn
  have key : ∀ j, j ≤ 32 → j ≤ cq (fun u => decide (pi u < 1000000 * j)) 32 := by
    intro j
    induction j with
    | zero => intro _; exact Nat.zero_le _
    | succ j ih =>
      intro hj
      have h1 := ih (by omega)
      have hx : ∃ u, u < 32 ∧ 1000000 * j ≤ pi u ∧ pi u < 1000000 * j + 1000000 := by
        apply Classical.byContradiction
        intro hq
        apply hn
        refine ⟨j, by omega, fun u hu => ?_⟩
        by_cases c : pi u < 1000000 * j
        · exact Or.inl c
        · refine Or.inr ?_
          by_cases c2 : 1000000 * j + 1000000 ≤ pi u
          · exact c2
          · exact absurd ⟨u, hu, by omega, by omega⟩ hq
      obtain ⟨u, hu, a, b⟩ := hx
      have h2 := cq_lt (p := fun u => decide (pi u < 1000000 * j)) (q := fun u => decide (pi u < 1000000 * (j + 1))) (k := u) 32 (fun i _ hi => decide_eq_true (by have := of_decide_eq_true hi; omega)) hu (decide_eq_false (by omega)) (decide_eq_true (by omega))
      omega
  have h1 := key 32 (Nat.le_refl _)
  have h2 := cq_lt (p := fun u => decide (pi u < 1000000 * 32)) (q := fun _ => true) (k := v) 32 (fun _ _ _ => rfl) hv (decide_eq_false (by omega)) rfl
  have h3 := cq_le (fun _ => true) 32
  omega
theorem squeeze {R : Nat → Nat → Int → Prop} (hR : RB R) : ∀ (K : Nat) (pi : Nat → Nat), smq pi 32 < K → FE R (fun v => (pi v : Int)) → ∃ q : Nat → Nat, (∀ v, v < 32 → q v ≤ 32000000) ∧ FE R (fun v => (q v : Int)) := by
  intro K
  induction K with
  | zero => intro pi hs _; omega
  | succ K ih =>
    intro pi hs hf
    by_cases c : ∃ v, v < 32 ∧ 32000000 ≤ pi v
    · obtain ⟨v, hv, h⟩ := c
      obtain ⟨j, hj, hg⟩ := gapq hv h
      refine ih (fun u => if 1000000 * j + 1000000 ≤ pi u then pi u - 1 else pi u) ?_ ?_
      · have h1 := smq_lt (f := fun u => if 1000000 * j + 1000000 ≤ pi u then pi u - 1 else pi u) (g := pi) (k := v) 32 (fun i _ => by split <;> omega) hv (by rw [if_pos (by omega)]; omega)
        omega
      · intro a b w hr
        have q := hf a b w hr
        obtain ⟨ha, hb, w1, w2⟩ := hR a b w hr
        have ga := hg a ha
        have gb := hg b hb
        dsimp only at q ⊢
        split <;> split <;> omega
    · refine ⟨pi, fun v hv => ?_, hf⟩
      by_cases c2 : 32000000 ≤ pi v
      · exact absurd ⟨v, hv, c2⟩ c
      · omega
theorem squeezeI {R : Nat → Nat → Int → Prop} (hR : RB R) {pi : Nat → Int} (hf : FE R pi) : ∃ q : Nat → Int, (∀ v, v < 32 → 0 ≤ q v ∧ q v ≤ 32000000) ∧ FE R q := by
  have hm : ∀ n : Nat, ∃ c : Int, ∀ v, v < n → c ≤ pi v := by
    intro n
    induction n with
    | zero => exact ⟨0, fun v hv => by omega⟩
    | succ n ih =>
      obtain ⟨c, hc⟩ := ih
      by_cases k : c ≤ pi n
      · refine ⟨c, fun v hv => ?_⟩
        by_cases e : v = n
        · rw [e]; exact k
        · exact hc v (by omega)
      · refine ⟨pi n, fun v hv => ?_⟩
        by_cases e : v = n
        · rw [e]; exact Int.le_refl _
        · have := hc v (by omega)
          omega
  obtain ⟨c, hc⟩ := hm 32
  obtain ⟨q, h1, h2⟩ := squeeze hR (smq (fun v => (pi v - c).toNat) 32 + 1) (fun v => (pi v - c).toNat) (Nat.lt_succ_self _) (by
    intro a b w hr
    have q := hf a b w hr
    obtain ⟨ha, hb, -, -⟩ := hR a b w hr
    have ga := hc a ha
    have gb := hc b hb
    dsimp only
    omega)
  exact ⟨fun v => (q v : Int), fun v hv => by have := h1 v hv; dsimp only; omega, h2⟩
/-- prices that are told -/
def fnp (p : Nat → Int) (v : Nat) : Bool := decide (p v < 9000000000000000)
def ee (pi : Nat → Int) (c : Int) (p : Nat → Int) (v : Nat) : Nat := if p v < 9000000000000000 then (p v - pi v + c).toNat else 100000000
def msr (pi : Nat → Int) (c : Int) (p : Nat → Int) : Nat := smq (ee pi c p) 32
def BI (R : Nat → Nat → Int → Prop) (pi : Nat → Int) (c : Int) (S : Nat → Prop) (p : Nat → Int) (pd : Nat → Nat) (wt : Nat → Int) : Prop :=
  (∀ v, v < 32 → p v < 9000000000000000 → 0 ≤ p v - pi v + c ∧ p v ≤ 1000000 * (cq (fnp p) 32 : Int) - 1000000) ∧
  ∃ τ : Nat → Nat, (∀ v, v < 32 → τ v + msr pi c p ≤ 3200000000) ∧
    ∀ v, v < 32 → p v < 9000000000000000 → ¬ S v → pd v < 32 ∧ R (pd v) v (wt v) ∧ p (pd v) < 9000000000000000 ∧ (p (pd v) + wt v < p v ∨ (p (pd v) + wt v = p v ∧ τ (pd v) < τ v))
def PB2 (pi : Nat → Int) (c : Int) : Prop := (∀ v, v < 32 → 0 ≤ pi v ∧ pi v ≤ 32000000) ∧ 0 ≤ c ∧ c ≤ 32000000
theorem bi_b {R : Nat → Nat → Int → Prop} {pi : Nat → Int} {c : Int} {S : Nat → Prop} {p : Nat → Int} {pd : Nat → Nat} {wt : Nat → Int} (hp : PB2 pi c) (h : BI R pi c S p pd wt) {v : Nat} (hv : v < 32) (hn : p v < 9000000000000000) : -32000000 ≤ p v ∧ p v ≤ 31000000 := by
  have h1 := h.1 v hv hn
  have h2 := hp.1 v hv
  have h3 := cq_le (fnp p) 32
  have h4 := hp.2
  constructor <;> omega
theorem bi_relax {R : Nat → Nat → Int → Prop} {pi : Nat → Int} {c : Int} {S : Nat → Prop} {p p2 : Nat → Int} {pd pd2 : Nat → Nat} {wt wt2 : Nat → Int} {u v : Nat} {w : Int} (hR : RB R) (hf : FE R pi) (hp : PB2 pi c) (h : BI R pi c S p pd wt) (hr : R u v w) (hu : p u < 9000000000000000) (hlt : p u + w < p v)
    (e1 : p2 v = p u + w) (e2 : ∀ x, x < 32 → x ≠ v → p2 x = p x) (e3 : pd2 v = u) (e4 : ∀ x, x < 32 → x ≠ v → pd2 x = pd x) (e5 : wt2 v = w) (e6 : ∀ x, x < 32 → x ≠ v → wt2 x = wt x) : BI R pi c S p2 pd2 wt2 ∧ msr pi c p2 < msr pi c p := by
  obtain ⟨hu32, hv32, w1, w2⟩ := hR u v w hr
  have hfe := hf u v w hr
  have hne : u ≠ v := by
    intro e
    rw [e] at hfe hlt
    omega
  obtain ⟨h1, τ, t1, t2⟩ := h
  have bu := h1 u hu32 hu
  have hc32 := cq_le (fnp p) 32
  have hpv := hp.1 v hv32
  have hcc := hp.2
  have hnew : p2 v < 9000000000000000 := by rw [e1]; omega
  have hsub : ∀ i, i < 32 → fnp p i = true → fnp p2 i = true := by
    intro i hi hq
    by_cases e : i = v
    · rw [e]; exact decide_eq_true hnew
    · unfold fnp at hq ⊢
      rw [e2 i hi e]; exact hq
  have hc1 := cq_mono (p := fnp p) (q := fnp p2) 32 hsub
  have hlow : 0 ≤ p u + w - pi v + c := by omega
  have hms : msr pi c p2 < msr pi c p := by
    refine smq_lt (k := v) 32 (fun i hi => ?_) hv32 ?_
    · by_cases e : i = v
      · rw [e]
        unfold ee
        rw [if_pos hnew, e1]
        split <;> omega
      · unfold ee
        rw [e2 i hi e]
        exact Nat.le_refl _
    · unfold ee
      rw [if_pos hnew, e1]
      split <;> omega
  refine ⟨⟨fun x hx hq => ?_, fun x => if x = v then 3200000000 - msr pi c p2 else τ x, fun x hx => ?_, fun x hx hq hS => ?_⟩, hms⟩
  · by_cases e : x = v
    · rw [e, e1]
      refine ⟨hlow, ?_⟩
      by_cases k : p v < 9000000000000000
      · have := h1 v hv32 k
        omega
      · have := cq_lt (p := fnp p) (q := fnp p2) (k := v) 32 hsub hv32 (decide_eq_false k) (decide_eq_true hnew)
        omega
    · rw [e2 x hx e] at hq ⊢
      have := h1 x hx hq
      omega
  · dsimp only
    have a := t1 v hv32
    have b := t1 x hx
    split <;> omega
  · dsimp only
    by_cases e : x = v
    · rw [e, e3, e5, if_pos rfl, if_neg hne, e2 u hu32 hne, e1]
      have a := t1 u hu32
      exact ⟨hu32, hr, hu, Or.inr ⟨rfl, by omega⟩⟩
    · rw [e2 x hx e] at hq ⊢
      obtain ⟨q1, q2, q3, q4⟩ := t2 x hx hq hS
      rw [e4 x hx e, e6 x hx e, if_neg e]
      by_cases k : pd x = v
      · rw [k] at q2 q3 q4 ⊢
        refine ⟨hv32, q2, hnew, Or.inl ?_⟩
        rw [e1]
        rcases q4 with q4 | q4 <;> omega
      · rw [e2 _ q1 k, if_neg k]
        exact ⟨q1, q2, q3, q4⟩
theorem bi_0 {R : Nat → Nat → Int → Prop} {pi : Nat → Int} {c : Int} {S : Nat → Prop} {p : Nat → Int} {pd : Nat → Nat} {wt : Nat → Int} (hp : PB2 pi c) (h : ∀ v, v < 32 → p v < 9000000000000000 → S v ∧ p v = 0 ∧ pi v ≤ c) : BI R pi c S p pd wt := by
  refine ⟨fun v hv hn => ?_, fun _ => 0, fun v hv => ?_, fun v hv hn hS => absurd (h v hv hn).1 hS⟩
  · have a := h v hv hn
    have b := cq_lt (p := fun _ => false) (q := fnp p) (k := v) 32 (fun i _ hi => by cases hi) hv rfl (decide_eq_true hn)
    constructor <;> omega
  · have a : msr pi c p ≤ 100000000 * 32 := smq_c 32 (fun i hi => by
      unfold ee
      have hq := hp.1 i hi
      have hc := hp.2
      split
      · rename_i k
        have := h i hi k
        omega
      · omega)
    show 0 + msr pi c p ≤ 3200000000
    omega
/-- the ranks of a way back -/
theorem bi_rank {R : Nat → Nat → Int → Prop} {pi : Nat → Int} {c : Int} {S : Nat → Prop} {p : Nat → Int} {pd : Nat → Nat} {wt : Nat → Int} (hf : FE R pi) (h : BI R pi c S p pd wt) : ∃ r : Nat → Nat, (∀ v, v < 32 → r v < 32) ∧ ∀ v, v < 32 → p v < 9000000000000000 → ¬ S v → pd v < 32 ∧ R (pd v) v (wt v) ∧ p (pd v) < 9000000000000000 ∧ r (pd v) < r v ∧ p (pd v) + wt v ≤ p v := by
  obtain ⟨h1, τ, t1, t2⟩ := h
  obtain ⟨r, r1, r2⟩ := rank32 (fun v => (p v - pi v + c).toNat * 4000000000 + τ v)
  refine ⟨r, r1, fun v hv hn hS => ?_⟩
  obtain ⟨q1, q2, q3, q4⟩ := t2 v hv hn hS
  have f := hf _ _ _ q2
  have a := (h1 v hv hn).1
  have b := (h1 _ q1 q3).1
  have ta := t1 v hv
  have tb := t1 _ q1
  refine ⟨q1, q2, q3, r2 _ _ q1 hv ?_, by rcases q4 with q4 | q4 <;> omega⟩
  rcases q4 with q4 | q4
  · have : (p (pd v) - pi (pd v) + c).toNat + 1 ≤ (p v - pi v + c).toNat := by omega
    omega
  · have : (p (pd v) - pi (pd v) + c).toNat ≤ (p v - pi v + c).toNat := by omega
    omega
/-- the potential after the rounds -/
theorem bi_pi {R : Nat → Nat → Int → Prop} {pi : Nat → Int} {c : Int} {p : Nat → Int} (hf : FE R pi) (hcl : ∀ u v w, R u v w → p u < 9000000000000000 → p v ≤ p u + w) (hcb : ∀ u v w, R u v w → p u < 9000000000000000 → p v < 9000000000000000) {g : Nat} : ∃ q : Nat → Int, FE R q ∧ ∀ x, p x < 9000000000000000 → p x - pi x ≤ p g - pi g → q x = p x + c := by
  refine ⟨fun v => pi v + (if p v < 9000000000000000 ∧ p v - pi v ≤ p g - pi g then p v - pi v + c else p g - pi g + c), fun u v w hr => ?_, fun x hx hd => ?_⟩
  · dsimp only
    have f := hf u v w hr
    by_cases cu : p u < 9000000000000000 ∧ p u - pi u ≤ p g - pi g
    · rw [if_pos cu]
      have a := hcl u v w hr cu.1
      have b := hcb u v w hr cu.1
      split
      · omega
      · rename_i k
        have : ¬ p v - pi v ≤ p g - pi g := fun z => k ⟨b, z⟩
        omega
    · rw [if_neg cu]
      split
      · rename_i k
        omega
      · omega
  · dsimp only
    rw [if_pos ⟨hx, hd⟩]
    omega
end
section
/-! THE REFERENCE'S LEAST PRICES -/
/-- arcs that are left, with flow f -/
def RQf (s : GS) (f : Nat → Int64) (u v : Nat) (w : Int) : Prop := ∃ a : Nat, a < 160 ∧ (s.1 112 (bs s + a)).toInt ≠ 0 ∧ (((f a).toInt < (s.1 116 (bs s + a)).toInt ∧ (s.1 113 (bs s + a)).toNatClampNeg = u ∧ (s.1 114 (bs s + a)).toNatClampNeg = v ∧ w = (s.1 115 (bs s + a)).toInt) ∨ (0 < (f a).toInt ∧ (s.1 114 (bs s + a)).toNatClampNeg = u ∧ (s.1 113 (bs s + a)).toNatClampNeg = v ∧ w = -(s.1 115 (bs s + a)).toInt))
def CP (s : GS) : Prop := ∃ pi : Nat → Int, FE (RQf s (s.2.1 147)) pi
theorem nat_in {y : Int32} {n : Int} (h : In y 0 31) (h2 : y.toInt < n) : y.toNatClampNeg < 32 ∧ (y.toNatClampNeg : Int) < n := by
  have e : y.toNatClampNeg = y.toInt.toNat := rfl
  obtain ⟨a, b⟩ := h
  constructor <;> omega
theorem rq_n {s : GS} (hI : Inv s) {f : Nat → Int64} {u v : Nat} {w : Int} (h : RQf s f u v w) : (u < 32 ∧ (u : Int) < (s.2.2.1 109 20).toInt) ∧ (v < 32 ∧ (v : Int) < (s.2.2.1 109 20).toInt) ∧ -1000000 ≤ w ∧ w ≤ 1000000 := by
  obtain ⟨a, ha, ht, h⟩ := h
  have hn := arc_n hI ha ht
  have hb : In (s.2.2.1 109 19) 0 160 := inv_F hI 0 160 rfl rfl
  obtain ⟨b1, b2⟩ := hb
  have eb : bs s = (s.2.2.1 109 19).toInt.toNat := rfl
  have hw : In (s.1 115 (bs s + a)) (-1000000) 1000000 := hI.1.1 115 (bs s + a) (show bs s + a < 480 by omega)
  obtain ⟨w1, w2⟩ := hw
  have n1 := nat_in hn.1.1 hn.1.2
  have n2 := nat_in hn.2.1.1 hn.2.1.2
  rcases h with ⟨-, e1, e2, e3⟩ | ⟨-, e1, e2, e3⟩
  · rw [e1] at n1; rw [e2] at n2
    exact ⟨n1, n2, by omega, by omega⟩
  · rw [e1] at n2; rw [e2] at n1
    exact ⟨n2, n1, by omega, by omega⟩
theorem rq_b {s : GS} (hI : Inv s) {f : Nat → Int64} : RB (RQf s f) := fun _ _ _ h => ⟨(rq_n hI h).1.1, (rq_n hI h).2.1.1, (rq_n hI h).2.2⟩
noncomputable def pq (s : GS) : Nat → Int := Classical.epsilon (fun q : Nat → Int => (∀ v, v < 32 → 0 ≤ q v ∧ q v ≤ 32000000) ∧ FE (RQf s (s.2.1 147)) q)
theorem pq_ok {s : GS} (hI : Inv s) (h : CP s) : (∀ v, v < 32 → 0 ≤ pq s v ∧ pq s v ≤ 32000000) ∧ FE (RQf s (s.2.1 147)) (pq s) := by
  obtain ⟨pi, hf⟩ := h
  exact Classical.epsilon_spec (squeezeI (rq_b hI) hf)
def pf (s : GS) (v : Nat) : Int := if (v : Int) < (s.2.2.1 109 20).toInt then (s.2.1 149 v).toInt else 9000000000000000
def wq (s : GS) (v : Nat) : Int := if 200 ≤ (s.1 148 v).toInt then -(s.1 115 (bs s + ar s v)).toInt else (s.1 115 (bs s + ar s v)).toInt
def SQ (s t : GS) : Prop := t.1 112 = s.1 112 ∧ t.1 113 = s.1 113 ∧ t.1 114 = s.1 114 ∧ t.1 115 = s.1 115 ∧ t.1 116 = s.1 116 ∧ t.2.1 147 = s.2.1 147 ∧ t.2.2.1 109 19 = s.2.2.1 109 19 ∧ t.2.2.1 109 20 = s.2.2.1 109 20
theorem sq_bs {s t : GS} (h : SQ s t) : bs t = bs s := by unfold bs; rw [h.2.2.2.2.2.2.1]
theorem rq_cg {s t : GS} (h : SQ s t) (f : Nat → Int64) : RQf t f = RQf s f := by
  have hb := sq_bs h
  obtain ⟨h1, h2, h3, h4, h5, h6, h7, h8⟩ := h
  funext u v w
  unfold RQf
  rw [h1, h2, h3, h4, h5, hb]
/-- v's arc is left, by the row back -/
def BQ (s t : GS) (v : Nat) : Prop := ∃ a : Nat, a < 160 ∧ (s.1 112 (bs s + a)).toInt ≠ 0 ∧ (((t.1 148 v).toInt = (a : Int) ∧ (s.1 114 (bs s + a)).toNatClampNeg = v ∧ (s.2.1 147 a).toInt < (s.1 116 (bs s + a)).toInt) ∨ ((t.1 148 v).toInt = 200 + (a : Int) ∧ (s.1 113 (bs s + a)).toNatClampNeg = v ∧ 0 < (s.2.1 147 a).toInt))
def CI (s : GS) (x : Int) (t : GS) : Prop := BI (RQf s (s.2.1 147)) (pq s) (pq s x.toNat) (fun v => (v : Int) = x) (pf t) (bf t) (wq t) ∧ pf t x.toNat = 0 ∧ (∀ v : Nat, v < 32 → (v : Int) < (s.2.2.1 109 20).toInt → (0 ≤ (t.1 148 v).toInt ↔ (t.2.1 149 v).toInt < 9000000000000000)) ∧ ∀ v : Nat, v < 32 → (v : Int) < (s.2.2.1 109 20).toInt → (v : Int) ≠ x → 0 ≤ (t.1 148 v).toInt → BQ s t v
noncomputable def mq (s : GS) (x : Int) (t : GS) : Nat := msr (pq s) (pq s x.toNat) (pf t)
theorem pf_n {s t : GS} {v : Nat} (h : t.2.2.1 109 20 = s.2.2.1 109 20) (hv : (v : Int) < (s.2.2.1 109 20).toInt) : pf t v = (t.2.1 149 v).toInt := by
  unfold pf
  rw [if_pos (by rw [h]; exact hv)]
theorem ci_b {s t : GS} {x : Int} (hI : Inv s) (hp : CP s) (hx : x < 32) (st : SQ s t) (h : CI s x t) {v : Nat} (hv : v < 32) (hn : (v : Int) < (s.2.2.1 109 20).toInt) (h9 : (t.2.1 149 v).toInt < 9000000000000000) : -32000000 ≤ (t.2.1 149 v).toInt ∧ (t.2.1 149 v).toInt ≤ 31000000 := by
  have ok := pq_ok hI hp
  have e := pf_n (s := s) (t := t) st.2.2.2.2.2.2.2 hn
  rw [← e] at h9 ⊢
  exact bi_b ⟨ok.1, ok.1 _ (by omega)⟩ h.1 hv h9
theorem ci_m {s t : GS} {x : Int} (h : CI s x t) : mq s x t ≤ 3200000000 := by
  obtain ⟨⟨-, τ, t1, -⟩, -⟩ := h
  have := t1 0 (by omega)
  unfold mq
  omega
theorem ci_ch {s t : GS} {x : Int} {v u0 : Nat} {w : Int} {z : Int64} {b : Int32} (hI : Inv s) (hp : CP s) (hx0 : 0 ≤ x) (hx : x < 32) (st : SQ s t) (h : CI s x t) (hr : RQf s (s.2.1 147) u0 v w) (hu : pf t u0 < 9000000000000000) (hz : z.toInt = pf t u0 + w) (hlt : z.toInt < (t.2.1 149 v).toInt) (hb : 0 ≤ b.toInt)
    (e3 : bf (sI (sL t 149 v z) 148 v b) v = u0) (e5 : wq (sI (sL t 149 v z) 148 v b) v = w) (hq : BQ s (sI (sL t 149 v z) 148 v b) v) : CI s x (sI (sL t 149 v z) 148 v b) ∧ mq s x (sI (sL t 149 v z) 148 v b) < mq s x t := by
  obtain ⟨h1, h2, h3, h4⟩ := h
  have ok := pq_ok hI hp
  have hn := rq_n hI hr
  have hst : t.2.2.1 109 20 = s.2.2.1 109 20 := st.2.2.2.2.2.2.2
  have hpfv : pf t v = (t.2.1 149 v).toInt := pf_n hst hn.2.1.2
  have hpb : PB2 (pq s) (pq s x.toNat) := ⟨ok.1, ok.1 _ (by omega)⟩
  have bu := bi_b hpb h1 hn.1.1 hu
  have q1 : (sI (sL t 149 v z) 148 v b).2.1 149 = vp_updL (t.2.1 149) v z := by simp [sI, sL]
  have q2 : (sI (sL t 149 v z) 148 v b).1 148 = upd (t.1 148) v b := sI_q
  have f3 : (sI (sL t 149 v z) 148 v b).1 113 = t.1 113 := sI_p rfl
  have f4 : (sI (sL t 149 v z) 148 v b).1 114 = t.1 114 := sI_p rfl
  have f5 : (sI (sL t 149 v z) 148 v b).1 115 = t.1 115 := sI_p rfl
  have fg : (sI (sL t 149 v z) 148 v b).2.2.1 = t.2.2.1 := rfl
  generalize sI (sL t 149 v z) 148 v b = U at e3 e5 hq q1 q2 f3 f4 f5 fg ⊢
  have ub : ∀ y, y ≠ v → U.1 148 y = t.1 148 y := by
    intro y hy
    rw [q2]; unfold upd; rw [if_neg hy]
  have ubv : U.1 148 v = b := by rw [q2]; unfold upd; rw [if_pos rfl]
  have e1 : pf U v = z.toInt := by
    unfold pf
    rw [fg, hst, if_pos hn.2.1.2, q1, ul_eq]
  have e2 : ∀ y, y < 32 → y ≠ v → pf U y = pf t y := by
    intro y _ hy
    unfold pf
    rw [fg, q1, ul_ne hy]
  have e4 : ∀ y, y < 32 → y ≠ v → bf U y = bf t y := by
    intro y _ hy
    unfold bf bs
    rw [fg, f3, f4, ub y hy]
  have e6 : ∀ y, y < 32 → y ≠ v → wq U y = wq t y := by
    intro y _ hy
    unfold wq ar bs
    rw [fg, f5, ub y hy]
  obtain ⟨k1, k2⟩ := bi_relax (rq_b hI) ok.2 hpb h1 hr hu (by rw [hpfv, ← hz]; exact hlt) (by rw [e1, hz]) e2 e3 e4 e5 e6
  refine ⟨⟨k1, ?_, fun y hy hyn => ?_, fun y hy hyn hyx hk => ?_⟩, k2⟩
  · by_cases c : x.toNat = v
    · have k3 := (k1.1 v hn.2.1.1 (by rw [e1]; omega)).1
      rw [c] at k3 h2
      rw [e1] at k3
      rw [hpfv] at h2
      omega
    · rw [e2 _ (by omega) c]; exact h2
  · by_cases c : y = v
    · rw [c, ubv, q1, ul_eq]
      exact ⟨fun _ => by omega, fun _ => hb⟩
    · rw [ub y c, q1, ul_ne c]
      exact h3 y hy hyn
  · by_cases c : y = v
    · rw [c]; exact hq
    · have k := h4 y hy hyn hyx (by rw [← ub y c]; exact hk)
      unfold BQ at k ⊢
      rw [ub y c]; exact k
theorem ci_fw {s t : GS} {x : Int} {y a f w g : Int32} {p z wl : Int64} (hI : Inv s) (hp : CP s) (hx0 : 0 ≤ x) (hx : x < 32) (st : SQ s t) (h : CI s x t) (ha : In a 0 159) (hy : y.toNatClampNeg = bs s + a.toNatClampNeg) (hth : (s.1 112 y.toNatClampNeg).toInt ≠ 0) (hfl : (t.2.1 147 a.toNatClampNeg).toInt < (t.1 116 y.toNatClampNeg).toInt)
    (ef : f = t.1 113 y.toNatClampNeg) (eg : g = t.1 114 y.toNatClampNeg) (ew : w = t.1 115 y.toNatClampNeg) (ep : p = t.2.1 149 f.toNatClampNeg) (hp9 : p.toInt < 9000000000000000) (ez : z = p + wl) (el : wl.toInt = w.toInt) (hlt : z.toInt < (t.2.1 149 g.toNatClampNeg).toInt) : CI s x (sI (sL t 149 g.toNatClampNeg z) 148 g.toNatClampNeg a) ∧ mq s x (sI (sL t 149 g.toNatClampNeg z) 148 g.toNatClampNeg a) < mq s x t := by
  obtain ⟨s2, s3, s4, s5, s6, s7, s8, s9⟩ := id st
  obtain ⟨a1, a2⟩ := ha
  have ea : a.toNatClampNeg = a.toInt.toNat := rfl
  have bt := sq_bs st
  rw [hy] at hth hfl ef eg ew
  rw [s3] at ef
  rw [s4] at eg
  rw [s5] at ew
  rw [s6, s7] at hfl
  have hr : RQf s (s.2.1 147) f.toNatClampNeg g.toNatClampNeg w.toInt := ⟨a.toNatClampNeg, by omega, hth, Or.inl ⟨hfl, by rw [ef], by rw [eg], by rw [ew]⟩⟩
  have hn := rq_n hI hr
  have hu : pf t f.toNatClampNeg = p.toInt := by rw [pf_n s9 hn.1.2, ep]
  have hb := ci_b hI hp hx st h hn.1.1 hn.1.2 (by rw [← ep]; exact hp9)
  rw [← ep] at hb
  have hz : z.toInt = p.toInt + w.toInt := by rw [ladd_t ez (by omega) (by omega), el]
  have q2 : (sI (sL t 149 g.toNatClampNeg z) 148 g.toNatClampNeg a).1 148 g.toNatClampNeg = a := by rw [sI_q]; unfold upd; rw [if_pos rfl]
  have f3 : (sI (sL t 149 g.toNatClampNeg z) 148 g.toNatClampNeg a).1 113 = s.1 113 := (sI_p rfl).trans s3
  have f5 : (sI (sL t 149 g.toNatClampNeg z) 148 g.toNatClampNeg a).1 115 = s.1 115 := (sI_p rfl).trans s5
  have fb : bs (sI (sL t 149 g.toNatClampNeg z) 148 g.toNatClampNeg a) = bs s := bt
  have ar0 : ar (sI (sL t 149 g.toNatClampNeg z) 148 g.toNatClampNeg a) g.toNatClampNeg = a.toNatClampNeg := by
    unfold ar
    rw [q2, if_neg (by omega)]
    rfl
  refine ci_ch hI hp hx0 hx st h hr (by rw [hu]; exact hp9) (by rw [hu]; exact hz) hlt a1 ?_ ?_ ?_
  · unfold bf
    rw [q2, if_neg (by omega), f3, fb, ef]
    rfl
  · unfold wq
    rw [q2, if_neg (by omega), f5, fb, ar0, ew]
  · exact ⟨a.toNatClampNeg, by omega, hth, Or.inl ⟨by rw [q2]; omega, by rw [eg], hfl⟩⟩
theorem ci_bw {s t : GS} {x : Int} {y a b f w g : Int32} {p z wl : Int64} (hI : Inv s) (hp : CP s) (hx0 : 0 ≤ x) (hx : x < 32) (st : SQ s t) (h : CI s x t) (ha : In a 0 159) (hb : b.toInt = 200 + a.toInt) (hy : y.toNatClampNeg = bs s + a.toNatClampNeg) (hth : (s.1 112 y.toNatClampNeg).toInt ≠ 0) (hfl : 0 < (t.2.1 147 a.toNatClampNeg).toInt)
    (ef : f = t.1 114 y.toNatClampNeg) (eg : g = t.1 113 y.toNatClampNeg) (ew : w = t.1 115 y.toNatClampNeg) (ep : p = t.2.1 149 f.toNatClampNeg) (hp9 : p.toInt < 9000000000000000) (ez : z = p - wl) (el : wl.toInt = w.toInt) (hlt : z.toInt < (t.2.1 149 g.toNatClampNeg).toInt) : CI s x (sI (sL t 149 g.toNatClampNeg z) 148 g.toNatClampNeg b) ∧ mq s x (sI (sL t 149 g.toNatClampNeg z) 148 g.toNatClampNeg b) < mq s x t := by
  obtain ⟨s2, s3, s4, s5, s6, s7, s8, s9⟩ := id st
  obtain ⟨a1, a2⟩ := ha
  have ea : a.toNatClampNeg = a.toInt.toNat := rfl
  have bt := sq_bs st
  rw [hy] at hth ef eg ew
  rw [s4] at ef
  rw [s3] at eg
  rw [s5] at ew
  rw [s7] at hfl
  have hr : RQf s (s.2.1 147) f.toNatClampNeg g.toNatClampNeg (-w.toInt) := ⟨a.toNatClampNeg, by omega, hth, Or.inr ⟨hfl, by rw [ef], by rw [eg], by rw [ew]⟩⟩
  have hn := rq_n hI hr
  have hu : pf t f.toNatClampNeg = p.toInt := by rw [pf_n s9 hn.1.2, ep]
  have hbd := ci_b hI hp hx st h hn.1.1 hn.1.2 (by rw [← ep]; exact hp9)
  rw [← ep] at hbd
  have hz : z.toInt = p.toInt - w.toInt := by rw [lsub_t ez (by omega) (by omega), el]
  have q2 : (sI (sL t 149 g.toNatClampNeg z) 148 g.toNatClampNeg b).1 148 g.toNatClampNeg = b := by rw [sI_q]; unfold upd; rw [if_pos rfl]
  have f4 : (sI (sL t 149 g.toNatClampNeg z) 148 g.toNatClampNeg b).1 114 = s.1 114 := (sI_p rfl).trans s4
  have f5 : (sI (sL t 149 g.toNatClampNeg z) 148 g.toNatClampNeg b).1 115 = s.1 115 := (sI_p rfl).trans s5
  have fb : bs (sI (sL t 149 g.toNatClampNeg z) 148 g.toNatClampNeg b) = bs s := bt
  have ar0 : ar (sI (sL t 149 g.toNatClampNeg z) 148 g.toNatClampNeg b) g.toNatClampNeg = a.toNatClampNeg := by
    unfold ar
    rw [q2, if_pos (by omega)]
    omega
  refine ci_ch hI hp hx0 hx st h hr (by rw [hu]; exact hp9) (by rw [hu]; omega) hlt (by omega) ?_ ?_ ?_
  · unfold bf
    rw [q2, if_pos (by omega), f4, fb, ef, show (b.toInt - 200).toNat = a.toNatClampNeg by omega]
  · unfold wq
    rw [q2, if_pos (by omega), f5, fb, ar0, ew]
  · exact ⟨a.toNatClampNeg, by omega, hth, Or.inr ⟨by rw [q2]; omega, by rw [eg], hfl⟩⟩
/-- rounds: closed for the first k arcs where nothing has changed -/
def FWQ (s t : GS) (a : Nat) : Prop := (s.2.1 147 a).toInt < (s.1 116 (bs s + a)).toInt → (t.2.1 149 (s.1 113 (bs s + a)).toNatClampNeg).toInt < 9000000000000000 → (t.2.1 149 (s.1 114 (bs s + a)).toNatClampNeg).toInt ≤ (t.2.1 149 (s.1 113 (bs s + a)).toNatClampNeg).toInt + (s.1 115 (bs s + a)).toInt
def BWQ (s t : GS) (a : Nat) : Prop := 0 < (s.2.1 147 a).toInt → (t.2.1 149 (s.1 114 (bs s + a)).toNatClampNeg).toInt < 9000000000000000 → (t.2.1 149 (s.1 113 (bs s + a)).toNatClampNeg).toInt ≤ (t.2.1 149 (s.1 114 (bs s + a)).toNatClampNeg).toInt - (s.1 115 (bs s + a)).toInt
def CLQ (s t : GS) (k : Nat) : Prop := ∀ a, a < k → (s.1 112 (bs s + a)).toInt ≠ 0 → FWQ s t a ∧ BWQ s t a
def WK (s : GS) (x : Int) (M : Nat) (t : GS) (mo : Int) (k : Nat) : Prop := CI s x t ∧ mq s x t ≤ M ∧ (mo ≠ 0 → mq s x t < M) ∧ (mo = 0 → CLQ s t k)
theorem wk_0 {s t : GS} {x : Int} (h : CI s x t) : WK s x (mq s x t) t 0 0 := ⟨h, Nat.le_refl _, fun z => absurd rfl z, fun _ a ha => absurd ha (Nat.not_lt_zero _)⟩
theorem wk_no {s t : GS} {x mo : Int} {M a : Nat} (h : WK s x M t mo a) (ht : (s.1 112 (bs s + a)).toInt = 0) : WK s x M t mo (a + 1) := by
  refine ⟨h.1, h.2.1, h.2.2.1, fun z k hk hth => ?_⟩
  by_cases c : k = a
  · rw [c] at hth; exact absurd ht hth
  · exact h.2.2.2 z k (by omega) hth
theorem wk_bw {s t : GS} {x mo : Int} {M a : Nat} (h : WK s x M t mo a) (hf : mo = 0 → FWQ s t a) (hb : BWQ s t a) : WK s x M t mo (a + 1) := by
  refine ⟨h.1, h.2.1, h.2.2.1, fun z k hk hth => ?_⟩
  by_cases c : k = a
  · rw [c]; exact ⟨hf z, hb⟩
  · exact h.2.2.2 z k (by omega) hth
theorem wk_ch {s t u : GS} {x mo : Int} {M a : Nat} (h : WK s x M t mo a) (hc : CI s x u ∧ mq s x u < mq s x t) (k : Nat) : WK s x M u 1 k := by
  have := h.2.1
  exact ⟨hc.1, by omega, fun _ => by omega, fun z => by omega⟩
theorem fwq_i {s t : GS} {y a f w g : Int32} {p q z wl : Int64} {x : Int} (hI : Inv s) (hp : CP s) (hx : x < 32) (st : SQ s t) (h : CI s x t) (ha : In a 0 159) (hy : y.toNatClampNeg = bs s + a.toNatClampNeg) (hth : (s.1 112 y.toNatClampNeg).toInt ≠ 0)
    (ef : f = t.1 113 y.toNatClampNeg) (eg : g = t.1 114 y.toNatClampNeg) (ew : w = t.1 115 y.toNatClampNeg) (ep : p = t.2.1 149 f.toNatClampNeg) (hp9 : p.toInt < 9000000000000000) (ez : z = p + wl) (el : wl.toInt = w.toInt) (eq : q = t.2.1 149 g.toNatClampNeg) (hlt : q.toInt ≤ z.toInt) : FWQ s t a.toNatClampNeg := by
  intro hfl h9
  obtain ⟨s2, s3, s4, s5, s6, s7, s8, s9⟩ := id st
  obtain ⟨a1, a2⟩ := ha
  have ea : a.toNatClampNeg = a.toInt.toNat := rfl
  rw [hy] at hth ef eg ew
  rw [s3] at ef
  rw [s4] at eg
  rw [s5] at ew
  have hn := arc_n hI (show a.toNatClampNeg < 160 by omega) hth
  have n1 := nat_in hn.1.1 hn.1.2
  rw [← ef] at h9 n1 ⊢
  rw [← eg, ← ew, ← eq, ← ep]
  have hb := ci_b hI hp hx st h n1.1 n1.2 h9
  rw [← ep] at hb
  have hw : In (s.1 115 (bs s + a.toNatClampNeg)) (-1000000) 1000000 := by
    have hb : In (s.2.2.1 109 19) 0 160 := inv_F hI 0 160 rfl rfl
    obtain ⟨b1, b2⟩ := hb
    have eb : bs s = (s.2.2.1 109 19).toInt.toNat := rfl
    exact hI.1.1 115 (bs s + a.toNatClampNeg) (show bs s + a.toNatClampNeg < 480 by omega)
  rw [← ew] at hw
  obtain ⟨w1, w2⟩ := hw
  have hz : z.toInt = p.toInt + w.toInt := by rw [ladd_t ez (by omega) (by omega), el]
  omega
theorem bwq_i {s t : GS} {y a f w g : Int32} {p q z wl : Int64} {x : Int} (hI : Inv s) (hp : CP s) (hx : x < 32) (st : SQ s t) (h : CI s x t) (ha : In a 0 159) (hy : y.toNatClampNeg = bs s + a.toNatClampNeg) (hth : (s.1 112 y.toNatClampNeg).toInt ≠ 0)
    (ef : f = t.1 114 y.toNatClampNeg) (eg : g = t.1 113 y.toNatClampNeg) (ew : w = t.1 115 y.toNatClampNeg) (ep : p = t.2.1 149 f.toNatClampNeg) (hp9 : p.toInt < 9000000000000000) (ez : z = p - wl) (el : wl.toInt = w.toInt) (eq : q = t.2.1 149 g.toNatClampNeg) (hlt : q.toInt ≤ z.toInt) : BWQ s t a.toNatClampNeg := by
  intro hfl h9
  obtain ⟨s2, s3, s4, s5, s6, s7, s8, s9⟩ := id st
  obtain ⟨a1, a2⟩ := ha
  have ea : a.toNatClampNeg = a.toInt.toNat := rfl
  rw [hy] at hth ef eg ew
  rw [s4] at ef
  rw [s3] at eg
  rw [s5] at ew
  have hn := arc_n hI (show a.toNatClampNeg < 160 by omega) hth
  have n1 := nat_in hn.2.1.1 hn.2.1.2
  rw [← ef] at h9 n1 ⊢
  rw [← eg, ← ew, ← eq, ← ep]
  have hb := ci_b hI hp hx st h n1.1 n1.2 h9
  rw [← ep] at hb
  have hw : In (s.1 115 (bs s + a.toNatClampNeg)) (-1000000) 1000000 := by
    have hb : In (s.2.2.1 109 19) 0 160 := inv_F hI 0 160 rfl rfl
    obtain ⟨b1, b2⟩ := hb
    have eb : bs s = (s.2.2.1 109 19).toInt.toNat := rfl
    exact hI.1.1 115 (bs s + a.toNatClampNeg) (show bs s + a.toNatClampNeg < 480 by omega)
  rw [← ew] at hw
  obtain ⟨w1, w2⟩ := hw
  have hz : z.toInt = p.toInt - w.toInt := by rw [lsub_t ez (by omega) (by omega), el]
  omega
/-- where a way back is tight -/
def TGQ (s : GS) (x : Int) (f : Nat → Int64) (v : Nat) : Prop := ∃ (q : Nat → Int) (A : Nat → Prop), FE (RQf s f) q ∧ A v ∧ ∀ y, A y → (y : Int) ≠ x → A (bf s y) ∧ q y = q (bf s y) + wq s y
def CHE (t : GS) (x : Int) : Prop := SR t x ∧ (∀ v : Nat, v < 32 → (v : Int) < (t.2.2.1 109 20).toInt → (t.2.1 149 v).toInt < 9000000000000000 → 0 ≤ (t.1 148 v).toInt) ∧ ∀ g, ND t g → TGQ t x (t.2.1 147) g
theorem ci_0 {s t : GS} {x : Int32} (hI : Inv s) (hp : CP s) (hx : In x 0 31) (hxn : x.toInt < (s.2.2.1 109 20).toInt) (st : SQ s t) (h : ∀ k : Nat, (k : Int) < (s.2.2.1 109 20).toInt → (t.1 148 k).toInt < 0 ∧ (t.2.1 149 k).toInt = 9000000000000000) : CI s x.toInt (sI (sL t 149 x.toNatClampNeg (Int64.ofInt 0)) 148 x.toNatClampNeg (Int32.ofInt 1000)) := by
  have ok := pq_ok hI hp
  obtain ⟨x0, x1⟩ := hx
  have ex : x.toNatClampNeg = x.toInt.toNat := rfl
  have hst : t.2.2.1 109 20 = s.2.2.1 109 20 := st.2.2.2.2.2.2.2
  have q1 : (sI (sL t 149 x.toNatClampNeg (Int64.ofInt 0)) 148 x.toNatClampNeg (Int32.ofInt 1000)).2.1 149 = vp_updL (t.2.1 149) x.toNatClampNeg (Int64.ofInt 0) := by simp [sI, sL]
  have q2 : (sI (sL t 149 x.toNatClampNeg (Int64.ofInt 0)) 148 x.toNatClampNeg (Int32.ofInt 1000)).1 148 = upd (t.1 148) x.toNatClampNeg (Int32.ofInt 1000) := sI_q
  have fg : (sI (sL t 149 x.toNatClampNeg (Int64.ofInt 0)) 148 x.toNatClampNeg (Int32.ofInt 1000)).2.2.1 = t.2.2.1 := rfl
  generalize sI (sL t 149 x.toNatClampNeg (Int64.ofInt 0)) 148 x.toNatClampNeg (Int32.ofInt 1000) = U at q1 q2 fg ⊢
  have z0 : (Int64.ofInt 0).toInt = 0 := rfl
  have z1 : (Int32.ofInt 1000).toInt = 1000 := rfl
  have pu : ∀ v : Nat, pf U v < 9000000000000000 → v = x.toNatClampNeg := by
    intro v hv
    apply Classical.byContradiction
    intro c
    unfold pf at hv
    rw [fg, hst, q1, ul_ne c] at hv
    split at hv
    · rename_i k
      have := (h v k).2
      omega
    · omega
  have px : pf U x.toNatClampNeg = 0 := by
    unfold pf
    rw [fg, hst, q1, ul_eq, if_pos (by omega)]
    exact z0
  have hne : ∀ v : Nat, v ≠ x.toNatClampNeg → upd (t.1 148) x.toNatClampNeg (Int32.ofInt 1000) v = t.1 148 v := by
    intro v c
    unfold upd
    rw [if_neg c]
  refine ⟨bi_0 ⟨ok.1, ok.1 _ (by omega)⟩ (fun v hv hn => ?_), by rw [← ex]; exact px, fun v hv hn => ?_, fun v hv hn hne2 hk => ?_⟩
  · have e := pu v hn
    rw [e]
    exact ⟨by show ((x.toInt.toNat : Nat) : Int) = x.toInt; omega, px, by rw [ex]; exact Int.le_refl _⟩
  · by_cases c : v = x.toNatClampNeg
    · rw [c, q1, q2, ul_eq]
      unfold upd
      rw [if_pos rfl]
      exact ⟨fun _ => by omega, fun _ => by omega⟩
    · rw [q1, q2, ul_ne c, hne v c]
      have := h v hn
      constructor <;> intro <;> omega
  · exfalso
    have c : v ≠ x.toNatClampNeg := by intro e; apply hne2; rw [e, ex]; omega
    rw [q2, hne v c] at hk
    have := (h v hn).1
    omega
theorem che_e {s t : GS} {x : Int} {M : Nat} (hI : Inv s) (hp : CP s) (hx0 : 0 ≤ x) (hx : x < 32) (st : SQ s t) (h : WK s x M t 0 160) : CHE t x := by
  obtain ⟨hc, -, -, hcl⟩ := h
  have hcl := hcl rfl
  have ok := pq_ok hI hp
  have eR := rq_cg st (s.2.1 147)
  have hb := sq_bs st
  obtain ⟨s2, s3, s4, s5, s6, s7, s8, s9⟩ := id st
  obtain ⟨c1, c2, c3, c4⟩ := id hc
  obtain ⟨r, r1, r2⟩ := bi_rank ok.2 c1
  have fin : ∀ v : Nat, v < 32 → (v : Int) < (s.2.2.1 109 20).toInt → 0 ≤ (t.1 148 v).toInt → pf t v < 9000000000000000 := by
    intro v hv hn hk
    rw [pf_n s9 hn]
    exact (c3 v hv hn).mp hk
  have cl : ∀ u v w, RQf s (s.2.1 147) u v w → pf t u < 9000000000000000 → pf t v ≤ pf t u + w ∧ pf t v < 9000000000000000 := by
    intro u v w hr hu
    have hn := rq_n hI hr
    have eu := pf_n (t := t) s9 hn.1.2
    have ev := pf_n (t := t) s9 hn.2.1.2
    rw [eu] at hu
    have b := ci_b hI hp hx st hc hn.1.1 hn.1.2 hu
    rw [eu, ev]
    have key : (t.2.1 149 v).toInt ≤ (t.2.1 149 u).toInt + w := by
      obtain ⟨a, ha, ht, q⟩ := hr
      have q2 := hcl a ha ht
      rcases q with ⟨q3, q4, q5, q6⟩ | ⟨q3, q4, q5, q6⟩
      · have q7 := q2.1 q3
        rw [q4, q5] at q7
        have := q7 hu
        omega
      · have q7 := q2.2 q3
        rw [q4, q5] at q7
        have := q7 hu
        omega
    exact ⟨key, by omega⟩
  refine ⟨⟨r, fun v hv _ => r1 v hv, fun v hv hn hvx hk => ?_⟩, fun v hv hn h9 => ?_, fun g hg => ?_⟩
  · rw [s9] at hn
    obtain ⟨q1, q2, q3, q4, q5⟩ := r2 v hv (fin v hv hn hk) hvx
    have hn2 := rq_n hI q2
    have hk2 : 0 ≤ (t.1 148 (bf t v)).toInt := by
      rw [pf_n s9 hn2.1.2] at q3
      exact (c3 _ q1 hn2.1.2).mpr q3
    obtain ⟨a, ha, ht, e⟩ := c4 v hv hn hvx hk
    refine ⟨a, ha, ?_⟩
    unfold EF EB
    rw [s2, s3, s4, s6, s7, hb]
    rcases e with ⟨e1, e2, e3⟩ | ⟨e1, e2, e3⟩
    · have eb : bf t v = (s.1 113 (bs s + a)).toNatClampNeg := by unfold bf; rw [if_neg (by omega), s3, hb, show (t.1 148 v).toInt.toNat = a by omega]
      rw [eb] at q4 hk2
      exact Or.inl ⟨e1, ht, e2, hk2, q4, e3⟩
    · have eb : bf t v = (s.1 114 (bs s + a)).toNatClampNeg := by unfold bf; rw [if_pos (by omega), s4, hb, show ((t.1 148 v).toInt - 200).toNat = a by omega]
      rw [eb] at q4 hk2
      exact Or.inr ⟨e1, ht, e2, hk2, q4, e3⟩
  · rw [s9] at hn
    exact (c3 v hv hn).mpr h9
  · obtain ⟨g1, g2, g3⟩ := hg
    rw [s9] at g2
    obtain ⟨q, p1, p2⟩ := bi_pi (c := pq s x.toNat) (p := pf t) ok.2 (fun u v w hr hu => (cl u v w hr hu).1) (fun u v w hr hu => (cl u v w hr hu).2) (g := g)
    rw [s7]
    refine ⟨q, fun y => y < 32 ∧ pf t y < 9000000000000000 ∧ pf t y - pq s y ≤ pf t g - pq s g, by rw [eR]; exact p1, ⟨g1, fin g g1 g2 g3, Int.le_refl _⟩, fun y hy hyx => ?_⟩
    obtain ⟨y1, y2, y3⟩ := hy
    obtain ⟨q1, q2, q3, q4, q5⟩ := r2 y y1 y2 hyx
    have f := ok.2 _ _ _ q2
    have e := (cl _ _ _ q2 q3).1
    refine ⟨⟨q1, q3, by omega⟩, ?_⟩
    rw [p2 y y2 y3, p2 _ q3 (by omega)]
    omega
/-- sends: the way back from the goal, first looked at, then filled -/
def BR (s : GS) (x : Int) (r : Nat → Nat) : Prop := (∀ v, v < 32 → 0 ≤ (s.1 148 v).toInt → r v < 32) ∧ ∀ v, ND s v → (v : Int) ≠ x → r (bf s v) < r v
noncomputable def rkb (f g : Nat → Nat → Int32) (x : Int) : Nat → Nat := Classical.epsilon (fun r : Nat → Nat => ∀ s : GS, s.1 = f → s.2.2.1 = g → BR s x r)
theorem br_ok {s : GS} {x : Int} (hI : Inv s) (h : SR s x) : BR s x (rkb s.1 s.2.2.1 x) := by
  obtain ⟨r, hr⟩ := h
  have h0 : BR s x r := ⟨hr.1, fun v hv hx => (ev_bf hI hr hv hx).2.2.1⟩
  have h1 : ∃ r : Nat → Nat, ∀ t : GS, t.1 = s.1 → t.2.2.1 = s.2.2.1 → BR t x r := by
    refine ⟨r, fun t e1 e2 => ⟨fun v hv hk => h0.1 v hv (by rw [← e1]; exact hk), fun v hv hx => ?_⟩⟩
    rw [bf_cg e1 e2]
    refine h0.2 v ?_ hx
    unfold ND at hv ⊢
    rw [← e1, ← e2]; exact hv
  exact Classical.epsilon_spec h1 s rfl rfl
theorem tgq_s {s : GS} {x m : Int} {f : Nat → Int64} {v : Nat} {w : Int64} (hI : Inv s) (hr : SR s x) (hv : ND s v) (hx : (v : Int) ≠ x) (hm : 1 ≤ m) (hw : w.toInt = (f (ar s v)).toInt + (if 200 ≤ (s.1 148 v).toInt then -m else m)) (h : TGQ s x f v) : TGQ s x (vp_updL f (ar s v) w) (bf s v) := by
  obtain ⟨r, hr⟩ := hr
  obtain ⟨q1, q2, q3, q4, q5, q6, q7⟩ := ev_bf hI hr hv hx
  obtain ⟨p, A, h1, h2, h3⟩ := h
  obtain ⟨h4, h5⟩ := h3 v h2 hx
  refine ⟨p, A, fun a b c hq => ?_, h4, h3⟩
  obtain ⟨k, k1, k2, k3⟩ := hq
  by_cases e : k = ar s v
  · rw [e, ul_eq] at k3
    rw [e] at k1 k2
    unfold wq at h5
    rcases q7 with q7 | q7
    · rw [if_pos q7.1] at hw h5
      rcases k3 with ⟨g1, g2, g3, g4⟩ | ⟨g1, g2, g3, g4⟩
      · rw [q7.2.1] at g2
        rw [q7.2.2] at g3
        rw [← g2, ← g3]; omega
      · exact h1 a b c ⟨ar s v, k1, k2, Or.inr ⟨by omega, g2, g3, g4⟩⟩
    · rw [if_neg (by omega)] at hw h5
      rcases k3 with ⟨g1, g2, g3, g4⟩ | ⟨g1, g2, g3, g4⟩
      · exact h1 a b c ⟨ar s v, k1, k2, Or.inl ⟨by omega, g2, g3, g4⟩⟩
      · rw [q7.2.1] at g2
        rw [q7.2.2] at g3
        rw [← g2, ← g3]; omega
  · rw [ul_ne e] at k3
    exact h1 a b c ⟨k, k1, k2, k3⟩
def CO (s : GS) : Prop := FB s (s.2.1 147) ∧ CP s
theorem co_cg {s t : GS} (h : CO s) (st : SQ s t) : CO t := by
  obtain ⟨h1, q, h2⟩ := h
  obtain ⟨s2, s3, s4, s5, s6, s7, s8, s9⟩ := id st
  refine ⟨by rw [s7]; exact FB_cg h1 s2 s6 s8, q, ?_⟩
  rw [rq_cg st, s7]; exact h2
def PL (S : GS) (x m : Int) (g v : Nat) : Prop := ∃ s0 : GS, Inv s0 ∧ S.1 = s0.1 ∧ S.2.2.1 = s0.2.2.1 ∧ SR s0 x ∧ PBW s0 x m g (S.2.1 147) v ∧ TGQ s0 x (S.2.1 147) v
theorem pl_0 {S : GS} {x m : Int} {g k v : Nat} (hI : Inv S) (hc : CHE S x) (hf : FB S (S.2.1 147)) (h : WY S x m g k) (hv : v = it S g k) (hx : (v : Int) = x) (hg : (g : Int) ≠ x) (hn : ND S g) : PL S x m g g := ⟨S, hI, rfl, rfl, hc.1, pbw_0 h hv hx hg hf, hc.2.2 g hn⟩
theorem pl_s {S W : GS} {x m : Int} {g v z : Nat} (h : PL S x m g v) (hx : (v : Int) ≠ x) (hm1 : 1 ≤ m) (hm2 : m ≤ 1000000000) (hp : PU S W v m) (hz : z = bf S v) (e1 : W.1 = S.1) (e2 : W.2.2.1 = S.2.2.1) : PL W x m g z := by
  obtain ⟨s0, hI, h1, h2, hr, hb, ht⟩ := h
  have hb2 := pbw_pu hI hr h1 h2 hb hx hm1 hm2 hp hz
  obtain ⟨y, p1, p2⟩ := hp
  have hnd := pbw_nd hb hx
  obtain ⟨r, hr2⟩ := id hr
  obtain ⟨q1, q2, q3, q4, q5, q6, q7⟩ := ev_bf hI hr2 hnd hx
  have hfb := pbw_fb hb (ar s0 v) q5 q6
  have hn := (arc_n hI q5 q6).2.2.2
  have p3 := p2 (by unfold FO; rw [ar_cg h1]; exact ⟨by omega, by omega⟩) (by omega) hm2
  rw [ar_cg h1, h1] at p3
  have ht2 := tgq_s hI hr hnd hx hm1 p3 ht
  refine ⟨s0, hI, e1.trans h1, e2.trans h2, hr, hb2, ?_⟩
  rw [p1, ar_cg h1, hz, bf_cg h1 h2]
  exact ht2
theorem pl_i {S : GS} {x m : Int} {g v : Nat} (h : PL S x m g v) (hx : (v : Int) ≠ x) : BE S v ∧ rkb S.1 S.2.2.1 x (bf S v) < rkb S.1 S.2.2.1 x v := by
  obtain ⟨s0, hI, h1, h2, hr, hb, ht⟩ := h
  have hnd := pbw_nd hb hx
  obtain ⟨r, hr2⟩ := id hr
  have q := ev_bf hI hr2 hnd hx
  refine ⟨be_cg h1 q.1, ?_⟩
  rw [bf_cg h1 h2, h1, h2]
  exact (br_ok hI hr).2 v hnd hx
theorem pl_e {S : GS} {x m : Int} {g v : Nat} (h : PL S x m g v) (hx : (v : Int) = x) : CO S := by
  obtain ⟨s0, hI, h1, h2, hr, hb, q, A, ht, -⟩ := h
  refine ⟨FB_cg (pbw_e hb hx).1 (by rw [h1]) (by rw [h1]) (by rw [h2]), q, ?_⟩
  have e : RQf S (S.2.1 147) = RQf s0 (S.2.1 147) := by
    funext a b c
    unfold RQf bs
    rw [h1, h2]
  rw [e]; exact ht
/-- what is to be sent on -/
def SB (B : Int) (s : GS) (f : Nat → Int64) : Prop := ∀ v : Nat, v < 32 → (v : Int) < (s.2.2.1 109 20).toInt → -B ≤ (f v).toInt ∧ (f v).toInt ≤ B
def SU (s : GS) : Prop := SB 600000000 s (s.2.1 150)
def MO (s : GS) (x g : Nat) (m : Int) : Prop := 1 ≤ m ∧ m ≤ (s.2.1 150 x).toInt ∧ m ≤ -(s.2.1 150 g).toInt ∧ m ≤ 600000000
theorem lneg_t {y z : Int64} (hz : z = -y) (h1 : -4000000000000000000 ≤ y.toInt) (h2 : y.toInt ≤ 4000000000000000000) : z.toInt = -y.toInt := by
  rw [hz, Int64.toInt_neg]
  exact Int.bmod_eq_of_le (by omega) (by omega)
theorem mo_1 {s : GS} {x g : Int32} {a b nb z : Int64} (hs : SU s) (hx : In x 0 31) (hg : In g 0 31) (hxn : x.toInt < (s.2.2.1 109 20).toInt) (hgn : g.toInt < (s.2.2.1 109 20).toInt) (hp : 0 < (s.2.1 150 x.toNatClampNeg).toInt) (ha : a = s.2.1 150 x.toNatClampNeg) (hb : b = s.2.1 150 g.toNatClampNeg) (hn : nb = -b) (hz : z = s.2.1 150 x.toNatClampNeg) (hlt : a.toInt < nb.toInt) : MO s x.toNatClampNeg g.toNatClampNeg z.toInt := by
  have n1 := nat_in hx hxn
  have n2 := nat_in hg hgn
  have h1 := hs _ n1.1 n1.2
  have h2 := hs _ n2.1 n2.2
  have h3 := lneg_t hn (by rw [hb]; omega) (by rw [hb]; omega)
  rw [ha, h3, hb] at hlt
  rw [hz]
  exact ⟨by omega, by omega, by omega, by omega⟩
theorem mo_2 {s : GS} {x g : Int32} {a b b2 nb z : Int64} (hs : SU s) (hx : In x 0 31) (hg : In g 0 31) (hxn : x.toInt < (s.2.2.1 109 20).toInt) (hgn : g.toInt < (s.2.2.1 109 20).toInt) (hp : (s.2.1 150 g.toNatClampNeg).toInt < 0) (ha : a = s.2.1 150 x.toNatClampNeg) (hb : b = s.2.1 150 g.toNatClampNeg) (hn : nb = -b) (hb2 : b2 = s.2.1 150 g.toNatClampNeg) (hz : z = -b2) (hlt : nb.toInt ≤ a.toInt) : MO s x.toNatClampNeg g.toNatClampNeg z.toInt := by
  have n1 := nat_in hx hxn
  have n2 := nat_in hg hgn
  have h1 := hs _ n1.1 n1.2
  have h2 := hs _ n2.1 n2.2
  have h3 := lneg_t hn (by rw [hb]; omega) (by rw [hb]; omega)
  have h4 := lneg_t hz (by rw [hb2]; omega) (by rw [hb2]; omega)
  rw [ha, h3, hb] at hlt
  rw [h4, hb2]
  exact ⟨by omega, by omega, by omega, by omega⟩
theorem gd_i {S s : GS} {x g : Int32} (hc : CHE S x.toInt) (hg : In g 0 31) (hx : In x 0 31) (hn : g.toInt < (S.2.2.1 109 20).toInt) (h2 : (S.2.1 150 g.toNatClampNeg).toInt < 0) (h3 : (S.2.1 149 g.toNatClampNeg).toInt < 9000000000000000) (hr : S.2.1 150 = s.2.1 150) (hp : 0 < (s.2.1 150 x.toNatClampNeg).toInt) : ND S g.toNatClampNeg ∧ (g.toNatClampNeg : Int) ≠ x.toInt := by
  have n1 := nat_in hg hn
  refine ⟨⟨n1.1, n1.2, hc.2.1 _ n1.1 n1.2 h3⟩, fun e => ?_⟩
  have e2 : g.toNatClampNeg = x.toNatClampNeg := by
    have ex : x.toNatClampNeg = x.toInt.toNat := rfl
    omega
  rw [hr, e2] at h2
  omega
theorem su_t {s T : GS} {x g : Nat} {a1 a2 z1 z2 m : Int64} (hs : SU s) (hx : x < 32) (hxn : (x : Int) < (s.2.2.1 109 20).toInt) (hg : g < 32) (hgn : (g : Int) < (s.2.2.1 109 20).toInt) (hne : g ≠ x) (hm : MO s x g m.toInt) (e1 : a1 = s.2.1 150 x) (e2 : z1 = a1 - m) (e3 : a2 = vp_updL (s.2.1 150) x z1 g) (e4 : z2 = a2 + m) (hT : T.2.1 150 = vp_updL (vp_updL (s.2.1 150) x z1) g z2) (hn : T.2.2.1 109 20 = s.2.2.1 109 20) : SU T ∧ (T.2.1 150 x).toInt < (s.2.1 150 x).toInt ∧ 0 ≤ (T.2.1 150 x).toInt := by
  have hx1 := hs x hx hxn
  have hg1 := hs g hg hgn
  obtain ⟨m1, m2, m3, m4⟩ := hm
  rw [ul_ne hne] at e3
  have t1 : z1.toInt = (s.2.1 150 x).toInt - m.toInt := by rw [lsub_t e2 (by rw [e1]; omega) (by rw [e1]; omega), e1]
  have t2 : z2.toInt = (s.2.1 150 g).toInt + m.toInt := by rw [ladd_t e4 (by rw [e3]; omega) (by rw [e3]; omega), e3]
  have tx : (T.2.1 150 x).toInt = z1.toInt := by rw [hT, ul_ne (fun e => hne e.symm), ul_eq]
  refine ⟨fun v hv hvn => ?_, by omega, by omega⟩
  rw [hn] at hvn
  rw [hT]
  by_cases c : v = g
  · rw [c, ul_eq]; constructor <;> omega
  · rw [ul_ne c]
    by_cases c2 : v = x
    · rw [c2, ul_eq]; constructor <;> omega
    · rw [ul_ne c2]; exact hs v hv hvn
/-- cost: arcs that earn are full -/
def IFQ (s : GS) (f : Nat → Int64) (k : Nat) : Prop := ∀ a, a < k → (s.1 112 (bs s + a)).toInt ≠ 0 → (f a).toInt = if (s.1 115 (bs s + a)).toInt < 0 then (s.1 116 (bs s + a)).toInt else 0
theorem ifq_s {s : GS} {f : Nat → Int64} {k : Nat} {w : Int64} (h : IFQ s f k) (hw : (s.1 112 (bs s + k)).toInt ≠ 0 → w.toInt = if (s.1 115 (bs s + k)).toInt < 0 then (s.1 116 (bs s + k)).toInt else 0) : IFQ s (vp_updL f k w) (k + 1) := by
  intro a ha ht
  by_cases c : a = k
  · rw [c, ul_eq]; rw [c] at ht; exact hw ht
  · rw [ul_ne c]; exact h a (by omega) ht
theorem co_0 {s t : GS} (hI : Inv s) (st : t.1 112 = s.1 112 ∧ t.1 113 = s.1 113 ∧ t.1 114 = s.1 114 ∧ t.1 115 = s.1 115 ∧ t.1 116 = s.1 116 ∧ t.2.2.1 109 19 = s.2.2.1 109 19) (h : IFQ s (t.2.1 147) 160) : CO t := by
  obtain ⟨s2, s3, s4, s5, s6, s8⟩ := st
  have hb : bs t = bs s := by unfold bs; rw [s8]
  refine ⟨FB_cg (s := s) (fun a ha ht => ?_) s2 s6 s8, fun _ => 0, fun u v w hr => ?_⟩
  · have e := h a ha ht
    obtain ⟨r1, r2⟩ := (arc_n hI ha ht).2.2
    rw [e]
    split <;> constructor <;> omega
  · obtain ⟨a, ha, ht, q⟩ := hr
    rw [s2, hb] at ht
    have e := h a ha ht
    rw [s3, s4, s5, s6, hb, e] at q
    dsimp only
    rcases q with ⟨q1, q2, q3, q4⟩ | ⟨q1, q2, q3, q4⟩
    · split at q1 <;> omega
    · split at q1 <;> omega
theorem sb_s {B C : Int} {s : GS} {f : Nat → Int64} {v : Nat} {w : Int64} (h : SB B s f) (hBC : B ≤ C) (hw : v < 32 → (v : Int) < (s.2.2.1 109 20).toInt → -C ≤ w.toInt ∧ w.toInt ≤ C) : SB C s (vp_updL f v w) := by
  intro x hx hn
  by_cases c : x = v
  · rw [c, ul_eq]; rw [c] at hx hn; exact hw hx hn
  · rw [ul_ne c]
    have := h x hx hn
    constructor <;> omega
theorem sb_w {B C : Int} {s : GS} {f : Nat → Int64} (h : SB B s f) (hBC : B ≤ C) : SB C s f := by
  intro x hx hn
  have := h x hx hn
  constructor <;> omega
theorem sb_2 {B : Int} {s : GS} {r : Nat → Int64} {f t : Nat} {a1 a2 z1 z2 w w1 w2 : Int64} (h : SB B s r) (hB0 : 0 ≤ B) (hB1 : B ≤ 1000000000) (hw : -1000000 ≤ w.toInt ∧ w.toInt ≤ 1000000) (e1 : a1 = r f) (e2 : z1 = a1 - w1) (ew1 : w1 = w) (e3 : a2 = vp_updL r f z1 t) (e4 : z2 = a2 + w2) (ew2 : w2 = w) : SB (B + 2000000) s (vp_updL (vp_updL r f z1) t z2) := by
  subst ew1
  subst ew2
  have h1 : SB (B + 1000000) s (vp_updL r f z1) := sb_s h (by omega) (fun hv hn => by
    have q := h f hv hn
    rw [← e1] at q
    rw [lsub_t e2 (by omega) (by omega)]
    constructor <;> omega)
  refine sb_s h1 (by omega) (fun hv hn => ?_)
  have q := h1 t hv hn
  rw [← e3] at q
  rw [ladd_t e4 (by omega) (by omega)]
  constructor <;> omega
end
section
/-! PAIRS OF THE REFERENCE -/
abbrev FSQ (s : GS) (v : Nat) : Prop := (s.1 111 (32 * (s.2.2.1 109 18).toNatClampNeg + v)).toInt < 13
abbrev nnq (s : GS) : Int := (s.2.2.1 109 20).toInt
def pwq (s : GS) (u v : Nat) : Int := (s.2.1 152 (32 * u + v)).toInt
def PWI (s : GS) : Prop := ∀ u v : Nat, u < 32 → v < 32 → pwq s u v < 9000000000000000 → (u : Int) < nnq s ∧ (v : Int) < nnq s ∧ FSQ s u ∧ ¬ FSQ s v ∧ -1000000 ≤ pwq s u v ∧ pwq s u v ≤ 1000000
/-- mates, where the second one e is in doubt -/
def MTQ (s : GS) (m : Nat → Int32) (e : Int) : Prop :=
  (∀ x : Nat, x < 32 → (x : Int) < nnq s → FSQ s x → 0 ≤ (m x).toInt → (m x).toInt ≠ e ∧ (m x).toNatClampNeg < 32 ∧ pwq s x (m x).toNatClampNeg < 9000000000000000 ∧ (m (m x).toNatClampNeg).toInt = (x : Int)) ∧
  (∀ y : Nat, y < 32 → (y : Int) < nnq s → ¬ FSQ s y → (y : Int) ≠ e → 0 ≤ (m y).toInt → (m y).toNatClampNeg < 32 ∧ ((m y).toNatClampNeg : Int) < nnq s ∧ FSQ s (m y).toNatClampNeg ∧ (m (m y).toNatClampNeg).toInt = (y : Int))
def RPQ (s : GS) (m : Nat → Int32) (u v : Nat) (w : Int) : Prop := u < 32 ∧ v < 32 ∧ ((pwq s u v < 9000000000000000 ∧ w = pwq s u v) ∨ ((v : Int) < nnq s ∧ FSQ s v ∧ (m v).toInt = (u : Int) ∧ pwq s v u < 9000000000000000 ∧ w = -pwq s v u))
theorem rp_b {s : GS} (h : PWI s) {m : Nat → Int32} : RB (RPQ s m) := by
  intro u v w hr
  obtain ⟨hu, hv, hr⟩ := hr
  rcases hr with ⟨h1, h2⟩ | ⟨-, -, -, h1, h2⟩
  · have q := (h u v hu hv h1).2.2.2.2
    exact ⟨hu, hv, by omega, by omega⟩
  · have q := (h v u hv hu h1).2.2.2.2
    exact ⟨hu, hv, by omega, by omega⟩
def PP (s : GS) : Prop := PWI s ∧ MTQ s (s.1 151) (-1) ∧ ∃ pi : Nat → Int, FE (RPQ s (s.1 151)) pi
noncomputable def pqp (s : GS) : Nat → Int := Classical.epsilon (fun q : Nat → Int => (∀ v, v < 32 → 0 ≤ q v ∧ q v ≤ 32000000) ∧ FE (RPQ s (s.1 151)) q)
theorem pqp_ok {s : GS} (h : PP s) : (∀ v, v < 32 → 0 ≤ pqp s v ∧ pqp s v ≤ 32000000) ∧ FE (RPQ s (s.1 151)) (pqp s) := by
  obtain ⟨hW, -, pi, hf⟩ := h
  exact Classical.epsilon_spec (squeezeI (rp_b hW) hf)
theorem pqp_2 {s : GS} (h : PP s) : PB2 (pqp s) 32000000 := ⟨(pqp_ok h).1, by omega, by omega⟩
def spq (s : GS) (v : Nat) : Prop := FSQ s v ∧ (s.1 151 v).toInt < 0
def pdp (s t : GS) (v : Nat) : Nat := if (s.1 111 (32 * (s.2.2.1 109 18).toNatClampNeg + v)).toInt < 13 then (s.1 151 v).toNatClampNeg else (t.1 148 v).toNatClampNeg
def wtp (s t : GS) (v : Nat) : Int := if (s.1 111 (32 * (s.2.2.1 109 18).toNatClampNeg + v)).toInt < 13 then -pwq s v (s.1 151 v).toNatClampNeg else pwq s (t.1 148 v).toNatClampNeg v
def CIP (s t : GS) : Prop := BI (RPQ s (s.1 151)) (pqp s) 32000000 (spq s) (pf t) (pdp s t) (wtp s t) ∧
  (∀ y : Nat, y < 32 → (y : Int) < nnq s → ¬ FSQ s y → 0 ≤ (s.1 151 y).toInt → (pf t y < 9000000000000000 → pf t (s.1 151 y).toNatClampNeg = pf t y - pwq s (s.1 151 y).toNatClampNeg y) ∧ (¬ pf t y < 9000000000000000 → ¬ pf t (s.1 151 y).toNatClampNeg < 9000000000000000)) ∧
  ∀ y : Nat, y < 32 → (y : Int) < nnq s → ¬ FSQ s y → pf t y < 9000000000000000 → 0 ≤ (t.1 148 y).toInt ∧ (t.1 148 y).toInt ≤ 31
noncomputable def mqp (s t : GS) : Nat := msr (pqp s) 32000000 (pf t)
theorem cip_m {s t : GS} (h : CIP s t) : mqp s t ≤ 3200000000 := by
  obtain ⟨⟨-, τ, t1, -⟩, -⟩ := h
  have := t1 0 (by omega)
  unfold mqp
  omega
theorem nat32 {y : Int32} (h : In y 0 31) : y.toNatClampNeg < 32 ∧ (y.toNatClampNeg : Int) = y.toInt := by
  have e : y.toNatClampNeg = y.toInt.toNat := rfl
  obtain ⟨a, b⟩ := h
  constructor <;> omega
theorem kp32 {k u v : Int32} (hk : In k 0 1023) (hu : u = k / Int32.ofInt 32) (hv : v = k - k / Int32.ofInt 32 * Int32.ofInt 32) : k.toNatClampNeg = 32 * u.toNatClampNeg + v.toNatClampNeg := by
  have h := t_div hu hk rfl
  obtain ⟨x1, x2⟩ := hk
  have e : (Int32.ofInt 32).toInt = 32 := rfl
  have e1 : (k / Int32.ofInt 32 * Int32.ofInt 32).toInt = 32 * (k.toInt / 32) := by
    rw [Int32.toInt_mul, ← hu, h, e, Int.mul_comm]
    exact Int.bmod_eq_of_le (by omega) (by omega)
  have e2 : v.toInt = k.toInt - 32 * (k.toInt / 32) := by
    rw [hv, Int32.toInt_sub, e1]
    exact Int.bmod_eq_of_le (by omega) (by omega)
  show k.toInt.toNat = 32 * u.toInt.toNat + v.toInt.toNat
  omega
theorem pfx {s t : GS} {v : Nat} (h : t.2.2.1 109 20 = s.2.2.1 109 20) (hv : (v : Int) < nnq s) : pf t v = (t.2.1 149 v).toInt := pf_n h hv
theorem cip_0 {s t : GS} (hP : PP s) (hn : t.2.2.1 109 20 = s.2.2.1 109 20) (h : ∀ k : Nat, (k : Int) < nnq s → (spq s k → (t.2.1 149 k).toInt = 0) ∧ (¬ spq s k → (t.2.1 149 k).toInt = 9000000000000000)) : CIP s t := by
  have fin : ∀ v : Nat, pf t v < 9000000000000000 → (v : Int) < nnq s ∧ spq s v ∧ pf t v = 0 := by
    intro v hv
    by_cases c : (v : Int) < nnq s
    · rw [pfx hn c] at hv ⊢
      by_cases c2 : spq s v
      · exact ⟨c, c2, (h v c).1 c2⟩
      · have := (h v c).2 c2
        omega
    · exfalso
      unfold pf at hv
      rw [hn, if_neg c] at hv
      omega
  refine ⟨bi_0 (pqp_2 hP) (fun v hv hq => ⟨(fin v hq).2.1, (fin v hq).2.2, ((pqp_ok hP).1 v hv).2⟩), fun y hy hyn hf hm => ⟨fun hq => absurd (fin y hq).2.1.1 hf, fun _ hq => ?_⟩, fun y hy hyn hf hq => absurd (fin y hq).2.1.1 hf⟩
  have a := (hP.2.1.2 y hy hyn hf (by omega) hm).2.2.2
  have b := (fin _ hq).2.1.2
  omega
/-- a change at v, by u -/
theorem cip_c {s t : GS} {k u v : Int32} {p w z : Int64} (hP : PP s) (hn : t.2.2.1 109 20 = s.2.2.1 109 20) (h : CIP s t) (hu : In u 0 31) (hv : In v 0 31) (hk : k.toNatClampNeg = 32 * u.toNatClampNeg + v.toNatClampNeg) (ew : w = s.2.1 152 k.toNatClampNeg) (hw9 : w.toInt < 9000000000000000) (ep : p = t.2.1 149 u.toNatClampNeg) (hp9 : p.toInt < 9000000000000000) (ez : z = p + w) (hlt : z.toInt < (t.2.1 149 v.toNatClampNeg).toInt) :
    BI (RPQ s (s.1 151)) (pqp s) 32000000 (spq s) (pf (sI (sL t 149 v.toNatClampNeg z) 148 v.toNatClampNeg u)) (pdp s (sI (sL t 149 v.toNatClampNeg z) 148 v.toNatClampNeg u)) (wtp s (sI (sL t 149 v.toNatClampNeg z) 148 v.toNatClampNeg u)) ∧ mqp s (sI (sL t 149 v.toNatClampNeg z) 148 v.toNatClampNeg u) < mqp s t ∧ pf (sI (sL t 149 v.toNatClampNeg z) 148 v.toNatClampNeg u) v.toNatClampNeg = z.toInt ∧ (∀ y, y ≠ v.toNatClampNeg → pf (sI (sL t 149 v.toNatClampNeg z) 148 v.toNatClampNeg u) y = pf t y) ∧ (-33000000 ≤ z.toInt ∧ z.toInt ≤ 32000000) ∧ z.toInt < pf t v.toNatClampNeg ∧ (v.toNatClampNeg : Int) < nnq s ∧ ¬ FSQ s v.toNatClampNeg := by
  have hpw : pwq s u.toNatClampNeg v.toNatClampNeg = w.toInt := by unfold pwq; rw [← hk, ew]
  have u32 := nat32 hu
  have v32 := nat32 hv
  obtain ⟨n1, n2, n3, n4, n5, n6⟩ := hP.1 _ _ u32.1 v32.1 (by rw [hpw]; exact hw9)
  rw [hpw] at n5 n6
  have eu := pfx (t := t) hn n1
  have ev := pfx (t := t) hn n2
  have hb := bi_b (pqp_2 hP) h.1 u32.1 (by rw [eu, ← ep]; exact hp9)
  rw [eu, ← ep] at hb
  have hz : z.toInt = p.toInt + w.toInt := ladd_t ez (by omega) (by omega)
  have q1 : (sI (sL t 149 v.toNatClampNeg z) 148 v.toNatClampNeg u).2.1 149 = vp_updL (t.2.1 149) v.toNatClampNeg z := by simp [sI, sL]
  have q2 : (sI (sL t 149 v.toNatClampNeg z) 148 v.toNatClampNeg u).1 148 = upd (t.1 148) v.toNatClampNeg u := sI_q
  have fg : (sI (sL t 149 v.toNatClampNeg z) 148 v.toNatClampNeg u).2.2.1 = t.2.2.1 := rfl
  unfold mqp
  generalize sI (sL t 149 v.toNatClampNeg z) 148 v.toNatClampNeg u = U at q1 q2 fg ⊢
  have e1 : pf U v.toNatClampNeg = z.toInt := by
    unfold pf
    rw [fg, hn, if_pos n2, q1, ul_eq]
  have e2 : ∀ y, y ≠ v.toNatClampNeg → pf U y = pf t y := by
    intro y hy
    unfold pf
    rw [fg, q1, ul_ne hy]
  have ub : ∀ y, y ≠ v.toNatClampNeg → U.1 148 y = t.1 148 y := by
    intro y hy
    rw [q2]; unfold upd; rw [if_neg hy]
  have ubv : U.1 148 v.toNatClampNeg = u := by rw [q2]; unfold upd; rw [if_pos rfl]
  have hr : RPQ s (s.1 151) u.toNatClampNeg v.toNatClampNeg w.toInt := ⟨u32.1, v32.1, Or.inl ⟨by rw [hpw]; exact hw9, hpw.symm⟩⟩
  obtain ⟨k1, k2⟩ := bi_relax (p2 := pf U) (pd2 := pdp s U) (wt2 := wtp s U) (rp_b hP.1) (pqp_ok hP).2 (pqp_2 hP) h.1 hr (by rw [eu, ← ep]; exact hp9) (by rw [eu, ev, ← ep, ← hz]; exact hlt) (by rw [e1, eu, ← ep]; exact hz) (fun y _ hy => e2 y hy)
    (by unfold pdp; rw [if_neg n4, ubv]) (fun y _ hy => by unfold pdp; rw [ub y hy]) (by unfold wtp; rw [if_neg n4, ubv]; exact hpw) (fun y _ hy => by unfold wtp; rw [ub y hy])
  exact ⟨k1, k2, e1, e2, ⟨by omega, by omega⟩, by rw [ev]; exact hlt, n2, n4⟩
theorem cip_1 {s t : GS} {k u v : Int32} {p w z : Int64} (hP : PP s) (hn : t.2.2.1 109 20 = s.2.2.1 109 20) (h : CIP s t) (hu : In u 0 31) (hv : In v 0 31) (hk : k.toNatClampNeg = 32 * u.toNatClampNeg + v.toNatClampNeg) (ew : w = s.2.1 152 k.toNatClampNeg) (hw9 : w.toInt < 9000000000000000) (ep : p = t.2.1 149 u.toNatClampNeg) (hp9 : p.toInt < 9000000000000000) (ez : z = p + w) (hlt : z.toInt < (t.2.1 149 v.toNatClampNeg).toInt) (hm : (s.1 151 v.toNatClampNeg).toInt < 0) :
    CIP s (sI (sL t 149 v.toNatClampNeg z) 148 v.toNatClampNeg u) ∧ mqp s (sI (sL t 149 v.toNatClampNeg z) 148 v.toNatClampNeg u) < mqp s t := by
  obtain ⟨k1, k2, k3, k4, k5, k6, k7, k8⟩ := cip_c hP hn h hu hv hk ew hw9 ep hp9 ez hlt
  obtain ⟨-, h2, h3⟩ := h
  have q2 : (sI (sL t 149 v.toNatClampNeg z) 148 v.toNatClampNeg u).1 148 = upd (t.1 148) v.toNatClampNeg u := sI_q
  generalize sI (sL t 149 v.toNatClampNeg z) 148 v.toNatClampNeg u = U at q2 k1 k2 k3 k4 ⊢
  refine ⟨⟨k1, fun y hy hyn hf hq => ?_, fun y hy hyn hf hq => ?_⟩, k2⟩
  · have c : y ≠ v.toNatClampNeg := by intro e; rw [e] at hq; omega
    have a := hP.2.1.2 y hy hyn hf (by omega) hq
    have c2 : (s.1 151 y).toNatClampNeg ≠ v.toNatClampNeg := by intro e; rw [e] at a; exact k8 a.2.2.1
    rw [k4 y c, k4 _ c2]
    exact h2 y hy hyn hf hq
  · rw [q2]
    unfold upd
    by_cases c : y = v.toNatClampNeg
    · rw [if_pos c]; exact hu
    · rw [if_neg c]
      rw [k4 y c] at hq
      exact h3 y hy hyn hf hq
theorem cip_2 {s t : GS} {k u v : Int32} {p w z w2 z2 : Int64} {x : Nat} (hP : PP s) (hn : t.2.2.1 109 20 = s.2.2.1 109 20) (h : CIP s t) (hu : In u 0 31) (hv : In v 0 31) (hk : k.toNatClampNeg = 32 * u.toNatClampNeg + v.toNatClampNeg) (ew : w = s.2.1 152 k.toNatClampNeg) (hw9 : w.toInt < 9000000000000000) (ep : p = t.2.1 149 u.toNatClampNeg) (hp9 : p.toInt < 9000000000000000) (ez : z = p + w) (hlt : z.toInt < (t.2.1 149 v.toNatClampNeg).toInt) (hm : 0 ≤ (s.1 151 v.toNatClampNeg).toInt) (hx : x = (s.1 151 v.toNatClampNeg).toNatClampNeg) (ew2 : w2 = s.2.1 152 (32 * x + v.toNatClampNeg)) (ez2 : z2 = z - w2) :
    CIP s (sL (sI (sL t 149 v.toNatClampNeg z) 148 v.toNatClampNeg u) 149 x z2) ∧ mqp s (sL (sI (sL t 149 v.toNatClampNeg z) 148 v.toNatClampNeg u) 149 x z2) < mqp s t := by
  obtain ⟨k1, k2, k3, k4, k5, k6, k7, k8⟩ := cip_c hP hn h hu hv hk ew hw9 ep hp9 ez hlt
  obtain ⟨-, h2, h3⟩ := h
  have v32 := nat32 hv
  obtain ⟨a1, a2, a3, a4⟩ := hP.2.1.2 _ v32.1 k7 k8 (by omega) hm
  rw [← hx] at a1 a2 a3 a4
  have hxm : 0 ≤ (s.1 151 x).toInt := by omega
  have b := hP.2.1.1 x a1 a2 a3 hxm
  have exv : (s.1 151 x).toNatClampNeg = v.toNatClampNeg := by
    show (s.1 151 x).toInt.toNat = v.toNatClampNeg
    omega
  rw [exv] at b
  have hpw : pwq s x v.toNatClampNeg = w2.toInt := by unfold pwq; rw [ew2]
  have c5 := (hP.1 _ _ a1 v32.1 b.2.2.1).2.2.2.2
  rw [hpw] at c5
  have hz2 : z2.toInt = z.toInt - w2.toInt := lsub_t ez2 (by omega) (by omega)
  have hxv : x ≠ v.toNatClampNeg := by intro e; rw [e] at a3; exact k8 a3
  have q2 : (sL (sI (sL t 149 v.toNatClampNeg z) 148 v.toNatClampNeg u) 149 x z2).1 148 = upd (t.1 148) v.toNatClampNeg u := by
    show (sI (sL t 149 v.toNatClampNeg z) 148 v.toNatClampNeg u).1 148 = _
    exact sI_q
  have q3 : (sL (sI (sL t 149 v.toNatClampNeg z) 148 v.toNatClampNeg u) 149 x z2).1 = (sI (sL t 149 v.toNatClampNeg z) 148 v.toNatClampNeg u).1 := rfl
  have q1 : (sL (sI (sL t 149 v.toNatClampNeg z) 148 v.toNatClampNeg u) 149 x z2).2.1 149 = vp_updL ((sI (sL t 149 v.toNatClampNeg z) 148 v.toNatClampNeg u).2.1 149) x z2 := by simp [sL]
  have fg : (sL (sI (sL t 149 v.toNatClampNeg z) 148 v.toNatClampNeg u) 149 x z2).2.2.1 = (sI (sL t 149 v.toNatClampNeg z) 148 v.toNatClampNeg u).2.2.1 := rfl
  have fg1 : (sI (sL t 149 v.toNatClampNeg z) 148 v.toNatClampNeg u).2.2.1 = t.2.2.1 := rfl
  unfold mqp at k2 ⊢
  generalize sL (sI (sL t 149 v.toNatClampNeg z) 148 v.toNatClampNeg u) 149 x z2 = V at q1 q2 q3 fg ⊢
  generalize sI (sL t 149 v.toNatClampNeg z) 148 v.toNatClampNeg u = U at q1 q3 fg fg1 k1 k2 k3 k4 ⊢
  have e1 : pf V x = z2.toInt := by
    unfold pf
    rw [fg, fg1, hn, if_pos a2, q1, ul_eq]
  have e2 : ∀ y, y ≠ x → pf V y = pf U y := by
    intro y hy
    unfold pf
    rw [fg, q1, ul_ne hy]
  have hr : RPQ s (s.1 151) v.toNatClampNeg x (-w2.toInt) := ⟨v32.1, a1, Or.inr ⟨a2, a3, a4, b.2.2.1, by rw [hpw]⟩⟩
  have hlt2 : z.toInt - w2.toInt < pf U x := by
    rw [k4 x hxv]
    have g := h2 _ v32.1 k7 k8 hm
    rw [← hx] at g
    by_cases c : pf t v.toNatClampNeg < 9000000000000000
    · rw [g.1 c, hpw]; omega
    · have := g.2 c
      omega
  have pdx : pdp s V x = v.toNatClampNeg := by unfold pdp; rw [if_pos a3]; exact exv
  have wtx : wtp s V x = -w2.toInt := by unfold wtp; rw [if_pos a3, exv, hpw]
  obtain ⟨l1, l2⟩ := bi_relax (p2 := pf V) (pd2 := pdp s V) (wt2 := wtp s V) (rp_b hP.1) (pqp_ok hP).2 (pqp_2 hP) k1 hr (by rw [k3]; omega) (by rw [k3]; omega) (by rw [e1, k3]; omega) (fun y _ hy => e2 y hy) pdx (fun y _ hy => by unfold pdp; rw [q3]) wtx (fun y _ hy => by unfold wtp; rw [q3])
  refine ⟨⟨l1, fun y hy hyn hf hq => ?_, fun y hy hyn hf hq => ?_⟩, by omega⟩
  · by_cases c : y = v.toNatClampNeg
    · rw [c, ← hx, e1, e2 _ (fun e => hxv e.symm), k3, hpw]
      exact ⟨fun _ => hz2, fun q => by omega⟩
    · have g := hP.2.1.2 y hy hyn hf (by omega) hq
      have c2 : (s.1 151 y).toNatClampNeg ≠ v.toNatClampNeg := by intro e; rw [e] at g; exact k8 g.2.2.1
      have c3 : (s.1 151 y).toNatClampNeg ≠ x := by intro e; rw [e] at g; omega
      have c4 : y ≠ x := by intro e; rw [e] at hf; exact hf a3
      rw [e2 y c4, e2 _ c3, k4 y c, k4 _ c2]
      exact h2 y hy hyn hf hq
  · rw [q2]
    unfold upd
    by_cases c : y = v.toNatClampNeg
    · rw [if_pos c]; exact hu
    · have c4 : y ≠ x := by intro e; rw [e] at hf; exact hf a3
      rw [if_neg c]
      rw [e2 y c4, k4 y c] at hq
      exact h3 y hy hyn hf hq
/-- rounds -/
def CLP (s t : GS) (k : Nat) : Prop := ∀ u v : Nat, u < 32 → v < 32 → 32 * u + v < k → pwq s u v < 9000000000000000 → (t.2.1 149 u).toInt < 9000000000000000 → (s.1 151 u).toInt ≠ (v : Int) → (t.2.1 149 v).toInt ≤ (t.2.1 149 u).toInt + pwq s u v
def WKP (s : GS) (M : Nat) (t : GS) (mo : Int) (k : Nat) : Prop := CIP s t ∧ mqp s t ≤ M ∧ (mo ≠ 0 → mqp s t < M) ∧ (mo = 0 → CLP s t k)
theorem wkp_0 {s t : GS} (h : CIP s t) : WKP s (mqp s t) t 0 0 := ⟨h, Nat.le_refl _, fun z => absurd rfl z, fun _ u v _ _ hk => absurd hk (Nat.not_lt_zero _)⟩
theorem wkp_s {s t : GS} {mo : Int} {M : Nat} {k u v : Int32} (h : WKP s M t mo k.toNatClampNeg) (hu : In u 0 31) (hv : In v 0 31) (hk : k.toNatClampNeg = 32 * u.toNatClampNeg + v.toNatClampNeg) (hc : (s.2.1 152 k.toNatClampNeg).toInt < 9000000000000000 → (t.2.1 149 u.toNatClampNeg).toInt < 9000000000000000 → (s.1 151 u.toNatClampNeg).toInt ≠ v.toInt → (t.2.1 149 v.toNatClampNeg).toInt ≤ (t.2.1 149 u.toNatClampNeg).toInt + (s.2.1 152 k.toNatClampNeg).toInt) : WKP s M t mo (k.toNatClampNeg + 1) := by
  refine ⟨h.1, h.2.1, h.2.2.1, fun z a b ha hb hlt h1 h2 h3 => ?_⟩
  have u32 := nat32 hu
  have v32 := nat32 hv
  by_cases c : 32 * a + b = k.toNatClampNeg
  · have ea : a = u.toNatClampNeg := by omega
    have eb : b = v.toNatClampNeg := by omega
    unfold pwq at h1 ⊢
    rw [c] at h1 ⊢
    rw [ea] at h2 h3 ⊢
    rw [eb] at h3 ⊢
    rw [v32.2] at h3
    exact hc h1 h2 h3
  · exact h.2.2.2 z a b ha hb (by omega) h1 h2 h3
theorem wkp_ch {s t u : GS} {mo : Int} {M k : Nat} (h : WKP s M t mo k) (hc : CIP s u ∧ mqp s u < mqp s t) (j : Nat) : WKP s M u 1 j := by
  have := h.2.1
  exact ⟨hc.1, by omega, fun _ => by omega, fun z => by omega⟩
theorem cip_add {s t : GS} {k u v : Int32} {p w q z : Int64} (hP : PP s) (hn : t.2.2.1 109 20 = s.2.2.1 109 20) (h : CIP s t) (hu : In u 0 31) (hv : In v 0 31) (hk : k.toNatClampNeg = 32 * u.toNatClampNeg + v.toNatClampNeg) (ew : w = s.2.1 152 k.toNatClampNeg) (hw9 : w.toInt < 9000000000000000) (ep : p = t.2.1 149 u.toNatClampNeg) (hp9 : p.toInt < 9000000000000000) (ez : z = p + w) (eq : q = t.2.1 149 v.toNatClampNeg) (hlt : q.toInt ≤ z.toInt) : (t.2.1 149 v.toNatClampNeg).toInt ≤ (t.2.1 149 u.toNatClampNeg).toInt + (s.2.1 152 k.toNatClampNeg).toInt := by
  have hpw : pwq s u.toNatClampNeg v.toNatClampNeg = w.toInt := by unfold pwq; rw [← hk, ew]
  have u32 := nat32 hu
  have v32 := nat32 hv
  obtain ⟨n1, n2, n3, n4, n5, n6⟩ := hP.1 _ _ u32.1 v32.1 (by rw [hpw]; exact hw9)
  rw [hpw] at n5 n6
  have eu := pfx (t := t) hn n1
  have hb := bi_b (pqp_2 hP) h.1 u32.1 (by rw [eu, ← ep]; exact hp9)
  rw [eu, ← ep] at hb
  have hz : z.toInt = p.toInt + w.toInt := ladd_t ez (by omega) (by omega)
  rw [← ep, ← ew, ← eq]
  omega
/-- turning a way round: where it stands -/
def FLP (S : GS) (e : Int) (n : Nat) : Prop := PWI S ∧ ∃ q : Nat → Int, FE (RPQ S (S.1 151)) q ∧ MTQ S (S.1 151) e ∧ ((e < 0 ∧ n = 0) ∨ (0 ≤ e ∧ e < nnq S ∧ e < 32 ∧ ¬ FSQ S e.toNat ∧ ∃ (A : Nat → Prop) (r : Nat → Nat) (m0 : Nat → Int32), A e.toNat ∧ n = r e.toNat + 1 ∧
  (∀ y : Nat, y < 32 → (y : Int) < nnq S → ¬ FSQ S y → A y → 0 ≤ (S.1 148 y).toInt ∧ (S.1 148 y).toInt ≤ 31 ∧ pwq S (S.1 148 y).toNatClampNeg y < 9000000000000000 ∧ A (S.1 148 y).toNatClampNeg ∧ q y = q (S.1 148 y).toNatClampNeg + pwq S (S.1 148 y).toNatClampNeg y ∧ r (S.1 148 y).toNatClampNeg < r y) ∧
  (∀ x : Nat, x < 32 → (x : Int) < nnq S → FSQ S x → A x → 0 ≤ (m0 x).toInt → A (m0 x).toNatClampNeg ∧ r (m0 x).toNatClampNeg < r x) ∧
  ∀ x : Nat, x < 32 → (x : Int) < nnq S → FSQ S x → r x < r e.toNat → S.1 151 x = m0 x))
theorem flp_no {s t : GS} (hP : PP s) (h1 : t.1 111 = s.1 111) (h2 : t.1 151 = s.1 151) (h3 : t.2.1 152 = s.2.1 152) (h4 : t.2.2.1 109 18 = s.2.2.1 109 18) (h5 : t.2.2.1 109 20 = s.2.2.1 109 20) : PWI t ∧ (∀ e, MTQ s (s.1 151) e → MTQ t (t.1 151) e) ∧ (∀ q, FE (RPQ s (s.1 151)) q → FE (RPQ t (t.1 151)) q) := by
  have f : FSQ t = FSQ s := by funext v; unfold FSQ; rw [h1, h4]
  have n : nnq t = nnq s := by unfold nnq; rw [h5]
  have p : pwq t = pwq s := by funext u v; unfold pwq; rw [h3]
  refine ⟨?_, fun e h => ?_, fun q h => ?_⟩
  · have := hP.1
    unfold PWI at this ⊢
    rw [f, n, p]; exact this
  · unfold MTQ at h ⊢
    rw [f, n, p, h2]; exact h
  · have e : RPQ t (t.1 151) = RPQ s (s.1 151) := by
      funext u v w
      unfold RPQ
      rw [f, n, p, h2]
    rw [e]; exact h
theorem flp_0 {s t : GS} {e : Int32} (hP : PP s) (h1 : t.1 111 = s.1 111) (h2 : t.1 151 = s.1 151) (h3 : t.2.1 152 = s.2.1 152) (h4 : t.2.2.1 109 18 = s.2.2.1 109 18) (h5 : t.2.2.1 109 20 = s.2.2.1 109 20) (h : CIP s t) (hcl : CLP s t 1024) (he : e.toInt < 0 ∨ (In e 0 31 ∧ e.toInt < nnq s ∧ ¬ FSQ s e.toNatClampNeg ∧ (s.1 151 e.toNatClampNeg).toInt < 0 ∧ (t.2.1 149 e.toNatClampNeg).toInt < 9000000000000000)) : ∃ n, n ≤ 32 ∧ FLP t e.toInt n := by
  obtain ⟨w1, w2, w3⟩ := flp_no hP h1 h2 h3 h4 h5
  have f : FSQ t = FSQ s := by funext v; unfold FSQ; rw [h1, h4]
  have n : nnq t = nnq s := by unfold nnq; rw [h5]
  have p : pwq t = pwq s := by funext u v; unfold pwq; rw [h3]
  have ok := pqp_ok hP
  have hm1 : ∀ e : Int, (e < 0 ∨ ∀ x : Nat, x < 32 → (x : Int) < nnq s → FSQ s x → 0 ≤ (s.1 151 x).toInt → (s.1 151 x).toInt ≠ e) → MTQ s (s.1 151) e := by
    intro e q
    refine ⟨fun x hx hn hf hm => ?_, fun y hy hn hf _ hm => hP.2.1.2 y hy hn hf (by omega) hm⟩
    have g := hP.2.1.1 x hx hn hf hm
    refine ⟨?_, g.2⟩
    rcases q with q | q
    · omega
    · exact q x hx hn hf hm
  rcases he with he | ⟨he, hen, hef, hem, he9⟩
  · exact ⟨0, by omega, w1, pqp s, w3 _ ok.2, w2 _ (hm1 _ (Or.inl he)), Or.inl ⟨he, rfl⟩⟩
  · have e32 := nat32 he
    have een : e.toNatClampNeg = e.toInt.toNat := rfl
    have hen2 : (e.toNatClampNeg : Int) < nnq s := by omega
    obtain ⟨r, r1, r2⟩ := bi_rank ok.2 h.1
    have cl : ∀ u v w, RPQ s (s.1 151) u v w → pf t u < 9000000000000000 → pf t v ≤ pf t u + w ∧ pf t v < 9000000000000000 := by
      intro u v w hr hu
      have hb := rp_b hP.1 u v w hr
      have bb := bi_b (pqp_2 hP) h.1 hb.1 hu
      have key : pf t v ≤ pf t u + w := by
        obtain ⟨hu32, hv32, hr⟩ := hr
        rcases hr with ⟨p1, p2⟩ | ⟨p1, p2, p3, p4, p5⟩
        · obtain ⟨n1, n2, n3, n4, n5, n6⟩ := hP.1 u v hu32 hv32 p1
          by_cases c : (s.1 151 u).toInt = (v : Int)
          · have g := hP.2.1.1 u hu32 n1 n3 (by omega)
            have eu : (s.1 151 u).toNatClampNeg = v := by show (s.1 151 u).toInt.toNat = v; omega
            rw [eu] at g
            have ev : (s.1 151 v).toNatClampNeg = u := by show (s.1 151 v).toInt.toNat = u; omega
            have g2 := h.2.1 v hv32 n2 n4 (by omega)
            rw [ev] at g2
            by_cases c2 : pf t v < 9000000000000000
            · have := g2.1 c2
              omega
            · exact absurd hu (g2.2 c2)
          · have eu := pfx (t := t) h5 n1
            have ev := pfx (t := t) h5 n2
            rw [eu] at hu
            rw [eu, ev, p2]
            exact hcl u v hu32 hv32 (by omega) p1 hu c
        · obtain ⟨n1, n2, n3, n4, n5, n6⟩ := hP.1 v u hv32 hu32 p4
          have g := hP.2.1.1 v hv32 p1 p2 (by omega)
          have ev : (s.1 151 v).toNatClampNeg = u := by show (s.1 151 v).toInt.toNat = u; omega
          rw [ev] at g
          have eu : (s.1 151 u).toNatClampNeg = v := by show (s.1 151 u).toInt.toNat = v; omega
          have g2 := (h.2.1 u hu32 n2 n4 (by omega)).1 hu
          rw [eu] at g2
          omega
      exact ⟨key, by omega⟩
    obtain ⟨q, p1, p2⟩ := bi_pi (c := 32000000) (p := pf t) ok.2 (fun u v w hr hu => (cl u v w hr hu).1) (fun u v w hr hu => (cl u v w hr hu).2) (g := e.toNatClampNeg)
    have hfin : pf t e.toNatClampNeg < 9000000000000000 := by rw [pfx h5 hen2]; exact he9
    refine ⟨r e.toNatClampNeg + 1, r1 _ e32.1, w1, q, w3 _ p1, w2 _ (hm1 _ (Or.inr (fun x hx hxn hxf hxm c => ?_))), Or.inr ⟨he.1, by rw [n]; exact hen, by have := he.2; omega, by rw [f]; exact hef, fun y => y < 32 ∧ pf t y < 9000000000000000 ∧ pf t y - pqp s y ≤ pf t e.toNatClampNeg - pqp s e.toNatClampNeg, r, s.1 151, ⟨e32.1, hfin, Int.le_refl _⟩, rfl, fun y hy hyn hyf hyA => ?_, fun x hx hxn hxf hxA hxm => ?_, fun x _ _ _ _ => by rw [h2]⟩⟩
    · have g := (hP.2.1.1 x hx hxn hxf hxm).2.2.2
      have ec : (s.1 151 x).toNatClampNeg = e.toNatClampNeg := by show (s.1 151 x).toInt.toNat = e.toInt.toNat; rw [c]
      rw [ec] at g
      omega
    · rw [n] at hyn
      rw [f] at hyf
      obtain ⟨y1, y2, y3⟩ := hyA
      have hb := h.2.2 y hy hyn hyf y2
      obtain ⟨q1, q2, q3, q4, q5⟩ := r2 y hy y2 (fun z => hyf z.1)
      have epd : pdp s t y = (t.1 148 y).toNatClampNeg := by unfold pdp; rw [if_neg hyf]
      have ewt : wtp s t y = pwq s (t.1 148 y).toNatClampNeg y := by unfold wtp; rw [if_neg hyf]
      rw [epd, ewt] at q2
      rw [epd] at q1 q3 q4
      rw [epd, ewt] at q5
      have hpw : pwq s (t.1 148 y).toNatClampNeg y < 9000000000000000 := by
        rcases q2.2.2 with z | z
        · exact z.1
        · exact absurd z.2.1 hyf
      have g := (cl _ _ _ q2 q3).1
      have fe := ok.2 _ _ _ q2
      rw [p]
      refine ⟨hb.1, hb.2, hpw, ⟨q1, q3, by omega⟩, ?_, q4⟩
      rw [p2 y y2 y3, p2 _ q3 (by omega)]
      omega
    · rw [n] at hxn
      rw [f] at hxf
      obtain ⟨y1, y2, y3⟩ := hxA
      obtain ⟨q1, q2, q3, q4, q5⟩ := r2 x hx y2 (fun z => by have := z.2; omega)
      have epd : pdp s t x = (s.1 151 x).toNatClampNeg := by unfold pdp; rw [if_pos hxf]
      rw [epd] at q1 q2 q3 q4 q5
      have fe := ok.2 _ _ _ q2
      exact ⟨⟨q1, q3, by omega⟩, q4⟩
theorem flp_u {S : GS} {e : Int} {n : Nat} (h : FLP S e n) (he : 0 ≤ e) : 0 ≤ (S.1 148 e.toNat).toInt ∧ (S.1 148 e.toNat).toInt ≤ 31 ∧ e < nnq S ∧ e < 32 ∧ FSQ S (S.1 148 e.toNat).toNatClampNeg := by
  obtain ⟨hW, q, f1, f2, f3⟩ := h
  rcases f3 with f3 | ⟨g1, g2, g3, g4, A, r, m0, a1, a2, a3, a4, a5⟩
  · omega
  · have b := a3 e.toNat (by omega) (by omega) g4 a1
    have b32 := nat32 (y := S.1 148 e.toNat) ⟨b.1, b.2.1⟩
    exact ⟨b.1, b.2.1, g2, g3, (hW _ _ b32.1 (by omega) b.2.2.1).2.2.1⟩
theorem flp_s {S : GS} {e u x : Int32} {n : Nat} (h : FLP S e.toInt n) (he : 0 ≤ e.toInt) (hu : u = S.1 148 e.toNatClampNeg) (hx : x = S.1 151 u.toNatClampNeg) (hr : In x (-1) 31) : ∃ k, k < n ∧ FLP (sI (sI S 151 u.toNatClampNeg e) 151 e.toNatClampNeg u) x.toInt k := by
  obtain ⟨hW, q, f1, f2, f3⟩ := h
  rcases f3 with f3 | ⟨g1, g2, g3, g4, A, r, m0, a1, a2, a3, a4, a5⟩
  · omega
  have ee : e.toNatClampNeg = e.toInt.toNat := rfl
  rw [← ee] at g4 a1 a2 a5
  have e32 : e.toNatClampNeg < 32 := by omega
  have een : (e.toNatClampNeg : Int) = e.toInt := by omega
  have b := a3 e.toNatClampNeg e32 (by omega) g4 a1
  rw [← hu] at b
  have u32 := nat32 (y := u) ⟨b.1, b.2.1⟩
  obtain ⟨n1, n2, n3, n4, n5, n6⟩ := hW _ _ u32.1 e32 b.2.2.1
  have hue : u.toNatClampNeg ≠ e.toNatClampNeg := by intro c; rw [c] at n3; exact n4 n3
  have k0 := a5 _ u32.1 n1 n3 b.2.2.2.2.2
  have q1 : (sI (sI S 151 u.toNatClampNeg e) 151 e.toNatClampNeg u).1 151 = upd (upd (S.1 151) u.toNatClampNeg e) e.toNatClampNeg u := by rw [sI_q, sI_q]
  have q2 : (sI (sI S 151 u.toNatClampNeg e) 151 e.toNatClampNeg u).1 148 = S.1 148 := by rw [sI_p rfl, sI_p rfl]
  have q3 : (sI (sI S 151 u.toNatClampNeg e) 151 e.toNatClampNeg u).1 111 = S.1 111 := by rw [sI_p rfl, sI_p rfl]
  have fg : (sI (sI S 151 u.toNatClampNeg e) 151 e.toNatClampNeg u).2 = S.2 := rfl
  generalize sI (sI S 151 u.toNatClampNeg e) 151 e.toNatClampNeg u = V at q1 q2 q3 fg ⊢
  have f : FSQ V = FSQ S := by funext v; unfold FSQ; rw [q3, fg]
  have nv : nnq V = nnq S := by unfold nnq; rw [fg]
  have p : pwq V = pwq S := by funext a b; unfold pwq; rw [fg]
  have mu : V.1 151 u.toNatClampNeg = e := by rw [q1]; unfold upd; rw [if_neg hue, if_pos rfl]
  have me : V.1 151 e.toNatClampNeg = u := by rw [q1]; unfold upd; rw [if_pos rfl]
  have mo : ∀ y, y ≠ u.toNatClampNeg → y ≠ e.toNatClampNeg → V.1 151 y = S.1 151 y := by
    intro y c1 c2
    rw [q1]; unfold upd; rw [if_neg c2, if_neg c1]
  have hMT : MTQ V (V.1 151) x.toInt := by
    unfold MTQ
    rw [f, nv, p]
    refine ⟨fun a ha han haf ham => ?_, fun y hy hyn hyf hyx hym => ?_⟩
    · have cae : a ≠ e.toNatClampNeg := by intro c; rw [c] at haf; exact n4 haf
      by_cases c : a = u.toNatClampNeg
      · rw [c, mu, me]
        refine ⟨fun c2 => ?_, e32, b.2.2.1, by omega⟩
        have c3 := (f2.1 _ u32.1 n1 n3 (by rw [← hx]; omega)).1
        rw [← hx] at c3
        exact c3 c2.symm
      · rw [mo a c cae] at ham ⊢
        obtain ⟨z1, z2, z3, z4⟩ := f2.1 a ha han haf ham
        have zs := (hW _ _ ha z2 z3)
        have zu : (S.1 151 a).toNatClampNeg ≠ u.toNatClampNeg := by intro c2; rw [c2] at zs; exact zs.2.2.2.1 n3
        have ze : (S.1 151 a).toNatClampNeg ≠ e.toNatClampNeg := by
          intro c2
          apply z1
          have : (S.1 151 a).toNatClampNeg = (S.1 151 a).toInt.toNat := rfl
          omega
        refine ⟨fun c2 => ?_, z2, z3, by rw [mo _ zu ze]; exact z4⟩
        have w := (f2.1 _ u32.1 n1 n3 (by rw [← hx]; omega)).2.2.2
        rw [← hx, show x.toNatClampNeg = (S.1 151 a).toNatClampNeg by show x.toInt.toNat = (S.1 151 a).toInt.toNat; rw [c2]] at w
        omega
    · have cyu : y ≠ u.toNatClampNeg := by intro c; rw [c] at hyf; exact hyf n3
      by_cases c : y = e.toNatClampNeg
      · rw [c, me, mu]
        exact ⟨u32.1, n1, n3, by omega⟩
      · rw [mo y cyu c] at hym ⊢
        obtain ⟨z1, z2, z3, z4⟩ := f2.2 y hy hyn hyf (by omega) hym
        have zu : (S.1 151 y).toNatClampNeg ≠ u.toNatClampNeg := by
          intro c2
          rw [c2, ← hx] at z4
          omega
        have ze : (S.1 151 y).toNatClampNeg ≠ e.toNatClampNeg := by intro c2; rw [c2] at z3; exact n4 z3
        exact ⟨z1, z2, z3, by rw [mo _ zu ze]; exact z4⟩
  have hFE : FE (RPQ V (V.1 151)) q := by
    intro a c w hq
    unfold RPQ at hq
    rw [f, nv, p] at hq
    obtain ⟨h1, h2, h3⟩ := hq
    rcases h3 with h3 | ⟨z1, z2, z3, z4, z5⟩
    · exact f1 a c w ⟨h1, h2, Or.inl h3⟩
    · by_cases cu : c = u.toNatClampNeg
      · rw [cu, mu] at z3
        have ea : a = e.toNatClampNeg := by omega
        rw [cu, ea] at z5
        rw [cu, ea]
        have t := b.2.2.2.2.1
        omega
      · have ce : c ≠ e.toNatClampNeg := by intro c2; rw [c2] at z2; exact n4 z2
        rw [mo c cu ce] at z3
        exact f1 a c w ⟨h1, h2, Or.inr ⟨z1, z2, z3, z4, z5⟩⟩
  have hWV : PWI V := by unfold PWI; rw [f, nv, p]; exact hW
  by_cases cx : x.toInt < 0
  · exact ⟨0, by omega, hWV, q, hFE, hMT, Or.inl ⟨cx, rfl⟩⟩
  · have ex : x.toNatClampNeg = x.toInt.toNat := rfl
    obtain ⟨r1, r2⟩ := hr
    have z := f2.1 _ u32.1 n1 n3 (by rw [← hx]; omega)
    rw [← hx] at z
    have zs := hW _ _ u32.1 z.2.1 z.2.2.1
    have w := a4 _ u32.1 n1 n3 b.2.2.2.1 (by rw [← k0, ← hx]; omega)
    rw [← k0, ← hx] at w
    have bl := b.2.2.2.2.2
    refine ⟨r x.toNatClampNeg + 1, by omega, hWV, q, hFE, hMT, Or.inr ⟨by omega, by rw [nv]; omega, by omega, by rw [f]; exact zs.2.2.2.1, A, r, m0, w.1, rfl, ?_, ?_, ?_⟩⟩
    · rw [f, nv, p, q2]; exact a3
    · rw [f, nv]; exact a4
    · rw [f, nv]
      intro y hy hyn hyf hyr
      rw [← ex] at hyr
      have c1 : y ≠ u.toNatClampNeg := by intro c; rw [c] at hyr; omega
      have c2 : y ≠ e.toNatClampNeg := by intro c; rw [c] at hyf; exact n4 hyf
      rw [mo y c1 c2]
      exact a5 y hy hyn hyf (by omega)
theorem flp_pp {S : GS} {e : Int} {n : Nat} (h : FLP S e n) (he : e = -1) : PP S := by
  obtain ⟨hW, q, f1, f2, -⟩ := h
  rw [he] at f2
  exact ⟨hW, f2, q, f1⟩
/-- the least number with a property -/
theorem lst_ex {P : Nat → Prop} : ∀ N : Nat, (∃ n, n ≤ N ∧ P n) → ∃ n, P n ∧ ∀ k, P k → n ≤ k := by
  intro N
  induction N with
  | zero =>
    intro h
    obtain ⟨n, hn, hp⟩ := h
    exact ⟨n, hp, fun k _ => by omega⟩
  | succ N ih =>
    intro h
    by_cases c : ∃ n, n ≤ N ∧ P n
    · exact ih c
    · obtain ⟨n, hn, hp⟩ := h
      refine ⟨n, hp, fun k hk => ?_⟩
      by_cases q : k ≤ N
      · exact absurd ⟨k, q, hk⟩ c
      · omega
noncomputable def lst (P : Nat → Prop) : Nat := Classical.epsilon (fun n => P n ∧ ∀ k, P k → n ≤ k)
theorem lst_ok {P : Nat → Prop} (h : ∃ n, P n) : P (lst P) ∧ ∀ k, P k → lst P ≤ k := by
  obtain ⟨n, hn⟩ := h
  exact Classical.epsilon_spec (lst_ex (P := P) n ⟨n, Nat.le_refl _, hn⟩)
theorem cM_no {f : Nat → Int32} {y : Nat} {b : Int32} (h : 0 ≤ b.toInt) : ∀ n, cM (upd f y b) n ≤ cM f n := by
  intro n
  induction n with
  | zero => exact Nat.le_refl _
  | succ n ih =>
    show cM (upd f y b) n + (if (upd f y b n).toInt < 0 then 1 else 0) ≤ cM f n + (if (f n).toInt < 0 then 1 else 0)
    by_cases c : n = y
    · have e : upd f y b n = b := by unfold upd; rw [if_pos c]
      rw [e, if_neg (by omega)]
      omega
    · have e : upd f y b n = f n := by unfold upd; rw [if_neg c]
      rw [e]
      omega
theorem cM_fl {f : Nat → Int32} {e u : Int32} {N : Nat} (he : In e 0 31) (hu : In u 0 31) (hN : e.toNatClampNeg < N) : cM (upd (upd f u.toNatClampNeg e) e.toNatClampNeg u) N ≤ cM f N ∧ ((f e.toNatClampNeg).toInt < 0 → cM (upd (upd f u.toNatClampNeg e) e.toNatClampNeg u) N < cM f N) := by
  have h1 := cM_no (f := f) (y := u.toNatClampNeg) (b := e) he.1 N
  have h2 := cM_no (f := upd f u.toNatClampNeg e) (y := e.toNatClampNeg) (b := u) hu.1 N
  refine ⟨by omega, fun h => ?_⟩
  by_cases c : e.toNatClampNeg = u.toNatClampNeg
  · have a := cM_up (f := f) (y := e.toNatClampNeg) (v := u) h hu.1 N
    have ee : upd (upd f u.toNatClampNeg e) e.toNatClampNeg u = upd f e.toNatClampNeg u := by
      funext k
      unfold upd
      rw [← c]
      split <;> rfl
    rw [if_pos hN] at a
    rw [ee]
    omega
  · have g : (upd f u.toNatClampNeg e e.toNatClampNeg).toInt < 0 := by unfold upd; rw [if_neg c]; exact h
    have a := cM_up (f := upd f u.toNatClampNeg e) (y := e.toNatClampNeg) (v := u) g hu.1 N
    rw [if_pos hN] at a
    omega
/-- the weights of pairs -/
theorem pwi_s {s T : GS} {u v : Int32} {w : Int64} {k : Nat} (h : PWI s) (hu : In u 0 31) (hv : In v 0 31) (hk : k = 32 * u.toNatClampNeg + v.toNatClampNeg) (h1 : T.1 111 = s.1 111) (h4 : T.2.2.1 109 18 = s.2.2.1 109 18) (h5 : T.2.2.1 109 20 = s.2.2.1 109 20) (hT : T.2.1 152 = vp_updL (s.2.1 152) k w)
    (hw : w = s.2.1 152 k ∨ (u.toInt < nnq s ∧ v.toInt < nnq s ∧ FSQ s u.toNatClampNeg ∧ ¬ FSQ s v.toNatClampNeg ∧ -1000000 ≤ w.toInt ∧ w.toInt ≤ 1000000)) : PWI T := by
  have f : FSQ T = FSQ s := by funext v; unfold FSQ; rw [h1, h4]
  have n : nnq T = nnq s := by unfold nnq; rw [h5]
  have u32 := nat32 hu
  have v32 := nat32 hv
  intro a b ha hb hp
  rw [f, n]
  by_cases c : 32 * a + b = k
  · have ea : a = u.toNatClampNeg := by omega
    have eb : b = v.toNatClampNeg := by omega
    have e : pwq T a b = w.toInt := by unfold pwq; rw [hT, c, ul_eq]
    rcases hw with hw | hw
    · have e2 : pwq T a b = pwq s a b := by rw [e, hw]; unfold pwq; rw [c]
      rw [e2] at hp ⊢
      exact h a b ha hb hp
    · rw [e, ea, eb]
      exact ⟨by omega, by omega, hw.2.2.1, hw.2.2.2.1, hw.2.2.2.2⟩
  · have e2 : pwq T a b = pwq s a b := by unfold pwq; rw [hT, ul_ne c]
    rw [e2] at hp ⊢
    exact h a b ha hb hp
theorem pp_0 {s : GS} (h : PWI s) (hm : ∀ k : Nat, (k : Int) < nnq s → (s.1 151 k).toInt < 0) : PP s := by
  refine ⟨h, ⟨fun x _ hn _ hq => by have := hm x hn; omega, fun y _ hn _ _ hq => by have := hm y hn; omega⟩, fun v => if (s.1 111 (32 * (s.2.2.1 109 18).toNatClampNeg + v)).toInt < 13 then 0 else -1000000, fun u v w hr => ?_⟩
  obtain ⟨h1, h2, h3⟩ := hr
  rcases h3 with ⟨p1, p2⟩ | ⟨p1, p2, p3, p4, p5⟩
  · obtain ⟨n1, n2, n3, n4, n5, n6⟩ := h u v h1 h2 p1
    dsimp only
    unfold FSQ at n3 n4
    rw [if_pos n3, if_neg n4]
    omega
  · have := hm v p1
    omega
theorem fs_cg {s t : GS} {v : Nat} (h1 : t.1 111 = s.1 111) (h4 : t.2.2.1 109 18 = s.2.2.1 109 18) : FSQ t v = FSQ s v := by unfold FSQ; rw [h1, h4]
theorem pwi_cg {s t : GS} (h : PWI s) (h1 : t.1 111 = s.1 111) (h3 : t.2.1 152 = s.2.1 152) (h4 : t.2.2.1 109 18 = s.2.2.1 109 18) (h5 : t.2.2.1 109 20 = s.2.2.1 109 20) : PWI t := by
  have f : FSQ t = FSQ s := by funext v; exact fs_cg h1 h4
  have n : nnq t = nnq s := by unfold nnq; rw [h5]
  have p : pwq t = pwq s := by funext u v; unfold pwq; rw [h3]
  unfold PWI
  rw [f, n, p]
  exact h
theorem inp_s {s : GS} {f g : Nat → Int64} {y z : Int32} {w : Int64} (h : ∀ k : Nat, (k : Int) < y.toInt → (spq s k → (f k).toInt = 0) ∧ (¬ spq s k → (f k).toInt = 9000000000000000)) (hg : g = vp_updL f y.toNatClampNeg w) (hy : 0 ≤ y.toInt) (hz : z.toInt = y.toInt + 1) (hw : (spq s y.toNatClampNeg → w.toInt = 0) ∧ (¬ spq s y.toNatClampNeg → w.toInt = 9000000000000000)) : ∀ k : Nat, (k : Int) < z.toInt → (spq s k → (g k).toInt = 0) ∧ (¬ spq s k → (g k).toInt = 9000000000000000) := by
  intro k hk
  have ey : y.toNatClampNeg = y.toInt.toNat := rfl
  rw [hg]
  by_cases c : k = y.toNatClampNeg
  · rw [c, ul_eq]; exact hw
  · rw [ul_ne c]; exact h k (by omega)
end
section
/-! WAYS OF THE REFERENCE: which node reaches which -/
abbrev nmx (s : GS) : Int := (s.2.2.1 109 20).toInt
def arq (s : GS) (u w : Nat) : Prop := ∃ a : Nat, a < 160 ∧ (s.1 112 (bs s + a)).toInt ≠ 0 ∧ (s.1 113 (bs s + a)).toNatClampNeg = u ∧ (s.1 114 (bs s + a)).toNatClampNeg = w
theorem nat_jn {y : Int32} {n : Int} (h : In y 0 31) (h2 : y.toInt < n) : y.toNatClampNeg < 32 ∧ (y.toNatClampNeg : Int) < n := by
  have e : y.toNatClampNeg = y.toInt.toNat := rfl
  obtain ⟨a, b⟩ := h
  constructor <;> omega
theorem arq_n {s : GS} (hI : Inv s) {u w : Nat} (h : arq s u w) : (u < 32 ∧ (u : Int) < nmx s) ∧ w < 32 ∧ (w : Int) < nmx s := by
  obtain ⟨a, ha, ht, h1, h2⟩ := h
  have hn := arc_n hI ha ht
  have n1 := nat_jn hn.1.1 hn.1.2
  have n2 := nat_jn hn.2.1.1 hn.2.1.2
  rw [h1] at n1
  rw [h2] at n2
  exact ⟨n1, n2⟩
theorem arq_cg {s t : GS} (h2 : t.1 112 = s.1 112) (h3 : t.1 113 = s.1 113) (h4 : t.1 114 = s.1 114) (h7 : t.2.2.1 109 19 = s.2.2.1 109 19) : arq t = arq s := by
  funext u w
  unfold arq bs
  rw [h2, h3, h4, h7]
def wkq (E : Nat → Nat → Prop) : Nat → Nat → Nat → Prop
  | 0, u, w => u = w
  | j + 1, u, w => ∃ x, E u x ∧ wkq E j x w
def wlq (E : Nat → Nat → Prop) (u w : Nat) : Prop := ∃ j, wkq E j u w
theorem wl_0 {E : Nat → Nat → Prop} {u : Nat} : wlq E u u := ⟨0, rfl⟩
theorem wl_1 {E : Nat → Nat → Prop} {u w : Nat} (h : E u w) : wlq E u w := ⟨1, w, h, rfl⟩
theorem wl_t {E : Nat → Nat → Prop} {v w : Nat} (h2 : wlq E v w) : ∀ j u, wkq E j u v → wlq E u w := by
  intro j
  induction j with
  | zero => intro u h; rw [show u = v from h]; exact h2
  | succ j ih =>
    intro u h
    obtain ⟨x, hx, hw⟩ := h
    obtain ⟨k, hk⟩ := ih x hw
    exact ⟨k + 1, x, hx, hk⟩
theorem wl_tr {E : Nat → Nat → Prop} {u v w : Nat} (h1 : wlq E u v) (h2 : wlq E v w) : wlq E u w := by
  obtain ⟨j, hj⟩ := h1
  exact wl_t h2 j u hj
theorem up_e {f : Nat → Int32} {k : Nat} {b : Int32} : upd f k b k = b := by unfold upd; rw [if_pos rfl]
theorem up_n {f : Nat → Int32} {k y : Nat} {b : Int32} (h : y ≠ k) : upd f k b y = f y := by unfold upd; rw [if_neg h]
def RQ1 (s : GS) (f : Nat → Int32) (k : Nat) : Prop := (∀ u w : Nat, (u : Int) < nmx s → bt (f u) w = true → wlq (arq s) u w) ∧ ∀ a, a < k → (s.1 112 (bs s + a)).toInt ≠ 0 → bt (f (s.1 113 (bs s + a)).toNatClampNeg) (s.1 114 (bs s + a)).toNatClampNeg = true
theorem rq1_0 {s : GS} {f : Nat → Int32} (h : ∀ u w : Nat, (u : Int) < nmx s → bt (f u) w = true → u = w) : RQ1 s f 0 := ⟨fun u w hu hb => by rw [h u w hu hb]; exact wl_0, fun a ha => absurd ha (Nat.not_lt_zero _)⟩
theorem rq1_no {s : GS} {f : Nat → Int32} {k : Nat} (h : RQ1 s f k) (ht : (s.1 112 (bs s + k)).toInt = 0) : RQ1 s f (k + 1) := by
  refine ⟨h.1, fun a ha hth => ?_⟩
  by_cases c : a = k
  · rw [c] at hth; exact absurd ht hth
  · exact h.2 a (by omega) hth
theorem rq1_st {s : GS} {f : Nat → Int32} {k : Nat} {u v z1 x1 z2 x2 z3 : Int32} (h : RQ1 s f k) (hk : k < 160) (ht : (s.1 112 (bs s + k)).toInt ≠ 0) (hu : u = s.1 113 (bs s + k)) (hv : v = s.1 114 (bs s + k)) (hvr : In v 0 31) (e0 : x1 = f u.toNatClampNeg) (e1 : z1 = Int32.ofInt 1 <<< (v &&& 31)) (e2 : z2 = x1 ||| z1) (e3 : x2 = upd f u.toNatClampNeg z2 v.toNatClampNeg) (e4 : z3 = x2 ||| Int32.ofInt 0) : RQ1 s (upd (upd f u.toNatClampNeg z2) v.toNatClampNeg z3) (k + 1) := by
  have row : ∀ y w, bt (upd (upd f u.toNatClampNeg z2) v.toNatClampNeg z3 y) w = bt (upd f u.toNatClampNeg z2 y) w := by
    intro y w
    by_cases c : y = v.toNatClampNeg
    · rw [c, up_e, bt_or e4, show (Int32.ofInt 0) = (0 : Int32) from rfl, bt_z, Bool.or_false, e3]
    · rw [up_n c]
  have ha : arq s u.toNatClampNeg v.toNatClampNeg := ⟨k, hk, ht, by rw [hu], by rw [hv]⟩
  refine ⟨fun y w hy hb => ?_, fun a hlt hth => ?_⟩
  · rw [row] at hb
    by_cases c : y = u.toNatClampNeg
    · rw [c, up_e, bt_set e1 e2 hvr, e0] at hb
      rw [c] at hy ⊢
      rcases (Bool.or_eq_true _ _).mp hb with q | q
      · exact h.1 _ w hy q
      · rw [of_decide_eq_true q]; exact wl_1 ha
    · rw [up_n c] at hb
      exact h.1 y w hy hb
  · rw [row]
    by_cases c : a = k
    · rw [c, ← hu, ← hv, up_e, bt_set e1 e2 hvr, decide_eq_true rfl, Bool.or_true]
    · have q := h.2 a (by omega) hth
      by_cases c2 : (s.1 113 (bs s + a)).toNatClampNeg = u.toNatClampNeg
      · rw [c2] at q ⊢
        rw [up_e, bt_set e1 e2 hvr, e0, q, Bool.true_or]
      · rw [up_n c2]; exact q
def RQ2 (s : GS) (f : Nat → Int32) (m : Nat) : Prop := RQ1 s f 160 ∧ ∀ v u w : Nat, v < m → (u : Int) < nmx s → bt (f u) v = true → bt (f v) w = true → bt (f u) w = true
def RQ3 (n : Int) (f0 f : Nat → Int32) (m : Nat) (c : Int) : Prop := ∀ u w : Nat, (u : Int) < n → (bt (f u) w = true ↔ (bt (f0 u) w = true ∨ ((u : Int) < c ∧ bt (f0 u) m = true ∧ bt (f0 m) w = true)))
theorem rq3_0 {n : Int} {f : Nat → Int32} {m : Nat} : RQ3 n f f m 0 := fun u w _ => ⟨Or.inl, fun h => by
  rcases h with h | h
  · exact h
  · omega⟩
theorem rq3_s {n c : Int} {f0 f : Nat → Int32} {m : Nat} {y z : Int32} (h : RQ3 n f0 f m c) (hy : y.toInt = c) (hy0 : 0 ≤ y.toInt) (hyn : y.toInt < n) (hm : (m : Int) < n) (hz : ∀ w, (bt z w = true ↔ (bt (f y.toNatClampNeg) w = true ∨ (bt (f y.toNatClampNeg) m = true ∧ bt (f m) w = true)))) : RQ3 n f0 (upd f y.toNatClampNeg z) m (c + 1) := by
  have ey : y.toNatClampNeg = y.toInt.toNat := rfl
  intro u w hu
  by_cases k : u = y.toNatClampNeg
  · rw [k, up_e, hz w]
    rw [k] at hu
    have a := h y.toNatClampNeg w hu
    have b := h y.toNatClampNeg m hu
    have d := h m w hm
    constructor
    · intro q
      rcases q with q | ⟨q1, q2⟩
      · rcases a.mp q with q | ⟨q, -, -⟩
        · exact Or.inl q
        · omega
      · have q3 : bt (f0 y.toNatClampNeg) m = true := by
          rcases b.mp q1 with q | ⟨q, -, -⟩
          · exact q
          · omega
        have q4 : bt (f0 m) w = true := by
          rcases d.mp q2 with q | ⟨-, -, q⟩
          · exact q
          · exact q
        exact Or.inr ⟨by omega, q3, q4⟩
    · intro q
      rcases q with q | ⟨-, q1, q2⟩
      · exact Or.inl (a.mpr (Or.inl q))
      · exact Or.inr ⟨b.mpr (Or.inl q1), d.mpr (Or.inl q2)⟩
  · rw [up_n k, h u w hu]
    constructor
    · intro q
      rcases q with q | ⟨q, q2⟩
      · exact Or.inl q
      · exact Or.inr ⟨by omega, q2⟩
    · intro q
      rcases q with q | ⟨q, q2⟩
      · exact Or.inl q
      · exact Or.inr ⟨by omega, q2⟩
theorem rq2_s {s : GS} {f0 f : Nat → Int32} {m : Nat} {c : Int} (hI : Inv s) (h : RQ2 s f0 m) (h3 : RQ3 (nmx s) f0 f m c) (hc : nmx s ≤ c) (hm : (m : Int) < nmx s) : RQ2 s f (m + 1) := by
  obtain ⟨⟨h1, h2⟩, ht⟩ := h
  have up : ∀ u w : Nat, (u : Int) < nmx s → bt (f0 u) w = true → bt (f u) w = true := fun u w hu hb => (h3 u w hu).mpr (Or.inl hb)
  refine ⟨⟨fun u w hu hb => ?_, fun a ha hth => ?_⟩, fun v u w hv hu b1 b2 => ?_⟩
  · rcases (h3 u w hu).mp hb with q | ⟨-, q1, q2⟩
    · exact h1 u w hu q
    · exact wl_tr (h1 u m hu q1) (h1 m w hm q2)
  · have hn := arc_n hI ha hth
    exact up _ _ (nat_jn hn.1.1 hn.1.2).2 (h2 a ha hth)
  · have hvn : (v : Int) < nmx s := by omega
    have p1 := (h3 u v hu).mp b1
    have p2 := (h3 v w hvn).mp b2
    refine (h3 u w hu).mpr ?_
    by_cases k : v = m
    · rw [k] at p1 p2
      have q1 : bt (f0 u) m = true := by
        rcases p1 with q | ⟨-, q, -⟩
        · exact q
        · exact q
      have q2 : bt (f0 m) w = true := by
        rcases p2 with q | ⟨-, -, q⟩
        · exact q
        · exact q
      exact Or.inr ⟨by omega, q1, q2⟩
    · have hvm : v < m := by omega
      rcases p1 with q | ⟨q0, q1, q2⟩ <;> rcases p2 with r | ⟨r0, r1, r2⟩
      · exact Or.inl (ht v u w hvm hu q r)
      · exact Or.inr ⟨by omega, ht v u m hvm hu q r1, r2⟩
      · exact Or.inr ⟨by omega, q1, ht v m w hvm hm q2 r⟩
      · exact Or.inr ⟨by omega, q1, r2⟩
def RCH (s : GS) (f : Nat → Int32) : Prop := (∀ u w : Nat, (u : Int) < nmx s → bt (f u) w = true → wlq (arq s) u w) ∧ (∀ u w : Nat, arq s u w → bt (f u) w = true) ∧ ∀ u v w : Nat, (u : Int) < nmx s → (v : Int) < nmx s → bt (f u) v = true → bt (f v) w = true → bt (f u) w = true
theorem rch_e {s : GS} {f : Nat → Int32} {m : Nat} (h : RQ2 s f m) (hm : nmx s ≤ (m : Int)) : RCH s f := by
  refine ⟨h.1.1, fun u w ha => ?_, fun u v w hu hv b1 b2 => h.2 v u w (by omega) hu b1 b2⟩
  obtain ⟨a, ha, ht, e1, e2⟩ := ha
  have q := h.1.2 a ha ht
  rw [e1, e2] at q
  exact q
theorem rch_cg {s t : GS} {f : Nat → Int32} (h : RCH s f) (h2 : t.1 112 = s.1 112) (h3 : t.1 113 = s.1 113) (h4 : t.1 114 = s.1 114) (h7 : t.2.2.1 109 19 = s.2.2.1 109 19) (h8 : t.2.2.1 109 20 = s.2.2.1 109 20) : RCH t f := by
  have e := arq_cg h2 h3 h4 h7
  have n : nmx t = nmx s := by unfold nmx; rw [h8]
  unfold RCH
  rw [e, n]
  exact h
/-- a set from which y is reached within it -/
def BTS (t : GS) (y : Nat) (set : Int32) : Prop := bt set y = true ∧ (∀ v : Nat, bt set v = true → (v : Int) < nmx t) ∧ ∀ v : Nat, bt set v = true → wlq (fun u w => arq t u w ∧ bt set u = true ∧ bt set w = true) v y
theorem bts_i {t : GS} {f : Nat → Int32} {x y : Nat} {set : Int32} (hI : Inv t) (hx : (x : Int) < nmx t) (hy : (y : Int) < nmx t) (hS : ∀ j : Nat, (j : Int) < nmx t → bt (f j) j = true) (hR : RCH t f) (hset : ∀ v : Nat, (bt set v = true ↔ ((v : Int) < nmx t ∧ bt (f x) v = true ∧ bt (f v) y = true))) (hnz : set.toInt ≠ 0) : BTS t y set ∧ bt set x = true := by
  obtain ⟨h1, h2, h3⟩ := hR
  obtain ⟨k, -, hk⟩ := cbf_pos (nz_cb hnz)
  obtain ⟨k1, k2, k3⟩ := (hset k).mp hk
  have hxy := h3 x k y hx k1 k2 k3
  have comp : ∀ (j u : Nat), (u : Int) < nmx t → wkq (arq t) j u y → bt (f u) y = true := by
    intro j
    induction j with
    | zero => intro u hu h; rw [show u = y from h]; exact hS y hy
    | succ j ih =>
      intro u hu h
      obtain ⟨z, hz, hw⟩ := h
      have hn := arq_n hI hz
      exact h3 u z y hu hn.2.2 (h2 u z hz) (ih z hn.2.2 hw)
  have main : ∀ j v, bt set v = true → wkq (arq t) j v y → wlq (fun u w => arq t u w ∧ bt set u = true ∧ bt set w = true) v y := by
    intro j
    induction j with
    | zero => intro v _ h; rw [show v = y from h]; exact wl_0
    | succ j ih =>
      intro v hv h
      obtain ⟨z, hz, hw⟩ := h
      have hn := arq_n hI hz
      obtain ⟨v1, v2, v3⟩ := (hset v).mp hv
      have hzs : bt set z = true := (hset z).mpr ⟨hn.2.2, h3 x v z hx v1 v2 (h2 v z hz), comp j z hn.2.2 hw⟩
      obtain ⟨i, hi⟩ := ih z hzs hw
      exact ⟨i + 1, z, ⟨hz, hv, hzs⟩, hi⟩
  refine ⟨⟨(hset y).mpr ⟨hy, hxy, hS y hy⟩, fun v hv => ((hset v).mp hv).1, fun v hv => ?_⟩, (hset x).mpr ⟨hx, hS x hx, hxy⟩⟩
  obtain ⟨v1, v2, v3⟩ := (hset v).mp hv
  obtain ⟨j, hj⟩ := h1 v y v1 v3
  exact main j v hv hj
/-- toGoal: far, with the arc by which it was last changed -/
def TGI (s : GS) (y : Nat) (set : Int32) (B : Int) (t : GS) : Prop := (t.2.1 130 y).toInt < 9000000000000000 ∧ ∃ (τ : Nat → Nat) (T : Nat), (∀ v, τ v < T) ∧ ∀ v : Nat, v < 32 → (v : Int) < nmx s → (t.2.1 130 v).toInt < 9000000000000000 → (-B ≤ (t.2.1 130 v).toInt ∧ (t.2.1 130 v).toInt ≤ B) ∧ (v ≠ y → ∃ a : Nat, a < 160 ∧ (s.1 112 (bs s + a)).toInt ≠ 0 ∧ (s.1 113 (bs s + a)).toNatClampNeg = v ∧ bt set v = true ∧ bt set (s.1 114 (bs s + a)).toNatClampNeg = true ∧ (t.2.1 130 (s.1 114 (bs s + a)).toNatClampNeg).toInt < 9000000000000000 ∧ (t.2.1 130 (s.1 114 (bs s + a)).toNatClampNeg).toInt + (s.1 115 (bs s + a)).toInt ≤ (t.2.1 130 v).toInt ∧ ((t.2.1 130 (s.1 114 (bs s + a)).toNatClampNeg).toInt + (s.1 115 (bs s + a)).toInt = (t.2.1 130 v).toInt → τ (s.1 114 (bs s + a)).toNatClampNeg < τ v))
def TCL (s : GS) (set : Int32) (t : GS) (k : Nat) : Prop := ∀ a, a < k → (s.1 112 (bs s + a)).toInt ≠ 0 → bt set (s.1 113 (bs s + a)).toNatClampNeg = true → bt set (s.1 114 (bs s + a)).toNatClampNeg = true → (t.2.1 130 (s.1 114 (bs s + a)).toNatClampNeg).toInt < 9000000000000000 → (t.2.1 130 (s.1 113 (bs s + a)).toNatClampNeg).toInt ≤ (t.2.1 130 (s.1 114 (bs s + a)).toNatClampNeg).toInt + (s.1 115 (bs s + a)).toInt
theorem tgi_w {s t : GS} {y : Nat} {set : Int32} {B C : Int} (h : TGI s y set B t) (hBC : B ≤ C) : TGI s y set C t := by
  obtain ⟨h1, τ, T, h2, h3⟩ := h
  refine ⟨h1, τ, T, h2, fun v hv hn hq => ?_⟩
  have q := h3 v hv hn hq
  exact ⟨⟨by omega, by omega⟩, q.2⟩
theorem tgi_0 {s t : GS} {y : Nat} {set : Int32} {B : Int} (hB : 0 ≤ B) (hy : (t.2.1 130 y).toInt = 0) (h : ∀ v : Nat, (v : Int) < nmx s → v ≠ y → (t.2.1 130 v).toInt = 9000000000000000) : TGI s y set B t := by
  refine ⟨by omega, fun _ => 0, 1, fun _ => Nat.zero_lt_one, fun v hv hn hq => ?_⟩
  by_cases c : v = y
  · rw [c, hy]
    exact ⟨⟨by omega, by omega⟩, fun k => absurd rfl k⟩
  · have := h v hn c
    omega
theorem tgi_ch {s t T2 : GS} {y : Nat} {set : Int32} {B C : Int} {a : Nat} {u v : Int32} {p z wl : Int64} {w : Int32} (hI : Inv s) (h : TGI s y set B t) (ha : a < 160) (ht : (s.1 112 (bs s + a)).toInt ≠ 0) (hv : v = s.1 113 (bs s + a)) (hu : u = s.1 114 (bs s + a)) (hw : w = s.1 115 (bs s + a)) (bv : bt set v.toNatClampNeg = true) (bu : bt set u.toNatClampNeg = true) (ep : p = t.2.1 130 u.toNatClampNeg) (hp : p.toInt < 9000000000000000) (ez : z = p + wl) (el : wl.toInt = w.toInt) (hlt : z.toInt < (t.2.1 130 v.toNatClampNeg).toInt) (hT : T2.2.1 130 = vp_updL (t.2.1 130) v.toNatClampNeg z) (hB : 0 ≤ B) (hB2 : B ≤ 1000000000000) (hC : B + 1000000 ≤ C) : TGI s y set C T2 := by
  obtain ⟨h1, τ, T, h2, h3⟩ := h
  have hn := arc_n hI ha ht
  rw [← hv, ← hu] at hn
  have n1 := nat_jn hn.1.1 hn.1.2
  have n2 := nat_jn hn.2.1.1 hn.2.1.2
  have hb : In (s.2.2.1 109 19) 0 160 := inv_F hI 0 160 rfl rfl
  obtain ⟨b1, b2⟩ := hb
  have eb : bs s = (s.2.2.1 109 19).toInt.toNat := rfl
  have hwr : In (s.1 115 (bs s + a)) (-1000000) 1000000 := hI.1.1 115 (bs s + a) (show bs s + a < 480 by omega)
  rw [← hw] at hwr
  obtain ⟨w1, w2⟩ := hwr
  have pb := (h3 _ n2.1 n2.2 (by rw [← ep]; exact hp)).1
  rw [← ep] at pb
  have hz : z.toInt = p.toInt + w.toInt := by rw [ladd_t ez (by omega) (by omega), el]
  have fv : (T2.2.1 130 v.toNatClampNeg).toInt = z.toInt := by rw [hT, ul_eq]
  have fo : ∀ k, k ≠ v.toNatClampNeg → (T2.2.1 130 k).toInt = (t.2.1 130 k).toInt := by intro k hk; rw [hT, ul_ne hk]
  have fle : ∀ k, (T2.2.1 130 k).toInt ≤ (t.2.1 130 k).toInt := by
    intro k
    by_cases c : k = v.toNatClampNeg
    · rw [c, fv]; omega
    · rw [fo k c]; exact Int.le_refl _
  refine ⟨by have := fle y; omega, fun k => if k = v.toNatClampNeg then T else τ k, T + 1, fun k => ?_, fun k hk hkn hq => ?_⟩
  · dsimp only
    have := h2 k
    split <;> omega
  · dsimp only
    by_cases c : k = v.toNatClampNeg
    · rw [c, fv]
      refine ⟨⟨by omega, by omega⟩, fun _ => ⟨a, ha, ht, by rw [hv], bv, by rw [← hu]; exact bu, ?_, ?_, ?_⟩⟩
      · rw [← hu]
        have := fle u.toNatClampNeg
        rw [ep] at hp
        omega
      · rw [← hu, ← hw]
        have := fle u.toNatClampNeg
        rw [← ep] at this
        omega
      · rw [← hu, ← hw, if_pos rfl]
        intro q
        by_cases c2 : u.toNatClampNeg = v.toNatClampNeg
        · exfalso
          rw [c2, fv] at q
          rw [c2] at ep
          rw [← ep] at hlt
          omega
        · rw [if_neg c2]; exact h2 _
    · rw [fo k c] at hq ⊢
      obtain ⟨q1, q2⟩ := h3 k hk hkn hq
      refine ⟨⟨by omega, by omega⟩, fun hy => ?_⟩
      obtain ⟨a2, r1, r2, r3, r4, r5, r6, r7, r8⟩ := q2 hy
      refine ⟨a2, r1, r2, r3, r4, r5, ?_, ?_, ?_⟩
      · have := fle (s.1 114 (bs s + a2)).toNatClampNeg
        omega
      · have := fle (s.1 114 (bs s + a2)).toNatClampNeg
        omega
      · intro q
        rw [if_neg c]
        by_cases c2 : (s.1 114 (bs s + a2)).toNatClampNeg = v.toNatClampNeg
        · exfalso
          rw [c2] at q r7
          rw [fv] at q
          omega
        · rw [if_neg c2]
          rw [fo _ c2] at q
          exact r8 q
theorem tcl_s {s t : GS} {set : Int32} {k : Nat} (h : TCL s set t k) (hk : (s.1 112 (bs s + k)).toInt ≠ 0 → bt set (s.1 113 (bs s + k)).toNatClampNeg = true → bt set (s.1 114 (bs s + k)).toNatClampNeg = true → (t.2.1 130 (s.1 114 (bs s + k)).toNatClampNeg).toInt < 9000000000000000 → (t.2.1 130 (s.1 113 (bs s + k)).toNatClampNeg).toInt ≤ (t.2.1 130 (s.1 114 (bs s + k)).toNatClampNeg).toInt + (s.1 115 (bs s + k)).toInt) : TCL s set t (k + 1) := by
  intro a ha
  by_cases c : a = k
  · rw [c]; exact hk
  · exact h a (by omega)
/-- tight arcs -/
def TAQ (s : GS) (set : Int32) (u w : Nat) : Prop := ∃ a : Nat, a < 160 ∧ (s.1 112 (bs s + a)).toInt ≠ 0 ∧ (s.1 113 (bs s + a)).toNatClampNeg = u ∧ (s.1 114 (bs s + a)).toNatClampNeg = w ∧ bt set u = true ∧ bt set w = true ∧ (s.2.1 130 w).toInt < 9000000000000000 ∧ (s.2.1 130 u).toInt = (s.2.1 130 w).toInt + (s.1 115 (bs s + a)).toInt
def FWP (t : GS) (y : Nat) (set : Int32) : Prop := bt set y = true ∧ (∀ v : Nat, bt set v = true → (v : Int) < nmx t ∧ (t.2.1 130 v).toInt < 9000000000000000 ∧ -1000000000000 ≤ (t.2.1 130 v).toInt ∧ (t.2.1 130 v).toInt ≤ 1000000000000) ∧ ∃ r : Nat → Nat, ∀ v : Nat, bt set v = true → (r v : Int) < nmx t ∧ (v ≠ y → ∃ w, TAQ t set v w ∧ r w < r v)
theorem fwp_i {s t : GS} {y : Nat} {set : Int32} {B : Int} (hI : Inv s) (h2 : t.1 112 = s.1 112) (h3 : t.1 113 = s.1 113) (h4 : t.1 114 = s.1 114) (h5 : t.1 115 = s.1 115) (h7 : t.2.2.1 109 19 = s.2.2.1 109 19) (h8 : t.2.2.1 109 20 = s.2.2.1 109 20) (hb : BTS s y set) (h : TGI s y set B t) (hB : B ≤ 1000000000000) (hc : TCL s set t 160) : FWP t y set := by
  have nt : nmx t = nmx s := by unfold nmx; rw [h8]
  have bt' : bs t = bs s := by unfold bs; rw [h7]
  obtain ⟨b1, b2, b3⟩ := hb
  obtain ⟨g1, τ, T, g2, g3⟩ := h
  have fin : ∀ j v, bt set v = true → wkq (fun u w => arq s u w ∧ bt set u = true ∧ bt set w = true) j v y → (t.2.1 130 v).toInt < 9000000000000000 := by
    intro j
    induction j with
    | zero => intro v _ q; rw [show v = y from q]; exact g1
    | succ j ih =>
      intro v hv q
      obtain ⟨x, ⟨hx, -, hxs⟩, hw⟩ := q
      have hn := arq_n hI hx
      have hf := ih x hxs hw
      have bx := (g3 x hn.2.1 hn.2.2 hf).1
      obtain ⟨a, ha, ht, e1, e2⟩ := hx
      have hwr : In (s.1 115 (bs s + a)) (-1000000) 1000000 := by
        have hb : In (s.2.2.1 109 19) 0 160 := inv_F hI 0 160 rfl rfl
        obtain ⟨p1, p2⟩ := hb
        have eb : bs s = (s.2.2.1 109 19).toInt.toNat := rfl
        exact hI.1.1 115 (bs s + a) (show bs s + a < 480 by omega)
      obtain ⟨w1, w2⟩ := hwr
      have q := hc a ha ht
      rw [e1, e2] at q
      have := q hv hxs hf
      omega
  have fin2 : ∀ v, bt set v = true → (t.2.1 130 v).toInt < 9000000000000000 := by
    intro v hv
    obtain ⟨j, hj⟩ := b3 v hv
    exact fin j v hv hj
  refine ⟨b1, fun v hv => ?_, fun v => cq (fun u => decide (τ u < τ v)) (nmx s).toNat, fun v hv => ⟨?_, fun hy => ?_⟩⟩
  · have f := fin2 v hv
    have q := (g3 v (bt_lt hv) (b2 v hv) f).1
    exact ⟨by rw [nt]; exact b2 v hv, f, by omega, by omega⟩
  · rw [nt]
    have hvn := b2 v hv
    have q := cq_lt (p := fun u => decide (τ u < τ v)) (q := fun _ => true) (k := v) (nmx s).toNat (fun _ _ _ => rfl) (by omega) (decide_eq_false (Nat.lt_irrefl _)) rfl
    have q2 := cq_le (fun _ => true) (nmx s).toNat
    dsimp only
    omega
  · obtain ⟨a, r1, r2, r3, r4, r5, r6, r7, r8⟩ := (g3 v (bt_lt hv) (b2 v hv) (fin2 v hv)).2 hy
    have cl := hc a r1 r2 (by rw [r3]; exact hv) r5 r6
    rw [r3] at cl
    have tl := r8 (by omega)
    have hwn := b2 _ r5
    refine ⟨(s.1 114 (bs s + a)).toNatClampNeg, ⟨a, r1, by rw [h2, bt']; exact r2, by rw [h3, bt']; exact r3, by rw [h4, bt'], hv, r5, r6, by rw [h5, bt']; omega⟩, ?_⟩
    refine cq_lt (k := (s.1 114 (bs s + a)).toNatClampNeg) (nmx s).toNat (fun i _ hi => ?_) (by omega) (decide_eq_false (Nat.lt_irrefl _)) (decide_eq_true tl)
    exact decide_eq_true (Nat.lt_trans (of_decide_eq_true hi) tl)
/-- fewest: how many tight arcs lead to y -/
def HHQ (E : Nat → Nat → Prop) (y : Nat) : Nat → Nat → Prop
  | 0, v => v = y
  | j + 1, v => HHQ E y j v ∨ ∃ w, E v w ∧ HHQ E y j w
theorem hh_m {E : Nat → Nat → Prop} {y j v : Nat} (h : HHQ E y j v) : ∀ k, j ≤ k → HHQ E y k v := by
  intro k
  induction k with
  | zero => intro hk; rw [show 0 = j by omega]; exact h
  | succ k ih =>
    intro hk
    by_cases c : j = k + 1
    · rw [← c]; exact h
    · exact Or.inl (ih (by omega))
def FQ (s : GS) (y : Nat) (set : Int32) (f : Nat → Int32) (i : Nat) : Prop := (∀ v : Nat, v < 32 → (v : Int) < nmx s → 0 ≤ (f v).toInt ∧ (f v).toInt ≤ 1000) ∧ (∀ j v : Nat, j ≤ i → v < 32 → (v : Int) < nmx s → HHQ (TAQ s set) y j v → (f v).toInt ≤ (j : Int)) ∧ ∀ v : Nat, v < 32 → (v : Int) < nmx s → (f v).toInt < 1000 → HHQ (TAQ s set) y (f v).toNatClampNeg v
theorem fq_0 {s : GS} {y : Nat} {set : Int32} {f : Nat → Int32} (h : ∀ v : Nat, (v : Int) < nmx s → (f v).toInt = if v = y then 0 else 1000) : FQ s y set f 0 := by
  refine ⟨fun v _ hn => ?_, fun j v hj _ hn hh => ?_, fun v _ hn hq => ?_⟩
  · rw [h v hn]
    split <;> constructor <;> omega
  · have e : j = 0 := by omega
    rw [e] at hh
    rw [h v hn, if_pos (show v = y from hh)]
    omega
  · have e := h v hn
    by_cases c : v = y
    · rw [if_pos c] at e
      rw [show (f v).toNatClampNeg = 0 from (by show (f v).toInt.toNat = 0; omega)]
      exact c
    · rw [if_neg c] at e
      omega
def FQI (s : GS) (y : Nat) (set : Int32) (f : Nat → Int32) (i k : Nat) : Prop := FQ s y set f i ∧ ∀ a, a < k → (s.1 112 (bs s + a)).toInt ≠ 0 → bt set (s.1 113 (bs s + a)).toNatClampNeg = true → bt set (s.1 114 (bs s + a)).toNatClampNeg = true → (s.2.1 130 (s.1 114 (bs s + a)).toNatClampNeg).toInt < 9000000000000000 → (s.2.1 130 (s.1 113 (bs s + a)).toNatClampNeg).toInt = (s.2.1 130 (s.1 114 (bs s + a)).toNatClampNeg).toInt + (s.1 115 (bs s + a)).toInt → HHQ (TAQ s set) y i (s.1 114 (bs s + a)).toNatClampNeg → (f (s.1 113 (bs s + a)).toNatClampNeg).toInt ≤ (i : Int) + 1
theorem fqi_0 {s : GS} {y : Nat} {set : Int32} {f : Nat → Int32} {i : Nat} (h : FQ s y set f i) : FQI s y set f i 0 := ⟨h, fun a ha => absurd ha (Nat.not_lt_zero _)⟩
theorem fqi_no {s : GS} {y : Nat} {set : Int32} {f : Nat → Int32} {i k : Nat} (h : FQI s y set f i k) (hk : (s.1 112 (bs s + k)).toInt ≠ 0 → bt set (s.1 113 (bs s + k)).toNatClampNeg = true → bt set (s.1 114 (bs s + k)).toNatClampNeg = true → (s.2.1 130 (s.1 114 (bs s + k)).toNatClampNeg).toInt < 9000000000000000 → (s.2.1 130 (s.1 113 (bs s + k)).toNatClampNeg).toInt = (s.2.1 130 (s.1 114 (bs s + k)).toNatClampNeg).toInt + (s.1 115 (bs s + k)).toInt → False) : FQI s y set f i (k + 1) := by
  refine ⟨h.1, fun a ha q1 q2 q3 q4 q5 q6 => ?_⟩
  by_cases c : a = k
  · rw [c] at q1 q2 q3 q4 q5
    exact (hk q1 q2 q3 q4 q5).elim
  · exact h.2 a (by omega) q1 q2 q3 q4 q5 q6
theorem fqi_st {s : GS} {y : Nat} {set : Int32} {f : Nat → Int32} {i k : Nat} {u v x z : Int32} (hI : Inv s) (h : FQI s y set f i k) (hk : k < 160) (ht : (s.1 112 (bs s + k)).toInt ≠ 0) (hv : v = s.1 113 (bs s + k)) (hu : u = s.1 114 (bs s + k)) (bv : bt set v.toNatClampNeg = true) (bu : bt set u.toNatClampNeg = true) (h9 : (s.2.1 130 u.toNatClampNeg).toInt < 9000000000000000) (ht2 : (s.2.1 130 v.toNatClampNeg).toInt = (s.2.1 130 u.toNatClampNeg).toInt + (s.1 115 (bs s + k)).toInt) (hx : x.toInt = (f u.toNatClampNeg).toInt + 1) (hz : (x.toInt < (f v.toNatClampNeg).toInt ∧ z = x) ∨ ((f v.toNatClampNeg).toInt ≤ x.toInt ∧ z = f v.toNatClampNeg)) : FQI s y set (upd f v.toNatClampNeg z) i (k + 1) := by
  obtain ⟨⟨h1, h2, h3⟩, h4⟩ := h
  have hn := arc_n hI hk ht
  rw [← hv, ← hu] at hn
  have n1 := nat_jn hn.1.1 hn.1.2
  have n2 := nat_jn hn.2.1.1 hn.2.1.2
  have ta : TAQ s set v.toNatClampNeg u.toNatClampNeg := ⟨k, hk, ht, by rw [hv], by rw [hu], bv, bu, h9, ht2⟩
  have bu1 := h1 _ n2.1 n2.2
  have bv1 := h1 _ n1.1 n1.2
  have zle : z.toInt ≤ (f v.toNatClampNeg).toInt ∧ z.toInt ≤ x.toInt ∧ 0 ≤ z.toInt := by
    rcases hz with ⟨q, e⟩ | ⟨q, e⟩
    · rw [e]; exact ⟨by omega, by omega, by omega⟩
    · rw [e]; exact ⟨by omega, by omega, by omega⟩
  have fle : ∀ j, (upd f v.toNatClampNeg z j).toInt ≤ (f j).toInt := by
    intro j
    by_cases c : j = v.toNatClampNeg
    · rw [c, up_e]; exact zle.1
    · rw [up_n c]; exact Int.le_refl _
  refine ⟨⟨fun j hj hjn => ?_, fun m j hm hj hjn hh => ?_, fun j hj hjn hq => ?_⟩, fun a ha q1 q2 q3 q4 q5 q6 => ?_⟩
  · have := h1 j hj hjn
    have := fle j
    refine ⟨?_, by omega⟩
    by_cases c : j = v.toNatClampNeg
    · rw [c, up_e]; exact zle.2.2
    · rw [up_n c]; omega
  · have := h2 m j hm hj hjn hh
    have := fle j
    omega
  · by_cases c : j = v.toNatClampNeg
    · rw [c] at hjn ⊢
      rw [c, up_e] at hq
      rw [up_e]
      rcases hz with ⟨q, e⟩ | ⟨q, e⟩
      · rw [e]
        rw [e] at hq
        rw [show x.toNatClampNeg = (f u.toNatClampNeg).toNatClampNeg + 1 from (by show x.toInt.toNat = (f u.toNatClampNeg).toInt.toNat + 1; omega)]
        exact Or.inr ⟨_, ta, h3 _ n2.1 n2.2 (by omega)⟩
      · rw [e]
        rw [e] at hq
        exact h3 _ n1.1 n1.2 hq
    · rw [up_n c] at hq ⊢
      exact h3 j hj hjn hq
  · by_cases c : a = k
    · rw [c, ← hv, up_e]
      rw [c, ← hu] at q6
      have := h2 i _ (Nat.le_refl _) n2.1 n2.2 q6
      omega
    · have := h4 a (by omega) q1 q2 q3 q4 q5 q6
      have := fle (s.1 113 (bs s + a)).toNatClampNeg
      omega
theorem fq_r {s : GS} {y : Nat} {set : Int32} {f : Nat → Int32} {i : Nat} (h : FQI s y set f i 160) : FQ s y set f (i + 1) := by
  obtain ⟨⟨h1, h2, h3⟩, h4⟩ := h
  refine ⟨h1, fun j v hj hv hn hh => ?_, h3⟩
  by_cases c : j = i + 1
  · rw [c] at hh ⊢
    rcases hh with hh | ⟨w, ⟨a, a1, a2, a3, a4, a5, a6, a7, a8⟩, hw⟩
    · have := h2 i v (Nat.le_refl _) hv hn hh
      omega
    · have q := h4 a a1 a2
      rw [a3, a4] at q
      have := q a5 a6 a7 a8 hw
      omega
  · exact h2 j v (by omega) hv hn hh
/-- an arc that way goes -/
def WOK (t : GS) (set : Int32) (v a : Nat) : Prop := (t.1 112 (bs t + a)).toInt ≠ 0 ∧ (t.1 113 (bs t + a)).toNatClampNeg = v ∧ bt set (t.1 114 (bs t + a)).toNatClampNeg = true ∧ (t.2.1 130 (t.1 114 (bs t + a)).toNatClampNeg).toInt < 9000000000000000 ∧ (t.2.1 130 v).toInt = (t.2.1 130 (t.1 114 (bs t + a)).toNatClampNeg).toInt + (t.1 115 (bs t + a)).toInt ∧ (t.1 131 v).toInt = (t.1 131 (t.1 114 (bs t + a)).toNatClampNeg).toInt + 1
def WFN (t : GS) (y : Nat) (set : Int32) : Prop := ∀ v : Nat, bt set v = true → (v : Int) < nmx t ∧ (-1000000000000 ≤ (t.2.1 130 v).toInt ∧ (t.2.1 130 v).toInt ≤ 1000000000000) ∧ (0 ≤ (t.1 131 v).toInt ∧ (t.1 131 v).toInt ≤ 1000) ∧ (1 ≤ (t.1 131 v).toInt → ∃ a : Nat, a < 160 ∧ WOK t set v a)
theorem wfn_i {s t : GS} {y : Nat} {set : Int32} {n : Nat} (n1 : nmx s ≤ 32) (h2 : t.1 112 = s.1 112) (h3 : t.1 113 = s.1 113) (h4 : t.1 114 = s.1 114) (h5 : t.1 115 = s.1 115) (h6 : t.2.1 130 = s.2.1 130) (h7 : t.2.2.1 109 19 = s.2.2.1 109 19) (h8 : t.2.2.1 109 20 = s.2.2.1 109 20) (h : FWP s y set) (hf : FQ s y set (t.1 131) n) (hn : nmx s ≤ (n : Int)) : WFN t y set := by
  have nt : nmx t = nmx s := by unfold nmx; rw [h8]
  have bt' : bs t = bs s := by unfold bs; rw [h7]
  obtain ⟨b1, b2, r, hr⟩ := h
  obtain ⟨f1, f2, f3⟩ := hf
  have HR : ∀ (m v : Nat), r v ≤ m → bt set v = true → HHQ (TAQ s set) y (r v) v := by
    intro m
    induction m with
    | zero =>
      intro v hm hv
      by_cases c : v = y
      · exact hh_m (j := 0) c _ (Nat.zero_le _)
      · obtain ⟨w, -, hw⟩ := (hr v hv).2 c
        omega
    | succ m ih =>
      intro v hm hv
      by_cases c : v = y
      · exact hh_m (j := 0) c _ (Nat.zero_le _)
      · obtain ⟨w, hw, hlt⟩ := (hr v hv).2 c
        have hws : bt set w = true := by obtain ⟨a, -, -, -, -, -, q, -, -⟩ := hw; exact q
        have q := ih w (by omega) hws
        exact hh_m (j := r w + 1) (Or.inr ⟨w, hw, q⟩) _ (by omega)
  have le : ∀ v, bt set v = true → (t.1 131 v).toInt ≤ (r v : Int) := by
    intro v hv
    have a := (hr v hv).1
    exact f2 (r v) v (by omega) (bt_lt hv) (b2 v hv).1 (HR _ v (Nat.le_refl _) hv)
  intro v hv
  have bv := b2 v hv
  have fv := f1 v (bt_lt hv) bv.1
  refine ⟨by rw [nt]; exact bv.1, by rw [h6]; exact bv.2.2, fv, fun h1 => ?_⟩
  have lv := le v hv
  have rv := (hr v hv).1
  have n32 : (r v : Int) < 1000 := by
    have q := bt_lt hv
    rcases Int.lt_or_le (r v : Int) 1000 with z | z
    · exact z
    · exfalso
      omega
  have hh := f3 v (bt_lt hv) bv.1 (by omega)
  obtain ⟨k, hk⟩ : ∃ k, (t.1 131 v).toNatClampNeg = k + 1 := ⟨(t.1 131 v).toNatClampNeg - 1, by
    have e : (t.1 131 v).toNatClampNeg = (t.1 131 v).toInt.toNat := rfl
    omega⟩
  have ek : (t.1 131 v).toInt = (k : Int) + 1 := by
    have e : (t.1 131 v).toNatClampNeg = (t.1 131 v).toInt.toNat := rfl
    omega
  rw [hk] at hh
  rcases hh with hh | ⟨w, hw, hh⟩
  · have := f2 k v (by omega) (bt_lt hv) bv.1 hh
    omega
  · obtain ⟨a, a1, a2, a3, a4, a5, a6, a7, a8⟩ := id hw
    have bw := b2 w a6
    have lw := f2 k w (by omega) (bt_lt a6) bw.1 hh
    have fw := f1 w (bt_lt a6) bw.1
    have h4' := f3 w (bt_lt a6) bw.1 (by omega)
    have ew : (t.1 131 w).toNatClampNeg = (t.1 131 w).toInt.toNat := rfl
    have lv2 := f2 ((t.1 131 w).toNatClampNeg + 1) v (by omega) (bt_lt hv) bv.1 (Or.inr ⟨w, hw, h4'⟩)
    refine ⟨a, a1, ?_⟩
    unfold WOK
    rw [h2, h3, h4, h5, h6, bt', a4]
    exact ⟨a2, a3, a6, a7, a8, by omega⟩
theorem ix_k {s : GS} {u y : Int32} (hu : u = s.2.2.1 109 19) (h0 : 0 ≤ u.toInt) (h1 : u.toInt ≤ y.toInt) : bs s + (y.toInt - u.toInt).toNat = y.toNatClampNeg := by
  unfold bs
  rw [← hu]
  show u.toInt.toNat + (y.toInt - u.toInt).toNat = y.toInt.toNat
  omega
theorem bset_no {set z : Int32} {f : Nat → Int32} {x y : Nat} {v c : Int32} (h : ∀ w : Nat, (bt set w = true ↔ ((w : Int) < v.toInt ∧ bt (f x) w = true ∧ bt (f w) y = true))) (hc : c.toInt = v.toInt + 1) (h0 : 0 ≤ v.toInt) (hno : ¬ (bt (f x) v.toNatClampNeg = true ∧ bt (f v.toNatClampNeg) y = true)) (ez : z = set ||| Int32.ofInt 0) : ∀ w : Nat, (bt z w = true ↔ ((w : Int) < c.toInt ∧ bt (f x) w = true ∧ bt (f w) y = true)) := by
  intro w
  have ev : v.toNatClampNeg = v.toInt.toNat := rfl
  rw [bt_or ez, show (Int32.ofInt 0) = (0 : Int32) from rfl, bt_z, Bool.or_false, h w]
  constructor
  · intro q
    exact ⟨by omega, q.2⟩
  · intro q
    refine ⟨?_, q.2⟩
    by_cases k : w = v.toNatClampNeg
    · rw [k] at q; exact absurd q.2 hno
    · omega
theorem bset_yes {set z z1 : Int32} {f : Nat → Int32} {x y : Nat} {v c : Int32} (h : ∀ w : Nat, (bt set w = true ↔ ((w : Int) < v.toInt ∧ bt (f x) w = true ∧ bt (f w) y = true))) (hc : c.toInt = v.toInt + 1) (hv : In v 0 31) (h1 : bt (f x) v.toNatClampNeg = true) (h2 : bt (f v.toNatClampNeg) y = true) (e1 : z1 = Int32.ofInt 1 <<< (v &&& 31)) (ez : z = set ||| z1) : ∀ w : Nat, (bt z w = true ↔ ((w : Int) < c.toInt ∧ bt (f x) w = true ∧ bt (f w) y = true)) := by
  intro w
  have ev : v.toNatClampNeg = v.toInt.toNat := rfl
  have h0 := hv.1
  rw [bt_set e1 ez hv]
  by_cases k : w = v.toNatClampNeg
  · rw [k, decide_eq_true rfl, Bool.or_true]
    exact ⟨fun _ => ⟨by omega, h1, h2⟩, fun _ => rfl⟩
  · rw [decide_eq_false k, Bool.or_false, h w]
    constructor
    · intro q
      exact ⟨by omega, q.2⟩
    · intro q
      exact ⟨by omega, q.2⟩
theorem tgi_add {s t : GS} {y : Nat} {set : Int32} {B : Int} {u w : Int32} {p z wl : Int64} (h : TGI s y set B t) (hB0 : 0 ≤ B) (hB : B ≤ 1000000000000) (hu : In u 0 31) (hn : u.toInt < nmx s) (ep : p = t.2.1 130 u.toNatClampNeg) (hp : p.toInt < 9000000000000000) (hw : In w (-1000000) 1000000) (ez : z = p + wl) (el : wl.toInt = w.toInt) : z.toInt = p.toInt + w.toInt := by
  obtain ⟨-, τ, T, h2, h3⟩ := h
  have n := nat_jn hu hn
  have q := (h3 _ n.1 n.2 (by rw [← ep]; exact hp)).1
  rw [← ep] at q
  obtain ⟨w1, w2⟩ := hw
  rw [ladd_t ez (by omega) (by omega), el]
theorem wa_no {t : GS} {set : Int32} {v : Nat} {y z x : Int32} (h : (∀ a : Nat, y.toInt < (a : Int) → a < 160 → WOK t set v a → 0 ≤ x.toInt) ∧ (0 ≤ x.toInt → WOK t set v x.toNatClampNeg)) (hz : z.toInt = y.toInt - 1) (h0 : 0 ≤ y.toInt) (hno : WOK t set v y.toNatClampNeg → False) : (∀ a : Nat, z.toInt < (a : Int) → a < 160 → WOK t set v a → 0 ≤ x.toInt) ∧ (0 ≤ x.toInt → WOK t set v x.toNatClampNeg) := by
  refine ⟨fun a h1 h2 h3 => ?_, h.2⟩
  have ey : y.toNatClampNeg = y.toInt.toNat := rfl
  by_cases c : a = y.toNatClampNeg
  · rw [c] at h3; exact (hno h3).elim
  · exact h.1 a (by omega) h2 h3
theorem wa_yes {t : GS} {set : Int32} {v : Nat} {y z : Int32} (h0 : 0 ≤ y.toInt) (hw : WOK t set v y.toNatClampNeg) : (∀ a : Nat, z.toInt < (a : Int) → a < 160 → WOK t set v a → 0 ≤ y.toInt) ∧ (0 ≤ y.toInt → WOK t set v y.toNatClampNeg) := ⟨fun _ _ _ _ => h0, fun _ => hw⟩
end
section
/-! LOAD OF THE REFERENCE: what commands do, and that making them does the same -/
def fpx (b : Nat → Bool) : Nat → Nat → Nat
  | 0, i => i
  | k + 1, i => if b i = false then i else fpx b k (i + 1)
/-- the first free place, or 160 -/
def fpl (b : Nat → Bool) : Nat := fpx b 160 0
theorem fpx_eq {b : Nat → Bool} {r : Nat} (h1 : ∀ i, i < r → b i = true) : ∀ k i, i ≤ r → r ≤ i + k → (r < i + k → b r = false) → fpx b k i = r := by
  intro k
  induction k with
  | zero => intro i hi hr _; show i = r; omega
  | succ k ih =>
    intro i hi hr h2
    show (if b i = false then i else fpx b k (i + 1)) = r
    by_cases c : i = r
    · by_cases c2 : b i = false
      · rw [if_pos c2]; exact c
      · exfalso; apply c2; rw [c]; exact h2 (by omega)
    · rw [if_neg (by rw [h1 i (by omega)]; decide)]
      exact ih (i + 1) (by omega) (by omega) (fun q => h2 (by omega))
theorem fpl_eq {b : Nat → Bool} {r : Nat} (hr : r ≤ 160) (h1 : ∀ i, i < r → b i = true) (h2 : r < 160 → b r = false) : fpl b = r := fpx_eq h1 160 0 (by omega) (by omega) (fun q => h2 (by omega))
theorem fpx_cg {a b : Nat → Bool} (h : ∀ j, j < 160 → a j = b j) : ∀ k i, i + k ≤ 160 → fpx a k i = fpx b k i := by
  intro k
  induction k with
  | zero => intro i _; rfl
  | succ k ih =>
    intro i hi
    show (if a i = false then i else fpx a k (i + 1)) = (if b i = false then i else fpx b k (i + 1))
    rw [h i (by omega), ih (i + 1) (by omega)]
theorem fpl_cg {a b : Nat → Bool} (h : ∀ j, j < 160 → a j = b j) : fpl a = fpl b := fpx_cg h 160 0 (by omega)
def ubq (b : Nat → Bool) (p : Nat) (v : Bool) : Nat → Bool := fun i => if i = p then v else b i
def thg (s : GS) (g : Nat) : Nat → Bool := fun i => decide ((s.1 112 (g + i)).toInt ≠ 0)
def nq (x : Int32) (lo hi : Int) : Prop := lo ≤ x.toInt ∧ x.toInt ≤ hi
def G0S (s t : GS) : Prop := t.1 110 0 = s.1 110 0 ∧ ∀ i : Nat, i < 160 → t.1 112 i = s.1 112 i
def SDN (s t : GS) (c : Int) (m : Nat) : Prop :=
  (c = 110 → (t.1 110 2).toInt = (s.1 110 2).toInt + 1 ∧ (t.1 110 2).toInt ≤ 32 ∧ thg t 320 = thg s 320) ∧
  (c = 97 → t.1 110 2 = s.1 110 2 ∧ fpl (thg s 320) < 160 ∧ nq (s.1 128 m) 0 ((s.1 110 2).toInt - 1) ∧ nq (s.1 128 (m + 1)) 0 ((s.1 110 2).toInt - 1) ∧ nq (s.1 128 (m + 2)) (-1000000) 1000000 ∧ nq (s.1 128 (m + 3)) 0 1000000 ∧ thg t 320 = ubq (thg s 320) (fpl (thg s 320)) true) ∧
  (c = 116 → t.1 110 2 = s.1 110 2 ∧ nq (s.1 128 m) 0 159 ∧ thg t 320 = ubq (thg s 320) (s.1 128 m).toNatClampNeg false) ∧
  (c ≠ 110 → c ≠ 97 → c ≠ 116 → t.1 110 2 = s.1 110 2 ∧ nq (s.1 128 m) 0 159 ∧ nq (s.1 128 (m + 1)) (-1000000) 1000000 ∧ thg t 320 = thg s 320)
def DNE (s t : GS) (c : Int) (m : Nat) (R : Int) : Prop := G0S s t ∧ (R ≠ 0 → SDN s t c m)
theorem g0_rf {s : GS} : G0S s s := ⟨rfl, fun _ _ => rfl⟩
theorem dne_no {s t : GS} {c R : Int} {m : Nat} (h : t = s) (hR : R = 0) : DNE s t c m R := by
  rw [h]
  exact ⟨g0_rf, fun z => absurd hR z⟩
theorem g0_t {s t : GS} {i : Nat} {v : Int32} (h1 : t.1 112 = upd (s.1 112) i v) (h0 : t.1 110 = s.1 110) (hi : 320 ≤ i) : G0S s t := by
  refine ⟨by rw [h0], fun j hj => ?_⟩
  rw [h1]; unfold upd; rw [if_neg (by omega)]
theorem thg_u {s t : GS} {i p : Nat} {v : Int32} (h1 : t.1 112 = upd (s.1 112) i v) (hi : i = 320 + p) : thg t 320 = ubq (thg s 320) p (decide (v.toInt ≠ 0)) := by
  funext j
  unfold thg ubq
  rw [h1]
  unfold upd
  by_cases c : j = p
  · rw [if_pos (by omega), if_pos c]
  · rw [if_neg (by omega), if_neg c]
theorem dne_n {s : GS} {m : Nat} {x z : Int32} {c R : Int} (hc : c = 110) (hx : x = s.1 110 2) (hz : z.toInt = x.toInt + 1) (hR : R ≠ 0 → z.toInt ≤ 32) : DNE s (sI s 110 2 z) c m R := by
  have e : (sI s 110 2 z).1 110 = upd (s.1 110) 2 z := by simp [sI]
  have e2 : (sI s 110 2 z).1 112 = s.1 112 := by simp [sI]
  have e3 : (sI s 110 2 z).1 110 2 = z := by rw [e]; unfold upd; rw [if_pos rfl]
  refine ⟨⟨?_, fun j _ => by rw [e2]⟩, fun q => ⟨fun _ => ⟨?_, ?_, ?_⟩, fun q2 => by omega, fun q2 => by omega, fun q2 => absurd hc q2⟩⟩
  · rw [e]; unfold upd; rw [if_neg (by decide)]
  · rw [e3, hz, hx]
  · rw [e3]; exact hR q
  · unfold thg; rw [e2]
theorem nar_b {x : Int32} (h : In x 0 1) : vp_nar .boolean x = x := by
  rcases in01 h with e | e <;> rw [e] <;> rfl
theorem apt_bool : decide ((vp_nar .boolean (Int32.ofInt 1)).toInt ≠ 0) = true ∧ decide ((vp_nar .boolean (Int32.ofInt 0)).toInt ≠ 0) = false := ⟨rfl, rfl⟩
theorem dne_a {s : GS} {m p i : Nat} {c R : Int} (hc : c = 97) (hp : p = fpl (thg s 320)) (hp2 : p < 160) (hi : i = 320 + p) (h0 : nq (s.1 128 m) 0 ((s.1 110 2).toInt - 1)) (h1 : nq (s.1 128 (m + 1)) 0 ((s.1 110 2).toInt - 1)) (h2 : nq (s.1 128 (m + 2)) (-1000000) 1000000) (h3 : nq (s.1 128 (m + 3)) 0 1000000) : DNE s (sI s 112 i (vp_nar .boolean (Int32.ofInt 1))) c m R := by
  have e2 : (sI s 112 i (vp_nar .boolean (Int32.ofInt 1))).1 112 = upd (s.1 112) i (vp_nar .boolean (Int32.ofInt 1)) := sI_q
  have e0 : (sI s 112 i (vp_nar .boolean (Int32.ofInt 1))).1 110 = s.1 110 := sI_p rfl
  refine ⟨g0_t e2 e0 (by omega), fun _ => ⟨fun q => by omega, fun _ => ⟨by rw [e0], by rw [← hp]; exact hp2, h0, h1, h2, h3, ?_⟩, fun q => by omega, fun _ q => absurd hc q⟩⟩
  rw [thg_u e2 hi, apt_bool.1, ← hp]
theorem dne_t {s : GS} {m i : Nat} {c R : Int} (hc : c = 116) (h0 : nq (s.1 128 m) 0 159) (hi : i = 320 + (s.1 128 m).toNatClampNeg) : DNE s (sI s 112 i (vp_nar .boolean (Int32.ofInt 0))) c m R := by
  have e2 : (sI s 112 i (vp_nar .boolean (Int32.ofInt 0))).1 112 = upd (s.1 112) i (vp_nar .boolean (Int32.ofInt 0)) := sI_q
  have e0 : (sI s 112 i (vp_nar .boolean (Int32.ofInt 0))).1 110 = s.1 110 := sI_p rfl
  refine ⟨g0_t e2 e0 (by omega), fun _ => ⟨fun q => by omega, fun q => by omega, fun _ => ⟨by rw [e0], h0, ?_⟩, fun _ _ q => absurd hc q⟩⟩
  rw [thg_u e2 hi, apt_bool.2]
theorem dne_d {s : GS} {m : Nat} {c R : Int} (h1 : c ≠ 110) (h2 : c ≠ 97) (h3 : c ≠ 116) (h4 : nq (s.1 128 m) 0 159) (h5 : nq (s.1 128 (m + 1)) (-1000000) 1000000) : DNE s s c m R :=
  ⟨g0_rf, fun _ => ⟨fun q => absurd q h1, fun q => absurd q h2, fun q => absurd q h3, fun _ _ _ => ⟨rfl, h4, h5, rfl⟩⟩⟩
theorem t_s97 {y z : Int32} (e : z = y - Int32.ofInt 97) (h1 : 97 ≤ y.toInt) (h2 : y.toInt ≤ 122) : z.toInt = y.toInt - 97 := by
  rw [e, Int32.toInt_sub, show (Int32.ofInt 97).toInt = 97 from rfl]
  exact Int.bmod_eq_of_le (by omega) (by omega)
def SHP (c k r : Int) : Prop := (c = 110 → (k = 0 → r = 1) ∧ (k ≠ 0 → r = 3)) ∧ (c = 97 → (k < 4 → r = 2) ∧ (k = 4 → r = 1) ∧ (4 < k → r = 3)) ∧ (c ≠ 110 → c ≠ 97 → r ≠ 1 ∧ (2 ≤ k → r = 3) ∧ (k = 0 → r = 2))
/-- commands, one after the other -/
def simN (n : Int) (W : Nat → Int32) : Nat → Int
  | 0 => n
  | k + 1 => simN n W k + (if (W k).toInt = 110 then 1 else 0)
def simT (b : Nat → Bool) (W N : Nat → Int32) : Nat → Nat → Bool
  | 0 => b
  | k + 1 => if (W k).toInt = 97 then ubq (simT b W N k) (fpl (simT b W N k)) true else if (W k).toInt = 116 then ubq (simT b W N k) (N (5 * k)).toNatClampNeg false else simT b W N k
theorem simN_cg {n : Int} {W V : Nat → Int32} : ∀ k, (∀ j, j < k → W j = V j) → simN n W k = simN n V k := by
  intro k
  induction k with
  | zero => intro _; rfl
  | succ k ih =>
    intro h
    show simN n W k + _ = simN n V k + _
    rw [ih (fun j hj => h j (by omega)), h k (by omega)]
theorem simT_cg {b : Nat → Bool} {W V N M : Nat → Int32} : ∀ k, (∀ j, j < k → W j = V j) → (∀ j, j < 5 * k → N j = M j) → simT b W N k = simT b V M k := by
  intro k
  induction k with
  | zero => intro _ _; rfl
  | succ k ih =>
    intro h h2
    have e := ih (fun j hj => h j (by omega)) (fun j hj => h2 j (by omega))
    show (if (W k).toInt = 97 then _ else if (W k).toInt = 116 then _ else _) = (if (V k).toInt = 97 then _ else if (V k).toInt = 116 then _ else _)
    rw [e, h k (by omega), h2 (5 * k) (by omega)]
/-- command j is right where it stands -/
def RCQ (b : Nat → Bool) (n : Int) (W N : Nat → Int32) (j : Nat) : Prop :=
  ((W j).toInt = 110 → nq (N (5 * j)) 0 25 ∧ simN n W j ≤ 31) ∧
  ((W j).toInt = 97 → fpl (simT b W N j) < 160 ∧ nq (N (5 * j)) 0 (simN n W j - 1) ∧ nq (N (5 * j + 1)) 0 (simN n W j - 1) ∧ nq (N (5 * j + 2)) (-1000000) 1000000 ∧ nq (N (5 * j + 3)) 0 1000000 ∧ nq (N (5 * j + 4)) 0 25) ∧
  ((W j).toInt = 116 → nq (N (5 * j)) 0 159) ∧
  ((W j).toInt ≠ 110 → (W j).toInt ≠ 97 → (W j).toInt ≠ 116 → nq (N (5 * j)) 0 159 ∧ nq (N (5 * j + 1)) (-1000000) 1000000)
theorem rcq_cg {b : Nat → Bool} {n : Int} {W V N M : Nat → Int32} {k : Nat} (h : RCQ b n V M k) (h1 : ∀ j, j < k + 1 → W j = V j) (h2 : ∀ j, j < 5 * k + 5 → N j = M j) : RCQ b n W N k := by
  have e1 := simN_cg (n := n) (W := W) (V := V) k (fun j hj => h1 j (by omega))
  have e2 := simT_cg (b := b) (W := W) (V := V) (N := N) (M := M) k (fun j hj => h1 j (by omega)) (fun j hj => h2 j (by omega))
  unfold RCQ
  rw [e1, e2, h1 k (by omega), h2 (5 * k) (by omega), h2 (5 * k + 1) (by omega), h2 (5 * k + 2) (by omega), h2 (5 * k + 3) (by omega), h2 (5 * k + 4) (by omega)]
  exact h
def thz (t : GS) : Nat → Bool := fun i => if i < 160 then decide ((t.1 112 i).toInt ≠ 0) else false
theorem thz_g {s t : GS} (h : G0S s t) : thz t = thz s := by
  funext i
  unfold thz
  by_cases c : i < 160
  · rw [if_pos c, if_pos c, h.2 i c]
  · rw [if_neg c, if_neg c]
def LDQ (t : GS) (c : Nat) : Prop := (∀ j, j < c → RCQ (thz t) (t.1 110 0).toInt (t.1 127) (t.1 128) j) ∧ (t.1 110 2).toInt = simN (t.1 110 0).toInt (t.1 127) c ∧ ∀ i, i < 160 → thg t 320 i = simT (thz t) (t.1 127) (t.1 128) c i
theorem ldq_0 {s t : GS} (h1 : t.1 110 2 = s.1 110 0) (h2 : t.1 110 0 = s.1 110 0) (h3 : ∀ i : Nat, i < 160 → t.1 112 (320 + i) = s.1 112 i ∧ t.1 112 i = s.1 112 i) : LDQ t 0 := by
  refine ⟨fun j hj => absurd hj (Nat.not_lt_zero _), by show (t.1 110 2).toInt = (t.1 110 0).toInt; rw [h1, h2], fun i hi => ?_⟩
  show thg t 320 i = thz t i
  unfold thg thz
  rw [if_pos hi, (h3 i hi).1, (h3 i hi).2]
theorem ldq_cg {s t : GS} {c : Nat} (h : LDQ s c) (h0 : t.1 110 = s.1 110) (h2 : t.1 112 = s.1 112) (h7 : ∀ j, j < c → t.1 127 j = s.1 127 j) (h8 : ∀ j, j < 5 * c → t.1 128 j = s.1 128 j) : LDQ t c := by
  have ez : thz t = thz s := by unfold thz; rw [h2]
  have eg : thg t 320 = thg s 320 := by unfold thg; rw [h2]
  obtain ⟨a1, a2, a3⟩ := h
  refine ⟨fun j hj => ?_, ?_, fun i hi => ?_⟩
  · rw [ez, h0]
    exact rcq_cg (a1 j hj) (fun k hk => h7 k (by omega)) (fun k hk => h8 k (by omega))
  · rw [h0, simN_cg c (V := s.1 127) h7]; exact a2
  · rw [ez, eg, simT_cg c h7 h8]; exact a3 i hi
theorem ldq_s {s t : GS} {c : Nat} {cc R : Int} (h : LDQ s c) (hw : (s.1 127 c).toInt = cc) (hd : DNE s t cc (5 * c) R) (hR : R ≠ 0) (e7 : t.1 127 = s.1 127) (e8 : t.1 128 = s.1 128) (l1 : cc = 110 → nq (s.1 128 (5 * c)) 0 25) (l2 : cc = 97 → nq (s.1 128 (5 * c + 4)) 0 25) : LDQ t (c + 1) := by
  obtain ⟨a1, a2, a3⟩ := h
  obtain ⟨g, sd⟩ := hd
  obtain ⟨d1, d2, d3, d4⟩ := sd hR
  have ez := thz_g g
  have ef := fpl_cg a3
  refine ⟨fun j hj => ?_, ?_, fun i hi => ?_⟩
  · rw [ez, g.1, e7, e8]
    by_cases k : j = c
    · rw [k]
      refine ⟨fun q => ?_, fun q => ?_, fun q => ?_, fun q1 q2 q3 => ?_⟩
      · rw [hw] at q
        have := d1 q
        exact ⟨l1 q, by omega⟩
      · rw [hw] at q
        obtain ⟨-, p2, p3, p4, p5, p6, -⟩ := d2 q
        rw [ef] at p2
        rw [a2] at p3 p4
        exact ⟨p2, p3, p4, p5, p6, l2 q⟩
      · rw [hw] at q
        exact (d3 q).2.1
      · rw [hw] at q1 q2 q3
        have p := d4 q1 q2 q3
        exact ⟨p.2.1, p.2.2.1⟩
    · exact a1 j (by omega)
  · rw [g.1, e7]
    show _ = simN (s.1 110 0).toInt (s.1 127) c + (if (s.1 127 c).toInt = 110 then 1 else 0)
    rw [hw, ← a2]
    by_cases k1 : cc = 110
    · rw [if_pos k1]; exact (d1 k1).1
    · rw [if_neg k1]
      have e : t.1 110 2 = s.1 110 2 := by
        by_cases k2 : cc = 97
        · exact (d2 k2).1
        · by_cases k3 : cc = 116
          · exact (d3 k3).1
          · exact (d4 k1 k2 k3).1
      rw [e]; omega
  · rw [ez, e7, e8]
    show thg t 320 i = (if (s.1 127 c).toInt = 97 then ubq (simT (thz s) (s.1 127) (s.1 128) c) (fpl (simT (thz s) (s.1 127) (s.1 128) c)) true else if (s.1 127 c).toInt = 116 then ubq (simT (thz s) (s.1 127) (s.1 128) c) (s.1 128 (5 * c)).toNatClampNeg false else simT (thz s) (s.1 127) (s.1 128) c) i
    rw [hw]
    by_cases k2 : cc = 97
    · rw [if_pos k2, (d2 k2).2.2.2.2.2.2, ← ef]
      unfold ubq
      rw [a3 i hi]
    · rw [if_neg k2]
      by_cases k3 : cc = 116
      · rw [if_pos k3, (d3 k3).2.2]
        unfold ubq
        rw [a3 i hi]
      · rw [if_neg k3]
        by_cases k1 : cc = 110
        · rw [(d1 k1).2.2]; exact a3 i hi
        · rw [(d4 k1 k2 k3).2.2.2]; exact a3 i hi
theorem simN_b {b : Nat → Bool} {n : Int} {W N : Nat → Int32} {c : Nat} (h : ∀ j, j < c → RCQ b n W N j) (h0 : 0 ≤ n) (h1 : n ≤ 32) : ∀ k, k ≤ c → 0 ≤ simN n W k ∧ simN n W k ≤ 32 := by
  intro k
  induction k with
  | zero => intro _; exact ⟨h0, h1⟩
  | succ k ih =>
    intro hk
    have q := ih (by omega)
    have r := (h k (by omega)).1
    show 0 ≤ simN n W k + (if (W k).toInt = 110 then 1 else 0) ∧ simN n W k + (if (W k).toInt = 110 then 1 else 0) ≤ 32
    by_cases e : (W k).toInt = 110
    · rw [if_pos e]
      have := (r e).2
      constructor <;> omega
    · rw [if_neg e]; constructor <;> omega
theorem inv_n0 {s : GS} (hI : Inv s) : 0 ≤ (s.1 110 0).toInt ∧ (s.1 110 0).toInt ≤ 32 := hI.2.2.2.2.2.2.1.1
theorem ldq_n {s : GS} {c : Nat} (hI : Inv s) (h : LDQ s c) : 0 ≤ (s.1 110 2).toInt ∧ (s.1 110 2).toInt ≤ 32 := by
  have q := simN_b h.1 (inv_n0 hI).1 (inv_n0 hI).2 c (Nat.le_refl _)
  rw [h.2.1]; exact q
/-- what apply and make do to the arcs that are there -/
def APT (s t : GS) (k g : Nat) : Prop := ((s.1 118 k).toInt = 1 → ∃ v : Int32, v.toInt ≠ 0 ∧ t.1 112 = upd (s.1 112) (160 * g + (s.1 119 k).toNatClampNeg) v) ∧ ((s.1 118 k).toInt = 2 → ∃ v : Int32, v.toInt = 0 ∧ t.1 112 = upd (s.1 112) (160 * g + (s.1 119 k).toNatClampNeg) v) ∧ ((s.1 118 k).toInt ≠ 1 → (s.1 118 k).toInt ≠ 2 → t.1 112 = s.1 112)
theorem apt_1 {s t : GS} {k g i : Nat} {v : Int32} (hk : (s.1 118 k).toInt = 1) (e : t.1 112 = upd (s.1 112) i v) (hi : i = 160 * g + (s.1 119 k).toNatClampNeg) (hv : v.toInt ≠ 0) : APT s t k g := ⟨fun _ => ⟨v, hv, by rw [← hi]; exact e⟩, fun q => by omega, fun q => absurd hk q⟩
theorem apt_2 {s t : GS} {k g i : Nat} {v : Int32} (hk : (s.1 118 k).toInt = 2) (e : t.1 112 = upd (s.1 112) i v) (hi : i = 160 * g + (s.1 119 k).toNatClampNeg) (hv : v.toInt = 0) : APT s t k g := ⟨fun q => by omega, fun _ => ⟨v, hv, by rw [← hi]; exact e⟩, fun _ q => absurd hk q⟩
theorem apt_3 {s t : GS} {k g : Nat} (h1 : (s.1 118 k).toInt ≠ 1) (h2 : (s.1 118 k).toInt ≠ 2) (e : t.1 112 = s.1 112) : APT s t k g := ⟨fun q => absurd q h1, fun q => absurd q h2, fun _ _ => e⟩
def PMK (s t : GS) (w : Int) (a : Nat) : Prop := (w = 0 → (t.1 110 0).toInt = (s.1 110 0).toInt + 1) ∧ (w ≠ 0 → (t.1 110 0).toInt = (s.1 110 0).toInt) ∧ (w = 1 → thg t 0 = ubq (thg s 0) a true) ∧ (w = 2 → thg t 0 = ubq (thg s 0) a false) ∧ (w ≠ 1 → w ≠ 2 → thg t 0 = thg s 0)
theorem thg_0 {s t : GS} {a : Nat} {v : Int32} {b : Bool} (e : t.1 112 = upd (s.1 112) (160 * 0 + a) v) (hv : decide (v.toInt ≠ 0) = b) : thg t 0 = ubq (thg s 0) a b := by
  funext j
  unfold thg ubq
  rw [e]
  unfold upd
  by_cases c : j = a
  · rw [if_pos (by omega), if_pos c]; exact hv
  · rw [if_neg (by omega), if_neg c]
theorem pmk_i {s t u r : GS} {k : Nat} {w a : Int32} (hq : AQ t k 0) (hp : AP t u k 0) (ha : APT t u k 0) (h0 : t.1 110 = s.1 110) (h2 : t.1 112 = s.1 112) (h8 : t.1 118 = upd (s.1 118) k w) (h9 : t.1 119 = upd (s.1 119) k a) (r0 : r.1 = u.1) : PMK s r w.toInt a.toNatClampNeg := by
  have h8 : t.1 118 k = w := by rw [h8, up_e]
  have h9 : t.1 119 k = a := by rw [h9, up_e]
  have n1 := hp.1
  have n0 := hq.2.1
  rw [h0] at n0
  obtain ⟨p1, p2, p3⟩ := ha
  rw [h8] at p1 p2 p3
  rw [h9] at p1 p2
  have eg : thg r 0 = thg u 0 := by unfold thg; rw [r0]
  have es : thg t 0 = thg s 0 := by unfold thg; rw [h2]
  refine ⟨fun q => ?_, fun q => ?_, fun q => ?_, fun q => ?_, fun q1 q2 => ?_⟩
  · rw [r0, n1, cz_s0 (by rw [h8]; exact q), n0]; omega
  · rw [r0, n1, cz_s1 (by rw [h8]; exact q), n0]
  · obtain ⟨v, hv, e⟩ := p1 q
    rw [eg, ← es]; exact thg_0 e (decide_eq_true hv)
  · obtain ⟨v, hv, e⟩ := p2 q
    rw [eg, ← es]; exact thg_0 e (decide_eq_false (fun z => z hv))
  · rw [eg, ← es]; unfold thg; rw [p3 q1 q2]
/-- the second loop of load: after k of c commands -/
def LDK (t : GS) (c k : Nat) : Prop := ∃ (b : Nat → Bool) (n : Int), (∀ j, j < c → RCQ b n (t.1 127) (t.1 128) j) ∧ (t.1 110 0).toInt = simN n (t.1 127) k ∧ ∀ i, i < 160 → thg t 0 i = simT b (t.1 127) (t.1 128) k i
theorem ldk_0 {t : GS} {c : Nat} (h : LDQ t c) : LDK t c 0 := by
  refine ⟨thz t, (t.1 110 0).toInt, h.1, rfl, fun i hi => ?_⟩
  show thg t 0 i = thz t i
  unfold thg thz
  rw [if_pos hi, Nat.zero_add]
theorem ldk_r {t : GS} {c k : Nat} (h : LDK t c k) (hk : k < c) : ((t.1 127 k).toInt = 110 → nq (t.1 128 (5 * k)) 0 25 ∧ (t.1 110 0).toInt ≤ 31) ∧ ((t.1 127 k).toInt = 97 → fpl (thg t 0) < 160 ∧ nq (t.1 128 (5 * k)) 0 ((t.1 110 0).toInt - 1) ∧ nq (t.1 128 (5 * k + 1)) 0 ((t.1 110 0).toInt - 1) ∧ nq (t.1 128 (5 * k + 2)) (-1000000) 1000000 ∧ nq (t.1 128 (5 * k + 3)) 0 1000000 ∧ nq (t.1 128 (5 * k + 4)) 0 25) ∧ ((t.1 127 k).toInt = 116 → nq (t.1 128 (5 * k)) 0 159) ∧ ((t.1 127 k).toInt ≠ 110 → (t.1 127 k).toInt ≠ 97 → (t.1 127 k).toInt ≠ 116 → nq (t.1 128 (5 * k)) 0 159 ∧ nq (t.1 128 (5 * k + 1)) (-1000000) 1000000) := by
  obtain ⟨b, n, h1, h2, h3⟩ := h
  have q := h1 k hk
  unfold RCQ at q
  rw [← h2, ← fpl_cg h3] at q
  exact q
theorem ldk_s {s t : GS} {c k : Nat} {w : Int} {a : Nat} (h : LDK s c k) (hp : PMK s t w a) (e7 : t.1 127 = s.1 127) (e8 : t.1 128 = s.1 128) (hw : ((s.1 127 k).toInt = 110 → w = 0) ∧ ((s.1 127 k).toInt = 97 → w = 1 ∧ a = fpl (thg s 0)) ∧ ((s.1 127 k).toInt = 116 → w = 2 ∧ a = (s.1 128 (5 * k)).toNatClampNeg) ∧ ((s.1 127 k).toInt ≠ 110 → (s.1 127 k).toInt ≠ 97 → (s.1 127 k).toInt ≠ 116 → w = 3)) : LDK t c (k + 1) := by
  obtain ⟨b, n, h1, h2, h3⟩ := h
  obtain ⟨p0, p1, p2, p3, p4⟩ := hp
  obtain ⟨w0, w1, w2, w3⟩ := hw
  refine ⟨b, n, by rw [e7, e8]; exact h1, ?_, fun i hi => ?_⟩
  · rw [e7]
    show _ = simN n (s.1 127) k + (if (s.1 127 k).toInt = 110 then 1 else 0)
    rw [← h2]
    by_cases c1 : (s.1 127 k).toInt = 110
    · rw [if_pos c1]; exact p0 (w0 c1)
    · rw [if_neg c1]
      have hne : w ≠ 0 := by
        by_cases c2 : (s.1 127 k).toInt = 97
        · have := (w1 c2).1; omega
        · by_cases c3 : (s.1 127 k).toInt = 116
          · have := (w2 c3).1; omega
          · have := w3 c1 c2 c3; omega
      rw [p1 hne]; omega
  · rw [e7, e8]
    show thg t 0 i = (if (s.1 127 k).toInt = 97 then ubq (simT b (s.1 127) (s.1 128) k) (fpl (simT b (s.1 127) (s.1 128) k)) true else if (s.1 127 k).toInt = 116 then ubq (simT b (s.1 127) (s.1 128) k) (s.1 128 (5 * k)).toNatClampNeg false else simT b (s.1 127) (s.1 128) k) i
    by_cases c2 : (s.1 127 k).toInt = 97
    · rw [if_pos c2, p2 (w1 c2).1, (w1 c2).2, fpl_cg h3]
      unfold ubq
      rw [h3 i hi]
    · rw [if_neg c2]
      by_cases c3 : (s.1 127 k).toInt = 116
      · rw [if_pos c3, p3 (w2 c3).1, (w2 c3).2]
        unfold ubq
        rw [h3 i hi]
      · rw [if_neg c3]
        have hne : w ≠ 1 ∧ w ≠ 2 := by
          by_cases c1 : (s.1 127 k).toInt = 110
          · have := w0 c1; omega
          · have := w3 c1 c2 c3; omega
        rw [p4 hne.1 hne.2]; exact h3 i hi
end
section
/-! COLOURING OF THE REFERENCE -/
noncomputable def dq (p : Prop) : Bool := @decide p (Classical.propDecidable p)
theorem dq_t {p : Prop} (h : p) : dq p = true := @decide_eq_true p (Classical.propDecidable p) h
theorem dq_p {p : Prop} (h : dq p = true) : p := @of_decide_eq_true p (Classical.propDecidable p) h
theorem cbf_up {f : Nat → Bool} : ∀ m n, n ≤ m → cbf f n ≤ cbf f m := by
  intro m
  induction m with
  | zero => intro n h; rw [show n = 0 by omega]; exact Nat.le_refl _
  | succ m ih =>
    intro n h
    by_cases c : n = m + 1
    · rw [c]; exact Nat.le_refl _
    · have q := ih n (by omega)
      show cbf f n ≤ cbf f m + (f m).toNat
      omega
theorem cbf_add {f g : Nat → Bool} {d : Nat} : ∀ n, (∀ c, c < n → g c = true → f c = true ∨ c = d) → cbf g n ≤ cbf f n + (if d < n then 1 else 0) := by
  intro n
  induction n with
  | zero => intro _; exact Nat.zero_le _
  | succ n ih =>
    intro h
    have q := ih (fun c hc => h c (by omega))
    have r := h n (by omega)
    show cbf g n + (g n).toNat ≤ cbf f n + (f n).toNat + (if d < n + 1 then 1 else 0)
    have g1 : (g n).toNat ≤ 1 := by cases g n <;> decide
    by_cases c : n = d
    · rw [if_neg (show ¬ d < n by omega)] at q
      rw [if_pos (show d < n + 1 by omega)]
      omega
    · have e : (if d < n + 1 then 1 else 0) = (if d < n then 1 else (0 : Nat)) := by
        by_cases k : d < n
        · rw [if_pos k, if_pos (by omega)]
        · rw [if_neg k, if_neg (by omega)]
      rw [e]
      by_cases k : g n = true
      · rcases r k with r | r
        · rw [k, r]; omega
        · exact absurd r c
      · have k2 : g n = false := by cases hg : g n with
          | false => rfl
          | true => exact absurd hg k
        rw [k2]
        show cbf g n + 0 ≤ _
        omega
theorem cbf_full {f : Nat → Bool} : ∀ n, (∀ c, c < n → f c = true) → cbf f n = n := by
  intro n
  induction n with
  | zero => intro _; rfl
  | succ n ih =>
    intro h
    show cbf f n + (f n).toNat = n + 1
    rw [ih (fun c hc => h c (by omega)), h n (by omega)]
    rfl
/-- a colour that is free -/
theorem free_c {bars S : Int32} {χ : Nat → Int} {k : Nat} (hk : k ≤ 32) (h : cb bars + cb S < k) : ∃ c : Nat, c < k ∧ bt bars c = false ∧ ∀ u, bt S u = true → χ u ≠ (c : Int) := by
  apply Classical.byContradiction
  intro hn
  have all : ∀ c, c < k → bt bars c = true ∨ ∃ u, u < 32 ∧ bt S u = true ∧ χ u = (c : Int) := by
    intro c hc
    apply Classical.byContradiction
    intro q
    apply hn
    refine ⟨c, hc, ?_, fun u hu e => q (Or.inr ⟨u, bt_lt hu, hu, e⟩)⟩
    cases hb : bt bars c with
    | false => rfl
    | true => exact absurd (Or.inl hb) q
  have step : ∀ m, cbf (fun c => dq (bt bars c = true ∨ ∃ u, u < m ∧ bt S u = true ∧ χ u = (c : Int))) k ≤ cb bars + cbf (bt S) m := by
    intro m
    induction m with
    | zero =>
      have a := cbf_mono (f := fun c => dq (bt bars c = true ∨ ∃ u, u < 0 ∧ bt S u = true ∧ χ u = (c : Int))) (g := bt bars) (n := k) (fun c _ hq => by
        rcases dq_p hq with q | ⟨u, hu, -⟩
        · exact q
        · omega)
      have b := cbf_up (f := bt bars) 32 k hk
      have e : cb bars = cbf (bt bars) 32 := rfl
      omega
    | succ m ih =>
      show _ ≤ cb bars + (cbf (bt S) m + (bt S m).toNat)
      by_cases c : bt S m = true
      · have a := cbf_add (f := fun c => dq (bt bars c = true ∨ ∃ u, u < m ∧ bt S u = true ∧ χ u = (c : Int))) (g := fun c => dq (bt bars c = true ∨ ∃ u, u < m + 1 ∧ bt S u = true ∧ χ u = (c : Int))) (d := (χ m).toNat) k (fun c _ hq => by
          rcases dq_p hq with q | ⟨u, hu, q1, q2⟩
          · exact Or.inl (dq_t (Or.inl q))
          · by_cases e : u = m
            · rw [e] at q2
              exact Or.inr (by omega)
            · exact Or.inl (dq_t (Or.inr ⟨u, by omega, q1, q2⟩)))
        rw [c]
        show _ ≤ cb bars + (cbf (bt S) m + 1)
        have l : (if (χ m).toNat < k then 1 else 0) ≤ 1 := by split <;> omega
        omega
      · have a := cbf_mono (f := fun c => dq (bt bars c = true ∨ ∃ u, u < m + 1 ∧ bt S u = true ∧ χ u = (c : Int))) (g := fun c => dq (bt bars c = true ∨ ∃ u, u < m ∧ bt S u = true ∧ χ u = (c : Int))) (n := k) (fun c' _ hq => by
          rcases dq_p hq with q | ⟨u, hu, q1, q2⟩
          · exact dq_t (Or.inl q)
          · by_cases e : u = m
            · rw [e] at q1; exact absurd q1 c
            · exact dq_t (Or.inr ⟨u, by omega, q1, q2⟩))
        omega
  have f := cbf_full (f := fun c => dq (bt bars c = true ∨ ∃ u, u < 32 ∧ bt S u = true ∧ χ u = (c : Int))) k (fun c hc => dq_t (all c hc))
  have g := step 32
  have e : cb S = cbf (bt S) 32 := rfl
  omega
/-- a colouring of the nodes of T, beside what is settled -/
def Sol (adj : Nat → Nat → Prop) (σ : Nat → Int) (k : Int) (T : Nat → Prop) (χ : Nat → Int) : Prop := (∀ v, T v → 0 ≤ χ v ∧ χ v < k) ∧ ∀ v, T v → ∀ u, adj v u → (T u → χ u ≠ χ v) ∧ (0 ≤ σ u → χ v ≠ σ u)
def Ext (adj : Nat → Nat → Prop) (σ : Nat → Int) (k : Int) (T : Nat → Prop) : Prop := ∃ χ, Sol adj σ k T χ
theorem ext_sub {adj : Nat → Nat → Prop} {σ : Nat → Int} {k : Int} {T U : Nat → Prop} (h : Ext adj σ k T) (hs : ∀ v, U v → T v) : Ext adj σ k U := by
  obtain ⟨χ, h1, h2⟩ := h
  exact ⟨χ, fun v hv => h1 v (hs v hv), fun v hv u hu => ⟨fun hq => (h2 v (hs v hv) u hu).1 (hs u hq), (h2 v (hs v hv) u hu).2⟩⟩
/-- a node with few neighbours can be coloured last -/
theorem ext_peel {adj : Nat → Nat → Prop} {σ : Nat → Int} {k : Nat} {T : Nat → Prop} {v : Nat} {bars S : Int32} (hk : k ≤ 32) (hsym : ∀ a b, adj a b → adj b a) (hirr : ¬ adj v v) (hb : ∀ u, adj v u → 0 ≤ σ u → bt bars (σ u).toNat = true) (hS : ∀ u, adj v u → T u → u ≠ v → bt S u = true) (hc : cb bars + cb S < k) (h : Ext adj σ (k : Int) (fun u => T u ∧ u ≠ v)) : Ext adj σ (k : Int) T := by
  obtain ⟨χ, h1, h2⟩ := h
  obtain ⟨c, c1, c2, c3⟩ := free_c (χ := χ) hk hc
  have ne : ∀ u, u ≠ v → (fun x => if x = v then (c : Int) else χ x) u = χ u := fun u hu => if_neg hu
  have ev : (fun x => if x = v then (c : Int) else χ x) v = (c : Int) := if_pos rfl
  refine ⟨fun x => if x = v then (c : Int) else χ x, fun x hx => ?_, fun x hx u hu => ⟨fun hT => ?_, fun hs => ?_⟩⟩
  · by_cases e : x = v
    · rw [e, ev]; constructor <;> omega
    · rw [ne x e]; exact h1 x ⟨hx, e⟩
  · by_cases e : x = v
    · rw [e] at hu ⊢
      by_cases e2 : u = v
      · rw [e2] at hu; exact absurd hu hirr
      · rw [ev, ne u e2]
        exact c3 u (hS u hu hT e2)
    · by_cases e2 : u = v
      · rw [e2] at hu ⊢
        rw [ev, ne x e]
        exact fun q => c3 x (hS x (hsym _ _ hu) hx e) q.symm
      · rw [ne x e, ne u e2]
        exact (h2 x ⟨hx, e⟩ u hu).1 ⟨hT, e2⟩
  · by_cases e : x = v
    · rw [e] at hu ⊢
      rw [ev]
      intro q
      have b := hb u hu hs
      rw [show (σ u).toNat = c by omega, c2] at b
      cases b
    · rw [ne x e]
      exact (h2 x ⟨hx, e⟩ u hu).2 hs
/-- two sets without an arc between them -/
theorem ext_or {adj : Nat → Nat → Prop} {σ : Nat → Int} {k : Int} {T P : Nat → Prop} (hsym : ∀ a b, adj a b → adj b a) (hcl : ∀ a b, P a → adj a b → T b → P b) (h1 : Ext adj σ k P) (h2 : Ext adj σ k (fun u => T u ∧ ¬ P u)) : Ext adj σ k T := by
  obtain ⟨χ, a1, a2⟩ := h1
  obtain ⟨ψ, b1, b2⟩ := h2
  have yes : ∀ x, P x → (fun x => if dq (P x) = true then χ x else ψ x) x = χ x := fun x hx => if_pos (dq_t hx)
  have no : ∀ x, ¬ P x → (fun x => if dq (P x) = true then χ x else ψ x) x = ψ x := fun x hx => if_neg (fun q => hx (dq_p q))
  refine ⟨fun x => if dq (P x) = true then χ x else ψ x, fun x hx => ?_, fun x hx u hu => ⟨fun hT => ?_, fun hs => ?_⟩⟩
  · by_cases e : P x
    · rw [yes x e]; exact a1 x e
    · rw [no x e]; exact b1 x ⟨hx, e⟩
  · by_cases e : P x
    · have eu := hcl x u e hu hT
      rw [yes x e, yes u eu]
      exact (a2 x e u hu).1 eu
    · have eu : ¬ P u := fun q => e (hcl u x q (hsym _ _ hu) hx)
      rw [no x e, no u eu]
      exact (b2 x ⟨hx, e⟩ u hu).1 ⟨hT, eu⟩
  · by_cases e : P x
    · rw [yes x e]; exact (a2 x e u hu).2 hs
    · rw [no x e]; exact (b2 x ⟨hx, e⟩ u hu).2 hs
/-- two colours that nothing settled bears change places -/
def swq (b c x : Int) : Int := if x = b then c else if x = c then b else x
theorem swq_i {b c x y : Int} (h : swq b c x = swq b c y) : x = y := by
  unfold swq at h
  by_cases h1 : x = b <;> by_cases h2 : y = b <;> by_cases h3 : x = c <;> by_cases h4 : y = c <;> simp only [h1, h2, h3, h4, if_true, if_false] at h <;> omega
theorem sol_sw {adj : Nat → Nat → Prop} {σ : Nat → Int} {k b c : Int} {T : Nat → Prop} {χ : Nat → Int} (h : Sol adj σ k T χ) (hb : 0 ≤ b ∧ b < k) (hc : 0 ≤ c ∧ c < k) (hσ : ∀ u, 0 ≤ σ u → σ u < b ∧ σ u < c) : Sol adj σ k T (fun x => swq b c (χ x)) := by
  refine ⟨fun v hv => ?_, fun v hv u hu => ⟨fun hT q => (h.2 v hv u hu).1 hT (swq_i q), fun hs q => ?_⟩⟩
  · have := h.1 v hv
    show 0 ≤ swq b c (χ v) ∧ swq b c (χ v) < k
    unfold swq
    split
    · exact hc
    · split
      · exact hb
      · exact this
  · have a := (h.2 v hv u hu).2 hs
    have z := hσ u hs
    apply a
    have q2 : swq b c (χ v) = σ u := q
    unfold swq at q2
    by_cases e : χ v = b
    · rw [if_pos e] at q2; omega
    · rw [if_neg e] at q2
      by_cases e2 : χ v = c
      · rw [if_pos e2] at q2; omega
      · rw [if_neg e2] at q2; exact q2
/-- the search: nodes by depth, colours left, how many are in use, why a depth failed -/
def CJ (adj : Nat → Nat → Prop) (σ : Nat → Int) (k : Int) (P : Nat → Prop) (C : Nat → Int) (Tn : Nat → Nat) (L : Nat → Int32) (B : Nat → Int) (Y : Nat → Int32) (D : Nat) (d : Nat) : Prop := ∀ χ, Sol adj σ k P χ → (∀ x, bt (Y d) x = true → χ x = C x) → χ (Tn d) ≤ B d → bt (L d) (χ (Tn d)).toNat = true ∨ (d < D ∧ χ (Tn d) = C (Tn d))
/-- nothing is left: no colouring agrees with the reasons -/
theorem cj_no {adj : Nat → Nat → Prop} {σ : Nat → Int} {k : Int} {P : Nat → Prop} {C : Nat → Int} {Tn : Nat → Nat} {L : Nat → Int32} {B : Nat → Int} {Y : Nat → Int32} {D : Nat} (h : CJ adj σ k P C Tn L B Y D D) (hL : ∀ c, bt (L D) c = false) (hP : P (Tn D)) (hB : 0 ≤ B D) (hσ : ∀ u, 0 ≤ σ u → σ u < B D) (hY : ∀ x, bt (Y D) x = true → C x < B D) : ∀ χ, Sol adj σ k P χ → ¬ (∀ x, bt (Y D) x = true → χ x = C x) := by
  have base : ∀ χ, Sol adj σ k P χ → (∀ x, bt (Y D) x = true → χ x = C x) → ¬ χ (Tn D) ≤ B D := by
    intro χ h1 h2 h3
    rcases h χ h1 h2 h3 with q | q
    · rw [hL] at q; cases q
    · omega
  intro χ h1 h2
  have r := h1.1 _ hP
  have n := base χ h1 h2
  refine base (fun x => swq (B D) (χ (Tn D)) (χ x)) (sol_sw h1 ⟨hB, by omega⟩ r (fun u hu => by have := hσ u hu; constructor <;> omega)) (fun x hx => ?_) ?_
  · show swq (B D) (χ (Tn D)) (χ x) = C x
    have e := h2 x hx
    have l := hY x hx
    unfold swq
    rw [if_neg (by omega), if_neg (by omega)]
    exact e
  · show swq (B D) (χ (Tn D)) (χ (Tn D)) ≤ B D
    unfold swq
    rw [if_neg (by omega), if_pos rfl]
    exact Int.le_refl _
/-- a depth is gone back to: its colour is out, the reasons grow -/
theorem cj_pop {adj : Nat → Nat → Prop} {σ : Nat → Int} {k : Int} {P : Nat → Prop} {C C2 : Nat → Int} {Tn : Nat → Nat} {L : Nat → Int32} {B : Nat → Int} {Y Y2 : Nat → Int32} {bars : Int32} {D j : Nat} (h : CJ adj σ k P C Tn L B Y D j) (hj : j < D) (hno : ∀ χ, Sol adj σ k P χ → ¬ (∀ x, bt bars x = true → χ x = C x)) (hC : ∀ x, bt (Y2 j) x = true → C2 x = C x) (hY1 : ∀ x, bt (Y j) x = true → bt (Y2 j) x = true) (hY2 : ∀ x, bt bars x = true → x ≠ Tn j → bt (Y2 j) x = true) : CJ adj σ k P C2 Tn L B Y2 j j := by
  intro χ h1 h2 h3
  have ag : ∀ x, bt (Y2 j) x = true → χ x = C x := fun x hx => (h2 x hx).trans (hC x hx)
  rcases h χ h1 (fun x hx => ag x (hY1 x hx)) h3 with q | ⟨-, q⟩
  · exact Or.inl q
  · exfalso
    refine hno χ h1 (fun x hx => ?_)
    by_cases e : x = Tn j
    · rw [e]; exact q
    · exact ag x (hY2 x hx e)
/-- a depth that stays as it is -/
theorem cj_cg {adj : Nat → Nat → Prop} {σ : Nat → Int} {k : Int} {P : Nat → Prop} {C C2 : Nat → Int} {Tn Tn2 : Nat → Nat} {L L2 : Nat → Int32} {B B2 : Nat → Int} {Y Y2 : Nat → Int32} {D D2 d : Nat} (h : CJ adj σ k P C Tn L B Y D d) (hC : ∀ x, bt (Y d) x = true → C2 x = C x) (hT : Tn2 d = Tn d) (hL : L2 d = L d) (hB : B2 d = B d) (hY : Y2 d = Y d) (hD : d < D → d < D2 ∧ C2 (Tn d) = C (Tn d)) : CJ adj σ k P C2 Tn2 L2 B2 Y2 D2 d := by
  intro χ h1 h2 h3
  rw [hT, hB] at h3
  rw [hT, hL]
  rw [hY] at h2
  rcases h χ h1 (fun x hx => (h2 x hx).trans (hC x hx)) h3 with q | ⟨q1, q2⟩
  · exact Or.inl q
  · exact Or.inr ⟨(hD q1).1, q2.trans (hD q1).2.symm⟩
/-- a colour is taken from what is left -/
theorem cj_take {adj : Nat → Nat → Prop} {σ : Nat → Int} {k : Int} {P : Nat → Prop} {C C2 : Nat → Int} {Tn : Nat → Nat} {L L2 : Nat → Int32} {B : Nat → Int} {Y : Nat → Int32} {D c : Nat} (h : CJ adj σ k P C Tn L B Y D D) (hC : ∀ x, bt (Y D) x = true → C2 x = C x) (hc : C2 (Tn D) = (c : Int)) (hP : P (Tn D)) (hL : ∀ x, x ≠ c → bt (L D) x = true → bt (L2 D) x = true) : CJ adj σ k P C2 Tn L2 B Y (D + 1) D := by
  intro χ h1 h2 h3
  have r := h1.1 _ hP
  rcases h χ h1 (fun x hx => (h2 x hx).trans (hC x hx)) h3 with q | ⟨q, -⟩
  · by_cases e : (χ (Tn D)).toNat = c
    · exact Or.inr ⟨by omega, by rw [hc]; omega⟩
    · exact Or.inl (hL _ e q)
  · omega
/-- a new depth -/
theorem cj_new {adj : Nat → Nat → Prop} {σ : Nat → Int} {k : Int} {P : Nat → Prop} {C : Nat → Int} {Tn : Nat → Nat} {L : Nat → Int32} {B : Nat → Int} {Y : Nat → Int32} {D d : Nat} (hP : P (Tn d)) (hL : ∀ c : Nat, (c : Int) < k → (c : Int) ≤ B d → (∀ u, adj (Tn d) u → 0 ≤ C u → C u ≠ (c : Int)) → bt (L d) c = true) (hσ : ∀ u, adj (Tn d) u → 0 ≤ C u → C u = σ u ∨ P u) (hY : ∀ u, adj (Tn d) u → 0 ≤ C u → P u → bt (Y d) u = true) : CJ adj σ k P C Tn L B Y D d := by
  intro χ h1 h2 h3
  have r := h1.1 _ hP
  refine Or.inl (hL _ (by omega) (by omega) (fun u hu hc q => ?_))
  have s := h1.2 _ hP u hu
  by_cases e : P u
  · have a := h2 u (hY u hu hc e)
    exact s.1 e (by omega)
  · rcases hσ u hu hc with w | w
    · exact s.2 (by omega) (by omega)
    · exact e w
/-! count, barsOf, tightest -/
theorem cbf_s {f : Nat → Bool} {n : Nat} : ((cbf f (n + 1) : Nat) : Int) = (cbf f n : Int) + (if f n = true then 1 else 0) := by
  show ((cbf f n + (f n).toNat : Nat) : Int) = (cbf f n : Int) + (if f n = true then 1 else 0)
  cases f n with
  | false =>
    rw [if_neg (by decide)]
    show ((cbf f n + 0 : Nat) : Int) = (cbf f n : Int) + 0
    omega
  | true =>
    rw [if_pos rfl]
    show ((cbf f n + 1 : Nat) : Int) = (cbf f n : Int) + 1
    omega
def BAR (s : GS) (x : Nat) (m : Int) (z : Int32) : Prop := ∀ c : Nat, (bt z c = true ↔ ∃ u : Nat, (u : Int) < m ∧ bt (s.1 138 x) u = true ∧ 0 ≤ (s.1 142 u).toInt ∧ (s.1 142 u).toNatClampNeg = c)
theorem bar_0 {s : GS} {x : Nat} : BAR s x 0 (Int32.ofInt 0) := by
  intro c
  rw [show (Int32.ofInt 0) = (0 : Int32) from rfl, bt_z]
  refine ⟨fun h => (by cases h), fun h => ?_⟩
  obtain ⟨u, hu, -⟩ := h
  omega
theorem bar_no {s : GS} {x : Nat} {y w set z : Int32} (h : BAR s x y.toInt set) (hw : w.toInt = y.toInt + 1) (h0 : 0 ≤ y.toInt) (hno : bt (s.1 138 x) y.toNatClampNeg = true → 0 ≤ (s.1 142 y.toNatClampNeg).toInt → False) (ez : z = set ||| Int32.ofInt 0) : BAR s x w.toInt z := by
  intro c
  have ey : y.toNatClampNeg = y.toInt.toNat := rfl
  rw [bt_or ez, show (Int32.ofInt 0) = (0 : Int32) from rfl, bt_z, Bool.or_false, h c]
  constructor
  · intro q
    obtain ⟨u, h1, h2⟩ := q
    exact ⟨u, by omega, h2⟩
  · intro q
    obtain ⟨u, h1, h2, h3, h4⟩ := q
    by_cases e : u = y.toNatClampNeg
    · rw [e] at h2 h3; exact (hno h2 h3).elim
    · exact ⟨u, by omega, h2, h3, h4⟩
theorem bar_yes {s : GS} {x : Nat} {y w set z z1 v : Int32} (h : BAR s x y.toInt set) (hw : w.toInt = y.toInt + 1) (h0 : 0 ≤ y.toInt) (hb : bt (s.1 138 x) y.toNatClampNeg = true) (hv : v = s.1 142 y.toNatClampNeg) (hr : In v 0 31) (e1 : z1 = Int32.ofInt 1 <<< (v &&& 31)) (ez : z = set ||| z1) : BAR s x w.toInt z := by
  intro c
  have ey : y.toNatClampNeg = y.toInt.toNat := rfl
  rw [bt_set e1 ez hr, Bool.or_eq_true, h c]
  constructor
  · intro q
    rcases q with ⟨u, h1, h2⟩ | q
    · exact ⟨u, by omega, h2⟩
    · exact ⟨y.toNatClampNeg, by omega, hb, by rw [← hv]; exact hr.1, by rw [← hv]; exact (of_decide_eq_true q).symm⟩
  · intro q
    obtain ⟨u, h1, h2, h3, h4⟩ := q
    by_cases e : u = y.toNatClampNeg
    · rw [e, ← hv] at h4
      exact Or.inr (decide_eq_true h4.symm)
    · exact Or.inl ⟨u, by omega, h2, h3, h4⟩
def TGT (s : GS) (m : Int) (b : Int32) : Prop := (b.toInt < 0 → ∀ u : Nat, (u : Int) < m → bt (s.2.2.1 109 53) u = true → 0 ≤ (s.1 142 u).toInt) ∧ (0 ≤ b.toInt → b.toInt < m ∧ bt (s.2.2.1 109 53) b.toNatClampNeg = true ∧ (s.1 142 b.toNatClampNeg).toInt < 0)
theorem tgt_0 {s : GS} {b : Int32} (h : b.toInt < 0) : TGT s 0 b := ⟨fun _ u hu => by omega, fun q => by omega⟩
theorem tgt_no {s : GS} {y w b : Int32} (h : TGT s y.toInt b) (hw : w.toInt = y.toInt + 1) (h0 : 0 ≤ y.toInt) (hno : bt (s.2.2.1 109 53) y.toNatClampNeg = true → 0 ≤ (s.1 142 y.toNatClampNeg).toInt) : TGT s w.toInt b := by
  have ey : y.toNatClampNeg = y.toInt.toNat := rfl
  refine ⟨fun q u hu hb => ?_, fun q => ?_⟩
  · by_cases e : u = y.toNatClampNeg
    · rw [e] at hb ⊢; exact hno hb
    · exact h.1 q u (by omega) hb
  · have a := h.2 q
    exact ⟨by omega, a.2⟩
theorem tgt_k {s : GS} {y w b : Int32} (h : TGT s y.toInt b) (hw : w.toInt = y.toInt + 1) (hb : 0 ≤ b.toInt) : TGT s w.toInt b := by
  have a := h.2 hb
  exact ⟨fun q => by omega, fun _ => ⟨by omega, a.2⟩⟩
theorem tgt_c {s : GS} {y w : Int32} (hw : w.toInt = y.toInt + 1) (h0 : 0 ≤ y.toInt) (h1 : bt (s.2.2.1 109 53) y.toNatClampNeg = true) (h2 : (s.1 142 y.toNatClampNeg).toInt < 0) : TGT s w.toInt y := ⟨fun q => by omega, fun _ => ⟨by omega, h1, h2⟩⟩
/-! tough, hanging -/
def adjq (s : GS) (a b : Nat) : Prop := (a : Int) < (s.2.2.1 109 20).toInt ∧ bt (s.1 138 a) b = true
def BSD (s : GS) : Prop := ∀ a b : Nat, (a : Int) < (s.2.2.1 109 20).toInt → bt (s.1 138 a) b = true → (b : Int) < (s.2.2.1 109 20).toInt ∧ bt (s.1 138 b) a = true ∧ a ≠ b
def EXS (s : GS) (k : Int) (T : Nat → Prop) : Prop := Ext (adjq s) (fun x => (s.1 142 x).toInt) k T
def UNC (s : GS) (v : Nat) : Prop := (v : Int) < (s.2.2.1 109 20).toInt ∧ (s.1 142 v).toInt < 0
theorem bsd_sym {s : GS} (h : BSD s) : ∀ a b, adjq s a b → adjq s b a := by
  intro a b q
  have r := h a b q.1 q.2
  exact ⟨r.1, r.2.1⟩
def TOU (s : GS) (k : Int) (set : Int32) : Prop := (∀ v, bt set v = true → UNC s v) ∧ (BSD s → EXS s k (fun v => bt set v = true) → EXS s k (UNC s))
theorem tou_0 {s : GS} {k : Int} {set : Int32} (h : ∀ v : Nat, (bt set v = true ↔ UNC s v)) : TOU s k set := by
  refine ⟨fun v hv => (h v).mp hv, fun _ q => ?_⟩
  have e : (fun v => bt set v = true) = UNC s := by
    funext v
    exact propext (h v)
  rw [← e]; exact q
theorem tou_s {s : GS} {kk v bars cn z76 bs2 S cs z1 z2 set z : Int32} (h : TOU s kk.toInt set) (hk : In kk 0 32) (hv : In v 0 31) (hin : bt set v.toNatClampNeg = true) (hb : BAR s v.toNatClampNeg (s.2.2.1 109 20).toInt bars) (hcol : ∀ u : Nat, u < 32 → (s.1 142 u).toInt ≤ 31) (hcn : cn.toInt = (cb bars : Int)) (h76 : z76.toInt = kk.toInt - cn.toInt) (eb : bs2 = s.1 138 v.toNatClampNeg) (eS : S = bs2 &&& set) (hcs : cs.toInt = (cb S : Int)) (hlt : cs.toInt < z76.toInt) (e1 : z1 = Int32.ofInt 1 <<< (v &&& 31)) (e2 : z2 = z1 ^^^ Int32.ofInt (-1)) (e : z = set &&& z2) : TOU s kk.toInt z := by
  have zc : ∀ u, bt z u = true ↔ (bt set u = true ∧ u ≠ v.toNatClampNeg) := by
    intro u
    constructor
    · intro q
      have hu := bt_lt q
      rw [bt_clr e1 e2 e hv hu] at q
      have q1 := (Bool.and_eq_true _ _).mp q
      refine ⟨q1.1, fun c => ?_⟩
      rw [decide_eq_true c] at q1
      exact absurd q1.2 (by decide)
    · intro q
      have hu := bt_lt q.1
      rw [bt_clr e1 e2 e hv hu, q.1, decide_eq_false q.2]
      rfl
  refine ⟨fun u hu => h.1 u ((zc u).mp hu).1, fun hs q => h.2 hs ?_⟩
  obtain ⟨k1, k2⟩ := hk
  have ek : kk.toInt = ((kk.toInt.toNat : Nat) : Int) := by omega
  have hvu := h.1 _ hin
  have eT : (fun u => bt z u = true) = (fun u => bt set u = true ∧ u ≠ v.toNatClampNeg) := by
    funext u
    exact propext (zc u)
  rw [eT] at q
  unfold EXS at q ⊢
  rw [ek] at q ⊢
  refine ext_peel (T := fun u => bt set u = true) (v := v.toNatClampNeg) (bars := bars) (S := S) (by omega) (bsd_sym hs) (fun c => (hs _ _ c.1 c.2).2.2 rfl) (fun u hu hc => ?_) (fun u hu hT _ => ?_) (by omega) q
  · have r := hs _ _ hu.1 hu.2
    exact (hb _).mpr ⟨u, r.1, hu.2, hc, rfl⟩
  · rw [bt_and eS, eb, hu.2, hT]
    rfl
theorem un_0 {s : GS} : ∀ v : Nat, (bt (Int32.ofInt 0) v = true ↔ ((v : Int) < (Int32.ofInt 0).toInt ∧ (s.1 142 v).toInt < 0)) := by
  intro v
  rw [show (Int32.ofInt 0) = (0 : Int32) from rfl, bt_z]
  refine ⟨fun h => (by cases h), fun h => ?_⟩
  have h1 := h.1
  have h0 : (0 : Int32).toInt = 0 := rfl
  omega
theorem un_n {s : GS} {set y w z : Int32} (h : ∀ v : Nat, (bt set v = true ↔ ((v : Int) < y.toInt ∧ (s.1 142 v).toInt < 0))) (hw : w.toInt = y.toInt + 1) (h0 : 0 ≤ y.toInt) (hc : 0 ≤ (s.1 142 y.toNatClampNeg).toInt) (ez : z = set ||| Int32.ofInt 0) : ∀ v : Nat, (bt z v = true ↔ ((v : Int) < w.toInt ∧ (s.1 142 v).toInt < 0)) := by
  intro v
  have ey : y.toNatClampNeg = y.toInt.toNat := rfl
  rw [bt_or ez, show (Int32.ofInt 0) = (0 : Int32) from rfl, bt_z, Bool.or_false, h v]
  constructor
  · intro q
    exact ⟨by omega, q.2⟩
  · intro q
    refine ⟨?_, q.2⟩
    by_cases e : v = y.toNatClampNeg
    · rw [e] at q; omega
    · omega
theorem un_y {s : GS} {set y w z z1 : Int32} (h : ∀ v : Nat, (bt set v = true ↔ ((v : Int) < y.toInt ∧ (s.1 142 v).toInt < 0))) (hw : w.toInt = y.toInt + 1) (hy : In y 0 31) (hc : (s.1 142 y.toNatClampNeg).toInt < 0) (e1 : z1 = Int32.ofInt 1 <<< (y &&& 31)) (ez : z = set ||| z1) : ∀ v : Nat, (bt z v = true ↔ ((v : Int) < w.toInt ∧ (s.1 142 v).toInt < 0)) := by
  intro v
  have ey : y.toNatClampNeg = y.toInt.toNat := rfl
  have h0 := hy.1
  rw [bt_set e1 ez hy]
  by_cases k : v = y.toNatClampNeg
  · rw [k, decide_eq_true rfl, Bool.or_true]
    exact ⟨fun _ => ⟨by omega, hc⟩, fun _ => rfl⟩
  · rw [decide_eq_false k, Bool.or_false, h v]
    constructor
    · intro q
      exact ⟨by omega, q.2⟩
    · intro q
      exact ⟨by omega, q.2⟩
def BSF (f : Nat → Int32) (n : Int) : Prop := ∀ a b : Nat, (a : Int) < n → bt (f a) b = true → (b : Int) < n ∧ bt (f b) a = true ∧ a ≠ b
theorem bsf_s {f : Nat → Int32} {n : Int} {u v z1 x1 z2 x2 z3 z4 : Int32} (h : BSF f n) (hu : In u 0 31) (hv : In v 0 31) (hun : u.toInt < n) (hvn : v.toInt < n) (hne : u.toInt ≠ v.toInt) (e0 : x1 = f u.toNatClampNeg) (e1 : z1 = Int32.ofInt 1 <<< (v &&& 31)) (e2 : z2 = x1 ||| z1) (e3 : x2 = upd f u.toNatClampNeg z2 v.toNatClampNeg) (e4 : z3 = Int32.ofInt 1 <<< (u &&& 31)) (e5 : z4 = x2 ||| z3) : BSF (upd (upd f u.toNatClampNeg z2) v.toNatClampNeg z4) n := by
  have u32 := nat32 hu
  have v32 := nat32 hv
  have nuv : u.toNatClampNeg ≠ v.toNatClampNeg := by omega
  rw [up_n (fun q => nuv q.symm)] at e3
  have key : ∀ a b : Nat, (bt (upd (upd f u.toNatClampNeg z2) v.toNatClampNeg z4 a) b = true ↔ (bt (f a) b = true ∨ (a = u.toNatClampNeg ∧ b = v.toNatClampNeg) ∨ (a = v.toNatClampNeg ∧ b = u.toNatClampNeg))) := by
    intro a b
    by_cases c1 : a = v.toNatClampNeg
    · rw [c1, up_e, bt_set e4 e5 hu, e3, Bool.or_eq_true]
      constructor
      · intro q
        rcases q with q | q
        · exact Or.inl q
        · exact Or.inr (Or.inr ⟨rfl, of_decide_eq_true q⟩)
      · intro q
        rcases q with q | ⟨q, -⟩ | ⟨-, q⟩
        · exact Or.inl q
        · exact absurd q.symm nuv
        · exact Or.inr (decide_eq_true q)
    · rw [up_n c1]
      by_cases c2 : a = u.toNatClampNeg
      · rw [c2, up_e, bt_set e1 e2 hv, e0, Bool.or_eq_true]
        constructor
        · intro q
          rcases q with q | q
          · exact Or.inl q
          · exact Or.inr (Or.inl ⟨rfl, of_decide_eq_true q⟩)
        · intro q
          rcases q with q | ⟨-, q⟩ | ⟨q, -⟩
          · exact Or.inl q
          · exact Or.inr (decide_eq_true q)
          · exact absurd q nuv
      · rw [up_n c2]
        constructor
        · intro q; exact Or.inl q
        · intro q
          rcases q with q | ⟨q, -⟩ | ⟨q, -⟩
          · exact q
          · exact absurd q c2
          · exact absurd q c1
  intro a b ha hb
  rcases (key a b).mp hb with q | ⟨q1, q2⟩ | ⟨q1, q2⟩
  · have r := h a b ha q
    exact ⟨r.1, (key b a).mpr (Or.inl r.2.1), r.2.2⟩
  · exact ⟨by rw [q2]; omega, (key b a).mpr (Or.inr (Or.inr ⟨q2, q1⟩)), by rw [q1, q2]; exact nuv⟩
  · exact ⟨by rw [q2]; omega, (key b a).mpr (Or.inr (Or.inl ⟨q2, q1⟩)), by rw [q1, q2]; exact fun z => nuv z.symm⟩
/-- what hangs together -/
def HNG (s : GS) (open_ all : Int32) : Prop := ∀ u w : Nat, (u : Int) < (s.2.2.1 109 20).toInt → bt all u = true → bt (s.1 138 u) w = true → bt open_ w = true → bt all w = true
/-! begin -/
theorem lf_i {all bars z46 z47 cap z54 : Int32} {k u most : Int} {Q : Nat → Prop} (hall : ∀ c : Nat, c < 32 → (bt all c = true ↔ (c : Int) < k)) (hcap : ∀ c : Nat, c < 32 → (bt cap c = true ↔ (c : Int) < most)) (hm : ∀ c : Int, c < k → (c < most ↔ c ≤ u)) (hk : k ≤ 32) (hb : ∀ c : Nat, (bt bars c = true ↔ Q c)) (e46 : z46 = bars ^^^ Int32.ofInt (-1)) (e47 : z47 = all &&& z46) (e54 : z54 = z47 &&& cap) : ∀ c : Nat, (bt z54 c = true ↔ ((c : Int) < k ∧ (c : Int) ≤ u ∧ ¬ Q c)) := by
  intro c
  by_cases hc : c < 32
  · rw [bt_and e54, bt_and e47, bt_not e46 hc]
    have a := hall c hc
    have b := hcap c hc
    have d := hb c
    constructor
    · intro q
      have q1 := (Bool.and_eq_true _ _).mp q
      have q2 := (Bool.and_eq_true _ _).mp q1.1
      have k1 := a.mp q2.1
      refine ⟨k1, (hm _ k1).mp (b.mp q1.2), fun z => ?_⟩
      rw [d.mpr z] at q2
      exact absurd q2.2 (by decide)
    · intro q
      have k1 := a.mpr q.1
      have k2 := b.mpr ((hm _ q.1).mpr q.2.1)
      have k3 : bt bars c = false := by
        cases hq : bt bars c with
        | false => rfl
        | true => exact absurd (d.mp hq) q.2.2
      rw [k1, k2, k3]
      rfl
  · constructor
    · intro q; exact absurd (bt_lt q) hc
    · intro q; exfalso; have := q.1; omega
def BRQ (s : GS) (v c : Nat) : Prop := ∃ u : Nat, (u : Int) < (s.2.2.1 109 20).toInt ∧ bt (s.1 138 v) u = true ∧ 0 ≤ (s.1 142 u).toInt ∧ (s.1 142 u).toNatClampNeg = c
theorem al_1 {k z1 z : Int32} (hk : In k 0 31) (e1 : z1 = Int32.ofInt 1 <<< (k &&& 31)) (e : z = z1 - Int32.ofInt 1) : ∀ c : Nat, c < 32 → (bt z c = true ↔ (c : Int) < k.toInt) := by
  intro c hc
  rw [bt_all e1 e hk hc]
  exact ⟨of_decide_eq_true, decide_eq_true⟩
theorem al_2 {k : Int} (hk : 32 ≤ k) : ∀ c : Nat, c < 32 → (bt (Int32.ofInt (-1)) c = true ↔ (c : Int) < k) := by
  intro c hc
  rw [bt_m1 hc]
  exact ⟨fun _ => by omega, fun _ => rfl⟩
def MET (f : Nat → Int32) (m : Int) (w : Int32) : Prop := (∀ x : Nat, bt w x = true → ∃ j : Nat, (j : Int) < m ∧ x = (f j).toNatClampNeg) ∧ ∀ j : Nat, (j : Int) < m → bt w (f j).toNatClampNeg = true
theorem met_0 {f : Nat → Int32} : MET f 0 (Int32.ofInt 0) := by
  refine ⟨fun x h => ?_, fun j h => by omega⟩
  rw [show (Int32.ofInt 0) = (0 : Int32) from rfl, bt_z] at h
  cases h
theorem met_s {f : Nat → Int32} {y w set z z1 v : Int32} (h : MET f y.toInt set) (hw : w.toInt = y.toInt + 1) (h0 : 0 ≤ y.toInt) (hv : v = f y.toNatClampNeg) (hr : In v 0 31) (e1 : z1 = Int32.ofInt 1 <<< (v &&& 31)) (ez : z = set ||| z1) : MET f w.toInt z := by
  have ey : y.toNatClampNeg = y.toInt.toNat := rfl
  refine ⟨fun x q => ?_, fun j hj => ?_⟩
  · rw [bt_set e1 ez hr] at q
    rcases (Bool.or_eq_true _ _).mp q with q | q
    · obtain ⟨j, j1, j2⟩ := h.1 x q
      exact ⟨j, by omega, j2⟩
    · exact ⟨y.toNatClampNeg, by omega, by rw [← hv]; exact of_decide_eq_true q⟩
  · rw [bt_set e1 ez hr]
    by_cases e : j = y.toNatClampNeg
    · rw [e, ← hv, decide_eq_true rfl, Bool.or_true]
    · rw [h.2 j (by omega), Bool.true_or]
def WHY (s : GS) (v : Nat) (d : Int) (w : Int32) : Prop := (∀ x : Nat, bt w x = true → ∃ j : Nat, (j : Int) < d ∧ x = (s.1 144 j).toNatClampNeg) ∧ ∀ j : Nat, (j : Int) < d → bt (s.1 138 v) (s.1 144 j).toNatClampNeg = true → bt w (s.1 144 j).toNatClampNeg = true
theorem why_1 {s : GS} {v : Nat} {d : Int} {w : Int32} (h : MET (s.1 144) d w) : WHY s v d w := ⟨h.1, fun j hj _ => h.2 j hj⟩
theorem why_2 {s : GS} {v : Nat} {d : Int} {w b z : Int32} (h : MET (s.1 144) d w) (hb : b = s.1 138 v) (e : z = w &&& b) : WHY s v d z := by
  refine ⟨fun x q => h.1 x (bt_and1 e q), fun j hj q => ?_⟩
  rw [bt_and e, h.2 j hj, hb, q]
  rfl
end
section
/-! COLOURING OF THE REFERENCE: the search -/
def Tn (t : GS) (d : Nat) : Nat := (t.1 144 d).toNatClampNeg
def Cq (t : GS) (x : Nat) : Int := (t.1 142 x).toInt
def Bq (t : GS) (d : Nat) : Int := (t.1 143 d).toInt
def Sg (t : GS) (x : Nat) : Int := if (x : Int) < (t.2.2.1 109 20).toInt then (t.1 141 x).toInt else -1
def Pq (t : GS) (x : Nat) : Prop := bt (t.2.2.1 109 53) x = true
def CJQ (t : GS) (k : Int) (D d : Nat) : Prop := CJ (adjq t) (Sg t) k (Pq t) (Cq t) (Tn t) (t.1 145) (Bq t) (t.1 146) D d
/-- where the search stands: depths 0 to D -/
def PCI (t : GS) (k : Int) (D : Nat) : Prop :=
  (∀ d, d ≤ D → Pq t (Tn t d)) ∧
  (∀ d e, d < e → e ≤ D → Tn t d ≠ Tn t e) ∧
  (∀ d, d < D → 0 ≤ Cq t (Tn t d) ∧ Cq t (Tn t d) < k ∧ Cq t (Tn t d) < Bq t (d + 1) ∧ Bq t d ≤ Bq t (d + 1)) ∧
  (0 ≤ Bq t 0 ∧ ∀ u, 0 ≤ Sg t u → Sg t u < Bq t 0) ∧
  (∀ x, Pq t x → (∀ d, d ≤ D → x ≠ Tn t d) → Cq t x < 0) ∧
  (∀ x : Nat, (x : Int) < (t.2.2.1 109 20).toInt → ¬ Pq t x → Cq t x = Sg t x) ∧
  (∀ d, d < D → ∀ u, adjq t (Tn t d) u → (0 ≤ Sg t u → Cq t (Tn t d) ≠ Sg t u) ∧ ∀ e, e < d → u = Tn t e → Cq t (Tn t d) ≠ Cq t u) ∧
  (∀ d, d ≤ D → ∀ c : Nat, bt (t.1 145 d) c = true → (c : Int) < k ∧ (c : Int) ≤ Bq t d ∧ ∀ u, adjq t (Tn t d) u → (0 ≤ Sg t u → Sg t u ≠ (c : Int)) ∧ ∀ e, e < d → u = Tn t e → Cq t u ≠ (c : Int)) ∧
  (∀ d, d ≤ D → ∀ x, bt (t.1 146 d) x = true → ∃ j, j < d ∧ x = Tn t j) ∧
  (∀ d, d ≤ D → CJQ t k D d)
theorem PCI.i1 {t : GS} {k : Int} {D : Nat} (h : PCI t k D) : ∀ d, d ≤ D → Pq t (Tn t d) := h.1
theorem PCI.i2 {t : GS} {k : Int} {D : Nat} (h : PCI t k D) : ∀ d e, d < e → e ≤ D → Tn t d ≠ Tn t e := h.2.1
theorem PCI.i3 {t : GS} {k : Int} {D : Nat} (h : PCI t k D) : ∀ d, d < D → 0 ≤ Cq t (Tn t d) ∧ Cq t (Tn t d) < k ∧ Cq t (Tn t d) < Bq t (d + 1) ∧ Bq t d ≤ Bq t (d + 1) := h.2.2.1
theorem PCI.i4 {t : GS} {k : Int} {D : Nat} (h : PCI t k D) : 0 ≤ Bq t 0 ∧ ∀ u, 0 ≤ Sg t u → Sg t u < Bq t 0 := h.2.2.2.1
theorem PCI.i5 {t : GS} {k : Int} {D : Nat} (h : PCI t k D) : ∀ x, Pq t x → (∀ d, d ≤ D → x ≠ Tn t d) → Cq t x < 0 := h.2.2.2.2.1
theorem PCI.i6 {t : GS} {k : Int} {D : Nat} (h : PCI t k D) : ∀ x : Nat, (x : Int) < (t.2.2.1 109 20).toInt → ¬ Pq t x → Cq t x = Sg t x := h.2.2.2.2.2.1
theorem PCI.i7 {t : GS} {k : Int} {D : Nat} (h : PCI t k D) : ∀ d, d < D → ∀ u, adjq t (Tn t d) u → (0 ≤ Sg t u → Cq t (Tn t d) ≠ Sg t u) ∧ ∀ e, e < d → u = Tn t e → Cq t (Tn t d) ≠ Cq t u := h.2.2.2.2.2.2.1
theorem PCI.i8 {t : GS} {k : Int} {D : Nat} (h : PCI t k D) : ∀ d, d ≤ D → ∀ c : Nat, bt (t.1 145 d) c = true → (c : Int) < k ∧ (c : Int) ≤ Bq t d ∧ ∀ u, adjq t (Tn t d) u → (0 ≤ Sg t u → Sg t u ≠ (c : Int)) ∧ ∀ e, e < d → u = Tn t e → Cq t u ≠ (c : Int) := h.2.2.2.2.2.2.2.1
theorem PCI.i9 {t : GS} {k : Int} {D : Nat} (h : PCI t k D) : ∀ d, d ≤ D → ∀ x, bt (t.1 146 d) x = true → ∃ j, j < d ∧ x = Tn t j := h.2.2.2.2.2.2.2.2.1
theorem PCI.i10 {t : GS} {k : Int} {D : Nat} (h : PCI t k D) : ∀ d, d ≤ D → CJQ t k D d := h.2.2.2.2.2.2.2.2.2
theorem pc_mono {t : GS} {k : Int} {D : Nat} (h : PCI t k D) : ∀ e, e ≤ D → ∀ d, d ≤ e → Bq t d ≤ Bq t e := by
  intro e
  induction e with
  | zero => intro _ d hd; rw [show d = 0 by omega]; exact Int.le_refl _
  | succ e ih =>
    intro he d hd
    by_cases c : d = e + 1
    · rw [c]; exact Int.le_refl _
    · have a := ih (by omega) d (by omega)
      have b := (h.i3 e (by omega)).2.2.2
      omega
/-- nothing is left at D: no colouring agrees with its reasons -/
theorem pc_no {t : GS} {k : Int} {D : Nat} (h : PCI t k D) (hL : ∀ c, bt (t.1 145 D) c = false) : ∀ χ, Sol (adjq t) (Sg t) k (Pq t) χ → ¬ (∀ x, bt (t.1 146 D) x = true → χ x = Cq t x) := by
  have m := pc_mono h D (Nat.le_refl _)
  refine cj_no (h.i10 D (Nat.le_refl _)) hL (h.i1 D (Nat.le_refl _)) ?_ (fun u hu => ?_) (fun x hx => ?_)
  · have := m 0 (Nat.zero_le _)
    have := h.i4.1
    omega
  · have := m 0 (Nat.zero_le _)
    have := h.i4.2 u hu
    omega
  · obtain ⟨j, hj, e⟩ := h.i9 D (Nat.le_refl _) x hx
    have a := (h.i3 j hj).2.2.1
    have b := m (j + 1) (by omega)
    rw [e]
    omega
/-- all of the part is coloured: a colouring -/
theorem pc_yes {t : GS} {k : Int} {D c : Nat} (h : PCI t k D) (hc : bt (t.1 145 D) c = true) (hsym : ∀ a b, adjq t a b → adjq t b a) (hirr : ∀ a, ¬ adjq t a a) (hall : ∀ x, Pq t x → ∃ d, d ≤ D ∧ x = Tn t d) : Ext (adjq t) (Sg t) k (Pq t) := by
  obtain ⟨c1, c2, c3⟩ := h.i8 D (Nat.le_refl _) c hc
  have hne : ∀ d, d < D → Tn t d ≠ Tn t D := fun d hd => h.i2 d D hd (Nat.le_refl _)
  have ev : (fun x => if x = Tn t D then (c : Int) else Cq t x) (Tn t D) = (c : Int) := if_pos rfl
  have en : ∀ d, d < D → (fun x => if x = Tn t D then (c : Int) else Cq t x) (Tn t d) = Cq t (Tn t d) := fun d hd => if_neg (hne d hd)
  have pr : ∀ d e, d ≤ D → e < d → adjq t (Tn t d) (Tn t e) → (fun x => if x = Tn t D then (c : Int) else Cq t x) (Tn t e) ≠ (fun x => if x = Tn t D then (c : Int) else Cq t x) (Tn t d) := by
    intro d e hd he ha
    rw [en e (by omega)]
    by_cases k1 : d = D
    · rw [k1] at ha he ⊢
      rw [ev]
      exact (c3 _ ha).2 e he rfl
    · rw [en d (by omega)]
      exact fun q => (h.i7 d (by omega) _ ha).2 e he rfl q.symm
  refine ⟨fun x => if x = Tn t D then (c : Int) else Cq t x, fun v hv => ?_, fun v hv u hu => ⟨fun hT => ?_, fun hs => ?_⟩⟩
  · obtain ⟨d, hd, e⟩ := hall v hv
    rw [e]
    by_cases k1 : d = D
    · rw [k1, ev]; constructor <;> omega
    · rw [en d (by omega)]
      have := h.i3 d (by omega)
      exact ⟨this.1, this.2.1⟩
  · obtain ⟨d, hd, e⟩ := hall v hv
    obtain ⟨f, hf, e2⟩ := hall u hT
    rw [e, e2] at hu ⊢
    by_cases k1 : f < d
    · exact pr d f hd k1 hu
    · by_cases k2 : d < f
      · exact fun q => pr f d hf k2 (hsym _ _ hu) q.symm
      · rw [show f = d by omega] at hu
        exact absurd hu (hirr _)
  · obtain ⟨d, hd, e⟩ := hall v hv
    rw [e] at hu ⊢
    by_cases k1 : d = D
    · rw [k1] at hu ⊢
      rw [ev]
      exact fun q => (c3 u hu).1 hs q.symm
    · rw [en d (by omega)]
      exact (h.i7 d (by omega) u hu).1 hs
/-- back to depth j -/
theorem pc_pop {t t2 : GS} {k : Int} {D j : Nat} {bars : Int32} (h : PCI t k D) (hj : j < D) (hno : ∀ χ, Sol (adjq t) (Sg t) k (Pq t) χ → ¬ (∀ x, bt bars x = true → χ x = Cq t x)) (hb : ∀ x, bt bars x = true → ∃ i, i ≤ j ∧ x = Tn t i)
    (e1 : t2.1 144 = t.1 144) (e2 : t2.1 143 = t.1 143) (e3 : t2.1 145 = t.1 145) (e4 : t2.1 141 = t.1 141) (e5 : t2.1 138 = t.1 138) (e6 : t2.2.2.1 = t.2.2.1) (hC : ∀ x, (∀ d, j ≤ d → d ≤ D → x ≠ Tn t d) → t2.1 142 x = t.1 142 x) (hC2 : ∀ d, j < d → d ≤ D → Cq t2 (Tn t d) < 0)
    (hY : ∀ d, d < j → t2.1 146 d = t.1 146 d) (hYj : ∀ x, (bt (t2.1 146 j) x = true ↔ (bt (t.1 146 j) x = true ∨ (bt bars x = true ∧ x ≠ Tn t j)))) : PCI t2 k j := by
  have tn : Tn t2 = Tn t := by funext d; unfold Tn; rw [e1]
  have bq : Bq t2 = Bq t := by funext d; unfold Bq; rw [e2]
  have sg : Sg t2 = Sg t := by funext x; unfold Sg; rw [e4, e6]
  have pq : Pq t2 = Pq t := by funext x; unfold Pq; rw [e6]
  have ad : adjq t2 = adjq t := by funext a b; unfold adjq; rw [e5, e6]
  have ce : ∀ e, e < j → Cq t2 (Tn t e) = Cq t (Tn t e) := by
    intro e he
    unfold Cq
    rw [hC _ (fun d h1 h2 => h.i2 e d (by omega) h2)]
  have yj : ∀ d, d ≤ j → ∀ x, bt (t2.1 146 d) x = true → ∃ i, i < d ∧ x = Tn t i := by
    intro d hd x hx
    by_cases c : d = j
    · rw [c] at hx ⊢
      rcases (hYj x).mp hx with q | ⟨q, q2⟩
      · exact h.i9 j (by omega) x q
      · obtain ⟨i, i1, i2⟩ := hb x q
        refine ⟨i, ?_, i2⟩
        by_cases c2 : i = j
        · rw [c2] at i2; exact absurd i2 q2
        · omega
    · rw [hY d (by omega)] at hx
      exact h.i9 d (by omega) x hx
  have cy : ∀ d, d ≤ j → ∀ x, bt (t2.1 146 d) x = true → Cq t2 x = Cq t x := by
    intro d hd x hx
    obtain ⟨i, i1, i2⟩ := yj d hd x hx
    rw [i2]; exact ce i (by omega)
  refine ⟨?_, ?_, ?_, ?_, ?_, ?_, ?_, ?_, ?_, ?_⟩
  · rw [tn, pq]; exact fun d hd => h.i1 d (by omega)
  · rw [tn]; exact fun d e h1 h2 => h.i2 d e h1 (by omega)
  · rw [tn, bq]
    intro d hd
    rw [ce d hd]
    exact h.i3 d (by omega)
  · rw [bq, sg]; exact h.i4
  · rw [pq, tn]
    intro x hx hq
    by_cases c : ∃ d, j < d ∧ d ≤ D ∧ x = Tn t d
    · obtain ⟨d, d1, d2, d3⟩ := c
      rw [d3]; exact hC2 d d1 d2
    · have hx2 : ∀ d, d ≤ D → x ≠ Tn t d := by
        intro d hd e
        by_cases c2 : d ≤ j
        · exact hq d c2 e
        · exact c ⟨d, by omega, hd, e⟩
      unfold Cq
      rw [hC x (fun d _ h2 => hx2 d h2)]
      exact h.i5 x hx hx2
  · rw [pq, sg, e6]
    intro x hx hq
    have a := h.i6 x hx hq
    unfold Cq at a ⊢
    rw [hC x (fun d _ h2 e => hq (by rw [e]; exact h.i1 d h2))]
    exact a
  · rw [tn, ad, sg]
    intro d hd u hu
    rw [ce d hd]
    refine ⟨(h.i7 d (by omega) u hu).1, fun e he e2 => ?_⟩
    rw [e2, ce e (by omega), ← e2]
    exact (h.i7 d (by omega) u hu).2 e he e2
  · rw [tn, ad, sg, bq, e3]
    intro d hd c hc
    obtain ⟨a1, a2, a3⟩ := h.i8 d (by omega) c hc
    refine ⟨a1, a2, fun u hu => ⟨(a3 u hu).1, fun e he e2 => ?_⟩⟩
    rw [e2, ce e (by omega), ← e2]
    exact (a3 u hu).2 e he e2
  · rw [tn]; exact yj
  · intro d hd
    unfold CJQ
    rw [tn, ad, sg, bq, e3, pq]
    by_cases c : d = j
    · rw [c]
      exact cj_pop (h.i10 j (by omega)) hj hno (cy j (Nat.le_refl _)) (fun x hx => (hYj x).mpr (Or.inl hx)) (fun x hx hn => (hYj x).mpr (Or.inr ⟨hx, hn⟩))
    · refine cj_cg (h.i10 d (by omega)) (fun x hx => ?_) rfl rfl rfl (hY d (by omega)) (fun _ => ⟨by omega, ce d (by omega)⟩)
      obtain ⟨i, i1, i2⟩ := h.i9 d (by omega) x hx
      rw [i2]; exact ce i (by omega)
/-- one depth more -/
theorem pc_push {t t2 : GS} {k : Int} {D c x : Nat} (h : PCI t k D) (hc : bt (t.1 145 D) c = true) (hSP : ∀ y, Pq t y → (y : Int) < (t.2.2.1 109 20).toInt ∧ Sg t y < 0) (hBn : ∀ a b, adjq t a b → (b : Int) < (t.2.2.1 109 20).toInt) (hx : x = Tn t2 (D + 1)) (hxP : Pq t x) (hxD : ∀ d, d ≤ D → x ≠ Tn t d)
    (e1 : ∀ d, d ≤ D → t2.1 144 d = t.1 144 d) (e2 : ∀ d, d ≤ D → t2.1 143 d = t.1 143 d) (hB1 : Bq t D ≤ Bq t2 (D + 1)) (hB2 : (c : Int) < Bq t2 (D + 1)) (e3 : ∀ d, d < D → t2.1 145 d = t.1 145 d) (hLD : ∀ y, (bt (t2.1 145 D) y = true ↔ (bt (t.1 145 D) y = true ∧ y ≠ c))) (hLn : ∀ y : Nat, (bt (t2.1 145 (D + 1)) y = true ↔ ((y : Int) < k ∧ (y : Int) ≤ Bq t2 (D + 1) ∧ ¬ BRQ t2 x y)))
    (e4 : t2.1 141 = t.1 141) (e5 : t2.1 138 = t.1 138) (e6 : t2.2.2.1 = t.2.2.1) (hC : ∀ y, y ≠ Tn t D → t2.1 142 y = t.1 142 y) (hCD : Cq t2 (Tn t D) = (c : Int)) (hY : ∀ d, d ≤ D → t2.1 146 d = t.1 146 d) (hY1 : ∀ y, bt (t2.1 146 (D + 1)) y = true → ∃ j, j < D + 1 ∧ y = Tn t2 j) (hY2 : ∀ j, j < D + 1 → bt (t2.1 138 x) (Tn t2 j) = true → bt (t2.1 146 (D + 1)) (Tn t2 j) = true) : PCI t2 k (D + 1) := by
  have tn : ∀ d, d ≤ D → Tn t2 d = Tn t d := by intro d hd; unfold Tn; rw [e1 d hd]
  have bq : ∀ d, d ≤ D → Bq t2 d = Bq t d := by intro d hd; unfold Bq; rw [e2 d hd]
  have sg : Sg t2 = Sg t := by funext x; unfold Sg; rw [e4, e6]
  have pq : Pq t2 = Pq t := by funext x; unfold Pq; rw [e6]
  have ad : adjq t2 = adjq t := by funext a b; unfold adjq; rw [e5, e6]
  have co : ∀ y, y ≠ Tn t D → Cq t2 y = Cq t y := by intro y hy; unfold Cq; rw [hC y hy]
  have ce : ∀ e, e < D → Cq t2 (Tn t e) = Cq t (Tn t e) := fun e he => co _ (h.i2 e D he (Nat.le_refl _))
  obtain ⟨c1, c2, c3⟩ := h.i8 D (Nat.le_refl _) c hc
  have x5 : Cq t2 x < 0 := by rw [co x (hxD D (Nat.le_refl _))]; exact h.i5 x hxP hxD
  have j5 : ∀ y, Pq t y → (∀ d, d ≤ D + 1 → y ≠ Tn t2 d) → Cq t2 y < 0 := by
    intro y hy hq
    have hq2 : ∀ d, d ≤ D → y ≠ Tn t d := fun d hd => by rw [← tn d hd]; exact hq d (by omega)
    rw [co y (hq2 D (Nat.le_refl _))]
    exact h.i5 y hy hq2
  have j6 : ∀ y : Nat, (y : Int) < (t.2.2.1 109 20).toInt → ¬ Pq t y → Cq t2 y = Sg t y := by
    intro y hy hq
    rw [co y (fun e => hq (by rw [e]; exact h.i1 D (Nat.le_refl _)))]
    exact h.i6 y hy hq
  have j3 : ∀ d, d ≤ D → 0 ≤ Cq t2 (Tn t d) := by
    intro d hd
    by_cases q : d = D
    · rw [q, hCD]; omega
    · rw [ce d (by omega)]; exact (h.i3 d (by omega)).1
  have brq : ∀ u y : Nat, adjq t x u → 0 ≤ Cq t2 u → Cq t2 u = (y : Int) → BRQ t2 x y := by
    intro u y hu h0 hy
    refine ⟨u, by rw [e6]; exact hBn _ _ hu, by rw [e5]; exact hu.2, h0, ?_⟩
    show (t2.1 142 u).toInt.toNat = y
    unfold Cq at hy
    omega
  refine ⟨?_, ?_, ?_, ?_, ?_, ?_, ?_, ?_, ?_, ?_⟩
  · intro d hd
    rw [pq]
    by_cases q : d = D + 1
    · rw [q, ← hx]; exact hxP
    · rw [tn d (by omega)]; exact h.i1 d (by omega)
  · intro d e h1 h2
    rw [tn d (by omega)]
    by_cases q : e = D + 1
    · rw [q, ← hx]; exact fun z => hxD d (by omega) z.symm
    · rw [tn e (by omega)]; exact h.i2 d e h1 (by omega)
  · intro d hd
    rw [tn d (by omega), bq d (by omega)]
    by_cases q : d = D
    · rw [q, hCD]
      exact ⟨by omega, c1, hB2, hB1⟩
    · rw [ce d (by omega), bq (d + 1) (by omega)]
      exact h.i3 d (by omega)
  · rw [bq 0 (Nat.zero_le _), sg]; exact h.i4
  · rw [pq]; exact j5
  · rw [pq, sg, e6]; exact j6
  · intro d hd u hu
    rw [ad, tn d (by omega)] at hu
    rw [sg, tn d (by omega)]
    by_cases q : d = D
    · rw [q] at hu ⊢
      rw [hCD]
      refine ⟨fun hs z => (c3 u hu).1 hs z.symm, fun e he e9 => ?_⟩
      rw [tn e (by omega)] at e9
      have a := (c3 u hu).2 e he e9
      rw [e9, ce e he, ← e9]
      exact fun z => a z.symm
    · rw [ce d (by omega)]
      refine ⟨(h.i7 d (by omega) u hu).1, fun e he e9 => ?_⟩
      rw [tn e (by omega)] at e9
      have a := (h.i7 d (by omega) u hu).2 e he e9
      rw [e9, ce e (by omega), ← e9]
      exact a
  · intro d hd y hy
    by_cases q : d = D + 1
    · rw [q] at hy ⊢
      rw [ad, sg, ← hx]
      obtain ⟨a1, a2, a3⟩ := (hLn y).mp hy
      refine ⟨a1, a2, fun u hu => ⟨fun hs z => ?_, fun e he e9 z => ?_⟩⟩
      · have nP : ¬ Pq t u := fun w => by have := (hSP u w).2; omega
        have w := j6 u (hBn _ _ hu) nP
        exact a3 (brq u y hu (by omega) (by omega))
      · rw [tn e (by omega)] at e9
        exact a3 (brq u y hu (by rw [e9]; exact j3 e (by omega)) z)
    · rw [ad, sg, tn d (by omega), bq d (by omega)]
      have hy2 : bt (t.1 145 d) y = true := by
        by_cases q2 : d = D
        · rw [q2] at hy ⊢; exact ((hLD y).mp hy).1
        · rw [e3 d (by omega)] at hy; exact hy
      obtain ⟨a1, a2, a3⟩ := h.i8 d (by omega) y hy2
      refine ⟨a1, a2, fun u hu => ⟨(a3 u hu).1, fun e he e9 => ?_⟩⟩
      rw [tn e (by omega)] at e9
      have a := (a3 u hu).2 e he e9
      rw [e9, ce e (by omega), ← e9]
      exact a
  · intro d hd y hy
    by_cases q : d = D + 1
    · rw [q] at hy ⊢; exact hY1 y hy
    · rw [hY d (by omega)] at hy
      obtain ⟨j, j1, j2⟩ := h.i9 d (by omega) y hy
      exact ⟨j, j1, by rw [tn j (by omega)]; exact j2⟩
  · intro d hd
    unfold CJQ
    rw [ad, sg, pq]
    have cy : ∀ d, d ≤ D → ∀ y, bt (t.1 146 d) y = true → Cq t2 y = Cq t y := by
      intro d hd y hy
      obtain ⟨i, i1, i2⟩ := h.i9 d hd y hy
      rw [i2]; exact ce i (by omega)
    by_cases q : d = D + 1
    · rw [q]
      refine cj_new (by rw [← hx]; exact hxP) (fun y y1 y2 y3 => (hLn y).mpr ⟨y1, y2, fun z => ?_⟩) (fun u hu h0 => ?_) (fun u hu h0 hP => ?_)
      · obtain ⟨u, u1, u2, u3, u4⟩ := z
        rw [e6] at u1
        rw [e5] at u2
        refine y3 u ?_ u3 ?_
        · rw [← hx]; exact ⟨(hSP x hxP).1, u2⟩
        · have u5 : (t2.1 142 u).toInt.toNat = y := u4
          unfold Cq
          omega
      · by_cases w : Pq t u
        · exact Or.inr w
        · exact Or.inl (j6 u (hBn _ _ hu) w)
      · have ex : ∃ d, d ≤ D + 1 ∧ u = Tn t2 d := by
          apply Classical.byContradiction
          intro z
          have := j5 u hP (fun d hd e => z ⟨d, hd, e⟩)
          omega
        obtain ⟨d, hd, e⟩ := ex
        by_cases w : d = D + 1
        · rw [w, ← hx] at e
          rw [e] at h0
          omega
        · rw [← hx] at hu
          rw [e] at hu ⊢
          exact hY2 d (by omega) (by rw [e5]; exact hu.2)
    · by_cases q2 : d = D
      · rw [q2]
        have a := cj_take (C2 := Cq t2) (L2 := t2.1 145) (c := c) (h.i10 D (Nat.le_refl _)) (cy D (Nat.le_refl _)) hCD (h.i1 D (Nat.le_refl _)) (fun y hy hb => (hLD y).mpr ⟨hb, hy⟩)
        exact cj_cg a (fun _ _ => rfl) (tn D (Nat.le_refl _)) rfl (bq D (Nat.le_refl _)) (hY D (Nat.le_refl _)) (fun w => ⟨w, rfl⟩)
      · exact cj_cg (h.i10 d (by omega)) (cy d (by omega)) (tn d (by omega)) (e3 d (by omega)) (bq d (by omega)) (hY d (by omega)) (fun w => ⟨by omega, ce d (by omega)⟩)
/-- the first depth -/
theorem pc_0 {t : GS} {k : Int} (hv : Pq t (Tn t 0)) (hL : ∀ y : Nat, (bt (t.1 145 0) y = true ↔ ((y : Int) < k ∧ (y : Int) ≤ Bq t 0 ∧ ¬ BRQ t (Tn t 0) y))) (hY : ∀ x, bt (t.1 146 0) x = true → False) (h4 : 0 ≤ Bq t 0 ∧ ∀ u, 0 ≤ Sg t u → Sg t u < Bq t 0) (hP : ∀ x, Pq t x → Cq t x < 0) (h6 : ∀ x : Nat, (x : Int) < (t.2.2.1 109 20).toInt → ¬ Pq t x → Cq t x = Sg t x) (hSP : ∀ y, Pq t y → (y : Int) < (t.2.2.1 109 20).toInt ∧ Sg t y < 0) (hBn : ∀ a b, adjq t a b → (b : Int) < (t.2.2.1 109 20).toInt) : PCI t k 0 := by
  have d0 : ∀ d, d ≤ 0 → d = 0 := fun d hd => by omega
  refine ⟨fun d hd => by rw [d0 d hd]; exact hv, fun d e h1 h2 => by omega, fun d hd => by omega, h4, fun x hx _ => hP x hx, h6, fun d hd => by omega, fun d hd c hc => ?_, fun d hd x hx => ?_, fun d hd => ?_⟩
  · rw [d0 d hd] at hc ⊢
    obtain ⟨a1, a2, a3⟩ := (hL c).mp hc
    refine ⟨a1, a2, fun u hu => ⟨fun hs z => a3 ?_, fun e he => by omega⟩⟩
    have nP : ¬ Pq t u := fun w => by have := (hSP u w).2; omega
    have w := h6 u (hBn _ _ hu) nP
    unfold Cq at w
    refine ⟨u, hBn _ _ hu, hu.2, by omega, ?_⟩
    show (t.1 142 u).toInt.toNat = c
    omega
  · rw [d0 d hd] at hx
    exact (hY x hx).elim
  · rw [d0 d hd]
    unfold CJQ
    refine cj_new hv (fun y y1 y2 y3 => (hL y).mpr ⟨y1, y2, fun z => ?_⟩) (fun u hu h0 => ?_) (fun u hu h0 q => ?_)
    · obtain ⟨u, u1, u2, u3, u4⟩ := z
      refine y3 u ⟨(hSP _ hv).1, u2⟩ u3 ?_
      have u5 : (t.1 142 u).toInt.toNat = y := u4
      unfold Cq
      omega
    · by_cases w : Pq t u
      · exact Or.inr w
      · exact Or.inl (h6 u (hBn _ _ hu) w)
    · have := hP u q
      omega
/-- no depth to go back to -/
theorem pc_end {t : GS} {k : Int} {bars : Int32} (hno : ∀ χ, Sol (adjq t) (Sg t) k (Pq t) χ → ¬ (∀ x, bt bars x = true → χ x = Cq t x)) (hb : ∀ x, bt bars x = true → False) : ¬ Ext (adjq t) (Sg t) k (Pq t) := by
  intro h
  obtain ⟨χ, hχ⟩ := h
  exact hno χ hχ (fun x hx => (hb x hx).elim)
/-- what falls: colours left, by depth -/
def sV (f : Nat → Int32) : Nat → Nat
  | 0 => 0
  | n + 1 => sV f n + (cb (f n) + 1) * 40 ^ (33 - n)
theorem sV_cg {f g : Nat → Int32} : ∀ n, (∀ d, d < n → g d = f d) → sV g n = sV f n := by
  intro n
  induction n with
  | zero => intro _; rfl
  | succ n ih =>
    intro h
    show sV g n + (cb (g n) + 1) * 40 ^ (33 - n) = sV f n + (cb (f n) + 1) * 40 ^ (33 - n)
    rw [ih (fun d hd => h d (by omega)), h n (by omega)]
theorem sV_le {f : Nat → Int32} : ∀ m n, n ≤ m → sV f n ≤ sV f m := by
  intro m
  induction m with
  | zero => intro n h; rw [show n = 0 by omega]; exact Nat.le_refl _
  | succ m ih =>
    intro n h
    by_cases c : n = m + 1
    · rw [c]; exact Nat.le_refl _
    · exact Nat.le_trans (ih n (by omega)) (Nat.le_add_right _ _)
theorem sV_pop {f : Nat → Int32} {n m : Nat} (h : n < m) : sV f n < sV f m := by
  have a := sV_le (f := f) m (n + 1) h
  have b : 0 < (cb (f n) + 1) * 40 ^ (33 - n) := Nat.mul_pos (Nat.succ_pos _) (Nat.pow_pos (by omega))
  have c : sV f (n + 1) = sV f n + (cb (f n) + 1) * 40 ^ (33 - n) := rfl
  omega
theorem sV_push {f g : Nat → Int32} {n : Nat} (hn : n ≤ 31) (h : ∀ d, d < n → g d = f d) (h1 : cb (g n) + 1 = cb (f n)) : sV g (n + 2) < sV f (n + 1) := by
  have e := sV_cg n h
  have l := cb_le (g (n + 1))
  have p : 40 ^ (33 - n) = 40 ^ (33 - (n + 1)) * 40 := by rw [show 33 - n = (33 - (n + 1)) + 1 by omega, Nat.pow_succ]
  have q : 0 < 40 ^ (33 - (n + 1)) := Nat.pow_pos (by omega)
  show sV g n + (cb (g n) + 1) * 40 ^ (33 - n) + (cb (g (n + 1)) + 1) * 40 ^ (33 - (n + 1)) < sV f n + (cb (f n) + 1) * 40 ^ (33 - n)
  rw [e, ← h1, p]
  generalize 40 ^ (33 - (n + 1)) = w at q ⊢
  have m1 : (cb (g (n + 1)) + 1) * w ≤ 33 * w := Nat.mul_le_mul_right _ (by omega)
  have m2 : (cb (g n) + 1 + 1) * (w * 40) = (cb (g n) + 1) * (w * 40) + w * 40 := by rw [Nat.add_mul, Nat.one_mul]
  omega
/-- different nodes below 32 are at most 32 -/
theorem inj32 {f : Nat → Nat} {m : Nat} (h1 : ∀ d e, d < e → e < m → f d ≠ f e) (h2 : ∀ d, d < m → f d < 32) : m ≤ 32 := by
  have key : ∀ j, j ≤ m → j ≤ cq (fun v => dq (∃ d, d < j ∧ v = f d)) 32 := by
    intro j
    induction j with
    | zero => intro _; exact Nat.zero_le _
    | succ j ih =>
      intro hj
      have a := ih (by omega)
      have b := cq_lt (p := fun v => dq (∃ d, d < j ∧ v = f d)) (q := fun v => dq (∃ d, d < j + 1 ∧ v = f d)) (k := f j) 32 (fun i _ hi => by
        obtain ⟨d, d1, d2⟩ := dq_p hi
        exact dq_t ⟨d, by omega, d2⟩) (h2 j (by omega)) (by
        cases hq : dq (∃ d, d < j ∧ f j = f d) with
        | false => rfl
        | true =>
          obtain ⟨d, d1, d2⟩ := dq_p hq
          exact absurd d2.symm (h1 d j d1 (by omega))) (dq_t ⟨j, by omega, rfl⟩)
      omega
  have a := key m (Nat.le_refl _)
  have b := cq_le (fun v => dq (∃ d, d < m ∧ v = f d)) 32
  omega
theorem pc_dep2 {t : GS} {k : Int} {D x : Nat} (h : PCI t k D) (hx : Pq t x) (hn : ∀ d, d ≤ D → x ≠ Tn t d) : D ≤ 30 := by
  have a := inj32 (f := fun d => if d = D + 1 then x else Tn t d) (m := D + 2) (fun d e h1 h2 => by
    rw [if_neg (by omega)]
    by_cases c : e = D + 1
    · rw [if_pos c]; exact fun z => hn d (by omega) z.symm
    · rw [if_neg c]; exact h.i2 d e h1 (by omega)) (fun d hd => by
    by_cases c : d = D + 1
    · rw [if_pos c]; exact bt_lt hx
    · rw [if_neg c]; exact bt_lt (h.i1 d (by omega)))
  omega
end
section
/-! THE CLASS'S PARSER: its draft in postfix -/
def CDL (s : GS) : Nat := (s.2.2.1 102 4).toInt.toNat
/-- what a piece of the parser adds: so many values -/
def PCV (s t : GS) (k : Nat) : Prop := CDL s ≤ CDL t ∧ (∀ i, i < CDL s → t.1 104 i = s.1 104 i) ∧ ∀ a e, a ≤ CDL s → ht (fun i => hc (s.1 104 i)) a (CDL s - a) = some e → ht (fun i => hc (t.1 104 i)) a (CDL t - a) = some (e + k)
theorem pv_rf {s : GS} : PCV s s 0 := ⟨Nat.le_refl _, fun _ _ => rfl, fun _ _ _ h => h⟩
theorem pv_tr {s t u : GS} {j k : Nat} (h : PCV s t j) (h2 : PCV t u k) : PCV s u (j + k) := by
  refine ⟨Nat.le_trans h.1 h2.1, fun i hi => (h2.2.1 i (Nat.lt_of_lt_of_le hi h.1)).trans (h.2.1 i hi), fun a e ha he => ?_⟩
  have h3 := h2.2.2 a (e + j) (Nat.le_trans ha h.1) (h.2.2 a e ha he)
  rw [h3, Nat.add_assoc]
theorem pv_sm {s t : GS} (h1 : t.1 104 = s.1 104) (h2 : t.2.2.1 102 4 = s.2.2.1 102 4) : PCV s t 0 := by
  have e : CDL t = CDL s := by unfold CDL; rw [h2]
  refine ⟨by omega, fun i _ => by rw [h1], fun a x ha he => ?_⟩
  rw [e, h1]
  exact he
/-- one code more -/
theorem pv_st {s t u : GS} {c : Int32} {j k : Nat} (h : PCV s t j) (h0 : 0 ≤ (t.2.2.1 102 4).toInt) (hu : u.1 104 = upd (t.1 104) (t.2.2.1 102 4).toNatClampNeg c) (hl : (u.2.2.1 102 4).toInt = (t.2.2.1 102 4).toInt + 1) (hh : ∀ e, hc c (e + j) = some (e + k)) : PCV s u k := by
  have e : CDL u = CDL t + 1 := by unfold CDL; omega
  have en : (t.2.2.1 102 4).toNatClampNeg = CDL t := rfl
  rw [en] at hu
  have h1 := h.1
  refine ⟨by omega, fun i hi => ?_, fun a x ha he => ?_⟩
  · rw [hu]
    unfold upd
    rw [if_neg (by omega)]
    exact h.2.1 i hi
  · have h3 := h.2.2 a x ha he
    rw [e, show CDL t + 1 - a = (CDL t - a) + 1 by omega]
    show (ht _ a (CDL t - a)).bind (hc (u.1 104 (a + (CDL t - a)))) = _
    rw [show a + (CDL t - a) = CDL t by omega, hu]
    have e1 : upd (t.1 104) (CDL t) c (CDL t) = c := by unfold upd; rw [if_pos rfl]
    rw [e1]
    have e3 : ht (fun i => hc (upd (t.1 104) (CDL t) c i)) a (CDL t - a) = ht (fun i => hc (t.1 104 i)) a (CDL t - a) := by
      refine ht_cg fun i h4 h5 => ?_
      show hc (upd (t.1 104) (CDL t) c i) = hc (t.1 104 i)
      unfold upd
      rw [if_neg (by omega)]
    rw [e3, h3]
    exact hh x
theorem hc_a {c : Int32} (h : c.toInt ≤ 1000008) (e : Nat) : hc c (e + 0) = some (e + 1) := by
  unfold hc
  by_cases h1 : c.toInt < 1000000
  · rw [if_pos h1]
  · rw [if_neg h1, if_pos (by omega), if_pos h]
theorem hc_n {c : Int32} (h : c.toInt = 1000226) (e : Nat) : hc c (e + 1) = some (e + 1) := by
  unfold hc
  rw [if_neg (by omega), if_neg (by omega), if_pos h, if_pos (by omega)]
theorem hc_b {c : Int32} (h : 1000100 ≤ c.toInt) (h2 : c.toInt ≠ 1000226) (e : Nat) : hc c (e + 2) = some (e + 1) := by
  unfold hc
  rw [if_neg (by omega), if_neg (by omega), if_neg h2, if_pos (by omega)]; rfl
/-- a token that is read: where it lies, how great a number is -/
def TKA (s : GS) : Prop := (s.2.2.1 46 3).toInt = 0 ∨ (s.2.2.1 46 4).toInt + 1 ≤ (s.2.2.1 46 2).toInt
def TKV (s : GS) : Prop := (s.2.2.1 46 3).toInt = 2 → (s.2.2.1 46 5).toInt ≤ 999999
def TK (s : GS) : Prop := TKA s ∧ TKV s
theorem tk_fr {s t : GS} {L : FM} (hF : Fr L s t) (hk : (qF L.2.2.1 46 2 && qF L.2.2.1 46 3 && qF L.2.2.1 46 4 && qF L.2.2.1 46 5) = true) (h : TK s) : TK t := by
  simp only [Bool.and_eq_true] at hk
  unfold TK TKA TKV at h ⊢
  rw [hF.2.2.1 46 2 hk.1.1.1, hF.2.2.1 46 3 hk.1.1.2, hF.2.2.1 46 4 hk.1.2, hF.2.2.1 46 5 hk.2]
  exact h
theorem tka_1 {s : GS} {x y z : Int32} (h : TK s) (ex : x = s.2.2.1 46 3) (ey : y = s.2.2.1 46 4) (ez : z = s.2.2.1 46 2) (hx : x.toInt ≠ 0) : y.toInt + 1 ≤ z.toInt := by
  rcases h.1 with h | h
  · rw [← ex] at h; exact absurd h hx
  · rw [← ey, ← ez] at h; exact h
theorem tkv_1 {s : GS} {x y : Int32} (h : TK s) (ex : x = s.2.2.1 46 3) (ey : y = s.2.2.1 46 5) (hx : x.toInt = 2) : y.toInt ≤ 999999 := by
  have h2 := h.2
  unfold TKV at h2
  rw [← ex, ← ey] at h2
  exact h2 hx
/-- a number's digits -/
theorem dg_st {a d : Int} {n : Int} (hn : 0 ≤ n) (h0 : 0 ≤ a) (h : a < (10 : Int) ^ n.toNat) (hd : 0 ≤ d ∧ d ≤ 9) : 0 ≤ a * 10 + d ∧ a * 10 + d < (10 : Int) ^ (n + 1).toNat := by
  rw [show (n + 1).toNat = n.toNat + 1 by omega, Int.pow_succ]
  generalize (10 : Int) ^ n.toNat = p at h ⊢
  omega
theorem p10_pos : ∀ n : Nat, 0 < (10 : Int) ^ n := by
  intro n
  induction n with
  | zero => decide
  | succ n ih => rw [Int.pow_succ]; omega
theorem p10_le {a : Nat} : ∀ c : Nat, (10 : Int) ^ a ≤ (10 : Int) ^ (a + c) := by
  intro c
  induction c with
  | zero => exact Int.le_refl _
  | succ c ih =>
    rw [← Nat.add_assoc, Int.pow_succ]
    have := p10_pos (a + c)
    omega
theorem dg_le {a n m : Int} (hn : 0 ≤ n) (hm : n ≤ m) (h : a < (10 : Int) ^ n.toNat) : a < (10 : Int) ^ m.toNat := by
  refine Int.lt_of_lt_of_le h ?_
  have h2 := p10_le (a := n.toNat) (m.toNat - n.toNat)
  rw [show n.toNat + (m.toNat - n.toNat) = m.toNat by omega] at h2
  exact h2
theorem dg_6 {a n : Int} (hn : 0 ≤ n) (hm : n ≤ 6) (h : a < (10 : Int) ^ n.toNat) : a ≤ 999999 := by
  have h2 := dg_le hn hm h
  have e : (10 : Int) ^ (6 : Int).toNat = 1000000 := by decide
  rw [e] at h2
  omega
theorem dg_7 {a n : Int} (hn : 0 ≤ n) (hm : n ≤ 7) (h : a < (10 : Int) ^ n.toNat) : a ≤ 9999999 := by
  have h2 := dg_le hn hm h
  have e : (10 : Int) ^ (7 : Int).toNat = 10000000 := by decide
  rw [e] at h2
  omega
/-- the program that is taken over -/
theorem kc_ad {s1 s2 : GS} {x y : Int32} {c : Nat → Int32} (p1 : ht (fun i => hc (s1.1 104 i)) 0 (CDL s1) = some 1) (p2 : PCV s1 s2 1) (hx : x.toInt.toNat = CDL s1) (hy : y.toInt.toNat = CDL s2) (hcp : ∀ k : Nat, k < CDL s2 → c k = s2.1 104 k) : KC c x y := by
  have h1 := p2.1
  unfold KC
  have ex : x.toNatClampNeg = CDL s1 := hx
  have ey : y.toNatClampNeg = CDL s2 := hy
  rw [ex, ey]
  have e1 : ht (fun i => hc (c i)) 0 (CDL s1) = ht (fun i => hc (s1.1 104 i)) 0 (CDL s1) := ht_cg fun i _ h3 => by
    show hc (c i) = hc (s1.1 104 i)
    rw [hcp i (by omega), p2.2.1 i (by omega)]
  have e2 : ht (fun i => hc (c i)) (CDL s1) (CDL s2 - CDL s1) = ht (fun i => hc (s2.1 104 i)) (CDL s1) (CDL s2 - CDL s1) := ht_cg fun i _ h3 => by
    show hc (c i) = hc (s2.1 104 i)
    rw [hcp i (by omega)]
  have e3 := p2.2.2 (CDL s1) 0 (Nat.le_refl _) (by rw [Nat.sub_self]; rfl)
  rw [e1, p1, e2, e3]
  exact ⟨rfl, rfl⟩
def kcok (L : FM) : Bool := krok L && qI L.1 134 && qI L.1 184 && qI L.1 185 && qI L.1 186 && qG1 L 2 && qG2 L 2 && qG3 L 2 && qG4 L 2 && qG5 L 2 && qG1 L 32 && qG2 L 32 && qG3 L 32 && qG4 L 32 && qG5 L 32
theorem kk_cp {s t : GS} {L : FM} (h : KK (mI s) (mF s)) (hF : Fr L s t) (hk : kcok L = true) (hp : KC (t.1 103) (t.2.2.1 102 1) (t.2.2.1 102 2)) : KK (mI t) (mF t) := by
  unfold kcok at hk
  simp only [Bool.and_eq_true] at hk
  obtain ⟨⟨⟨⟨⟨⟨⟨⟨⟨⟨⟨⟨⟨⟨a0, a1⟩, a2⟩, a3⟩, a4⟩, b1⟩, b2⟩, b3⟩, b4⟩, b5⟩, c1⟩, c2⟩, c3⟩, c4⟩, c5⟩ := hk
  refine ⟨kk_g h.1 hF b1 b2 b3 b4 b5, kk_g h.2.1 hF c1 c2 c3 c4 c5, ⟨?_, ?_, ?_⟩, kk_r h.2.2.2 hF a0⟩
  · rw [fr_mI hF a1]; exact h.2.2.1.1
  · rw [fr_mI hF a2, fr_mI hF a3, fr_mI hF a4]; exact h.2.2.1.2.1
  · rw [mI_at rfl, mF_at rfl, mF_at rfl]; exact hp
end
section
/-! THE LEDGER'S LOG -/
theorem wr_30 : (List.range 196).all (fun k => Nat.beq k 1 || (List.range (wn k)).all (fun j => !(Nat.beq (wr k j) 30))) = true := by decide +kernel
section LG
variable {Z : AmZ} {A : Nat → Nat} {s : GS} {ex : va_W} {d m N pc : Nat} {ret : AmR} {xp : GX} {f : Nat → Option Value} {st r : List Value} {ws : va_W} {C S : Nat}
theorem ax_id : ax A 30 (A 30) = A := by
  funext i
  by_cases h : i = 30
  · subst h; exact ax_eq
  · exact ax_ne h
theorem g_newI {n : Int32} (p : Nat) (hd : GD m pc (.newarray .int) 2) (hp : pc + 2 = p) (h0 : 0 ≤ n.toInt) (hb : n.toInt ≤ 60000000) (hC : 1 ≤ C) (hS : n.toNatClampNeg ≤ S) (h : ∀ q, am_fresh q ws → GG Z d m ret xp N p f (.ref q :: r) (ws ++ [(q, .inl (Z.1, n.toNatClampNeg, .inl (fun _ => 0)))]) (C - 1) (S - n.toNatClampNeg)) : GG Z d m ret xp (N + 1) pc f (.int n :: r) ws C S :=
  g_st fun lv hl k hn => by
    unfold am_stp
    rw [hd.2]
    subst hp
    exact ⟨n, r, rfl, fun z => absurd (i_lt.mp z) (by simpa using h0), by show n.toInt.toNat ≤ _; omega, hC, hS, fun q hq => h q hq lv hl k hn⟩
theorem g_areturnA {a : Nat} {t : FieldType} (hd : GD m pc .areturn 1) (hr : xr m = some (.array t)) (h : ret (some (.ref a)) ws) : GG Z d m ret xp (N + 1) pc f [.ref a] ws C S :=
  g_st fun lv hl n _ => by unfold am_stp; rw [hd.2]; exact ⟨a, _, rfl, hr, Or.inr ⟨t, rfl⟩, h⟩
theorem g_cpG {i p0 a a0 q0 q1 n0 n1 : Nat} {n : Int32} {g h0 : Nat → Int32} (p : Nat) (hd : GD m pc (.invokestatic i) 3) (hp : pc + 3 = p) (hl : xlD (xo m) i = some (1001, 5, p0, 0)) (hr : (r.map fun v => v.category).sum ≤ 8) (w0 : ws[q0]? = some (a0, .inl (Z.1, n0, .inl g))) (w1 : ws[q1]? = some (a, .inl (Z.1, n1, .inl h0))) (hn : 0 ≤ n.toInt) (h1 : n.toNatClampNeg ≤ n0) (h2 : n.toNatClampNeg ≤ n1)
    (h : GG Z d m ret xp N p f r (ws.set q1 (a, .inl (Z.1, n1, .inl (va_cpy g h0 0 0 n.toNatClampNeg)))) C S) : GG Z d m ret xp (N + 1) pc f (.int n :: .int (Int32.ofInt 0) :: .ref a :: .int (Int32.ofInt 0) :: .ref a0 :: r) ws C S := by
  have hlk : Cond.methodLink (xcls (xo m)) i arraycopyName ∈ am_T := xl_s hd.1 hl (Or.inr (Or.inl ⟨rfl, rfl⟩))
  refine g_st fun lv hlv k hk => ?_
  unfold am_stp
  rw [hd.2]
  subst hp
  refine Or.inl ⟨n, Int32.ofInt 0, a, Int32.ofInt 0, a0, r, q0, q1, n0, n1, rfl, hlk, hr, by decide, by decide, fun z => absurd (i_lt.mp z) (by simpa using hn), ?_, ?_, Or.inl ⟨g, h0, w0, w1, h lv hlv k hk⟩⟩
  · show 0 + n.toNatClampNeg ≤ n0; omega
  · show 0 + n.toNatClampNeg ≤ n1; omega
theorem ww_ex {k : Nat} (h : 196 ≤ k) : (WW Z A s ++ ex)[k]? = ex[k - 196]? := by
  rw [List.getElem?_append_right (by rw [ww_len]; exact h), ww_len]
theorem ww_lenx : (WW Z A s ++ ex).length = 196 + ex.length := by rw [List.length_append, ww_len]
/-- Arrays.copyOf of the log, to a greater length -/
theorem k_426 {n : Int32} {X : AmX} (hd : 3 ≤ d) (hl : In (s.2.2.1 30 0) 0 28000) (h1 : (s.2.2.1 30 0).toInt < n.toInt) (h2 : n.toInt ≤ 28000) : GC Z d 426 [.ref (A 30), .int n] (WW Z A s ++ ex) 1 n.toNatClampNeg (fun v u => ∃ q, v = some (.ref q) ∧ am_fresh q (WW Z A s ++ ex) ∧ u = WW Z A s ++ (ex ++ [(q, .inl (Z.1, n.toNatClampNeg, .inl (va_cpy (s.1 30) (fun _ => 0) 0 0 (s.2.2.1 30 0).toNatClampNeg)))])) X := by
  intro post xp hP hX
  obtain ⟨l1, l2⟩ := hl
  refine g_enter2 (k := 426) (N := 300) (by omega) rfl (Nat.le_of_ble_eq_true rfl) ?_
  refine g_iload_n 1 (gd rfl) rfl rfl ?_
  refine g_aload_n 2 (gd rfl) rfl rfl ?_
  refine g_lglen 3 (gd rfl) rfl l1 (fun z e => ?_)
  refine g_cmp_ne 6 14 (gd rfl) rfl rfl (fun _ => ?_) (fun c => absurd c (by rw [e]; omega))
  refine g_iload_n 15 (gd rfl) rfl rfl ?_
  refine g_newI 17 (gd rfl) rfl (by omega) (by omega) (Nat.le_refl 1) (Nat.le_refl _) (fun q hq => ?_)
  rw [List.append_assoc]
  refine g_astore_n 18 (gd rfl) rfl (Nat.le_of_ble_eq_true rfl) ?_
  refine g_aload_n 19 (gd rfl) rfl rfl ?_
  refine g_iconst 0 20 (gd rfl) rfl rfl ?_
  refine g_aload_n 21 (gd rfl) rfl rfl ?_
  refine g_iconst 0 22 (gd rfl) rfl rfl ?_
  refine g_aload_n 23 (gd rfl) rfl rfl ?_
  refine g_lglen 24 (gd rfl) rfl l1 (fun z2 e2 => ?_)
  refine g_iload_n 25 (gd rfl) rfl rfl ?_
  refine g_calls (As := [.int z2, .int n]) (r := [.int (Int32.ofInt 0), .ref q, .int (Int32.ofInt 0), .ref (A 30)]) 28 (gd rfl) rfl rfl rfl rfl rfl (Nat.le_of_ble_eq_true rfl) (Nat.zero_le _) (Nat.zero_le _) (k_424z (by omega)) (fun v u h => ?_)
  obtain ⟨z3, rfl, rfl, hz3⟩ := h
  have e3 : z3 = s.2.2.1 30 0 := Int32.toInt_inj.mp (by rw [hz3, e2]; omega)
  subst e3
  show GG _ _ _ _ _ _ _ _ [.int (s.2.2.1 30 0), .int (Int32.ofInt 0), .ref q, .int (Int32.ofInt 0), .ref (A 30)] _ _ _
  have wq : (WW Z A s ++ (ex ++ [(q, (.inl (Z.1, n.toNatClampNeg, .inl (fun _ => 0)) : va_E))]))[196 + ex.length]? = some (q, .inl (Z.1, n.toNatClampNeg, .inl (fun _ => 0))) := by
    rw [ww_ex (by omega), show 196 + ex.length - 196 = ex.length by omega, List.getElem?_append_right (Nat.le_refl _), Nat.sub_self]
    rfl
  refine g_cpG (q0 := 30) (q1 := 196 + ex.length) 31 (gd rfl) rfl rfl (Nat.le_of_ble_eq_true rfl) (by rw [ww_get (by decide), wc_lg]) wq l1 (Nat.le_refl _) (by show (s.2.2.1 30 0).toInt.toNat ≤ n.toInt.toNat; omega) ?_
  refine g_aload_n 32 (gd rfl) rfl rfl ?_
  refine g_areturnA (gd rfl) rfl (hP _ _ ⟨q, rfl, hq, ?_⟩)
  rw [List.set_append_right _ _ (by rw [ww_len]; omega), ww_len, show 196 + ex.length - 196 = ex.length by omega, List.set_append_right _ _ (Nat.le_refl _), Nat.sub_self]
  rfl
/-- the log grown: where it lies, how long it is -/
def lgr (s : GS) (n : Int32) : GS := sF (sA s 30 (va_cpy (s.1 30) (fun _ => 0) 0 0 (s.2.2.1 30 0).toNatClampNeg)) 30 0 n
theorem wc_lgr {n : Int32} {q k : Nat} (h30 : k ≠ 30) (h1 : k ≠ 1) (hk : k < 196) : wc Z (ax A 30 q) (lgr s n) k = wc Z A s k := by
  have e1 : (lgr s n).1 k = s.1 k := by
    show (if k = 30 then _ else s.1 k) = _
    rw [if_neg h30]
  have e2 : (lgr s n).2.2.1 k = s.2.2.1 k := by
    funext j
    show (if k = 30 ∧ j = 0 then n else s.2.2.1 k j) = _
    rw [if_neg (fun z => h30 z.1)]
  have hr : ∀ j, j < wn k → wr k j ≠ 30 := by
    intro j hj e
    have h2 := List.all_eq_true.mp wr_30 k (List.mem_range.mpr hk)
    rw [Bool.or_eq_true] at h2
    rcases h2 with h2 | h2
    · exact h1 (Nat.eq_of_beq_eq_true h2)
    · have h3 := List.all_eq_true.mp h2 j (List.mem_range.mpr hj)
      rw [e] at h3
      cases h3
  have hv : ∀ c j, j < wn k → wv (ax A 30 q) (lgr s n) k c j = wv A s k c j := by
    intro c j hj
    unfold wv
    rw [ax_ne (hr j hj), e2]
    rfl
  unfold wc
  rw [e1, e2]
  split
  · rfl
  · rfl
  · rfl
  · rfl
  · rename_i c e
    congr 2
    congr 1
    exact List.map_congr_left fun j hj => hv c j (List.mem_range.mp hj)
theorem lgr_less {n : Int32} {q : Nat} (hq : am_fresh q (WW Z A s ++ ex)) (hn : 0 ≤ n.toInt) : am_less (WW Z (ax A 30 q) (lgr s n) ++ ex) ((WW Z A s ++ (ex ++ [(q, (.inl (Z.1, n.toNatClampNeg, .inl (va_cpy (s.1 30) (fun _ => 0) 0 0 (s.2.2.1 30 0).toNatClampNeg)) : va_E))])).set 1 (A 1, .inr (5, ((List.range (wn 1)).map (wv A s 1 5)).set 2 (.ref q)))) := by
  refine ⟨fun k => if k = 30 then 196 + ex.length else k, fun k p hk => ?_, fun i j hi hj e => ?_⟩
  · dsimp only
    by_cases h30 : k = 30
    · subst h30
      rw [ww_get (by decide), wc_lg, ax_eq] at hk
      rw [if_pos rfl, List.getElem?_set_ne (by omega), ww_ex (by omega), show 196 + ex.length - 196 = ex.length by omega, List.getElem?_append_right (Nat.le_refl _), Nat.sub_self]
      rw [← hk]
      have e1 : (lgr s n).2.2.1 30 0 = n := sF_get.symm
      have e2 : (lgr s n).1 30 = va_cpy (s.1 30) (fun _ => 0) 0 0 (s.2.2.1 30 0).toNatClampNeg := by
        show (sA s 30 (va_cpy (s.1 30) (fun _ => 0) 0 0 (s.2.2.1 30 0).toNatClampNeg)).1 30 = _
        rw [sA_q]
      rw [e1, e2]
      rfl
    · rw [if_neg h30]
      by_cases hlt : k < 196
      · rw [ww_get hlt, ax_ne h30] at hk
        by_cases h1 : k = 1
        · subst h1
          rw [List.getElem?_set_self (by rw [List.length_append, ww_len]; omega), ← hk]
          congr 2
        · rw [List.getElem?_set_ne (fun z => h1 z.symm), ww_get hlt, ← hk, wc_lgr h30 h1 hlt]
      · rw [ww_ex (by omega)] at hk
        rw [List.getElem?_set_ne (by omega), ww_ex (by omega), List.getElem?_append_left (List.getElem?_eq_some_iff.mp hk).1]
        exact hk
  · rw [ww_lenx] at hi hj
    dsimp only at e
    by_cases h1 : i = 30
    · by_cases h2 : j = 30
      · rw [h1, h2]
      · rw [if_pos h1, if_neg h2] at e; omega
    · by_cases h2 : j = 30
      · rw [if_neg h1, if_pos h2] at e; omega
      · rw [if_neg h1, if_neg h2] at e; exact e
end LG
end
section
/-! openRow; what the rows of the log say -/
theorem lg_in {j n : Int32} (h0 : 0 ≤ j.toInt) (h1 : j.toInt < n.toInt) : vp_in j n.toNatClampNeg := z_ix h0 (by show j.toInt < ((n.toInt.toNat : Nat) : Int); omega)
section LG2
variable {Z : AmZ} {A : Nat → Nat} {s : GS} {ex : va_W} {d m N pc : Nat} {ret : AmR} {xp : GX} {f : Nat → Option Value} {st r : List Value} {ws : va_W} {C S : Nat}
theorem g_putR {i k ci p0 q a : Nat} (p : Nat) (hd : GD m pc (.putfield i) 3) (hp : pc + 3 = p) (hf : xfD (xo m) i = some (ci, k, p0)) (hw : wok q ci k 3 = true) (ht : (xt ci)[k]? = some (3, 0)) (h : GG Z d m ret xp N p f r ((WW Z A s ++ ex).set q (A q, .inr (ci, ((List.range (wn q)).map (wv A s q ci)).set k (.ref a)))) C S) : GG Z d m ret xp (N + 1) pc f (.ref a :: .ref (A q) :: r) (WW Z A s ++ ex) C S := by
  obtain ⟨w1, w2, w3, -⟩ := wok_w hw
  obtain ⟨Cn, T, NF, c1, c2, c3⟩ := xf_w hd.1 hf
  obtain ⟨n1, n2⟩ := xt_ck_ok (xt_all c1).1 ht
  rw [Nat.zero_add] at n1 n2
  have n2 : (∃ n, am_t T k = .object n) ∨ ∃ t, am_t T k = .array t := n2
  have n3 : narrow (am_t T k) (.ref a) = .ref a ∧ fits (am_t T k) (.ref a) = true := by
    rcases n2 with ⟨x, e⟩ | ⟨x, e⟩ <;> rw [e] <;> exact ⟨rfl, rfl⟩
  refine g_st fun lv hl n hn => ?_
  unfold am_stp
  rw [hd.2]
  subst hp
  refine ⟨A q, r, q, ci, _, Cn, T, NF, k, .ref a, rfl, by rw [ww_get w1, wc_o w2 (wok_c hw)], c1, c2, c3, by rw [List.length_map, List.length_range]; exact w3, n3.1, n3.2, fun z => ?_, h lv hl n hn⟩
  rw [n1] at z
  cases z
/-- how long the log is once a row is opened -/
def nln (s : GS) : Int := if (s.2.2.1 30 0).toInt < 7 * (s.2.2.1 2 0).toInt + 7 then max (7 * (s.2.2.1 2 0).toInt + 7) (min (2 * (s.2.2.1 30 0).toInt) 28000) else (s.2.2.1 30 0).toInt
def lc (s : GS) : Nat := if (s.2.2.1 30 0).toInt < 7 * (s.2.2.1 2 0).toInt + 7 ∧ (s.2.2.1 2 0).toInt ≤ 3999 then 1 else 0
def lsl (s : GS) : Nat := if (s.2.2.1 30 0).toInt < 7 * (s.2.2.1 2 0).toInt + 7 ∧ (s.2.2.1 2 0).toInt ≤ 3999 then (nln s).toNat else 0
theorem lgc_le : lc s ≤ 1 := by unfold lc; split <;> omega
theorem nln_b (hl : In (s.2.2.1 30 0) 448 28000) (hv : In (s.2.2.1 2 0) 0 3999) : 448 ≤ nln s ∧ nln s ≤ 28000 ∧ 7 * (s.2.2.1 2 0).toInt + 7 ≤ nln s := by
  obtain ⟨l1, l2⟩ := hl
  obtain ⟨v1, v2⟩ := hv
  unfold nln
  split <;> omega
theorem lsl_le (hl : In (s.2.2.1 30 0) 448 28000) (hv : In (s.2.2.1 2 0) 0 3999) : lsl s ≤ 28000 := by
  have := nln_b hl hv
  unfold lsl
  split <;> omega
theorem lc_cg {t : GS} (h1 : t.2.2.1 30 0 = s.2.2.1 30 0) (h2 : t.2.2.1 2 0 = s.2.2.1 2 0) : lc t = lc s ∧ lsl t = lsl s ∧ nln t = nln s := by
  unfold lsl lc nln
  rw [h1, h2]
  exact ⟨rfl, rfl, rfl⟩
theorem inv_lgr {n : Int32} (hI : Inv s) (hn : In n 448 28000) : Inv (lgr s n) := inv_sF (q := 30) (j := 0) (inv_sA (q := 30) hI (fun i _ => i_rng _)) rfl hn
theorem fr_lgr {n : Int32} : Fr ([30], [], [(30, 0)], []) s (lgr s n) := fr_sF rfl (fr_sA rfl fr_rf)
theorem lgr_get {n : Int32} {k : Nat} (h : k < (s.2.2.1 30 0).toNatClampNeg) : (lgr s n).1 30 k = s.1 30 k := by
  show (if 30 = 30 then va_cpy (s.1 30) (fun _ => 0) 0 0 (s.2.2.1 30 0).toNatClampNeg else s.1 30) k = _
  rw [if_pos rfl]
  unfold va_cpy
  rw [if_pos ⟨Nat.zero_le k, by omega⟩, Nat.zero_add, Nat.sub_zero]
theorem lgr_len {n : Int32} : (lgr s n).2.2.1 30 0 = n := sF_get.symm
/-- GraphHouse$Ledger.openRow -/
theorem k_130_1 {X : AmX} {u_2_0 : Int32} (hd : 5 ≤ d) (hI : Inv s) (e_2_0 : u_2_0 = s.2.2.1 2 0) (r_2_0 : In u_2_0 0 3999) : GC Z d 130 [.ref (A 1)] (WW Z A s ++ ex) (lc s) (lsl s) (fun v u => ∃ a : Nat, ∃ t : GS, Inv t ∧ Fr ([30], [], [(30, 0)], []) s t ∧ ∃ z : Int32, v = some (.int z) ∧ u = WW Z (ax A 30 a) t ++ ex ∧ In z 0 27993 ∧ (z.toInt = 7 * (s.2.2.1 2 0).toInt) ∧ (∀ k : Nat, (k : Int) < (s.2.2.1 30 0).toInt → t.1 30 k = s.1 30 k) ∧ ((t.2.2.1 30 0).toInt = nln s)) X := by
  have hv : (s.2.2.1 2 0).toInt ≤ 3999 := by rw [← e_2_0]; exact r_2_0.2
  intro post xp hP hX
  have hl := inv_F hI 448 28000 (q := 30) (j := 0) rfl rfl
  have hv0 := inv_F hI 0 4000 (q := 2) (j := 0) rfl rfl
  have hv1 : In (s.2.2.1 2 0) 0 3999 := ⟨hv0.1, hv⟩
  have hb := nln_b hl hv1
  have l1 := hl.1
  have l2 := hl.2
  refine g_enter2 (k := 130) (N := 300) (by omega) rfl (Nat.le_of_ble_eq_true rfl) ?_
  refine g_aload_n 1 (gd rfl) rfl rfl ?_
  refine g_getA (q2 := 2) 4 (gd rfl) rfl rfl rfl rfl ?_
  refine g_getI 7 (gd rfl) rfl rfl rfl (fun z4 e4 => ?_)
  have i4 : In z4 0 3999 := by rw [e4]; exact hv1
  refine g_bipush 7 9 (gd rfl) rfl rfl ?_
  refine g_imul 10 (gd rfl) rfl (fun z9 e9 => ?_)
  have t9 : z9.toInt = z4.toInt * 7 := by have := (t_mulc 7 (Or.inr e9) i4 rfl).1; omega
  have i9 : In z9 0 27993 := ⟨by have := i4.1; omega, by have := i4.2; omega⟩
  refine g_istore_n 11 (gd rfl) rfl (Nat.le_of_ble_eq_true rfl) ?_
  refine g_iload_n 12 (gd rfl) rfl rfl ?_
  refine g_bipush 7 14 (gd rfl) rfl rfl ?_
  refine g_iadd 15 (gd rfl) rfl (fun z14 e14 => ?_)
  have t14 := t_add e14 i9 (in_c 7 rfl) rfl
  have c7 : (Int32.ofInt 7).toInt = 7 := by decide
  refine g_aload_n 16 (gd rfl) rfl rfl ?_
  refine g_getA (q2 := 30) 19 (gd rfl) rfl rfl rfl rfl ?_
  refine g_lglen 20 (gd rfl) rfl (by omega) (fun z19 e19 => ?_)
  have x4 : z4.toInt = (s.2.2.1 2 0).toInt := by rw [e4]
  have x19 : z19.toInt = (s.2.2.1 30 0).toInt := by rw [e19]
  refine g_cmp_le 23 54 (gd rfl) rfl rfl (fun c20 => ?_) (fun c20 => ?_)
  · have hnf : ¬ (s.2.2.1 30 0).toInt < 7 * (s.2.2.1 2 0).toInt + 7 := by omega
    refine g_iload_n 55 (gd rfl) rfl rfl ?_
    refine g_ireturn (gd rfl) rfl rfl (hP _ _ ⟨A 30, s, hI, fr_rf, z9, rfl, by rw [ax_id], i9, by omega, fun _ _ => rfl, by unfold nln; rw [if_neg hnf]⟩)
  · have hf : (s.2.2.1 30 0).toInt < 7 * (s.2.2.1 2 0).toInt + 7 := by omega
    have elc : lc s = 1 := by unfold lc; rw [if_pos ⟨hf, hv⟩]
    have els : lsl s = (nln s).toNat := by unfold lsl; rw [if_pos ⟨hf, hv⟩]
    refine g_aload_n 24 (gd rfl) rfl rfl ?_
    refine g_aload_n 25 (gd rfl) rfl rfl ?_
    refine g_getA (q2 := 30) 28 (gd rfl) rfl rfl rfl rfl ?_
    refine g_iload_n 29 (gd rfl) rfl rfl ?_
    refine g_bipush 7 31 (gd rfl) rfl rfl ?_
    refine g_iadd 32 (gd rfl) rfl (fun z31 e31 => ?_)
    have t31 := t_add e31 i9 (in_c 7 rfl) rfl
    refine g_iconst 2 33 (gd rfl) rfl rfl ?_
    refine g_aload_n 34 (gd rfl) rfl rfl ?_
    refine g_getA (q2 := 30) 37 (gd rfl) rfl rfl rfl rfl ?_
    refine g_lglen 38 (gd rfl) rfl (by omega) (fun z37 e37 => ?_)
    have i37 : In z37 448 28000 := by rw [e37]; exact hl
    refine g_imul 39 (gd rfl) rfl (fun z38 e38 => ?_)
    have t38 : z38.toInt = 2 * z37.toInt := by have := (t_mulc 2 (Or.inl e38) i37 rfl).1; omega
    have x37 : z37.toInt = (s.2.2.1 30 0).toInt := by rw [e37]
    refine g_sipush 28000 42 (gd rfl) rfl rfl ?_
    have c28 : (Int32.ofInt 28000).toInt = 28000 := by decide
    refine g_calls (As := [.int z38, .int (Int32.ofInt 28000)]) (r := [.int z31, .ref (A 30), .ref (A 1)]) 45 (gd rfl) rfl rfl rfl rfl rfl (Nat.le_of_ble_eq_true rfl) (Nat.zero_le _) (Nat.zero_le _) (k_424z (by omega)) (fun v u h => ?_)
    obtain ⟨z42, rfl, rfl, hz42⟩ := h
    show GG _ _ _ _ _ _ _ _ [.int z42, .int z31, .ref (A 30), .ref (A 1)] _ _ _
    refine g_calls (As := [.int z31, .int z42]) (r := [.ref (A 30), .ref (A 1)]) 48 (gd rfl) rfl rfl rfl rfl rfl (Nat.le_of_ble_eq_true rfl) (Nat.zero_le _) (Nat.zero_le _) (k_422z (by omega)) (fun v u h => ?_)
    obtain ⟨z45, rfl, rfl, hz45⟩ := h
    show GG _ _ _ _ _ _ _ _ [.int z45, .ref (A 30), .ref (A 1)] _ _ _
    have en : z45.toInt = nln s := by unfold nln; rw [if_pos hf]; omega
    have i45 : In z45 448 28000 := ⟨by omega, by omega⟩
    have ez : z45.toNatClampNeg = (nln s).toNat := by show z45.toInt.toNat = _; rw [en]
    refine g_calls (mc := 1) (ms := z45.toNatClampNeg) (As := [.ref (A 30), .int z45]) (r := [.ref (A 1)]) 51 (gd rfl) rfl rfl rfl rfl rfl (Nat.le_of_ble_eq_true rfl) (by rw [elc]; exact Nat.le_refl 1) (by rw [els, ez]; exact Nat.le_refl _) (k_426 (by omega) ⟨by omega, l2⟩ (by omega) (by omega)) (fun v u h => ?_)
    obtain ⟨q, rfl, hq, rfl⟩ := h
    show GG _ _ _ _ _ _ _ _ [.ref q, .ref (A 1)] _ _ _
    refine g_putR (q := 1) (k := 2) (ci := 5) 54 (gd rfl) rfl rfl rfl rfl ?_
    refine g_less (lgr_less (n := z45) hq (by omega)) ?_
    refine g_iload_n 55 (gd rfl) rfl rfl ?_
    exact g_ireturn (gd rfl) rfl rfl (hP _ _ ⟨q, lgr s z45, inv_lgr hI i45, fr_lgr, z9, rfl, rfl, i9, by omega, fun k hk => lgr_get (by show k < (s.2.2.1 30 0).toInt.toNat; omega), by rw [lgr_len]; exact en⟩)
end LG2
/-- how many of the first rows of the log are nodes -/
def cz7 (w : Nat → Int32) : Nat → Nat
  | 0 => 0
  | n + 1 => cz7 w n + (if (w (7 * n)).toInt = 0 then 1 else 0)
/-- a row of the log fits its kind -/
def RW7 (w : Nat → Int32) (k : Nat) : Prop :=
  if (w (7 * k)).toInt = 0 then (w (7 * k + 1)).toInt = (cz7 w k : Int) ∧ (cz7 w k : Int) ≤ 31 ∧ In (w (7 * k + 2)) 0 25
  else if (w (7 * k)).toInt = 1 then In (w (7 * k + 1)) 0 159 ∧ (0 ≤ (w (7 * k + 2)).toInt ∧ (w (7 * k + 2)).toInt < (cz7 w k : Int)) ∧ (0 ≤ (w (7 * k + 3)).toInt ∧ (w (7 * k + 3)).toInt < (cz7 w k : Int)) ∧ In (w (7 * k + 4)) (-1000000) 1000000 ∧ In (w (7 * k + 5)) 0 1000000 ∧ In (w (7 * k + 6)) 0 25
  else if (w (7 * k)).toInt = 2 then In (w (7 * k + 1)) 0 159
  else if (w (7 * k)).toInt = 3 then In (w (7 * k + 1)) 0 159 ∧ ((w (7 * k + 2)).toInt = 0 → In (w (7 * k + 3)) (-1000000) 1000000) ∧ ((w (7 * k + 2)).toInt = 1 → In (w (7 * k + 3)) 0 1000000) ∧ ((w (7 * k + 2)).toInt ≠ 0 → (w (7 * k + 2)).toInt ≠ 1 → In (w (7 * k + 3)) 0 25)
  else In (w (7 * k + 1)) 0 31 ∧ In (w (7 * k + 2)) 0 25
theorem cz7_cg {w w2 : Nat → Int32} : ∀ {n : Nat}, (∀ k, k < 7 * n → w2 k = w k) → cz7 w2 n = cz7 w n := by
  intro n
  induction n with
  | zero => intro _; rfl
  | succ n ih =>
    intro h
    show cz7 w2 n + _ = cz7 w n + _
    rw [ih (fun k hk => h k (by omega)), h (7 * n) (by omega)]
theorem rw7_cg {w w2 : Nat → Int32} {k : Nat} (h : ∀ i, i < 7 * k + 7 → w2 i = w i) (hr : RW7 w k) : RW7 w2 k := by
  unfold RW7 at hr ⊢
  rw [h (7 * k) (by omega), h (7 * k + 1) (by omega), h (7 * k + 2) (by omega), h (7 * k + 3) (by omega), h (7 * k + 4) (by omega), h (7 * k + 5) (by omega), h (7 * k + 6) (by omega), cz7_cg (w := w) (w2 := w2) (n := k) (fun i hi => h i (by omega))]
  exact hr
theorem rw7_v {w : Nat → Int32} {k c : Nat} {x z : Int32} (hx : x.toInt = 7 * (k : Int) + (c : Int)) (e : z = w x.toNatClampNeg) : z = w (7 * k + c) := by
  rw [e]
  have : x.toNatClampNeg = 7 * k + c := by show x.toInt.toNat = _; omega
  rw [this]
theorem rw7_0 {w : Nat → Int32} {k : Nat} {x z : Int32} (h : RW7 w k) (hx : x.toInt = 7 * (k : Int)) (e : z = w x.toNatClampNeg) (hz : z.toInt = 0) : (w (7 * k + 1)).toInt = (cz7 w k : Int) ∧ (cz7 w k : Int) ≤ 31 ∧ In (w (7 * k + 2)) 0 25 := by
  have e2 : z = w (7 * k) := rw7_v (c := 0) (by omega) e
  unfold RW7 at h
  rw [← e2, if_pos hz] at h
  exact h
theorem rw7_1 {w : Nat → Int32} {k : Nat} {x z : Int32} (h : RW7 w k) (hx : x.toInt = 7 * (k : Int)) (e : z = w x.toNatClampNeg) (hz : z.toInt = 1) : In (w (7 * k + 1)) 0 159 ∧ (0 ≤ (w (7 * k + 2)).toInt ∧ (w (7 * k + 2)).toInt < (cz7 w k : Int)) ∧ (0 ≤ (w (7 * k + 3)).toInt ∧ (w (7 * k + 3)).toInt < (cz7 w k : Int)) ∧ In (w (7 * k + 4)) (-1000000) 1000000 ∧ In (w (7 * k + 5)) 0 1000000 ∧ In (w (7 * k + 6)) 0 25 := by
  have e2 : z = w (7 * k) := rw7_v (c := 0) (by omega) e
  unfold RW7 at h
  rw [← e2, if_neg (by omega), if_pos hz] at h
  exact h
theorem rw7_2 {w : Nat → Int32} {k : Nat} {x z : Int32} (h : RW7 w k) (hx : x.toInt = 7 * (k : Int)) (e : z = w x.toNatClampNeg) (hz : z.toInt = 2) : In (w (7 * k + 1)) 0 159 := by
  have e2 : z = w (7 * k) := rw7_v (c := 0) (by omega) e
  unfold RW7 at h
  rw [← e2, if_neg (by omega), if_neg (by omega), if_pos hz] at h
  exact h
theorem rw7_3 {w : Nat → Int32} {k : Nat} {x z : Int32} (h : RW7 w k) (hx : x.toInt = 7 * (k : Int)) (e : z = w x.toNatClampNeg) (hz : z.toInt = 3) : In (w (7 * k + 1)) 0 159 ∧ ((w (7 * k + 2)).toInt = 0 → In (w (7 * k + 3)) (-1000000) 1000000) ∧ ((w (7 * k + 2)).toInt = 1 → In (w (7 * k + 3)) 0 1000000) ∧ ((w (7 * k + 2)).toInt ≠ 0 → (w (7 * k + 2)).toInt ≠ 1 → In (w (7 * k + 3)) 0 25) := by
  have e2 : z = w (7 * k) := rw7_v (c := 0) (by omega) e
  unfold RW7 at h
  rw [← e2, if_neg (by omega), if_neg (by omega), if_neg (by omega), if_pos hz] at h
  exact h
theorem rw7_4 {w : Nat → Int32} {k : Nat} {x z : Int32} (h : RW7 w k) (hx : x.toInt = 7 * (k : Int)) (e : z = w x.toNatClampNeg) (hz : z.toInt < 0 ∨ 3 < z.toInt) : In (w (7 * k + 1)) 0 31 ∧ In (w (7 * k + 2)) 0 25 := by
  have e2 : z = w (7 * k) := rw7_v (c := 0) (by omega) e
  unfold RW7 at h
  rw [← e2, if_neg (by omega), if_neg (by omega), if_neg (by omega), if_neg (by omega)] at h
  exact h
/-- the arcs' ends are nodes -/
def KN (f t : Nat → Int32) (n : Int32) : Prop := ∀ p, p < 160 → (f p).toInt = -1 ∨ ((0 ≤ (f p).toInt ∧ (f p).toInt < n.toInt) ∧ 0 ≤ (t p).toInt ∧ (t p).toInt < n.toInt)
/-- a graph of the class is what the log says, as far as nodes go -/
def KV (s : GS) (b : Nat) : Prop := (s.2.2.1 b 1).toInt = (cz7 (s.1 30) (s.2.2.1 b 0).toInt.toNat : Int) ∧ KN (s.1 (b + 2)) (s.1 (b + 3)) (s.2.2.1 b 1)
/-- the log -/
def KL (s : GS) : Prop := (∀ k : Nat, (k : Int) < (s.2.2.1 2 0).toInt → RW7 (s.1 30) k) ∧ 7 * (s.2.2.1 2 0).toInt ≤ (s.2.2.1 30 0).toInt ∧ (s.2.2.1 32 0).toInt ≤ (s.2.2.1 2 0).toInt ∧ KV s 2 ∧ KV s 32
theorem kn_up {f t : Nat → Int32} {n n2 : Int32} (h : KN f t n) (hn : n.toInt ≤ n2.toInt) : KN f t n2 := by
  intro p hp
  rcases h p hp with h | ⟨⟨a, b⟩, c, e⟩
  · exact Or.inl h
  · exact Or.inr ⟨⟨a, by omega⟩, c, by omega⟩
theorem kn_dr {f t : Nat → Int32} {n x : Int32} {j : Nat} (h : KN f t n) (hx : x.toInt = -1) : KN (upd f j x) t n := by
  intro p hp
  unfold upd
  by_cases e : p = j
  · rw [if_pos e]; exact Or.inl hx
  · rw [if_neg e]; exact h p hp
theorem kn_ar {f t : Nat → Int32} {n x y : Int32} {j : Nat} (h : KN f t n) (hx : 0 ≤ x.toInt ∧ x.toInt < n.toInt) (hy : 0 ≤ y.toInt ∧ y.toInt < n.toInt) : KN (upd f j x) (upd t j y) n := by
  intro p hp
  unfold upd
  by_cases e : p = j
  · rw [if_pos e, if_pos e]; exact Or.inr ⟨hx, hy.1, hy.2⟩
  · rw [if_neg e, if_neg e]; exact h p hp
def kaok2 (L : FM) : Bool := krok L && ksok L && qG1 L 32 && qG2 L 32 && qG3 L 32 && qG4 L 32 && qG5 L 32
def kaok32 (L : FM) : Bool := krok L && ksok L && qG1 L 2 && qG2 L 2 && qG3 L 2 && qG4 L 2 && qG5 L 2
theorem kk_ap2 {s t : GS} {L : FM} (h : KK (mI s) (mF s)) (hF : Fr L s t) (hk : kaok2 L = true) (hl : (t.2.2.1 2 4).toInt < (t.2.2.1 2 0).toInt) : KK (mI t) (mF t) := by
  unfold kaok2 at hk
  simp only [Bool.and_eq_true] at hk
  obtain ⟨⟨⟨⟨⟨⟨a0, a1⟩, c1⟩, c2⟩, c3⟩, c4⟩, c5⟩ := hk
  refine ⟨⟨?_, fun e => ?_⟩, kk_g h.2.1 hF c1 c2 c3 c4 c5, kk_s h.2.2.1 hF a1, kk_r h.2.2.2 hF a0⟩
  · rw [mF_at rfl, mF_at rfl]; omega
  · rw [mF_at rfl, mF_at rfl] at e; omega
theorem kk_ap32 {s t : GS} {L : FM} (h : KK (mI s) (mF s)) (hF : Fr L s t) (hk : kaok32 L = true) (hl : (t.2.2.1 32 4).toInt < (t.2.2.1 32 0).toInt) : KK (mI t) (mF t) := by
  unfold kaok32 at hk
  simp only [Bool.and_eq_true] at hk
  obtain ⟨⟨⟨⟨⟨⟨a0, a1⟩, c1⟩, c2⟩, c3⟩, c4⟩, c5⟩ := hk
  refine ⟨kk_g h.1 hF c1 c2 c3 c4 c5, ⟨?_, fun e => ?_⟩, kk_s h.2.2.1 hF a1, kk_r h.2.2.2 hF a0⟩
  · rw [mF_at rfl, mF_at rfl]; omega
  · rw [mF_at rfl, mF_at rfl] at e; omega
/-- a graph goes on by a row of the log -/
theorem kv_st {s t : GS} {b : Nat} (h : KV s b) (hL : t.1 30 = s.1 30) (h0 : 0 ≤ (s.2.2.1 b 0).toInt) (hv : (t.2.2.1 b 0).toInt = (s.2.2.1 b 0).toInt + 1) (hn : (t.2.2.1 b 1).toInt = (s.2.2.1 b 1).toInt + (if (s.1 30 (7 * (s.2.2.1 b 0).toInt.toNat)).toInt = 0 then 1 else 0)) (hk : KN (t.1 (b + 2)) (t.1 (b + 3)) (t.2.2.1 b 1)) : KV t b := by
  refine ⟨?_, hk⟩
  have e : (t.2.2.1 b 0).toInt.toNat = (s.2.2.1 b 0).toInt.toNat + 1 := by omega
  rw [e, hL, hn, h.1]
  show _ = ((cz7 (s.1 30) (s.2.2.1 b 0).toInt.toNat + (if (s.1 30 (7 * (s.2.2.1 b 0).toInt.toNat)).toInt = 0 then 1 else 0) : Nat) : Int)
  split <;> omega
end
section
/-! A ROW IS WRITTEN INTO THE LOG -/
theorem gc_w {Z : AmZ} {d k mc ms : Nat} {as : List Value} {ws : va_W} {P P' : AmR} {X : AmX} (h : GC Z d k as ws mc ms P X) (hp : ∀ v u, P v u → P' v u) : GC Z d k as ws mc ms P' X := fun post xp hP hX => h post xp (fun v u q => hP v u (hp v u q)) hX
theorem k_130_1p {Z : AmZ} {A : Nat → Nat} {s : GS} {ex : va_W} {d : Nat} {X : AmX} {u_2_0 : Int32} (hd : 5 ≤ d) (hI : Inv s) (e_2_0 : u_2_0 = s.2.2.1 2 0) (r_2_0 : In u_2_0 0 3999) : GC Z d 130 [.ref (A 1)] (WW Z A s ++ ex) (lc s) (lsl s) (fun v u => ∃ a : Nat, ∃ t : GS, Inv t ∧ Fr ([30], [], [(30, 0)], []) s t ∧ (7 * (s.2.2.1 2 0).toInt + 7 ≤ (t.2.2.1 30 0).toInt) ∧ ∃ z : Int32, v = some (.int z) ∧ u = WW Z (ax A 30 a) t ++ ex ∧ In z 0 27993 ∧ (z.toInt = 7 * (s.2.2.1 2 0).toInt) ∧ (∀ k : Nat, (k : Int) < (s.2.2.1 30 0).toInt → t.1 30 k = s.1 30 k) ∧ ((t.2.2.1 30 0).toInt = nln s)) X :=
  gc_w (k_130_1 hd hI e_2_0 r_2_0) (fun v u ⟨a, t, h1, h2, z, h3, h4, h5, h6, h7, h8⟩ => ⟨a, t, h1, h2, by rw [h8]; exact (nln_b (inv_F hI 448 28000 (q := 30) (j := 0) rfl rfl) (by rw [← e_2_0]; exact r_2_0)).2.2, z, h3, h4, h5, h6, h7, h8⟩)
/-- a row of four, as note writes it -/
def RWN (c : Nat) (d x a b : Int32) : Prop :=
  if d.toInt = 0 then x.toInt = (c : Int) ∧ (c : Int) ≤ 31 ∧ In a 0 25
  else if d.toInt = 1 then False
  else if d.toInt = 2 then In x 0 159
  else if d.toInt = 3 then In x 0 159 ∧ (a.toInt = 0 → In b (-1000000) 1000000) ∧ (a.toInt = 1 → In b 0 1000000) ∧ (a.toInt ≠ 0 → a.toInt ≠ 1 → In b 0 25)
  else In x 0 31 ∧ In a 0 25
theorem ug_at {w : Nat → Int32} {j : Nat} {x : Int32} : upd w j x j = x := by unfold upd; rw [if_pos rfl]
theorem ug_ne {w : Nat → Int32} {i j : Nat} {x : Int32} (h : i ≠ j) : upd w j x i = w i := by unfold upd; rw [if_neg h]
theorem nt_pre {w : Nat → Int32} {k i : Nat} {d x a b : Int32} (h : i < 7 * k) : (upd (upd (upd (upd w (7 * k) d) (7 * k + 1) x) (7 * k + 2) a) (7 * k + 3) b) i = w i := by
  rw [ug_ne (by omega), ug_ne (by omega), ug_ne (by omega), ug_ne (by omega)]
theorem ar_pre {w : Nat → Int32} {k i : Nat} {x f t g r c : Int32} (h : i < 7 * k) : (upd (upd (upd (upd (upd (upd (upd w (7 * k) (Int32.ofInt 1)) (7 * k + 1) x) (7 * k + 2) f) (7 * k + 3) t) (7 * k + 4) g) (7 * k + 5) r) (7 * k + 6) c) i = w i := by
  rw [ug_ne (by omega), ug_ne (by omega), ug_ne (by omega), ug_ne (by omega), ug_ne (by omega), ug_ne (by omega), ug_ne (by omega)]
theorem nt_rw {w : Nat → Int32} {k : Nat} {d x a b : Int32} (h : RWN (cz7 w k) d x a b) : RW7 (upd (upd (upd (upd w (7 * k) d) (7 * k + 1) x) (7 * k + 2) a) (7 * k + 3) b) k := by
  have e0 : (upd (upd (upd (upd w (7 * k) d) (7 * k + 1) x) (7 * k + 2) a) (7 * k + 3) b) (7 * k) = d := by rw [ug_ne (by omega), ug_ne (by omega), ug_ne (by omega), ug_at]
  have e1 : (upd (upd (upd (upd w (7 * k) d) (7 * k + 1) x) (7 * k + 2) a) (7 * k + 3) b) (7 * k + 1) = x := by rw [ug_ne (by omega), ug_ne (by omega), ug_at]
  have e2 : (upd (upd (upd (upd w (7 * k) d) (7 * k + 1) x) (7 * k + 2) a) (7 * k + 3) b) (7 * k + 2) = a := by rw [ug_ne (by omega), ug_at]
  have e3 : (upd (upd (upd (upd w (7 * k) d) (7 * k + 1) x) (7 * k + 2) a) (7 * k + 3) b) (7 * k + 3) = b := by rw [ug_at]
  have ec : cz7 (upd (upd (upd (upd w (7 * k) d) (7 * k + 1) x) (7 * k + 2) a) (7 * k + 3) b) k = cz7 w k := cz7_cg (fun i hi => nt_pre hi)
  unfold RW7
  unfold RWN at h
  rw [e0, e1, e2, e3, ec]
  by_cases h0 : d.toInt = 0
  · rw [if_pos h0] at h ⊢; exact h
  · rw [if_neg h0] at h ⊢
    by_cases h1 : d.toInt = 1
    · rw [if_pos h1] at h; exact h.elim
    · rw [if_neg h1] at h ⊢; exact h
theorem ar_rw {w : Nat → Int32} {k : Nat} {x f t g r c : Int32} (hx : In x 0 159) (hf : 0 ≤ f.toInt ∧ f.toInt < (cz7 w k : Int)) (ht : 0 ≤ t.toInt ∧ t.toInt < (cz7 w k : Int)) (hg : In g (-1000000) 1000000) (hr : In r 0 1000000) (hc : In c 0 25) : RW7 (upd (upd (upd (upd (upd (upd (upd w (7 * k) (Int32.ofInt 1)) (7 * k + 1) x) (7 * k + 2) f) (7 * k + 3) t) (7 * k + 4) g) (7 * k + 5) r) (7 * k + 6) c) k := by
  have e0 : (upd (upd (upd (upd (upd (upd (upd w (7 * k) (Int32.ofInt 1)) (7 * k + 1) x) (7 * k + 2) f) (7 * k + 3) t) (7 * k + 4) g) (7 * k + 5) r) (7 * k + 6) c) (7 * k) = Int32.ofInt 1 := by rw [ug_ne (by omega), ug_ne (by omega), ug_ne (by omega), ug_ne (by omega), ug_ne (by omega), ug_ne (by omega), ug_at]
  have e1 : (upd (upd (upd (upd (upd (upd (upd w (7 * k) (Int32.ofInt 1)) (7 * k + 1) x) (7 * k + 2) f) (7 * k + 3) t) (7 * k + 4) g) (7 * k + 5) r) (7 * k + 6) c) (7 * k + 1) = x := by rw [ug_ne (by omega), ug_ne (by omega), ug_ne (by omega), ug_ne (by omega), ug_ne (by omega), ug_at]
  have e2 : (upd (upd (upd (upd (upd (upd (upd w (7 * k) (Int32.ofInt 1)) (7 * k + 1) x) (7 * k + 2) f) (7 * k + 3) t) (7 * k + 4) g) (7 * k + 5) r) (7 * k + 6) c) (7 * k + 2) = f := by rw [ug_ne (by omega), ug_ne (by omega), ug_ne (by omega), ug_ne (by omega), ug_at]
  have e3 : (upd (upd (upd (upd (upd (upd (upd w (7 * k) (Int32.ofInt 1)) (7 * k + 1) x) (7 * k + 2) f) (7 * k + 3) t) (7 * k + 4) g) (7 * k + 5) r) (7 * k + 6) c) (7 * k + 3) = t := by rw [ug_ne (by omega), ug_ne (by omega), ug_ne (by omega), ug_at]
  have e4 : (upd (upd (upd (upd (upd (upd (upd w (7 * k) (Int32.ofInt 1)) (7 * k + 1) x) (7 * k + 2) f) (7 * k + 3) t) (7 * k + 4) g) (7 * k + 5) r) (7 * k + 6) c) (7 * k + 4) = g := by rw [ug_ne (by omega), ug_ne (by omega), ug_at]
  have e5 : (upd (upd (upd (upd (upd (upd (upd w (7 * k) (Int32.ofInt 1)) (7 * k + 1) x) (7 * k + 2) f) (7 * k + 3) t) (7 * k + 4) g) (7 * k + 5) r) (7 * k + 6) c) (7 * k + 5) = r := by rw [ug_ne (by omega), ug_at]
  have e6 : (upd (upd (upd (upd (upd (upd (upd w (7 * k) (Int32.ofInt 1)) (7 * k + 1) x) (7 * k + 2) f) (7 * k + 3) t) (7 * k + 4) g) (7 * k + 5) r) (7 * k + 6) c) (7 * k + 6) = c := by rw [ug_at]
  have ec : cz7 (upd (upd (upd (upd (upd (upd (upd w (7 * k) (Int32.ofInt 1)) (7 * k + 1) x) (7 * k + 2) f) (7 * k + 3) t) (7 * k + 4) g) (7 * k + 5) r) (7 * k + 6) c) k = cz7 w k := cz7_cg (fun i hi => ar_pre hi)
  unfold RW7
  rw [e0, e1, e2, e3, e4, e5, e6, ec, if_neg (by decide), if_pos (by decide)]
  exact ⟨hx, hf, ht, hg, hr, hc⟩
theorem kv_cg {s t : GS} {b : Nat} (h : KV s b) (hv : t.2.2.1 b 0 = s.2.2.1 b 0) (hn : t.2.2.1 b 1 = s.2.2.1 b 1) (h1 : t.1 (b + 2) = s.1 (b + 2)) (h2 : t.1 (b + 3) = s.1 (b + 3)) (hp : ∀ k : Nat, (k : Int) < 7 * (s.2.2.1 b 0).toInt → t.1 30 k = s.1 30 k) : KV t b := by
  unfold KV
  rw [hv, hn, h1, h2, cz7_cg (w := s.1 30) (w2 := t.1 30) (fun k hk => hp k (by omega))]
  exact h
/-- a row more: t before it is carried out, u behind it -/
theorem kl_row {s t u : GS} (hK : KL s) (hv : In (s.2.2.1 2 0) 0 3999) (hp : ∀ k : Nat, (k : Int) < 7 * (s.2.2.1 2 0).toInt → t.1 30 k = s.1 30 k) (hr : RW7 (t.1 30) (s.2.2.1 2 0).toInt.toNat) (hl : 7 * (s.2.2.1 2 0).toInt + 7 ≤ (t.2.2.1 30 0).toInt) (hu : u.1 30 = t.1 30) (hlu : u.2.2.1 30 0 = t.2.2.1 30 0) (hvu : (u.2.2.1 2 0).toInt = (s.2.2.1 2 0).toInt + 1) (v32 : u.2.2.1 32 0 = s.2.2.1 32 0) (n32 : u.2.2.1 32 1 = s.2.2.1 32 1) (f32 : u.1 34 = s.1 34) (t32 : u.1 35 = s.1 35) (hkv : KV u 2) : KL u := by
  obtain ⟨k1, k2, k3, k4, k5⟩ := hK
  obtain ⟨v1, v2⟩ := hv
  refine ⟨fun k hk => ?_, by rw [hlu]; omega, by rw [v32]; omega, hkv, ?_⟩
  · rw [hu]
    by_cases e : (k : Int) < (s.2.2.1 2 0).toInt
    · exact rw7_cg (fun i hi => hp i (by omega)) (k1 k e)
    · have : k = (s.2.2.1 2 0).toInt.toNat := by omega
      rw [this]
      exact hr
  · exact kv_cg k5 v32 n32 f32 t32 (fun k hk => by rw [hu]; exact hp k (by omega))
/-- what leaves log and graphs as they are -/
def klok (L : FM) : Bool := qI L.1 30 && qI L.1 4 && qI L.1 5 && qI L.1 34 && qI L.1 35 && qF L.2.2.1 30 0 && qF L.2.2.1 2 0 && qF L.2.2.1 2 1 && qF L.2.2.1 32 0 && qF L.2.2.1 32 1
theorem kl_fr {s t : GS} {L : FM} (h : KL s) (hF : Fr L s t) (hk : klok L = true) : KL t := by
  unfold klok at hk
  simp only [Bool.and_eq_true] at hk
  obtain ⟨⟨⟨⟨⟨⟨⟨⟨⟨a1, a2⟩, a3⟩, a4⟩, a5⟩, b1⟩, b2⟩, b3⟩, b4⟩, b5⟩ := hk
  unfold KL KV at h ⊢
  rw [hF.1 30 a1, show (2 + 2) = 4 from rfl, show (2 + 3) = 5 from rfl, show (32 + 2) = 34 from rfl, show (32 + 3) = 35 from rfl, hF.1 4 a2, hF.1 5 a3, hF.1 34 a4, hF.1 35 a5, hF.2.2.1 30 0 b1, hF.2.2.1 2 0 b2, hF.2.2.1 2 1 b3, hF.2.2.1 32 0 b4, hF.2.2.1 32 1 b5]
  exact h
/-- how much room is left for the log to grow -/
def lgS (s : GS) : Nat := (2 * (28000 - (s.2.2.1 30 0).toInt) + (if (s.2.2.1 30 0).toInt < 28000 then 28000 else 0)).toNat
def lgC (s : GS) : Nat := ((28000 - (s.2.2.1 30 0).toInt + 6) / 7).toNat
theorem lgC_le {s : GS} (hl : In (s.2.2.1 30 0) 448 28000) : lgC s ≤ 3940 := by
  obtain ⟨l1, l2⟩ := hl
  unfold lgC
  omega
theorem lgS_le {s : GS} (hl : In (s.2.2.1 30 0) 448 28000) : lgS s ≤ 83110 := by
  obtain ⟨l1, l2⟩ := hl
  unfold lgS
  split <;> omega
theorem lg_cg {s t : GS} (h : t.2.2.1 30 0 = s.2.2.1 30 0) : lgC t = lgC s ∧ lgS t = lgS s := by
  unfold lgC lgS
  rw [h]
  exact ⟨rfl, rfl⟩
theorem lg_lc {s : GS} (hl : In (s.2.2.1 30 0) 448 28000) : lc s ≤ lgC s ∧ lsl s ≤ lgS s := by
  obtain ⟨l1, l2⟩ := hl
  unfold lc lsl nln lgC lgS
  by_cases h : (s.2.2.1 30 0).toInt < 7 * (s.2.2.1 2 0).toInt + 7 ∧ (s.2.2.1 2 0).toInt ≤ 3999
  · rw [if_pos h, if_pos h, if_pos h.1, if_pos (show (s.2.2.1 30 0).toInt < 28000 by omega)]
    omega
  · rw [if_neg h, if_neg h]
    exact ⟨Nat.zero_le _, Nat.zero_le _⟩
theorem lgt_st {s t : GS} (hl : In (s.2.2.1 30 0) 448 28000) (hv : (s.2.2.1 2 0).toInt ≤ 3999) (h7 : 7 * (s.2.2.1 2 0).toInt ≤ (s.2.2.1 30 0).toInt) (ht : (t.2.2.1 30 0).toInt = nln s) : lgC t + lc s ≤ lgC s ∧ lgS t + lsl s ≤ lgS s := by
  obtain ⟨l1, l2⟩ := hl
  by_cases h : (s.2.2.1 30 0).toInt < 7 * (s.2.2.1 2 0).toInt + 7
  · have e1 : lc s = 1 := by unfold lc; rw [if_pos ⟨h, hv⟩]
    have e2 : lsl s = (nln s).toNat := by unfold lsl; rw [if_pos ⟨h, hv⟩]
    have e3 : nln s = min (2 * (s.2.2.1 30 0).toInt) 28000 := by unfold nln; rw [if_pos h]; omega
    rw [e1, e2]
    unfold lgC lgS
    rw [ht, e3]
    refine ⟨by omega, ?_⟩
    rw [if_pos (show (s.2.2.1 30 0).toInt < 28000 by omega)]
    split <;> omega
  · have e1 : lc s = 0 := by unfold lc; rw [if_neg (fun z => h z.1)]
    have e2 : lsl s = 0 := by unfold lsl; rw [if_neg (fun z => h z.1)]
    have e3 : nln s = (s.2.2.1 30 0).toInt := by unfold nln; rw [if_neg h]
    rw [e1, e2]
    unfold lgC lgS
    rw [ht, e3]
    exact ⟨Nat.le_refl _, Nat.le_refl _⟩
def ksok2 (L : FM) : Bool := qI L.1 30 && qI L.1 4 && qI L.1 5 && qF L.2.2.1 30 0 && qF L.2.2.1 2 0 && qF L.2.2.1 2 1
/-- the shown graph is another -/
theorem kl_sh {s t : GS} {L : FM} (h : KL s) (hF : Fr L s t) (hk : ksok2 L = true) (hv : (t.2.2.1 32 0).toInt ≤ (s.2.2.1 2 0).toInt) (hkv : KV t 32) : KL t := by
  unfold ksok2 at hk
  simp only [Bool.and_eq_true] at hk
  obtain ⟨⟨⟨⟨⟨a1, a2⟩, a3⟩, b1⟩, b2⟩, b3⟩ := hk
  obtain ⟨k1, k2, k3, k4, k5⟩ := h
  refine ⟨?_, ?_, ?_, kv_cg k4 (hF.2.2.1 2 0 b2) (hF.2.2.1 2 1 b3) (hF.1 4 a2) (hF.1 5 a3) (fun k _ => by rw [hF.1 30 a1]), hkv⟩
  · rw [hF.1 30 a1, hF.2.2.1 2 0 b2]; exact k1
  · rw [hF.2.2.1 2 0 b2, hF.2.2.1 30 0 b1]; exact k2
  · rw [hF.2.2.1 2 0 b2]; exact hv
/-- the newest graph is again what it was at s; t: what came between -/
theorem kl_bk {s u : GS} (h : KL s) (hp : ∀ k : Nat, (k : Int) < 7 * (s.2.2.1 2 0).toInt → u.1 30 k = s.1 30 k) (hl : 7 * (s.2.2.1 2 0).toInt ≤ (u.2.2.1 30 0).toInt) (v2 : u.2.2.1 2 0 = s.2.2.1 2 0) (n2 : u.2.2.1 2 1 = s.2.2.1 2 1) (f2 : KN (u.1 4) (u.1 5) (s.2.2.1 2 1)) (v32 : u.2.2.1 32 0 = s.2.2.1 32 0) (n32 : u.2.2.1 32 1 = s.2.2.1 32 1) (f32 : u.1 34 = s.1 34) (t32 : u.1 35 = s.1 35) : KL u := by
  obtain ⟨k1, k2, k3, k4, k5⟩ := h
  refine ⟨fun k hk => ?_, by rw [v2]; exact hl, by rw [v2, v32]; exact k3, ⟨?_, ?_⟩, kv_cg k5 v32 n32 f32 t32 (fun k hk => hp k (by omega))⟩
  · rw [v2] at hk
    exact rw7_cg (fun i hi => hp i (by omega)) (k1 k hk)
  · rw [n2, v2, cz7_cg (w := s.1 30) (w2 := u.1 30) (fun k hk => hp k (by omega))]
    exact k4.1
  · rw [n2]; exact f2
theorem cp_get {f g : Nat → Int32} {p n : Nat} (h : p < n) : va_cpy f g (Int32.ofInt 0).toNatClampNeg (Int32.ofInt 0).toNatClampNeg n p = f p := by
  have e : (Int32.ofInt 0).toNatClampNeg = 0 := rfl
  unfold va_cpy
  rw [e, if_pos ⟨Nat.zero_le p, by omega⟩, Nat.zero_add, Nat.sub_zero]
theorem kn_cp {f t f2 t2 : Nat → Int32} {n : Int32} (h : KN f t n) (h1 : ∀ p, p < 160 → f2 p = f p) (h2 : ∀ p, p < 160 → t2 p = t p) : KN f2 t2 n := by
  intro p hp
  rw [h1 p hp, h2 p hp]
  exact h p hp
end
section
/-! ROOTED TREES OF THE CLASS -/
/-- how many of the first n are -1 -/
def c1m (w : Nat → Int32) : Nat → Nat
  | 0 => 0
  | n + 1 => c1m w n + (if (w n).toInt = -1 then 1 else 0)
theorem c1m_le {w : Nat → Int32} : ∀ n, c1m w n ≤ n := by
  intro n
  induction n with
  | zero => exact Nat.le_refl _
  | succ n ih =>
    show c1m w n + _ ≤ n + 1
    split <;> omega
theorem c1m_cg {w w2 : Nat → Int32} : ∀ {n : Nat}, (∀ k, k < n → w2 k = w k) → c1m w2 n = c1m w n := by
  intro n
  induction n with
  | zero => intro _; rfl
  | succ n ih =>
    intro h
    show c1m w2 n + _ = c1m w n + _
    rw [ih (fun k hk => h k (by omega)), h n (by omega)]
theorem c1m_up {w : Nat → Int32} {j : Nat} {x : Int32} (hj : (w j).toInt = -1) (hx : x.toInt ≠ -1) : ∀ {n : Nat}, j < n → c1m (upd w j x) n + 1 = c1m w n := by
  intro n
  induction n with
  | zero => intro h; omega
  | succ n ih =>
    intro h
    show c1m (upd w j x) n + (if (upd w j x n).toInt = -1 then 1 else 0) + 1 = c1m w n + (if (w n).toInt = -1 then 1 else 0)
    by_cases e : j = n
    · subst e
      rw [ug_at, if_neg hx, if_pos hj, c1m_cg (w := w) (fun k hk => ug_ne (by omega))]
    · rw [ug_ne (fun z => e z.symm)]
      have := ih (by omega)
      split <;> omega
theorem c1m_pos {w : Nat → Int32} {j n : Nat} (h : (w j).toInt = -1) (hj : j < n) : 1 ≤ c1m w n := by
  have := c1m_up (w := w) (x := 0) h (by decide) hj
  omega
theorem sI_r {s : GS} {p q j : Nat} {x : Int32} (h : Nat.beq q p = false) : (sI s p j x).1 q = s.1 q := by
  show (if q = p then _ else s.1 q) = _
  rw [if_neg (Nat.ne_of_beq_eq_false h)]
/-- the arcs' ends are below n -/
def AE (s : GS) (n : Int) : Prop := ∀ e : Nat, (e : Int) < (s.2.2.1 76 0).toInt → ((0 ≤ (s.1 77 e).toInt ∧ (s.1 77 e).toInt < n) ∧ 0 ≤ (s.1 78 e).toInt ∧ (s.1 78 e).toInt < n)
theorem ae_0 {s : GS} {n : Int} (h : (s.2.2.1 76 0).toInt = 0) : AE s n := fun e he => by omega
theorem ae_add {s t : GS} {a x y : Int32} {n : Int} (h : AE s n) (ha : a = s.2.2.1 76 0) (h0 : 0 ≤ a.toInt) (ht : t.1 77 = upd (s.1 77) a.toNatClampNeg x) (hh : t.1 78 = upd (s.1 78) a.toNatClampNeg y) (hc : (t.2.2.1 76 0).toInt = a.toInt + 1) (hx : 0 ≤ x.toInt ∧ x.toInt < n) (hy : 0 ≤ y.toInt ∧ y.toInt < n) : AE t n := by
  intro e he
  have en : a.toNatClampNeg = a.toInt.toNat := rfl
  rw [ht, hh]
  by_cases q : e = a.toNatClampNeg
  · rw [q, ug_at, ug_at]; exact ⟨hx, hy⟩
  · rw [ug_ne q, ug_ne q]; exact h e (by rw [← ha]; omega)
theorem ae_fr {s t : GS} {L : FM} {n : Int} (h : AE s n) (hF : Fr L s t) (hk : (qI L.1 77 && qI L.1 78 && qF L.2.2.1 76 0) = true) : AE t n := by
  simp only [Bool.and_eq_true] at hk
  unfold AE
  rw [hF.1 77 hk.1.1, hF.1 78 hk.1.2, hF.2.2.1 76 0 hk.2]
  exact h
/-- names of rings: below m; of the first n all have one -/
def RN (s : GS) (n m : Int) : Prop := ∀ v : Nat, v < 32 → (s.1 83 v).toInt < m ∧ ((v : Int) < n → 0 ≤ (s.1 83 v).toInt)
/-- the first e arcs have new ends -/
def SHR (s t : GS) (e : Nat) : Prop := (∀ i : Nat, i < e → t.1 77 i = s.1 83 (s.1 77 i).toNatClampNeg ∧ t.1 78 i = s.1 83 (s.1 78 i).toNatClampNeg) ∧ ∀ i : Nat, e ≤ i → t.1 77 i = s.1 77 i ∧ t.1 78 i = s.1 78 i
theorem shr_0 {s : GS} : SHR s s 0 := ⟨fun i h => absurd h (Nat.not_lt_zero i), fun i _ => ⟨rfl, rfl⟩⟩
theorem shr_s {s t u : GS} {e : Nat} {x y : Int32} (h : SHR s t e) (h1 : u.1 77 = upd (t.1 77) e x) (h2 : u.1 78 = upd (t.1 78) e y) (hx : x = s.1 83 (s.1 77 e).toNatClampNeg) (hy : y = s.1 83 (s.1 78 e).toNatClampNeg) : SHR s u (e + 1) := by
  refine ⟨fun i hi => ?_, fun i hi => ?_⟩
  · rw [h1, h2]
    by_cases q : i = e
    · rw [q, ug_at, ug_at]; exact ⟨hx, hy⟩
    · rw [ug_ne q, ug_ne q]; exact h.1 i (by omega)
  · rw [h1, h2, ug_ne (by omega), ug_ne (by omega)]; exact h.2 i (by omega)
theorem shr_ae {s t : GS} {n m : Int} {e : Nat} (h : SHR s t e) (ha : AE s n) (hn : n ≤ 32) (hr : RN s n m) (he : (s.2.2.1 76 0).toInt ≤ (e : Int)) (hc : t.2.2.1 76 0 = s.2.2.1 76 0) : AE t m := by
  intro i hi
  rw [hc] at hi
  obtain ⟨⟨a1, a2⟩, a3, a4⟩ := ha i hi
  obtain ⟨e1, e2⟩ := h.1 i (by omega)
  have k1 : (s.1 77 i).toNatClampNeg = (s.1 77 i).toInt.toNat := rfl
  have k2 : (s.1 78 i).toNatClampNeg = (s.1 78 i).toInt.toNat := rfl
  have r1 := hr (s.1 77 i).toNatClampNeg (by omega)
  have r2 := hr (s.1 78 i).toNatClampNeg (by omega)
  rw [e1, e2]
  exact ⟨⟨r1.2 (by omega), r1.1⟩, r2.2 (by omega), r2.1⟩
end
section
/-! GROUPS: its two rows of longs change places -/
theorem wr_87 : (List.range 196).all (fun k => Nat.beq k 86 || (List.range (wn k)).all (fun j => !(Nat.beq (wr k j) 87) && !(Nat.beq (wr k j) 88))) = true := by decide +kernel
def a2 (A : Nat → Nat) (x y : Nat) : Nat → Nat := ax (ax A 87 x) 88 y
section SW
variable {Z : AmZ} {A : Nat → Nat} {s : GS} {ex : va_W} {d N : Nat} {ret : AmR} {xp : GX} {f : Nat → Option Value} {C S : Nat} {x y z w : Nat}
theorem a2_ne {i : Nat} (h1 : i ≠ 87) (h2 : i ≠ 88) : a2 A x y i = A i := by unfold a2; rw [ax_ne h2, ax_ne h1]
theorem a2_87 : a2 A x y 87 = x := by unfold a2; rw [ax_ne (by decide), ax_eq]
theorem a2_88 : a2 A x y 88 = y := by unfold a2; rw [ax_eq]
theorem a2_id : a2 A (A 87) (A 88) = A := by
  funext i
  by_cases h1 : i = 87
  · subst h1; exact a2_87
  · by_cases h2 : i = 88
    · subst h2; exact a2_88
    · exact a2_ne h1 h2
theorem a2_a2 : a2 (a2 A x y) z w = a2 A z w := by
  funext i
  by_cases h1 : i = 87
  · subst h1; rw [a2_87, a2_87]
  · by_cases h2 : i = 88
    · subst h2; rw [a2_88, a2_88]
    · rw [a2_ne h1 h2, a2_ne h1 h2, a2_ne h1 h2]
/-- the two rows have changed places -/
def sws (s : GS) : GS := sB (sB s 87 (s.2.1 88)) 88 (s.2.1 87)
theorem sws_1 {k : Nat} (h1 : k ≠ 87) (h2 : k ≠ 88) : (sws s).2.1 k = s.2.1 k := by
  show (if k = 88 then s.2.1 87 else if k = 87 then s.2.1 88 else s.2.1 k) = _
  rw [if_neg h2, if_neg h1]
theorem wc_sws {k : Nat} (h0 : k ≠ 86) (h1 : k ≠ 87) (h2 : k ≠ 88) (hk : k < 196) : wc Z (a2 A x y) (sws s) k = wc Z A s k := by
  have hr : ∀ j, j < wn k → wr k j ≠ 87 ∧ wr k j ≠ 88 := by
    intro j hj
    have h3 := List.all_eq_true.mp wr_87 k (List.mem_range.mpr hk)
    rw [Bool.or_eq_true] at h3
    rcases h3 with h3 | h3
    · exact absurd (Nat.eq_of_beq_eq_true h3) h0
    · have h4 := List.all_eq_true.mp h3 j (List.mem_range.mpr hj)
      rw [Bool.and_eq_true] at h4
      refine ⟨fun e => ?_, fun e => ?_⟩
      · have := h4.1; rw [e] at this; cases this
      · have := h4.2; rw [e] at this; cases this
  have hv : ∀ c j, j < wn k → wv (a2 A x y) (sws s) k c j = wv A s k c j := by
    intro c j hj
    unfold wv
    rw [a2_ne (hr j hj).1 (hr j hj).2]
    rfl
  unfold wc
  rw [sws_1 h1 h2]
  split
  · rfl
  · rfl
  · rfl
  · rfl
  · rename_i c e
    congr 2
    congr 1
    exact List.map_congr_left fun j hj => hv c j (List.mem_range.mp hj)
theorem sws_less : am_less (WW Z (a2 A (A 88) (A 87)) (sws s) ++ ex) (((WW Z A s ++ ex).set 86 (A 86, .inr (4, ((List.range (wn 86)).map (wv A s 86 4)).set 2 (.ref (A 88))))).set 86 (A 86, .inr (4, (((List.range (wn 86)).map (wv A s 86 4)).set 2 (.ref (A 88))).set 3 (.ref (A 87))))) := by
  refine ⟨fun k => if k = 87 then 88 else if k = 88 then 87 else k, fun k p hk => ?_, fun i j hi hj e => ?_⟩
  · dsimp only
    by_cases h1 : k = 87
    · subst h1
      rw [ww_get (by decide)] at hk
      rw [if_pos rfl, List.getElem?_set_ne (by decide), List.getElem?_set_ne (by decide), ww_get (by decide), ← hk]
      rfl
    · rw [if_neg h1]
      by_cases h2 : k = 88
      · subst h2
        rw [ww_get (by decide)] at hk
        rw [if_pos rfl, List.getElem?_set_ne (by decide), List.getElem?_set_ne (by decide), ww_get (by decide), ← hk]
        rfl
      · rw [if_neg h2]
        by_cases hlt : k < 196
        · rw [ww_get hlt, a2_ne h1 h2] at hk
          by_cases h0 : k = 86
          · subst h0
            rw [List.getElem?_set_self (by rw [List.length_set, List.length_append, ww_len]; omega), ← hk]
            congr 2
          · rw [List.getElem?_set_ne (fun q => h0 q.symm), List.getElem?_set_ne (fun q => h0 q.symm), ww_get hlt, ← hk, wc_sws h0 h1 h2 hlt]
        · rw [ww_ex (by omega)] at hk
          rw [List.getElem?_set_ne (by omega), List.getElem?_set_ne (by omega), ww_ex (by omega)]
          exact hk
  · dsimp only at e
    by_cases h1 : i = 87
    · by_cases h2 : j = 87
      · rw [h1, h2]
      · rw [if_pos h1, if_neg h2] at e
        split at e <;> omega
    · rw [if_neg h1] at e
      by_cases h2 : j = 87
      · rw [if_pos h2] at e
        split at e <;> omega
      · rw [if_neg h2] at e
        split at e <;> split at e <;> omega
theorem g_swap (h0 : f 0 = some (.ref (A 86))) (h4 : f 4 = some (.ref (A 87))) (h : GG Z d 110 ret xp N 209 f [] (WW Z (a2 A (A 88) (A 87)) (sws s) ++ ex) C S) : GG Z d 110 ret xp (N + 5) 200 f [.ref (A 88), .ref (A 86)] (WW Z A s ++ ex) C S := by
  refine g_putR (q := 86) (k := 2) (ci := 4) 203 (gd rfl) rfl rfl rfl rfl ?_
  refine g_aload_n 204 (gd rfl) rfl h0 ?_
  refine g_aload 206 (gd rfl) rfl h4 ?_
  have hd : GD 110 206 (.putfield 19) 3 := gd rfl
  obtain ⟨Cn, T, NF, c1, c2, c3⟩ := xf_w (i := 19) (ci := 4) (k := 3) hd.1 rfl
  obtain ⟨n1, n2⟩ := xt_ck_ok (xt_all c1).1 (show (xt 4)[3]? = some (3, 0) from rfl)
  rw [Nat.zero_add] at n1 n2
  have n2 : (∃ n, am_t T 3 = .object n) ∨ ∃ t, am_t T 3 = .array t := n2
  have n3 : narrow (am_t T 3) (.ref (A 87)) = .ref (A 87) ∧ fits (am_t T 3) (.ref (A 87)) = true := by
    rcases n2 with ⟨x, e⟩ | ⟨x, e⟩ <;> rw [e] <;> exact ⟨rfl, rfl⟩
  refine g_st fun lv hl n hn => ?_
  unfold am_stp
  rw [hd.2]
  refine ⟨A 86, [], 86, 4, _, Cn, T, NF, 3, .ref (A 87), rfl, List.getElem?_set_self (by rw [List.length_append, ww_len]; omega), c1, c2, c3, by rw [List.length_set, List.length_map, List.length_range]; exact Nat.le_of_ble_eq_true rfl, n3.1, n3.2, fun z => ?_, g_less sws_less h lv hl n hn⟩
  rw [n1] at z
  cases z
theorem inv_sws (h : Inv s) : Inv (sws s) := inv_sB (q := 88) (inv_sB (q := 87) h (fun i _ => l_rng _)) (fun i _ => l_rng _)
theorem fr_sws {L : FM} {t : GS} (h1 : qI L.2.1 87 = false) (h2 : qI L.2.1 88 = false) (h : Fr L t s) : Fr L t (sws s) := fr_sB h2 (fr_sB h1 h)
theorem l_nz100 {x : Int32} {y z : Int64} (hz : z = Int64.ofInt 100 * y) (hy : y = x.toInt64) (h1 : -1000 ≤ x.toInt) (h2 : x.toInt ≤ 1000) (h3 : x.toInt ≠ 0) : z.toInt ≠ 0 := by
  have e : (Int64.ofInt 100).toInt = 100 := by decide
  have ey : y.toInt = x.toInt := by rw [hy]; exact Int32.toInt_toInt64 x
  have g : z.toInt = 100 * x.toInt := by
    rw [hz, Int64.toInt_mul, e, ey]
    exact Int.bmod_eq_of_le (by omega) (by omega)
  omega
end SW
end
section
/-! COLOURING OF THE REFERENCE: the loop of the search -/
def EXP (t : GS) (k : Int) : Prop := Ext (adjq t) (Sg t) k (Pq t)
def PST (t : GS) : Prop := BSD t ∧ ∀ y, Pq t y → (y : Int) < (t.2.2.1 109 20).toInt ∧ Sg t y < 0
def P345 (t : GS) (used : Int) : Prop := PST t ∧ (∃ x, Pq t x) ∧ (∀ x, Pq t x → Cq t x < 0) ∧ (∀ x : Nat, (x : Int) < (t.2.2.1 109 20).toInt → ¬ Pq t x → Cq t x = Sg t x) ∧ ∀ u, 0 ≤ Sg t u → Sg t u < used
theorem ad_cg {t t2 : GS} (e5 : t2.1 138 = t.1 138) (e6 : t2.2.2.1 = t.2.2.1) : adjq t2 = adjq t := by funext a b; unfold adjq; rw [e5, e6]
theorem sg_cg {t t2 : GS} (e4 : t2.1 141 = t.1 141) (e6 : t2.2.2.1 = t.2.2.1) : Sg t2 = Sg t := by funext x; unfold Sg; rw [e4, e6]
theorem pq_cg {t t2 : GS} (e6 : t2.2.2.1 = t.2.2.1) : Pq t2 = Pq t := by funext x; unfold Pq; rw [e6]
theorem exp_cg {t t2 : GS} {k : Int} (e4 : t2.1 141 = t.1 141) (e5 : t2.1 138 = t.1 138) (e6 : t2.2.2.1 = t.2.2.1) : EXP t2 k = EXP t k := by unfold EXP; rw [ad_cg e5 e6, sg_cg e4 e6, pq_cg e6]
theorem pst_cg {t t2 : GS} (e4 : t2.1 141 = t.1 141) (e5 : t2.1 138 = t.1 138) (e6 : t2.2.2.1 = t.2.2.1) (h : PST t) : PST t2 := by
  refine ⟨?_, ?_⟩
  · unfold BSD; rw [e5, e6]; exact h.1
  · rw [pq_cg e6, sg_cg e4 e6, e6]; exact h.2
def A14 (t : GS) (k d : Int) : Prop := (0 ≤ d → PCI t k d.toNat) ∧ (d < 0 → ¬ EXP t k)
theorem p5_z6 {s : GS} {u : Int} {z : Int32} (h : P345 s u) (p : TGT s (s.2.2.1 109 20).toInt z) : 0 ≤ z.toInt := by
  apply Classical.byContradiction
  intro q
  obtain ⟨x, hx⟩ := h.2.1
  have a := p.1 (by omega) x (h.1.2 x hx).1 hx
  have b := h.2.2.1 x hx
  unfold Cq at b
  omega
theorem pc_ini {s t : GS} {k u z : Int32} (h : P345 s u.toInt) (hu : 0 ≤ u.toInt) (p : TGT s (s.2.2.1 109 20).toInt z)
    (p1 : t.1 144 = upd (s.1 144) (Int32.ofInt 0).toNatClampNeg z ∧ t.1 143 = upd (s.1 143) (Int32.ofInt 0).toNatClampNeg u)
    (p2 : ∃ w : Int32, t.1 145 = upd (s.1 145) (Int32.ofInt 0).toNatClampNeg w ∧ ∀ c : Nat, (bt w c = true ↔ ((c : Int) < k.toInt ∧ (c : Int) ≤ u.toInt ∧ ¬ BRQ s z.toNatClampNeg c)))
    (p3 : ∃ w : Int32, t.1 146 = upd (s.1 146) (Int32.ofInt 0).toNatClampNeg w ∧ WHY s z.toNatClampNeg (Int32.ofInt 0).toInt w)
    (e2 : t.1 142 = s.1 142) (e4 : t.1 141 = s.1 141) (e5 : t.1 138 = s.1 138) (e6 : t.2.2.1 = s.2.2.1) : A14 t k.toInt (Int32.ofInt 0).toInt := by
  have z0 : (Int32.ofInt 0).toNatClampNeg = 0 := rfl
  have i0 : (Int32.ofInt 0).toInt = 0 := by decide
  rw [z0] at p1 p2 p3
  rw [i0] at p3 ⊢
  have hz := p5_z6 h p
  have hp := p.2 hz
  obtain ⟨w2, q1, q2⟩ := p2
  obtain ⟨w3, r1, r2⟩ := p3
  have tn : Tn t 0 = z.toNatClampNeg := by unfold Tn; rw [p1.1, up_e]
  have bq : Bq t 0 = u.toInt := by unfold Bq; rw [p1.2, up_e]
  have hS := sg_cg e4 e6
  have hQ := pq_cg e6
  have st := pst_cg e4 e5 e6 h.1
  have cc : Cq t = Cq s := by funext x; unfold Cq; rw [e2]
  have br : ∀ c, BRQ t z.toNatClampNeg c = BRQ s z.toNatClampNeg c := by intro c; unfold BRQ; rw [e5, e6, e2]
  refine ⟨fun _ => ?_, fun q => absurd q (by omega)⟩
  show PCI t k.toInt 0
  refine pc_0 ?_ ?_ ?_ ?_ ?_ ?_ st.2 (fun a b q => (st.1 a b q.1 q.2).1)
  · rw [tn, hQ]; exact hp.2.1
  · intro y; rw [bq, tn, q1, up_e, br]; exact q2 y
  · intro x hx
    rw [r1, up_e] at hx
    obtain ⟨j, hj, -⟩ := r2.1 x hx
    omega
  · rw [bq, hS]; exact ⟨hu, h.2.2.2.2⟩
  · rw [hQ, cc]; exact h.2.2.1
  · rw [hQ, cc, hS, e6]; exact h.2.2.2.1
/-! jumping back -/
def SAM (t0 t : GS) : Prop := t.1 144 = t0.1 144 ∧ t.1 143 = t0.1 143 ∧ t.1 145 = t0.1 145 ∧ t.1 146 = t0.1 146 ∧ t.1 141 = t0.1 141 ∧ t.1 138 = t0.1 138 ∧ t.2.2.1 = t0.2.2.1
def JMP (t : GS) (k : Int) (bars : Int32) (d : Int) : Prop := ∃ (t0 : GS) (D : Nat), PCI t0 k D ∧ d < (D : Int) ∧ (∀ χ, Sol (adjq t0) (Sg t0) k (Pq t0) χ → ¬ (∀ x, bt bars x = true → χ x = Cq t0 x)) ∧ (∀ x, bt bars x = true → ∃ i : Nat, (i : Int) ≤ d ∧ x = Tn t0 i) ∧ SAM t0 t ∧ (∀ x, (∀ e : Nat, d < (e : Int) → e ≤ D → x ≠ Tn t0 e) → t.1 142 x = t0.1 142 x) ∧ ∀ e : Nat, d < (e : Int) → e ≤ D → Cq t (Tn t0 e) < 0
theorem sam_I {t0 t : GS} {j : Nat} {x : Int32} (h : SAM t0 t) : SAM t0 (sI t 142 j x) := by
  obtain ⟨h1, h2, h3, h4, h5, h6, h7⟩ := h
  exact ⟨by rw [sI_p rfl]; exact h1, by rw [sI_p rfl]; exact h2, by rw [sI_p rfl]; exact h3, by rw [sI_p rfl]; exact h4, by rw [sI_p rfl]; exact h5, by rw [sI_p rfl]; exact h6, h7⟩
theorem jm_0 {t : GS} {k : Int} {y v l w d : Int32} (h : A14 t k y.toInt) (h0 : 0 ≤ y.toInt) (ev : v = t.1 144 y.toNatClampNeg) (el : l = t.1 145 y.toNatClampNeg) (cl : l.toInt = 0) (ew : w = t.1 146 y.toNatClampNeg) (hd : d.toInt = y.toInt - 1) : JMP (sI t 142 v.toNatClampNeg (Int32.ofInt (-1))) k w d.toInt := by
  have g : PCI t k y.toNatClampNeg := h.1 h0
  have ey : y.toNatClampNeg = y.toInt.toNat := rfl
  have z : l = 0 := Int32.toInt_inj.mp (cl.trans (by decide))
  have m1 : (Int32.ofInt (-1)).toInt = -1 := by decide
  have tv : Tn t y.toNatClampNeg = v.toNatClampNeg := by unfold Tn; rw [ev]
  refine ⟨t, y.toNatClampNeg, g, by omega, ?_, ?_, sam_I ⟨rfl, rfl, rfl, rfl, rfl, rfl, rfl⟩, fun x hx => ?_, fun e h1 h2 => ?_⟩
  · have a := pc_no g (fun c => by rw [← el, z, bt_z])
    rw [← ew] at a
    exact a
  · intro x hx
    rw [ew] at hx
    obtain ⟨j, h1, h2⟩ := g.i9 _ (Nat.le_refl _) x hx
    exact ⟨j, by omega, h2⟩
  · rw [sI_q, up_n (fun q => hx y.toNatClampNeg (by omega) (Nat.le_refl _) (by rw [tv]; exact q))]
  · unfold Cq
    rw [show e = y.toNatClampNeg by omega, tv, sI_q, up_e, m1]
    omega
theorem jm_s {t : GS} {k : Int} {bars y v d : Int32} (h : JMP t k bars y.toInt) (h0 : 0 ≤ y.toInt) (ev : v = t.1 144 y.toNatClampNeg) (hb : bt bars v.toNatClampNeg = false) (hd : d.toInt = y.toInt - 1) : JMP (sI t 142 v.toNatClampNeg (Int32.ofInt (-1))) k bars d.toInt := by
  obtain ⟨t0, D, g, h1, h2, h3, h4, h5, h6⟩ := h
  have ey : y.toNatClampNeg = y.toInt.toNat := rfl
  have m1 : (Int32.ofInt (-1)).toInt = -1 := by decide
  have tv : Tn t0 y.toNatClampNeg = v.toNatClampNeg := by unfold Tn; rw [ev, h4.1]
  refine ⟨t0, D, g, by omega, h2, fun x hx => ?_, sam_I h4, fun x hx => ?_, fun e e1 e2 => ?_⟩
  · obtain ⟨i, i1, i2⟩ := h3 x hx
    refine ⟨i, ?_, i2⟩
    by_cases q : i = y.toNatClampNeg
    · rw [i2, q, tv, hb] at hx; cases hx
    · omega
  · rw [sI_q, up_n (fun q => hx y.toNatClampNeg (by omega) (by omega) (by rw [tv]; exact q))]
    exact h5 x (fun e e1 e2 => hx e (by omega) e2)
  · unfold Cq
    rw [sI_q]
    by_cases q : Tn t0 e = v.toNatClampNeg
    · rw [q, up_e, m1]; omega
    · rw [up_n q]
      by_cases c : e = y.toNatClampNeg
      · rw [c, tv] at q; exact absurd rfl q
      · exact h6 e (by omega) e2
theorem jm_end {t : GS} {k : Int} {bars y : Int32} (h : JMP t k bars y.toInt) (h0 : y.toInt < 0) : A14 t k y.toInt := by
  obtain ⟨t0, D, g, h1, h2, h3, h4, h5, h6⟩ := h
  refine ⟨fun q => absurd q (by omega), fun _ => ?_⟩
  rw [exp_cg h4.2.2.2.2.1 h4.2.2.2.2.2.1 h4.2.2.2.2.2.2]
  exact pc_end h2 (fun x hx => by obtain ⟨i, i1, -⟩ := h3 x hx; omega)
theorem jm_pop {t : GS} {k : Int} {bars y z100 z109 z110 z112 z113 z114 : Int32} (h : JMP t k bars y.toInt) (h0 : 0 ≤ y.toInt) (e100 : z100 = t.1 146 y.toNatClampNeg) (e109 : z109 = t.1 144 y.toNatClampNeg) (i109 : In z109 0 31) (e110 : z110 = Int32.ofInt 1 <<< (z109 &&& 31)) (e112 : z112 = z110 ^^^ Int32.ofInt (-1)) (e113 : z113 = bars &&& z112) (e114 : z114 = z100 ||| z113) : A14 (sI t 146 y.toNatClampNeg z114) k y.toInt := by
  obtain ⟨t0, D, g, h1, h2, h3, ⟨s1, s2, s3, s4, s5, s6, s7⟩, h5, h6⟩ := h
  have ey : y.toNatClampNeg = y.toInt.toNat := rfl
  have tv : Tn t0 y.toNatClampNeg = z109.toNatClampNeg := by unfold Tn; rw [e109, s1]
  refine ⟨fun _ => ?_, fun q => absurd q (by omega)⟩
  show PCI _ k y.toNatClampNeg
  refine pc_pop (bars := bars) g (show y.toNatClampNeg < D by omega) h2 (fun x hx => ?_) (by rw [sI_p rfl]; exact s1) (by rw [sI_p rfl]; exact s2) (by rw [sI_p rfl]; exact s3) (by rw [sI_p rfl]; exact s5) (by rw [sI_p rfl]; exact s6) s7 (fun x hx => ?_) (fun e e1 e2 => ?_) (fun e he => ?_) (fun x => ?_)
  · obtain ⟨i, i1, i2⟩ := h3 x hx
    exact ⟨i, by omega, i2⟩
  · rw [sI_p rfl]
    exact h5 x (fun e e1 e2 => hx e (by omega) e2)
  · unfold Cq
    rw [sI_p rfl]
    exact h6 e (by omega) e2
  · rw [sI_q, up_n (by omega), s4]
  · rw [sI_q, up_e, bt_or e114, e100, s4, Bool.or_eq_true, tv]
    refine or_congr Iff.rfl ⟨fun q => ?_, fun q => ?_⟩
    · have hx := bt_lt q
      rw [bt_clr e110 e112 e113 i109 hx] at q
      have q1 := (Bool.and_eq_true _ _).mp q
      refine ⟨q1.1, fun c => ?_⟩
      rw [decide_eq_true c] at q1
      exact absurd q1.2 (by decide)
    · have hx := bt_lt q.1
      rw [bt_clr e110 e112 e113 i109 hx, q.1, decide_eq_false q.2]
      rfl
/-! a colour is taken -/
def LK (t t1 : GS) (y v c z m : Int32) : Prop := t1.1 144 = t.1 144 ∧ t1.1 143 = t.1 143 ∧ t1.1 146 = t.1 146 ∧ t1.1 141 = t.1 141 ∧ t1.1 138 = t.1 138 ∧ t1.2.2.1 = t.2.2.1 ∧ t1.1 145 = upd (t.1 145) y.toNatClampNeg z ∧ t1.1 142 = upd (upd (t.1 142) v.toNatClampNeg m) v.toNatClampNeg c
theorem lk_i {t : GS} {y v c z m : Int32} : LK t (sI (sI (sI t 142 v.toNatClampNeg m) 145 y.toNatClampNeg z) 142 v.toNatClampNeg c) y v c z m := by
  refine ⟨?_, ?_, ?_, ?_, ?_, rfl, ?_, ?_⟩
  · rw [sI_p rfl, sI_p rfl, sI_p rfl]
  · rw [sI_p rfl, sI_p rfl, sI_p rfl]
  · rw [sI_p rfl, sI_p rfl, sI_p rfl]
  · rw [sI_p rfl, sI_p rfl, sI_p rfl]
  · rw [sI_p rfl, sI_p rfl, sI_p rfl]
  · rw [sI_p rfl, sI_q, sI_p rfl]
  · rw [sI_q, sI_p rfl, sI_q]
theorem pc_cl {t t1 : GS} {k : Int} {D c v : Nat} {z m : Int32} (h : PCI t k D) (ev : v = Tn t D) (hz : z.toInt = (c : Int)) (a2 : t1.1 142 = upd (upd (t.1 142) v m) v z) : (∀ y, y ≠ Tn t D → t1.1 142 y = t.1 142 y) ∧ Cq t1 (Tn t D) = (c : Int) ∧ ∀ d, d ≤ D → 0 ≤ Cq t1 (Tn t d) := by
  have n : ∀ y, y ≠ Tn t D → t1.1 142 y = t.1 142 y := by
    intro y hy
    rw [a2, ev, up_n hy, up_n hy]
  have e : Cq t1 (Tn t D) = (c : Int) := by unfold Cq; rw [a2, ev, up_e]; exact hz
  refine ⟨n, e, fun d hd => ?_⟩
  by_cases q : d = D
  · rw [q, e]; omega
  · unfold Cq
    rw [n _ (h.i2 d D (by omega) (Nat.le_refl _))]
    exact (h.i3 d (by omega)).1
theorem pc_nx {t t1 : GS} {k : Int} {D : Nat} {x : Int32} (hc : ∀ d, d ≤ D → 0 ≤ Cq t1 (Tn t d)) (e6 : t1.2.2.1 = t.2.2.1) (p : TGT t1 (t1.2.2.1 109 20).toInt x) (hx : 0 ≤ x.toInt) : Pq t x.toNatClampNeg ∧ ∀ d, d ≤ D → x.toNatClampNeg ≠ Tn t d := by
  obtain ⟨p1, p2, p3⟩ := p.2 hx
  refine ⟨by unfold Pq; rw [← e6]; exact p2, fun d hd e => ?_⟩
  have a := hc d hd
  rw [← e] at a
  unfold Cq at a
  omega
theorem pc_all {t t1 : GS} {k : Int} {D : Nat} {x : Int32} (h : PCI t k D) (n : ∀ y, y ≠ Tn t D → t1.1 142 y = t.1 142 y) (e6 : t1.2.2.1 = t.2.2.1) (st : PST t) (p : TGT t1 (t1.2.2.1 109 20).toInt x) (hx : x.toInt < 0) : ∀ y, Pq t y → ∃ d, d ≤ D ∧ y = Tn t d := by
  intro y hy
  apply Classical.byContradiction
  intro q
  have q2 : ∀ d, d ≤ D → y ≠ Tn t d := fun d hd e => q ⟨d, hd, e⟩
  have a := h.i5 y hy q2
  have b := p.1 hx y (by rw [e6]; exact (st.2 y hy).1) (by rw [e6]; exact hy)
  rw [n y (q2 D (Nat.le_refl _))] at b
  unfold Cq at a
  omega
theorem pc_t {t t1 : GS} {k : Int} {y v c x z m l : Int32} (h : A14 t k y.toInt) (h0 : 0 ≤ y.toInt) (st : PST t) (L : LK t t1 y v c z m) (ev : v = t.1 144 y.toNatClampNeg) (el : l = t.1 145 y.toNatClampNeg) (hc : bt l c.toNatClampNeg = true) (c0 : 0 ≤ c.toInt) (p : TGT t1 (t1.2.2.1 109 20).toInt x) (hx : x.toInt < 0) : EXP t1 k := by
  obtain ⟨a4, a3, a6, a1, a8, aF, a5, a2⟩ := L
  have g : PCI t k y.toNatClampNeg := h.1 h0
  have tv : v.toNatClampNeg = Tn t y.toNatClampNeg := by unfold Tn; rw [ev]
  have cc : c.toInt = ((c.toNatClampNeg : Nat) : Int) := by show c.toInt = ((c.toInt.toNat : Nat) : Int); omega
  obtain ⟨n, -, -⟩ := pc_cl g tv cc a2
  rw [exp_cg a1 a8 aF]
  exact pc_yes g (by rw [← el]; exact hc) (bsd_sym st.1) (fun a q => (st.1 a a q.1 q.2).2.2 rfl) (pc_all g n aF st p hx)
theorem pc_d {t t1 : GS} {k : Int} {y v c x z m : Int32} (h : A14 t k y.toInt) (h0 : 0 ≤ y.toInt) (L : LK t t1 y v c z m) (ev : v = t.1 144 y.toNatClampNeg) (c0 : 0 ≤ c.toInt) (p : TGT t1 (t1.2.2.1 109 20).toInt x) (hx : 0 ≤ x.toInt) : y.toInt ≤ 30 := by
  obtain ⟨a4, a3, a6, a1, a8, aF, a5, a2⟩ := L
  have g : PCI t k y.toNatClampNeg := h.1 h0
  have ey : y.toNatClampNeg = y.toInt.toNat := rfl
  have tv : v.toNatClampNeg = Tn t y.toNatClampNeg := by unfold Tn; rw [ev]
  have cc : c.toInt = ((c.toNatClampNeg : Nat) : Int) := by show c.toInt = ((c.toInt.toNat : Nat) : Int); omega
  obtain ⟨-, -, n⟩ := pc_cl g tv cc a2
  obtain ⟨q1, q2⟩ := pc_nx (k := k) n aF p hx
  have := pc_dep2 g q1 q2
  omega
theorem pc_b0 {t : GS} {k : Int} {y : Int32} (h : A14 t k y.toInt) (h0 : 0 ≤ y.toInt) : 0 ≤ (t.1 143 y.toNatClampNeg).toInt := by
  have g : PCI t k y.toNatClampNeg := h.1 h0
  have a := pc_mono g _ (Nat.le_refl _) 0 (Nat.zero_le _)
  have b := g.i4.1
  unfold Bq at a b
  omega
theorem pc_st {t t1 t2 : GS} {kk y v c x z m l w u z1 z2 : Int32} (h : A14 t kk.toInt y.toInt) (h0 : 0 ≤ y.toInt) (st : PST t) (L : LK t t1 y v c z m) (ev : v = t.1 144 y.toNatClampNeg) (el : l = t.1 145 y.toNatClampNeg) (hc : bt l c.toNatClampNeg = true) (ci : In c 0 31) (e1 : z1 = Int32.ofInt 1 <<< (c &&& 31)) (e2 : z2 = z1 ^^^ Int32.ofInt (-1)) (e3 : z = l &&& z2) (p : TGT t1 (t1.2.2.1 109 20).toInt x) (hx : 0 ≤ x.toInt) (hw : w.toInt = y.toInt + 1) (hu1 : (t.1 143 y.toNatClampNeg).toInt ≤ u.toInt) (hu2 : c.toInt < u.toInt)
    (p1 : t2.1 144 = upd (t1.1 144) w.toNatClampNeg x ∧ t2.1 143 = upd (t1.1 143) w.toNatClampNeg u)
    (p2 : ∃ a : Int32, t2.1 145 = upd (t1.1 145) w.toNatClampNeg a ∧ ∀ c : Nat, (bt a c = true ↔ ((c : Int) < kk.toInt ∧ (c : Int) ≤ u.toInt ∧ ¬ BRQ t1 x.toNatClampNeg c)))
    (p3 : ∃ a : Int32, t2.1 146 = upd (t1.1 146) w.toNatClampNeg a ∧ WHY t1 x.toNatClampNeg w.toInt a)
    (b2 : t2.1 142 = t1.1 142) (b4 : t2.1 141 = t1.1 141) (b5 : t2.1 138 = t1.1 138) (b6 : t2.2.2.1 = t1.2.2.1) : A14 t2 kk.toInt w.toInt ∧ sV (t2.1 145) (w.toInt + 1).toNat < sV (t.1 145) (y.toInt + 1).toNat := by
  obtain ⟨a4, a3, a6, a1, a8, aF, a5, a2⟩ := L
  have g : PCI t kk.toInt y.toNatClampNeg := h.1 h0
  have ey : y.toNatClampNeg = y.toInt.toNat := rfl
  have ew : w.toNatClampNeg = y.toNatClampNeg + 1 := by show w.toInt.toNat = y.toInt.toNat + 1; omega
  have tv : v.toNatClampNeg = Tn t y.toNatClampNeg := by unfold Tn; rw [ev]
  have c0 := ci.1
  have cc : c.toInt = ((c.toNatClampNeg : Nat) : Int) := by show c.toInt = ((c.toInt.toNat : Nat) : Int); omega
  obtain ⟨n1, n2, n3⟩ := pc_cl g tv cc a2
  obtain ⟨q1, q2⟩ := pc_nx (k := kk.toInt) n3 aF p hx
  have dep := pc_dep2 g q1 q2
  obtain ⟨w5, r1, r2⟩ := p2
  obtain ⟨w6, r3, r4⟩ := p3
  rw [ew] at p1 r1 r3
  have hz : ∀ i, bt z i = true ↔ (bt l i = true ∧ i ≠ c.toNatClampNeg) := by
    intro i
    constructor
    · intro q
      have hi := bt_lt q
      rw [bt_clr e1 e2 e3 ci hi] at q
      have q1 := (Bool.and_eq_true _ _).mp q
      refine ⟨q1.1, fun c => ?_⟩
      rw [decide_eq_true c] at q1
      exact absurd q1.2 (by decide)
    · intro q
      have hi := bt_lt q.1
      rw [bt_clr e1 e2 e3 ci hi, q.1, decide_eq_false q.2]
      rfl
  have l5 : ∀ d, d < y.toNatClampNeg → t2.1 145 d = t.1 145 d := by intro d hd; rw [r1, up_n (by omega), a5, up_n (by omega)]
  have l5D : t2.1 145 y.toNatClampNeg = z := by rw [r1, up_n (by omega), a5, up_e]
  have tn2 : ∀ d, d ≤ y.toNatClampNeg → t2.1 144 d = t.1 144 d := by intro d hd; rw [p1.1, up_n (by omega), a4]
  refine ⟨⟨fun _ => ?_, fun q => absurd q (by omega)⟩, ?_⟩
  · show PCI t2 kk.toInt w.toNatClampNeg
    rw [ew]
    refine pc_push (c := c.toNatClampNeg) (x := x.toNatClampNeg) g (by rw [← el]; exact hc) st.2 (fun a b q => (st.1 a b q.1 q.2).1) ?_ q1 q2 tn2 (fun d hd => by rw [p1.2, up_n (by omega), a3]) ?_ ?_ l5 (fun i => by rw [l5D, ← el]; exact hz i) (fun i => ?_) (b4.trans a1) (b5.trans a8) (b6.trans aF) (fun i hi => by rw [b2]; exact n1 i hi) ?_ (fun d hd => by rw [r3, up_n (by omega), a6]) (fun i hi => ?_) (fun j hj hb => ?_)
    · unfold Tn; rw [p1.1, up_e]
    · unfold Bq; rw [p1.2, up_e]; exact hu1
    · unfold Bq; rw [p1.2, up_e]; omega
    · unfold Bq
      rw [r1, up_e, p1.2, up_e, show BRQ t2 x.toNatClampNeg i = BRQ t1 x.toNatClampNeg i by unfold BRQ; rw [b5, b6, b2]]
      exact r2 i
    · unfold Cq at n2 ⊢; rw [b2]; exact n2
    · rw [r3, up_e] at hi
      obtain ⟨j, j1, j2⟩ := r4.1 i hi
      refine ⟨j, by omega, ?_⟩
      unfold Tn
      rw [p1.1, up_n (by omega)]
      exact j2
    · unfold Tn at hb ⊢
      rw [p1.1, up_n (by omega)] at hb ⊢
      rw [r3, up_e]
      rw [b5] at hb
      exact r4.2 j (by omega) hb
  · rw [show (w.toInt + 1).toNat = y.toNatClampNeg + 2 by omega, show (y.toInt + 1).toNat = y.toNatClampNeg + 1 by omega]
    refine sV_push (by omega) l5 ?_
    rw [l5D, ← el]
    exact cb_clr e1 e2 e3 ci hc
/-! barred stays at most 32 -/
def BB (t : GS) (d : Int) : Prop := ∀ e : Nat, (e : Int) ≤ d → (t.1 143 e).toInt ≤ 32
theorem bb_le {t t2 : GS} {d d2 : Int} (h : BB t d) (e : t2.1 143 = t.1 143) (hd : d2 ≤ d) : BB t2 d2 := fun i hi => by rw [e]; exact h i (by omega)
theorem bb_up {t t1 t2 : GS} {y w u : Int32} (h : BB t y.toInt) (a : t1.1 143 = t.1 143) (p : t2.1 143 = upd (t1.1 143) w.toNatClampNeg u) (hw : w.toInt = y.toInt + 1) (hu : u.toInt ≤ 32) : BB t2 w.toInt := by
  intro e he
  rw [p]
  by_cases q : e = w.toNatClampNeg
  · rw [q, up_e]; exact hu
  · rw [up_n q, a]
    have ew : w.toNatClampNeg = w.toInt.toNat := rfl
    exact h e (by omega)
theorem bb_0 {s t : GS} {u : Int32} (p : t.1 143 = upd (s.1 143) (Int32.ofInt 0).toNatClampNeg u) (hu : u.toInt ≤ 32) : BB t (Int32.ofInt 0).toInt := by
  intro e he
  have i0 : (Int32.ofInt 0).toInt = 0 := by decide
  have z0 : (Int32.ofInt 0).toNatClampNeg = 0 := rfl
  rw [p, z0, show e = 0 by omega, up_e]
  exact hu
theorem sV_1 {f : Nat → Int32} : sV f ((Int32.ofInt 0).toInt + 1).toNat < 118059162071741130342400000000000000000000000000000000000 := by
  rw [show ((Int32.ofInt 0).toInt + 1).toNat = 1 by decide]
  have h := cb_le (f 0)
  have m : (cb (f 0) + 1) * 40 ^ 33 ≤ 33 * 40 ^ 33 := Nat.mul_le_mul_right _ (by omega)
  show 0 + (cb (f 0) + 1) * 40 ^ (33 - 0) < 118059162071741130342400000000000000000000000000000000000
  rw [Nat.zero_add]
  exact Nat.lt_of_le_of_lt m (by decide)
end
section
/-! COLOURING OF THE REFERENCE: all parts -/
def EXT (t : GS) (k : Int) (T : Nat → Prop) : Prop := Ext (adjq t) (Sg t) k T
def UU (t : GS) (v : Nat) : Prop := (v : Int) < (t.2.2.1 109 20).toInt ∧ Sg t v < 0
def UB (t : GS) (m : Int) : Prop := ∀ u, 0 ≤ Sg t u → Sg t u < m
def CEm (t : GS) (m : Int) : Prop := ∀ u : Nat, (u : Int) < m → t.1 142 u = t.1 141 u
def CE (t : GS) : Prop := CEm t (t.2.2.1 109 20).toInt
def UBm (t : GS) (m b : Int) : Prop := ∀ u : Nat, (u : Int) < m → (t.1 141 u).toInt < b
def S3 (s t : GS) : Prop := t.1 138 = s.1 138 ∧ t.1 141 = s.1 141 ∧ t.2.2.1 109 20 = s.2.2.1 109 20
/-- the answer -/
def CLR (s : GS) (k r : Int) : Prop := (r = 0 → ¬ EXT s k (UU s)) ∧ (r ≠ 0 → EXT s k (UU s))
theorem ad3 {s t : GS} (h : S3 s t) : adjq t = adjq s := by funext a b; unfold adjq; rw [h.1, h.2.2]
theorem sg3 {s t : GS} (h : S3 s t) : Sg t = Sg s := by funext x; unfold Sg; rw [h.2.1, h.2.2]
theorem bsd3 {s t : GS} (h : S3 s t) (hb : BSD s) : BSD t := by unfold BSD; rw [h.1, h.2.2]; exact hb
theorem sg_lt {t : GS} {x : Nat} (h : (x : Int) < (t.2.2.1 109 20).toInt) : Sg t x = (t.1 141 x).toInt := if_pos h
theorem sg_ge {t : GS} {x : Nat} (h : ¬ (x : Int) < (t.2.2.1 109 20).toInt) : Sg t x = -1 := if_neg h
theorem ext_sg {adj : Nat → Nat → Prop} {σ σ2 : Nat → Int} {k : Int} {T : Nat → Prop} (hσ : ∀ v u, adj v u → σ2 u = σ u) (h : Ext adj σ k T) : Ext adj σ2 k T := by
  obtain ⟨χ, h1, h2⟩ := h
  refine ⟨χ, h1, fun v hv u hu => ⟨(h2 v hv u hu).1, fun hs => ?_⟩⟩
  rw [hσ v u hu] at hs ⊢
  exact (h2 v hv u hu).2 hs
theorem ce_sg {s t : GS} (h : S3 s t) (hb : BSD s) (hc : CE t) : ∀ v u, adjq s v u → (t.1 142 u).toInt = Sg s u := by
  intro v u hu
  have hn := (hb v u hu.1 hu.2).1
  rw [hc u (by rw [h.2.2]; exact hn), h.2.1, sg_lt hn]
theorem exs_t {s t : GS} {k : Int} {T : Nat → Prop} (h : S3 s t) (hb : BSD s) (hc : CE t) : EXS t k T ↔ EXT s k T := by
  unfold EXS EXT
  rw [ad3 h]
  exact ⟨ext_sg (fun v u hu => (ce_sg h hb hc v u hu).symm), ext_sg (ce_sg h hb hc)⟩
theorem unc_t {s t : GS} (h : S3 s t) (hc : CE t) : UNC t = UU s := by
  funext v
  unfold UNC UU
  apply propext
  rw [h.2.2]
  constructor
  · intro q
    refine ⟨q.1, ?_⟩
    rw [sg_lt q.1, ← h.2.1, ← hc v (by rw [h.2.2]; exact q.1)]
    exact q.2
  · intro q
    refine ⟨q.1, ?_⟩
    rw [hc v (by rw [h.2.2]; exact q.1), h.2.1, ← sg_lt q.1]
    exact q.2
def I62 (s : GS) (k : Int) (O : Int32) (a : Int) : Prop := (a = 0 → ¬ EXT s k (UU s)) ∧ (a ≠ 0 → EXT s k (fun v => bt O v = true) → EXT s k (UU s)) ∧ ∀ v, bt O v = true → UU s v
theorem i62_0 {s t : GS} {k a : Int} {O : Int32} (h : S3 s t) (hb : BSD s) (hc : CE t) (p : TOU t k O) (ha : a ≠ 0) : I62 s k O a := by
  refine ⟨fun q => absurd q ha, fun _ q => ?_, fun v hv => ?_⟩
  · have r := p.2 (bsd3 h hb) ((exs_t h hb hc).mpr q)
    rw [unc_t h hc] at r
    exact (exs_t h hb hc).mp r
  · have r := p.1 v hv
    rw [unc_t h hc] at r
    exact r
theorem i62_e {s : GS} {k a : Int} {O : Int32} (g : I62 s k O a) (hO : O.toInt = 0) : CLR s k a := by
  refine ⟨g.1, fun q => g.2.1 q ?_⟩
  have z : O = 0 := Int32.toInt_inj.mp (hO.trans (by decide))
  refine ⟨fun _ => 0, fun v hv => ?_, fun v hv => ?_⟩
  · rw [z, bt_z] at hv; cases hv
  · rw [z, bt_z] at hv; cases hv
theorem i62_f {s : GS} {k a : Int} {O : Int32} (g : I62 s k O a) (ha : a = 0) : CLR s k a := ⟨g.1, fun q => absurd ha q⟩
theorem hn_sub {O P v : Int32} (hv : bt O v.toNatClampNeg = true) (h : ∀ u : Nat, bt P u = true → u = v.toNatClampNeg ∨ bt O u = true) : ∀ u, bt P u = true → bt O u = true := by
  intro u hu
  rcases h u hu with q | q
  · rw [q]; exact hv
  · exact q
theorem i62_s {s t t2 : GS} {k a r : Int} {O P z90 z91 : Int32} (g : I62 s k O a) (ha : a ≠ 0) (hb : BSD s) (h : S3 s t) (h2 : S3 s t2) (hng : HNG t O P) (hsub : ∀ u, bt P u = true → bt O u = true) (e90 : z90 = P ^^^ Int32.ofInt (-1)) (e91 : z91 = O &&& z90) (ep : t2.2.2.1 109 53 = P) (hr : (r = 0 → ¬ EXP t2 k) ∧ (r ≠ 0 → EXP t2 k)) : I62 s k z91 r := by
  have ex : EXP t2 k = EXT s k (fun v => bt P v = true) := by
    unfold EXP EXT Pq
    rw [ad3 h2, sg3 h2, ep]
  rw [ex] at hr
  have hz : ∀ u, bt z91 u = true ↔ (bt O u = true ∧ ¬ bt P u = true) := by
    intro u
    constructor
    · intro q
      have hu := bt_lt q
      rw [bt_and e91, bt_not e90 hu] at q
      have q1 := (Bool.and_eq_true _ _).mp q
      refine ⟨q1.1, fun c => ?_⟩
      rw [c] at q1
      exact absurd q1.2 (by decide)
    · intro q
      have hu := bt_lt q.1
      have c : bt P u = false := by
        cases hq : bt P u with
        | false => rfl
        | true => exact absurd hq q.2
      rw [bt_and e91, bt_not e90 hu, q.1, c]
      rfl
  refine ⟨fun q w => hr.1 q (ext_sub w (fun v hv => g.2.2 v (hsub v hv))), fun q w => g.2.1 ha ?_, fun v hv => g.2.2 v ((hz v).mp hv).1⟩
  refine ext_or (P := fun v => bt P v = true) (bsd_sym hb) (fun x y hx hy hT => ?_) (hr.2 q) (ext_sub w (fun v hv => (hz v).mpr hv))
  exact hng x y (by rw [h.2.2]; exact hy.1) hx (by rw [h.1]; exact hy.2) hT
theorem p5_i {s t : GS} {k a : Int} {O P : Int32} {m : Int} {x : Nat} (g : I62 s k O a) (hb : BSD s) (h : S3 s t) (hc : CE t) (hu : UB s m) (ep : t.2.2.1 109 53 = P) (hx : bt P x = true) (hsub : ∀ u, bt P u = true → bt O u = true) : P345 t m := by
  have st : ∀ y, Pq t y → (y : Int) < (t.2.2.1 109 20).toInt ∧ Sg t y < 0 := by
    intro y hy
    unfold Pq at hy
    rw [ep] at hy
    rw [h.2.2, sg3 h]
    exact g.2.2 y (hsub y hy)
  have ce : ∀ y : Nat, (y : Int) < (t.2.2.1 109 20).toInt → Cq t y = Sg t y := by
    intro y hy
    unfold Cq
    rw [hc y hy, sg_lt hy]
  refine ⟨⟨bsd3 h hb, st⟩, ⟨x, by unfold Pq; rw [ep]; exact hx⟩, fun y hy => ?_, fun y hy _ => ce y hy, fun u hq => ?_⟩
  · have a := st y hy
    rw [ce y a.1]
    exact a.2
  · rw [sg3 h] at hq ⊢
    exact hu u hq
theorem ub_i {s t : GS} {m : Int} (h : S3 s t) (hu : UBm t (t.2.2.1 109 20).toInt m) : UB s m := by
  intro u hq
  by_cases c : (u : Int) < (s.2.2.1 109 20).toInt
  · rw [sg_lt c, ← h.2.1]
    exact hu u (by rw [h.2.2]; exact c)
  · rw [sg_ge c] at hq; omega
theorem cem_0 {t : GS} : CEm t (Int32.ofInt 0).toInt := fun u hu => by
  have i0 : (Int32.ofInt 0).toInt = 0 := by decide
  omega
theorem cem_s {t : GS} {y w z : Int32} (h : CEm t y.toInt) (ez : z = t.1 141 y.toNatClampNeg) (h0 : 0 ≤ y.toInt) (hw : w.toInt = y.toInt + 1) : CEm (sI t 142 y.toNatClampNeg z) w.toInt := by
  intro u hu
  have ey : y.toNatClampNeg = y.toInt.toNat := rfl
  rw [sI_q, sI_p rfl]
  by_cases q : u = y.toNatClampNeg
  · rw [q, up_e, ez]
  · rw [up_n q]; exact h u (by omega)
theorem ubm_0 {t : GS} {b : Int} : UBm t (Int32.ofInt 0).toInt b := fun u hu => by
  have i0 : (Int32.ofInt 0).toInt = 0 := by decide
  omega
theorem ubm_s {t t2 : GS} {y w z : Int32} {b b2 : Int} (h : UBm t y.toInt b) (e : t2.1 141 = t.1 141) (ez : z = t.1 141 y.toNatClampNeg) (h0 : 0 ≤ y.toInt) (hw : w.toInt = y.toInt + 1) (hb : b ≤ b2) (hz : z.toInt < b2) : UBm t2 w.toInt b2 := by
  intro u hu
  have ey : y.toNatClampNeg = y.toInt.toNat := rfl
  rw [e]
  by_cases q : u = y.toNatClampNeg
  · rw [q, ← ez]; exact hz
  · have := h u (by omega)
    omega
theorem cb_dn {O P v z90 z91 : Int32} (hv : bt O v.toNatClampNeg = true) (hp : bt P v.toNatClampNeg = true) (e90 : z90 = P ^^^ Int32.ofInt (-1)) (e91 : z91 = O &&& z90) : cb z91 < cb O := by
  have h1 : ∀ k, bt z91 k = true → bt O k = true := by
    intro k hk
    rw [bt_and e91] at hk
    exact ((Bool.and_eq_true _ _).mp hk).1
  refine cb_ss h1 (fun e => ?_)
  have hk := bt_lt hp
  have q : bt z91 v.toNatClampNeg = false := by
    rw [bt_and e91, bt_not e90 hk, hp]
    cases bt O v.toNatClampNeg <;> rfl
  rw [e, hv] at q
  cases q
end
section
/-! COLOURING OF THE REFERENCE: a node's colour -/
def NS (t : GS) (m : Int) : Prop := ∀ v : Nat, m ≤ (v : Int) → (v : Int) < (t.2.2.1 109 20).toInt → t.1 141 v = Int32.ofInt (-1)
theorem m1_i : (Int32.ofInt (-1)).toInt = -1 := by decide
theorem s3_rf {t : GS} : S3 t t := ⟨rfl, rfl, rfl⟩
theorem ns3 {s t : GS} {m : Int} (h : S3 s t) (q : NS s m) : NS t m := by
  unfold NS
  rw [h.2.1, h.2.2]
  exact q
theorem uu3 {s t : GS} (h : S3 s t) : UU t = UU s := by funext v; unfold UU; rw [h.2.2, sg3 h]
theorem ext3 {s t : GS} {k : Int} (h : S3 s t) (q : EXT s k (UU s)) : EXT t k (UU t) := by
  unfold EXT at q ⊢
  rw [ad3 h, sg3 h, uu3 h]
  exact q
theorem ns_sg {t : GS} (h : NS t 0) : ∀ u, Sg t u = -1 := by
  intro u
  by_cases c : (u : Int) < (t.2.2.1 109 20).toInt
  · rw [sg_lt c, h u (by omega) c, m1_i]
  · exact sg_ge c
theorem ns_0 {t : GS} (h : ∀ u : Nat, (u : Int) < (t.2.2.1 109 20).toInt → t.1 141 u = Int32.ofInt (-1)) : NS t 0 := fun v _ hv => h v hv
/-- with a colour for each node all is well -/
theorem clr_n {t : GS} {k r : Int} (hb : BSD t) (hN : NS t 0) (h : CLR t k r) (hr : r = 0) : k < (t.2.2.1 109 20).toInt := by
  apply Classical.byContradiction
  intro q
  refine h.1 hr ⟨fun v => (v : Int), fun v hv => ?_, fun v hv u hu => ⟨fun _ => ?_, fun hs => ?_⟩⟩
  · have := hv.1
    show 0 ≤ (v : Int) ∧ (v : Int) < k
    exact ⟨by omega, by omega⟩
  · have := (hb v u hu.1 hu.2).2.2
    show (u : Int) ≠ (v : Int)
    omega
  · rw [ns_sg hN] at hs; omega
theorem bsd_I {t : GS} {q j : Nat} {x : Int32} (hq : Nat.beq 138 q = false) (h : BSD t) : BSD (sI t q j x) := by
  unfold BSD
  rw [sI_p hq]
  exact h
theorem s3_I {s t : GS} {j : Nat} {x : Int32} (h : S3 s t) : S3 s (sI t 142 j x) := ⟨by rw [sI_p rfl]; exact h.1, by rw [sI_p rfl]; exact h.2.1, h.2.2⟩
def E61 (t0 t : GS) (u : Nat) : Prop := t.1 138 = t0.1 138 ∧ t.2.2.1 109 20 = t0.2.2.1 109 20 ∧ ∃ w, t.1 141 = upd (t0.1 141) u w
def G90 (t0 : GS) (k : Int) (u : Nat) (c : Int) : Prop := ∃ χ, Sol (adjq t0) (Sg t0) k (UU t0) χ ∧ c ≤ χ u
def F72 (t0 t : GS) (k : Int) (u : Nat) (c f : Int) : Prop := (f = 0 → G90 t0 k u (c + 1)) ∧ (f ≠ 0 → EXT t k (UU t))
theorem up_sf {f : Nat → Int32} {u : Nat} : upd f u (f u) = f := by
  funext x
  by_cases q : x = u
  · rw [q, up_e]
  · rw [up_n q]
theorem up_up {f : Nat → Int32} {u : Nat} {a b : Int32} : upd (upd f u a) u b = upd f u b := by
  funext x
  by_cases q : x = u
  · rw [q, up_e, up_e]
  · rw [up_n q, up_n q, up_n q]
theorem e61_3 {t0 t : GS} {u : Nat} (h : S3 t0 t) : E61 t0 t u := ⟨h.1, h.2.2, t0.1 141 u, by rw [h.2.1, up_sf]⟩
theorem e61_b {t0 t : GS} {u : Nat} (h : E61 t0 t u) (hu : t0.1 141 u = Int32.ofInt (-1)) : S3 t0 (sI t 141 u (Int32.ofInt (-1))) := by
  obtain ⟨h1, h2, w, h3⟩ := h
  refine ⟨by rw [sI_p rfl]; exact h1, ?_, h2⟩
  rw [sI_q, h3, up_up, ← hu, up_sf]
theorem e61_c {t0 t t2 : GS} {u : Nat} {z : Int32} (h : S3 t0 t) (h2 : S3 (sI t 141 u z) t2) : E61 t0 t2 u := by
  refine ⟨?_, ?_, z, ?_⟩
  · rw [h2.1, sI_p rfl]; exact h.1
  · exact h2.2.2.trans h.2.2
  · rw [h2.2.1, sI_q, h.2.1]
theorem ns_61 {t0 t : GS} {y w : Int32} (h : E61 t0 t y.toNatClampNeg) (hN : NS t0 y.toInt) (h0 : 0 ≤ y.toInt) (hw : w.toInt = y.toInt + 1) : NS t w.toInt := by
  obtain ⟨h1, h2, x, h3⟩ := h
  intro v hv hn
  have ey : y.toNatClampNeg = y.toInt.toNat := rfl
  rw [h3, up_n (by omega)]
  rw [h2] at hn
  exact hN v (by omega) hn
theorem ns_u {t : GS} {y : Int32} (hN : NS t y.toInt) (h0 : 0 ≤ y.toInt) (hn : y.toInt < (t.2.2.1 109 20).toInt) : t.1 141 y.toNatClampNeg = Int32.ofInt (-1) := by
  have ey : y.toNatClampNeg = y.toInt.toNat := rfl
  exact hN _ (by omega) (by omega)
theorem uu_u {t : GS} {y : Int32} (hN : NS t y.toInt) (h0 : 0 ≤ y.toInt) (hn : y.toInt < (t.2.2.1 109 20).toInt) : UU t y.toNatClampNeg := by
  have ey : y.toNatClampNeg = y.toInt.toNat := rfl
  refine ⟨by omega, ?_⟩
  rw [sg_lt (by omega), ns_u hN h0 hn, m1_i]
  omega
theorem f72_0 {t : GS} {k : Int} {y : Int32} (hN : NS t y.toInt) (h0 : 0 ≤ y.toInt) (hn : y.toInt < (t.2.2.1 109 20).toInt) (h : EXT t k (UU t)) : F72 t t k y.toNatClampNeg (Int32.ofInt (-1)).toInt (Int32.ofInt 0).toInt := by
  refine ⟨fun _ => ?_, fun q => absurd (by decide) q⟩
  obtain ⟨χ, h1⟩ := h
  refine ⟨χ, h1, ?_⟩
  have := (h1.1 _ (uu_u hN h0 hn)).1
  rw [m1_i]
  omega
theorem g90_k {t : GS} {k c : Int} {y : Int32} (hN : NS t y.toInt) (h0 : 0 ≤ y.toInt) (hn : y.toInt < (t.2.2.1 109 20).toInt) (h : G90 t k y.toNatClampNeg c) : c < k := by
  obtain ⟨χ, h1, h2⟩ := h
  have := (h1.1 _ (uu_u hN h0 hn)).2
  omega
/-- the colour is barred -/
theorem f72_b {t0 t : GS} {k : Int} {y c z f : Int32} (hN : NS t0 y.toInt) (h0 : 0 ≤ y.toInt) (hn : y.toInt < (t0.2.2.1 109 20).toInt) (hb : BSD t0) (h : S3 t0 t) (hc : CE t) (p : BAR t y.toNatClampNeg (t.2.2.1 109 20).toInt z) (hz : bt z c.toNatClampNeg = true) (c0 : 0 ≤ c.toInt) (g : G90 t0 k y.toNatClampNeg c.toInt) (hf : f.toInt = 0) : F72 t0 t k y.toNatClampNeg c.toInt f.toInt := by
  refine ⟨fun _ => ?_, fun q => absurd hf q⟩
  obtain ⟨χ, h1, h2⟩ := g
  refine ⟨χ, h1, ?_⟩
  obtain ⟨w, w1, w2, w3, w4⟩ := (p _).mp hz
  have hu := uu_u hN h0 hn
  have ha : adjq t0 y.toNatClampNeg w := ⟨hu.1, by rw [← h.1]; exact w2⟩
  have e := ce_sg h hb hc _ _ ha
  have r := (h1.2 _ hu w ha).2 (by omega)
  have w5 : (t.1 142 w).toInt.toNat = c.toInt.toNat := w4
  omega
/-- the colour does not do -/
theorem f72_c {t0 t t2 : GS} {k : Int} {y c r : Int32} (hN : NS t0 y.toInt) (h0 : 0 ≤ y.toInt) (hn : y.toInt < (t0.2.2.1 109 20).toInt) (h : S3 t0 t) (h2 : S3 (sI t 141 y.toNatClampNeg c) t2) (c0 : 0 ≤ c.toInt) (g : G90 t0 k y.toNatClampNeg c.toInt) (p : CLR (sI t 141 y.toNatClampNeg c) k r.toInt) : F72 t0 t2 k y.toNatClampNeg c.toInt r.toInt := by
  refine ⟨fun q => ?_, fun q => ext3 h2 (p.2 q)⟩
  obtain ⟨χ, g1, g2⟩ := g
  refine ⟨χ, g1, ?_⟩
  apply Classical.byContradiction
  intro hc
  have ec : χ y.toNatClampNeg = c.toInt := by omega
  have hu := uu_u hN h0 hn
  have sgu : Sg (sI t 141 y.toNatClampNeg c) y.toNatClampNeg = c.toInt := by
    have e20 : (sI t 141 y.toNatClampNeg c).2.2.1 109 20 = t0.2.2.1 109 20 := h.2.2
    rw [sg_lt (by rw [e20]; exact hu.1), sI_q, up_e]
  have sgn : ∀ x, x ≠ y.toNatClampNeg → Sg (sI t 141 y.toNatClampNeg c) x = Sg t0 x := by
    intro x hx
    unfold Sg
    have e20 : (sI t 141 y.toNatClampNeg c).2.2.1 109 20 = t0.2.2.1 109 20 := h.2.2
    rw [e20, sI_q, up_n hx, h.2.1]
  have ad : adjq (sI t 141 y.toNatClampNeg c) = adjq t0 := by
    funext a b
    unfold adjq
    have e20 : (sI t 141 y.toNatClampNeg c).2.2.1 109 20 = t0.2.2.1 109 20 := h.2.2
    rw [e20, sI_p rfl, h.1]
  have uu : ∀ v, UU (sI t 141 y.toNatClampNeg c) v → v ≠ y.toNatClampNeg ∧ UU t0 v := by
    intro v hv
    have e20 : (sI t 141 y.toNatClampNeg c).2.2.1 109 20 = t0.2.2.1 109 20 := h.2.2
    have hne : v ≠ y.toNatClampNeg := by
      intro e
      have := hv.2
      rw [e, sgu] at this
      omega
    refine ⟨hne, ?_, ?_⟩
    · have := hv.1; rw [e20] at this; exact this
    · have := hv.2; rw [sgn v hne] at this; exact this
  refine p.1 q ?_
  unfold EXT
  rw [ad]
  refine ⟨χ, fun v hv => g1.1 v (uu v hv).2, fun v hv w hw => ⟨fun hT => (g1.2 v (uu v hv).2 w hw).1 (uu w hT).2, fun hs => ?_⟩⟩
  by_cases e : w = y.toNatClampNeg
  · rw [e, sgu, ← ec]
    rw [e] at hw
    exact fun z => (g1.2 v (uu v hv).2 _ hw).1 hu z.symm
  · rw [sgn w e] at hs ⊢
    exact (g1.2 v (uu v hv).2 w hw).2 hs
theorem st_s {t : GS} {y w : Int32} (h : ∀ u : Nat, (u : Int) < y.toInt → t.1 141 u = Int32.ofInt (-1)) (hw : w.toInt = y.toInt + 1) (h0 : 0 ≤ y.toInt) : ∀ u : Nat, (u : Int) < w.toInt → (sI t 141 y.toNatClampNeg (Int32.ofInt (-1))).1 141 u = Int32.ofInt (-1) := by
  intro u hu
  have ey : y.toNatClampNeg = y.toInt.toNat := rfl
  rw [sI_q]
  by_cases q : u = y.toNatClampNeg
  · rw [q, up_e]
  · rw [up_n q]; exact h u (by omega)
theorem st_0 {t : GS} : ∀ u : Nat, (u : Int) < (Int32.ofInt 0).toInt → t.1 141 u = Int32.ofInt (-1) := by
  intro u hu
  have i0 : (Int32.ofInt 0).toInt = 0 := by decide
  omega
end
