/-! THE 147OWS OF THE REFERENCE: ways back through the row back -/
def bs (s : GS) : Nat := (s.2.2.1 109 19).toNatClampNeg
/-- the node before v, by the place a of an arc and whether it is gone against -/
def EF (s : GS) (r : Nat → Nat) (v a : Nat) : Prop := (s.1 112 (bs s + a)).toInt ≠ 0 ∧ (s.1 114 (bs s + a)).toNatClampNeg = v ∧ 0 ≤ (s.1 148 (s.1 113 (bs s + a)).toNatClampNeg).toInt ∧ r (s.1 113 (bs s + a)).toNatClampNeg < r v ∧ (s.2.1 147 a).toInt < (s.1 116 (bs s + a)).toInt
def EB (s : GS) (r : Nat → Nat) (v a : Nat) : Prop := (s.1 112 (bs s + a)).toInt ≠ 0 ∧ (s.1 113 (bs s + a)).toNatClampNeg = v ∧ 0 ≤ (s.1 148 (s.1 114 (bs s + a)).toNatClampNeg).toInt ∧ r (s.1 114 (bs s + a)).toNatClampNeg < r v ∧ 0 < (s.2.1 147 a).toInt
def EV (s : GS) (r : Nat → Nat) (v : Nat) : Prop := ∃ a : Nat, a < 160 ∧ (((s.1 148 v).toInt = (a : Int) ∧ EF s r v a) ∨ ((s.1 148 v).toInt = 200 + (a : Int) ∧ EB s r v a))
theorem cM_lt {f : Nat → Int32} {y : Nat} (h : 0 ≤ (f y).toInt) : ∀ n, y < n → cM f n + 1 ≤ n := by
  intro n
  induction n with
  | zero => intro h; omega
  | succ n ih =>
    intro hy
    show cM f n + (if (f n).toInt < 0 then 1 else 0) + 1 ≤ n + 1
    by_cases c : y = n
    · rw [← c, if_neg (by omega)]
      have := cM_le f y
      omega
    · have := ih (by omega)
      split <;> omega
def SI (s : GS) (x n : Int) : Prop := 0 ≤ n ∧ n + (cM (s.1 148) 32 : Int) ≤ 32 ∧ (∀ i : Nat, (i : Int) < n → (s.1 132 i).toInt ≤ 31 ∧ 0 ≤ (s.1 148 (s.1 132 i).toNatClampNeg).toInt) ∧ ∃ r : Nat → Nat, (∀ v, v < 32 → 0 ≤ (s.1 148 v).toInt → (r v : Int) < n) ∧ ∀ v : Nat, v < 32 → (v : Int) < (s.2.2.1 109 20).toInt → (v : Int) ≠ x → 0 ≤ (s.1 148 v).toInt → EV s r v
theorem si_le {s : GS} {x n : Int} (h : SI s x n) : n ≤ 32 := by
  have := h.2.1
  omega
/-- a node comes into the queue -/
theorem si_push {s t : GS} {x n : Int} {w b : Int32} {m a : Nat} (h : SI s x n) (hm : (m : Int) = n) (hb : t.1 148 = upd (s.1 148) w.toNatClampNeg b) (hq : t.1 132 = upd (s.1 132) m w) (h2 : t.1 112 = s.1 112) (h3 : t.1 113 = s.1 113) (h4 : t.1 114 = s.1 114) (h5 : t.1 116 = s.1 116) (h6 : t.2.1 147 = s.2.1 147) (h7 : t.2.2.1 109 19 = s.2.2.1 109 19) (h8 : t.2.2.1 109 20 = s.2.2.1 109 20) (hw : In w 0 31) (h1 : (s.1 148 w.toNatClampNeg).toInt < 0) (ha : a < 160)
    (he : (b.toInt = (a : Int) ∧ (s.1 112 (bs s + a)).toInt ≠ 0 ∧ (s.1 114 (bs s + a)) = w ∧ 0 ≤ (s.1 148 (s.1 113 (bs s + a)).toNatClampNeg).toInt ∧ In (s.1 113 (bs s + a)) 0 31 ∧ (s.2.1 147 a).toInt < (s.1 116 (bs s + a)).toInt) ∨ (b.toInt = 200 + (a : Int) ∧ (s.1 112 (bs s + a)).toInt ≠ 0 ∧ (s.1 113 (bs s + a)) = w ∧ 0 ≤ (s.1 148 (s.1 114 (bs s + a)).toNatClampNeg).toInt ∧ In (s.1 114 (bs s + a)) 0 31 ∧ 0 < (s.2.1 147 a).toInt)) : SI t x (n + 1) := by
  obtain ⟨p0, p1, p2, r, p3, p4⟩ := h
  have hb0 : 0 ≤ b.toInt := by rcases he with he | he <;> omega
  have hw31 : w.toNatClampNeg < 32 := by show w.toInt.toNat < 32; have := hw.2; omega
  have hu := cM_up h1 hb0 32
  rw [if_pos hw31] at hu
  have bsn : bs t = bs s := by unfold bs; rw [h7]
  have old : ∀ v, 0 ≤ (s.1 148 v).toInt → v ≠ w.toNatClampNeg := by
    intro v hv e
    rw [e] at hv
    omega
  have up : ∀ v, v ≠ w.toNatClampNeg → upd (s.1 148) w.toNatClampNeg b v = s.1 148 v := by
    intro v hv
    unfold upd
    rw [if_neg hv]
  have upw : upd (s.1 148) w.toNatClampNeg b w.toNatClampNeg = b := by unfold upd; rw [if_pos rfl]
  refine ⟨by omega, by rw [hb]; omega, fun i hi => ?_, fun k => if k = w.toNatClampNeg then m else r k, fun v hv hk => ?_, fun v hv hn hx hk => ?_⟩
  · rw [hq, hb]
    by_cases c : i = m
    · have e : upd (s.1 132) m w i = w := by unfold upd; rw [if_pos c]
      rw [e, upw]
      exact ⟨hw.2, hb0⟩
    · have e : upd (s.1 132) m w i = s.1 132 i := by unfold upd; rw [if_neg c]
      rw [e]
      have q := p2 i (by omega)
      rw [up _ (old _ q.2)]
      exact q
  · rw [hb] at hk
    by_cases c : v = w.toNatClampNeg
    · show ((if v = w.toNatClampNeg then m else r v : Nat) : Int) < n + 1
      rw [if_pos c]; omega
    · show ((if v = w.toNatClampNeg then m else r v : Nat) : Int) < n + 1
      rw [if_neg c]
      rw [up v c] at hk
      have := p3 v hv hk
      omega
  · rw [hb] at hk
    rw [h8] at hn
    by_cases c : v = w.toNatClampNeg
    · refine ⟨a, ha, ?_⟩
      unfold EF EB
      rw [hb, h2, h3, h4, h5, h6, bsn, c, upw]
      rcases he with he | he
      · refine Or.inl ⟨he.1, he.2.1, by rw [he.2.2.1], ?_, ?_, he.2.2.2.2.2⟩
        · rw [up _ (old _ he.2.2.2.1)]; exact he.2.2.2.1
        · dsimp only
          rw [if_pos rfl, if_neg (old _ he.2.2.2.1)]
          have := p3 _ (show (s.1 113 (bs s + a)).toNatClampNeg < 32 by show (s.1 113 (bs s + a)).toInt.toNat < 32; have := he.2.2.2.2.1.2; omega) he.2.2.2.1
          omega
      · refine Or.inr ⟨he.1, he.2.1, by rw [he.2.2.1], ?_, ?_, he.2.2.2.2.2⟩
        · rw [up _ (old _ he.2.2.2.1)]; exact he.2.2.2.1
        · dsimp only
          rw [if_pos rfl, if_neg (old _ he.2.2.2.1)]
          have := p3 _ (show (s.1 114 (bs s + a)).toNatClampNeg < 32 by show (s.1 114 (bs s + a)).toInt.toNat < 32; have := he.2.2.2.2.1.2; omega) he.2.2.2.1
          omega
    · rw [up v c] at hk
      obtain ⟨a2, ha2, e2⟩ := p4 v hv hn hx hk
      refine ⟨a2, ha2, ?_⟩
      unfold EF EB at e2 ⊢
      rw [hb, h2, h3, h4, h5, h6, bsn, up v c]
      rcases e2 with e2 | e2
      · refine Or.inl ⟨e2.1, e2.2.1, e2.2.2.1, ?_, ?_, e2.2.2.2.2.2⟩
        · rw [up _ (old _ e2.2.2.2.1)]; exact e2.2.2.2.1
        · dsimp only
          rw [if_neg c, if_neg (old _ e2.2.2.2.1)]; exact e2.2.2.2.2.1
      · refine Or.inr ⟨e2.1, e2.2.1, e2.2.2.1, ?_, ?_, e2.2.2.2.2.2⟩
        · rw [up _ (old _ e2.2.2.2.1)]; exact e2.2.2.2.1
        · dsimp only
          rw [if_neg c, if_neg (old _ e2.2.2.2.1)]; exact e2.2.2.2.2.1
theorem si_0 {s t : GS} {x y : Int32} (hx : In x 0 31) (hb : t.1 148 = upd (s.1 148) x.toNatClampNeg y) (hy : 0 ≤ y.toInt) (hq : (t.1 132 0) = x) (h8 : t.2.2.1 109 20 = s.2.2.1 109 20) (h : ∀ k : Nat, (k : Int) < (s.2.2.1 109 20).toInt → (s.1 148 k).toInt < 0) : SI t x.toInt 1 := by
  have hx31 : x.toNatClampNeg < 32 := by show x.toInt.toNat < 32; have := hx.2; omega
  have upw : upd (s.1 148) x.toNatClampNeg y x.toNatClampNeg = y := by unfold upd; rw [if_pos rfl]
  have h1 : 0 ≤ (t.1 148 x.toNatClampNeg).toInt := by rw [hb, upw]; exact hy
  have hl := cM_lt h1 32 hx31
  refine ⟨by omega, by omega, fun i hi => ?_, fun _ => 0, fun v _ _ => by show ((0 : Nat) : Int) < 1; decide, fun v hv hn hne hk => ?_⟩
  · have : i = 0 := by omega
    rw [this, hq]
    exact ⟨hx.2, h1⟩
  · exfalso
    have hx0 := hx.1
    have c : v ≠ x.toNatClampNeg := by
      intro e
      apply hne
      rw [e]
      show ((x.toInt.toNat : Nat) : Int) = x.toInt
      omega
    have e : upd (s.1 148) x.toNatClampNeg y v = s.1 148 v := by unfold upd; rw [if_neg c]
    rw [hb, e] at hk
    rw [h8] at hn
    have := h v hn
    omega
/-- after the search -/
def SRr (s : GS) (x : Int) (r : Nat → Nat) : Prop := (∀ v, v < 32 → 0 ≤ (s.1 148 v).toInt → r v < 32) ∧ ∀ v : Nat, v < 32 → (v : Int) < (s.2.2.1 109 20).toInt → (v : Int) ≠ x → 0 ≤ (s.1 148 v).toInt → EV s r v
def SR (s : GS) (x : Int) : Prop := ∃ r : Nat → Nat, SRr s x r
theorem si_sr {s : GS} {x n : Int} (h : SI s x n) : SR s x := by
  have hn := si_le h
  obtain ⟨p0, p1, p2, r, p3, p4⟩ := h
  exact ⟨r, fun v hv hk => by have := p3 v hv hk; omega, p4⟩
theorem up_ge {f : Nat → Int32} {k w : Nat} {b : Int32} (h : 0 ≤ (f k).toInt) (hb : 0 ≤ b.toInt) : 0 ≤ (upd f w b k).toInt := by
  unfold upd
  split
  · exact hb
  · exact h
theorem bs_x {s : GS} {u x a : Int32} (hu : u = s.2.2.1 109 19) (hx : x.toInt = u.toInt + a.toInt) (h1 : 0 ≤ u.toInt) (h2 : 0 ≤ a.toInt) : bs s + a.toNatClampNeg = x.toNatClampNeg := by
  unfold bs
  rw [← hu]
  show u.toInt.toNat + a.toInt.toNat = x.toInt.toNat
  omega
/-- the arc by which v was reached -/
def BE (s : GS) (v : Nat) : Prop := (0 ≤ (s.1 148 v).toInt ∧ (s.1 148 v).toInt < 160) ∨ (200 ≤ (s.1 148 v).toInt ∧ (s.1 148 v).toInt < 360)
def bf (s : GS) (v : Nat) : Nat := if 200 ≤ (s.1 148 v).toInt then (s.1 114 (bs s + ((s.1 148 v).toInt - 200).toNat)).toNatClampNeg else (s.1 113 (bs s + (s.1 148 v).toInt.toNat)).toNatClampNeg
def ar (s : GS) (v : Nat) : Nat := if 200 ≤ (s.1 148 v).toInt then ((s.1 148 v).toInt - 200).toNat else (s.1 148 v).toInt.toNat
def rm (s : GS) (v : Nat) : Int := if 200 ≤ (s.1 148 v).toInt then (s.2.1 147 (ar s v)).toInt else (s.1 116 (bs s + ar s v)).toInt - (s.2.1 147 (ar s v)).toInt
theorem bs_y {s : GS} {u x b : Int32} {c : Int} (hu : u = s.2.2.1 109 19) (hx : x.toInt = u.toInt + b.toInt - c) (h1 : 0 ≤ u.toInt) (h2 : 0 ≤ b.toInt - c) : x.toNatClampNeg = bs s + (b.toInt - c).toNat := by
  unfold bs
  rw [← hu]
  show x.toInt.toNat = u.toInt.toNat + (b.toInt - c).toNat
  omega
theorem bf_1 {s : GS} {v : Nat} {u x b z : Int32} (hb : b = s.1 148 v) (hu : u = s.2.2.1 109 19) (hx : x.toInt = u.toInt + b.toInt - 200) (h1 : 0 ≤ u.toInt) (hc : 200 ≤ b.toInt) (hz : z = s.1 114 x.toNatClampNeg) : z.toNatClampNeg = bf s v := by
  unfold bf
  rw [← hb, if_pos hc, hz, bs_y hu hx h1 (by omega)]
theorem bf_2 {s : GS} {v : Nat} {u x b z : Int32} (hb : b = s.1 148 v) (hu : u = s.2.2.1 109 19) (hx : x.toInt = u.toInt + b.toInt) (h1 : 0 ≤ u.toInt) (h0 : 0 ≤ b.toInt) (hc : b.toInt < 200) (hz : z = s.1 113 x.toNatClampNeg) : z.toNatClampNeg = bf s v := by
  unfold bf
  have e := bs_y (x := x) (b := b) (c := 0) hu (by omega) h1 (by omega)
  rw [Int.sub_zero] at e
  rw [← hb, if_neg (by omega), hz, e]
theorem lsub_t {x y z : Int64} (hz : z = x - y) (h1 : -4000000000000000000 ≤ x.toInt - y.toInt) (h2 : x.toInt - y.toInt ≤ 4000000000000000000) : z.toInt = x.toInt - y.toInt := by
  rw [hz, Int64.toInt_sub]
  exact Int.bmod_eq_of_le (by omega) (by omega)
theorem ladd_t {x y z : Int64} (hz : z = x + y) (h1 : -4000000000000000000 ≤ x.toInt + y.toInt) (h2 : x.toInt + y.toInt ≤ 4000000000000000000) : z.toInt = x.toInt + y.toInt := by
  rw [hz, Int64.toInt_add]
  exact Int.bmod_eq_of_le (by omega) (by omega)
/-- the flow on v's arc is small -/
def FO (s : GS) (v : Nat) : Prop := -1000000000 ≤ (s.2.1 147 (ar s v)).toInt ∧ (s.2.1 147 (ar s v)).toInt ≤ 1000000000
theorem ar_1 {s : GS} {v : Nat} {b y : Int32} (hb : b = s.1 148 v) (hy : y.toInt = b.toInt - 200) (hc : 200 ≤ b.toInt) : ar s v = y.toNatClampNeg := by
  unfold ar
  rw [← hb, if_pos hc, ← hy]
  rfl
theorem ar_2 {s : GS} {v : Nat} {b : Int32} (hb : b = s.1 148 v) (hc : b.toInt < 200) : ar s v = b.toNatClampNeg := by
  unfold ar
  rw [← hb, if_neg (by omega)]
  rfl
theorem rm_1 {s : GS} {v : Nat} {b y : Int32} {z : Int64} (hb : b = s.1 148 v) (hy : y.toInt = b.toInt - 200) (hc : 200 ≤ b.toInt) (hz : z = s.2.1 147 y.toNatClampNeg) : z.toInt = rm s v := by
  unfold rm
  rw [ar_1 hb hy hc, ← hb, if_pos hc, ← hz]
theorem rm_2 {s : GS} {v : Nat} {b u x o : Int32} {f g z : Int64} (hb : b = s.1 148 v) (hc : b.toInt < 200) (h0 : 0 ≤ b.toInt) (hu : u = s.2.2.1 109 19) (hx : x.toInt = u.toInt + b.toInt) (h1 : 0 ≤ u.toInt) (ho : o = s.1 116 x.toNatClampNeg) (hf : f = s.2.1 147 b.toNatClampNeg) (hg : g.toInt = o.toInt) (hr : In o 0 1000000) (hz : z = g - f) (h : FO s v) : z.toInt = rm s v := by
  unfold FO at h
  rw [ar_2 hb hc, ← hf] at h
  have e : bs s + b.toNatClampNeg = x.toNatClampNeg := bs_x hu hx h1 h0
  obtain ⟨r1, r2⟩ := hr
  unfold rm
  rw [ar_2 hb hc, ← hb, if_neg (by omega), e, ← ho, ← hf, lsub_t hz (by omega) (by omega), hg]
/-- what push leaves -/
def PU (s t : GS) (v : Nat) (m : Int) : Prop := ∃ w : Int64, t.2.1 147 = vp_updL (s.2.1 147) (ar s v) w ∧ (FO s v → -1000000000 ≤ m → m ≤ 1000000000 → w.toInt = (s.2.1 147 (ar s v)).toInt + (if 200 ≤ (s.1 148 v).toInt then -m else m))
theorem pu_1 {s t : GS} {v : Nat} {b y : Int32} {f m w : Int64} (hb : b = s.1 148 v) (hy : y.toInt = b.toInt - 200) (hc : 200 ≤ b.toInt) (hf : f = s.2.1 147 y.toNatClampNeg) (hw : w = f - m) (ht : t.2.1 147 = vp_updL (s.2.1 147) y.toNatClampNeg w) : PU s t v m.toInt := by
  refine ⟨w, by rw [ar_1 hb hy hc]; exact ht, fun h h1 h2 => ?_⟩
  unfold FO at h
  rw [ar_1 hb hy hc, ← hf] at h ⊢
  rw [← hb, if_pos hc, lsub_t hw (by omega) (by omega)]
  omega
theorem pu_2 {s t : GS} {v : Nat} {b : Int32} {f m w : Int64} (hb : b = s.1 148 v) (hc : b.toInt < 200) (hf : f = s.2.1 147 b.toNatClampNeg) (hw : w = f + m) (ht : t.2.1 147 = vp_updL (s.2.1 147) b.toNatClampNeg w) : PU s t v m.toInt := by
  refine ⟨w, by rw [ar_2 hb hc]; exact ht, fun h h1 h2 => ?_⟩
  unfold FO at h
  rw [ar_2 hb hc, ← hf] at h ⊢
  rw [← hb, if_neg (by omega), ladd_t hw (by omega) (by omega)]
/-- most: a way back from t -/
noncomputable def rkf (s : GS) (x : Int) : Nat → Nat := Classical.epsilon (SRr s x)
theorem rkf_ok {s : GS} {x : Int} (h : SR s x) : SRr s x (rkf s x) := Classical.epsilon_spec h
def ND (s : GS) (v : Nat) : Prop := v < 32 ∧ (v : Int) < (s.2.2.1 109 20).toInt ∧ 0 ≤ (s.1 148 v).toInt
def it (s : GS) (t : Nat) : Nat → Nat
  | 0 => t
  | k + 1 => bf s (it s t k)
theorem arc_n {s : GS} (hI : Inv s) {a : Nat} (ha : a < 160) (ht : (s.1 112 (bs s + a)).toInt ≠ 0) : (In (s.1 113 (bs s + a)) 0 31 ∧ (s.1 113 (bs s + a)).toInt < (s.2.2.1 109 20).toInt) ∧ (In (s.1 114 (bs s + a)) 0 31 ∧ (s.1 114 (bs s + a)).toInt < (s.2.2.1 109 20).toInt) ∧ In (s.1 116 (bs s + a)) 0 1000000 := by
  have hb : In (s.2.2.1 109 19) 0 160 := inv_F hI 0 160 rfl rfl
  obtain ⟨b1, b2⟩ := hb
  have eb : bs s = (s.2.2.1 109 19).toInt.toNat := rfl
  have hk := ke_n hI (i := bs s + a) (by omega) (by omega) ht
  have h1 : In (s.1 113 (bs s + a)) 0 31 := hI.1.1 113 (bs s + a) (show bs s + a < 480 by omega)
  have h2 : In (s.1 114 (bs s + a)) 0 31 := hI.1.1 114 (bs s + a) (show bs s + a < 480 by omega)
  have h3 : In (s.1 116 (bs s + a)) 0 1000000 := hI.1.1 116 (bs s + a) (show bs s + a < 480 by omega)
  exact ⟨⟨h1, hk.1⟩, ⟨h2, hk.2⟩, h3⟩
/-- v's arc: where it stands, its other end -/
theorem ev_bf {s : GS} {x : Int} {r : Nat → Nat} {v : Nat} (hI : Inv s) (h : SRr s x r) (hv : ND s v) (hx : (v : Int) ≠ x) : BE s v ∧ ND s (bf s v) ∧ r (bf s v) < r v ∧ 1 ≤ rm s v ∧ ar s v < 160 ∧ (s.1 112 (bs s + ar s v)).toInt ≠ 0 ∧ ((200 ≤ (s.1 148 v).toInt ∧ (s.1 113 (bs s + ar s v)).toNatClampNeg = v ∧ (s.1 114 (bs s + ar s v)).toNatClampNeg = bf s v) ∨ ((s.1 148 v).toInt < 200 ∧ (s.1 114 (bs s + ar s v)).toNatClampNeg = v ∧ (s.1 113 (bs s + ar s v)).toNatClampNeg = bf s v)) := by
  obtain ⟨a, ha, e⟩ := h.2 v hv.1 hv.2.1 hx hv.2.2
  unfold EF EB at e
  rcases e with ⟨e1, e2, e3, e4, e5, e6⟩ | ⟨e1, e2, e3, e4, e5, e6⟩
  · have c : ¬ 200 ≤ (s.1 148 v).toInt := by omega
    have ea : ar s v = a := by unfold ar; rw [if_neg c]; omega
    have eb : bf s v = (s.1 113 (bs s + a)).toNatClampNeg := by unfold bf; rw [if_neg c, show (s.1 148 v).toInt.toNat = a by omega]
    have hn := arc_n hI ha e2
    refine ⟨Or.inl ⟨by omega, by omega⟩, ?_, by rw [eb]; exact e5, ?_, by omega, by rw [ea]; exact e2, Or.inr ⟨by omega, by rw [ea]; exact e3, by rw [ea, eb]⟩⟩
    · rw [eb]
      have q1 := hn.1.1.1
      have q2 := hn.1.1.2
      have q3 := hn.1.2
      have q4 : (s.1 113 (bs s + a)).toNatClampNeg = (s.1 113 (bs s + a)).toInt.toNat := rfl
      exact ⟨by omega, by omega, e4⟩
    · unfold rm; rw [if_neg c, ea]; omega
  · have c : 200 ≤ (s.1 148 v).toInt := by omega
    have ea : ar s v = a := by unfold ar; rw [if_pos c]; omega
    have eb : bf s v = (s.1 114 (bs s + a)).toNatClampNeg := by unfold bf; rw [if_pos c, show ((s.1 148 v).toInt - 200).toNat = a by omega]
    have hn := arc_n hI ha e2
    refine ⟨Or.inr ⟨by omega, by omega⟩, ?_, by rw [eb]; exact e5, ?_, by omega, by rw [ea]; exact e2, Or.inl ⟨by omega, by rw [ea]; exact e3, by rw [ea, eb]⟩⟩
    · rw [eb]
      have q1 := hn.2.1.1.1
      have q2 := hn.2.1.1.2
      have q3 := hn.2.1.2
      have q4 : (s.1 114 (bs s + a)).toNatClampNeg = (s.1 114 (bs s + a)).toInt.toNat := rfl
      exact ⟨by omega, by omega, e4⟩
    · unfold rm; rw [if_pos c, ea]; omega
/-- the way so far -/
def WY (s : GS) (x m : Int) (t k : Nat) : Prop := ∀ j, j < k → (it s t j : Int) ≠ x ∧ ND s (it s t j) ∧ m ≤ rm s (it s t j)
theorem wy_s {s : GS} {x m m2 : Int} {t k : Nat} (h : WY s x m t k) (h1 : (it s t k : Int) ≠ x) (h2 : ND s (it s t k)) (h3 : m2 ≤ m) (h4 : m2 ≤ rm s (it s t k)) : WY s x m2 t (k + 1) := by
  intro j hj
  by_cases c : j = k
  · rw [c]; exact ⟨h1, h2, h4⟩
  · have := h j (by omega)
    exact ⟨this.1, this.2.1, Int.le_trans h3 this.2.2⟩
theorem wy_r {s : GS} {x m : Int} {r : Nat → Nat} {t k : Nat} (hI : Inv s) (hr : SRr s x r) (h : WY s x m t k) : ∀ j, j < k → ∀ i, i < j → r (it s t j) < r (it s t i) := by
  intro j
  induction j with
  | zero => intro _ i hi; omega
  | succ j ih =>
    intro hj i hi
    have hw := h j (by omega)
    have h1 : r (it s t (j + 1)) < r (it s t j) := (ev_bf hI hr hw.2.1 hw.1).2.2.1
    by_cases c : i = j
    · rw [c]; exact h1
    · have := ih (by omega) i (by omega)
      omega
/-- two nodes of a way have different arcs -/
theorem wy_ar {s : GS} {x m : Int} {r : Nat → Nat} {t k i j : Nat} (hI : Inv s) (hr : SRr s x r) (h : WY s x m t k) (hj : j < k) (hi : i < j) : ar s (it s t j) ≠ ar s (it s t i) := by
  have hlt := wy_r hI hr h j hj i hi
  have a := h j hj
  have b := h i (by omega)
  have ea := (ev_bf hI hr a.2.1 a.1)
  have eb := (ev_bf hI hr b.2.1 b.1)
  intro e
  obtain ⟨-, -, r1, -, -, -, d1⟩ := ea
  obtain ⟨-, -, r2, -, -, -, d2⟩ := eb
  rw [e] at d1
  rcases d1 with d1 | d1 <;> rcases d2 with d2 | d2
  · rw [d1.2.1] at d2; rw [d2.2.1] at hlt; omega
  · have q1 : bf s (it s t j) = it s t i := by rw [← d1.2.2]; exact d2.2.1
    rw [q1] at r1; omega
  · have q1 : bf s (it s t j) = it s t i := by rw [← d1.2.2]; exact d2.2.1
    rw [q1] at r1; omega
  · rw [d1.2.1] at d2; rw [d2.2.1] at hlt; omega
/-- what can still leave x -/
def tm (s : GS) (x : Int) (f : Nat → Int64) (a : Nat) : Int := if (s.1 112 (bs s + a)).toInt ≠ 0 then (if (s.1 113 (bs s + a)).toInt = x then (s.1 116 (bs s + a)).toInt - (f a).toInt else 0) + (if (s.1 114 (bs s + a)).toInt = x then (f a).toInt else 0) else 0
def RS (s : GS) (x : Int) (f : Nat → Int64) : Nat → Int
  | 0 => 0
  | n + 1 => RS s x f n + tm s x f n
def FB (s : GS) (f : Nat → Int64) : Prop := ∀ a : Nat, a < 160 → (s.1 112 (bs s + a)).toInt ≠ 0 → 0 ≤ (f a).toInt ∧ (f a).toInt ≤ (s.1 116 (bs s + a)).toInt
theorem tm_b {s : GS} {x : Int} {f : Nat → Int64} (hI : Inv s) (h : FB s f) {a : Nat} (ha : a < 160) : 0 ≤ tm s x f a ∧ tm s x f a ≤ 2000000 := by
  unfold tm
  by_cases c : (s.1 112 (bs s + a)).toInt ≠ 0
  · rw [if_pos c]
    have h1 := h a ha c
    have h2 := (arc_n hI ha c).2.2
    obtain ⟨h3, h4⟩ := h2
    split <;> split <;> constructor <;> omega
  · rw [if_neg c]; constructor <;> omega
theorem RS_b {s : GS} {x : Int} {f : Nat → Int64} (hI : Inv s) (h : FB s f) : ∀ n : Nat, n ≤ 160 → 0 ≤ RS s x f n ∧ RS s x f n ≤ 2000000 * (n : Int) := by
  intro n
  induction n with
  | zero => intro _; exact ⟨Int.le_refl _, by show (0 : Int) ≤ _; omega⟩
  | succ n ih =>
    intro hn
    have h1 := ih (by omega)
    have h2 := tm_b (x := x) hI h (show n < 160 by omega)
    show 0 ≤ RS s x f n + tm s x f n ∧ RS s x f n + tm s x f n ≤ _
    constructor <;> omega
theorem ul_ne {f : Nat → Int64} {a k : Nat} {w : Int64} (h : k ≠ a) : vp_updL f a w k = f k := by unfold vp_updL; rw [if_neg h]
theorem ul_eq {f : Nat → Int64} {a : Nat} {w : Int64} : vp_updL f a w a = w := by unfold vp_updL; rw [if_pos rfl]
theorem tm_ne {s : GS} {x : Int} {f : Nat → Int64} {a k : Nat} {w : Int64} (h : k ≠ a) : tm s x (vp_updL f a w) k = tm s x f k := by
  unfold tm
  rw [ul_ne h]
theorem RS_ne {s : GS} {x : Int} {f : Nat → Int64} {a : Nat} {w : Int64} : ∀ n, n ≤ a → RS s x (vp_updL f a w) n = RS s x f n := by
  intro n
  induction n with
  | zero => intro _; rfl
  | succ n ih =>
    intro hn
    show RS s x (vp_updL f a w) n + tm s x (vp_updL f a w) n = RS s x f n + tm s x f n
    rw [ih (by omega), tm_ne (by omega)]
theorem RS_up {s : GS} {x : Int} {f : Nat → Int64} {a : Nat} {w : Int64} : ∀ n, a < n → RS s x (vp_updL f a w) n = RS s x f n + (tm s x (vp_updL f a w) a - tm s x f a) := by
  intro n
  induction n with
  | zero => intro h; omega
  | succ n ih =>
    intro hn
    show RS s x (vp_updL f a w) n + tm s x (vp_updL f a w) n = RS s x f n + tm s x f n + _
    by_cases c : a = n
    · rw [← c, RS_ne a (Nat.le_refl _)]
      omega
    · rw [ih (by omega), tm_ne (show n ≠ a by omega)]
      omega
/-- where push has come: of K nodes, k are done -/
def PBW (s : GS) (x m : Int) (t : Nat) (f : Nat → Int64) (v : Nat) : Prop := ∃ K k, k ≤ K ∧ (it s t K : Int) = x ∧ WY s x m t K ∧ v = it s t k ∧ FB s f ∧ (∀ j, k ≤ j → j < K → f (ar s (it s t j)) = s.2.1 147 (ar s (it s t j))) ∧ (k < K → RS s x f 160 = RS s x (s.2.1 147) 160) ∧ (k = K → RS s x f 160 + m = RS s x (s.2.1 147) 160)
theorem pbw_s {s : GS} {x m : Int} {t v : Nat} {f : Nat → Int64} {w : Int64} (hI : Inv s) (hr : SR s x) (h : PBW s x m t f v) (hx : (v : Int) ≠ x) (hm1 : 1 ≤ m) (hm2 : m ≤ 1000000000) (hw : w.toInt = (f (ar s v)).toInt + (if 200 ≤ (s.1 148 v).toInt then -m else m)) : PBW s x m t (vp_updL f (ar s v) w) (bf s v) := by
  obtain ⟨r, hr⟩ := hr
  obtain ⟨K, k, h1, h2, h3, h4, h5, h6, h7, h8⟩ := h
  have hk : k < K := by
    by_cases c : k = K
    · rw [h4, c] at hx; exact absurd h2 hx
    · omega
  have hv := h3 k hk
  rw [← h4] at hv
  obtain ⟨q1, q2, q3, q4, q5, q6, q7⟩ := ev_bf hI hr hv.2.1 hv.1
  have hf := h6 k (Nat.le_refl _) hk
  rw [← h4] at hf
  have hb := h5 (ar s v) q5 q6
  have hn := arc_n hI q5 q6
  have hrm := hv.2.2
  have hwb : 0 ≤ w.toInt ∧ w.toInt ≤ (s.1 116 (bs s + ar s v)).toInt := by
    rw [hw, hf]
    rw [hf] at hb
    unfold rm at hrm
    rcases q7 with q7 | q7
    · rw [if_pos q7.1] at hrm ⊢; omega
    · rw [if_neg (by omega)] at hrm ⊢; omega
  have hnx : ∀ y : Int32, In y 0 31 → y.toNatClampNeg = v → y.toInt ≠ x := by
    intro y hy e c
    apply hx
    rw [← e, ← c]
    show ((y.toInt.toNat : Nat) : Int) = y.toInt
    have := hy.1
    omega
  have hbx : ∀ y : Int32, In y 0 31 → y.toNatClampNeg = bf s v → (y.toInt = x ↔ (bf s v : Int) = x) := by
    intro y hy e
    have e2 : (bf s v : Int) = y.toInt := by
      rw [← e]
      show ((y.toInt.toNat : Nat) : Int) = y.toInt
      have := hy.1
      omega
    rw [e2]
  have htm : tm s x (vp_updL f (ar s v) w) (ar s v) - tm s x f (ar s v) = if (bf s v : Int) = x then -m else 0 := by
    unfold tm
    rw [if_pos q6, if_pos q6, ul_eq, hw]
    rcases q7 with q7 | q7
    · have z1 := hnx _ hn.1.1 q7.2.1
      have z2 := hbx _ hn.2.1.1 q7.2.2
      rw [if_neg z1, if_neg z1, if_pos q7.1]
      by_cases c : (bf s v : Int) = x
      · rw [if_pos (z2.mpr c), if_pos (z2.mpr c), if_pos c]; omega
      · rw [if_neg (fun q => c (z2.mp q)), if_neg (fun q => c (z2.mp q)), if_neg c]; omega
    · have z1 := hnx _ hn.2.1.1 q7.2.1
      have z2 := hbx _ hn.1.1 q7.2.2
      rw [if_neg z1, if_neg z1, if_neg (show ¬ 200 ≤ (s.1 148 v).toInt by omega)]
      by_cases c : (bf s v : Int) = x
      · rw [if_pos (z2.mpr c), if_pos (z2.mpr c), if_pos c]; omega
      · rw [if_neg (fun q => c (z2.mp q)), if_neg (fun q => c (z2.mp q)), if_neg c]; omega
  have hRS := RS_up (s := s) (x := x) (f := f) (a := ar s v) (w := w) 160 q5
  have eit : it s t (k + 1) = bf s v := by show bf s (it s t k) = bf s v; rw [← h4]
  have h7 := h7 hk
  refine ⟨K, k + 1, hk, h2, h3, eit.symm, fun a ha ht => ?_, fun j hj hjK => ?_, fun hlt => ?_, fun heq => ?_⟩
  · by_cases c : a = ar s v
    · rw [c, ul_eq]; exact hwb
    · rw [ul_ne c]; exact h5 a ha ht
  · have hd := wy_ar hI hr h3 hjK (show k < j by omega)
    rw [← h4] at hd
    rw [ul_ne hd]
    exact h6 j (by omega) hjK
  · have c : ¬ (bf s v : Int) = x := by rw [← eit]; exact (h3 (k + 1) hlt).1
    rw [if_neg c] at htm
    omega
  · have c : (bf s v : Int) = x := by rw [← eit, heq]; exact h2
    rw [if_pos c] at htm
    omega
theorem pbw_0 {s : GS} {x m : Int} {t k v : Nat} (h : WY s x m t k) (hv : v = it s t k) (hx : (v : Int) = x) (ht : (t : Int) ≠ x) (hf : FB s (s.2.1 147)) : PBW s x m t (s.2.1 147) t := by
  refine ⟨k, 0, Nat.zero_le _, by rw [← hv]; exact hx, h, rfl, hf, fun _ _ _ => rfl, fun _ => rfl, fun e => ?_⟩
  exfalso
  rw [← e] at hv
  have : v = t := hv
  rw [this] at hx
  exact ht hx
theorem pbw_e {s : GS} {x m : Int} {t v : Nat} {f : Nat → Int64} (h : PBW s x m t f v) (hx : (v : Int) = x) : FB s f ∧ RS s x f 160 + m = RS s x (s.2.1 147) 160 := by
  obtain ⟨K, k, h1, h2, h3, h4, h5, h6, h7, h8⟩ := h
  by_cases c : k = K
  · exact ⟨h5, h8 c⟩
  · have := (h3 k (by omega)).1
    rw [← h4] at this
    exact absurd hx this
theorem RS_cg {s t : GS} {x : Int} {f : Nat → Int64} (h2 : t.1 112 = s.1 112) (h3 : t.1 113 = s.1 113) (h4 : t.1 114 = s.1 114) (h5 : t.1 116 = s.1 116) (h7 : t.2.2.1 109 19 = s.2.2.1 109 19) : ∀ n, RS t x f n = RS s x f n := by
  have bsn : bs t = bs s := by unfold bs; rw [h7]
  intro n
  induction n with
  | zero => rfl
  | succ n ih =>
    show RS t x f n + tm t x f n = RS s x f n + tm s x f n
    rw [ih]
    unfold tm
    rw [h2, h3, h4, h5, bsn]
theorem FB_cg {s t : GS} {f : Nat → Int64} (h : FB s f) (h2 : t.1 112 = s.1 112) (h5 : t.1 116 = s.1 116) (h7 : t.2.2.1 109 19 = s.2.2.1 109 19) : FB t f := by
  have bsn : bs t = bs s := by unfold bs; rw [h7]
  unfold FB at h ⊢
  rw [h2, h5, bsn]
  exact h
theorem fb_fo {s : GS} {v : Nat} (hI : Inv s) (h : FB s (s.2.1 147)) (ha : ar s v < 160) (ht : (s.1 112 (bs s + ar s v)).toInt ≠ 0) : FO s v := by
  have h1 := h (ar s v) ha ht
  have h2 := (arc_n hI ha ht).2.2.2
  exact ⟨by omega, by omega⟩
theorem pbw_nd {s : GS} {x m : Int} {t v : Nat} {f : Nat → Int64} (h : PBW s x m t f v) (hx : (v : Int) ≠ x) : ND s v := by
  obtain ⟨K, k, h1, h2, h3, h4, h5, h6, h7, h8⟩ := h
  by_cases c : k = K
  · rw [h4, c] at hx; exact absurd h2 hx
  · rw [h4]; exact (h3 k (by omega)).2.1
theorem pbw_fb {s : GS} {x m : Int} {t v : Nat} {f : Nat → Int64} (h : PBW s x m t f v) : FB s f := by
  obtain ⟨K, k, h1, h2, h3, h4, h5, h6, h7, h8⟩ := h
  exact h5
theorem ar_cg {s t : GS} {v : Nat} (h : t.1 = s.1) : ar t v = ar s v := by unfold ar; rw [h]
theorem bf_cg {s t : GS} {v : Nat} (h : t.1 = s.1) (h2 : t.2.2.1 = s.2.2.1) : bf t v = bf s v := by unfold bf bs; rw [h, h2]
theorem be_cg {s t : GS} {v : Nat} (h : t.1 = s.1) (hb : BE s v) : BE t v := by unfold BE at hb ⊢; rw [h]; exact hb
theorem pbw_pu {s u w : GS} {x m : Int} {t v z : Nat} (hI : Inv s) (hr : SR s x) (h1 : u.1 = s.1) (h2 : u.2.2.1 = s.2.2.1) (h : PBW s x m t (u.2.1 147) v) (hx : (v : Int) ≠ x) (hm1 : 1 ≤ m) (hm2 : m ≤ 1000000000) (hp : PU u w v m) (hz : z = bf u v) : PBW s x m t (w.2.1 147) z := by
  obtain ⟨y, e1, e2⟩ := hp
  have hr2 := hr
  obtain ⟨r, hr2⟩ := hr2
  obtain ⟨q1, q2, q3, q4, q5, q6, q7⟩ := ev_bf hI hr2 (pbw_nd h hx) hx
  have hb := pbw_fb h (ar s v) q5 q6
  have hn := (arc_n hI q5 q6).2.2.2
  have e3 := e2 (by unfold FO; rw [ar_cg h1]; exact ⟨by omega, by omega⟩) (by omega) hm2
  rw [ar_cg h1, h1] at e3
  rw [e1, ar_cg h1, hz, bf_cg h1 h2]
  exact pbw_s hI hr h hx hm1 hm2 e3
theorem ms_e {s u w : GS} {x m : Int} {t v k : Nat} (hI : Inv s) (h1 : u.1 = s.1) (h2 : u.2.2.1 = s.2.2.1) (h : PBW s x m t (u.2.1 147) v) (hx : (v : Int) = x) (hm1 : 1 ≤ m) (w1 : w.2.1 147 = u.2.1 147) (w2 : w.1 112 = u.1 112) (w3 : w.1 113 = u.1 113) (w4 : w.1 114 = u.1 114) (w5 : w.1 116 = u.1 116) (w7 : w.2.2.1 109 19 = u.2.2.1 109 19) (hk : (RS s x (s.2.1 147) 160).toNat < k + 1) : FB w (w.2.1 147) ∧ (RS w x (w.2.1 147) 160).toNat < k := by
  have he := pbw_e h hx
  have f2 : w.1 112 = s.1 112 := by rw [w2, h1]
  have f3 : w.1 113 = s.1 113 := by rw [w3, h1]
  have f4 : w.1 114 = s.1 114 := by rw [w4, h1]
  have f5 : w.1 116 = s.1 116 := by rw [w5, h1]
  have f7 : w.2.2.1 109 19 = s.2.2.1 109 19 := by rw [w7, h2]
  have hb := (RS_b (x := x) hI he.1 160 (Nat.le_refl _)).1
  refine ⟨by rw [w1]; exact FB_cg he.1 f2 f5 f7, ?_⟩
  rw [w1, RS_cg f2 f3 f4 f5 f7]
  omega
