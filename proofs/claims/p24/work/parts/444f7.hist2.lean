/-! THE REFERENCE'S GRAPH 1 STAYS AS IT IS -/
def G12 (s t : GS) : Prop := t.1 110 1 = s.1 110 1 ∧ ∀ i, 160 ≤ i → i < 320 → t.1 112 i = s.1 112 i
def G1S (s t : GS) : Prop := t.1 110 1 = s.1 110 1 ∧ (∀ i, 32 ≤ i → t.1 111 i = s.1 111 i) ∧ ∀ i, 160 ≤ i → i < 320 → t.1 112 i = s.1 112 i ∧ t.1 113 i = s.1 113 i ∧ t.1 114 i = s.1 114 i ∧ t.1 115 i = s.1 115 i ∧ t.1 116 i = s.1 116 i ∧ t.1 117 i = s.1 117 i
section G1S
variable {s u t v : GS} {L : FM}
theorem g12_e (h : t = s) : G12 s t := by
  rw [h]
  exact ⟨rfl, fun _ _ _ => rfl⟩
theorem g12_cg (h0 : t.1 110 = s.1 110) (h2 : t.1 112 = s.1 112) : G12 s t := ⟨by rw [h0], fun i _ _ => by rw [h2]⟩
theorem g12_tr (h : G12 s u) (g : G12 u t) : G12 s t := ⟨g.1.trans h.1, fun i h1 h2 => (g.2 i h1 h2).trans (h.2 i h1 h2)⟩
theorem g12_t {i : Nat} {x : Int32} (hi : 320 ≤ i) : G12 s (sI s 112 i x) := by
  refine ⟨by rw [sI_p rfl], fun j h1 h2 => ?_⟩
  rw [sI_q]
  exact ug_ne (by omega)
theorem g12_n {x : Int32} : G12 s (sI s 110 2 x) := by
  refine ⟨?_, fun j h1 h2 => by rw [sI_p rfl]⟩
  rw [sI_q]
  exact ug_ne (by decide)
theorem g1_rf : G1S s s := ⟨rfl, fun _ _ => rfl, fun _ _ _ => ⟨rfl, rfl, rfl, rfl, rfl, rfl⟩⟩
theorem g1_tr (h : G1S s u) (g : G1S u t) : G1S s t := by
  refine ⟨g.1.trans h.1, fun i hi => (g.2.1 i hi).trans (h.2.1 i hi), fun i h1 h2 => ?_⟩
  obtain ⟨a1, a2, a3, a4, a5, a6⟩ := h.2.2 i h1 h2
  obtain ⟨b1, b2, b3, b4, b5, b6⟩ := g.2.2 i h1 h2
  exact ⟨b1.trans a1, b2.trans a2, b3.trans a3, b4.trans a4, b5.trans a5, b6.trans a6⟩
theorem g1_fr (hF : Fr L s t) (hq : (qI L.1 110 && qI L.1 111 && qI L.1 112 && qI L.1 113 && qI L.1 114 && qI L.1 115 && qI L.1 116 && qI L.1 117) = true) : G1S s t := by
  simp only [Bool.and_eq_true] at hq
  obtain ⟨⟨⟨⟨⟨⟨⟨q0, q1⟩, q2⟩, q3⟩, q4⟩, q5⟩, q6⟩, q7⟩ := hq
  refine ⟨by rw [hF.1 110 q0], fun i _ => by rw [hF.1 111 q1], fun i _ _ => ?_⟩
  rw [hF.1 112 q2, hF.1 113 q3, hF.1 114 q4, hF.1 115 q5, hF.1 116 q6, hF.1 117 q7]
  exact ⟨rfl, rfl, rfl, rfl, rfl, rfl⟩
theorem g1_2 (hF : Fr L s t) (hq : (qI L.1 111 && qI L.1 113 && qI L.1 114 && qI L.1 115 && qI L.1 116 && qI L.1 117) = true) (h : G12 s t) : G1S s t := by
  simp only [Bool.and_eq_true] at hq
  obtain ⟨⟨⟨⟨⟨q1, q3⟩, q4⟩, q5⟩, q6⟩, q7⟩ := hq
  refine ⟨h.1, fun i _ => by rw [hF.1 111 q1], fun i h1 h2 => ?_⟩
  rw [hF.1 113 q3, hF.1 114 q4, hF.1 115 q5, hF.1 116 q6, hF.1 117 q7]
  exact ⟨h.2 i h1 h2, rfl, rfl, rfl, rfl, rfl⟩
theorem g1_mk {k : Nat} {w a : Int32} {f8 f9 : Nat → Int32} (hq : AQ u k 0) (ha : AP u v k 0) (hr : RP u v k 0) (h8 : u.1 118 = upd f8 k w) (hw : In w 0 4) (h9 : u.1 119 = upd f9 k a) (hx : In a 0 159) (r0 : u.1 110 = s.1 110) (r1 : u.1 111 = s.1 111) (r2 : u.1 112 = s.1 112) (r3 : u.1 113 = s.1 113) (r4 : u.1 114 = s.1 114) (r5 : u.1 115 = s.1 115) (r6 : u.1 116 = s.1 116) (r7 : u.1 117 = s.1 117) (ht : t.1 = v.1) : G1S s t := by
  have e8 : u.1 118 k = w := by rw [h8]; exact ug_at
  have e9 : u.1 119 k = a := by rw [h9]; exact ug_at
  have ea : a.toNatClampNeg = a.toInt.toNat := rfl
  have en : (u.1 110 0).toNatClampNeg = (u.1 110 0).toInt.toNat := rfl
  obtain ⟨q1, q2, q3, q4⟩ := hq
  have q5 := q1.2.2.2.2
  unfold RP at hr
  rw [e8, e9] at hr
  rw [e8] at q3
  rw [e8, e9] at q5
  unfold In at hw hx
  obtain ⟨p0, p1, p2, p3, p4⟩ := hr
  have H : (∀ i, 32 ≤ i → v.1 111 i = u.1 111 i) ∧ (∀ i, 160 ≤ i → v.1 115 i = u.1 115 i) ∧ (∀ i, 160 ≤ i → v.1 116 i = u.1 116 i) ∧ (∀ i, 160 ≤ i → v.1 117 i = u.1 117 i) := by
    have c : w.toInt = 0 ∨ w.toInt = 1 ∨ w.toInt = 2 ∨ w.toInt = 3 ∨ w.toInt = 4 := by clear p0 p1 p2 p3 p4 q3 q5; omega
    rcases c with c | c | c | c | c
    · obtain ⟨a1, a2, a3, a4, a5, a6, a7⟩ := p0 c
      clear p0 p1 p2 p3 p4
      have b := q3 c
      rw [a1, a5, a6, a7]
      exact ⟨fun i hi => ug_ne (by omega), fun _ _ => rfl, fun _ _ => rfl, fun _ _ => rfl⟩
    · obtain ⟨a1, ⟨x, -, a2⟩, a3, a4, a5, a6, a7⟩ := p1 c
      clear p0 p1 p2 p3 p4
      rw [a1, a5, a6, a7]
      exact ⟨fun _ _ => rfl, fun i hi => ug_ne (by omega), fun i hi => ug_ne (by omega), fun i hi => ug_ne (by omega)⟩
    · obtain ⟨a1, a2, a3, a4, a5, a6, a7⟩ := p2 c
      clear p0 p1 p2 p3 p4
      rw [a1, a5, a6, a7]
      exact ⟨fun _ _ => rfl, fun _ _ => rfl, fun _ _ => rfl, fun _ _ => rfl⟩
    · obtain ⟨a1, a2, a3, a4, a5, a6, a7⟩ := p3 c
      clear p0 p1 p2 p3 p4
      rw [a1, a5, a6, a7]
      refine ⟨fun _ _ => rfl, fun i hi => ?_, fun i hi => ?_, fun i hi => ?_⟩
      · split
        · exact ug_ne (by omega)
        · rfl
      · split
        · exact ug_ne (by omega)
        · rfl
      · split
        · exact ug_ne (by omega)
        · rfl
    · obtain ⟨a1, a2, a3, a4, a5, a6, a7⟩ := p4 c
      clear p0 p1 p2 p3 p4
      have b := (q5 c).1
      rw [a1, a5, a6, a7]
      exact ⟨fun i hi => ug_ne (by omega), fun _ _ => rfl, fun _ _ => rfl, fun _ _ => rfl⟩
  refine ⟨?_, fun i hi => ?_, fun i h1 h2 => ?_⟩
  · rw [ht, ha.2.1 1 (by decide), r0]
  · rw [ht, H.1 i hi, r1]
  · obtain ⟨b2, b3, b4⟩ := ha.2.2.2 i (Or.inr (by omega))
    rw [ht, b2, b3, b4, H.2.1 i h1, H.2.2.1 i h1, H.2.2.2 i h1, r2, r3, r4, r5, r6, r7]
    exact ⟨rfl, rfl, rfl, rfl, rfl, rfl⟩
/-- so what is shown stays -/
theorem g1_v {x : Int} (h : G1S s t) (hn : In (s.1 110 1) 0 32) : GEV (gv1 t x) (gv1 s x) := by
  obtain ⟨h0, h1, h2⟩ := h
  refine ⟨fun i hi => h1 (32 + i) (by omega), fun i hi => ?_, fun i hi hx => ?_, by show (t.1 110 1).toInt = (s.1 110 1).toInt; rw [h0], rfl⟩
  · obtain ⟨a1, a2, -⟩ := h2 (160 + i) (by omega) (by omega)
    show thf (t.1 112) (t.1 113) (160 + i) = thf (s.1 112) (s.1 113) (160 + i)
    unfold thf
    rw [a1, a2]
  · obtain ⟨a1, a2, a3, a4, a5, a6⟩ := h2 (160 + i) (by omega) (by omega)
    exact ⟨a3, a4, a5, a6⟩
end G1S
/-! TOPS OF THE SHOWN GRAPH -/
def TQD (s : GS) : Prop := ∀ p : Nat, p < 160 → (s.1 34 p).toInt ≠ -1 → (p : Int) < (s.2.2.1 32 3).toInt
theorem tqd_up {s t : GS} {p : Nat} {a : Int32} (h : TQD s) (hr : t.1 34 = upd (s.1 34) p a) (h1 : (s.2.2.1 32 3).toInt ≤ (t.2.2.1 32 3).toInt) (h2 : (p : Int) < (t.2.2.1 32 3).toInt) : TQD t := by
  intro q hq hn
  by_cases c : q = p
  · rw [c]; exact h2
  · rw [hr, ug_ne c] at hn
    have := h q hq hn
    omega
theorem tqd_dn {s t : GS} {p : Nat} (h : TQD s) (hr : t.1 34 = upd (s.1 34) p (Int32.ofInt (-1))) (h1 : (t.2.2.1 32 3) = (s.2.2.1 32 3)) : TQD t := by
  intro q hq hn
  rw [h1]
  by_cases c : q = p
  · rw [c, hr, ug_at] at hn; exact absurd rfl hn
  · rw [hr, ug_ne c] at hn
    exact h q hq hn
theorem tqd_lw {s t : GS} {j : Nat} {z : Int32} (h : TQD s) (hr : t.1 34 = s.1 34) (hz : z = s.1 34 j) (hz1 : z.toInt = -1) (h1 : (t.2.2.1 32 3).toInt = (j : Int)) (h2 : (s.2.2.1 32 3).toInt = (j : Int) + 1) : TQD t := by
  intro q hq hn
  rw [hr] at hn
  have h3 := h q hq hn
  have h4 : q ≠ j := fun c => by rw [c, ← hz] at hn; exact hn hz1
  omega
theorem tqd_cg {s t : GS} (h : TQD s) (hr : t.1 34 = s.1 34) (h1 : (t.2.2.1 32 3) = (s.2.2.1 32 3)) : TQD t := by
  intro q hq hn
  rw [hr] at hn
  rw [h1]
  exact h q hq hn
theorem tqd_fr {s t : GS} {L : FM} (hT : TQD s) (h : Fr L s t) (hq : (qI L.1 34 && qF L.2.2.1 32 3) = true) : TQD t := by
  rw [Bool.and_eq_true] at hq
  exact tqd_cg hT (h.1 34 hq.1) (h.2.2.1 32 3 hq.2)
/-- alike as far as can be seen, whatever the version -/
def GEW (g h : GVW) : Prop := (∀ i : Nat, (i : Int) < g.2.2.2.2.2.2.1 → g.1 i = h.1 i) ∧ (∀ i, i < 160 → g.2.1 i = h.2.1 i) ∧ (∀ i, i < 160 → (g.2.1 i).toInt ≠ -1 → g.2.2.1 i = h.2.2.1 i ∧ g.2.2.2.1 i = h.2.2.2.1 i ∧ g.2.2.2.2.1 i = h.2.2.2.2.1 i ∧ g.2.2.2.2.2.1 i = h.2.2.2.2.2.1 i) ∧ g.2.2.2.2.2.2.1 = h.2.2.2.2.2.2.1
theorem gew_v {g h : GVW} (q : GEV g h) : GEW g h := ⟨q.1, q.2.1, q.2.2.1, q.2.2.2.1⟩
/-! WHAT IS TOLD -/
def TLV (g : GVW) (p : Nat) (w : Int) : Int := if (g.2.1 p).toInt = -1 then 9000000000000000 else if w = 0 then (g.2.1 p).toInt else if w = 1 then (g.2.2.1 p).toInt else if w = 2 then (g.2.2.2.1 p).toInt else if w = 3 then (g.2.2.2.2.1 p).toInt else (g.2.2.2.2.2.1 p).toInt
section TLV
variable {g : GVW} {p : Nat} {w : Int} {f v : Int32} {z : Int64}
theorem tlv_no (hf : (g.2.1 p).toInt = -1) (hz : z.toInt = 9000000000000000) : z.toInt = TLV g p w := by
  unfold TLV
  rw [if_pos hf]; exact hz
theorem tlv_0 (h : (g.2.1 p).toInt ≠ -1) (hw : w = 0) (hf : f = g.2.1 p) (hz : z.toInt = f.toInt) : z.toInt = TLV g p w := by
  unfold TLV
  rw [if_neg h, if_pos hw, ← hf]; exact hz
theorem tlv_1 (h : (g.2.1 p).toInt ≠ -1) (hw : w = 1) (hv : v = g.2.2.1 p) (hz : z.toInt = v.toInt) : z.toInt = TLV g p w := by
  unfold TLV
  rw [if_neg h, if_neg (by omega), if_pos hw, ← hv]; exact hz
theorem tlv_2 (h : (g.2.1 p).toInt ≠ -1) (hw : w = 2) (hv : v = g.2.2.2.1 p) (hz : z.toInt = v.toInt) : z.toInt = TLV g p w := by
  unfold TLV
  rw [if_neg h, if_neg (by omega), if_neg (by omega), if_pos hw, ← hv]; exact hz
theorem tlv_3 (h : (g.2.1 p).toInt ≠ -1) (hw : w = 3) (hv : v = g.2.2.2.2.1 p) (hz : z.toInt = v.toInt) : z.toInt = TLV g p w := by
  unfold TLV
  rw [if_neg h, if_neg (by omega), if_neg (by omega), if_neg (by omega), if_pos hw, ← hv]; exact hz
theorem tlv_4 (h : (g.2.1 p).toInt ≠ -1) (hw : w = 4) (hv : v = g.2.2.2.2.2.1 p) (hz : z.toInt = v.toInt) : z.toInt = TLV g p w := by
  unfold TLV
  rw [if_neg h, if_neg (by omega), if_neg (by omega), if_neg (by omega), if_neg (by omega), ← hv]; exact hz
theorem tl_ne {x y : Int32} (e : x = y) (h : x.toInt ≠ -1) : y.toInt ≠ -1 := e ▸ h
theorem tl_eq {x y : Int32} (e : x = y) (h : x.toInt = -1) : y.toInt = -1 := e ▸ h
theorem tlv_e {h : GVW} (q : GEW g h) (hp : p < 160) : TLV g p w = TLV h p w := by
  unfold TLV
  rw [q.2.1 p hp]
  by_cases c : (h.2.1 p).toInt = -1
  · rw [if_pos c, if_pos c]
  · obtain ⟨a, b, d, e⟩ := q.2.2.1 p hp (by rw [q.2.1 p hp]; exact c)
    rw [a, b, d, e]
end TLV
def TLR (s t : GS) (x y : Int32) (z : Int64) : Prop := ((t.2.2.1 109 0).toInt = 1 ∧ ¬ (In x 0 159 ∧ In y 0 4)) ∨ ((t.2.2.1 109 0).toInt = 0 ∧ (In x 0 159 ∧ In y 0 4) ∧ z.toInt = TLV (gvG s (s.2.2.1 109 18).toNatClampNeg) x.toNatClampNeg y.toInt)
/-- the reference's place of an arc, and whether it is there -/
theorem tg_ix {s : GS} {b x z : Int32} (hI : Inv s) (hb : b = s.2.2.1 109 19) (hz : z.toInt = b.toInt + x.toInt) (hx : In x 0 159) : z.toNatClampNeg = 160 * (s.2.2.1 109 18).toNatClampNeg + x.toNatClampNeg := by
  have k := hI.2.2.2.2.2.2.2.2.2.1
  have g := inv_F hI (z := s.2.2.1 109 18) 0 1 rfl rfl
  have k2 : (s.2.2.1 109 19).toInt = 160 * (s.2.2.1 109 18).toInt := k
  unfold In at g hx
  rw [hb, k2] at hz
  show z.toInt.toNat = 160 * (s.2.2.1 109 18).toInt.toNat + x.toInt.toNat
  omega
theorem tg_no {s : GS} {g p : Nat} {x : Int32} (hx : x = s.1 112 (160 * g + p)) (h0 : x.toInt = 0) : ((gvG s g).2.1 p).toInt = -1 := by
  show (thf (s.1 112) (s.1 113) (160 * g + p)).toInt = -1
  unfold thf
  rw [← hx, if_pos h0]
  rfl
theorem tg_ne {s : GS} {g p : Nat} {x : Int32} (hI : Inv s) (hx : x = s.1 112 (160 * g + p)) (h0 : x.toInt ≠ 0) (hl : 160 * g + p < 480) : ((gvG s g).2.1 p).toInt ≠ -1 := by
  show (thf (s.1 112) (s.1 113) (160 * g + p)).toInt ≠ -1
  unfold thf
  rw [← hx, if_neg h0]
  have w := hI.1.1 113 (160 * g + p) (Nat.lt_of_lt_of_le hl (Nat.le_of_ble_eq_true rfl))
  have w1 : (rI 113).1 = 0 := rfl
  unfold In at w
  rw [w1] at w
  omega
theorem tg_is {s : GS} {g p : Nat} {x f : Int32} (hx : x = s.1 112 (160 * g + p)) (h0 : x.toInt ≠ 0) (hf : f = s.1 113 (160 * g + p)) : f = (gvG s g).2.1 p := by
  show f = thf (s.1 112) (s.1 113) (160 * g + p)
  unfold thf
  rw [← hx, if_neg h0]
  exact hf
