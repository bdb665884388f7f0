/-! BOTH SIDES ARE ALIKE -/
def TXT (s : GS) : Prop := ∀ i : Nat, i < (s.2.2.1 46 1).toInt.toNat → s.1 47 i = s.1 125 i
def REL2 (s : GS) : Prop := REL s ∧ TXT s ∧ GEQ (gvC s) (gvR s) ∧ TQ s
section REL2
variable {s t t2 : GS} {F G : FM}
theorem tx_fr (h : REL s ∧ TXT s) (hF : Fr F s t) (hk : (qF F.2.2.1 46 1 && qF F.2.2.1 109 22 && (qI F.1 47 && qI F.1 125)) = true) : REL t ∧ TXT t := by
  simp only [Bool.and_eq_true] at hk
  obtain ⟨⟨k1, k2⟩, k3, k4⟩ := hk
  obtain ⟨h1, h2⟩ := h
  unfold REL TXT at *
  rw [hF.2.2.1 46 1 k1, hF.2.2.1 109 22 k2, hF.1 47 k3, hF.1 125 k4]
  exact ⟨h1, h2⟩
theorem rel2_fr (h : REL2 s) (hF : Fr F s t) (hk : ((qF F.2.2.1 46 1 && qF F.2.2.1 109 22 && (qI F.1 47 && qI F.1 125)) && (qI F.1 3 && qI F.1 4 && qI F.1 5 && qI F.1 6 && qI F.1 7 && qI F.1 8 && qF F.2.2.1 2 1 && qF F.2.2.1 2 0) && (qI F.1 110 && qI F.1 111 && qI F.1 112 && qI F.1 113 && qI F.1 114 && qI F.1 115 && qI F.1 116 && qI F.1 117 && qF F.2.2.1 109 9) && (qI F.1 4 && qF F.2.2.1 2 3)) = true) : REL2 t := by
  rw [Bool.and_eq_true, Bool.and_eq_true, Bool.and_eq_true] at hk
  obtain ⟨⟨⟨k1, k2⟩, k3⟩, k4⟩ := hk
  obtain ⟨h1, h2, h3, h4⟩ := h
  have x := tx_fr ⟨h1, h2⟩ hF k1
  exact ⟨x.1, x.2, by rw [gvC_cg hF k2, gvR_cg hF k3]; exact h3, tq_fr h4 hF k4⟩
theorem rel2_R (h : REL2 s) (hF : Fr F s t) (hk : ((qF F.2.2.1 46 1 && qF F.2.2.1 109 22 && (qI F.1 47 && qI F.1 125)) && (qI F.1 3 && qI F.1 4 && qI F.1 5 && qI F.1 6 && qI F.1 7 && qI F.1 8 && qF F.2.2.1 2 1 && qF F.2.2.1 2 0) && (qI F.1 4 && qF F.2.2.1 2 3)) = true) (hg : GEQ (gvR t) (gvR s)) : REL2 t := by
  rw [Bool.and_eq_true, Bool.and_eq_true] at hk
  obtain ⟨⟨k1, k2⟩, k4⟩ := hk
  obtain ⟨h1, h2, h3, h4⟩ := h
  have x := tx_fr ⟨h1, h2⟩ hF k1
  exact ⟨x.1, x.2, by rw [gvC_cg hF k2]; exact geq_t h3 (geq_s hg), tq_fr h4 hF k4⟩
theorem rel2_2 (h : REL2 s) (hF : Fr F s t) (hk : (qF F.2.2.1 46 1 && qF F.2.2.1 109 22 && (qI F.1 47 && qI F.1 125)) = true) (hG : Fr G t t2) (hk2 : ((qF G.2.2.1 46 1 && qF G.2.2.1 109 22 && (qI G.1 47 && qI G.1 125)) && (qI G.1 4 && qF G.2.2.1 2 3)) = true) (hT : TQ t) (hg : GEQ (gvC t2) (gvR t2)) : REL2 t2 := by
  rw [Bool.and_eq_true] at hk2
  have x := tx_fr (tx_fr ⟨h.1, h.2.1⟩ hF hk) hG hk2.1
  exact ⟨x.1, x.2, hg, tq_fr hT hG hk2.2⟩
end REL2
/-- code, state and answer of a wrapper's call -/
def CDK (c : Int32) (P Q E R : Prop) : Prop := (c.toInt = 1 ∧ ¬ P ∧ E) ∨ (c.toInt = 2 ∧ P ∧ ¬ Q ∧ E) ∨ (c.toInt = 0 ∧ P ∧ Q ∧ R)
theorem cd_meet {s t t2 : GS} {c : Int32} {P Q R P2 Q2 R2 E : Prop} (hP : P ↔ P2) (hQ : Q ↔ Q2) (h1 : CDK c P Q (gvC t = gvC s) R) (h2 : CDR t t2 P2 Q2 R2) (hg : GEQ (gvC s) (gvR t)) (hc : gvC t2 = gvC t) (hR : P → R → R2 → GEQ (gvC t) (gvR t2) ∧ E) : GEQ (gvC t2) (gvR t2) ∧ (t2.2.2.1 109 0).toInt = c.toInt ∧ (c.toInt = 0 → E) := by
  rw [hc]
  rcases h1 with ⟨a1, a2, a3⟩ | ⟨a1, a2, a3, a4⟩ | ⟨a1, a2, a3, a4⟩ <;> rcases h2 with ⟨b1, b2, b3⟩ | ⟨b1, b2, b3, b4⟩ | ⟨b1, b2, b3, b4⟩
  · exact ⟨by rw [a3, b3]; exact hg, by omega, fun z => by omega⟩
  · exact absurd (hP.mpr b2) a2
  · exact absurd (hP.mpr b2) a2
  · exact absurd (hP.mp a2) b2
  · exact ⟨by rw [a4, b4]; exact hg, by omega, fun z => by omega⟩
  · exact absurd (hQ.mpr b3) a3
  · exact absurd (hP.mp a2) b2
  · exact absurd (hQ.mp a3) b3
  · have h := hR a2 a4 b4
    exact ⟨h.1, by omega, fun _ => h.2⟩
section MEET
variable {s t t2 : GS} {c z z2 x1 x2 x3 x4 x5 : Int32}
theorem q_nd (hg : GEQ (gvC s) (gvR t)) : (s.2.2.1 2 1).toInt = (t.1 110 0).toInt := hg.2.2.2.2.2.2.1
theorem q_vr (hg : GEQ (gvC s) (gvR t)) : (s.2.2.1 2 0).toInt = (t.2.2.1 109 9).toInt := hg.2.2.2.2.2.2.2
theorem q_hn (hg : GEQ (gvC s) (gvR t)) {x : Int32} : HNC s x ↔ HNR t x := by unfold HNC HNR; rw [q_nd hg]
theorem q_ar (hg : GEQ (gvC s) (gvR t)) (hI : Inv t) {x : Int32} : HAC s x ↔ HAR t x := by
  unfold HAC HAR
  constructor
  · rintro ⟨h0, h1, h2⟩
    refine ⟨h0, h1, fun q => h2 ?_⟩
    have e : s.1 4 x.toNatClampNeg = thf (t.1 112) (t.1 113) x.toNatClampNeg := hg.2.1 _ (by show x.toInt.toNat < 160; omega)
    rw [e]
    unfold thf
    rw [if_pos q]
    rfl
  · rintro ⟨h0, h1, h2⟩
    refine ⟨h0, h1, fun q => ?_⟩
    have hx : x.toNatClampNeg < 160 := by show x.toInt.toNat < 160; omega
    have e : s.1 4 x.toNatClampNeg = thf (t.1 112) (t.1 113) x.toNatClampNeg := hg.2.1 _ hx
    rw [e] at q
    unfold thf at q
    rw [if_neg h2] at q
    exact r113 hI hx q
theorem m_node (hg : GEQ (gvC s) (gvR t)) (hc : gvC t2 = gvC t) (h1 : CDK c (In x1 0 25) ((s.2.2.1 2 1).toInt ≤ 31 ∧ (s.2.2.1 2 0).toInt ≤ 3999) (gvC t = gvC s) (z.toInt = (s.2.2.1 2 1).toInt ∧ gvC t = gqN (gvC s) (s.2.2.1 2 1).toNatClampNeg x1)) (h2 : CDR t t2 (In x1 0 25) ((t.1 110 0).toInt ≤ 31 ∧ (t.2.2.1 109 9).toInt ≤ 3999) (z2.toInt = (t.1 110 0).toInt ∧ gvR t2 = gqN (gvR t) (t.1 110 0).toNatClampNeg x1)) : GEQ (gvC t2) (gvR t2) ∧ (t2.2.2.1 109 0).toInt = c.toInt ∧ (c.toInt = 0 → z = z2) := by
  refine cd_meet Iff.rfl (by rw [q_nd hg, q_vr hg]) h1 h2 hg hc (fun _ r r2 => ⟨?_, i_eq.mpr (by rw [r.1, r2.1]; exact q_nd hg)⟩)
  have e : (s.2.2.1 2 1).toNatClampNeg = (t.1 110 0).toNatClampNeg := congrArg Int.toNat (q_nd hg)
  rw [r.2, r2.2, e]
  exact geq_N hg
theorem m_arc (hI : Inv t) (hg : GEQ (gvC s) (gvR t)) (hc : gvC t2 = gvC t) (h1 : CDK c (HNC s x1 ∧ HNC s x2 ∧ In x3 (-1000000) 1000000 ∧ In x4 0 1000000 ∧ In x5 0 25) ((s.2.2.1 2 0).toInt ≤ 3999) (gvC t = gvC s) ((z.toInt = -3 → gvC t = gvC s ∧ fpl (ctg (s.1 4)) = 160) ∧ (z.toInt ≠ -3 → gvC t = gqA (gvC s) z.toNatClampNeg x1 x2 x3 x4 x5 ∧ fpl (ctg (s.1 4)) = z.toNatClampNeg ∧ 0 ≤ z.toInt) ∧ In z (-3) 159)) (i2 : In z2 (-3) 159) (h2 : CDR t t2 (HNR t x1 ∧ HNR t x2 ∧ In x3 (-1000000) 1000000 ∧ In x4 0 1000000 ∧ In x5 0 25) ((t.2.2.1 109 9).toInt ≤ 3999) ((z2.toInt = -3 ∧ fpl (thg t 0) = 160 ∧ gvR t2 = gvR t) ∨ (z2.toInt ≠ -3 ∧ fpl (thg t 0) = z2.toNatClampNeg ∧ gvR t2 = gqA (gvR t) z2.toNatClampNeg x1 x2 x3 x4 x5 ∧ 0 ≤ z2.toInt))) : GEQ (gvC t2) (gvR t2) ∧ (t2.2.2.1 109 0).toInt = c.toInt ∧ (c.toInt = 0 → z = z2) := by
  refine cd_meet (by rw [q_hn hg, q_hn hg]) (by rw [q_vr hg]) h1 h2 hg hc (fun _ r r2 => ?_)
  have ef : fpl (ctg (s.1 4)) = fpl (thg t 0) := (geq_f hg).trans (fpl_R hI)
  obtain ⟨r1, r3, iz⟩ := r
  have ez : z.toNatClampNeg = z.toInt.toNat := rfl
  have ez2 : z2.toNatClampNeg = z2.toInt.toNat := rfl
  unfold In at iz i2
  by_cases q : z.toInt = -3
  · obtain ⟨a1, a2⟩ := r1 q
    rcases r2 with ⟨b1, b2, b3⟩ | ⟨b1, b2, b3, b4⟩
    · exact ⟨by rw [a1, b3]; exact hg, i_eq.mpr (by omega)⟩
    · exfalso; omega
  · obtain ⟨a1, a2, a3⟩ := r3 q
    rcases r2 with ⟨b1, b2, b3⟩ | ⟨b1, b2, b3, b4⟩
    · exfalso; omega
    · have e : z = z2 := i_eq.mpr (by omega)
      refine ⟨?_, e⟩
      rw [a1, b3, e]
      exact geq_A hg
theorem m_take (hI : Inv t) (hg : GEQ (gvC s) (gvR t)) (hc : gvC t2 = gvC t) (h1 : CDK c (HAC s x1) ((s.2.2.1 2 0).toInt ≤ 3999) (gvC t = gvC s) (z.toInt = (s.2.2.1 2 0).toInt + 1 ∧ gvC t = gqD (gvC s) x1.toNatClampNeg)) (h2 : CDR t t2 (HAR t x1) ((t.2.2.1 109 9).toInt ≤ 3999) (z2.toInt = (t.2.2.1 109 9).toInt + 1 ∧ gvR t2 = gqD (gvR t) x1.toNatClampNeg)) : GEQ (gvC t2) (gvR t2) ∧ (t2.2.2.1 109 0).toInt = c.toInt ∧ (c.toInt = 0 → z = z2) := by
  refine cd_meet (q_ar hg hI) (by rw [q_vr hg]) h1 h2 hg hc (fun _ r r2 => ⟨?_, i_eq.mpr (by rw [r.1, r2.1, q_vr hg])⟩)
  rw [r.2, r2.2]
  exact geq_D hg
theorem m_set (hI : Inv t) (hg : GEQ (gvC s) (gvR t)) (hc : gvC t2 = gvC t) (h1 : CDK c (HAC s x1 ∧ GVL x2 x3) ((s.2.2.1 2 0).toInt ≤ 3999) (gvC t = gvC s) (z = (if x2.toInt = 0 then s.1 6 x1.toNatClampNeg else if x2.toInt = 1 then s.1 7 x1.toNatClampNeg else s.1 8 x1.toNatClampNeg) ∧ gvC t = gqW (gvC s) x1.toNatClampNeg x2 x3)) (h2 : CDR t t2 (HAR t x1 ∧ GVL x2 x3) ((t.2.2.1 109 9).toInt ≤ 3999) (z2 = (if x2.toInt = 0 then t.1 115 x1.toNatClampNeg else if x2.toInt = 1 then t.1 116 x1.toNatClampNeg else t.1 117 x1.toNatClampNeg) ∧ gvR t2 = gqW (gvR t) x1.toNatClampNeg x2 x3)) : GEQ (gvC t2) (gvR t2) ∧ (t2.2.2.1 109 0).toInt = c.toInt ∧ (c.toInt = 0 → z = z2) := by
  refine cd_meet (by rw [q_ar hg hI]) (by rw [q_vr hg]) h1 h2 hg hc (fun p r r2 => ⟨?_, ?_⟩)
  · rw [r.2, r2.2]
    exact geq_W hg
  · have hx : x1.toNatClampNeg < 160 := by
      have a := p.1.1
      have b := p.1.2.1
      show x1.toInt.toNat < 160
      omega
    rw [r.1, r2.1, show s.1 6 x1.toNatClampNeg = t.1 115 x1.toNatClampNeg from hg.2.2.2.1 _ hx, show s.1 7 x1.toNatClampNeg = t.1 116 x1.toNatClampNeg from hg.2.2.2.2.1 _ hx, show s.1 8 x1.toNatClampNeg = t.1 117 x1.toNatClampNeg from hg.2.2.2.2.2.1 _ hx]
theorem m_label (hI : Inv s) (hg : GEQ (gvC s) (gvR t)) (hc : gvC t2 = gvC t) (h1 : CDK c (HNC s x1 ∧ In x2 0 25) ((s.2.2.1 2 0).toInt ≤ 3999) (gvC t = gvC s) (z = s.1 3 x1.toNatClampNeg ∧ gvC t = gqL (gvC s) x1.toNatClampNeg x2)) (h2 : CDR t t2 (HNR t x1 ∧ In x2 0 25) ((t.2.2.1 109 9).toInt ≤ 3999) (z2 = t.1 111 x1.toNatClampNeg ∧ gvR t2 = gqL (gvR t) x1.toNatClampNeg x2)) : GEQ (gvC t2) (gvR t2) ∧ (t2.2.2.1 109 0).toInt = c.toInt ∧ (c.toInt = 0 → z = z2) := by
  refine cd_meet (by rw [q_hn hg]) (by rw [q_vr hg]) h1 h2 hg hc (fun p r r2 => ⟨?_, ?_⟩)
  · rw [r.2, r2.2]
    exact geq_L hg
  · have hx : x1.toNatClampNeg < 32 := by
      have a := p.1.1
      have b := p.1.2
      have i := inv_F hI (z := s.2.2.1 2 1) 0 32 rfl rfl
      unfold In at i
      show x1.toInt.toNat < 32
      omega
    rw [r.1, r2.1]
    exact hg.1 _ hx
theorem m_load {f2 p2 : Int} (hR : REL2 s) (gv : gvR t = gvR s) (t125 : t.1 125 = s.1 125) (t22 : t.2.2.1 109 22 = s.2.2.1 109 22) (h1 : (z.toInt ≠ -4 → LOT (s.1 47) (s.2.2.1 46 1).toInt.toNat (gvC s) z.toInt 0 0 (gvC t) ∧ (t.2.2.1 46 6).toInt = -1 ∧ (t.2.2.1 46 7).toInt = -1) ∧ (z.toInt = -4 → LOT (s.1 47) (s.2.2.1 46 1).toInt.toNat (gvC s) (-4) (t.2.2.1 46 6).toInt (t.2.2.1 46 7).toInt (gvC t)) ∧ TQ t) (h2 : LOT (t.1 125) (t.2.2.1 109 22).toInt.toNat (gvR t) z2.toInt f2 p2 (gvR t2)) : GEQ (gvC t) (gvR t2) ∧ z = z2 := by
  obtain ⟨r1, r2, r3, r4⟩ := hR
  unfold REL at r1
  rw [t125, t22, gv, ← r1] at h2
  obtain ⟨a, b, -⟩ := h1
  by_cases q : z.toInt = -4
  · have u := lot_u r2 r3 (b q) h2
    exact ⟨u.2.2.2, i_eq.mpr (by rw [q]; exact u.1)⟩
  · have u := lot_u r2 r3 (a q).1 h2
    exact ⟨u.2.2.2, i_eq.mpr u.1⟩
/-- both sides of type meet -/
theorem m_type (hR : REL2 s) (hF : Fr ([47], [195], [(46, 1)], []) s t) (hF2 : Fr fm_293 t t2)
    (hw : (c.toInt = 1 ∧ (x1.toInt < 32 ∨ 126 < x1.toInt) ∧ t.2.2.1 46 1 = s.2.2.1 46 1 ∧ t.1 47 = s.1 47) ∨ (c.toInt = 2 ∧ In x1 32 126 ∧ 1000 ≤ (s.2.2.1 46 1).toInt ∧ t.2.2.1 46 1 = s.2.2.1 46 1 ∧ t.1 47 = s.1 47) ∨ (c.toInt = 0 ∧ In x1 32 126 ∧ (s.2.2.1 46 1).toInt ≤ 999 ∧ (t.2.2.1 46 1).toInt = (s.2.2.1 46 1).toInt + 1 ∧ t.2.1 195 0 = (t.2.2.1 46 1).toInt64 ∧ t.1 47 = upd (s.1 47) (s.2.2.1 46 1).toNatClampNeg x1))
    (hr : TYr t x1 t2 z) : REL2 t2 := by
  obtain ⟨r1, r2, r3, r4⟩ := hR
  have e22 : t.2.2.1 109 22 = s.2.2.1 109 22 := hF.2.2.1 109 22 rfl
  have e125 : t.1 125 = s.1 125 := hF.1 125 rfl
  have e46 : t2.2.2.1 46 1 = t.2.2.1 46 1 := hF2.2.2.1 46 1 rfl
  have e47 : t2.1 47 = t.1 47 := hF2.1 47 rfl
  have g3 : GEQ (gvC t2) (gvR t2) := by
    rw [gvC_cg hF2 rfl, gvC_cg hF rfl, gvR_cg hF2 rfl, gvR_cg hF rfl]
    exact r3
  have g4 : TQ t2 := tq_fr (tq_fr r4 hF rfl) hF2 rfl
  suffices h : REL t2 ∧ TXT t2 from ⟨h.1, h.2, g3, g4⟩
  unfold TYr at hr
  rw [e22, e125] at hr
  unfold REL at r1 ⊢
  unfold TXT at r2 ⊢
  rw [← r1] at hr
  rw [e46, e47]
  rcases hw with ⟨w1, w2, w3, w6⟩ | ⟨w1, w2, w3, w4, w6⟩ | ⟨w1, w2, w3, w4, w5, w6⟩ <;> rcases hr with ⟨q1, q2, q3, q6⟩ | ⟨q1, q2, q3, q4, q6⟩ | ⟨q1, q2, q3, q4, q5, q6⟩
  · rw [w3, w6, q3, q6]; exact ⟨rfl, r2⟩
  · rw [w3, w6, q4, q6]; exact ⟨rfl, r2⟩
  · have := q2.1; have := q2.2; omega
  · rw [w4, w6, q3, q6]; exact ⟨rfl, r2⟩
  · rw [w4, w6, q4, q6]; exact ⟨rfl, r2⟩
  · omega
  · have := w2.1; have := w2.2; omega
  · omega
  · have e : t.2.2.1 46 1 = z := i_eq.mpr (by omega)
    refine ⟨by rw [q5]; exact e, fun i hi => ?_⟩
    rw [w6, q6]
    by_cases ci : i = (s.2.2.1 46 1).toNatClampNeg
    · rw [ci, ug_at, ug_at]
    · rw [ug_ne ci, ug_ne ci]
      refine r2 i ?_
      have ez : (s.2.2.1 46 1).toNatClampNeg = (s.2.2.1 46 1).toInt.toNat := rfl
      omega
theorem m_wipe (hR : REL2 s) (hF : Fr fm_224_0 s t) (hz : t.2.2.1 46 1 = Int32.ofInt 0) (hF2 : Fr fm_294 t t2) (hz2 : t2.2.2.1 109 22 = Int32.ofInt 0) : REL2 t2 := by
  have e46 : t2.2.2.1 46 1 = Int32.ofInt 0 := (hF2.2.2.1 46 1 rfl).trans hz
  refine ⟨by unfold REL; rw [e46, hz2], fun i hi => ?_, ?_, tq_fr (tq_fr hR.2.2.2 hF rfl) hF2 rfl⟩
  · rw [e46] at hi; exact absurd hi (Nat.not_lt_zero _)
  · rw [gvC_cg hF2 rfl, gvC_cg hF rfl, gvR_cg hF2 rfl, gvR_cg hF rfl]
    exact hR.2.2.1
end MEET
theorem g_ouL' {Z : AmZ} {d m N pc : Nat} {ret : AmR} {xp : GX} {f : Nat → Option Value} {r : List Value} {C S a : Nat} {A : Nat → Nat} {s : GS} {ex : va_W} (ha : A 195 = a) (p : Nat) (hd : GD m pc (.laload) 1) (hp : pc + 1 = p) (h : GG Z d m ret xp N p f (.long (s.2.1 195 0) :: r) (WW Z A s ++ ex) C S) : GG Z d m ret xp (N + 1) pc f (.int (Int32.ofInt 0) :: .ref a :: r) (WW Z A s ++ ex) C S := by
  subst ha
  exact g_ouL p hd hp h
/-! the law's wrappers of the changes -/
noncomputable def WFr (Z : AmZ) (A : Nat → Nat) (L : FM) (s : GS) (P Q : Prop) (R : GS → Int32 → Prop) : AmR := fun v u => ∃ (c : Int32) (A2 : Nat → Nat) (t : GS) (z : Int32), v = some (.int c) ∧ u = WW Z A2 t ++ [] ∧ A2 0 = A 0 ∧ A2 109 = A 109 ∧ A2 195 = A 195 ∧ Inv t ∧ Fr (L.1, 195 :: L.2.1, L.2.2) s t ∧ KL t ∧ TQ t ∧ CDK c P Q (gvC t = gvC s) (R t z) ∧ (c.toInt = 0 → t.2.1 195 0 = z.toInt64)

theorem m_view {s t t2 : GS} {c z z2 x1 : Int32} (hv : (s.2.2.1 2 0).toInt = (t.2.2.1 109 9).toInt) (h1 : (c.toInt = 1 ∧ ¬ (-1 ≤ x1.toInt ∧ x1.toInt ≤ (s.2.2.1 2 0).toInt)) ∨ (c.toInt = 0 ∧ (-1 ≤ x1.toInt ∧ x1.toInt ≤ (s.2.2.1 2 0).toInt) ∧ z = (if x1.toInt < 0 then s.2.2.1 2 0 else x1))) (h2 : VWQ t t2 x1 z2) : (t2.2.2.1 109 0).toInt = c.toInt ∧ (c.toInt = 0 → z = z2) := by
  unfold VWQ at h2
  rw [← hv] at h2
  rcases h1 with ⟨a1, a2⟩ | ⟨a1, a2, a3⟩ <;> rcases h2 with ⟨b1, b2⟩ | ⟨b1, b2, b3⟩
  · exact ⟨by omega, fun q => by omega⟩
  · exact absurd b2 a2
  · exact absurd a2 b2
  · exact ⟨by omega, fun _ => by rw [a3, b3, i_eq.mpr hv]⟩

