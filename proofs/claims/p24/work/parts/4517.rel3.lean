/-! WHAT IS SHOWN IS ALIKE -/
def HSX (s : GS) (H : Nat → GVW) : Prop := HIS s H ∧ GEV (H (s.2.2.1 2 0).toInt.toNat) (gvC s) ∧ SHW s H ∧ GSE s ∧ TQD s ∧ EXK s H
def REL3 (s : GS) : Prop := REL2 s ∧ ∃ H, HSX s H
theorem b_and {a b : Bool} (h : (a && b) = true) : a = true ∧ b = true := by
  cases a
  · cases h
  · exact ⟨rfl, h⟩
def QbH (L : FM) : Bool := qI L.1 30 && (qI L.1 118 && qI L.1 119 && qI L.1 120 && qI L.1 121 && qI L.1 122 && qI L.1 123 && qI L.1 124) && qF L.2.2.1 2 0
def QbC (L : FM) : Bool := qI L.1 3 && qI L.1 4 && qI L.1 5 && qI L.1 6 && qI L.1 7 && qI L.1 8 && qF L.2.2.1 2 1 && qF L.2.2.1 2 0
def QbD (L : FM) : Bool := qI L.1 33 && qI L.1 34 && qI L.1 35 && qI L.1 36 && qI L.1 37 && qI L.1 38 && qF L.2.2.1 32 1 && qF L.2.2.1 32 0
def QbR (L : FM) : Bool := qI L.1 110 && qI L.1 111 && qI L.1 112 && qI L.1 113 && qI L.1 114 && qI L.1 115 && qI L.1 116 && qI L.1 117
def QbX (L : FM) : Bool := qI L.1 110 && qI L.1 111 && qI L.1 112 && qI L.1 113 && qI L.1 114 && qI L.1 115 && qI L.1 116 && qI L.1 117 && qF L.2.2.1 109 9
def QbS (L : FM) : Bool := qF L.2.2.1 0 2 && qF L.2.2.1 109 17
def QbL (L : FM) : Bool := qI L.1 118 && qI L.1 119 && qI L.1 120 && qI L.1 121 && qI L.1 122 && qI L.1 123 && qI L.1 124 && qF L.2.2.1 109 9
def QbT (L : FM) : Bool := qI L.1 34 && qF L.2.2.1 32 3
/-- nothing that is shown, and nothing of the history, is touched -/
def KQA (L : FM) : Bool := QbH L && (QbC L && (QbD L && (QbR L && (QbS L && (qF L.2.2.1 109 18 && (QbT L && EXQ L))))))
/-- a change of the class: nothing of the reference, nothing of what is shown -/
def KQF (L : FM) : Bool := QbL L && (QbX L && (QbD L && (QbS L && (qF L.2.2.1 109 18 && (QbT L && EXQ L)))))
/-- a change of the reference: nothing of the class -/
def KQG (L : FM) : Bool := QbC L && (qI L.1 30 && (QbD L && (QbS L && (QbT L && EXQ L))))
section HSX
variable {s t u : GS} {F G : FM} {H H2 : Nat → GVW}
theorem gv1_fr {x : Int} (hF : Fr F s t) (hq : QbR F = true) : gv1 t x = gv1 s x := by
  unfold QbR at hq
  simp only [Bool.and_eq_true] at hq
  obtain ⟨⟨⟨⟨⟨⟨⟨q0, q1⟩, q2⟩, q3⟩, q4⟩, q5⟩, q6⟩, q7⟩ := hq
  unfold gv1
  rw [hF.1 110 q0, hF.1 111 q1, hF.1 112 q2, hF.1 113 q3, hF.1 114 q4, hF.1 115 q5, hF.1 116 q6, hF.1 117 q7]
theorem fr_20 (hF : Fr F s t) (h : QbC F = true) : t.2.2.1 2 0 = s.2.2.1 2 0 := hF.2.2.1 2 0 (b_and h).2
theorem fr_320 (hF : Fr F s t) (h : QbD F = true) : t.2.2.1 32 0 = s.2.2.1 32 0 := hF.2.2.1 32 0 (b_and h).2
theorem fr_02 (hF : Fr F s t) (h : QbS F = true) : t.2.2.1 0 2 = s.2.2.1 0 2 := hF.2.2.1 0 2 (b_and h).1
theorem fr_17 (hF : Fr F s t) (h : QbS F = true) : t.2.2.1 109 17 = s.2.2.1 109 17 := hF.2.2.1 109 17 (b_and h).2
theorem gse_f (h : GSE s) (hF : Fr F s t) (h1 : QbS F = true) (h2 : qF F.2.2.1 109 18 = true) : GSE t := gse_fr h hF (by rw [h2, (b_and h1).2]; rfl)
theorem hsx_fr (h : HSX s H) (hF : Fr F s t) (hk : KQA F = true) : HSX t H := by
  obtain ⟨k1, hk⟩ := b_and hk
  obtain ⟨k2, hk⟩ := b_and hk
  obtain ⟨k3, hk⟩ := b_and hk
  obtain ⟨k4, hk⟩ := b_and hk
  obtain ⟨k5, hk⟩ := b_and hk
  obtain ⟨k6, hk⟩ := b_and hk
  obtain ⟨k7, k8⟩ := b_and hk
  obtain ⟨h1, h2, ⟨w1, w2, w3, w4, w5⟩, h4, h5, h6⟩ := h
  have e20 := fr_20 hF k2
  have e320 := fr_320 hF k3
  have e02 := fr_02 hF k5
  have e17 := fr_17 hF k5
  refine ⟨his_fr h1 hF k1, by rw [e20, gvC_cg hF k2]; exact h2, ⟨by rw [gvD_fr hF k3, e320]; exact w1, by rw [e320]; exact w2, by rw [e320, e20]; exact w3, by rw [e02, e17]; exact w4, ?_⟩, gse_f h4 hF k5 k6, tqd_fr h5 hF k7, ext_fr h6 hF k8 (fun _ _ => rfl) (by rw [e20]; exact Int.le_refl _)⟩
  rw [e17, e02, e320, gv1_fr hF k4]
  exact w5
theorem rel3_fr (h : REL3 s) (hF : Fr F s t) (hk : ((qF F.2.2.1 46 1 && qF F.2.2.1 109 22 && (qI F.1 47 && qI F.1 125)) && (qI F.1 3 && qI F.1 4 && qI F.1 5 && qI F.1 6 && qI F.1 7 && qI F.1 8 && qF F.2.2.1 2 1 && qF F.2.2.1 2 0) && (qI F.1 110 && qI F.1 111 && qI F.1 112 && qI F.1 113 && qI F.1 114 && qI F.1 115 && qI F.1 116 && qI F.1 117 && qF F.2.2.1 109 9) && (qI F.1 4 && qF F.2.2.1 2 3)) = true) (hk2 : KQA F = true) : REL3 t := by
  obtain ⟨h1, H, h2⟩ := h
  exact ⟨rel2_fr h1 hF hk, H, hsx_fr h2 hF hk2⟩
/-- a change on both sides: what stays -/
theorem hsx_m (hI : Inv s) (h : HSX s H) (hF : Fr F s t) (kk : KQF F = true) (hG : Fr G t u) (jj : KQG G = true) (hg : GSE t → GSE u) (h1 : G1S t u) (a1 : HIS u H2) (a2 : GEV (H2 (u.2.2.1 2 0).toInt.toNat) (gvC u)) (a3 : (s.2.2.1 2 0).toInt ≤ (u.2.2.1 2 0).toInt) (a4 : ∀ k : Nat, (k : Int) ≤ (s.2.2.1 2 0).toInt → H2 k = H k) : HSX u H2 := by
  obtain ⟨-, kk⟩ := b_and kk
  obtain ⟨k2, kk⟩ := b_and kk
  obtain ⟨k3, kk⟩ := b_and kk
  obtain ⟨k4, kk⟩ := b_and kk
  obtain ⟨k5, kk⟩ := b_and kk
  obtain ⟨k6, k7⟩ := b_and kk
  obtain ⟨j1, jj⟩ := b_and jj
  obtain ⟨-, jj⟩ := b_and jj
  obtain ⟨j3, jj⟩ := b_and jj
  obtain ⟨j4, jj⟩ := b_and jj
  obtain ⟨j5, j6⟩ := b_and jj
  obtain ⟨c1, c2, ⟨w1, w2, w3, w4, w5⟩, c4, c5, c6⟩ := h
  have k2' : QbR F = true := (b_and k2).1
  have hD : gvD u = gvD s := (gvD_fr hG j3).trans (gvD_fr hF k3)
  have e320 : u.2.2.1 32 0 = s.2.2.1 32 0 := (fr_320 hG j3).trans (fr_320 hF k3)
  have e02 : u.2.2.1 0 2 = s.2.2.1 0 2 := (fr_02 hG j4).trans (fr_02 hF k4)
  have e17 : u.2.2.1 109 17 = s.2.2.1 109 17 := (fr_17 hG j4).trans (fr_17 hF k4)
  have e20 : u.2.2.1 2 0 = t.2.2.1 2 0 := fr_20 hG j1
  have hn : In (t.1 110 1) 0 32 := by
    have e : t.1 110 = s.1 110 := by
      unfold QbR at k2'
      simp only [Bool.and_eq_true] at k2'
      exact hF.1 110 k2'.1.1.1.1.1.1.1
    rw [e]
    exact hI.2.2.2.2.2.2.1.2
  have h1v : ∀ x, GEV (gv1 u x) (gv1 s x) := fun x => by
    have q := g1_v (x := x) h1 hn
    rw [gv1_fr hF k2'] at q
    exact q
  refine ⟨a1, a2, ⟨?_, ?_, ?_, ?_, ?_⟩, hg (gse_f c4 hF k4 k5), tqd_fr (tqd_fr c5 hF k6) hG j5, ?_⟩
  · rw [hD, e320, a4 _ (by omega)]; exact w1
  · rw [e320]; exact w2
  · rw [e320]; omega
  · rw [e02, e17]; exact w4
  · rw [e17, e02, e320]
    intro z
    obtain ⟨b1, b2⟩ := w5 z
    refine ⟨b1, ?_⟩
    have e : (s.2.2.1 109 17).toInt = (s.2.2.1 32 0).toInt := by rw [← w4, b1]
    rw [a4 _ (by omega)]
    exact gev_t (h1v _) b2
  · exact ext_fr (ext_fr c6 hF k7 a4 (by rw [← e20]; exact a3)) hG j6 (fun _ _ => rfl) (by rw [e20]; exact Int.le_refl _)
def PFX (s t : GS) : Prop := ∀ k : Nat, (k : Int) < 7 * (s.2.2.1 2 0).toInt → t.1 30 k = s.1 30 k
theorem lgo_fr (hF : Fr F s t) (hq : QbL F = true) (h : LGO t u) : LGO s u := by
  unfold QbL at hq
  simp only [Bool.and_eq_true] at hq
  obtain ⟨⟨⟨⟨⟨⟨⟨q0, q1⟩, q2⟩, q3⟩, q4⟩, q5⟩, q6⟩, q9⟩ := hq
  intro k hk
  have a := h k (by rw [hF.2.2.1 109 9 q9]; exact hk)
  rw [hF.1 118 q0, hF.1 119 q1, hF.1 120 q2, hF.1 121 q3, hF.1 122 q4, hF.1 123 q5, hF.1 124 q6] at a
  exact a
theorem fr_9 (hF : Fr F s t) (hq : QbL F = true) : t.2.2.1 109 9 = s.2.2.1 109 9 := hF.2.2.1 109 9 (b_and hq).2
/-- what a row of the reference's log does -/
def RWQ (g : GVW) (w a b c d e f : Int32) : GVW := if w.toInt = 0 then gqN g g.2.2.2.2.2.2.1.toNat a else if w.toInt = 1 then gqA g a.toNatClampNeg b c d e f else if w.toInt = 2 then gqD g a.toNatClampNeg else if w.toInt = 3 then gqW g a.toNatClampNeg b c else gqL g a.toNatClampNeg b
/-- one change on both sides, or none -/
theorem hsx_x {w a b c d e f : Int32} (hI : Inv s) (hIt : Inv t) (hR : REL2 s) (h : HSX s H) (hF : Fr F s t) (kk : KQF F = true) (hp : PFX s t) (hC : gvC t = gvC s ∨ LGC s t) (hG : Fr G t u) (jj : KQG G = true) (hO : LGX t u w a b c d e f) (hg : GSE t → GSE u) (h1 : G1S t u) (hq : GEQ (gvC u) (gvR u)) (hT : gvR u = gvR t ∨ gvR u = RWQ (gvR t) w a b c d e f) : ∃ H2, HSX u H2 := by
  have main := fun H2 => hsx_m (H2 := H2) hI h hF kk hG jj hg h1
  obtain ⟨k1, kk⟩ := b_and kk
  obtain ⟨k2, kk⟩ := b_and kk
  obtain ⟨j1, jj⟩ := b_and jj
  obtain ⟨j2, jj⟩ := b_and jj
  obtain ⟨c1, c2, -⟩ := h
  have hgvC : gvC u = gvC t := gvC_cg hG j1
  have e30 : u.1 30 = t.1 30 := hG.1 30 j2
  have v0 := inv_F hI (z := s.2.2.1 2 0) 0 4000 rfl rfl
  have n0 := inv_F hI (z := s.2.2.1 2 1) 0 32 rfl rfl
  have n1 := inv_F hIt (z := t.2.2.1 2 1) 0 32 rfl rfl
  unfold In at v0 n0 n1
  have hc9 : (s.2.2.1 109 9).toInt = (s.2.2.1 2 0).toInt := (q_vr hR.2.2.1).symm
  have ec : (s.2.2.1 109 9).toNatClampNeg = (s.2.2.1 2 0).toInt.toNat := congrArg Int.toNat hc9
  have hOs : LGO s u := lgo_fr hF k1 (lgx_o hO)
  have vu : (u.2.2.1 2 0).toInt = (t.2.2.1 2 0).toInt := congrArg (fun g : GVW => g.2.2.2.2.2.2.2) hgvC
  rcases hC with hC | hC
  · have vs : (t.2.2.1 2 0).toInt = (s.2.2.1 2 0).toInt := congrArg (fun g : GVW => g.2.2.2.2.2.2.2) hC
    refine ⟨H, main H ⟨c1.1, fun k hk => ?_⟩ ?_ (by omega) (fun _ _ => rfl)⟩
    · rw [vu, vs] at hk
      obtain ⟨x1, x2, x3, x4⟩ := c1.2 k hk
      obtain ⟨p1, p2, p3⟩ := gqR_p (g := H k) (k := k) hp hk
      rw [e30, p1, p2, p3, gqT_o hOs (by omega)]
      exact ⟨x1, x2, x3, x4⟩
    · rw [vu, vs, hgvC, hC]; exact c2
  · have hv := lgc_v hC
    have v9 : (u.2.2.1 109 9).toInt = (s.2.2.1 2 0).toInt + 1 := by
      have z := q_vr hq
      omega
    have e9 := fr_9 hF k1
    have hne : u.2.2.1 109 9 ≠ t.2.2.1 109 9 := fun z => by rw [z, e9] at v9; omega
    have hgt : gvR u = gqT (gvR t) u (t.2.2.1 109 9).toNatClampNeg := by
      rw [lgx_t hO hne]
      rcases hT with hT | hT
      · exfalso
        have z : (u.2.2.1 109 9).toInt = (t.2.2.1 109 9).toInt := congrArg (fun g : GVW => g.2.2.2.2.2.2.2) hT
        exact hne (i_eq.mpr z)
      · exact hT
    have hgR : gvR t = gvR s := gvR_cg hF k2
    refine ⟨_, main (fun k => if k ≤ (s.2.2.1 2 0).toInt.toNat then H k else gvC t) (his_x c1 c2 v0.1 n0.1 hC hv e30 (i_eq.mpr vu) hc9 hOs ?_) ?_ (by omega) (fun k hk => if_pos (by omega))⟩
    · rw [e9, hgR] at hgt
      have q1 : GEQ (gvC t) (gvR u) := by rw [← hgvC]; exact hq
      rw [hgt] at q1
      exact gev_q (geq_t q1 (geq_T (geq_s hR.2.2.1))) n1.2
    · show GEV (if (u.2.2.1 2 0).toInt.toNat ≤ (s.2.2.1 2 0).toInt.toNat then H _ else gvC t) (gvC u)
      rw [if_neg (by omega), hgvC]
      exact gev_r
/-- what the graphs of a text have of nodes -/
theorem opC_n {g : GVW} {c : Int} {V : Nat → Int} : g.2.2.2.2.2.2.1 ≤ (opC g c V).2.2.2.2.2.2.1 := by
  unfold opC
  split
  · show g.2.2.2.2.2.2.1 ≤ g.2.2.2.2.2.2.1 + 1
    omega
  · split
    · exact Int.le_refl _
    · split
      · exact Int.le_refl _
      · exact Int.le_refl _
theorem lrn_n {T : Nat → Int32} {n : Nat} {g0 : GVW} : ∀ (k : Nat) {a : Nat} {g : GVW}, LRN T n g0 k a g → g0.2.2.2.2.2.2.1 ≤ g.2.2.2.2.2.2.1
  | 0, a, g, h => by rw [h.2]; exact Int.le_refl _
  | k + 1, a, g, h => by
    obtain ⟨a0, g1, p, c, V, h1, -, -, h4⟩ := h
    rw [h4]
    exact Int.le_trans (lrn_n k h1) opC_n
theorem gvn_32 {T : Nat → Int32} {n : Nat} {g0 : GVW} : ∀ (k : Nat) {a : Nat} {g : GVW}, g0.2.2.2.2.2.2.1 ≤ 32 → LRN T n g0 k a g → g.2.2.2.2.2.2.1 ≤ 32
  | 0, a, g, h0, h => by rw [h.2]; exact h0
  | k + 1, a, g, h0, h => by
    obtain ⟨a0, g1, p, c, V, h1, -, h3, h4⟩ := h
    have i := gvn_32 k h0 h1
    rw [h4]
    unfold opC
    split
    · rename_i hc
      have q := h3.2.1 hc
      show g1.2.2.2.2.2.2.1 + 1 ≤ 32
      omega
    · split
      · exact i
      · split
        · exact i
        · exact i
/-- a text carried out on both sides, or none of it -/
theorem hsx_l {z : Int32} (hI : Inv s) (hIt : Inv t) (hR : REL2 s) (h : HSX s H) (hF : Fr F s t) (kk : KQF F = true) (hz : -4 ≤ z.toInt ∧ (z.toInt < 0 → z.toInt = -4)) (hC : LCO s t z) (hB : z.toInt = -4 → GEQ (gvC t) (gvC s)) (hG : Fr G t u) (jj : KQG G = true) (hO : LDO t u z) (h1 : G1S t u) (hq : GEQ (gvC u) (gvR u)) (t125 : t.1 125 = s.1 125) (t22 : t.2.2.1 109 22 = s.2.2.1 109 22) : ∃ H2, HSX u H2 := by
  have main := fun H2 => hsx_m (H2 := H2) hI h hF kk hG jj
  obtain ⟨k1, kk⟩ := b_and kk
  obtain ⟨k2, kk⟩ := b_and kk
  obtain ⟨j1, jj⟩ := b_and jj
  obtain ⟨j2, jj⟩ := b_and jj
  obtain ⟨c1, c2, -⟩ := h
  have hgvC : gvC u = gvC t := gvC_cg hG j1
  have e30 : u.1 30 = t.1 30 := hG.1 30 j2
  have v0 := inv_F hI (z := s.2.2.1 2 0) 0 4000 rfl rfl
  have n0 := inv_F hI (z := s.2.2.1 2 1) 0 32 rfl rfl
  have n1 := inv_F hIt (z := t.2.2.1 2 1) 0 32 rfl rfl
  unfold In at v0 n0 n1
  have hc9 : (s.2.2.1 109 9).toInt = (s.2.2.1 2 0).toInt := (q_vr hR.2.2.1).symm
  have ec : (s.2.2.1 109 9).toNatClampNeg = (s.2.2.1 2 0).toInt.toNat := congrArg Int.toNat hc9
  have e9 := fr_9 hF k1
  have vu : (u.2.2.1 2 0).toInt = (t.2.2.1 2 0).toInt := congrArg (fun g : GVW => g.2.2.2.2.2.2.2) hgvC
  by_cases q : z.toInt = -4
  · have hp := hC.2 q
    have hL := hO.2 q
    have hb := hB q
    have vs : (t.2.2.1 2 0).toInt = (s.2.2.1 2 0).toInt := hb.2.2.2.2.2.2.2
    have hOs : LGO s u := lgo_fr hF k1 (fun k _ => by
      obtain ⟨⟨r0, r1, r2, r3, r4, r5, r6⟩, -⟩ := hL
      rw [r0, r1, r2, r3, r4, r5, r6]
      exact ⟨rfl, rfl, rfl, rfl, rfl, rfl, rfl⟩)
    refine ⟨H, main H hL.2.2 h1 ⟨c1.1, fun k hk => ?_⟩ ?_ (by omega) (fun _ _ => rfl)⟩
    · rw [vu, vs] at hk
      obtain ⟨x1, x2, x3, x4⟩ := c1.2 k hk
      obtain ⟨p1, p2, p3⟩ := gqR_p (g := H k) (k := k) hp hk
      rw [e30, p1, p2, p3, gqT_o hOs (by omega)]
      exact ⟨x1, x2, x3, x4⟩
    · rw [vu, vs, hgvC]
      exact gev_t c2 (gev_s (gev_q hb n1.2))
  · obtain ⟨G0, a1, a2, a3, a4, a5⟩ := hC.1 q
    obtain ⟨⟨b1, b2, b3, b4⟩, b5, b6⟩ := hO.1 q
    have hz0 : 0 ≤ z.toInt := by
      obtain ⟨z1, z2⟩ := hz
      omega
    have ez : z.toNatClampNeg = z.toInt.toNat := rfl
    have hOs : LGO s u := lgo_fr hF k1 b1
    have hgR : gvR t = gvR s := gvR_cg hF k2
    have htx := hR.2.1
    have hrl : s.2.2.1 46 1 = s.2.2.1 109 22 := hR.1
    have g0 : G0 0 = gvC s := by
      obtain ⟨a, hl⟩ := a1 0 (Nat.zero_le _)
      exact hl.2
    have ge : ∀ j, j ≤ z.toInt.toNat → GEQ (G0 j) (opF (gvR t) (u.1 127) (u.1 128) j) := by
      intro j hj
      obtain ⟨a, hl⟩ := a1 j hj
      obtain ⟨a', hl2⟩ := b5 j (by omega)
      rw [t125, t22, hgR, ← hrl] at hl2
      rw [hgR]
      exact (lrn_u htx hR.2.2.1 j hl hl2).2
    have gn : ∀ j, j ≤ z.toInt.toNat → 0 ≤ (G0 j).2.2.2.2.2.2.1 ∧ (G0 j).2.2.2.2.2.2.1 ≤ 32 := by
      intro j hj
      obtain ⟨a, hl⟩ := a1 j hj
      have x1 := lrn_n j hl
      have x2 := gvn_32 j (show (gvC s).2.2.2.2.2.2.1 ≤ 32 from n0.2) hl
      have x3 : (gvC s).2.2.2.2.2.2.1 = (s.2.2.1 2 1).toInt := rfl
      exact ⟨by omega, x2⟩
    have ve : (u.2.2.1 2 0).toInt.toNat = (s.2.2.1 2 0).toInt.toNat + z.toInt.toNat := by omega
    have HH : ∀ k, (if k ≤ (s.2.2.1 2 0).toInt.toNat then H k else G0 (k - (s.2.2.1 2 0).toInt.toNat)) = (if k ≤ (s.2.2.1 2 0).toInt.toNat then H k else G0 (k - (s.2.2.1 2 0).toInt.toNat)) := fun _ => rfl
    have hx : ∀ k, (s.2.2.1 2 0).toInt.toNat ≤ k → GEV (if k ≤ (s.2.2.1 2 0).toInt.toNat then H k else G0 (k - (s.2.2.1 2 0).toInt.toNat)) (G0 (k - (s.2.2.1 2 0).toInt.toNat)) := by
      intro k hk
      by_cases c : k ≤ (s.2.2.1 2 0).toInt.toNat
      · rw [if_pos c]
        have e : k = (s.2.2.1 2 0).toInt.toNat := by omega
        rw [e, Nat.sub_self, g0]
        exact c2
      · rw [if_neg c]; exact gev_r
    refine ⟨_, main (fun k => if k ≤ (s.2.2.1 2 0).toInt.toNat then H k else G0 (k - (s.2.2.1 2 0).toInt.toNat)) b4 h1 ⟨?_, fun k hk => ?_⟩ ?_ (by omega) (fun k hk => if_pos (by omega))⟩
    · show GE0 (if 0 ≤ (s.2.2.1 2 0).toInt.toNat then H 0 else G0 (0 - (s.2.2.1 2 0).toInt.toNat))
      rw [if_pos (Nat.zero_le _)]
      exact c1.1
    · rw [vu, a4] at hk
      show GEV (if k + 1 ≤ (s.2.2.1 2 0).toInt.toNat then H (k + 1) else G0 (k + 1 - (s.2.2.1 2 0).toInt.toNat)) (gqR (if k ≤ (s.2.2.1 2 0).toInt.toNat then H k else G0 (k - (s.2.2.1 2 0).toInt.toNat)) (u.1 30) k) ∧ (_ → _ = (if k ≤ (s.2.2.1 2 0).toInt.toNat then H k else G0 (k - (s.2.2.1 2 0).toInt.toNat)).2.2.2.2.2.2.1) ∧ GEV (if k + 1 ≤ (s.2.2.1 2 0).toInt.toNat then H (k + 1) else G0 (k + 1 - (s.2.2.1 2 0).toInt.toNat)) (gqT (if k ≤ (s.2.2.1 2 0).toInt.toNat then H k else G0 (k - (s.2.2.1 2 0).toInt.toNat)) u k) ∧ 0 ≤ (if k ≤ (s.2.2.1 2 0).toInt.toNat then H k else G0 (k - (s.2.2.1 2 0).toInt.toNat)).2.2.2.2.2.2.1
      by_cases c : k + 1 ≤ (s.2.2.1 2 0).toInt.toNat
      · rw [if_pos c, if_pos (show k ≤ (s.2.2.1 2 0).toInt.toNat by omega), e30]
        obtain ⟨x1, x2, x3, x4⟩ := c1.2 k (by omega)
        obtain ⟨p1, p2, p3⟩ := gqR_p (g := H k) (k := k) a3 (by omega)
        rw [p1, p2, p3, gqT_o hOs (by omega)]
        exact ⟨x1, x2, x3, x4⟩
      · rw [if_neg c]
        have hxk := hx k (by omega)
        obtain ⟨j, hj⟩ : ∃ j, k = (s.2.2.1 2 0).toInt.toNat + j := ⟨k - (s.2.2.1 2 0).toInt.toNat, by omega⟩
        have ej : k - (s.2.2.1 2 0).toInt.toNat = j := by omega
        have ej1 : k + 1 - (s.2.2.1 2 0).toInt.toNat = j + 1 := by omega
        have hjz : j < z.toInt.toNat := by omega
        obtain ⟨y1, y2⟩ := a5 j hjz
        rw [← hj] at y1 y2
        rw [ej] at hxk ⊢
        rw [ej1, e30]
        have hn := hxk.2.2.2.1
        obtain ⟨m0, m1⟩ := gn j (by omega)
        refine ⟨?_, fun w => by rw [hn]; exact y2 w, ?_, by rw [hn]; exact m0⟩
        · have r := gev_R (r := t.1 30) (k := k) (gev_s hxk) (fun w => y2 w)
          rw [y1] at r
          exact r
        · have r := gev_T (s := u) (k := k) (gev_s hxk) m0
          refine gev_t ?_ r
          have y := b3 j (by omega)
          have ech : (t.2.2.1 109 9).toNatClampNeg + j = k := by rw [e9, ec]; exact hj.symm
          rw [ech] at y
          have g1 := ge (j + 1) (by omega)
          have g2 := geq_T (s := u) (k := k) (ge j (by omega))
          have g3 := geq_t g1 (geq_t (geq_s y) (geq_s g2))
          exact gev_q g3 (gn (j + 1) (by omega)).2
    · show GEV (if (u.2.2.1 2 0).toInt.toNat ≤ (s.2.2.1 2 0).toInt.toNat then H (u.2.2.1 2 0).toInt.toNat else G0 ((u.2.2.1 2 0).toInt.toNat - (s.2.2.1 2 0).toInt.toNat)) (gvC u)
      have r := hx (u.2.2.1 2 0).toInt.toNat (by omega)
      rw [show (u.2.2.1 2 0).toInt.toNat - (s.2.2.1 2 0).toInt.toNat = z.toInt.toNat by omega, a2.trans hgvC.symm] at r
      rw [show (u.2.2.1 2 0).toInt.toNat - (s.2.2.1 2 0).toInt.toNat = z.toInt.toNat by omega, a2.trans hgvC.symm]
      exact r
/-- a view on both sides -/
def KVF (L : FM) : Bool := QbH L && (QbC L && (QbR L && (qF L.2.2.1 109 17 && (qF L.2.2.1 109 18 && (qF L.2.2.1 109 9 && EXQ L)))))
def KVG (L : FM) : Bool := QbH L && (QbC L && (QbD L && (qF L.2.2.1 0 2 && (QbT L && EXQ L))))
theorem hsx_v {x c : Int32} (hR : REL2 s) (h : HSX s H) (hF : Fr F s t) (kk : KVF F = true) (hV : (c.toInt = 1 ∧ Fr ([], [195], [], []) s t) ∨ (c.toInt = 0 ∧ (-1 ≤ x.toInt ∧ x.toInt ≤ (s.2.2.1 2 0).toInt) ∧ VWD s t x ∧ (TQD s → TQD t))) (hG : Fr G t u) (jj : KVG G = true) (hW : VW1 t u x) (hg : GSE t → GSE u) (hc : (u.2.2.1 109 0).toInt = c.toInt) : HSX u H := by
  obtain ⟨k1, kk⟩ := b_and kk
  obtain ⟨k2, kk⟩ := b_and kk
  obtain ⟨k3, kk⟩ := b_and kk
  obtain ⟨k4, kk⟩ := b_and kk
  obtain ⟨k5, kk⟩ := b_and kk
  obtain ⟨k6, k7⟩ := b_and kk
  obtain ⟨j1, jj⟩ := b_and jj
  obtain ⟨j2, jj⟩ := b_and jj
  obtain ⟨j3, jj⟩ := b_and jj
  obtain ⟨j4, jj⟩ := b_and jj
  obtain ⟨j5, j6⟩ := b_and jj
  have hh := h
  obtain ⟨c1, c2, ⟨w1, w2, w3, w4, w5⟩, c4, c5, c6⟩ := h
  have hT := his_fr c1 hF k1
  have hU := his_fr hT hG j1
  have e20 : t.2.2.1 2 0 = s.2.2.1 2 0 := fr_20 hF k2
  have e21 : u.2.2.1 2 0 = t.2.2.1 2 0 := fr_20 hG j2
  have gC : gvC u = gvC s := (gvC_cg hG j2).trans (gvC_cg hF k2)
  have gD : gvD u = gvD t := gvD_fr hG j3
  have e32 : u.2.2.1 32 0 = t.2.2.1 32 0 := fr_320 hG j3
  have e02 : u.2.2.1 0 2 = t.2.2.1 0 2 := hG.2.2.1 0 2 j4
  have e17 : t.2.2.1 109 17 = s.2.2.1 109 17 := hF.2.2.1 109 17 k4
  have gs : GSE u := hg (gse_fr c4 hF (by rw [k4, k5]; rfl))
  have ex : EXK u H := ext_fr (ext_fr c6 hF k7 (fun _ _ => rfl) (by rw [e20]; exact Int.le_refl _)) hG j6 (fun _ _ => rfl) (by rw [e21]; exact Int.le_refl _)
  have a2 : GEV (H (u.2.2.1 2 0).toInt.toNat) (gvC u) := by rw [e21, e20, gC]; exact c2
  rcases hV with ⟨d1, d2⟩ | ⟨d1, d2, d3, d4⟩
  · obtain ⟨r1, r2⟩ := hW.2 (by omega)
    have f32 : t.2.2.1 32 0 = s.2.2.1 32 0 := d2.2.2.1 32 0 rfl
    have f02 : t.2.2.1 0 2 = s.2.2.1 0 2 := d2.2.2.1 0 2 rfl
    refine ⟨hU, a2, ⟨by rw [gD, e32, f32, gvD_fr d2 rfl]; exact w1, by rw [e32, f32]; exact w2, by rw [e32, f32, e21, e20]; exact w3, by rw [e02, f02, r2, e17]; exact w4, ?_⟩, gs, tqd_fr (tqd_fr c5 d2 rfl) hG j5, ex⟩
    rw [r2, e17, e02, f02, e32, f32]
    intro q
    refine ⟨(w5 q).1, ?_⟩
    have e : gv1 u (s.2.2.1 109 17).toInt = gv1 s (s.2.2.1 109 17).toInt := by
      rw [← gv1_fr d2 (show QbR ([], [195], [], []) = true from rfl)]
      unfold gv1
      rw [r1]
    rw [e]
    exact (w5 q).2
  · obtain ⟨r1, r2⟩ := hW.1 (by omega)
    obtain ⟨v1, v2, v3⟩ := d3
    by_cases q : x.toInt < 0
    · have gd := v2 q
      have f32 : (t.2.2.1 32 0).toInt = (s.2.2.1 32 0).toInt := congrArg (fun g : GVW => g.2.2.2.2.2.2.2) gd
      refine ⟨hU, a2, ⟨by rw [gD, e32, gd, f32]; exact w1, by rw [e32, f32]; exact w2, by rw [e32, f32, e21, e20]; exact w3, by rw [e02, v1, r1], ?_⟩, gs, tqd_fr (d4 c5) hG j5, ex⟩
      rw [r1]
      intro q2
      omega
    · obtain ⟨v4, v5⟩ := v3 (by omega)
      have g1 := v4 H c1 w1
      refine ⟨hU, a2, ⟨by rw [gD, e32, v5]; exact g1, by rw [e32, v5]; omega, by rw [e32, v5, e21, e20]; omega, by rw [e02, v1, r1], ?_⟩, gs, tqd_fr (d4 c5) hG j5, ex⟩
      rw [r1]
      intro q2
      refine ⟨by rw [e02, v1, e32, v5], ?_⟩
      refine r2 q2 H hT ?_
      rw [hF.2.2.1 109 9 k6, e20]
      exact (q_vr hR.2.2.1).symm
end HSX
/-! both sides show the same -/
theorem gvG_0 {s : GS} : gvG s 0 = gvR s := by
  unfold gvG gvR
  simp only [Nat.mul_zero, Nat.zero_add]
theorem gvG_1 {s : GS} : gvG s 1 = gv1 s (s.2.2.1 109 9).toInt := by
  unfold gvG gv1
  simp only [Nat.mul_one]
theorem gew_1 {g : GVW} {s : GS} {x y : Int} (k : GEW g (gv1 s x)) : GEW g (gv1 s y) := ⟨k.1, k.2.1, k.2.2.1, k.2.2.2⟩
theorem rel3_sh {s : GS} (hI : Inv s) (h : REL3 s) : GEW (shC s) (gvG s (s.2.2.1 109 18).toNatClampNeg) := by
  obtain ⟨h1, H, c1, c2, ⟨w1, w2, w3, w4, w5⟩, c4, c5, c6⟩ := h
  have n0 := inv_F hI (z := s.2.2.1 2 1) 0 32 rfl rfl
  have r := inv_F hI (z := s.2.2.1 109 17) (-1) 4000 rfl rfl
  unfold In at n0 r
  unfold GSE at c4
  have eg : (s.2.2.1 109 18).toNatClampNeg = (s.2.2.1 109 18).toInt.toNat := rfl
  by_cases q : (s.2.2.1 109 17).toInt < 0
  · rw [if_pos q] at c4
    rw [eg, c4, shC_n (by rw [w4]; omega)]
    show GEW (gvC s) (gvG s 0)
    rw [gvG_0]
    exact gew_v (gev_q h1.2.2.1 n0.2)
  · rw [if_neg q] at c4
    obtain ⟨b1, b2⟩ := w5 (by omega)
    rw [eg, c4, shC_d (by rw [w4]; omega)]
    have e : (s.2.2.1 109 17).toInt = (s.2.2.1 32 0).toInt := by rw [← w4, b1]
    rw [← e] at w1
    have k := gew_v (gev_t w1 (gev_s b2))
    show GEW (gvD s) (gvG s 1)
    rw [gvG_1]
    exact gew_1 k
theorem shC_fr {s t : GS} {F : FM} (hF : Fr F s t) (hk : KQA F = true) : shC t = shC s := by
  obtain ⟨k1, hk⟩ := b_and hk
  obtain ⟨k2, hk⟩ := b_and hk
  obtain ⟨k3, hk⟩ := b_and hk
  obtain ⟨k4, hk⟩ := b_and hk
  obtain ⟨k5, hk⟩ := b_and hk
  unfold shC
  rw [gvC_cg hF k2, gvD_fr hF k3, fr_02 hF k5]
theorem shC_0 {s : GS} (hI : Inv s) : 0 ≤ (shC s).2.2.2.2.2.2.1 := by
  have a := inv_F hI (z := s.2.2.1 2 1) 0 32 rfl rfl
  have b := inv_F hI (z := s.2.2.1 32 1) 0 32 rfl rfl
  unfold shC
  split
  · exact a.1
  · exact b.1
/-- without what else the row keeps -/
def HSY (s : GS) (H : Nat → GVW) : Prop := HIS s H ∧ GEV (H (s.2.2.1 2 0).toInt.toNat) (gvC s) ∧ SHW s H ∧ GSE s ∧ TQD s
def KQB (L : FM) : Bool := QbH L && (QbC L && (QbD L && (QbR L && (QbS L && (qF L.2.2.1 109 18 && QbT L)))))
theorem hsy_of {s : GS} {H : Nat → GVW} (h : HSX s H) : HSY s H := ⟨h.1, h.2.1, h.2.2.1, h.2.2.2.1, h.2.2.2.2.1⟩
theorem hsx_of {s : GS} {H : Nat → GVW} (h : HSY s H) (e : EXK s H) : HSX s H := ⟨h.1, h.2.1, h.2.2.1, h.2.2.2.1, h.2.2.2.2, e⟩
theorem hsy_fr {s t : GS} {F : FM} {H : Nat → GVW} (h : HSY s H) (hF : Fr F s t) (hk : KQB F = true) : HSY t H := by
  obtain ⟨k1, hk⟩ := b_and hk
  obtain ⟨k2, hk⟩ := b_and hk
  obtain ⟨k3, hk⟩ := b_and hk
  obtain ⟨k4, hk⟩ := b_and hk
  obtain ⟨k5, hk⟩ := b_and hk
  obtain ⟨k6, k7⟩ := b_and hk
  obtain ⟨h1, h2, ⟨w1, w2, w3, w4, w5⟩, h4, h5⟩ := h
  have e20 := fr_20 hF k2
  have e320 := fr_320 hF k3
  have e02 := fr_02 hF k5
  have e17 := fr_17 hF k5
  refine ⟨his_fr h1 hF k1, by rw [e20, gvC_cg hF k2]; exact h2, ⟨by rw [gvD_fr hF k3, e320]; exact w1, by rw [e320]; exact w2, by rw [e320, e20]; exact w3, by rw [e02, e17]; exact w4, ?_⟩, gse_f h4 hF k5 k6, tqd_fr h5 hF k7⟩
  rw [e17, e02, e320, gv1_fr hF k4]
  exact w5
def QbG (L : FM) : Bool := qI L.1 110 && (qI L.1 111 && (qI L.1 112 && (qI L.1 113 && (qI L.1 114 && (qI L.1 115 && (qI L.1 116 && (qI L.1 117 && (qF L.2.2.1 109 9 && qF L.2.2.1 109 18))))))))
theorem gvG_fr {s t : GS} {F : FM} (hF : Fr F s t) (hk : QbG F = true) : gvG t (t.2.2.1 109 18).toNatClampNeg = gvG s (s.2.2.1 109 18).toNatClampNeg := by
  simp only [QbG, Bool.and_eq_true] at hk
  obtain ⟨q0, q1, q2, q3, q4, q5, q6, q7, q8, q9⟩ := hk
  unfold gvG
  rw [hF.1 110 q0, hF.1 111 q1, hF.1 112 q2, hF.1 113 q3, hF.1 114 q4, hF.1 115 q5, hF.1 116 q6, hF.1 117 q7, hF.2.2.1 109 9 q8, hF.2.2.1 109 18 q9]
theorem shC_fb {s t : GS} {F : FM} (hF : Fr F s t) (hk : KQB F = true) : shC t = shC s := by
  obtain ⟨k1, hk⟩ := b_and hk
  obtain ⟨k2, hk⟩ := b_and hk
  obtain ⟨k3, hk⟩ := b_and hk
  obtain ⟨k4, hk⟩ := b_and hk
  obtain ⟨k5, hk⟩ := b_and hk
  unfold shC
  rw [gvC_cg hF k2, gvD_fr hF k3, fr_02 hF k5]
/-- what is shown is a graph of the history -/
theorem hsx_sh {s : GS} {H : Nat → GVW} (h : HSY s H) (hI : Inv s) : GEV (H (shC s).2.2.2.2.2.2.2.toNat) (shC s) ∧ 0 ≤ (shC s).2.2.2.2.2.2.2 ∧ (shC s).2.2.2.2.2.2.2 ≤ (s.2.2.1 2 0).toInt := by
  obtain ⟨-, h2, ⟨w1, w2, w3, -⟩, -⟩ := h
  have a := inv_F hI (z := s.2.2.1 2 0) 0 4000 rfl rfl
  unfold shC
  split
  · exact ⟨h2, a.1, Int.le_refl _⟩
  · exact ⟨gev_s w1, w2, w3⟩
/-- what a query answers on both sides: refused (1) or not (0) -/
def QRS (c : Int32) (P R : Prop) : Prop := (c.toInt = 1 ∧ ¬ P) ∨ (c.toInt = 0 ∧ P ∧ R)
theorem qrs_meet {c d : Int32} {P R P2 R2 E : Prop} (hP : P ↔ P2) (h1 : QRS c P R) (h2 : QRS d P2 R2) (hE : P → R → R2 → E) : d.toInt = c.toInt ∧ (c.toInt = 0 → E) := by
  rcases h1 with ⟨a1, a2⟩ | ⟨a1, a2, a3⟩ <;> rcases h2 with ⟨b1, b2⟩ | ⟨b1, b2, b3⟩
  · exact ⟨by omega, fun z => by omega⟩
  · exact absurd (hP.mpr b2) a2
  · exact absurd (hP.mp a2) b2
  · exact ⟨by omega, fun _ => hE a2 a3 b3⟩
theorem l_eq' {x y : Int64} (h : x.toInt = y.toInt) : x = y := Int64.toInt_inj.mp h
theorem m_told {s t : GS} {c : Int32} {z z2 : Int64} {x y : Int32} (hI : Inv s) (hR : REL3 s) (h1 : QRS c (In x 0 159 ∧ In y 0 4) (z.toInt = TLV (shC s) x.toNatClampNeg y.toInt)) (h2 : TLR s t x y z2) : (t.2.2.1 109 0).toInt = c.toInt ∧ (c.toInt = 0 → z = z2) := by
  refine qrs_meet Iff.rfl h1 h2 (fun p r r2 => l_eq' ?_)
  rw [r, r2]
  refine tlv_e (rel3_sh hI hR) ?_
  have a := p.1.1
  have b := p.1.2
  show x.toInt.toNat < 160
  omega
theorem m_labelOf {s t : GS} {c z z2 x : Int32} (hI : Inv s) (hR : REL3 s) (h1 : QRS c (0 ≤ x.toInt ∧ x.toInt < (shC s).2.2.2.2.2.2.1) (z = (shC s).1 x.toNatClampNeg)) (h2 : LBR s t x z2) : (t.2.2.1 109 0).toInt = c.toInt ∧ (c.toInt = 0 → z = z2) := by
  have q := rel3_sh hI hR
  have en : (shC s).2.2.2.2.2.2.1 = (s.2.2.1 109 20).toInt := by
    rw [q.2.2.2]
    have k : s.2.2.1 109 20 = s.1 110 (s.2.2.1 109 18).toNatClampNeg := hI.2.2.2.2.2.2.2.2.2.2
    rw [k]
    rfl
  refine qrs_meet (by rw [en]) h1 h2 (fun p r r2 => ?_)
  rw [r, r2]
  refine q.1 _ ?_
  have a := p.1
  have b := p.2
  show ((x.toInt.toNat : Nat) : Int) < _
  omega
/-! the law's wrappers of the changes, with the log -/
noncomputable def WFq (Z : AmZ) (A : Nat → Nat) (L : FM) (s : GS) (P Q : Prop) (R : GS → Int32 → Prop) : AmR := fun v u => ∃ (c : Int32) (A2 : Nat → Nat) (t : GS) (z : Int32), v = some (.int c) ∧ u = WW Z A2 t ++ [] ∧ A2 0 = A 0 ∧ A2 109 = A 109 ∧ A2 195 = A 195 ∧ Inv t ∧ Fr (L.1, 195 :: L.2.1, L.2.2) s t ∧ KL t ∧ TQ t ∧ CDK c P Q (gvC t = gvC s) (R t z) ∧ (c.toInt = 0 → t.2.1 195 0 = z.toInt64) ∧ PFX s t ∧ (gvC t = gvC s ∨ LGC s t)

theorem wq_1 {Z : AmZ} {A : Nat → Nat} {s : GS} {x1 : Int32} (hI : Inv s) (q : KL s) (hT : TQ s) : WC Z 1300 1 [.ref (A 0), .int x1, .ref (A 195)] (WW Z A s ++ []) 4 28018 (WFq Z A fm_212_0 s (In x1 0 25) ((s.2.2.1 2 1).toInt ≤ 31 ∧ (s.2.2.1 2 0).toInt ≤ 3999) (fun t z => z.toInt = (s.2.2.1 2 1).toInt ∧ gvC t = gqN (gvC s) (s.2.2.1 2 1).toNatClampNeg x1)) := by
  intro post hP xp
  refine w_enter (k := 1) (d := 1299) (N := 60) rfl (Nat.le_of_ble_eq_true rfl) ?_
  refine g_aload_n 1 (gd rfl) rfl rfl ?_
  refine g_iconst 0 2 (gd rfl) rfl rfl ?_
  refine g_aload_n 3 (gd rfl) rfl rfl ?_
  refine g_iload_n 4 (gd rfl) rfl rfl ?_
  refine g_callvH (As := [.int x1]) (r := [.int (Int32.ofInt 0), .ref (A 195)]) (b := A 0) (q := 0) 7 (gd rfl) rfl rfl rfl rfl rfl rfl (ww_o rfl) (Nat.le_of_ble_eq_true rfl) (Nat.le_refl _) (Nat.le_refl _) (f_212_0 (by omega) hI rfl rfl rfl q) (fun e u h => ?_) (fun v u h => ?_)
  · obtain ⟨he, t, hI2, hF2, rfl⟩ := h
    have hg : gvC t = gvC s := gvC_cg hF2 rfl
    have hpf : PFX s t := fun k _ => by rw [hF2.1 30 rfl]
    rcases he with ⟨rfl, hn⟩ | ⟨rfl, hn⟩
    · refine ⟨0, 12, by decide, rfl, rfl, fun a => ?_⟩
      refine g_astore_n 13 (gd rfl) rfl (Nat.le_of_ble_eq_true rfl) ?_
      refine g_iconst 1 14 (gd rfl) rfl rfl ?_
      exact g_ireturn (gd rfl) rfl rfl (hP _ _ ⟨_, A, t, Int32.ofInt 0, rfl, rfl, rfl, rfl, rfl, hI2, fr_195' (fr_up hF2), kl_fr q hF2 rfl, tq_fr hT hF2 rfl, Or.inl ⟨rfl, hn, hg⟩, fun z => absurd z (by decide), hpf, Or.inl hg⟩)
    · refine ⟨1, 15, by decide, rfl, rfl, fun a => ?_⟩
      refine g_astore_n 16 (gd rfl) rfl (Nat.le_of_ble_eq_true rfl) ?_
      refine g_iconst 2 17 (gd rfl) rfl rfl ?_
      exact g_ireturn (gd rfl) rfl rfl (hP _ _ ⟨_, A, t, Int32.ofInt 0, rfl, rfl, rfl, rfl, rfl, hI2, fr_195' (fr_up hF2), kl_fr q hF2 rfl, tq_fr hT hF2 rfl, Or.inr (Or.inl ⟨rfl, hn.1, hn.2, hg⟩), fun z => absurd z (by decide), hpf, Or.inl hg⟩)
  · obtain ⟨a, t, hI2, hF2, z, rfl, rfl, iz, hK2, ⟨g1, g2, g3, g4, g5⟩, hTT, hpf, hrw⟩ := h
    show GG _ _ _ _ _ _ _ _ [.int z, .int (Int32.ofInt 0), .ref (A 195)] _ _ _
    refine g_i2l 8 (gd rfl) rfl (fun z7 e7 => ?_)
    refine g_ouS (A := (ax A 30 a)) 9 (gd rfl) rfl ?_
    refine g_goto 18 (gd rfl) rfl ?_
    refine g_iconst 0 19 (gd rfl) rfl rfl ?_
    have hlg : gvC t = gvC s ∨ LGC s t := Or.inr (lgc_n hpf g5 hrw (inv_F hI (z := s.2.2.1 2 1) 0 32 rfl rfl).1)
    refine g_ireturn (gd rfl) rfl rfl (hP _ _ ⟨_, (ax A 30 a), sL t 195 0 z7, z, rfl, rfl, (ax_ne (by decide)), (ax_ne (by decide)), (ax_ne (by decide)), inv_195 hI2, fr_195 hF2, kl_195 hK2, tq_cg (hTT hT) rfl rfl, Or.inr (Or.inr ⟨rfl, g1, ⟨g2, g3⟩, ⟨g4, g5⟩⟩), fun _ => ?_, hpf, hlg⟩)
    show (if 195 = 195 then vp_updL (t.2.1 195) 0 z7 else t.2.1 195) 0 = z.toInt64
    rw [if_pos rfl, ← e7]
    exact if_pos rfl

theorem wq_2 {Z : AmZ} {A : Nat → Nat} {s : GS} {x1 : Int32} {x2 : Int32} {x3 : Int32} {x4 : Int32} {x5 : Int32} (hI : Inv s) (q : KL s) (hT : TQ s) : WC Z 1300 2 [.ref (A 0), .int x1, .int x2, .int x3, .int x4, .int x5, .ref (A 195)] (WW Z A s ++ []) 4 28018 (WFq Z A fm_213_0 s (HNC s x1 ∧ HNC s x2 ∧ In x3 (-1000000) 1000000 ∧ In x4 0 1000000 ∧ In x5 0 25) ((s.2.2.1 2 0).toInt ≤ 3999) (fun t z => (z.toInt = -3 → gvC t = gvC s ∧ fpl (ctg (s.1 4)) = 160) ∧ (z.toInt ≠ -3 → gvC t = gqA (gvC s) z.toNatClampNeg x1 x2 x3 x4 x5 ∧ fpl (ctg (s.1 4)) = z.toNatClampNeg ∧ 0 ≤ z.toInt) ∧ In z (-3) 159)) := by
  intro post hP xp
  refine w_enter (k := 2) (d := 1299) (N := 60) rfl (Nat.le_of_ble_eq_true rfl) ?_
  refine g_aload 2 (gd rfl) rfl rfl ?_
  refine g_iconst 0 3 (gd rfl) rfl rfl ?_
  refine g_aload_n 4 (gd rfl) rfl rfl ?_
  refine g_iload_n 5 (gd rfl) rfl rfl ?_
  refine g_iload_n 6 (gd rfl) rfl rfl ?_
  refine g_iload_n 7 (gd rfl) rfl rfl ?_
  refine g_iload 9 (gd rfl) rfl rfl ?_
  refine g_iload 11 (gd rfl) rfl rfl ?_
  refine g_callvH (As := [.int x1, .int x2, .int x3, .int x4, .int x5]) (r := [.int (Int32.ofInt 0), .ref (A 195)]) (b := A 0) (q := 0) 14 (gd rfl) rfl rfl rfl rfl rfl rfl (ww_o rfl) (Nat.le_of_ble_eq_true rfl) (Nat.le_refl _) (Nat.le_refl _) (f_213_0 (by omega) hI rfl rfl rfl q) (fun e u h => ?_) (fun v u h => ?_)
  · obtain ⟨he, t, hI2, hF2, rfl⟩ := h
    have hg : gvC t = gvC s := gvC_cg hF2 rfl
    have hpf : PFX s t := fun k _ => by rw [hF2.1 30 rfl]
    rcases he with ⟨rfl, hn⟩ | ⟨rfl, hn⟩
    · refine ⟨0, 19, by decide, rfl, rfl, fun a => ?_⟩
      refine g_astore 21 (gd rfl) rfl (Nat.le_of_ble_eq_true rfl) ?_
      refine g_iconst 1 22 (gd rfl) rfl rfl ?_
      exact g_ireturn (gd rfl) rfl rfl (hP _ _ ⟨_, A, t, Int32.ofInt 0, rfl, rfl, rfl, rfl, rfl, hI2, fr_195' (fr_up hF2), kl_fr q hF2 rfl, tq_fr hT hF2 rfl, Or.inl ⟨rfl, hn, hg⟩, fun z => absurd z (by decide), hpf, Or.inl hg⟩)
    · refine ⟨1, 23, by decide, rfl, rfl, fun a => ?_⟩
      refine g_astore 25 (gd rfl) rfl (Nat.le_of_ble_eq_true rfl) ?_
      refine g_iconst 2 26 (gd rfl) rfl rfl ?_
      exact g_ireturn (gd rfl) rfl rfl (hP _ _ ⟨_, A, t, Int32.ofInt 0, rfl, rfl, rfl, rfl, rfl, hI2, fr_195' (fr_up hF2), kl_fr q hF2 rfl, tq_fr hT hF2 rfl, Or.inr (Or.inl ⟨rfl, hn.1, hn.2, hg⟩), fun z => absurd z (by decide), hpf, Or.inl hg⟩)
  · obtain ⟨a, t, hI2, hF2, z, rfl, rfl, iz, hK2, ⟨g1, g2⟩, g3, g4, hTT, hpf, hrw⟩ := h
    show GG _ _ _ _ _ _ _ _ [.int z, .int (Int32.ofInt 0), .ref (A 195)] _ _ _
    refine g_i2l 15 (gd rfl) rfl (fun z14 e14 => ?_)
    refine g_ouS (A := (ax A 30 a)) 16 (gd rfl) rfl ?_
    refine g_goto 27 (gd rfl) rfl ?_
    refine g_iconst 0 28 (gd rfl) rfl rfl ?_
    have hlg : gvC t = gvC s ∨ LGC s t := (by by_cases hz : z.toInt = -3; (exact Or.inl (g3 hz).1); (exact Or.inr (lgc_a hpf (g4 hz).1 (hrw hz))))
    refine g_ireturn (gd rfl) rfl rfl (hP _ _ ⟨_, (ax A 30 a), sL t 195 0 z14, z, rfl, rfl, (ax_ne (by decide)), (ax_ne (by decide)), (ax_ne (by decide)), inv_195 hI2, fr_195 hF2, kl_195 hK2, tq_cg (hTT hT) rfl rfl, Or.inr (Or.inr ⟨rfl, g1, g2, ⟨g3, g4, iz⟩⟩), fun _ => ?_, hpf, hlg⟩)
    show (if 195 = 195 then vp_updL (t.2.1 195) 0 z14 else t.2.1 195) 0 = z.toInt64
    rw [if_pos rfl, ← e14]
    exact if_pos rfl

theorem wq_3 {Z : AmZ} {A : Nat → Nat} {s : GS} {x1 : Int32} (hI : Inv s) (q : KL s) (hT : TQ s) : WC Z 1300 3 [.ref (A 0), .int x1, .ref (A 195)] (WW Z A s ++ []) 4 28018 (WFq Z A fm_214_0 s (HAC s x1) ((s.2.2.1 2 0).toInt ≤ 3999) (fun t z => z.toInt = (s.2.2.1 2 0).toInt + 1 ∧ gvC t = gqD (gvC s) x1.toNatClampNeg)) := by
  intro post hP xp
  refine w_enter (k := 3) (d := 1299) (N := 60) rfl (Nat.le_of_ble_eq_true rfl) ?_
  refine g_aload_n 1 (gd rfl) rfl rfl ?_
  refine g_iconst 0 2 (gd rfl) rfl rfl ?_
  refine g_aload_n 3 (gd rfl) rfl rfl ?_
  refine g_iload_n 4 (gd rfl) rfl rfl ?_
  refine g_callvH (As := [.int x1]) (r := [.int (Int32.ofInt 0), .ref (A 195)]) (b := A 0) (q := 0) 7 (gd rfl) rfl rfl rfl rfl rfl rfl (ww_o rfl) (Nat.le_of_ble_eq_true rfl) (Nat.le_refl _) (Nat.le_refl _) (f_214_0 (by omega) hI rfl rfl rfl rfl q hT) (fun e u h => ?_) (fun v u h => ?_)
  · obtain ⟨he, t, hI2, hF2, rfl⟩ := h
    have hg : gvC t = gvC s := gvC_cg hF2 rfl
    have hpf : PFX s t := fun k _ => by rw [hF2.1 30 rfl]
    rcases he with ⟨rfl, hn⟩ | ⟨rfl, hn⟩
    · refine ⟨0, 12, by decide, rfl, rfl, fun a => ?_⟩
      refine g_astore_n 13 (gd rfl) rfl (Nat.le_of_ble_eq_true rfl) ?_
      refine g_iconst 1 14 (gd rfl) rfl rfl ?_
      exact g_ireturn (gd rfl) rfl rfl (hP _ _ ⟨_, A, t, Int32.ofInt 0, rfl, rfl, rfl, rfl, rfl, hI2, fr_195' (fr_up hF2), kl_fr q hF2 rfl, tq_fr hT hF2 rfl, Or.inl ⟨rfl, hn, hg⟩, fun z => absurd z (by decide), hpf, Or.inl hg⟩)
    · refine ⟨1, 15, by decide, rfl, rfl, fun a => ?_⟩
      refine g_astore_n 16 (gd rfl) rfl (Nat.le_of_ble_eq_true rfl) ?_
      refine g_iconst 2 17 (gd rfl) rfl rfl ?_
      exact g_ireturn (gd rfl) rfl rfl (hP _ _ ⟨_, A, t, Int32.ofInt 0, rfl, rfl, rfl, rfl, rfl, hI2, fr_195' (fr_up hF2), kl_fr q hF2 rfl, tq_fr hT hF2 rfl, Or.inr (Or.inl ⟨rfl, hn.1, hn.2, hg⟩), fun z => absurd z (by decide), hpf, Or.inl hg⟩)
  · obtain ⟨a, t, hI2, hF2, z, rfl, rfl, iz, hK2, ⟨g1, g2, g3, g4⟩, hTT, hpf, hrw⟩ := h
    show GG _ _ _ _ _ _ _ _ [.int z, .int (Int32.ofInt 0), .ref (A 195)] _ _ _
    refine g_i2l 8 (gd rfl) rfl (fun z7 e7 => ?_)
    refine g_ouS (A := (ax A 30 a)) 9 (gd rfl) rfl ?_
    refine g_goto 18 (gd rfl) rfl ?_
    refine g_iconst 0 19 (gd rfl) rfl rfl ?_
    have hlg : gvC t = gvC s ∨ LGC s t := Or.inr (lgc_d hpf g4 hrw)
    refine g_ireturn (gd rfl) rfl rfl (hP _ _ ⟨_, (ax A 30 a), sL t 195 0 z7, z, rfl, rfl, (ax_ne (by decide)), (ax_ne (by decide)), (ax_ne (by decide)), inv_195 hI2, fr_195 hF2, kl_195 hK2, tq_cg (hTT) rfl rfl, Or.inr (Or.inr ⟨rfl, g1, g2, ⟨g3, g4⟩⟩), fun _ => ?_, hpf, hlg⟩)
    show (if 195 = 195 then vp_updL (t.2.1 195) 0 z7 else t.2.1 195) 0 = z.toInt64
    rw [if_pos rfl, ← e7]
    exact if_pos rfl

theorem wq_4 {Z : AmZ} {A : Nat → Nat} {s : GS} {x1 : Int32} {x2 : Int32} {x3 : Int32} (hI : Inv s) (q : KL s) (hT : TQ s) : WC Z 1300 4 [.ref (A 0), .int x1, .int x2, .int x3, .ref (A 195)] (WW Z A s ++ []) 4 28018 (WFq Z A fm_215_0 s (HAC s x1 ∧ GVL x2 x3) ((s.2.2.1 2 0).toInt ≤ 3999) (fun t z => z = (if x2.toInt = 0 then s.1 6 x1.toNatClampNeg else if x2.toInt = 1 then s.1 7 x1.toNatClampNeg else s.1 8 x1.toNatClampNeg) ∧ gvC t = gqW (gvC s) x1.toNatClampNeg x2 x3)) := by
  intro post hP xp
  refine w_enter (k := 4) (d := 1299) (N := 60) rfl (Nat.le_of_ble_eq_true rfl) ?_
  refine g_aload 2 (gd rfl) rfl rfl ?_
  refine g_iconst 0 3 (gd rfl) rfl rfl ?_
  refine g_aload_n 4 (gd rfl) rfl rfl ?_
  refine g_iload_n 5 (gd rfl) rfl rfl ?_
  refine g_iload_n 6 (gd rfl) rfl rfl ?_
  refine g_iload_n 7 (gd rfl) rfl rfl ?_
  refine g_callvH (As := [.int x1, .int x2, .int x3]) (r := [.int (Int32.ofInt 0), .ref (A 195)]) (b := A 0) (q := 0) 10 (gd rfl) rfl rfl rfl rfl rfl rfl (ww_o rfl) (Nat.le_of_ble_eq_true rfl) (Nat.le_refl _) (Nat.le_refl _) (f_215_0 (by omega) hI rfl rfl rfl rfl q hT) (fun e u h => ?_) (fun v u h => ?_)
  · obtain ⟨he, t, hI2, hF2, rfl⟩ := h
    have hg : gvC t = gvC s := gvC_cg hF2 rfl
    have hpf : PFX s t := fun k _ => by rw [hF2.1 30 rfl]
    rcases he with ⟨rfl, hn⟩ | ⟨rfl, hn⟩
    · refine ⟨0, 15, by decide, rfl, rfl, fun a => ?_⟩
      refine g_astore 17 (gd rfl) rfl (Nat.le_of_ble_eq_true rfl) ?_
      refine g_iconst 1 18 (gd rfl) rfl rfl ?_
      exact g_ireturn (gd rfl) rfl rfl (hP _ _ ⟨_, A, t, Int32.ofInt 0, rfl, rfl, rfl, rfl, rfl, hI2, fr_195' (fr_up hF2), kl_fr q hF2 rfl, tq_fr hT hF2 rfl, Or.inl ⟨rfl, hn, hg⟩, fun z => absurd z (by decide), hpf, Or.inl hg⟩)
    · refine ⟨1, 19, by decide, rfl, rfl, fun a => ?_⟩
      refine g_astore 21 (gd rfl) rfl (Nat.le_of_ble_eq_true rfl) ?_
      refine g_iconst 2 22 (gd rfl) rfl rfl ?_
      exact g_ireturn (gd rfl) rfl rfl (hP _ _ ⟨_, A, t, Int32.ofInt 0, rfl, rfl, rfl, rfl, rfl, hI2, fr_195' (fr_up hF2), kl_fr q hF2 rfl, tq_fr hT hF2 rfl, Or.inr (Or.inl ⟨rfl, hn.1, hn.2, hg⟩), fun z => absurd z (by decide), hpf, Or.inl hg⟩)
  · obtain ⟨a, t, hI2, hF2, z, rfl, rfl, iz, hK2, ⟨g1, g2, g3, g4⟩, hTT, hpf, hrw⟩ := h
    show GG _ _ _ _ _ _ _ _ [.int z, .int (Int32.ofInt 0), .ref (A 195)] _ _ _
    refine g_i2l 11 (gd rfl) rfl (fun z10 e10 => ?_)
    refine g_ouS (A := (ax A 30 a)) 12 (gd rfl) rfl ?_
    refine g_goto 23 (gd rfl) rfl ?_
    refine g_iconst 0 24 (gd rfl) rfl rfl ?_
    have hlg : gvC t = gvC s ∨ LGC s t := Or.inr (lgc_w hpf g4 hrw)
    refine g_ireturn (gd rfl) rfl rfl (hP _ _ ⟨_, (ax A 30 a), sL t 195 0 z10, z, rfl, rfl, (ax_ne (by decide)), (ax_ne (by decide)), (ax_ne (by decide)), inv_195 hI2, fr_195 hF2, kl_195 hK2, tq_cg (hTT) rfl rfl, Or.inr (Or.inr ⟨rfl, g1, g2, ⟨g3, g4⟩⟩), fun _ => ?_, hpf, hlg⟩)
    show (if 195 = 195 then vp_updL (t.2.1 195) 0 z10 else t.2.1 195) 0 = z.toInt64
    rw [if_pos rfl, ← e10]
    exact if_pos rfl

theorem wq_5 {Z : AmZ} {A : Nat → Nat} {s : GS} {x1 : Int32} {x2 : Int32} (hI : Inv s) (q : KL s) (hT : TQ s) : WC Z 1300 5 [.ref (A 0), .int x1, .int x2, .ref (A 195)] (WW Z A s ++ []) 4 28018 (WFq Z A fm_216_0 s (HNC s x1 ∧ In x2 0 25) ((s.2.2.1 2 0).toInt ≤ 3999) (fun t z => z = s.1 3 x1.toNatClampNeg ∧ gvC t = gqL (gvC s) x1.toNatClampNeg x2)) := by
  intro post hP xp
  refine w_enter (k := 5) (d := 1299) (N := 60) rfl (Nat.le_of_ble_eq_true rfl) ?_
  refine g_aload_n 1 (gd rfl) rfl rfl ?_
  refine g_iconst 0 2 (gd rfl) rfl rfl ?_
  refine g_aload_n 3 (gd rfl) rfl rfl ?_
  refine g_iload_n 4 (gd rfl) rfl rfl ?_
  refine g_iload_n 5 (gd rfl) rfl rfl ?_
  refine g_callvH (As := [.int x1, .int x2]) (r := [.int (Int32.ofInt 0), .ref (A 195)]) (b := A 0) (q := 0) 8 (gd rfl) rfl rfl rfl rfl rfl rfl (ww_o rfl) (Nat.le_of_ble_eq_true rfl) (Nat.le_refl _) (Nat.le_refl _) (f_216_0 (by omega) hI rfl rfl rfl q) (fun e u h => ?_) (fun v u h => ?_)
  · obtain ⟨he, t, hI2, hF2, rfl⟩ := h
    have hg : gvC t = gvC s := gvC_cg hF2 rfl
    have hpf : PFX s t := fun k _ => by rw [hF2.1 30 rfl]
    rcases he with ⟨rfl, hn⟩ | ⟨rfl, hn⟩
    · refine ⟨0, 13, by decide, rfl, rfl, fun a => ?_⟩
      refine g_astore 15 (gd rfl) rfl (Nat.le_of_ble_eq_true rfl) ?_
      refine g_iconst 1 16 (gd rfl) rfl rfl ?_
      exact g_ireturn (gd rfl) rfl rfl (hP _ _ ⟨_, A, t, Int32.ofInt 0, rfl, rfl, rfl, rfl, rfl, hI2, fr_195' (fr_up hF2), kl_fr q hF2 rfl, tq_fr hT hF2 rfl, Or.inl ⟨rfl, hn, hg⟩, fun z => absurd z (by decide), hpf, Or.inl hg⟩)
    · refine ⟨1, 17, by decide, rfl, rfl, fun a => ?_⟩
      refine g_astore 19 (gd rfl) rfl (Nat.le_of_ble_eq_true rfl) ?_
      refine g_iconst 2 20 (gd rfl) rfl rfl ?_
      exact g_ireturn (gd rfl) rfl rfl (hP _ _ ⟨_, A, t, Int32.ofInt 0, rfl, rfl, rfl, rfl, rfl, hI2, fr_195' (fr_up hF2), kl_fr q hF2 rfl, tq_fr hT hF2 rfl, Or.inr (Or.inl ⟨rfl, hn.1, hn.2, hg⟩), fun z => absurd z (by decide), hpf, Or.inl hg⟩)
  · obtain ⟨a, t, hI2, hF2, z, rfl, rfl, iz, hK2, ⟨g1, g2, g3, g4⟩, hTT, hpf, hrw⟩ := h
    show GG _ _ _ _ _ _ _ _ [.int z, .int (Int32.ofInt 0), .ref (A 195)] _ _ _
    refine g_i2l 9 (gd rfl) rfl (fun z8 e8 => ?_)
    refine g_ouS (A := (ax A 30 a)) 10 (gd rfl) rfl ?_
    refine g_goto 21 (gd rfl) rfl ?_
    refine g_iconst 0 22 (gd rfl) rfl rfl ?_
    have hlg : gvC t = gvC s ∨ LGC s t := Or.inr (lgc_l hpf g4 hrw)
    refine g_ireturn (gd rfl) rfl rfl (hP _ _ ⟨_, (ax A 30 a), sL t 195 0 z8, z, rfl, rfl, (ax_ne (by decide)), (ax_ne (by decide)), (ax_ne (by decide)), inv_195 hI2, fr_195 hF2, kl_195 hK2, tq_cg (hTT hT) rfl rfl, Or.inr (Or.inr ⟨rfl, g1, g2, ⟨g3, g4⟩⟩), fun _ => ?_, hpf, hlg⟩)
    show (if 195 = 195 then vp_updL (t.2.1 195) 0 z8 else t.2.1 195) 0 = z.toInt64
    rw [if_pos rfl, ← e8]
    exact if_pos rfl

noncomputable def WVq (Z : AmZ) (A : Nat → Nat) (L : FM) (s : GS) (x1 : Int32) : AmR := fun v u => ∃ (c : Int32) (t : GS) (z : Int32), v = some (.int c) ∧ u = WW Z A t ++ [] ∧ Inv t ∧ Fr (L.1, 195 :: L.2.1, L.2.2) s t ∧ KL t ∧ ((c.toInt = 1 ∧ ¬ (-1 ≤ x1.toInt ∧ x1.toInt ≤ (s.2.2.1 2 0).toInt)) ∨ (c.toInt = 0 ∧ (-1 ≤ x1.toInt ∧ x1.toInt ≤ (s.2.2.1 2 0).toInt) ∧ z = (if x1.toInt < 0 then s.2.2.1 2 0 else x1))) ∧ (c.toInt = 0 → t.2.1 195 0 = z.toInt64) ∧ ((c.toInt = 1 ∧ Fr ([], [195], [], []) s t) ∨ (c.toInt = 0 ∧ (-1 ≤ x1.toInt ∧ x1.toInt ≤ (s.2.2.1 2 0).toInt) ∧ VWD s t x1 ∧ (TQD s → TQD t)))
theorem wq_6 {Z : AmZ} {A : Nat → Nat} {s : GS} {x1 : Int32} (hI : Inv s) (q : KL s) : WC Z 1300 6 [.ref (A 0), .int x1, .ref (A 195)] (WW Z A s ++ []) 3 18 (WVq Z A fm_217_0 s x1) := by
  intro post hP xp
  refine w_enter (k := 6) (d := 1299) (N := 60) rfl (Nat.le_of_ble_eq_true rfl) ?_
  refine g_aload_n 1 (gd rfl) rfl rfl ?_
  refine g_iconst 0 2 (gd rfl) rfl rfl ?_
  refine g_aload_n 3 (gd rfl) rfl rfl ?_
  refine g_iload_n 4 (gd rfl) rfl rfl ?_
  refine g_callvH (As := [.int x1]) (r := [.int (Int32.ofInt 0), .ref (A 195)]) (b := A 0) (q := 0) 7 (gd rfl) rfl rfl rfl rfl rfl rfl (ww_o rfl) (Nat.le_of_ble_eq_true rfl) (Nat.le_refl _) (Nat.le_refl _) (f_217_0 (by omega) hI rfl rfl rfl rfl (kl_p q) q) (fun e u h => ?_) (fun v u h => ?_)
  · obtain ⟨he, t, hI2, hF2, rfl⟩ := h
    rcases he with ⟨rfl, hn⟩ | ⟨rfl, hn⟩
    · refine ⟨0, 12, by decide, rfl, rfl, fun a => ?_⟩
      refine g_astore_n 13 (gd rfl) rfl (Nat.le_of_ble_eq_true rfl) ?_
      refine g_iconst 1 14 (gd rfl) rfl rfl ?_
      exact g_ireturn (gd rfl) rfl rfl (hP _ _ ⟨_, t, Int32.ofInt 0, rfl, rfl, hI2, fr_195' (fr_up hF2), kl_fr q hF2 rfl, Or.inl ⟨rfl, hn⟩, fun z => absurd z (by decide), Or.inl ⟨rfl, fr_up hF2⟩⟩)
    · exact hn.elim
  · obtain ⟨t, hI2, hF2, z, rfl, rfl, iz, hK2, hv, hvd, htd⟩ := h
    show GG _ _ _ _ _ _ _ _ [.int z, .int (Int32.ofInt 0), .ref (A 195)] _ _ _
    refine g_i2l 8 (gd rfl) rfl (fun z7 e7 => ?_)
    refine g_ouS (A := A) 9 (gd rfl) rfl ?_
    refine g_goto 15 (gd rfl) rfl ?_
    refine g_iconst 0 16 (gd rfl) rfl rfl ?_
    refine g_ireturn (gd rfl) rfl rfl (hP _ _ ⟨_, sL t 195 0 z7, z, rfl, rfl, inv_195 hI2, fr_195 hF2, kl_195 hK2, Or.inr ⟨rfl, hv⟩, fun _ => ?_, Or.inr ⟨rfl, hv.1, hvd, fun h => tqd_cg (htd h) rfl rfl⟩⟩)
    show (if 195 = 195 then vp_updL (t.2.1 195) 0 z7 else t.2.1 195) 0 = z.toInt64
    rw [if_pos rfl, ← e7]
    exact if_pos rfl
