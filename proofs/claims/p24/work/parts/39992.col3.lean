/-! COLOURING OF THE REFERENCE: the loop of the search -/
def EXP (t : GS) (k : Int) : Prop := Ext (adjq t) (Sg t) k (Pq t)
def PST (t : GS) : Prop := BSD t ∧ ∀ y, Pq t y → (y : Int) < (t.2.2.1 109 20).toInt ∧ Sg t y < 0
def P345 (t : GS) (used : Int) : Prop := PST t ∧ (∃ x, Pq t x) ∧ (∀ x, Pq t x → Cq t x < 0) ∧ (∀ x : Nat, (x : Int) < (t.2.2.1 109 20).toInt → ¬ Pq t x → Cq t x = Sg t x) ∧ ∀ u, 0 ≤ Sg t u → Sg t u < used
theorem ad_cg {t t2 : GS} (e5 : t2.1 138 = t.1 138) (e6 : t2.2.2.1 = t.2.2.1) : adjq t2 = adjq t := by funext a b; unfold adjq; rw [e5, e6]
theorem sg_cg {t t2 : GS} (e4 : t2.1 141 = t.1 141) (e6 : t2.2.2.1 = t.2.2.1) : Sg t2 = Sg t := by funext x; unfold Sg; rw [e4, e6]
theorem pq_cg {t t2 : GS} (e6 : t2.2.2.1 = t.2.2.1) : Pq t2 = Pq t := by funext x; unfold Pq; rw [e6]
theorem exp_cg {t t2 : GS} {k : Int} (e4 : t2.1 141 = t.1 141) (e5 : t2.1 138 = t.1 138) (e6 : t2.2.2.1 = t.2.2.1) : EXP t2 k = EXP t k := by unfold EXP; rw [ad_cg e5 e6, sg_cg e4 e6, pq_cg e6]
theorem pst_cg {t t2 : GS} (e4 : t2.1 141 = t.1 141) (e5 : t2.1 138 = t.1 138) (e6 : t2.2.2.1 = t.2.2.1) (h : PST t) : PST t2 := by
  refine ⟨?_, ?_⟩
  · unfold BSD; rw [e5, e6]; exact h.1
  · rw [pq_cg e6, sg_cg e4 e6, e6]; exact h.2
def A14 (t : GS) (k d : Int) : Prop := (0 ≤ d → PCI t k d.toNat) ∧ (d < 0 → ¬ EXP t k)
theorem p5_z6 {s : GS} {u : Int} {z : Int32} (h : P345 s u) (p : TGT s (s.2.2.1 109 20).toInt z) : 0 ≤ z.toInt := by
  apply Classical.byContradiction
  intro q
  obtain ⟨x, hx⟩ := h.2.1
  have a := p.1 (by omega) x (h.1.2 x hx).1 hx
  have b := h.2.2.1 x hx
  unfold Cq at b
  omega
theorem pc_ini {s t : GS} {k u z : Int32} (h : P345 s u.toInt) (hu : 0 ≤ u.toInt) (p : TGT s (s.2.2.1 109 20).toInt z)
    (p1 : t.1 144 = upd (s.1 144) (Int32.ofInt 0).toNatClampNeg z ∧ t.1 143 = upd (s.1 143) (Int32.ofInt 0).toNatClampNeg u)
    (p2 : ∃ w : Int32, t.1 145 = upd (s.1 145) (Int32.ofInt 0).toNatClampNeg w ∧ ∀ c : Nat, (bt w c = true ↔ ((c : Int) < k.toInt ∧ (c : Int) ≤ u.toInt ∧ ¬ BRQ s z.toNatClampNeg c)))
    (p3 : ∃ w : Int32, t.1 146 = upd (s.1 146) (Int32.ofInt 0).toNatClampNeg w ∧ WHY s z.toNatClampNeg (Int32.ofInt 0).toInt w)
    (e2 : t.1 142 = s.1 142) (e4 : t.1 141 = s.1 141) (e5 : t.1 138 = s.1 138) (e6 : t.2.2.1 = s.2.2.1) : A14 t k.toInt (Int32.ofInt 0).toInt := by
  have z0 : (Int32.ofInt 0).toNatClampNeg = 0 := rfl
  have i0 : (Int32.ofInt 0).toInt = 0 := by decide
  rw [z0] at p1 p2 p3
  rw [i0] at p3 ⊢
  have hz := p5_z6 h p
  have hp := p.2 hz
  obtain ⟨w2, q1, q2⟩ := p2
  obtain ⟨w3, r1, r2⟩ := p3
  have tn : Tn t 0 = z.toNatClampNeg := by unfold Tn; rw [p1.1, up_e]
  have bq : Bq t 0 = u.toInt := by unfold Bq; rw [p1.2, up_e]
  have hS := sg_cg e4 e6
  have hQ := pq_cg e6
  have st := pst_cg e4 e5 e6 h.1
  have cc : Cq t = Cq s := by funext x; unfold Cq; rw [e2]
  have br : ∀ c, BRQ t z.toNatClampNeg c = BRQ s z.toNatClampNeg c := by intro c; unfold BRQ; rw [e5, e6, e2]
  refine ⟨fun _ => ?_, fun q => absurd q (by omega)⟩
  show PCI t k.toInt 0
  refine pc_0 ?_ ?_ ?_ ?_ ?_ ?_ st.2 (fun a b q => (st.1 a b q.1 q.2).1)
  · rw [tn, hQ]; exact hp.2.1
  · intro y; rw [bq, tn, q1, up_e, br]; exact q2 y
  · intro x hx
    rw [r1, up_e] at hx
    obtain ⟨j, hj, -⟩ := r2.1 x hx
    omega
  · rw [bq, hS]; exact ⟨hu, h.2.2.2.2⟩
  · rw [hQ, cc]; exact h.2.2.1
  · rw [hQ, cc, hS, e6]; exact h.2.2.2.1
/-! jumping back -/
def SAM (t0 t : GS) : Prop := t.1 144 = t0.1 144 ∧ t.1 143 = t0.1 143 ∧ t.1 145 = t0.1 145 ∧ t.1 146 = t0.1 146 ∧ t.1 141 = t0.1 141 ∧ t.1 138 = t0.1 138 ∧ t.2.2.1 = t0.2.2.1
def JMP (t : GS) (k : Int) (bars : Int32) (d : Int) : Prop := ∃ (t0 : GS) (D : Nat), PCI t0 k D ∧ d < (D : Int) ∧ (∀ χ, Sol (adjq t0) (Sg t0) k (Pq t0) χ → ¬ (∀ x, bt bars x = true → χ x = Cq t0 x)) ∧ (∀ x, bt bars x = true → ∃ i : Nat, (i : Int) ≤ d ∧ x = Tn t0 i) ∧ SAM t0 t ∧ (∀ x, (∀ e : Nat, d < (e : Int) → e ≤ D → x ≠ Tn t0 e) → t.1 142 x = t0.1 142 x) ∧ ∀ e : Nat, d < (e : Int) → e ≤ D → Cq t (Tn t0 e) < 0
theorem sam_I {t0 t : GS} {j : Nat} {x : Int32} (h : SAM t0 t) : SAM t0 (sI t 142 j x) := by
  obtain ⟨h1, h2, h3, h4, h5, h6, h7⟩ := h
  exact ⟨by rw [sI_p rfl]; exact h1, by rw [sI_p rfl]; exact h2, by rw [sI_p rfl]; exact h3, by rw [sI_p rfl]; exact h4, by rw [sI_p rfl]; exact h5, by rw [sI_p rfl]; exact h6, h7⟩
theorem jm_0 {t : GS} {k : Int} {y v l w d : Int32} (h : A14 t k y.toInt) (h0 : 0 ≤ y.toInt) (ev : v = t.1 144 y.toNatClampNeg) (el : l = t.1 145 y.toNatClampNeg) (cl : l.toInt = 0) (ew : w = t.1 146 y.toNatClampNeg) (hd : d.toInt = y.toInt - 1) : JMP (sI t 142 v.toNatClampNeg (Int32.ofInt (-1))) k w d.toInt := by
  have g : PCI t k y.toNatClampNeg := h.1 h0
  have ey : y.toNatClampNeg = y.toInt.toNat := rfl
  have z : l = 0 := Int32.toInt_inj.mp (cl.trans (by decide))
  have m1 : (Int32.ofInt (-1)).toInt = -1 := by decide
  have tv : Tn t y.toNatClampNeg = v.toNatClampNeg := by unfold Tn; rw [ev]
  refine ⟨t, y.toNatClampNeg, g, by omega, ?_, ?_, sam_I ⟨rfl, rfl, rfl, rfl, rfl, rfl, rfl⟩, fun x hx => ?_, fun e h1 h2 => ?_⟩
  · have a := pc_no g (fun c => by rw [← el, z, bt_z])
    rw [← ew] at a
    exact a
  · intro x hx
    rw [ew] at hx
    obtain ⟨j, h1, h2⟩ := g.i9 _ (Nat.le_refl _) x hx
    exact ⟨j, by omega, h2⟩
  · rw [sI_q, up_n (fun q => hx y.toNatClampNeg (by omega) (Nat.le_refl _) (by rw [tv]; exact q))]
  · unfold Cq
    rw [show e = y.toNatClampNeg by omega, tv, sI_q, up_e, m1]
    omega
theorem jm_s {t : GS} {k : Int} {bars y v d : Int32} (h : JMP t k bars y.toInt) (h0 : 0 ≤ y.toInt) (ev : v = t.1 144 y.toNatClampNeg) (hb : bt bars v.toNatClampNeg = false) (hd : d.toInt = y.toInt - 1) : JMP (sI t 142 v.toNatClampNeg (Int32.ofInt (-1))) k bars d.toInt := by
  obtain ⟨t0, D, g, h1, h2, h3, h4, h5, h6⟩ := h
  have ey : y.toNatClampNeg = y.toInt.toNat := rfl
  have m1 : (Int32.ofInt (-1)).toInt = -1 := by decide
  have tv : Tn t0 y.toNatClampNeg = v.toNatClampNeg := by unfold Tn; rw [ev, h4.1]
  refine ⟨t0, D, g, by omega, h2, fun x hx => ?_, sam_I h4, fun x hx => ?_, fun e e1 e2 => ?_⟩
  · obtain ⟨i, i1, i2⟩ := h3 x hx
    refine ⟨i, ?_, i2⟩
    by_cases q : i = y.toNatClampNeg
    · rw [i2, q, tv, hb] at hx; cases hx
    · omega
  · rw [sI_q, up_n (fun q => hx y.toNatClampNeg (by omega) (by omega) (by rw [tv]; exact q))]
    exact h5 x (fun e e1 e2 => hx e (by omega) e2)
  · unfold Cq
    rw [sI_q]
    by_cases q : Tn t0 e = v.toNatClampNeg
    · rw [q, up_e, m1]; omega
    · rw [up_n q]
      by_cases c : e = y.toNatClampNeg
      · rw [c, tv] at q; exact absurd rfl q
      · exact h6 e (by omega) e2
theorem jm_end {t : GS} {k : Int} {bars y : Int32} (h : JMP t k bars y.toInt) (h0 : y.toInt < 0) : A14 t k y.toInt := by
  obtain ⟨t0, D, g, h1, h2, h3, h4, h5, h6⟩ := h
  refine ⟨fun q => absurd q (by omega), fun _ => ?_⟩
  rw [exp_cg h4.2.2.2.2.1 h4.2.2.2.2.2.1 h4.2.2.2.2.2.2]
  exact pc_end h2 (fun x hx => by obtain ⟨i, i1, -⟩ := h3 x hx; omega)
theorem jm_pop {t : GS} {k : Int} {bars y z100 z109 z110 z112 z113 z114 : Int32} (h : JMP t k bars y.toInt) (h0 : 0 ≤ y.toInt) (e100 : z100 = t.1 146 y.toNatClampNeg) (e109 : z109 = t.1 144 y.toNatClampNeg) (i109 : In z109 0 31) (e110 : z110 = Int32.ofInt 1 <<< (z109 &&& 31)) (e112 : z112 = z110 ^^^ Int32.ofInt (-1)) (e113 : z113 = bars &&& z112) (e114 : z114 = z100 ||| z113) : A14 (sI t 146 y.toNatClampNeg z114) k y.toInt := by
  obtain ⟨t0, D, g, h1, h2, h3, ⟨s1, s2, s3, s4, s5, s6, s7⟩, h5, h6⟩ := h
  have ey : y.toNatClampNeg = y.toInt.toNat := rfl
  have tv : Tn t0 y.toNatClampNeg = z109.toNatClampNeg := by unfold Tn; rw [e109, s1]
  refine ⟨fun _ => ?_, fun q => absurd q (by omega)⟩
  show PCI _ k y.toNatClampNeg
  refine pc_pop (bars := bars) g (show y.toNatClampNeg < D by omega) h2 (fun x hx => ?_) (by rw [sI_p rfl]; exact s1) (by rw [sI_p rfl]; exact s2) (by rw [sI_p rfl]; exact s3) (by rw [sI_p rfl]; exact s5) (by rw [sI_p rfl]; exact s6) s7 (fun x hx => ?_) (fun e e1 e2 => ?_) (fun e he => ?_) (fun x => ?_)
  · obtain ⟨i, i1, i2⟩ := h3 x hx
    exact ⟨i, by omega, i2⟩
  · rw [sI_p rfl]
    exact h5 x (fun e e1 e2 => hx e (by omega) e2)
  · unfold Cq
    rw [sI_p rfl]
    exact h6 e (by omega) e2
  · rw [sI_q, up_n (by omega), s4]
  · rw [sI_q, up_e, bt_or e114, e100, s4, Bool.or_eq_true, tv]
    refine or_congr Iff.rfl ⟨fun q => ?_, fun q => ?_⟩
    · have hx := bt_lt q
      rw [bt_clr e110 e112 e113 i109 hx] at q
      have q1 := (Bool.and_eq_true _ _).mp q
      refine ⟨q1.1, fun c => ?_⟩
      rw [decide_eq_true c] at q1
      exact absurd q1.2 (by decide)
    · have hx := bt_lt q.1
      rw [bt_clr e110 e112 e113 i109 hx, q.1, decide_eq_false q.2]
      rfl
/-! a colour is taken -/
def LK (t t1 : GS) (y v c z m : Int32) : Prop := t1.1 144 = t.1 144 ∧ t1.1 143 = t.1 143 ∧ t1.1 146 = t.1 146 ∧ t1.1 141 = t.1 141 ∧ t1.1 138 = t.1 138 ∧ t1.2.2.1 = t.2.2.1 ∧ t1.1 145 = upd (t.1 145) y.toNatClampNeg z ∧ t1.1 142 = upd (upd (t.1 142) v.toNatClampNeg m) v.toNatClampNeg c
theorem lk_i {t : GS} {y v c z m : Int32} : LK t (sI (sI (sI t 142 v.toNatClampNeg m) 145 y.toNatClampNeg z) 142 v.toNatClampNeg c) y v c z m := by
  refine ⟨?_, ?_, ?_, ?_, ?_, rfl, ?_, ?_⟩
  · rw [sI_p rfl, sI_p rfl, sI_p rfl]
  · rw [sI_p rfl, sI_p rfl, sI_p rfl]
  · rw [sI_p rfl, sI_p rfl, sI_p rfl]
  · rw [sI_p rfl, sI_p rfl, sI_p rfl]
  · rw [sI_p rfl, sI_p rfl, sI_p rfl]
  · rw [sI_p rfl, sI_q, sI_p rfl]
  · rw [sI_q, sI_p rfl, sI_q]
theorem pc_cl {t t1 : GS} {k : Int} {D c v : Nat} {z m : Int32} (h : PCI t k D) (ev : v = Tn t D) (hz : z.toInt = (c : Int)) (a2 : t1.1 142 = upd (upd (t.1 142) v m) v z) : (∀ y, y ≠ Tn t D → t1.1 142 y = t.1 142 y) ∧ Cq t1 (Tn t D) = (c : Int) ∧ ∀ d, d ≤ D → 0 ≤ Cq t1 (Tn t d) := by
  have n : ∀ y, y ≠ Tn t D → t1.1 142 y = t.1 142 y := by
    intro y hy
    rw [a2, ev, up_n hy, up_n hy]
  have e : Cq t1 (Tn t D) = (c : Int) := by unfold Cq; rw [a2, ev, up_e]; exact hz
  refine ⟨n, e, fun d hd => ?_⟩
  by_cases q : d = D
  · rw [q, e]; omega
  · unfold Cq
    rw [n _ (h.i2 d D (by omega) (Nat.le_refl _))]
    exact (h.i3 d (by omega)).1
theorem pc_nx {t t1 : GS} {k : Int} {D : Nat} {x : Int32} (hc : ∀ d, d ≤ D → 0 ≤ Cq t1 (Tn t d)) (e6 : t1.2.2.1 = t.2.2.1) (p : TGT t1 (t1.2.2.1 109 20).toInt x) (hx : 0 ≤ x.toInt) : Pq t x.toNatClampNeg ∧ ∀ d, d ≤ D → x.toNatClampNeg ≠ Tn t d := by
  obtain ⟨p1, p2, p3⟩ := p.2 hx
  refine ⟨by unfold Pq; rw [← e6]; exact p2, fun d hd e => ?_⟩
  have a := hc d hd
  rw [← e] at a
  unfold Cq at a
  omega
theorem pc_all {t t1 : GS} {k : Int} {D : Nat} {x : Int32} (h : PCI t k D) (n : ∀ y, y ≠ Tn t D → t1.1 142 y = t.1 142 y) (e6 : t1.2.2.1 = t.2.2.1) (st : PST t) (p : TGT t1 (t1.2.2.1 109 20).toInt x) (hx : x.toInt < 0) : ∀ y, Pq t y → ∃ d, d ≤ D ∧ y = Tn t d := by
  intro y hy
  apply Classical.byContradiction
  intro q
  have q2 : ∀ d, d ≤ D → y ≠ Tn t d := fun d hd e => q ⟨d, hd, e⟩
  have a := h.i5 y hy q2
  have b := p.1 hx y (by rw [e6]; exact (st.2 y hy).1) (by rw [e6]; exact hy)
  rw [n y (q2 D (Nat.le_refl _))] at b
  unfold Cq at a
  omega
theorem pc_t {t t1 : GS} {k : Int} {y v c x z m l : Int32} (h : A14 t k y.toInt) (h0 : 0 ≤ y.toInt) (st : PST t) (L : LK t t1 y v c z m) (ev : v = t.1 144 y.toNatClampNeg) (el : l = t.1 145 y.toNatClampNeg) (hc : bt l c.toNatClampNeg = true) (c0 : 0 ≤ c.toInt) (p : TGT t1 (t1.2.2.1 109 20).toInt x) (hx : x.toInt < 0) : EXP t1 k := by
  obtain ⟨a4, a3, a6, a1, a8, aF, a5, a2⟩ := L
  have g : PCI t k y.toNatClampNeg := h.1 h0
  have tv : v.toNatClampNeg = Tn t y.toNatClampNeg := by unfold Tn; rw [ev]
  have cc : c.toInt = ((c.toNatClampNeg : Nat) : Int) := by show c.toInt = ((c.toInt.toNat : Nat) : Int); omega
  obtain ⟨n, -, -⟩ := pc_cl g tv cc a2
  rw [exp_cg a1 a8 aF]
  exact pc_yes g (by rw [← el]; exact hc) (bsd_sym st.1) (fun a q => (st.1 a a q.1 q.2).2.2 rfl) (pc_all g n aF st p hx)
theorem pc_d {t t1 : GS} {k : Int} {y v c x z m : Int32} (h : A14 t k y.toInt) (h0 : 0 ≤ y.toInt) (L : LK t t1 y v c z m) (ev : v = t.1 144 y.toNatClampNeg) (c0 : 0 ≤ c.toInt) (p : TGT t1 (t1.2.2.1 109 20).toInt x) (hx : 0 ≤ x.toInt) : y.toInt ≤ 30 := by
  obtain ⟨a4, a3, a6, a1, a8, aF, a5, a2⟩ := L
  have g : PCI t k y.toNatClampNeg := h.1 h0
  have ey : y.toNatClampNeg = y.toInt.toNat := rfl
  have tv : v.toNatClampNeg = Tn t y.toNatClampNeg := by unfold Tn; rw [ev]
  have cc : c.toInt = ((c.toNatClampNeg : Nat) : Int) := by show c.toInt = ((c.toInt.toNat : Nat) : Int); omega
  obtain ⟨-, -, n⟩ := pc_cl g tv cc a2
  obtain ⟨q1, q2⟩ := pc_nx (k := k) n aF p hx
  have := pc_dep2 g q1 q2
  omega
theorem pc_b0 {t : GS} {k : Int} {y : Int32} (h : A14 t k y.toInt) (h0 : 0 ≤ y.toInt) : 0 ≤ (t.1 143 y.toNatClampNeg).toInt := by
  have g : PCI t k y.toNatClampNeg := h.1 h0
  have a := pc_mono g _ (Nat.le_refl _) 0 (Nat.zero_le _)
  have b := g.i4.1
  unfold Bq at a b
  omega
theorem pc_st {t t1 t2 : GS} {kk y v c x z m l w u z1 z2 : Int32} (h : A14 t kk.toInt y.toInt) (h0 : 0 ≤ y.toInt) (st : PST t) (L : LK t t1 y v c z m) (ev : v = t.1 144 y.toNatClampNeg) (el : l = t.1 145 y.toNatClampNeg) (hc : bt l c.toNatClampNeg = true) (ci : In c 0 31) (e1 : z1 = Int32.ofInt 1 <<< (c &&& 31)) (e2 : z2 = z1 ^^^ Int32.ofInt (-1)) (e3 : z = l &&& z2) (p : TGT t1 (t1.2.2.1 109 20).toInt x) (hx : 0 ≤ x.toInt) (hw : w.toInt = y.toInt + 1) (hu1 : (t.1 143 y.toNatClampNeg).toInt ≤ u.toInt) (hu2 : c.toInt < u.toInt)
    (p1 : t2.1 144 = upd (t1.1 144) w.toNatClampNeg x ∧ t2.1 143 = upd (t1.1 143) w.toNatClampNeg u)
    (p2 : ∃ a : Int32, t2.1 145 = upd (t1.1 145) w.toNatClampNeg a ∧ ∀ c : Nat, (bt a c = true ↔ ((c : Int) < kk.toInt ∧ (c : Int) ≤ u.toInt ∧ ¬ BRQ t1 x.toNatClampNeg c)))
    (p3 : ∃ a : Int32, t2.1 146 = upd (t1.1 146) w.toNatClampNeg a ∧ WHY t1 x.toNatClampNeg w.toInt a)
    (b2 : t2.1 142 = t1.1 142) (b4 : t2.1 141 = t1.1 141) (b5 : t2.1 138 = t1.1 138) (b6 : t2.2.2.1 = t1.2.2.1) : A14 t2 kk.toInt w.toInt ∧ sV (t2.1 145) (w.toInt + 1).toNat < sV (t.1 145) (y.toInt + 1).toNat := by
  obtain ⟨a4, a3, a6, a1, a8, aF, a5, a2⟩ := L
  have g : PCI t kk.toInt y.toNatClampNeg := h.1 h0
  have ey : y.toNatClampNeg = y.toInt.toNat := rfl
  have ew : w.toNatClampNeg = y.toNatClampNeg + 1 := by show w.toInt.toNat = y.toInt.toNat + 1; omega
  have tv : v.toNatClampNeg = Tn t y.toNatClampNeg := by unfold Tn; rw [ev]
  have c0 := ci.1
  have cc : c.toInt = ((c.toNatClampNeg : Nat) : Int) := by show c.toInt = ((c.toInt.toNat : Nat) : Int); omega
  obtain ⟨n1, n2, n3⟩ := pc_cl g tv cc a2
  obtain ⟨q1, q2⟩ := pc_nx (k := kk.toInt) n3 aF p hx
  have dep := pc_dep2 g q1 q2
  obtain ⟨w5, r1, r2⟩ := p2
  obtain ⟨w6, r3, r4⟩ := p3
  rw [ew] at p1 r1 r3
  have hz : ∀ i, bt z i = true ↔ (bt l i = true ∧ i ≠ c.toNatClampNeg) := by
    intro i
    constructor
    · intro q
      have hi := bt_lt q
      rw [bt_clr e1 e2 e3 ci hi] at q
      have q1 := (Bool.and_eq_true _ _).mp q
      refine ⟨q1.1, fun c => ?_⟩
      rw [decide_eq_true c] at q1
      exact absurd q1.2 (by decide)
    · intro q
      have hi := bt_lt q.1
      rw [bt_clr e1 e2 e3 ci hi, q.1, decide_eq_false q.2]
      rfl
  have l5 : ∀ d, d < y.toNatClampNeg → t2.1 145 d = t.1 145 d := by intro d hd; rw [r1, up_n (by omega), a5, up_n (by omega)]
  have l5D : t2.1 145 y.toNatClampNeg = z := by rw [r1, up_n (by omega), a5, up_e]
  have tn2 : ∀ d, d ≤ y.toNatClampNeg → t2.1 144 d = t.1 144 d := by intro d hd; rw [p1.1, up_n (by omega), a4]
  refine ⟨⟨fun _ => ?_, fun q => absurd q (by omega)⟩, ?_⟩
  · show PCI t2 kk.toInt w.toNatClampNeg
    rw [ew]
    refine pc_push (c := c.toNatClampNeg) (x := x.toNatClampNeg) g (by rw [← el]; exact hc) st.2 (fun a b q => (st.1 a b q.1 q.2).1) ?_ q1 q2 tn2 (fun d hd => by rw [p1.2, up_n (by omega), a3]) ?_ ?_ l5 (fun i => by rw [l5D, ← el]; exact hz i) (fun i => ?_) (b4.trans a1) (b5.trans a8) (b6.trans aF) (fun i hi => by rw [b2]; exact n1 i hi) ?_ (fun d hd => by rw [r3, up_n (by omega), a6]) (fun i hi => ?_) (fun j hj hb => ?_)
    · unfold Tn; rw [p1.1, up_e]
    · unfold Bq; rw [p1.2, up_e]; exact hu1
    · unfold Bq; rw [p1.2, up_e]; omega
    · unfold Bq
      rw [r1, up_e, p1.2, up_e, show BRQ t2 x.toNatClampNeg i = BRQ t1 x.toNatClampNeg i by unfold BRQ; rw [b5, b6, b2]]
      exact r2 i
    · unfold Cq at n2 ⊢; rw [b2]; exact n2
    · rw [r3, up_e] at hi
      obtain ⟨j, j1, j2⟩ := r4.1 i hi
      refine ⟨j, by omega, ?_⟩
      unfold Tn
      rw [p1.1, up_n (by omega)]
      exact j2
    · unfold Tn at hb ⊢
      rw [p1.1, up_n (by omega)] at hb ⊢
      rw [r3, up_e]
      rw [b5] at hb
      exact r4.2 j (by omega) hb
  · rw [show (w.toInt + 1).toNat = y.toNatClampNeg + 2 by omega, show (y.toInt + 1).toNat = y.toNatClampNeg + 1 by omega]
    refine sV_push (by omega) l5 ?_
    rw [l5D, ← el]
    exact cb_clr e1 e2 e3 ci hc
/-! barred stays at most 32 -/
def BB (t : GS) (d : Int) : Prop := ∀ e : Nat, (e : Int) ≤ d → (t.1 143 e).toInt ≤ 32
theorem bb_le {t t2 : GS} {d d2 : Int} (h : BB t d) (e : t2.1 143 = t.1 143) (hd : d2 ≤ d) : BB t2 d2 := fun i hi => by rw [e]; exact h i (by omega)
theorem bb_up {t t1 t2 : GS} {y w u : Int32} (h : BB t y.toInt) (a : t1.1 143 = t.1 143) (p : t2.1 143 = upd (t1.1 143) w.toNatClampNeg u) (hw : w.toInt = y.toInt + 1) (hu : u.toInt ≤ 32) : BB t2 w.toInt := by
  intro e he
  rw [p]
  by_cases q : e = w.toNatClampNeg
  · rw [q, up_e]; exact hu
  · rw [up_n q, a]
    have ew : w.toNatClampNeg = w.toInt.toNat := rfl
    exact h e (by omega)
theorem bb_0 {s t : GS} {u : Int32} (p : t.1 143 = upd (s.1 143) (Int32.ofInt 0).toNatClampNeg u) (hu : u.toInt ≤ 32) : BB t (Int32.ofInt 0).toInt := by
  intro e he
  have i0 : (Int32.ofInt 0).toInt = 0 := by decide
  have z0 : (Int32.ofInt 0).toNatClampNeg = 0 := rfl
  rw [p, z0, show e = 0 by omega, up_e]
  exact hu
theorem sV_1 {f : Nat → Int32} : sV f ((Int32.ofInt 0).toInt + 1).toNat < 118059162071741130342400000000000000000000000000000000000 := by
  rw [show ((Int32.ofInt 0).toInt + 1).toNat = 1 by decide]
  have h := cb_le (f 0)
  have m : (cb (f 0) + 1) * 40 ^ 33 ≤ 33 * 40 ^ 33 := Nat.mul_le_mul_right _ (by omega)
  show 0 + (cb (f 0) + 1) * 40 ^ (33 - 0) < 118059162071741130342400000000000000000000000000000000000
  rw [Nat.zero_add]
  exact Nat.lt_of_le_of_lt m (by decide)
