/-! THE REFERENCE'S LEAST PRICES -/
/-- arcs that are left, with flow f -/
def RQf (s : GS) (f : Nat → Int64) (u v : Nat) (w : Int) : Prop := ∃ a : Nat, a < 160 ∧ (s.1 112 (bs s + a)).toInt ≠ 0 ∧ (((f a).toInt < (s.1 116 (bs s + a)).toInt ∧ (s.1 113 (bs s + a)).toNatClampNeg = u ∧ (s.1 114 (bs s + a)).toNatClampNeg = v ∧ w = (s.1 115 (bs s + a)).toInt) ∨ (0 < (f a).toInt ∧ (s.1 114 (bs s + a)).toNatClampNeg = u ∧ (s.1 113 (bs s + a)).toNatClampNeg = v ∧ w = -(s.1 115 (bs s + a)).toInt))
def CP (s : GS) : Prop := ∃ pi : Nat → Int, FE (RQf s (s.2.1 147)) pi
theorem nat_in {y : Int32} {n : Int} (h : In y 0 31) (h2 : y.toInt < n) : y.toNatClampNeg < 32 ∧ (y.toNatClampNeg : Int) < n := by
  have e : y.toNatClampNeg = y.toInt.toNat := rfl
  obtain ⟨a, b⟩ := h
  constructor <;> omega
theorem rq_n {s : GS} (hI : Inv s) {f : Nat → Int64} {u v : Nat} {w : Int} (h : RQf s f u v w) : (u < 32 ∧ (u : Int) < (s.2.2.1 109 20).toInt) ∧ (v < 32 ∧ (v : Int) < (s.2.2.1 109 20).toInt) ∧ -1000000 ≤ w ∧ w ≤ 1000000 := by
  obtain ⟨a, ha, ht, h⟩ := h
  have hn := arc_n hI ha ht
  have hb : In (s.2.2.1 109 19) 0 160 := inv_F hI 0 160 rfl rfl
  obtain ⟨b1, b2⟩ := hb
  have eb : bs s = (s.2.2.1 109 19).toInt.toNat := rfl
  have hw : In (s.1 115 (bs s + a)) (-1000000) 1000000 := hI.1.1 115 (bs s + a) (show bs s + a < 480 by omega)
  obtain ⟨w1, w2⟩ := hw
  have n1 := nat_in hn.1.1 hn.1.2
  have n2 := nat_in hn.2.1.1 hn.2.1.2
  rcases h with ⟨-, e1, e2, e3⟩ | ⟨-, e1, e2, e3⟩
  · rw [e1] at n1; rw [e2] at n2
    exact ⟨n1, n2, by omega, by omega⟩
  · rw [e1] at n2; rw [e2] at n1
    exact ⟨n2, n1, by omega, by omega⟩
theorem rq_b {s : GS} (hI : Inv s) {f : Nat → Int64} : RB (RQf s f) := fun _ _ _ h => ⟨(rq_n hI h).1.1, (rq_n hI h).2.1.1, (rq_n hI h).2.2⟩
noncomputable def pq (s : GS) : Nat → Int := Classical.epsilon (fun q : Nat → Int => (∀ v, v < 32 → 0 ≤ q v ∧ q v ≤ 32000000) ∧ FE (RQf s (s.2.1 147)) q)
theorem pq_ok {s : GS} (hI : Inv s) (h : CP s) : (∀ v, v < 32 → 0 ≤ pq s v ∧ pq s v ≤ 32000000) ∧ FE (RQf s (s.2.1 147)) (pq s) := by
  obtain ⟨pi, hf⟩ := h
  exact Classical.epsilon_spec (squeezeI (rq_b hI) hf)
def pf (s : GS) (v : Nat) : Int := if (v : Int) < (s.2.2.1 109 20).toInt then (s.2.1 149 v).toInt else 9000000000000000
def wq (s : GS) (v : Nat) : Int := if 200 ≤ (s.1 148 v).toInt then -(s.1 115 (bs s + ar s v)).toInt else (s.1 115 (bs s + ar s v)).toInt
def SQ (s t : GS) : Prop := t.1 112 = s.1 112 ∧ t.1 113 = s.1 113 ∧ t.1 114 = s.1 114 ∧ t.1 115 = s.1 115 ∧ t.1 116 = s.1 116 ∧ t.2.1 147 = s.2.1 147 ∧ t.2.2.1 109 19 = s.2.2.1 109 19 ∧ t.2.2.1 109 20 = s.2.2.1 109 20
theorem sq_bs {s t : GS} (h : SQ s t) : bs t = bs s := by unfold bs; rw [h.2.2.2.2.2.2.1]
theorem rq_cg {s t : GS} (h : SQ s t) (f : Nat → Int64) : RQf t f = RQf s f := by
  have hb := sq_bs h
  obtain ⟨h1, h2, h3, h4, h5, h6, h7, h8⟩ := h
  funext u v w
  unfold RQf
  rw [h1, h2, h3, h4, h5, hb]
/-- v's arc is left, by the row back -/
def BQ (s t : GS) (v : Nat) : Prop := ∃ a : Nat, a < 160 ∧ (s.1 112 (bs s + a)).toInt ≠ 0 ∧ (((t.1 148 v).toInt = (a : Int) ∧ (s.1 114 (bs s + a)).toNatClampNeg = v ∧ (s.2.1 147 a).toInt < (s.1 116 (bs s + a)).toInt) ∨ ((t.1 148 v).toInt = 200 + (a : Int) ∧ (s.1 113 (bs s + a)).toNatClampNeg = v ∧ 0 < (s.2.1 147 a).toInt))
def CI (s : GS) (x : Int) (t : GS) : Prop := BI (RQf s (s.2.1 147)) (pq s) (pq s x.toNat) (fun v => (v : Int) = x) (pf t) (bf t) (wq t) ∧ pf t x.toNat = 0 ∧ (∀ v : Nat, v < 32 → (v : Int) < (s.2.2.1 109 20).toInt → (0 ≤ (t.1 148 v).toInt ↔ (t.2.1 149 v).toInt < 9000000000000000)) ∧ ∀ v : Nat, v < 32 → (v : Int) < (s.2.2.1 109 20).toInt → (v : Int) ≠ x → 0 ≤ (t.1 148 v).toInt → BQ s t v
noncomputable def mq (s : GS) (x : Int) (t : GS) : Nat := msr (pq s) (pq s x.toNat) (pf t)
theorem pf_n {s t : GS} {v : Nat} (h : t.2.2.1 109 20 = s.2.2.1 109 20) (hv : (v : Int) < (s.2.2.1 109 20).toInt) : pf t v = (t.2.1 149 v).toInt := by
  unfold pf
  rw [if_pos (by rw [h]; exact hv)]
theorem ci_b {s t : GS} {x : Int} (hI : Inv s) (hp : CP s) (hx : x < 32) (st : SQ s t) (h : CI s x t) {v : Nat} (hv : v < 32) (hn : (v : Int) < (s.2.2.1 109 20).toInt) (h9 : (t.2.1 149 v).toInt < 9000000000000000) : -32000000 ≤ (t.2.1 149 v).toInt ∧ (t.2.1 149 v).toInt ≤ 31000000 := by
  have ok := pq_ok hI hp
  have e := pf_n (s := s) (t := t) st.2.2.2.2.2.2.2 hn
  rw [← e] at h9 ⊢
  exact bi_b ⟨ok.1, ok.1 _ (by omega)⟩ h.1 hv h9
theorem ci_m {s t : GS} {x : Int} (h : CI s x t) : mq s x t ≤ 3200000000 := by
  obtain ⟨⟨-, τ, t1, -⟩, -⟩ := h
  have := t1 0 (by omega)
  unfold mq
  omega
theorem ci_ch {s t : GS} {x : Int} {v u0 : Nat} {w : Int} {z : Int64} {b : Int32} (hI : Inv s) (hp : CP s) (hx0 : 0 ≤ x) (hx : x < 32) (st : SQ s t) (h : CI s x t) (hr : RQf s (s.2.1 147) u0 v w) (hu : pf t u0 < 9000000000000000) (hz : z.toInt = pf t u0 + w) (hlt : z.toInt < (t.2.1 149 v).toInt) (hb : 0 ≤ b.toInt)
    (e3 : bf (sI (sL t 149 v z) 148 v b) v = u0) (e5 : wq (sI (sL t 149 v z) 148 v b) v = w) (hq : BQ s (sI (sL t 149 v z) 148 v b) v) : CI s x (sI (sL t 149 v z) 148 v b) ∧ mq s x (sI (sL t 149 v z) 148 v b) < mq s x t := by
  obtain ⟨h1, h2, h3, h4⟩ := h
  have ok := pq_ok hI hp
  have hn := rq_n hI hr
  have hst : t.2.2.1 109 20 = s.2.2.1 109 20 := st.2.2.2.2.2.2.2
  have hpfv : pf t v = (t.2.1 149 v).toInt := pf_n hst hn.2.1.2
  have hpb : PB2 (pq s) (pq s x.toNat) := ⟨ok.1, ok.1 _ (by omega)⟩
  have bu := bi_b hpb h1 hn.1.1 hu
  have q1 : (sI (sL t 149 v z) 148 v b).2.1 149 = vp_updL (t.2.1 149) v z := by simp [sI, sL]
  have q2 : (sI (sL t 149 v z) 148 v b).1 148 = upd (t.1 148) v b := sI_q
  have f3 : (sI (sL t 149 v z) 148 v b).1 113 = t.1 113 := sI_p rfl
  have f4 : (sI (sL t 149 v z) 148 v b).1 114 = t.1 114 := sI_p rfl
  have f5 : (sI (sL t 149 v z) 148 v b).1 115 = t.1 115 := sI_p rfl
  have fg : (sI (sL t 149 v z) 148 v b).2.2.1 = t.2.2.1 := rfl
  generalize sI (sL t 149 v z) 148 v b = U at e3 e5 hq q1 q2 f3 f4 f5 fg ⊢
  have ub : ∀ y, y ≠ v → U.1 148 y = t.1 148 y := by
    intro y hy
    rw [q2]; unfold upd; rw [if_neg hy]
  have ubv : U.1 148 v = b := by rw [q2]; unfold upd; rw [if_pos rfl]
  have e1 : pf U v = z.toInt := by
    unfold pf
    rw [fg, hst, if_pos hn.2.1.2, q1, ul_eq]
  have e2 : ∀ y, y < 32 → y ≠ v → pf U y = pf t y := by
    intro y _ hy
    unfold pf
    rw [fg, q1, ul_ne hy]
  have e4 : ∀ y, y < 32 → y ≠ v → bf U y = bf t y := by
    intro y _ hy
    unfold bf bs
    rw [fg, f3, f4, ub y hy]
  have e6 : ∀ y, y < 32 → y ≠ v → wq U y = wq t y := by
    intro y _ hy
    unfold wq ar bs
    rw [fg, f5, ub y hy]
  obtain ⟨k1, k2⟩ := bi_relax (rq_b hI) ok.2 hpb h1 hr hu (by rw [hpfv, ← hz]; exact hlt) (by rw [e1, hz]) e2 e3 e4 e5 e6
  refine ⟨⟨k1, ?_, fun y hy hyn => ?_, fun y hy hyn hyx hk => ?_⟩, k2⟩
  · by_cases c : x.toNat = v
    · have k3 := (k1.1 v hn.2.1.1 (by rw [e1]; omega)).1
      rw [c] at k3 h2
      rw [e1] at k3
      rw [hpfv] at h2
      omega
    · rw [e2 _ (by omega) c]; exact h2
  · by_cases c : y = v
    · rw [c, ubv, q1, ul_eq]
      exact ⟨fun _ => by omega, fun _ => hb⟩
    · rw [ub y c, q1, ul_ne c]
      exact h3 y hy hyn
  · by_cases c : y = v
    · rw [c]; exact hq
    · have k := h4 y hy hyn hyx (by rw [← ub y c]; exact hk)
      unfold BQ at k ⊢
      rw [ub y c]; exact k
theorem ci_fw {s t : GS} {x : Int} {y a f w g : Int32} {p z wl : Int64} (hI : Inv s) (hp : CP s) (hx0 : 0 ≤ x) (hx : x < 32) (st : SQ s t) (h : CI s x t) (ha : In a 0 159) (hy : y.toNatClampNeg = bs s + a.toNatClampNeg) (hth : (s.1 112 y.toNatClampNeg).toInt ≠ 0) (hfl : (t.2.1 147 a.toNatClampNeg).toInt < (t.1 116 y.toNatClampNeg).toInt)
    (ef : f = t.1 113 y.toNatClampNeg) (eg : g = t.1 114 y.toNatClampNeg) (ew : w = t.1 115 y.toNatClampNeg) (ep : p = t.2.1 149 f.toNatClampNeg) (hp9 : p.toInt < 9000000000000000) (ez : z = p + wl) (el : wl.toInt = w.toInt) (hlt : z.toInt < (t.2.1 149 g.toNatClampNeg).toInt) : CI s x (sI (sL t 149 g.toNatClampNeg z) 148 g.toNatClampNeg a) ∧ mq s x (sI (sL t 149 g.toNatClampNeg z) 148 g.toNatClampNeg a) < mq s x t := by
  obtain ⟨s2, s3, s4, s5, s6, s7, s8, s9⟩ := id st
  obtain ⟨a1, a2⟩ := ha
  have ea : a.toNatClampNeg = a.toInt.toNat := rfl
  have bt := sq_bs st
  rw [hy] at hth hfl ef eg ew
  rw [s3] at ef
  rw [s4] at eg
  rw [s5] at ew
  rw [s6, s7] at hfl
  have hr : RQf s (s.2.1 147) f.toNatClampNeg g.toNatClampNeg w.toInt := ⟨a.toNatClampNeg, by omega, hth, Or.inl ⟨hfl, by rw [ef], by rw [eg], by rw [ew]⟩⟩
  have hn := rq_n hI hr
  have hu : pf t f.toNatClampNeg = p.toInt := by rw [pf_n s9 hn.1.2, ep]
  have hb := ci_b hI hp hx st h hn.1.1 hn.1.2 (by rw [← ep]; exact hp9)
  rw [← ep] at hb
  have hz : z.toInt = p.toInt + w.toInt := by rw [ladd_t ez (by omega) (by omega), el]
  have q2 : (sI (sL t 149 g.toNatClampNeg z) 148 g.toNatClampNeg a).1 148 g.toNatClampNeg = a := by rw [sI_q]; unfold upd; rw [if_pos rfl]
  have f3 : (sI (sL t 149 g.toNatClampNeg z) 148 g.toNatClampNeg a).1 113 = s.1 113 := (sI_p rfl).trans s3
  have f5 : (sI (sL t 149 g.toNatClampNeg z) 148 g.toNatClampNeg a).1 115 = s.1 115 := (sI_p rfl).trans s5
  have fb : bs (sI (sL t 149 g.toNatClampNeg z) 148 g.toNatClampNeg a) = bs s := bt
  have ar0 : ar (sI (sL t 149 g.toNatClampNeg z) 148 g.toNatClampNeg a) g.toNatClampNeg = a.toNatClampNeg := by
    unfold ar
    rw [q2, if_neg (by omega)]
    rfl
  refine ci_ch hI hp hx0 hx st h hr (by rw [hu]; exact hp9) (by rw [hu]; exact hz) hlt a1 ?_ ?_ ?_
  · unfold bf
    rw [q2, if_neg (by omega), f3, fb, ef]
    rfl
  · unfold wq
    rw [q2, if_neg (by omega), f5, fb, ar0, ew]
  · exact ⟨a.toNatClampNeg, by omega, hth, Or.inl ⟨by rw [q2]; omega, by rw [eg], hfl⟩⟩
theorem ci_bw {s t : GS} {x : Int} {y a b f w g : Int32} {p z wl : Int64} (hI : Inv s) (hp : CP s) (hx0 : 0 ≤ x) (hx : x < 32) (st : SQ s t) (h : CI s x t) (ha : In a 0 159) (hb : b.toInt = 200 + a.toInt) (hy : y.toNatClampNeg = bs s + a.toNatClampNeg) (hth : (s.1 112 y.toNatClampNeg).toInt ≠ 0) (hfl : 0 < (t.2.1 147 a.toNatClampNeg).toInt)
    (ef : f = t.1 114 y.toNatClampNeg) (eg : g = t.1 113 y.toNatClampNeg) (ew : w = t.1 115 y.toNatClampNeg) (ep : p = t.2.1 149 f.toNatClampNeg) (hp9 : p.toInt < 9000000000000000) (ez : z = p - wl) (el : wl.toInt = w.toInt) (hlt : z.toInt < (t.2.1 149 g.toNatClampNeg).toInt) : CI s x (sI (sL t 149 g.toNatClampNeg z) 148 g.toNatClampNeg b) ∧ mq s x (sI (sL t 149 g.toNatClampNeg z) 148 g.toNatClampNeg b) < mq s x t := by
  obtain ⟨s2, s3, s4, s5, s6, s7, s8, s9⟩ := id st
  obtain ⟨a1, a2⟩ := ha
  have ea : a.toNatClampNeg = a.toInt.toNat := rfl
  have bt := sq_bs st
  rw [hy] at hth ef eg ew
  rw [s4] at ef
  rw [s3] at eg
  rw [s5] at ew
  rw [s7] at hfl
  have hr : RQf s (s.2.1 147) f.toNatClampNeg g.toNatClampNeg (-w.toInt) := ⟨a.toNatClampNeg, by omega, hth, Or.inr ⟨hfl, by rw [ef], by rw [eg], by rw [ew]⟩⟩
  have hn := rq_n hI hr
  have hu : pf t f.toNatClampNeg = p.toInt := by rw [pf_n s9 hn.1.2, ep]
  have hbd := ci_b hI hp hx st h hn.1.1 hn.1.2 (by rw [← ep]; exact hp9)
  rw [← ep] at hbd
  have hz : z.toInt = p.toInt - w.toInt := by rw [lsub_t ez (by omega) (by omega), el]
  have q2 : (sI (sL t 149 g.toNatClampNeg z) 148 g.toNatClampNeg b).1 148 g.toNatClampNeg = b := by rw [sI_q]; unfold upd; rw [if_pos rfl]
  have f4 : (sI (sL t 149 g.toNatClampNeg z) 148 g.toNatClampNeg b).1 114 = s.1 114 := (sI_p rfl).trans s4
  have f5 : (sI (sL t 149 g.toNatClampNeg z) 148 g.toNatClampNeg b).1 115 = s.1 115 := (sI_p rfl).trans s5
  have fb : bs (sI (sL t 149 g.toNatClampNeg z) 148 g.toNatClampNeg b) = bs s := bt
  have ar0 : ar (sI (sL t 149 g.toNatClampNeg z) 148 g.toNatClampNeg b) g.toNatClampNeg = a.toNatClampNeg := by
    unfold ar
    rw [q2, if_pos (by omega)]
    omega
  refine ci_ch hI hp hx0 hx st h hr (by rw [hu]; exact hp9) (by rw [hu]; omega) hlt (by omega) ?_ ?_ ?_
  · unfold bf
    rw [q2, if_pos (by omega), f4, fb, ef, show (b.toInt - 200).toNat = a.toNatClampNeg by omega]
  · unfold wq
    rw [q2, if_pos (by omega), f5, fb, ar0, ew]
  · exact ⟨a.toNatClampNeg, by omega, hth, Or.inr ⟨by rw [q2]; omega, by rw [eg], hfl⟩⟩
/-- rounds: closed for the first k arcs where nothing has changed -/
def FWQ (s t : GS) (a : Nat) : Prop := (s.2.1 147 a).toInt < (s.1 116 (bs s + a)).toInt → (t.2.1 149 (s.1 113 (bs s + a)).toNatClampNeg).toInt < 9000000000000000 → (t.2.1 149 (s.1 114 (bs s + a)).toNatClampNeg).toInt ≤ (t.2.1 149 (s.1 113 (bs s + a)).toNatClampNeg).toInt + (s.1 115 (bs s + a)).toInt
def BWQ (s t : GS) (a : Nat) : Prop := 0 < (s.2.1 147 a).toInt → (t.2.1 149 (s.1 114 (bs s + a)).toNatClampNeg).toInt < 9000000000000000 → (t.2.1 149 (s.1 113 (bs s + a)).toNatClampNeg).toInt ≤ (t.2.1 149 (s.1 114 (bs s + a)).toNatClampNeg).toInt - (s.1 115 (bs s + a)).toInt
def CLQ (s t : GS) (k : Nat) : Prop := ∀ a, a < k → (s.1 112 (bs s + a)).toInt ≠ 0 → FWQ s t a ∧ BWQ s t a
def WK (s : GS) (x : Int) (M : Nat) (t : GS) (mo : Int) (k : Nat) : Prop := CI s x t ∧ mq s x t ≤ M ∧ (mo ≠ 0 → mq s x t < M) ∧ (mo = 0 → CLQ s t k)
theorem wk_0 {s t : GS} {x : Int} (h : CI s x t) : WK s x (mq s x t) t 0 0 := ⟨h, Nat.le_refl _, fun z => absurd rfl z, fun _ a ha => absurd ha (Nat.not_lt_zero _)⟩
theorem wk_no {s t : GS} {x mo : Int} {M a : Nat} (h : WK s x M t mo a) (ht : (s.1 112 (bs s + a)).toInt = 0) : WK s x M t mo (a + 1) := by
  refine ⟨h.1, h.2.1, h.2.2.1, fun z k hk hth => ?_⟩
  by_cases c : k = a
  · rw [c] at hth; exact absurd ht hth
  · exact h.2.2.2 z k (by omega) hth
theorem wk_bw {s t : GS} {x mo : Int} {M a : Nat} (h : WK s x M t mo a) (hf : mo = 0 → FWQ s t a) (hb : BWQ s t a) : WK s x M t mo (a + 1) := by
  refine ⟨h.1, h.2.1, h.2.2.1, fun z k hk hth => ?_⟩
  by_cases c : k = a
  · rw [c]; exact ⟨hf z, hb⟩
  · exact h.2.2.2 z k (by omega) hth
theorem wk_ch {s t u : GS} {x mo : Int} {M a : Nat} (h : WK s x M t mo a) (hc : CI s x u ∧ mq s x u < mq s x t) (k : Nat) : WK s x M u 1 k := by
  have := h.2.1
  exact ⟨hc.1, by omega, fun _ => by omega, fun z => by omega⟩
theorem fwq_i {s t : GS} {y a f w g : Int32} {p q z wl : Int64} {x : Int} (hI : Inv s) (hp : CP s) (hx : x < 32) (st : SQ s t) (h : CI s x t) (ha : In a 0 159) (hy : y.toNatClampNeg = bs s + a.toNatClampNeg) (hth : (s.1 112 y.toNatClampNeg).toInt ≠ 0)
    (ef : f = t.1 113 y.toNatClampNeg) (eg : g = t.1 114 y.toNatClampNeg) (ew : w = t.1 115 y.toNatClampNeg) (ep : p = t.2.1 149 f.toNatClampNeg) (hp9 : p.toInt < 9000000000000000) (ez : z = p + wl) (el : wl.toInt = w.toInt) (eq : q = t.2.1 149 g.toNatClampNeg) (hlt : q.toInt ≤ z.toInt) : FWQ s t a.toNatClampNeg := by
  intro hfl h9
  obtain ⟨s2, s3, s4, s5, s6, s7, s8, s9⟩ := id st
  obtain ⟨a1, a2⟩ := ha
  have ea : a.toNatClampNeg = a.toInt.toNat := rfl
  rw [hy] at hth ef eg ew
  rw [s3] at ef
  rw [s4] at eg
  rw [s5] at ew
  have hn := arc_n hI (show a.toNatClampNeg < 160 by omega) hth
  have n1 := nat_in hn.1.1 hn.1.2
  rw [← ef] at h9 n1 ⊢
  rw [← eg, ← ew, ← eq, ← ep]
  have hb := ci_b hI hp hx st h n1.1 n1.2 h9
  rw [← ep] at hb
  have hw : In (s.1 115 (bs s + a.toNatClampNeg)) (-1000000) 1000000 := by
    have hb : In (s.2.2.1 109 19) 0 160 := inv_F hI 0 160 rfl rfl
    obtain ⟨b1, b2⟩ := hb
    have eb : bs s = (s.2.2.1 109 19).toInt.toNat := rfl
    exact hI.1.1 115 (bs s + a.toNatClampNeg) (show bs s + a.toNatClampNeg < 480 by omega)
  rw [← ew] at hw
  obtain ⟨w1, w2⟩ := hw
  have hz : z.toInt = p.toInt + w.toInt := by rw [ladd_t ez (by omega) (by omega), el]
  omega
theorem bwq_i {s t : GS} {y a f w g : Int32} {p q z wl : Int64} {x : Int} (hI : Inv s) (hp : CP s) (hx : x < 32) (st : SQ s t) (h : CI s x t) (ha : In a 0 159) (hy : y.toNatClampNeg = bs s + a.toNatClampNeg) (hth : (s.1 112 y.toNatClampNeg).toInt ≠ 0)
    (ef : f = t.1 114 y.toNatClampNeg) (eg : g = t.1 113 y.toNatClampNeg) (ew : w = t.1 115 y.toNatClampNeg) (ep : p = t.2.1 149 f.toNatClampNeg) (hp9 : p.toInt < 9000000000000000) (ez : z = p - wl) (el : wl.toInt = w.toInt) (eq : q = t.2.1 149 g.toNatClampNeg) (hlt : q.toInt ≤ z.toInt) : BWQ s t a.toNatClampNeg := by
  intro hfl h9
  obtain ⟨s2, s3, s4, s5, s6, s7, s8, s9⟩ := id st
  obtain ⟨a1, a2⟩ := ha
  have ea : a.toNatClampNeg = a.toInt.toNat := rfl
  rw [hy] at hth ef eg ew
  rw [s4] at ef
  rw [s3] at eg
  rw [s5] at ew
  have hn := arc_n hI (show a.toNatClampNeg < 160 by omega) hth
  have n1 := nat_in hn.2.1.1 hn.2.1.2
  rw [← ef] at h9 n1 ⊢
  rw [← eg, ← ew, ← eq, ← ep]
  have hb := ci_b hI hp hx st h n1.1 n1.2 h9
  rw [← ep] at hb
  have hw : In (s.1 115 (bs s + a.toNatClampNeg)) (-1000000) 1000000 := by
    have hb : In (s.2.2.1 109 19) 0 160 := inv_F hI 0 160 rfl rfl
    obtain ⟨b1, b2⟩ := hb
    have eb : bs s = (s.2.2.1 109 19).toInt.toNat := rfl
    exact hI.1.1 115 (bs s + a.toNatClampNeg) (show bs s + a.toNatClampNeg < 480 by omega)
  rw [← ew] at hw
  obtain ⟨w1, w2⟩ := hw
  have hz : z.toInt = p.toInt - w.toInt := by rw [lsub_t ez (by omega) (by omega), el]
  omega
/-- where a way back is tight -/
def TGQ (s : GS) (x : Int) (f : Nat → Int64) (v : Nat) : Prop := ∃ (q : Nat → Int) (A : Nat → Prop), FE (RQf s f) q ∧ A v ∧ ∀ y, A y → (y : Int) ≠ x → A (bf s y) ∧ q y = q (bf s y) + wq s y
def CHE (t : GS) (x : Int) : Prop := SR t x ∧ (∀ v : Nat, v < 32 → (v : Int) < (t.2.2.1 109 20).toInt → (t.2.1 149 v).toInt < 9000000000000000 → 0 ≤ (t.1 148 v).toInt) ∧ ∀ g, ND t g → TGQ t x (t.2.1 147) g
theorem ci_0 {s t : GS} {x : Int32} (hI : Inv s) (hp : CP s) (hx : In x 0 31) (hxn : x.toInt < (s.2.2.1 109 20).toInt) (st : SQ s t) (h : ∀ k : Nat, (k : Int) < (s.2.2.1 109 20).toInt → (t.1 148 k).toInt < 0 ∧ (t.2.1 149 k).toInt = 9000000000000000) : CI s x.toInt (sI (sL t 149 x.toNatClampNeg (Int64.ofInt 0)) 148 x.toNatClampNeg (Int32.ofInt 1000)) := by
  have ok := pq_ok hI hp
  obtain ⟨x0, x1⟩ := hx
  have ex : x.toNatClampNeg = x.toInt.toNat := rfl
  have hst : t.2.2.1 109 20 = s.2.2.1 109 20 := st.2.2.2.2.2.2.2
  have q1 : (sI (sL t 149 x.toNatClampNeg (Int64.ofInt 0)) 148 x.toNatClampNeg (Int32.ofInt 1000)).2.1 149 = vp_updL (t.2.1 149) x.toNatClampNeg (Int64.ofInt 0) := by simp [sI, sL]
  have q2 : (sI (sL t 149 x.toNatClampNeg (Int64.ofInt 0)) 148 x.toNatClampNeg (Int32.ofInt 1000)).1 148 = upd (t.1 148) x.toNatClampNeg (Int32.ofInt 1000) := sI_q
  have fg : (sI (sL t 149 x.toNatClampNeg (Int64.ofInt 0)) 148 x.toNatClampNeg (Int32.ofInt 1000)).2.2.1 = t.2.2.1 := rfl
  generalize sI (sL t 149 x.toNatClampNeg (Int64.ofInt 0)) 148 x.toNatClampNeg (Int32.ofInt 1000) = U at q1 q2 fg ⊢
  have z0 : (Int64.ofInt 0).toInt = 0 := rfl
  have z1 : (Int32.ofInt 1000).toInt = 1000 := rfl
  have pu : ∀ v : Nat, pf U v < 9000000000000000 → v = x.toNatClampNeg := by
    intro v hv
    apply Classical.byContradiction
    intro c
    unfold pf at hv
    rw [fg, hst, q1, ul_ne c] at hv
    split at hv
    · rename_i k
      have := (h v k).2
      omega
    · omega
  have px : pf U x.toNatClampNeg = 0 := by
    unfold pf
    rw [fg, hst, q1, ul_eq, if_pos (by omega)]
    exact z0
  have hne : ∀ v : Nat, v ≠ x.toNatClampNeg → upd (t.1 148) x.toNatClampNeg (Int32.ofInt 1000) v = t.1 148 v := by
    intro v c
    unfold upd
    rw [if_neg c]
  refine ⟨bi_0 ⟨ok.1, ok.1 _ (by omega)⟩ (fun v hv hn => ?_), by rw [← ex]; exact px, fun v hv hn => ?_, fun v hv hn hne2 hk => ?_⟩
  · have e := pu v hn
    rw [e]
    exact ⟨by show ((x.toInt.toNat : Nat) : Int) = x.toInt; omega, px, by rw [ex]; exact Int.le_refl _⟩
  · by_cases c : v = x.toNatClampNeg
    · rw [c, q1, q2, ul_eq]
      unfold upd
      rw [if_pos rfl]
      exact ⟨fun _ => by omega, fun _ => by omega⟩
    · rw [q1, q2, ul_ne c, hne v c]
      have := h v hn
      constructor <;> intro <;> omega
  · exfalso
    have c : v ≠ x.toNatClampNeg := by intro e; apply hne2; rw [e, ex]; omega
    rw [q2, hne v c] at hk
    have := (h v hn).1
    omega
theorem che_e {s t : GS} {x : Int} {M : Nat} (hI : Inv s) (hp : CP s) (hx0 : 0 ≤ x) (hx : x < 32) (st : SQ s t) (h : WK s x M t 0 160) : CHE t x := by
  obtain ⟨hc, -, -, hcl⟩ := h
  have hcl := hcl rfl
  have ok := pq_ok hI hp
  have eR := rq_cg st (s.2.1 147)
  have hb := sq_bs st
  obtain ⟨s2, s3, s4, s5, s6, s7, s8, s9⟩ := id st
  obtain ⟨c1, c2, c3, c4⟩ := id hc
  obtain ⟨r, r1, r2⟩ := bi_rank ok.2 c1
  have fin : ∀ v : Nat, v < 32 → (v : Int) < (s.2.2.1 109 20).toInt → 0 ≤ (t.1 148 v).toInt → pf t v < 9000000000000000 := by
    intro v hv hn hk
    rw [pf_n s9 hn]
    exact (c3 v hv hn).mp hk
  have cl : ∀ u v w, RQf s (s.2.1 147) u v w → pf t u < 9000000000000000 → pf t v ≤ pf t u + w ∧ pf t v < 9000000000000000 := by
    intro u v w hr hu
    have hn := rq_n hI hr
    have eu := pf_n (t := t) s9 hn.1.2
    have ev := pf_n (t := t) s9 hn.2.1.2
    rw [eu] at hu
    have b := ci_b hI hp hx st hc hn.1.1 hn.1.2 hu
    rw [eu, ev]
    have key : (t.2.1 149 v).toInt ≤ (t.2.1 149 u).toInt + w := by
      obtain ⟨a, ha, ht, q⟩ := hr
      have q2 := hcl a ha ht
      rcases q with ⟨q3, q4, q5, q6⟩ | ⟨q3, q4, q5, q6⟩
      · have q7 := q2.1 q3
        rw [q4, q5] at q7
        have := q7 hu
        omega
      · have q7 := q2.2 q3
        rw [q4, q5] at q7
        have := q7 hu
        omega
    exact ⟨key, by omega⟩
  refine ⟨⟨r, fun v hv _ => r1 v hv, fun v hv hn hvx hk => ?_⟩, fun v hv hn h9 => ?_, fun g hg => ?_⟩
  · rw [s9] at hn
    obtain ⟨q1, q2, q3, q4, q5⟩ := r2 v hv (fin v hv hn hk) hvx
    have hn2 := rq_n hI q2
    have hk2 : 0 ≤ (t.1 148 (bf t v)).toInt := by
      rw [pf_n s9 hn2.1.2] at q3
      exact (c3 _ q1 hn2.1.2).mpr q3
    obtain ⟨a, ha, ht, e⟩ := c4 v hv hn hvx hk
    refine ⟨a, ha, ?_⟩
    unfold EF EB
    rw [s2, s3, s4, s6, s7, hb]
    rcases e with ⟨e1, e2, e3⟩ | ⟨e1, e2, e3⟩
    · have eb : bf t v = (s.1 113 (bs s + a)).toNatClampNeg := by unfold bf; rw [if_neg (by omega), s3, hb, show (t.1 148 v).toInt.toNat = a by omega]
      rw [eb] at q4 hk2
      exact Or.inl ⟨e1, ht, e2, hk2, q4, e3⟩
    · have eb : bf t v = (s.1 114 (bs s + a)).toNatClampNeg := by unfold bf; rw [if_pos (by omega), s4, hb, show ((t.1 148 v).toInt - 200).toNat = a by omega]
      rw [eb] at q4 hk2
      exact Or.inr ⟨e1, ht, e2, hk2, q4, e3⟩
  · rw [s9] at hn
    exact (c3 v hv hn).mpr h9
  · obtain ⟨g1, g2, g3⟩ := hg
    rw [s9] at g2
    obtain ⟨q, p1, p2⟩ := bi_pi (c := pq s x.toNat) (p := pf t) ok.2 (fun u v w hr hu => (cl u v w hr hu).1) (fun u v w hr hu => (cl u v w hr hu).2) (g := g)
    rw [s7]
    refine ⟨q, fun y => y < 32 ∧ pf t y < 9000000000000000 ∧ pf t y - pq s y ≤ pf t g - pq s g, by rw [eR]; exact p1, ⟨g1, fin g g1 g2 g3, Int.le_refl _⟩, fun y hy hyx => ?_⟩
    obtain ⟨y1, y2, y3⟩ := hy
    obtain ⟨q1, q2, q3, q4, q5⟩ := r2 y y1 y2 hyx
    have f := ok.2 _ _ _ q2
    have e := (cl _ _ _ q2 q3).1
    refine ⟨⟨q1, q3, by omega⟩, ?_⟩
    rw [p2 y y2 y3, p2 _ q3 (by omega)]
    omega
/-- sends: the way back from the goal, first looked at, then filled -/
def BR (s : GS) (x : Int) (r : Nat → Nat) : Prop := (∀ v, v < 32 → 0 ≤ (s.1 148 v).toInt → r v < 32) ∧ ∀ v, ND s v → (v : Int) ≠ x → r (bf s v) < r v
noncomputable def rkb (f g : Nat → Nat → Int32) (x : Int) : Nat → Nat := Classical.epsilon (fun r : Nat → Nat => ∀ s : GS, s.1 = f → s.2.2.1 = g → BR s x r)
theorem br_ok {s : GS} {x : Int} (hI : Inv s) (h : SR s x) : BR s x (rkb s.1 s.2.2.1 x) := by
  obtain ⟨r, hr⟩ := h
  have h0 : BR s x r := ⟨hr.1, fun v hv hx => (ev_bf hI hr hv hx).2.2.1⟩
  have h1 : ∃ r : Nat → Nat, ∀ t : GS, t.1 = s.1 → t.2.2.1 = s.2.2.1 → BR t x r := by
    refine ⟨r, fun t e1 e2 => ⟨fun v hv hk => h0.1 v hv (by rw [← e1]; exact hk), fun v hv hx => ?_⟩⟩
    rw [bf_cg e1 e2]
    refine h0.2 v ?_ hx
    unfold ND at hv ⊢
    rw [← e1, ← e2]; exact hv
  exact Classical.epsilon_spec h1 s rfl rfl
theorem tgq_s {s : GS} {x m : Int} {f : Nat → Int64} {v : Nat} {w : Int64} (hI : Inv s) (hr : SR s x) (hv : ND s v) (hx : (v : Int) ≠ x) (hm : 1 ≤ m) (hw : w.toInt = (f (ar s v)).toInt + (if 200 ≤ (s.1 148 v).toInt then -m else m)) (h : TGQ s x f v) : TGQ s x (vp_updL f (ar s v) w) (bf s v) := by
  obtain ⟨r, hr⟩ := hr
  obtain ⟨q1, q2, q3, q4, q5, q6, q7⟩ := ev_bf hI hr hv hx
  obtain ⟨p, A, h1, h2, h3⟩ := h
  obtain ⟨h4, h5⟩ := h3 v h2 hx
  refine ⟨p, A, fun a b c hq => ?_, h4, h3⟩
  obtain ⟨k, k1, k2, k3⟩ := hq
  by_cases e : k = ar s v
  · rw [e, ul_eq] at k3
    rw [e] at k1 k2
    unfold wq at h5
    rcases q7 with q7 | q7
    · rw [if_pos q7.1] at hw h5
      rcases k3 with ⟨g1, g2, g3, g4⟩ | ⟨g1, g2, g3, g4⟩
      · rw [q7.2.1] at g2
        rw [q7.2.2] at g3
        rw [← g2, ← g3]; omega
      · exact h1 a b c ⟨ar s v, k1, k2, Or.inr ⟨by omega, g2, g3, g4⟩⟩
    · rw [if_neg (by omega)] at hw h5
      rcases k3 with ⟨g1, g2, g3, g4⟩ | ⟨g1, g2, g3, g4⟩
      · exact h1 a b c ⟨ar s v, k1, k2, Or.inl ⟨by omega, g2, g3, g4⟩⟩
      · rw [q7.2.1] at g2
        rw [q7.2.2] at g3
        rw [← g2, ← g3]; omega
  · rw [ul_ne e] at k3
    exact h1 a b c ⟨k, k1, k2, k3⟩
def CO (s : GS) : Prop := FB s (s.2.1 147) ∧ CP s
theorem co_cg {s t : GS} (h : CO s) (st : SQ s t) : CO t := by
  obtain ⟨h1, q, h2⟩ := h
  obtain ⟨s2, s3, s4, s5, s6, s7, s8, s9⟩ := id st
  refine ⟨by rw [s7]; exact FB_cg h1 s2 s6 s8, q, ?_⟩
  rw [rq_cg st, s7]; exact h2
def PL (S : GS) (x m : Int) (g v : Nat) : Prop := ∃ s0 : GS, Inv s0 ∧ S.1 = s0.1 ∧ S.2.2.1 = s0.2.2.1 ∧ SR s0 x ∧ PBW s0 x m g (S.2.1 147) v ∧ TGQ s0 x (S.2.1 147) v
theorem pl_0 {S : GS} {x m : Int} {g k v : Nat} (hI : Inv S) (hc : CHE S x) (hf : FB S (S.2.1 147)) (h : WY S x m g k) (hv : v = it S g k) (hx : (v : Int) = x) (hg : (g : Int) ≠ x) (hn : ND S g) : PL S x m g g := ⟨S, hI, rfl, rfl, hc.1, pbw_0 h hv hx hg hf, hc.2.2 g hn⟩
theorem pl_s {S W : GS} {x m : Int} {g v z : Nat} (h : PL S x m g v) (hx : (v : Int) ≠ x) (hm1 : 1 ≤ m) (hm2 : m ≤ 1000000000) (hp : PU S W v m) (hz : z = bf S v) (e1 : W.1 = S.1) (e2 : W.2.2.1 = S.2.2.1) : PL W x m g z := by
  obtain ⟨s0, hI, h1, h2, hr, hb, ht⟩ := h
  have hb2 := pbw_pu hI hr h1 h2 hb hx hm1 hm2 hp hz
  obtain ⟨y, p1, p2⟩ := hp
  have hnd := pbw_nd hb hx
  obtain ⟨r, hr2⟩ := id hr
  obtain ⟨q1, q2, q3, q4, q5, q6, q7⟩ := ev_bf hI hr2 hnd hx
  have hfb := pbw_fb hb (ar s0 v) q5 q6
  have hn := (arc_n hI q5 q6).2.2.2
  have p3 := p2 (by unfold FO; rw [ar_cg h1]; exact ⟨by omega, by omega⟩) (by omega) hm2
  rw [ar_cg h1, h1] at p3
  have ht2 := tgq_s hI hr hnd hx hm1 p3 ht
  refine ⟨s0, hI, e1.trans h1, e2.trans h2, hr, hb2, ?_⟩
  rw [p1, ar_cg h1, hz, bf_cg h1 h2]
  exact ht2
theorem pl_i {S : GS} {x m : Int} {g v : Nat} (h : PL S x m g v) (hx : (v : Int) ≠ x) : BE S v ∧ rkb S.1 S.2.2.1 x (bf S v) < rkb S.1 S.2.2.1 x v := by
  obtain ⟨s0, hI, h1, h2, hr, hb, ht⟩ := h
  have hnd := pbw_nd hb hx
  obtain ⟨r, hr2⟩ := id hr
  have q := ev_bf hI hr2 hnd hx
  refine ⟨be_cg h1 q.1, ?_⟩
  rw [bf_cg h1 h2, h1, h2]
  exact (br_ok hI hr).2 v hnd hx
theorem pl_e {S : GS} {x m : Int} {g v : Nat} (h : PL S x m g v) (hx : (v : Int) = x) : CO S := by
  obtain ⟨s0, hI, h1, h2, hr, hb, q, A, ht, -⟩ := h
  refine ⟨FB_cg (pbw_e hb hx).1 (by rw [h1]) (by rw [h1]) (by rw [h2]), q, ?_⟩
  have e : RQf S (S.2.1 147) = RQf s0 (S.2.1 147) := by
    funext a b c
    unfold RQf bs
    rw [h1, h2]
  rw [e]; exact ht
/-- what is to be sent on -/
def SB (B : Int) (s : GS) (f : Nat → Int64) : Prop := ∀ v : Nat, v < 32 → (v : Int) < (s.2.2.1 109 20).toInt → -B ≤ (f v).toInt ∧ (f v).toInt ≤ B
def SU (s : GS) : Prop := SB 600000000 s (s.2.1 150)
def MO (s : GS) (x g : Nat) (m : Int) : Prop := 1 ≤ m ∧ m ≤ (s.2.1 150 x).toInt ∧ m ≤ -(s.2.1 150 g).toInt ∧ m ≤ 600000000
theorem lneg_t {y z : Int64} (hz : z = -y) (h1 : -4000000000000000000 ≤ y.toInt) (h2 : y.toInt ≤ 4000000000000000000) : z.toInt = -y.toInt := by
  rw [hz, Int64.toInt_neg]
  exact Int.bmod_eq_of_le (by omega) (by omega)
theorem mo_1 {s : GS} {x g : Int32} {a b nb z : Int64} (hs : SU s) (hx : In x 0 31) (hg : In g 0 31) (hxn : x.toInt < (s.2.2.1 109 20).toInt) (hgn : g.toInt < (s.2.2.1 109 20).toInt) (hp : 0 < (s.2.1 150 x.toNatClampNeg).toInt) (ha : a = s.2.1 150 x.toNatClampNeg) (hb : b = s.2.1 150 g.toNatClampNeg) (hn : nb = -b) (hz : z = s.2.1 150 x.toNatClampNeg) (hlt : a.toInt < nb.toInt) : MO s x.toNatClampNeg g.toNatClampNeg z.toInt := by
  have n1 := nat_in hx hxn
  have n2 := nat_in hg hgn
  have h1 := hs _ n1.1 n1.2
  have h2 := hs _ n2.1 n2.2
  have h3 := lneg_t hn (by rw [hb]; omega) (by rw [hb]; omega)
  rw [ha, h3, hb] at hlt
  rw [hz]
  exact ⟨by omega, by omega, by omega, by omega⟩
theorem mo_2 {s : GS} {x g : Int32} {a b b2 nb z : Int64} (hs : SU s) (hx : In x 0 31) (hg : In g 0 31) (hxn : x.toInt < (s.2.2.1 109 20).toInt) (hgn : g.toInt < (s.2.2.1 109 20).toInt) (hp : (s.2.1 150 g.toNatClampNeg).toInt < 0) (ha : a = s.2.1 150 x.toNatClampNeg) (hb : b = s.2.1 150 g.toNatClampNeg) (hn : nb = -b) (hb2 : b2 = s.2.1 150 g.toNatClampNeg) (hz : z = -b2) (hlt : nb.toInt ≤ a.toInt) : MO s x.toNatClampNeg g.toNatClampNeg z.toInt := by
  have n1 := nat_in hx hxn
  have n2 := nat_in hg hgn
  have h1 := hs _ n1.1 n1.2
  have h2 := hs _ n2.1 n2.2
  have h3 := lneg_t hn (by rw [hb]; omega) (by rw [hb]; omega)
  have h4 := lneg_t hz (by rw [hb2]; omega) (by rw [hb2]; omega)
  rw [ha, h3, hb] at hlt
  rw [h4, hb2]
  exact ⟨by omega, by omega, by omega, by omega⟩
theorem gd_i {S s : GS} {x g : Int32} (hc : CHE S x.toInt) (hg : In g 0 31) (hx : In x 0 31) (hn : g.toInt < (S.2.2.1 109 20).toInt) (h2 : (S.2.1 150 g.toNatClampNeg).toInt < 0) (h3 : (S.2.1 149 g.toNatClampNeg).toInt < 9000000000000000) (hr : S.2.1 150 = s.2.1 150) (hp : 0 < (s.2.1 150 x.toNatClampNeg).toInt) : ND S g.toNatClampNeg ∧ (g.toNatClampNeg : Int) ≠ x.toInt := by
  have n1 := nat_in hg hn
  refine ⟨⟨n1.1, n1.2, hc.2.1 _ n1.1 n1.2 h3⟩, fun e => ?_⟩
  have e2 : g.toNatClampNeg = x.toNatClampNeg := by
    have ex : x.toNatClampNeg = x.toInt.toNat := rfl
    omega
  rw [hr, e2] at h2
  omega
theorem su_t {s T : GS} {x g : Nat} {a1 a2 z1 z2 m : Int64} (hs : SU s) (hx : x < 32) (hxn : (x : Int) < (s.2.2.1 109 20).toInt) (hg : g < 32) (hgn : (g : Int) < (s.2.2.1 109 20).toInt) (hne : g ≠ x) (hm : MO s x g m.toInt) (e1 : a1 = s.2.1 150 x) (e2 : z1 = a1 - m) (e3 : a2 = vp_updL (s.2.1 150) x z1 g) (e4 : z2 = a2 + m) (hT : T.2.1 150 = vp_updL (vp_updL (s.2.1 150) x z1) g z2) (hn : T.2.2.1 109 20 = s.2.2.1 109 20) : SU T ∧ (T.2.1 150 x).toInt < (s.2.1 150 x).toInt ∧ 0 ≤ (T.2.1 150 x).toInt := by
  have hx1 := hs x hx hxn
  have hg1 := hs g hg hgn
  obtain ⟨m1, m2, m3, m4⟩ := hm
  rw [ul_ne hne] at e3
  have t1 : z1.toInt = (s.2.1 150 x).toInt - m.toInt := by rw [lsub_t e2 (by rw [e1]; omega) (by rw [e1]; omega), e1]
  have t2 : z2.toInt = (s.2.1 150 g).toInt + m.toInt := by rw [ladd_t e4 (by rw [e3]; omega) (by rw [e3]; omega), e3]
  have tx : (T.2.1 150 x).toInt = z1.toInt := by rw [hT, ul_ne (fun e => hne e.symm), ul_eq]
  refine ⟨fun v hv hvn => ?_, by omega, by omega⟩
  rw [hn] at hvn
  rw [hT]
  by_cases c : v = g
  · rw [c, ul_eq]; constructor <;> omega
  · rw [ul_ne c]
    by_cases c2 : v = x
    · rw [c2, ul_eq]; constructor <;> omega
    · rw [ul_ne c2]; exact hs v hv hvn
/-- cost: arcs that earn are full -/
def IFQ (s : GS) (f : Nat → Int64) (k : Nat) : Prop := ∀ a, a < k → (s.1 112 (bs s + a)).toInt ≠ 0 → (f a).toInt = if (s.1 115 (bs s + a)).toInt < 0 then (s.1 116 (bs s + a)).toInt else 0
theorem ifq_s {s : GS} {f : Nat → Int64} {k : Nat} {w : Int64} (h : IFQ s f k) (hw : (s.1 112 (bs s + k)).toInt ≠ 0 → w.toInt = if (s.1 115 (bs s + k)).toInt < 0 then (s.1 116 (bs s + k)).toInt else 0) : IFQ s (vp_updL f k w) (k + 1) := by
  intro a ha ht
  by_cases c : a = k
  · rw [c, ul_eq]; rw [c] at ht; exact hw ht
  · rw [ul_ne c]; exact h a (by omega) ht
theorem co_0 {s t : GS} (hI : Inv s) (st : t.1 112 = s.1 112 ∧ t.1 113 = s.1 113 ∧ t.1 114 = s.1 114 ∧ t.1 115 = s.1 115 ∧ t.1 116 = s.1 116 ∧ t.2.2.1 109 19 = s.2.2.1 109 19) (h : IFQ s (t.2.1 147) 160) : CO t := by
  obtain ⟨s2, s3, s4, s5, s6, s8⟩ := st
  have hb : bs t = bs s := by unfold bs; rw [s8]
  refine ⟨FB_cg (s := s) (fun a ha ht => ?_) s2 s6 s8, fun _ => 0, fun u v w hr => ?_⟩
  · have e := h a ha ht
    obtain ⟨r1, r2⟩ := (arc_n hI ha ht).2.2
    rw [e]
    split <;> constructor <;> omega
  · obtain ⟨a, ha, ht, q⟩ := hr
    rw [s2, hb] at ht
    have e := h a ha ht
    rw [s3, s4, s5, s6, hb, e] at q
    dsimp only
    rcases q with ⟨q1, q2, q3, q4⟩ | ⟨q1, q2, q3, q4⟩
    · split at q1 <;> omega
    · split at q1 <;> omega
theorem sb_s {B C : Int} {s : GS} {f : Nat → Int64} {v : Nat} {w : Int64} (h : SB B s f) (hBC : B ≤ C) (hw : v < 32 → (v : Int) < (s.2.2.1 109 20).toInt → -C ≤ w.toInt ∧ w.toInt ≤ C) : SB C s (vp_updL f v w) := by
  intro x hx hn
  by_cases c : x = v
  · rw [c, ul_eq]; rw [c] at hx hn; exact hw hx hn
  · rw [ul_ne c]
    have := h x hx hn
    constructor <;> omega
theorem sb_w {B C : Int} {s : GS} {f : Nat → Int64} (h : SB B s f) (hBC : B ≤ C) : SB C s f := by
  intro x hx hn
  have := h x hx hn
  constructor <;> omega
theorem sb_2 {B : Int} {s : GS} {r : Nat → Int64} {f t : Nat} {a1 a2 z1 z2 w w1 w2 : Int64} (h : SB B s r) (hB0 : 0 ≤ B) (hB1 : B ≤ 1000000000) (hw : -1000000 ≤ w.toInt ∧ w.toInt ≤ 1000000) (e1 : a1 = r f) (e2 : z1 = a1 - w1) (ew1 : w1 = w) (e3 : a2 = vp_updL r f z1 t) (e4 : z2 = a2 + w2) (ew2 : w2 = w) : SB (B + 2000000) s (vp_updL (vp_updL r f z1) t z2) := by
  subst ew1
  subst ew2
  have h1 : SB (B + 1000000) s (vp_updL r f z1) := sb_s h (by omega) (fun hv hn => by
    have q := h f hv hn
    rw [← e1] at q
    rw [lsub_t e2 (by omega) (by omega)]
    constructor <;> omega)
  refine sb_s h1 (by omega) (fun hv hn => ?_)
  have q := h1 t hv hn
  rw [← e3] at q
  rw [ladd_t e4 (by omega) (by omega)]
  constructor <;> omega
