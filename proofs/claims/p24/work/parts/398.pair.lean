/-! PAIRS OF THE REFERENCE -/
abbrev FSQ (s : GS) (v : Nat) : Prop := (s.1 111 (32 * (s.2.2.1 109 18).toNatClampNeg + v)).toInt < 13
abbrev nnq (s : GS) : Int := (s.2.2.1 109 20).toInt
def pwq (s : GS) (u v : Nat) : Int := (s.2.1 152 (32 * u + v)).toInt
def PWI (s : GS) : Prop := ∀ u v : Nat, u < 32 → v < 32 → pwq s u v < 9000000000000000 → (u : Int) < nnq s ∧ (v : Int) < nnq s ∧ FSQ s u ∧ ¬ FSQ s v ∧ -1000000 ≤ pwq s u v ∧ pwq s u v ≤ 1000000
/-- mates, where the second one e is in doubt -/
def MTQ (s : GS) (m : Nat → Int32) (e : Int) : Prop :=
  (∀ x : Nat, x < 32 → (x : Int) < nnq s → FSQ s x → 0 ≤ (m x).toInt → (m x).toInt ≠ e ∧ (m x).toNatClampNeg < 32 ∧ pwq s x (m x).toNatClampNeg < 9000000000000000 ∧ (m (m x).toNatClampNeg).toInt = (x : Int)) ∧
  (∀ y : Nat, y < 32 → (y : Int) < nnq s → ¬ FSQ s y → (y : Int) ≠ e → 0 ≤ (m y).toInt → (m y).toNatClampNeg < 32 ∧ ((m y).toNatClampNeg : Int) < nnq s ∧ FSQ s (m y).toNatClampNeg ∧ (m (m y).toNatClampNeg).toInt = (y : Int))
def RPQ (s : GS) (m : Nat → Int32) (u v : Nat) (w : Int) : Prop := u < 32 ∧ v < 32 ∧ ((pwq s u v < 9000000000000000 ∧ w = pwq s u v) ∨ ((v : Int) < nnq s ∧ FSQ s v ∧ (m v).toInt = (u : Int) ∧ pwq s v u < 9000000000000000 ∧ w = -pwq s v u))
theorem rp_b {s : GS} (h : PWI s) {m : Nat → Int32} : RB (RPQ s m) := by
  intro u v w hr
  obtain ⟨hu, hv, hr⟩ := hr
  rcases hr with ⟨h1, h2⟩ | ⟨-, -, -, h1, h2⟩
  · have q := (h u v hu hv h1).2.2.2.2
    exact ⟨hu, hv, by omega, by omega⟩
  · have q := (h v u hv hu h1).2.2.2.2
    exact ⟨hu, hv, by omega, by omega⟩
def PP (s : GS) : Prop := PWI s ∧ MTQ s (s.1 151) (-1) ∧ ∃ pi : Nat → Int, FE (RPQ s (s.1 151)) pi
noncomputable def pqp (s : GS) : Nat → Int := Classical.epsilon (fun q : Nat → Int => (∀ v, v < 32 → 0 ≤ q v ∧ q v ≤ 32000000) ∧ FE (RPQ s (s.1 151)) q)
theorem pqp_ok {s : GS} (h : PP s) : (∀ v, v < 32 → 0 ≤ pqp s v ∧ pqp s v ≤ 32000000) ∧ FE (RPQ s (s.1 151)) (pqp s) := by
  obtain ⟨hW, -, pi, hf⟩ := h
  exact Classical.epsilon_spec (squeezeI (rp_b hW) hf)
theorem pqp_2 {s : GS} (h : PP s) : PB2 (pqp s) 32000000 := ⟨(pqp_ok h).1, by omega, by omega⟩
def spq (s : GS) (v : Nat) : Prop := FSQ s v ∧ (s.1 151 v).toInt < 0
def pdp (s t : GS) (v : Nat) : Nat := if (s.1 111 (32 * (s.2.2.1 109 18).toNatClampNeg + v)).toInt < 13 then (s.1 151 v).toNatClampNeg else (t.1 148 v).toNatClampNeg
def wtp (s t : GS) (v : Nat) : Int := if (s.1 111 (32 * (s.2.2.1 109 18).toNatClampNeg + v)).toInt < 13 then -pwq s v (s.1 151 v).toNatClampNeg else pwq s (t.1 148 v).toNatClampNeg v
def CIP (s t : GS) : Prop := BI (RPQ s (s.1 151)) (pqp s) 32000000 (spq s) (pf t) (pdp s t) (wtp s t) ∧
  (∀ y : Nat, y < 32 → (y : Int) < nnq s → ¬ FSQ s y → 0 ≤ (s.1 151 y).toInt → (pf t y < 9000000000000000 → pf t (s.1 151 y).toNatClampNeg = pf t y - pwq s (s.1 151 y).toNatClampNeg y) ∧ (¬ pf t y < 9000000000000000 → ¬ pf t (s.1 151 y).toNatClampNeg < 9000000000000000)) ∧
  ∀ y : Nat, y < 32 → (y : Int) < nnq s → ¬ FSQ s y → pf t y < 9000000000000000 → 0 ≤ (t.1 148 y).toInt ∧ (t.1 148 y).toInt ≤ 31
noncomputable def mqp (s t : GS) : Nat := msr (pqp s) 32000000 (pf t)
theorem cip_m {s t : GS} (h : CIP s t) : mqp s t ≤ 3200000000 := by
  obtain ⟨⟨-, τ, t1, -⟩, -⟩ := h
  have := t1 0 (by omega)
  unfold mqp
  omega
theorem nat32 {y : Int32} (h : In y 0 31) : y.toNatClampNeg < 32 ∧ (y.toNatClampNeg : Int) = y.toInt := by
  have e : y.toNatClampNeg = y.toInt.toNat := rfl
  obtain ⟨a, b⟩ := h
  constructor <;> omega
theorem kp32 {k u v : Int32} (hk : In k 0 1023) (hu : u = k / Int32.ofInt 32) (hv : v = k - k / Int32.ofInt 32 * Int32.ofInt 32) : k.toNatClampNeg = 32 * u.toNatClampNeg + v.toNatClampNeg := by
  have h := t_div hu hk rfl
  obtain ⟨x1, x2⟩ := hk
  have e : (Int32.ofInt 32).toInt = 32 := rfl
  have e1 : (k / Int32.ofInt 32 * Int32.ofInt 32).toInt = 32 * (k.toInt / 32) := by
    rw [Int32.toInt_mul, ← hu, h, e, Int.mul_comm]
    exact Int.bmod_eq_of_le (by omega) (by omega)
  have e2 : v.toInt = k.toInt - 32 * (k.toInt / 32) := by
    rw [hv, Int32.toInt_sub, e1]
    exact Int.bmod_eq_of_le (by omega) (by omega)
  show k.toInt.toNat = 32 * u.toInt.toNat + v.toInt.toNat
  omega
theorem pfx {s t : GS} {v : Nat} (h : t.2.2.1 109 20 = s.2.2.1 109 20) (hv : (v : Int) < nnq s) : pf t v = (t.2.1 149 v).toInt := pf_n h hv
theorem cip_0 {s t : GS} (hP : PP s) (hn : t.2.2.1 109 20 = s.2.2.1 109 20) (h : ∀ k : Nat, (k : Int) < nnq s → (spq s k → (t.2.1 149 k).toInt = 0) ∧ (¬ spq s k → (t.2.1 149 k).toInt = 9000000000000000)) : CIP s t := by
  have fin : ∀ v : Nat, pf t v < 9000000000000000 → (v : Int) < nnq s ∧ spq s v ∧ pf t v = 0 := by
    intro v hv
    by_cases c : (v : Int) < nnq s
    · rw [pfx hn c] at hv ⊢
      by_cases c2 : spq s v
      · exact ⟨c, c2, (h v c).1 c2⟩
      · have := (h v c).2 c2
        omega
    · exfalso
      unfold pf at hv
      rw [hn, if_neg c] at hv
      omega
  refine ⟨bi_0 (pqp_2 hP) (fun v hv hq => ⟨(fin v hq).2.1, (fin v hq).2.2, ((pqp_ok hP).1 v hv).2⟩), fun y hy hyn hf hm => ⟨fun hq => absurd (fin y hq).2.1.1 hf, fun _ hq => ?_⟩, fun y hy hyn hf hq => absurd (fin y hq).2.1.1 hf⟩
  have a := (hP.2.1.2 y hy hyn hf (by omega) hm).2.2.2
  have b := (fin _ hq).2.1.2
  omega
/-- a change at v, by u -/
theorem cip_c {s t : GS} {k u v : Int32} {p w z : Int64} (hP : PP s) (hn : t.2.2.1 109 20 = s.2.2.1 109 20) (h : CIP s t) (hu : In u 0 31) (hv : In v 0 31) (hk : k.toNatClampNeg = 32 * u.toNatClampNeg + v.toNatClampNeg) (ew : w = s.2.1 152 k.toNatClampNeg) (hw9 : w.toInt < 9000000000000000) (ep : p = t.2.1 149 u.toNatClampNeg) (hp9 : p.toInt < 9000000000000000) (ez : z = p + w) (hlt : z.toInt < (t.2.1 149 v.toNatClampNeg).toInt) :
    BI (RPQ s (s.1 151)) (pqp s) 32000000 (spq s) (pf (sI (sL t 149 v.toNatClampNeg z) 148 v.toNatClampNeg u)) (pdp s (sI (sL t 149 v.toNatClampNeg z) 148 v.toNatClampNeg u)) (wtp s (sI (sL t 149 v.toNatClampNeg z) 148 v.toNatClampNeg u)) ∧ mqp s (sI (sL t 149 v.toNatClampNeg z) 148 v.toNatClampNeg u) < mqp s t ∧ pf (sI (sL t 149 v.toNatClampNeg z) 148 v.toNatClampNeg u) v.toNatClampNeg = z.toInt ∧ (∀ y, y ≠ v.toNatClampNeg → pf (sI (sL t 149 v.toNatClampNeg z) 148 v.toNatClampNeg u) y = pf t y) ∧ (-33000000 ≤ z.toInt ∧ z.toInt ≤ 32000000) ∧ z.toInt < pf t v.toNatClampNeg ∧ (v.toNatClampNeg : Int) < nnq s ∧ ¬ FSQ s v.toNatClampNeg := by
  have hpw : pwq s u.toNatClampNeg v.toNatClampNeg = w.toInt := by unfold pwq; rw [← hk, ew]
  have u32 := nat32 hu
  have v32 := nat32 hv
  obtain ⟨n1, n2, n3, n4, n5, n6⟩ := hP.1 _ _ u32.1 v32.1 (by rw [hpw]; exact hw9)
  rw [hpw] at n5 n6
  have eu := pfx (t := t) hn n1
  have ev := pfx (t := t) hn n2
  have hb := bi_b (pqp_2 hP) h.1 u32.1 (by rw [eu, ← ep]; exact hp9)
  rw [eu, ← ep] at hb
  have hz : z.toInt = p.toInt + w.toInt := ladd_t ez (by omega) (by omega)
  have q1 : (sI (sL t 149 v.toNatClampNeg z) 148 v.toNatClampNeg u).2.1 149 = vp_updL (t.2.1 149) v.toNatClampNeg z := by simp [sI, sL]
  have q2 : (sI (sL t 149 v.toNatClampNeg z) 148 v.toNatClampNeg u).1 148 = upd (t.1 148) v.toNatClampNeg u := sI_q
  have fg : (sI (sL t 149 v.toNatClampNeg z) 148 v.toNatClampNeg u).2.2.1 = t.2.2.1 := rfl
  unfold mqp
  generalize sI (sL t 149 v.toNatClampNeg z) 148 v.toNatClampNeg u = U at q1 q2 fg ⊢
  have e1 : pf U v.toNatClampNeg = z.toInt := by
    unfold pf
    rw [fg, hn, if_pos n2, q1, ul_eq]
  have e2 : ∀ y, y ≠ v.toNatClampNeg → pf U y = pf t y := by
    intro y hy
    unfold pf
    rw [fg, q1, ul_ne hy]
  have ub : ∀ y, y ≠ v.toNatClampNeg → U.1 148 y = t.1 148 y := by
    intro y hy
    rw [q2]; unfold upd; rw [if_neg hy]
  have ubv : U.1 148 v.toNatClampNeg = u := by rw [q2]; unfold upd; rw [if_pos rfl]
  have hr : RPQ s (s.1 151) u.toNatClampNeg v.toNatClampNeg w.toInt := ⟨u32.1, v32.1, Or.inl ⟨by rw [hpw]; exact hw9, hpw.symm⟩⟩
  obtain ⟨k1, k2⟩ := bi_relax (p2 := pf U) (pd2 := pdp s U) (wt2 := wtp s U) (rp_b hP.1) (pqp_ok hP).2 (pqp_2 hP) h.1 hr (by rw [eu, ← ep]; exact hp9) (by rw [eu, ev, ← ep, ← hz]; exact hlt) (by rw [e1, eu, ← ep]; exact hz) (fun y _ hy => e2 y hy)
    (by unfold pdp; rw [if_neg n4, ubv]) (fun y _ hy => by unfold pdp; rw [ub y hy]) (by unfold wtp; rw [if_neg n4, ubv]; exact hpw) (fun y _ hy => by unfold wtp; rw [ub y hy])
  exact ⟨k1, k2, e1, e2, ⟨by omega, by omega⟩, by rw [ev]; exact hlt, n2, n4⟩
theorem cip_1 {s t : GS} {k u v : Int32} {p w z : Int64} (hP : PP s) (hn : t.2.2.1 109 20 = s.2.2.1 109 20) (h : CIP s t) (hu : In u 0 31) (hv : In v 0 31) (hk : k.toNatClampNeg = 32 * u.toNatClampNeg + v.toNatClampNeg) (ew : w = s.2.1 152 k.toNatClampNeg) (hw9 : w.toInt < 9000000000000000) (ep : p = t.2.1 149 u.toNatClampNeg) (hp9 : p.toInt < 9000000000000000) (ez : z = p + w) (hlt : z.toInt < (t.2.1 149 v.toNatClampNeg).toInt) (hm : (s.1 151 v.toNatClampNeg).toInt < 0) :
    CIP s (sI (sL t 149 v.toNatClampNeg z) 148 v.toNatClampNeg u) ∧ mqp s (sI (sL t 149 v.toNatClampNeg z) 148 v.toNatClampNeg u) < mqp s t := by
  obtain ⟨k1, k2, k3, k4, k5, k6, k7, k8⟩ := cip_c hP hn h hu hv hk ew hw9 ep hp9 ez hlt
  obtain ⟨-, h2, h3⟩ := h
  have q2 : (sI (sL t 149 v.toNatClampNeg z) 148 v.toNatClampNeg u).1 148 = upd (t.1 148) v.toNatClampNeg u := sI_q
  generalize sI (sL t 149 v.toNatClampNeg z) 148 v.toNatClampNeg u = U at q2 k1 k2 k3 k4 ⊢
  refine ⟨⟨k1, fun y hy hyn hf hq => ?_, fun y hy hyn hf hq => ?_⟩, k2⟩
  · have c : y ≠ v.toNatClampNeg := by intro e; rw [e] at hq; omega
    have a := hP.2.1.2 y hy hyn hf (by omega) hq
    have c2 : (s.1 151 y).toNatClampNeg ≠ v.toNatClampNeg := by intro e; rw [e] at a; exact k8 a.2.2.1
    rw [k4 y c, k4 _ c2]
    exact h2 y hy hyn hf hq
  · rw [q2]
    unfold upd
    by_cases c : y = v.toNatClampNeg
    · rw [if_pos c]; exact hu
    · rw [if_neg c]
      rw [k4 y c] at hq
      exact h3 y hy hyn hf hq
theorem cip_2 {s t : GS} {k u v : Int32} {p w z w2 z2 : Int64} {x : Nat} (hP : PP s) (hn : t.2.2.1 109 20 = s.2.2.1 109 20) (h : CIP s t) (hu : In u 0 31) (hv : In v 0 31) (hk : k.toNatClampNeg = 32 * u.toNatClampNeg + v.toNatClampNeg) (ew : w = s.2.1 152 k.toNatClampNeg) (hw9 : w.toInt < 9000000000000000) (ep : p = t.2.1 149 u.toNatClampNeg) (hp9 : p.toInt < 9000000000000000) (ez : z = p + w) (hlt : z.toInt < (t.2.1 149 v.toNatClampNeg).toInt) (hm : 0 ≤ (s.1 151 v.toNatClampNeg).toInt) (hx : x = (s.1 151 v.toNatClampNeg).toNatClampNeg) (ew2 : w2 = s.2.1 152 (32 * x + v.toNatClampNeg)) (ez2 : z2 = z - w2) :
    CIP s (sL (sI (sL t 149 v.toNatClampNeg z) 148 v.toNatClampNeg u) 149 x z2) ∧ mqp s (sL (sI (sL t 149 v.toNatClampNeg z) 148 v.toNatClampNeg u) 149 x z2) < mqp s t := by
  obtain ⟨k1, k2, k3, k4, k5, k6, k7, k8⟩ := cip_c hP hn h hu hv hk ew hw9 ep hp9 ez hlt
  obtain ⟨-, h2, h3⟩ := h
  have v32 := nat32 hv
  obtain ⟨a1, a2, a3, a4⟩ := hP.2.1.2 _ v32.1 k7 k8 (by omega) hm
  rw [← hx] at a1 a2 a3 a4
  have hxm : 0 ≤ (s.1 151 x).toInt := by omega
  have b := hP.2.1.1 x a1 a2 a3 hxm
  have exv : (s.1 151 x).toNatClampNeg = v.toNatClampNeg := by
    show (s.1 151 x).toInt.toNat = v.toNatClampNeg
    omega
  rw [exv] at b
  have hpw : pwq s x v.toNatClampNeg = w2.toInt := by unfold pwq; rw [ew2]
  have c5 := (hP.1 _ _ a1 v32.1 b.2.2.1).2.2.2.2
  rw [hpw] at c5
  have hz2 : z2.toInt = z.toInt - w2.toInt := lsub_t ez2 (by omega) (by omega)
  have hxv : x ≠ v.toNatClampNeg := by intro e; rw [e] at a3; exact k8 a3
  have q2 : (sL (sI (sL t 149 v.toNatClampNeg z) 148 v.toNatClampNeg u) 149 x z2).1 148 = upd (t.1 148) v.toNatClampNeg u := by
    show (sI (sL t 149 v.toNatClampNeg z) 148 v.toNatClampNeg u).1 148 = _
    exact sI_q
  have q3 : (sL (sI (sL t 149 v.toNatClampNeg z) 148 v.toNatClampNeg u) 149 x z2).1 = (sI (sL t 149 v.toNatClampNeg z) 148 v.toNatClampNeg u).1 := rfl
  have q1 : (sL (sI (sL t 149 v.toNatClampNeg z) 148 v.toNatClampNeg u) 149 x z2).2.1 149 = vp_updL ((sI (sL t 149 v.toNatClampNeg z) 148 v.toNatClampNeg u).2.1 149) x z2 := by simp [sL]
  have fg : (sL (sI (sL t 149 v.toNatClampNeg z) 148 v.toNatClampNeg u) 149 x z2).2.2.1 = (sI (sL t 149 v.toNatClampNeg z) 148 v.toNatClampNeg u).2.2.1 := rfl
  have fg1 : (sI (sL t 149 v.toNatClampNeg z) 148 v.toNatClampNeg u).2.2.1 = t.2.2.1 := rfl
  unfold mqp at k2 ⊢
  generalize sL (sI (sL t 149 v.toNatClampNeg z) 148 v.toNatClampNeg u) 149 x z2 = V at q1 q2 q3 fg ⊢
  generalize sI (sL t 149 v.toNatClampNeg z) 148 v.toNatClampNeg u = U at q1 q3 fg fg1 k1 k2 k3 k4 ⊢
  have e1 : pf V x = z2.toInt := by
    unfold pf
    rw [fg, fg1, hn, if_pos a2, q1, ul_eq]
  have e2 : ∀ y, y ≠ x → pf V y = pf U y := by
    intro y hy
    unfold pf
    rw [fg, q1, ul_ne hy]
  have hr : RPQ s (s.1 151) v.toNatClampNeg x (-w2.toInt) := ⟨v32.1, a1, Or.inr ⟨a2, a3, a4, b.2.2.1, by rw [hpw]⟩⟩
  have hlt2 : z.toInt - w2.toInt < pf U x := by
    rw [k4 x hxv]
    have g := h2 _ v32.1 k7 k8 hm
    rw [← hx] at g
    by_cases c : pf t v.toNatClampNeg < 9000000000000000
    · rw [g.1 c, hpw]; omega
    · have := g.2 c
      omega
  have pdx : pdp s V x = v.toNatClampNeg := by unfold pdp; rw [if_pos a3]; exact exv
  have wtx : wtp s V x = -w2.toInt := by unfold wtp; rw [if_pos a3, exv, hpw]
  obtain ⟨l1, l2⟩ := bi_relax (p2 := pf V) (pd2 := pdp s V) (wt2 := wtp s V) (rp_b hP.1) (pqp_ok hP).2 (pqp_2 hP) k1 hr (by rw [k3]; omega) (by rw [k3]; omega) (by rw [e1, k3]; omega) (fun y _ hy => e2 y hy) pdx (fun y _ hy => by unfold pdp; rw [q3]) wtx (fun y _ hy => by unfold wtp; rw [q3])
  refine ⟨⟨l1, fun y hy hyn hf hq => ?_, fun y hy hyn hf hq => ?_⟩, by omega⟩
  · by_cases c : y = v.toNatClampNeg
    · rw [c, ← hx, e1, e2 _ (fun e => hxv e.symm), k3, hpw]
      exact ⟨fun _ => hz2, fun q => by omega⟩
    · have g := hP.2.1.2 y hy hyn hf (by omega) hq
      have c2 : (s.1 151 y).toNatClampNeg ≠ v.toNatClampNeg := by intro e; rw [e] at g; exact k8 g.2.2.1
      have c3 : (s.1 151 y).toNatClampNeg ≠ x := by intro e; rw [e] at g; omega
      have c4 : y ≠ x := by intro e; rw [e] at hf; exact hf a3
      rw [e2 y c4, e2 _ c3, k4 y c, k4 _ c2]
      exact h2 y hy hyn hf hq
  · rw [q2]
    unfold upd
    by_cases c : y = v.toNatClampNeg
    · rw [if_pos c]; exact hu
    · have c4 : y ≠ x := by intro e; rw [e] at hf; exact hf a3
      rw [if_neg c]
      rw [e2 y c4, k4 y c] at hq
      exact h3 y hy hyn hf hq
/-- rounds -/
def CLP (s t : GS) (k : Nat) : Prop := ∀ u v : Nat, u < 32 → v < 32 → 32 * u + v < k → pwq s u v < 9000000000000000 → (t.2.1 149 u).toInt < 9000000000000000 → (s.1 151 u).toInt ≠ (v : Int) → (t.2.1 149 v).toInt ≤ (t.2.1 149 u).toInt + pwq s u v
def WKP (s : GS) (M : Nat) (t : GS) (mo : Int) (k : Nat) : Prop := CIP s t ∧ mqp s t ≤ M ∧ (mo ≠ 0 → mqp s t < M) ∧ (mo = 0 → CLP s t k)
theorem wkp_0 {s t : GS} (h : CIP s t) : WKP s (mqp s t) t 0 0 := ⟨h, Nat.le_refl _, fun z => absurd rfl z, fun _ u v _ _ hk => absurd hk (Nat.not_lt_zero _)⟩
theorem wkp_s {s t : GS} {mo : Int} {M : Nat} {k u v : Int32} (h : WKP s M t mo k.toNatClampNeg) (hu : In u 0 31) (hv : In v 0 31) (hk : k.toNatClampNeg = 32 * u.toNatClampNeg + v.toNatClampNeg) (hc : (s.2.1 152 k.toNatClampNeg).toInt < 9000000000000000 → (t.2.1 149 u.toNatClampNeg).toInt < 9000000000000000 → (s.1 151 u.toNatClampNeg).toInt ≠ v.toInt → (t.2.1 149 v.toNatClampNeg).toInt ≤ (t.2.1 149 u.toNatClampNeg).toInt + (s.2.1 152 k.toNatClampNeg).toInt) : WKP s M t mo (k.toNatClampNeg + 1) := by
  refine ⟨h.1, h.2.1, h.2.2.1, fun z a b ha hb hlt h1 h2 h3 => ?_⟩
  have u32 := nat32 hu
  have v32 := nat32 hv
  by_cases c : 32 * a + b = k.toNatClampNeg
  · have ea : a = u.toNatClampNeg := by omega
    have eb : b = v.toNatClampNeg := by omega
    unfold pwq at h1 ⊢
    rw [c] at h1 ⊢
    rw [ea] at h2 h3 ⊢
    rw [eb] at h3 ⊢
    rw [v32.2] at h3
    exact hc h1 h2 h3
  · exact h.2.2.2 z a b ha hb (by omega) h1 h2 h3
theorem wkp_ch {s t u : GS} {mo : Int} {M k : Nat} (h : WKP s M t mo k) (hc : CIP s u ∧ mqp s u < mqp s t) (j : Nat) : WKP s M u 1 j := by
  have := h.2.1
  exact ⟨hc.1, by omega, fun _ => by omega, fun z => by omega⟩
theorem cip_add {s t : GS} {k u v : Int32} {p w q z : Int64} (hP : PP s) (hn : t.2.2.1 109 20 = s.2.2.1 109 20) (h : CIP s t) (hu : In u 0 31) (hv : In v 0 31) (hk : k.toNatClampNeg = 32 * u.toNatClampNeg + v.toNatClampNeg) (ew : w = s.2.1 152 k.toNatClampNeg) (hw9 : w.toInt < 9000000000000000) (ep : p = t.2.1 149 u.toNatClampNeg) (hp9 : p.toInt < 9000000000000000) (ez : z = p + w) (eq : q = t.2.1 149 v.toNatClampNeg) (hlt : q.toInt ≤ z.toInt) : (t.2.1 149 v.toNatClampNeg).toInt ≤ (t.2.1 149 u.toNatClampNeg).toInt + (s.2.1 152 k.toNatClampNeg).toInt := by
  have hpw : pwq s u.toNatClampNeg v.toNatClampNeg = w.toInt := by unfold pwq; rw [← hk, ew]
  have u32 := nat32 hu
  have v32 := nat32 hv
  obtain ⟨n1, n2, n3, n4, n5, n6⟩ := hP.1 _ _ u32.1 v32.1 (by rw [hpw]; exact hw9)
  rw [hpw] at n5 n6
  have eu := pfx (t := t) hn n1
  have hb := bi_b (pqp_2 hP) h.1 u32.1 (by rw [eu, ← ep]; exact hp9)
  rw [eu, ← ep] at hb
  have hz : z.toInt = p.toInt + w.toInt := ladd_t ez (by omega) (by omega)
  rw [← ep, ← ew, ← eq]
  omega
/-- turning a way round: where it stands -/
def FLP (S : GS) (e : Int) (n : Nat) : Prop := PWI S ∧ ∃ q : Nat → Int, FE (RPQ S (S.1 151)) q ∧ MTQ S (S.1 151) e ∧ ((e < 0 ∧ n = 0) ∨ (0 ≤ e ∧ e < nnq S ∧ e < 32 ∧ ¬ FSQ S e.toNat ∧ ∃ (A : Nat → Prop) (r : Nat → Nat) (m0 : Nat → Int32), A e.toNat ∧ n = r e.toNat + 1 ∧
  (∀ y : Nat, y < 32 → (y : Int) < nnq S → ¬ FSQ S y → A y → 0 ≤ (S.1 148 y).toInt ∧ (S.1 148 y).toInt ≤ 31 ∧ pwq S (S.1 148 y).toNatClampNeg y < 9000000000000000 ∧ A (S.1 148 y).toNatClampNeg ∧ q y = q (S.1 148 y).toNatClampNeg + pwq S (S.1 148 y).toNatClampNeg y ∧ r (S.1 148 y).toNatClampNeg < r y) ∧
  (∀ x : Nat, x < 32 → (x : Int) < nnq S → FSQ S x → A x → 0 ≤ (m0 x).toInt → A (m0 x).toNatClampNeg ∧ r (m0 x).toNatClampNeg < r x) ∧
  ∀ x : Nat, x < 32 → (x : Int) < nnq S → FSQ S x → r x < r e.toNat → S.1 151 x = m0 x))
theorem flp_no {s t : GS} (hP : PP s) (h1 : t.1 111 = s.1 111) (h2 : t.1 151 = s.1 151) (h3 : t.2.1 152 = s.2.1 152) (h4 : t.2.2.1 109 18 = s.2.2.1 109 18) (h5 : t.2.2.1 109 20 = s.2.2.1 109 20) : PWI t ∧ (∀ e, MTQ s (s.1 151) e → MTQ t (t.1 151) e) ∧ (∀ q, FE (RPQ s (s.1 151)) q → FE (RPQ t (t.1 151)) q) := by
  have f : FSQ t = FSQ s := by funext v; unfold FSQ; rw [h1, h4]
  have n : nnq t = nnq s := by unfold nnq; rw [h5]
  have p : pwq t = pwq s := by funext u v; unfold pwq; rw [h3]
  refine ⟨?_, fun e h => ?_, fun q h => ?_⟩
  · have := hP.1
    unfold PWI at this ⊢
    rw [f, n, p]; exact this
  · unfold MTQ at h ⊢
    rw [f, n, p, h2]; exact h
  · have e : RPQ t (t.1 151) = RPQ s (s.1 151) := by
      funext u v w
      unfold RPQ
      rw [f, n, p, h2]
    rw [e]; exact h
theorem flp_0 {s t : GS} {e : Int32} (hP : PP s) (h1 : t.1 111 = s.1 111) (h2 : t.1 151 = s.1 151) (h3 : t.2.1 152 = s.2.1 152) (h4 : t.2.2.1 109 18 = s.2.2.1 109 18) (h5 : t.2.2.1 109 20 = s.2.2.1 109 20) (h : CIP s t) (hcl : CLP s t 1024) (he : e.toInt < 0 ∨ (In e 0 31 ∧ e.toInt < nnq s ∧ ¬ FSQ s e.toNatClampNeg ∧ (s.1 151 e.toNatClampNeg).toInt < 0 ∧ (t.2.1 149 e.toNatClampNeg).toInt < 9000000000000000)) : ∃ n, n ≤ 32 ∧ FLP t e.toInt n := by
  obtain ⟨w1, w2, w3⟩ := flp_no hP h1 h2 h3 h4 h5
  have f : FSQ t = FSQ s := by funext v; unfold FSQ; rw [h1, h4]
  have n : nnq t = nnq s := by unfold nnq; rw [h5]
  have p : pwq t = pwq s := by funext u v; unfold pwq; rw [h3]
  have ok := pqp_ok hP
  have hm1 : ∀ e : Int, (e < 0 ∨ ∀ x : Nat, x < 32 → (x : Int) < nnq s → FSQ s x → 0 ≤ (s.1 151 x).toInt → (s.1 151 x).toInt ≠ e) → MTQ s (s.1 151) e := by
    intro e q
    refine ⟨fun x hx hn hf hm => ?_, fun y hy hn hf _ hm => hP.2.1.2 y hy hn hf (by omega) hm⟩
    have g := hP.2.1.1 x hx hn hf hm
    refine ⟨?_, g.2⟩
    rcases q with q | q
    · omega
    · exact q x hx hn hf hm
  rcases he with he | ⟨he, hen, hef, hem, he9⟩
  · exact ⟨0, by omega, w1, pqp s, w3 _ ok.2, w2 _ (hm1 _ (Or.inl he)), Or.inl ⟨he, rfl⟩⟩
  · have e32 := nat32 he
    have een : e.toNatClampNeg = e.toInt.toNat := rfl
    have hen2 : (e.toNatClampNeg : Int) < nnq s := by omega
    obtain ⟨r, r1, r2⟩ := bi_rank ok.2 h.1
    have cl : ∀ u v w, RPQ s (s.1 151) u v w → pf t u < 9000000000000000 → pf t v ≤ pf t u + w ∧ pf t v < 9000000000000000 := by
      intro u v w hr hu
      have hb := rp_b hP.1 u v w hr
      have bb := bi_b (pqp_2 hP) h.1 hb.1 hu
      have key : pf t v ≤ pf t u + w := by
        obtain ⟨hu32, hv32, hr⟩ := hr
        rcases hr with ⟨p1, p2⟩ | ⟨p1, p2, p3, p4, p5⟩
        · obtain ⟨n1, n2, n3, n4, n5, n6⟩ := hP.1 u v hu32 hv32 p1
          by_cases c : (s.1 151 u).toInt = (v : Int)
          · have g := hP.2.1.1 u hu32 n1 n3 (by omega)
            have eu : (s.1 151 u).toNatClampNeg = v := by show (s.1 151 u).toInt.toNat = v; omega
            rw [eu] at g
            have ev : (s.1 151 v).toNatClampNeg = u := by show (s.1 151 v).toInt.toNat = u; omega
            have g2 := h.2.1 v hv32 n2 n4 (by omega)
            rw [ev] at g2
            by_cases c2 : pf t v < 9000000000000000
            · have := g2.1 c2
              omega
            · exact absurd hu (g2.2 c2)
          · have eu := pfx (t := t) h5 n1
            have ev := pfx (t := t) h5 n2
            rw [eu] at hu
            rw [eu, ev, p2]
            exact hcl u v hu32 hv32 (by omega) p1 hu c
        · obtain ⟨n1, n2, n3, n4, n5, n6⟩ := hP.1 v u hv32 hu32 p4
          have g := hP.2.1.1 v hv32 p1 p2 (by omega)
          have ev : (s.1 151 v).toNatClampNeg = u := by show (s.1 151 v).toInt.toNat = u; omega
          rw [ev] at g
          have eu : (s.1 151 u).toNatClampNeg = v := by show (s.1 151 u).toInt.toNat = v; omega
          have g2 := (h.2.1 u hu32 n2 n4 (by omega)).1 hu
          rw [eu] at g2
          omega
      exact ⟨key, by omega⟩
    obtain ⟨q, p1, p2⟩ := bi_pi (c := 32000000) (p := pf t) ok.2 (fun u v w hr hu => (cl u v w hr hu).1) (fun u v w hr hu => (cl u v w hr hu).2) (g := e.toNatClampNeg)
    have hfin : pf t e.toNatClampNeg < 9000000000000000 := by rw [pfx h5 hen2]; exact he9
    refine ⟨r e.toNatClampNeg + 1, r1 _ e32.1, w1, q, w3 _ p1, w2 _ (hm1 _ (Or.inr (fun x hx hxn hxf hxm c => ?_))), Or.inr ⟨he.1, by rw [n]; exact hen, by have := he.2; omega, by rw [f]; exact hef, fun y => y < 32 ∧ pf t y < 9000000000000000 ∧ pf t y - pqp s y ≤ pf t e.toNatClampNeg - pqp s e.toNatClampNeg, r, s.1 151, ⟨e32.1, hfin, Int.le_refl _⟩, rfl, fun y hy hyn hyf hyA => ?_, fun x hx hxn hxf hxA hxm => ?_, fun x _ _ _ _ => by rw [h2]⟩⟩
    · have g := (hP.2.1.1 x hx hxn hxf hxm).2.2.2
      have ec : (s.1 151 x).toNatClampNeg = e.toNatClampNeg := by show (s.1 151 x).toInt.toNat = e.toInt.toNat; rw [c]
      rw [ec] at g
      omega
    · rw [n] at hyn
      rw [f] at hyf
      obtain ⟨y1, y2, y3⟩ := hyA
      have hb := h.2.2 y hy hyn hyf y2
      obtain ⟨q1, q2, q3, q4, q5⟩ := r2 y hy y2 (fun z => hyf z.1)
      have epd : pdp s t y = (t.1 148 y).toNatClampNeg := by unfold pdp; rw [if_neg hyf]
      have ewt : wtp s t y = pwq s (t.1 148 y).toNatClampNeg y := by unfold wtp; rw [if_neg hyf]
      rw [epd, ewt] at q2
      rw [epd] at q1 q3 q4
      rw [epd, ewt] at q5
      have hpw : pwq s (t.1 148 y).toNatClampNeg y < 9000000000000000 := by
        rcases q2.2.2 with z | z
        · exact z.1
        · exact absurd z.2.1 hyf
      have g := (cl _ _ _ q2 q3).1
      have fe := ok.2 _ _ _ q2
      rw [p]
      refine ⟨hb.1, hb.2, hpw, ⟨q1, q3, by omega⟩, ?_, q4⟩
      rw [p2 y y2 y3, p2 _ q3 (by omega)]
      omega
    · rw [n] at hxn
      rw [f] at hxf
      obtain ⟨y1, y2, y3⟩ := hxA
      obtain ⟨q1, q2, q3, q4, q5⟩ := r2 x hx y2 (fun z => by have := z.2; omega)
      have epd : pdp s t x = (s.1 151 x).toNatClampNeg := by unfold pdp; rw [if_pos hxf]
      rw [epd] at q1 q2 q3 q4 q5
      have fe := ok.2 _ _ _ q2
      exact ⟨⟨q1, q3, by omega⟩, q4⟩
theorem flp_u {S : GS} {e : Int} {n : Nat} (h : FLP S e n) (he : 0 ≤ e) : 0 ≤ (S.1 148 e.toNat).toInt ∧ (S.1 148 e.toNat).toInt ≤ 31 ∧ e < nnq S ∧ e < 32 ∧ FSQ S (S.1 148 e.toNat).toNatClampNeg := by
  obtain ⟨hW, q, f1, f2, f3⟩ := h
  rcases f3 with f3 | ⟨g1, g2, g3, g4, A, r, m0, a1, a2, a3, a4, a5⟩
  · omega
  · have b := a3 e.toNat (by omega) (by omega) g4 a1
    have b32 := nat32 (y := S.1 148 e.toNat) ⟨b.1, b.2.1⟩
    exact ⟨b.1, b.2.1, g2, g3, (hW _ _ b32.1 (by omega) b.2.2.1).2.2.1⟩
theorem flp_s {S : GS} {e u x : Int32} {n : Nat} (h : FLP S e.toInt n) (he : 0 ≤ e.toInt) (hu : u = S.1 148 e.toNatClampNeg) (hx : x = S.1 151 u.toNatClampNeg) (hr : In x (-1) 31) : ∃ k, k < n ∧ FLP (sI (sI S 151 u.toNatClampNeg e) 151 e.toNatClampNeg u) x.toInt k := by
  obtain ⟨hW, q, f1, f2, f3⟩ := h
  rcases f3 with f3 | ⟨g1, g2, g3, g4, A, r, m0, a1, a2, a3, a4, a5⟩
  · omega
  have ee : e.toNatClampNeg = e.toInt.toNat := rfl
  rw [← ee] at g4 a1 a2 a5
  have e32 : e.toNatClampNeg < 32 := by omega
  have een : (e.toNatClampNeg : Int) = e.toInt := by omega
  have b := a3 e.toNatClampNeg e32 (by omega) g4 a1
  rw [← hu] at b
  have u32 := nat32 (y := u) ⟨b.1, b.2.1⟩
  obtain ⟨n1, n2, n3, n4, n5, n6⟩ := hW _ _ u32.1 e32 b.2.2.1
  have hue : u.toNatClampNeg ≠ e.toNatClampNeg := by intro c; rw [c] at n3; exact n4 n3
  have k0 := a5 _ u32.1 n1 n3 b.2.2.2.2.2
  have q1 : (sI (sI S 151 u.toNatClampNeg e) 151 e.toNatClampNeg u).1 151 = upd (upd (S.1 151) u.toNatClampNeg e) e.toNatClampNeg u := by rw [sI_q, sI_q]
  have q2 : (sI (sI S 151 u.toNatClampNeg e) 151 e.toNatClampNeg u).1 148 = S.1 148 := by rw [sI_p rfl, sI_p rfl]
  have q3 : (sI (sI S 151 u.toNatClampNeg e) 151 e.toNatClampNeg u).1 111 = S.1 111 := by rw [sI_p rfl, sI_p rfl]
  have fg : (sI (sI S 151 u.toNatClampNeg e) 151 e.toNatClampNeg u).2 = S.2 := rfl
  generalize sI (sI S 151 u.toNatClampNeg e) 151 e.toNatClampNeg u = V at q1 q2 q3 fg ⊢
  have f : FSQ V = FSQ S := by funext v; unfold FSQ; rw [q3, fg]
  have nv : nnq V = nnq S := by unfold nnq; rw [fg]
  have p : pwq V = pwq S := by funext a b; unfold pwq; rw [fg]
  have mu : V.1 151 u.toNatClampNeg = e := by rw [q1]; unfold upd; rw [if_neg hue, if_pos rfl]
  have me : V.1 151 e.toNatClampNeg = u := by rw [q1]; unfold upd; rw [if_pos rfl]
  have mo : ∀ y, y ≠ u.toNatClampNeg → y ≠ e.toNatClampNeg → V.1 151 y = S.1 151 y := by
    intro y c1 c2
    rw [q1]; unfold upd; rw [if_neg c2, if_neg c1]
  have hMT : MTQ V (V.1 151) x.toInt := by
    unfold MTQ
    rw [f, nv, p]
    refine ⟨fun a ha han haf ham => ?_, fun y hy hyn hyf hyx hym => ?_⟩
    · have cae : a ≠ e.toNatClampNeg := by intro c; rw [c] at haf; exact n4 haf
      by_cases c : a = u.toNatClampNeg
      · rw [c, mu, me]
        refine ⟨fun c2 => ?_, e32, b.2.2.1, by omega⟩
        have c3 := (f2.1 _ u32.1 n1 n3 (by rw [← hx]; omega)).1
        rw [← hx] at c3
        exact c3 c2.symm
      · rw [mo a c cae] at ham ⊢
        obtain ⟨z1, z2, z3, z4⟩ := f2.1 a ha han haf ham
        have zs := (hW _ _ ha z2 z3)
        have zu : (S.1 151 a).toNatClampNeg ≠ u.toNatClampNeg := by intro c2; rw [c2] at zs; exact zs.2.2.2.1 n3
        have ze : (S.1 151 a).toNatClampNeg ≠ e.toNatClampNeg := by
          intro c2
          apply z1
          have : (S.1 151 a).toNatClampNeg = (S.1 151 a).toInt.toNat := rfl
          omega
        refine ⟨fun c2 => ?_, z2, z3, by rw [mo _ zu ze]; exact z4⟩
        have w := (f2.1 _ u32.1 n1 n3 (by rw [← hx]; omega)).2.2.2
        rw [← hx, show x.toNatClampNeg = (S.1 151 a).toNatClampNeg by show x.toInt.toNat = (S.1 151 a).toInt.toNat; rw [c2]] at w
        omega
    · have cyu : y ≠ u.toNatClampNeg := by intro c; rw [c] at hyf; exact hyf n3
      by_cases c : y = e.toNatClampNeg
      · rw [c, me, mu]
        exact ⟨u32.1, n1, n3, by omega⟩
      · rw [mo y cyu c] at hym ⊢
        obtain ⟨z1, z2, z3, z4⟩ := f2.2 y hy hyn hyf (by omega) hym
        have zu : (S.1 151 y).toNatClampNeg ≠ u.toNatClampNeg := by
          intro c2
          rw [c2, ← hx] at z4
          omega
        have ze : (S.1 151 y).toNatClampNeg ≠ e.toNatClampNeg := by intro c2; rw [c2] at z3; exact n4 z3
        exact ⟨z1, z2, z3, by rw [mo _ zu ze]; exact z4⟩
  have hFE : FE (RPQ V (V.1 151)) q := by
    intro a c w hq
    unfold RPQ at hq
    rw [f, nv, p] at hq
    obtain ⟨h1, h2, h3⟩ := hq
    rcases h3 with h3 | ⟨z1, z2, z3, z4, z5⟩
    · exact f1 a c w ⟨h1, h2, Or.inl h3⟩
    · by_cases cu : c = u.toNatClampNeg
      · rw [cu, mu] at z3
        have ea : a = e.toNatClampNeg := by omega
        rw [cu, ea] at z5
        rw [cu, ea]
        have t := b.2.2.2.2.1
        omega
      · have ce : c ≠ e.toNatClampNeg := by intro c2; rw [c2] at z2; exact n4 z2
        rw [mo c cu ce] at z3
        exact f1 a c w ⟨h1, h2, Or.inr ⟨z1, z2, z3, z4, z5⟩⟩
  have hWV : PWI V := by unfold PWI; rw [f, nv, p]; exact hW
  by_cases cx : x.toInt < 0
  · exact ⟨0, by omega, hWV, q, hFE, hMT, Or.inl ⟨cx, rfl⟩⟩
  · have ex : x.toNatClampNeg = x.toInt.toNat := rfl
    obtain ⟨r1, r2⟩ := hr
    have z := f2.1 _ u32.1 n1 n3 (by rw [← hx]; omega)
    rw [← hx] at z
    have zs := hW _ _ u32.1 z.2.1 z.2.2.1
    have w := a4 _ u32.1 n1 n3 b.2.2.2.1 (by rw [← k0, ← hx]; omega)
    rw [← k0, ← hx] at w
    have bl := b.2.2.2.2.2
    refine ⟨r x.toNatClampNeg + 1, by omega, hWV, q, hFE, hMT, Or.inr ⟨by omega, by rw [nv]; omega, by omega, by rw [f]; exact zs.2.2.2.1, A, r, m0, w.1, rfl, ?_, ?_, ?_⟩⟩
    · rw [f, nv, p, q2]; exact a3
    · rw [f, nv]; exact a4
    · rw [f, nv]
      intro y hy hyn hyf hyr
      rw [← ex] at hyr
      have c1 : y ≠ u.toNatClampNeg := by intro c; rw [c] at hyr; omega
      have c2 : y ≠ e.toNatClampNeg := by intro c; rw [c] at hyf; exact n4 hyf
      rw [mo y c1 c2]
      exact a5 y hy hyn hyf (by omega)
theorem flp_pp {S : GS} {e : Int} {n : Nat} (h : FLP S e n) (he : e = -1) : PP S := by
  obtain ⟨hW, q, f1, f2, -⟩ := h
  rw [he] at f2
  exact ⟨hW, f2, q, f1⟩
/-- the least number with a property -/
theorem lst_ex {P : Nat → Prop} : ∀ N : Nat, (∃ n, n ≤ N ∧ P n) → ∃ n, P n ∧ ∀ k, P k → n ≤ k := by
  intro N
  induction N with
  | zero =>
    intro h
    obtain ⟨n, hn, hp⟩ := h
    exact ⟨n, hp, fun k _ => by omega⟩
  | succ N ih =>
    intro h
    by_cases c : ∃ n, n ≤ N ∧ P n
    · exact ih c
    · obtain ⟨n, hn, hp⟩ := h
      refine ⟨n, hp, fun k hk => ?_⟩
      by_cases q : k ≤ N
      · exact absurd ⟨k, q, hk⟩ c
      · omega
noncomputable def lst (P : Nat → Prop) : Nat := Classical.epsilon (fun n => P n ∧ ∀ k, P k → n ≤ k)
theorem lst_ok {P : Nat → Prop} (h : ∃ n, P n) : P (lst P) ∧ ∀ k, P k → lst P ≤ k := by
  obtain ⟨n, hn⟩ := h
  exact Classical.epsilon_spec (lst_ex (P := P) n ⟨n, Nat.le_refl _, hn⟩)
theorem cM_no {f : Nat → Int32} {y : Nat} {b : Int32} (h : 0 ≤ b.toInt) : ∀ n, cM (upd f y b) n ≤ cM f n := by
  intro n
  induction n with
  | zero => exact Nat.le_refl _
  | succ n ih =>
    show cM (upd f y b) n + (if (upd f y b n).toInt < 0 then 1 else 0) ≤ cM f n + (if (f n).toInt < 0 then 1 else 0)
    by_cases c : n = y
    · have e : upd f y b n = b := by unfold upd; rw [if_pos c]
      rw [e, if_neg (by omega)]
      omega
    · have e : upd f y b n = f n := by unfold upd; rw [if_neg c]
      rw [e]
      omega
theorem cM_fl {f : Nat → Int32} {e u : Int32} {N : Nat} (he : In e 0 31) (hu : In u 0 31) (hN : e.toNatClampNeg < N) : cM (upd (upd f u.toNatClampNeg e) e.toNatClampNeg u) N ≤ cM f N ∧ ((f e.toNatClampNeg).toInt < 0 → cM (upd (upd f u.toNatClampNeg e) e.toNatClampNeg u) N < cM f N) := by
  have h1 := cM_no (f := f) (y := u.toNatClampNeg) (b := e) he.1 N
  have h2 := cM_no (f := upd f u.toNatClampNeg e) (y := e.toNatClampNeg) (b := u) hu.1 N
  refine ⟨by omega, fun h => ?_⟩
  by_cases c : e.toNatClampNeg = u.toNatClampNeg
  · have a := cM_up (f := f) (y := e.toNatClampNeg) (v := u) h hu.1 N
    have ee : upd (upd f u.toNatClampNeg e) e.toNatClampNeg u = upd f e.toNatClampNeg u := by
      funext k
      unfold upd
      rw [← c]
      split <;> rfl
    rw [if_pos hN] at a
    rw [ee]
    omega
  · have g : (upd f u.toNatClampNeg e e.toNatClampNeg).toInt < 0 := by unfold upd; rw [if_neg c]; exact h
    have a := cM_up (f := upd f u.toNatClampNeg e) (y := e.toNatClampNeg) (v := u) g hu.1 N
    rw [if_pos hN] at a
    omega
/-- the weights of pairs -/
theorem pwi_s {s T : GS} {u v : Int32} {w : Int64} {k : Nat} (h : PWI s) (hu : In u 0 31) (hv : In v 0 31) (hk : k = 32 * u.toNatClampNeg + v.toNatClampNeg) (h1 : T.1 111 = s.1 111) (h4 : T.2.2.1 109 18 = s.2.2.1 109 18) (h5 : T.2.2.1 109 20 = s.2.2.1 109 20) (hT : T.2.1 152 = vp_updL (s.2.1 152) k w)
    (hw : w = s.2.1 152 k ∨ (u.toInt < nnq s ∧ v.toInt < nnq s ∧ FSQ s u.toNatClampNeg ∧ ¬ FSQ s v.toNatClampNeg ∧ -1000000 ≤ w.toInt ∧ w.toInt ≤ 1000000)) : PWI T := by
  have f : FSQ T = FSQ s := by funext v; unfold FSQ; rw [h1, h4]
  have n : nnq T = nnq s := by unfold nnq; rw [h5]
  have u32 := nat32 hu
  have v32 := nat32 hv
  intro a b ha hb hp
  rw [f, n]
  by_cases c : 32 * a + b = k
  · have ea : a = u.toNatClampNeg := by omega
    have eb : b = v.toNatClampNeg := by omega
    have e : pwq T a b = w.toInt := by unfold pwq; rw [hT, c, ul_eq]
    rcases hw with hw | hw
    · have e2 : pwq T a b = pwq s a b := by rw [e, hw]; unfold pwq; rw [c]
      rw [e2] at hp ⊢
      exact h a b ha hb hp
    · rw [e, ea, eb]
      exact ⟨by omega, by omega, hw.2.2.1, hw.2.2.2.1, hw.2.2.2.2⟩
  · have e2 : pwq T a b = pwq s a b := by unfold pwq; rw [hT, ul_ne c]
    rw [e2] at hp ⊢
    exact h a b ha hb hp
theorem pp_0 {s : GS} (h : PWI s) (hm : ∀ k : Nat, (k : Int) < nnq s → (s.1 151 k).toInt < 0) : PP s := by
  refine ⟨h, ⟨fun x _ hn _ hq => by have := hm x hn; omega, fun y _ hn _ _ hq => by have := hm y hn; omega⟩, fun v => if (s.1 111 (32 * (s.2.2.1 109 18).toNatClampNeg + v)).toInt < 13 then 0 else -1000000, fun u v w hr => ?_⟩
  obtain ⟨h1, h2, h3⟩ := hr
  rcases h3 with ⟨p1, p2⟩ | ⟨p1, p2, p3, p4, p5⟩
  · obtain ⟨n1, n2, n3, n4, n5, n6⟩ := h u v h1 h2 p1
    dsimp only
    unfold FSQ at n3 n4
    rw [if_pos n3, if_neg n4]
    omega
  · have := hm v p1
    omega
theorem fs_cg {s t : GS} {v : Nat} (h1 : t.1 111 = s.1 111) (h4 : t.2.2.1 109 18 = s.2.2.1 109 18) : FSQ t v = FSQ s v := by unfold FSQ; rw [h1, h4]
theorem pwi_cg {s t : GS} (h : PWI s) (h1 : t.1 111 = s.1 111) (h3 : t.2.1 152 = s.2.1 152) (h4 : t.2.2.1 109 18 = s.2.2.1 109 18) (h5 : t.2.2.1 109 20 = s.2.2.1 109 20) : PWI t := by
  have f : FSQ t = FSQ s := by funext v; exact fs_cg h1 h4
  have n : nnq t = nnq s := by unfold nnq; rw [h5]
  have p : pwq t = pwq s := by funext u v; unfold pwq; rw [h3]
  unfold PWI
  rw [f, n, p]
  exact h
theorem inp_s {s : GS} {f g : Nat → Int64} {y z : Int32} {w : Int64} (h : ∀ k : Nat, (k : Int) < y.toInt → (spq s k → (f k).toInt = 0) ∧ (¬ spq s k → (f k).toInt = 9000000000000000)) (hg : g = vp_updL f y.toNatClampNeg w) (hy : 0 ≤ y.toInt) (hz : z.toInt = y.toInt + 1) (hw : (spq s y.toNatClampNeg → w.toInt = 0) ∧ (¬ spq s y.toNatClampNeg → w.toInt = 9000000000000000)) : ∀ k : Nat, (k : Int) < z.toInt → (spq s k → (g k).toInt = 0) ∧ (¬ spq s k → (g k).toInt = 9000000000000000) := by
  intro k hk
  have ey : y.toNatClampNeg = y.toInt.toNat := rfl
  rw [hg]
  by_cases c : k = y.toNatClampNeg
  · rw [c, ul_eq]; exact hw
  · rw [ul_ne c]; exact h k (by omega)
