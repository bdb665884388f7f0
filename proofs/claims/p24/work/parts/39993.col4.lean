/-! COLOURING OF THE REFERENCE: all parts -/
def EXT (t : GS) (k : Int) (T : Nat → Prop) : Prop := Ext (adjq t) (Sg t) k T
def UU (t : GS) (v : Nat) : Prop := (v : Int) < (t.2.2.1 109 20).toInt ∧ Sg t v < 0
def UB (t : GS) (m : Int) : Prop := ∀ u, 0 ≤ Sg t u → Sg t u < m
def CEm (t : GS) (m : Int) : Prop := ∀ u : Nat, (u : Int) < m → t.1 142 u = t.1 141 u
def CE (t : GS) : Prop := CEm t (t.2.2.1 109 20).toInt
def UBm (t : GS) (m b : Int) : Prop := ∀ u : Nat, (u : Int) < m → (t.1 141 u).toInt < b
def S3 (s t : GS) : Prop := t.1 138 = s.1 138 ∧ t.1 141 = s.1 141 ∧ t.2.2.1 109 20 = s.2.2.1 109 20
/-- the answer -/
def CLR (s : GS) (k r : Int) : Prop := (r = 0 → ¬ EXT s k (UU s)) ∧ (r ≠ 0 → EXT s k (UU s))
theorem ad3 {s t : GS} (h : S3 s t) : adjq t = adjq s := by funext a b; unfold adjq; rw [h.1, h.2.2]
theorem sg3 {s t : GS} (h : S3 s t) : Sg t = Sg s := by funext x; unfold Sg; rw [h.2.1, h.2.2]
theorem bsd3 {s t : GS} (h : S3 s t) (hb : BSD s) : BSD t := by unfold BSD; rw [h.1, h.2.2]; exact hb
theorem sg_lt {t : GS} {x : Nat} (h : (x : Int) < (t.2.2.1 109 20).toInt) : Sg t x = (t.1 141 x).toInt := if_pos h
theorem sg_ge {t : GS} {x : Nat} (h : ¬ (x : Int) < (t.2.2.1 109 20).toInt) : Sg t x = -1 := if_neg h
theorem ext_sg {adj : Nat → Nat → Prop} {σ σ2 : Nat → Int} {k : Int} {T : Nat → Prop} (hσ : ∀ v u, adj v u → σ2 u = σ u) (h : Ext adj σ k T) : Ext adj σ2 k T := by
  obtain ⟨χ, h1, h2⟩ := h
  refine ⟨χ, h1, fun v hv u hu => ⟨(h2 v hv u hu).1, fun hs => ?_⟩⟩
  rw [hσ v u hu] at hs ⊢
  exact (h2 v hv u hu).2 hs
theorem ce_sg {s t : GS} (h : S3 s t) (hb : BSD s) (hc : CE t) : ∀ v u, adjq s v u → (t.1 142 u).toInt = Sg s u := by
  intro v u hu
  have hn := (hb v u hu.1 hu.2).1
  rw [hc u (by rw [h.2.2]; exact hn), h.2.1, sg_lt hn]
theorem exs_t {s t : GS} {k : Int} {T : Nat → Prop} (h : S3 s t) (hb : BSD s) (hc : CE t) : EXS t k T ↔ EXT s k T := by
  unfold EXS EXT
  rw [ad3 h]
  exact ⟨ext_sg (fun v u hu => (ce_sg h hb hc v u hu).symm), ext_sg (ce_sg h hb hc)⟩
theorem unc_t {s t : GS} (h : S3 s t) (hc : CE t) : UNC t = UU s := by
  funext v
  unfold UNC UU
  apply propext
  rw [h.2.2]
  constructor
  · intro q
    refine ⟨q.1, ?_⟩
    rw [sg_lt q.1, ← h.2.1, ← hc v (by rw [h.2.2]; exact q.1)]
    exact q.2
  · intro q
    refine ⟨q.1, ?_⟩
    rw [hc v (by rw [h.2.2]; exact q.1), h.2.1, ← sg_lt q.1]
    exact q.2
def I62 (s : GS) (k : Int) (O : Int32) (a : Int) : Prop := (a = 0 → ¬ EXT s k (UU s)) ∧ (a ≠ 0 → EXT s k (fun v => bt O v = true) → EXT s k (UU s)) ∧ ∀ v, bt O v = true → UU s v
theorem i62_0 {s t : GS} {k a : Int} {O : Int32} (h : S3 s t) (hb : BSD s) (hc : CE t) (p : TOU t k O) (ha : a ≠ 0) : I62 s k O a := by
  refine ⟨fun q => absurd q ha, fun _ q => ?_, fun v hv => ?_⟩
  · have r := p.2 (bsd3 h hb) ((exs_t h hb hc).mpr q)
    rw [unc_t h hc] at r
    exact (exs_t h hb hc).mp r
  · have r := p.1 v hv
    rw [unc_t h hc] at r
    exact r
theorem i62_e {s : GS} {k a : Int} {O : Int32} (g : I62 s k O a) (hO : O.toInt = 0) : CLR s k a := by
  refine ⟨g.1, fun q => g.2.1 q ?_⟩
  have z : O = 0 := Int32.toInt_inj.mp (hO.trans (by decide))
  refine ⟨fun _ => 0, fun v hv => ?_, fun v hv => ?_⟩
  · rw [z, bt_z] at hv; cases hv
  · rw [z, bt_z] at hv; cases hv
theorem i62_f {s : GS} {k a : Int} {O : Int32} (g : I62 s k O a) (ha : a = 0) : CLR s k a := ⟨g.1, fun q => absurd ha q⟩
theorem hn_sub {O P v : Int32} (hv : bt O v.toNatClampNeg = true) (h : ∀ u : Nat, bt P u = true → u = v.toNatClampNeg ∨ bt O u = true) : ∀ u, bt P u = true → bt O u = true := by
  intro u hu
  rcases h u hu with q | q
  · rw [q]; exact hv
  · exact q
theorem i62_s {s t t2 : GS} {k a r : Int} {O P z90 z91 : Int32} (g : I62 s k O a) (ha : a ≠ 0) (hb : BSD s) (h : S3 s t) (h2 : S3 s t2) (hng : HNG t O P) (hsub : ∀ u, bt P u = true → bt O u = true) (e90 : z90 = P ^^^ Int32.ofInt (-1)) (e91 : z91 = O &&& z90) (ep : t2.2.2.1 109 53 = P) (hr : (r = 0 → ¬ EXP t2 k) ∧ (r ≠ 0 → EXP t2 k)) : I62 s k z91 r := by
  have ex : EXP t2 k = EXT s k (fun v => bt P v = true) := by
    unfold EXP EXT Pq
    rw [ad3 h2, sg3 h2, ep]
  rw [ex] at hr
  have hz : ∀ u, bt z91 u = true ↔ (bt O u = true ∧ ¬ bt P u = true) := by
    intro u
    constructor
    · intro q
      have hu := bt_lt q
      rw [bt_and e91, bt_not e90 hu] at q
      have q1 := (Bool.and_eq_true _ _).mp q
      refine ⟨q1.1, fun c => ?_⟩
      rw [c] at q1
      exact absurd q1.2 (by decide)
    · intro q
      have hu := bt_lt q.1
      have c : bt P u = false := by
        cases hq : bt P u with
        | false => rfl
        | true => exact absurd hq q.2
      rw [bt_and e91, bt_not e90 hu, q.1, c]
      rfl
  refine ⟨fun q w => hr.1 q (ext_sub w (fun v hv => g.2.2 v (hsub v hv))), fun q w => g.2.1 ha ?_, fun v hv => g.2.2 v ((hz v).mp hv).1⟩
  refine ext_or (P := fun v => bt P v = true) (bsd_sym hb) (fun x y hx hy hT => ?_) (hr.2 q) (ext_sub w (fun v hv => (hz v).mpr hv))
  exact hng x y (by rw [h.2.2]; exact hy.1) hx (by rw [h.1]; exact hy.2) hT
theorem p5_i {s t : GS} {k a : Int} {O P : Int32} {m : Int} {x : Nat} (g : I62 s k O a) (hb : BSD s) (h : S3 s t) (hc : CE t) (hu : UB s m) (ep : t.2.2.1 109 53 = P) (hx : bt P x = true) (hsub : ∀ u, bt P u = true → bt O u = true) : P345 t m := by
  have st : ∀ y, Pq t y → (y : Int) < (t.2.2.1 109 20).toInt ∧ Sg t y < 0 := by
    intro y hy
    unfold Pq at hy
    rw [ep] at hy
    rw [h.2.2, sg3 h]
    exact g.2.2 y (hsub y hy)
  have ce : ∀ y : Nat, (y : Int) < (t.2.2.1 109 20).toInt → Cq t y = Sg t y := by
    intro y hy
    unfold Cq
    rw [hc y hy, sg_lt hy]
  refine ⟨⟨bsd3 h hb, st⟩, ⟨x, by unfold Pq; rw [ep]; exact hx⟩, fun y hy => ?_, fun y hy _ => ce y hy, fun u hq => ?_⟩
  · have a := st y hy
    rw [ce y a.1]
    exact a.2
  · rw [sg3 h] at hq ⊢
    exact hu u hq
theorem ub_i {s t : GS} {m : Int} (h : S3 s t) (hu : UBm t (t.2.2.1 109 20).toInt m) : UB s m := by
  intro u hq
  by_cases c : (u : Int) < (s.2.2.1 109 20).toInt
  · rw [sg_lt c, ← h.2.1]
    exact hu u (by rw [h.2.2]; exact c)
  · rw [sg_ge c] at hq; omega
theorem cem_0 {t : GS} : CEm t (Int32.ofInt 0).toInt := fun u hu => by
  have i0 : (Int32.ofInt 0).toInt = 0 := by decide
  omega
theorem cem_s {t : GS} {y w z : Int32} (h : CEm t y.toInt) (ez : z = t.1 141 y.toNatClampNeg) (h0 : 0 ≤ y.toInt) (hw : w.toInt = y.toInt + 1) : CEm (sI t 142 y.toNatClampNeg z) w.toInt := by
  intro u hu
  have ey : y.toNatClampNeg = y.toInt.toNat := rfl
  rw [sI_q, sI_p rfl]
  by_cases q : u = y.toNatClampNeg
  · rw [q, up_e, ez]
  · rw [up_n q]; exact h u (by omega)
theorem ubm_0 {t : GS} {b : Int} : UBm t (Int32.ofInt 0).toInt b := fun u hu => by
  have i0 : (Int32.ofInt 0).toInt = 0 := by decide
  omega
theorem ubm_s {t t2 : GS} {y w z : Int32} {b b2 : Int} (h : UBm t y.toInt b) (e : t2.1 141 = t.1 141) (ez : z = t.1 141 y.toNatClampNeg) (h0 : 0 ≤ y.toInt) (hw : w.toInt = y.toInt + 1) (hb : b ≤ b2) (hz : z.toInt < b2) : UBm t2 w.toInt b2 := by
  intro u hu
  have ey : y.toNatClampNeg = y.toInt.toNat := rfl
  rw [e]
  by_cases q : u = y.toNatClampNeg
  · rw [q, ← ez]; exact hz
  · have := h u (by omega)
    omega
theorem cb_dn {O P v z90 z91 : Int32} (hv : bt O v.toNatClampNeg = true) (hp : bt P v.toNatClampNeg = true) (e90 : z90 = P ^^^ Int32.ofInt (-1)) (e91 : z91 = O &&& z90) : cb z91 < cb O := by
  have h1 : ∀ k, bt z91 k = true → bt O k = true := by
    intro k hk
    rw [bt_and e91] at hk
    exact ((Bool.and_eq_true _ _).mp hk).1
  refine cb_ss h1 (fun e => ?_)
  have hk := bt_lt hp
  have q : bt z91 v.toNatClampNeg = false := by
    rw [bt_and e91, bt_not e90 hk, hp]
    cases bt O v.toNatClampNeg <;> rfl
  rw [e, hv] at q
  cases q
