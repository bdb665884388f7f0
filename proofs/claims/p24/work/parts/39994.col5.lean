/-! COLOURING OF THE REFERENCE: a node's colour -/
def NS (t : GS) (m : Int) : Prop := ∀ v : Nat, m ≤ (v : Int) → (v : Int) < (t.2.2.1 109 20).toInt → t.1 141 v = Int32.ofInt (-1)
theorem m1_i : (Int32.ofInt (-1)).toInt = -1 := by decide
theorem s3_rf {t : GS} : S3 t t := ⟨rfl, rfl, rfl⟩
theorem s3_tr {a b c : GS} (h : S3 a b) (k : S3 b c) : S3 a c := ⟨k.1.trans h.1, k.2.1.trans h.2.1, k.2.2.trans h.2.2⟩
theorem ns3 {s t : GS} {m : Int} (h : S3 s t) (q : NS s m) : NS t m := by
  unfold NS
  rw [h.2.1, h.2.2]
  exact q
theorem uu3 {s t : GS} (h : S3 s t) : UU t = UU s := by funext v; unfold UU; rw [h.2.2, sg3 h]
theorem ext3 {s t : GS} {k : Int} (h : S3 s t) (q : EXT s k (UU s)) : EXT t k (UU t) := by
  unfold EXT at q ⊢
  rw [ad3 h, sg3 h, uu3 h]
  exact q
theorem ns_sg {t : GS} (h : NS t 0) : ∀ u, Sg t u = -1 := by
  intro u
  by_cases c : (u : Int) < (t.2.2.1 109 20).toInt
  · rw [sg_lt c, h u (by omega) c, m1_i]
  · exact sg_ge c
theorem ns_0 {t : GS} (h : ∀ u : Nat, (u : Int) < (t.2.2.1 109 20).toInt → t.1 141 u = Int32.ofInt (-1)) : NS t 0 := fun v _ hv => h v hv
/-- with a colour for each node all is well -/
theorem clr_n {t : GS} {k r : Int} (hb : BSD t) (hN : NS t 0) (h : CLR t k r) (hr : r = 0) : k < (t.2.2.1 109 20).toInt := by
  apply Classical.byContradiction
  intro q
  refine h.1 hr ⟨fun v => (v : Int), fun v hv => ?_, fun v hv u hu => ⟨fun _ => ?_, fun hs => ?_⟩⟩
  · have := hv.1
    show 0 ≤ (v : Int) ∧ (v : Int) < k
    exact ⟨by omega, by omega⟩
  · have := (hb v u hu.1 hu.2).2.2
    show (u : Int) ≠ (v : Int)
    omega
  · rw [ns_sg hN] at hs; omega
theorem bsd_I {t : GS} {q j : Nat} {x : Int32} (hq : Nat.beq 138 q = false) (h : BSD t) : BSD (sI t q j x) := by
  unfold BSD
  rw [sI_p hq]
  exact h
theorem s3_I {s t : GS} {j : Nat} {x : Int32} (h : S3 s t) : S3 s (sI t 142 j x) := ⟨by rw [sI_p rfl]; exact h.1, by rw [sI_p rfl]; exact h.2.1, h.2.2⟩
def E61 (t0 t : GS) (u : Nat) : Prop := t.1 138 = t0.1 138 ∧ t.2.2.1 109 20 = t0.2.2.1 109 20 ∧ ∃ w, t.1 141 = upd (t0.1 141) u w
def G90 (t0 : GS) (k : Int) (u : Nat) (c : Int) : Prop := ∃ χ, Sol (adjq t0) (Sg t0) k (UU t0) χ ∧ c ≤ χ u
def F72 (t0 t : GS) (k : Int) (u : Nat) (c f : Int) : Prop := (f = 0 → G90 t0 k u (c + 1)) ∧ (f ≠ 0 → EXT t k (UU t))
theorem up_sf {f : Nat → Int32} {u : Nat} : upd f u (f u) = f := by
  funext x
  by_cases q : x = u
  · rw [q, up_e]
  · rw [up_n q]
theorem up_up {f : Nat → Int32} {u : Nat} {a b : Int32} : upd (upd f u a) u b = upd f u b := by
  funext x
  by_cases q : x = u
  · rw [q, up_e, up_e]
  · rw [up_n q, up_n q, up_n q]
theorem e61_3 {t0 t : GS} {u : Nat} (h : S3 t0 t) : E61 t0 t u := ⟨h.1, h.2.2, t0.1 141 u, by rw [h.2.1, up_sf]⟩
theorem e61_b {t0 t : GS} {u : Nat} (h : E61 t0 t u) (hu : t0.1 141 u = Int32.ofInt (-1)) : S3 t0 (sI t 141 u (Int32.ofInt (-1))) := by
  obtain ⟨h1, h2, w, h3⟩ := h
  refine ⟨by rw [sI_p rfl]; exact h1, ?_, h2⟩
  rw [sI_q, h3, up_up, ← hu, up_sf]
theorem e61_c {t0 t t2 : GS} {u : Nat} {z : Int32} (h : S3 t0 t) (h2 : S3 (sI t 141 u z) t2) : E61 t0 t2 u := by
  refine ⟨?_, ?_, z, ?_⟩
  · rw [h2.1, sI_p rfl]; exact h.1
  · exact h2.2.2.trans h.2.2
  · rw [h2.2.1, sI_q, h.2.1]
theorem bsd_61 {t0 t : GS} {u : Nat} (h : E61 t0 t u) (hb : BSD t0) : BSD t := by unfold BSD; rw [h.1, h.2.1]; exact hb
theorem ns_61 {t0 t : GS} {y w : Int32} (h : E61 t0 t y.toNatClampNeg) (hN : NS t0 y.toInt) (h0 : 0 ≤ y.toInt) (hw : w.toInt = y.toInt + 1) : NS t w.toInt := by
  obtain ⟨h1, h2, x, h3⟩ := h
  intro v hv hn
  have ey : y.toNatClampNeg = y.toInt.toNat := rfl
  rw [h3, up_n (by omega)]
  rw [h2] at hn
  exact hN v (by omega) hn
theorem ns_u {t : GS} {y : Int32} (hN : NS t y.toInt) (h0 : 0 ≤ y.toInt) (hn : y.toInt < (t.2.2.1 109 20).toInt) : t.1 141 y.toNatClampNeg = Int32.ofInt (-1) := by
  have ey : y.toNatClampNeg = y.toInt.toNat := rfl
  exact hN _ (by omega) (by omega)
theorem uu_u {t : GS} {y : Int32} (hN : NS t y.toInt) (h0 : 0 ≤ y.toInt) (hn : y.toInt < (t.2.2.1 109 20).toInt) : UU t y.toNatClampNeg := by
  have ey : y.toNatClampNeg = y.toInt.toNat := rfl
  refine ⟨by omega, ?_⟩
  rw [sg_lt (by omega), ns_u hN h0 hn, m1_i]
  omega
theorem f72_0 {t : GS} {k : Int} {y : Int32} (hN : NS t y.toInt) (h0 : 0 ≤ y.toInt) (hn : y.toInt < (t.2.2.1 109 20).toInt) (h : EXT t k (UU t)) : F72 t t k y.toNatClampNeg (Int32.ofInt (-1)).toInt (Int32.ofInt 0).toInt := by
  refine ⟨fun _ => ?_, fun q => absurd (by decide) q⟩
  obtain ⟨χ, h1⟩ := h
  refine ⟨χ, h1, ?_⟩
  have := (h1.1 _ (uu_u hN h0 hn)).1
  rw [m1_i]
  omega
theorem g90_k {t : GS} {k c : Int} {y : Int32} (hN : NS t y.toInt) (h0 : 0 ≤ y.toInt) (hn : y.toInt < (t.2.2.1 109 20).toInt) (h : G90 t k y.toNatClampNeg c) : c < k := by
  obtain ⟨χ, h1, h2⟩ := h
  have := (h1.1 _ (uu_u hN h0 hn)).2
  omega
/-- the colour is barred -/
theorem f72_b {t0 t : GS} {k : Int} {y c z f : Int32} (hN : NS t0 y.toInt) (h0 : 0 ≤ y.toInt) (hn : y.toInt < (t0.2.2.1 109 20).toInt) (hb : BSD t0) (h : S3 t0 t) (hc : CE t) (p : BAR t y.toNatClampNeg (t.2.2.1 109 20).toInt z) (hz : bt z c.toNatClampNeg = true) (c0 : 0 ≤ c.toInt) (g : G90 t0 k y.toNatClampNeg c.toInt) (hf : f.toInt = 0) : F72 t0 t k y.toNatClampNeg c.toInt f.toInt := by
  refine ⟨fun _ => ?_, fun q => absurd hf q⟩
  obtain ⟨χ, h1, h2⟩ := g
  refine ⟨χ, h1, ?_⟩
  obtain ⟨w, w1, w2, w3, w4⟩ := (p _).mp hz
  have hu := uu_u hN h0 hn
  have ha : adjq t0 y.toNatClampNeg w := ⟨hu.1, by rw [← h.1]; exact w2⟩
  have e := ce_sg h hb hc _ _ ha
  have r := (h1.2 _ hu w ha).2 (by omega)
  have w5 : (t.1 142 w).toInt.toNat = c.toInt.toNat := w4
  omega
/-- the colour does not do -/
theorem f72_c {t0 t t2 : GS} {k : Int} {y c r : Int32} (hN : NS t0 y.toInt) (h0 : 0 ≤ y.toInt) (hn : y.toInt < (t0.2.2.1 109 20).toInt) (h : S3 t0 t) (h2 : S3 (sI t 141 y.toNatClampNeg c) t2) (c0 : 0 ≤ c.toInt) (g : G90 t0 k y.toNatClampNeg c.toInt) (p : CLR (sI t 141 y.toNatClampNeg c) k r.toInt) : F72 t0 t2 k y.toNatClampNeg c.toInt r.toInt := by
  refine ⟨fun q => ?_, fun q => ext3 h2 (p.2 q)⟩
  obtain ⟨χ, g1, g2⟩ := g
  refine ⟨χ, g1, ?_⟩
  apply Classical.byContradiction
  intro hc
  have ec : χ y.toNatClampNeg = c.toInt := by omega
  have hu := uu_u hN h0 hn
  have sgu : Sg (sI t 141 y.toNatClampNeg c) y.toNatClampNeg = c.toInt := by
    have e20 : (sI t 141 y.toNatClampNeg c).2.2.1 109 20 = t0.2.2.1 109 20 := h.2.2
    rw [sg_lt (by rw [e20]; exact hu.1), sI_q, up_e]
  have sgn : ∀ x, x ≠ y.toNatClampNeg → Sg (sI t 141 y.toNatClampNeg c) x = Sg t0 x := by
    intro x hx
    unfold Sg
    have e20 : (sI t 141 y.toNatClampNeg c).2.2.1 109 20 = t0.2.2.1 109 20 := h.2.2
    rw [e20, sI_q, up_n hx, h.2.1]
  have ad : adjq (sI t 141 y.toNatClampNeg c) = adjq t0 := by
    funext a b
    unfold adjq
    have e20 : (sI t 141 y.toNatClampNeg c).2.2.1 109 20 = t0.2.2.1 109 20 := h.2.2
    rw [e20, sI_p rfl, h.1]
  have uu : ∀ v, UU (sI t 141 y.toNatClampNeg c) v → v ≠ y.toNatClampNeg ∧ UU t0 v := by
    intro v hv
    have e20 : (sI t 141 y.toNatClampNeg c).2.2.1 109 20 = t0.2.2.1 109 20 := h.2.2
    have hne : v ≠ y.toNatClampNeg := by
      intro e
      have := hv.2
      rw [e, sgu] at this
      omega
    refine ⟨hne, ?_, ?_⟩
    · have := hv.1; rw [e20] at this; exact this
    · have := hv.2; rw [sgn v hne] at this; exact this
  refine p.1 q ?_
  unfold EXT
  rw [ad]
  refine ⟨χ, fun v hv => g1.1 v (uu v hv).2, fun v hv w hw => ⟨fun hT => (g1.2 v (uu v hv).2 w hw).1 (uu w hT).2, fun hs => ?_⟩⟩
  by_cases e : w = y.toNatClampNeg
  · rw [e, sgu, ← ec]
    rw [e] at hw
    exact fun z => (g1.2 v (uu v hv).2 _ hw).1 hu z.symm
  · rw [sgn w e] at hs ⊢
    exact (g1.2 v (uu v hv).2 w hw).2 hs
theorem st_s {t : GS} {y w : Int32} (h : ∀ u : Nat, (u : Int) < y.toInt → t.1 141 u = Int32.ofInt (-1)) (hw : w.toInt = y.toInt + 1) (h0 : 0 ≤ y.toInt) : ∀ u : Nat, (u : Int) < w.toInt → (sI t 141 y.toNatClampNeg (Int32.ofInt (-1))).1 141 u = Int32.ofInt (-1) := by
  intro u hu
  have ey : y.toNatClampNeg = y.toInt.toNat := rfl
  rw [sI_q]
  by_cases q : u = y.toNatClampNeg
  · rw [q, up_e]
  · rw [up_n q]; exact h u (by omega)
theorem st_0 {t : GS} : ∀ u : Nat, (u : Int) < (Int32.ofInt 0).toInt → t.1 141 u = Int32.ofInt (-1) := by
  intro u hu
  have i0 : (Int32.ofInt 0).toInt = 0 := by decide
  omega
