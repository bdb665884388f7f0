section
/-! GRAPHS AS THEY ARE SEEN, AND WHAT CHANGES DO TO THEM -/
/-- labels, from, to, weight, room, kind; how many nodes, which version -/
abbrev GVW : Type := (Nat → Int32) × (Nat → Int32) × (Nat → Int32) × (Nat → Int32) × (Nat → Int32) × (Nat → Int32) × Int × Int
def gvC (s : GS) : GVW := (s.1 3, s.1 4, s.1 5, s.1 6, s.1 7, s.1 8, (s.2.2.1 2 1).toInt, (s.2.2.1 2 0).toInt)
theorem gvC_mk {t : GS} {a b c d e f : Nat → Int32} {n v : Int} (h1 : t.1 3 = a) (h2 : t.1 4 = b) (h3 : t.1 5 = c) (h4 : t.1 6 = d) (h5 : t.1 7 = e) (h6 : t.1 8 = f) (h7 : (t.2.2.1 2 1).toInt = n) (h8 : (t.2.2.1 2 0).toInt = v) : gvC t = (a, b, c, d, e, f, n, v) := by
  unfold gvC
  rw [h1, h2, h3, h4, h5, h6, h7, h8]
def gqN (g : GVW) (p : Nat) (l : Int32) : GVW := (upd g.1 p l, g.2.1, g.2.2.1, g.2.2.2.1, g.2.2.2.2.1, g.2.2.2.2.2.1, g.2.2.2.2.2.2.1 + 1, g.2.2.2.2.2.2.2 + 1)
def gqA (g : GVW) (p : Nat) (a b w r k : Int32) : GVW := (g.1, upd g.2.1 p a, upd g.2.2.1 p b, upd g.2.2.2.1 p w, upd g.2.2.2.2.1 p r, upd g.2.2.2.2.2.1 p k, g.2.2.2.2.2.2.1, g.2.2.2.2.2.2.2 + 1)
def gqD (g : GVW) (p : Nat) : GVW := (g.1, upd g.2.1 p (Int32.ofInt (-1)), g.2.2.1, g.2.2.2.1, g.2.2.2.2.1, g.2.2.2.2.2.1, g.2.2.2.2.2.2.1, g.2.2.2.2.2.2.2 + 1)
def gqW (g : GVW) (p : Nat) (w v : Int32) : GVW := (g.1, g.2.1, g.2.2.1, (if w.toInt = 0 then upd g.2.2.2.1 p v else g.2.2.2.1), (if w.toInt = 1 then upd g.2.2.2.2.1 p v else g.2.2.2.2.1), (if w.toInt ≠ 0 ∧ w.toInt ≠ 1 then upd g.2.2.2.2.2.1 p v else g.2.2.2.2.2.1), g.2.2.2.2.2.2.1, g.2.2.2.2.2.2.2 + 1)
def gqL (g : GVW) (p : Nat) (l : Int32) : GVW := (upd g.1 p l, g.2.1, g.2.2.1, g.2.2.2.1, g.2.2.2.2.1, g.2.2.2.2.2.1, g.2.2.2.2.2.2.1, g.2.2.2.2.2.2.2 + 1)
def gqP (g : GVW) (d : Int) (p : Nat) (a b : Int32) : GVW := if d = 0 then gqN g p a else if d = 2 then gqD g p else if d = 3 then gqW g p a b else gqL g p a
/-- the row k of the log r, carried out -/
def gqR (g : GVW) (r : Nat → Int32) (k : Nat) : GVW := if (r (7 * k)).toInt = 1 then gqA g (r (7 * k + 1)).toNatClampNeg (r (7 * k + 2)) (r (7 * k + 3)) (r (7 * k + 4)) (r (7 * k + 5)) (r (7 * k + 6)) else gqP g (r (7 * k)).toInt (r (7 * k + 1)).toNatClampNeg (r (7 * k + 2)) (r (7 * k + 3))
theorem gqP_0 {g : GVW} {d : Int} {p : Nat} {a b : Int32} (h : d = 0) : gqP g d p a b = gqN g p a := if_pos h
theorem gqP_2 {g : GVW} {d : Int} {p : Nat} {a b : Int32} (h : d = 2) : gqP g d p a b = gqD g p := by
  unfold gqP
  rw [if_neg (by omega), if_pos h]
theorem gqP_3 {g : GVW} {d : Int} {p : Nat} {a b : Int32} (h : d = 3) : gqP g d p a b = gqW g p a b := by
  unfold gqP
  rw [if_neg (by omega), if_neg (by omega), if_pos h]
theorem gqP_4 {g : GVW} {d : Int} {p : Nat} {a b : Int32} (h : d = 4) : gqP g d p a b = gqL g p a := by
  unfold gqP
  rw [if_neg (by omega), if_neg (by omega), if_neg (by omega)]
theorem gqR_1 {g : GVW} {r : Nat → Int32} {k : Nat} (h : (r (7 * k)).toInt = 1) : gqR g r k = gqA g (r (7 * k + 1)).toNatClampNeg (r (7 * k + 2)) (r (7 * k + 3)) (r (7 * k + 4)) (r (7 * k + 5)) (r (7 * k + 6)) := if_pos h
theorem gqR_n {g : GVW} {r : Nat → Int32} {k : Nat} (h : (r (7 * k)).toInt ≠ 1) : gqR g r k = gqP g (r (7 * k)).toInt (r (7 * k + 1)).toNatClampNeg (r (7 * k + 2)) (r (7 * k + 3)) := if_neg h
theorem gqR_0 {g : GVW} {r : Nat → Int32} {k : Nat} (h : (r (7 * k)).toInt = 0) : gqR g r k = gqN g (r (7 * k + 1)).toNatClampNeg (r (7 * k + 2)) := by rw [gqR_n (by omega), gqP_0 h]
theorem gqR_2 {g : GVW} {r : Nat → Int32} {k : Nat} (h : (r (7 * k)).toInt = 2) : gqR g r k = gqD g (r (7 * k + 1)).toNatClampNeg := by rw [gqR_n (by omega), gqP_2 h]
theorem gqR_3 {g : GVW} {r : Nat → Int32} {k : Nat} (h : (r (7 * k)).toInt = 3) : gqR g r k = gqW g (r (7 * k + 1)).toNatClampNeg (r (7 * k + 2)) (r (7 * k + 3)) := by rw [gqR_n (by omega), gqP_3 h]
theorem gqR_4 {g : GVW} {r : Nat → Int32} {k : Nat} (h0 : (r (7 * k)).toInt ≠ 0) (h1 : (r (7 * k)).toInt ≠ 1) (h2 : (r (7 * k)).toInt ≠ 2) (h3 : (r (7 * k)).toInt ≠ 3) : gqR g r k = gqL g (r (7 * k + 1)).toNatClampNeg (r (7 * k + 2)) := by
  rw [gqR_n h1]
  unfold gqP
  rw [if_neg h0, if_neg h2, if_neg h3]
/-- which places are taken -/
def ctg (f : Nat → Int32) : Nat → Bool := fun i => decide ((f i).toInt ≠ -1)
/-- whatever is there lies below top -/
def TQ (s : GS) : Prop := ∀ p : Nat, p < 160 → (s.1 4 p).toInt ≠ -1 → (p : Int) < (s.2.2.1 2 3).toInt
theorem tq_up {s t : GS} {p : Nat} {a : Int32} (h : TQ s) (hr : t.1 4 = upd (s.1 4) p a) (h1 : (s.2.2.1 2 3).toInt ≤ (t.2.2.1 2 3).toInt) (h2 : (p : Int) < (t.2.2.1 2 3).toInt) : TQ t := by
  intro q hq hn
  by_cases c : q = p
  · rw [c]; exact h2
  · rw [hr, ug_ne c] at hn
    have := h q hq hn
    omega
theorem tq_dn {s t : GS} {p : Nat} (h : TQ s) (hr : t.1 4 = upd (s.1 4) p (Int32.ofInt (-1))) (h1 : (t.2.2.1 2 3) = (s.2.2.1 2 3)) : TQ t := by
  intro q hq hn
  rw [h1]
  by_cases c : q = p
  · rw [c, hr, ug_at] at hn; exact absurd rfl hn
  · rw [hr, ug_ne c] at hn
    exact h q hq hn
theorem tq_lw {s t : GS} {j : Nat} {z : Int32} (h : TQ s) (hr : t.1 4 = s.1 4) (hz : z = s.1 4 j) (hz1 : z.toInt = -1) (h1 : (t.2.2.1 2 3).toInt = (j : Int)) (h2 : (s.2.2.1 2 3).toInt = (j : Int) + 1) : TQ t := by
  intro q hq hn
  rw [hr] at hn
  have h3 := h q hq hn
  have h4 : q ≠ j := fun c => by rw [c, ← hz] at hn; exact hn hz1
  omega
theorem tq_cg {s t : GS} (h : TQ s) (hr : t.1 4 = s.1 4) (h1 : (t.2.2.1 2 3) = (s.2.2.1 2 3)) : TQ t := by
  intro q hq hn
  rw [hr] at hn
  rw [h1]
  exact h q hq hn
/-- a place with an arc, a node, a value that fits -/
def HAC (s : GS) (x : Int32) : Prop := 0 ≤ x.toInt ∧ x.toInt ≤ 159 ∧ (s.1 4 x.toNatClampNeg).toInt ≠ -1
def HNC (s : GS) (x : Int32) : Prop := 0 ≤ x.toInt ∧ x.toInt < (s.2.2.1 2 1).toInt
def GVL (w v : Int32) : Prop := (w.toInt = 0 ∧ In v (-1000000) 1000000) ∨ (w.toInt = 1 ∧ In v 0 1000000) ∨ (w.toInt = 2 ∧ In v 0 25)
/-- throws that say why -/
noncomputable def gEx (Z : AmZ) (A : Nat → Nat) (ex : va_W) (L : FM) (s : GS) (P Q : Prop) : AmX := fun e u => ((e = am_IA ∧ P) ∨ (e = am_IS ∧ Q)) ∧ ∃ t, Inv t ∧ Fr L s t ∧ u = WW Z A t ++ ex
/-- a new row of the log -/
theorem nt_v {w : Nat → Int32} {k : Nat} {d x a b : Int32} : (upd (upd (upd (upd w (7 * k) d) (7 * k + 1) x) (7 * k + 2) a) (7 * k + 3) b) (7 * k) = d ∧ (upd (upd (upd (upd w (7 * k) d) (7 * k + 1) x) (7 * k + 2) a) (7 * k + 3) b) (7 * k + 1) = x ∧ (upd (upd (upd (upd w (7 * k) d) (7 * k + 1) x) (7 * k + 2) a) (7 * k + 3) b) (7 * k + 2) = a ∧ (upd (upd (upd (upd w (7 * k) d) (7 * k + 1) x) (7 * k + 2) a) (7 * k + 3) b) (7 * k + 3) = b := by
  refine ⟨?_, ?_, ?_, ug_at⟩
  · rw [ug_ne (by omega), ug_ne (by omega), ug_ne (by omega), ug_at]
  · rw [ug_ne (by omega), ug_ne (by omega), ug_at]
  · rw [ug_ne (by omega), ug_at]
theorem ar_v {w : Nat → Int32} {k : Nat} {d x f t g r c : Int32} {u : Nat → Int32} (h : u = upd (upd (upd (upd (upd (upd (upd w (7 * k) d) (7 * k + 1) x) (7 * k + 2) f) (7 * k + 3) t) (7 * k + 4) g) (7 * k + 5) r) (7 * k + 6) c) : u (7 * k) = d ∧ u (7 * k + 1) = x ∧ u (7 * k + 2) = f ∧ u (7 * k + 3) = t ∧ u (7 * k + 4) = g ∧ u (7 * k + 5) = r ∧ u (7 * k + 6) = c := by
  subst h
  refine ⟨?_, ?_, ?_, ?_, ?_, ?_, ug_at⟩
  · rw [ug_ne (by omega), ug_ne (by omega), ug_ne (by omega), ug_ne (by omega), ug_ne (by omega), ug_ne (by omega), ug_at]
  · rw [ug_ne (by omega), ug_ne (by omega), ug_ne (by omega), ug_ne (by omega), ug_ne (by omega), ug_at]
  · rw [ug_ne (by omega), ug_ne (by omega), ug_ne (by omega), ug_ne (by omega), ug_at]
  · rw [ug_ne (by omega), ug_ne (by omega), ug_ne (by omega), ug_at]
  · rw [ug_ne (by omega), ug_ne (by omega), ug_at]
  · rw [ug_ne (by omega), ug_at]
theorem gqR_nt {g : GVW} {r : Nat → Int32} {k : Nat} {d x a b : Int32} (hd : d.toInt ≠ 1) (h : r (7 * k) = d ∧ r (7 * k + 1) = x ∧ r (7 * k + 2) = a ∧ r (7 * k + 3) = b) : gqR g r k = gqP g d.toInt x.toNatClampNeg a b := by
  rw [gqR_n (by rw [h.1]; exact hd), h.1, h.2.1, h.2.2.1, h.2.2.2]
theorem gvC_cg {s t : GS} {L : FM} (h : Fr L s t) (hq : (qI L.1 3 && qI L.1 4 && qI L.1 5 && qI L.1 6 && qI L.1 7 && qI L.1 8 && qF L.2.2.1 2 1 && qF L.2.2.1 2 0) = true) : gvC t = gvC s := by
  simp only [Bool.and_eq_true] at hq
  obtain ⟨⟨⟨⟨⟨⟨⟨q1, q2⟩, q3⟩, q4⟩, q5⟩, q6⟩, q7⟩, q8⟩ := hq
  unfold gvC
  rw [h.1 3 q1, h.1 4 q2, h.1 5 q3, h.1 6 q4, h.1 7 q5, h.1 8 q6, h.2.2.1 2 1 q7, h.2.2.1 2 0 q8]
theorem tq_fr {s t : GS} {L : FM} (hT : TQ s) (h : Fr L s t) (hq : (qI L.1 4 && qF L.2.2.1 2 3) = true) : TQ t := by
  rw [Bool.and_eq_true] at hq
  exact tq_cg hT (h.1 4 hq.1) (h.2.2.1 2 3 hq.2)
/-! the reference's -/
/-- what the change k of the reference's log does to its graph g, row by row -/
def RP (s t : GS) (k g : Nat) : Prop :=
  ((s.1 118 k).toInt = 0 → t.1 111 = upd (s.1 111) (32 * g + (s.1 110 g).toNatClampNeg) (s.1 119 k) ∧ t.1 112 = s.1 112 ∧ t.1 113 = s.1 113 ∧ t.1 114 = s.1 114 ∧ t.1 115 = s.1 115 ∧ t.1 116 = s.1 116 ∧ t.1 117 = s.1 117) ∧
  ((s.1 118 k).toInt = 1 → t.1 111 = s.1 111 ∧ (∃ v : Int32, v.toInt ≠ 0 ∧ t.1 112 = upd (s.1 112) (160 * g + (s.1 119 k).toNatClampNeg) (v)) ∧ t.1 113 = upd (s.1 113) (160 * g + (s.1 119 k).toNatClampNeg) (s.1 120 k) ∧ t.1 114 = upd (s.1 114) (160 * g + (s.1 119 k).toNatClampNeg) (s.1 121 k) ∧ t.1 115 = upd (s.1 115) (160 * g + (s.1 119 k).toNatClampNeg) (s.1 122 k) ∧ t.1 116 = upd (s.1 116) (160 * g + (s.1 119 k).toNatClampNeg) (s.1 123 k) ∧ t.1 117 = upd (s.1 117) (160 * g + (s.1 119 k).toNatClampNeg) (s.1 124 k)) ∧
  ((s.1 118 k).toInt = 2 → t.1 111 = s.1 111 ∧ (∃ v : Int32, v.toInt = 0 ∧ t.1 112 = upd (s.1 112) (160 * g + (s.1 119 k).toNatClampNeg) (v)) ∧ t.1 113 = s.1 113 ∧ t.1 114 = s.1 114 ∧ t.1 115 = s.1 115 ∧ t.1 116 = s.1 116 ∧ t.1 117 = s.1 117) ∧
  ((s.1 118 k).toInt = 3 → t.1 111 = s.1 111 ∧ t.1 112 = s.1 112 ∧ t.1 113 = s.1 113 ∧ t.1 114 = s.1 114 ∧ t.1 115 = (if (s.1 120 k).toInt = 0 then upd (s.1 115) (160 * g + (s.1 119 k).toNatClampNeg) (s.1 121 k) else s.1 115) ∧ t.1 116 = (if (s.1 120 k).toInt = 1 then upd (s.1 116) (160 * g + (s.1 119 k).toNatClampNeg) (s.1 121 k) else s.1 116) ∧ t.1 117 = (if (s.1 120 k).toInt ≠ 0 ∧ (s.1 120 k).toInt ≠ 1 then upd (s.1 117) (160 * g + (s.1 119 k).toNatClampNeg) (s.1 121 k) else s.1 117)) ∧
  ((s.1 118 k).toInt = 4 → t.1 111 = upd (s.1 111) (32 * g + (s.1 119 k).toNatClampNeg) (s.1 120 k) ∧ t.1 112 = s.1 112 ∧ t.1 113 = s.1 113 ∧ t.1 114 = s.1 114 ∧ t.1 115 = s.1 115 ∧ t.1 116 = s.1 116 ∧ t.1 117 = s.1 117)
section RP
variable {s t : GS} {k g j : Nat}
theorem rp_0 {v : Int32} (h0 : (s.1 118 k).toInt = 0) (hj : j = 32 * g + (s.1 110 g).toNatClampNeg) (hv : v = s.1 119 k) (h1 : t.1 111 = upd (s.1 111) j v) (h2 : t.1 112 = s.1 112) (h3 : t.1 113 = s.1 113) (h4 : t.1 114 = s.1 114) (h5 : t.1 115 = s.1 115) (h6 : t.1 116 = s.1 116) (h7 : t.1 117 = s.1 117) : RP s t k g := by
  subst hj hv
  exact ⟨fun _ => ⟨h1, h2, h3, h4, h5, h6, h7⟩, fun h => absurd h (by omega), fun h => absurd h (by omega), fun h => absurd h (by omega), fun h => absurd h (by omega)⟩
theorem rp_1 {v b c d e f : Int32} (h0 : (s.1 118 k).toInt = 1) (hj : j = 160 * g + (s.1 119 k).toNatClampNeg) (hv : v.toInt ≠ 0) (hb : b = s.1 120 k) (hc : c = s.1 121 k) (hd : d = s.1 122 k) (he : e = s.1 123 k) (hf : f = s.1 124 k) (h1 : t.1 111 = s.1 111) (h2 : t.1 112 = upd (s.1 112) j v) (h3 : t.1 113 = upd (s.1 113) j b) (h4 : t.1 114 = upd (s.1 114) j c) (h5 : t.1 115 = upd (s.1 115) j d) (h6 : t.1 116 = upd (s.1 116) j e) (h7 : t.1 117 = upd (s.1 117) j f) : RP s t k g := by
  subst hj hb hc hd he hf
  exact ⟨fun h => absurd h (by omega), fun _ => ⟨h1, ⟨v, hv, h2⟩, h3, h4, h5, h6, h7⟩, fun h => absurd h (by omega), fun h => absurd h (by omega), fun h => absurd h (by omega)⟩
theorem rp_2 {v : Int32} (h0 : (s.1 118 k).toInt = 2) (hj : j = 160 * g + (s.1 119 k).toNatClampNeg) (hv : v.toInt = 0) (h1 : t.1 111 = s.1 111) (h2 : t.1 112 = upd (s.1 112) j v) (h3 : t.1 113 = s.1 113) (h4 : t.1 114 = s.1 114) (h5 : t.1 115 = s.1 115) (h6 : t.1 116 = s.1 116) (h7 : t.1 117 = s.1 117) : RP s t k g := by
  subst hj
  exact ⟨fun h => absurd h (by omega), fun h => absurd h (by omega), fun _ => ⟨h1, ⟨v, hv, h2⟩, h3, h4, h5, h6, h7⟩, fun h => absurd h (by omega), fun h => absurd h (by omega)⟩
theorem rp_3 (h0 : (s.1 118 k).toInt = 3) (h1 : t.1 111 = s.1 111) (h2 : t.1 112 = s.1 112) (h3 : t.1 113 = s.1 113) (h4 : t.1 114 = s.1 114) (h5 : t.1 115 = (if (s.1 120 k).toInt = 0 then upd (s.1 115) (160 * g + (s.1 119 k).toNatClampNeg) (s.1 121 k) else s.1 115)) (h6 : t.1 116 = (if (s.1 120 k).toInt = 1 then upd (s.1 116) (160 * g + (s.1 119 k).toNatClampNeg) (s.1 121 k) else s.1 116)) (h7 : t.1 117 = (if (s.1 120 k).toInt ≠ 0 ∧ (s.1 120 k).toInt ≠ 1 then upd (s.1 117) (160 * g + (s.1 119 k).toNatClampNeg) (s.1 121 k) else s.1 117)) : RP s t k g :=
  ⟨fun h => absurd h (by omega), fun h => absurd h (by omega), fun h => absurd h (by omega), fun _ => ⟨h1, h2, h3, h4, h5, h6, h7⟩, fun h => absurd h (by omega)⟩
theorem rp_4 {v : Int32} (h0 : (s.1 118 k).toInt = 4) (hj : j = 32 * g + (s.1 119 k).toNatClampNeg) (hv : v = s.1 120 k) (h1 : t.1 111 = upd (s.1 111) j v) (h2 : t.1 112 = s.1 112) (h3 : t.1 113 = s.1 113) (h4 : t.1 114 = s.1 114) (h5 : t.1 115 = s.1 115) (h6 : t.1 116 = s.1 116) (h7 : t.1 117 = s.1 117) : RP s t k g := by
  subst hj hv
  exact ⟨fun h => absurd h (by omega), fun h => absurd h (by omega), fun h => absurd h (by omega), fun h => absurd h (by omega), fun _ => ⟨h1, h2, h3, h4, h5, h6, h7⟩⟩
end RP
/-- from, where an arc is there -/
def thf (th fr : Nat → Int32) : Nat → Int32 := fun p => if (th p).toInt = 0 then Int32.ofInt (-1) else fr p
theorem thf_up {th fr : Nat → Int32} {p : Nat} {v a : Int32} (hv : v.toInt ≠ 0) : thf (upd th p v) (upd fr p a) = upd (thf th fr) p a := by
  funext q
  unfold thf
  by_cases c : q = p
  · subst c
    rw [ug_at, ug_at, ug_at, if_neg hv]
  · rw [ug_ne c, ug_ne c, ug_ne c]
theorem thf_dn {th fr : Nat → Int32} {p : Nat} {v : Int32} (hv : v.toInt = 0) : thf (upd th p v) fr = upd (thf th fr) p (Int32.ofInt (-1)) := by
  funext q
  unfold thf
  by_cases c : q = p
  · subst c
    rw [ug_at, ug_at, if_pos hv]
  · rw [ug_ne c, ug_ne c]
def gvR (s : GS) : GVW := (s.1 111, thf (s.1 112) (s.1 113), s.1 114, s.1 115, s.1 116, s.1 117, (s.1 110 0).toInt, (s.2.2.1 109 9).toInt)
def MKP (s t : GS) (w a b c d e f : Int32) : Prop := (w.toInt = 0 → gvR t = gqN (gvR s) (s.1 110 0).toNatClampNeg a) ∧ (w.toInt = 1 → gvR t = gqA (gvR s) a.toNatClampNeg b c d e f) ∧ (w.toInt = 2 → gvR t = gqD (gvR s) a.toNatClampNeg) ∧ (w.toInt = 3 → gvR t = gqW (gvR s) a.toNatClampNeg b c) ∧ (w.toInt = 4 → gvR t = gqL (gvR s) a.toNatClampNeg b)
theorem gvR_mk {t : GS} {a b c d e f : Nat → Int32} {n v : Int} (h1 : t.1 111 = a) (h2 : thf (t.1 112) (t.1 113) = b) (h3 : t.1 114 = c) (h4 : t.1 115 = d) (h5 : t.1 116 = e) (h6 : t.1 117 = f) (h7 : (t.1 110 0).toInt = n) (h8 : (t.2.2.1 109 9).toInt = v) : gvR t = (a, b, c, d, e, f, n, v) := by
  unfold gvR
  rw [h1, h2, h3, h4, h5, h6, h7, h8]
theorem mkp_i {s u v t : GS} {ch : Nat} {w a b c d e f : Int32} (hm : PMK s t w.toInt a.toNatClampNeg) (hp : RP u v ch 0) (w1 : u.1 118 ch = w) (w2 : u.1 119 ch = a) (w3 : u.1 120 ch = b) (w4 : u.1 121 ch = c) (w5 : u.1 122 ch = d) (w6 : u.1 123 ch = e) (w7 : u.1 124 ch = f) (r0 : u.1 110 = s.1 110) (r1 : u.1 111 = s.1 111) (r2 : u.1 112 = s.1 112) (r3 : u.1 113 = s.1 113) (r4 : u.1 114 = s.1 114) (r5 : u.1 115 = s.1 115) (r6 : u.1 116 = s.1 116) (r7 : u.1 117 = s.1 117) (ht : t.1 = v.1) (hc : (t.2.2.1 109 9).toInt = (s.2.2.1 109 9).toInt + 1) : MKP s t w a b c d e f := by
  unfold RP at hp
  rw [w1, w2, w3, w4, w5, w6, w7, r0, r1, r2, r3, r4, r5, r6, r7, ← ht] at hp
  obtain ⟨p0, p1, p2, p3, p4⟩ := hp
  simp only [Nat.mul_zero, Nat.zero_add] at p0 p1 p2 p3 p4
  refine ⟨fun h => ?_, fun h => ?_, fun h => ?_, fun h => ?_, fun h => ?_⟩
  · obtain ⟨g1, g2, g3, g4, g5, g6, g7⟩ := p0 h
    exact gvR_mk g1 (by rw [g2, g3]; rfl) g4 g5 g6 g7 (hm.1 h) hc
  · obtain ⟨g1, ⟨x, hx, g2⟩, g3, g4, g5, g6, g7⟩ := p1 h
    exact gvR_mk g1 (by rw [g2, g3]; exact thf_up hx) g4 g5 g6 g7 (hm.2.1 (by omega)) hc
  · obtain ⟨g1, ⟨x, hx, g2⟩, g3, g4, g5, g6, g7⟩ := p2 h
    exact gvR_mk g1 (by rw [g2, g3]; exact thf_dn hx) g4 g5 g6 g7 (hm.2.1 (by omega)) hc
  · obtain ⟨g1, g2, g3, g4, g5, g6, g7⟩ := p3 h
    exact gvR_mk g1 (by rw [g2, g3]; rfl) g4 g5 g6 g7 (hm.2.1 (by omega)) hc
  · obtain ⟨g1, g2, g3, g4, g5, g6, g7⟩ := p4 h
    exact gvR_mk g1 (by rw [g2, g3]; rfl) g4 g5 g6 g7 (hm.2.1 (by omega)) hc
theorem gvR_cg {s t : GS} {L : FM} (h : Fr L s t) (hq : (qI L.1 110 && qI L.1 111 && qI L.1 112 && qI L.1 113 && qI L.1 114 && qI L.1 115 && qI L.1 116 && qI L.1 117 && qF L.2.2.1 109 9) = true) : gvR t = gvR s := by
  simp only [Bool.and_eq_true] at hq
  obtain ⟨⟨⟨⟨⟨⟨⟨⟨q0, q1⟩, q2⟩, q3⟩, q4⟩, q5⟩, q6⟩, q7⟩, q8⟩ := hq
  unfold gvR
  rw [h.1 110 q0, h.1 111 q1, h.1 112 q2, h.1 113 q3, h.1 114 q4, h.1 115 q5, h.1 116 q6, h.1 117 q7, h.2.2.1 109 9 q8]
/-- a place with an arc, a node of the reference -/
def HAR (s : GS) (x : Int32) : Prop := 0 ≤ x.toInt ∧ x.toInt ≤ 159 ∧ (s.1 112 x.toNatClampNeg).toInt ≠ 0
def HNR (s : GS) (x : Int32) : Prop := 0 ≤ x.toInt ∧ x.toInt < (s.1 110 0).toInt
/-- code and answer of a call that may be refused: P the arguments are good, Q the time is -/
def CDR (s t : GS) (P Q R : Prop) : Prop := ((t.2.2.1 109 0).toInt = 1 ∧ ¬ P ∧ gvR t = gvR s) ∨ ((t.2.2.1 109 0).toInt = 2 ∧ P ∧ ¬ Q ∧ gvR t = gvR s) ∨ ((t.2.2.1 109 0).toInt = 0 ∧ P ∧ Q ∧ R)
end
section
/-! TOKENS OF A TEXT OF COMMANDS -/
def tkD (c : Int32) : Prop := 48 ≤ c.toInt ∧ c.toInt ≤ 57
/-- blanks from a on, up to p -/
def tkS (T : Nat → Int32) (n a p : Nat) : Prop := a ≤ p ∧ p ≤ n ∧ (∀ i, a ≤ i → i < p → (T i).toInt = 32) ∧ (p < n → (T p).toInt ≠ 32)
/-- digits from a on, up to p -/
def tkG (T : Nat → Int32) (n a p : Nat) : Prop := a ≤ p ∧ p ≤ n ∧ (∀ i, a ≤ i → i < p → tkD (T i)) ∧ (p < n → ¬ tkD (T p))
/-- the number of the k digits from a on -/
def tkN (T : Nat → Int32) (a : Nat) : Nat → Int
  | 0 => 0
  | k + 1 => 10 * tkN T a k + ((T (a + k)).toInt - 48)
/-- where the digits of a number at p begin -/
def tkQ (T : Nat → Int32) (n p q : Nat) : Prop := (q = p ∧ p < n ∧ tkD (T p)) ∨ (q = p + 1 ∧ (T p).toInt = 45 ∧ p + 1 < n ∧ tkD (T (p + 1)))
def tkL (c : Int32) : Prop := 97 ≤ c.toInt ∧ c.toInt ≤ 122
/-- the token from a on: its place p, its end e, its kind k (0 none, 1 letter, 2 number, 3 semicolon, 4 no token, 5 too long), its value v -/
def TKN (T : Nat → Int32) (n a p e : Nat) (k v : Int) : Prop := tkS T n a p ∧
  ((p = n ∧ e = p ∧ k = 0) ∨
   (p < n ∧ tkL (T p) ∧ e = p + 1 ∧ k = 1 ∧ v = (T p).toInt - 97) ∨
   (∃ q, tkQ T n p q ∧ tkG T n q e ∧ ((e - q ≤ 7 ∧ k = 2 ∧ v = (if q = p then tkN T q (e - q) else - tkN T q (e - q))) ∨ (7 < e - q ∧ k = 5))) ∨
   (p < n ∧ (T p).toInt = 59 ∧ e = p + 1 ∧ k = 3 ∧ v = 59) ∨
   (p < n ∧ ¬ tkL (T p) ∧ (T p).toInt ≠ 59 ∧ (∀ q, ¬ tkQ T n p q) ∧ e = p + 1 ∧ k = 4))
section TKU
variable {T : Nat → Int32} {n a : Nat}
theorem tkS_u {p q : Nat} (h : tkS T n a p) (g : tkS T n a q) : p = q := by
  obtain ⟨h1, h2, h3, h4⟩ := h
  obtain ⟨g1, g2, g3, g4⟩ := g
  rcases Nat.lt_trichotomy p q with c | c | c
  · exact absurd (g3 p h1 c) (h4 (by omega))
  · exact c
  · exact absurd (h3 q g1 c) (g4 (by omega))
theorem tkG_u {p q : Nat} (h : tkG T n a p) (g : tkG T n a q) : p = q := by
  obtain ⟨h1, h2, h3, h4⟩ := h
  obtain ⟨g1, g2, g3, g4⟩ := g
  rcases Nat.lt_trichotomy p q with c | c | c
  · exact absurd (g3 p h1 c) (h4 (by omega))
  · exact c
  · exact absurd (h3 q g1 c) (g4 (by omega))
theorem tkQ_u {p q r : Nat} (h : tkQ T n p q) (g : tkQ T n p r) : q = r := by
  rcases h with ⟨h1, h2, h3⟩ | ⟨h1, h2, h3, h4⟩ <;> rcases g with ⟨g1, g2, g3⟩ | ⟨g1, g2, g3, g4⟩
  · omega
  · have := h3.1; have := h3.2; omega
  · have := g3.1; have := g3.2; omega
  · omega
theorem tkQ_l {p q : Nat} (h : tkQ T n p q) : p < n ∧ ¬ tkL (T p) ∧ (T p).toInt ≠ 59 := by
  unfold tkL
  rcases h with ⟨h1, h2, h3⟩ | ⟨h1, h2, h3, h4⟩
  · have := h3.1; have := h3.2; exact ⟨h2, by omega, by omega⟩
  · exact ⟨by omega, by omega, by omega⟩
/-- a place has one token -/
theorem tkn_u {p e p2 e2 : Nat} {k v k2 v2 : Int} (h : TKN T n a p e k v) (g : TKN T n a p2 e2 k2 v2) : p = p2 ∧ e = e2 ∧ k = k2 ∧ ((k = 1 ∨ k = 2) → v = v2) := by
  obtain ⟨hs, h⟩ := h
  obtain ⟨gs, g⟩ := g
  have ep := tkS_u hs gs
  subst ep
  refine ⟨rfl, ?_⟩
  rcases h with ⟨h1, h2, h3⟩ | ⟨h1, h2, h3, h4, h5⟩ | ⟨q, h1, h2, h3⟩ | ⟨h1, h2, h3, h4, -⟩ | ⟨h1, h2, h3, h4, h5, h6⟩ <;> rcases g with ⟨g1, g2, g3⟩ | ⟨g1, g2, g3, g4, g5⟩ | ⟨r, g1, g2, g3⟩ | ⟨g1, g2, g3, g4, -⟩ | ⟨g1, g2, g3, g4, g5, g6⟩
  · exact ⟨by omega, by omega, fun c => by omega⟩
  · omega
  · have := (tkQ_l g1).1; omega
  · omega
  · omega
  · omega
  · exact ⟨by omega, by omega, fun _ => by omega⟩
  · exact absurd h2 (tkQ_l g1).2.1
  · unfold tkL at h2; omega
  · exact absurd h2 g2
  · have := (tkQ_l h1).1; omega
  · exact absurd g2 (tkQ_l h1).2.1
  · have er := tkQ_u h1 g1
    subst er
    have ee := tkG_u h2 g2
    subst ee
    rcases h3 with ⟨a1, a2, a3⟩ | ⟨a1, a2⟩ <;> rcases g3 with ⟨b1, b2, b3⟩ | ⟨b1, b2⟩
    · exact ⟨rfl, by omega, fun _ => by rw [a3, b3]⟩
    · omega
    · omega
    · exact ⟨rfl, by omega, fun c => by omega⟩
  · exact absurd g2 (tkQ_l h1).2.2
  · exact absurd h1 (g4 q)
  · omega
  · unfold tkL at g2; omega
  · exact absurd h2 (tkQ_l g1).2.2
  · exact ⟨by omega, by omega, fun c => by omega⟩
  · exact absurd h2 g3
  · omega
  · exact absurd g2 h2
  · exact absurd g1 (h4 r)
  · exact absurd g2 h3
  · exact ⟨by omega, by omega, fun c => by omega⟩
theorem tkn_e {p e : Nat} {k v : Int} (h : TKN T n a p e k v) : a ≤ p ∧ p ≤ e ∧ e ≤ n ∧ (k ≠ 0 → p < e) ∧ 0 ≤ k ∧ k ≤ 5 := by
  obtain ⟨⟨s1, s2, -, -⟩, h⟩ := h
  rcases h with ⟨h1, h2, h3⟩ | ⟨h1, h2, h3, h4, h5⟩ | ⟨q, h1, h2, h3⟩ | ⟨h1, h2, h3, h4, -⟩ | ⟨h1, h2, h3, h4, h5, h6⟩
  · exact ⟨s1, by omega, by omega, fun c => absurd h3 c, by omega, by omega⟩
  · exact ⟨s1, by omega, by omega, fun c => by omega, by omega, by omega⟩
  · obtain ⟨g1, g2, g3, g4⟩ := h2
    have hq : p ≤ q ∧ p < e := by
      rcases h1 with ⟨c1, c2, c3⟩ | ⟨c1, c2, c3, c4⟩
      · refine ⟨by omega, ?_⟩
        rcases Nat.lt_or_ge p e with c | c
        · exact c
        · exact absurd (by rw [c1] at g1; rw [show e = p by omega]; exact c3) (g4 (by omega))
      · exact ⟨by omega, by omega⟩
    exact ⟨s1, by omega, by omega, fun _ => hq.2, by omega, by omega⟩
  · exact ⟨s1, by omega, by omega, fun c => by omega, by omega, by omega⟩
  · exact ⟨s1, by omega, by omega, fun c => by omega, by omega, by omega⟩
end TKU
section TKI
variable {T : Nat → Int32} {n a p e : Nat} {k v : Int}
theorem tkn_0 (hs : tkS T n a p) (h : p = n) (he : e = p) (hk : k = 0) : TKN T n a p e k v := ⟨hs, Or.inl ⟨h, he, hk⟩⟩
theorem tkn_1 (hs : tkS T n a p) (h : p < n) (hl : tkL (T p)) (he : e = p + 1) (hk : k = 1) (hv : v = (T p).toInt - 97) : TKN T n a p e k v := ⟨hs, Or.inr (Or.inl ⟨h, hl, he, hk, hv⟩)⟩
theorem tkn_2 {q : Nat} {x : Int} (hs : tkS T n a p) (hq : tkQ T n p q) (hx : x = 0 ↔ q = p) (h : tkG T n q e ∧ ((e - q ≤ 7 ∧ k = 2 ∧ v = (if x = 0 then tkN T q (e - q) else - tkN T q (e - q))) ∨ (7 < e - q ∧ k = 5))) : TKN T n a p e k v := by
  refine ⟨hs, Or.inr (Or.inr (Or.inl ⟨q, hq, h.1, ?_⟩))⟩
  rcases h.2 with ⟨h1, h2, h3⟩ | h2
  · refine Or.inl ⟨h1, h2, ?_⟩
    rw [h3]
    by_cases c : x = 0
    · rw [if_pos c, if_pos (hx.mp c)]
    · rw [if_neg c, if_neg (fun z => c (hx.mpr z))]
  · exact Or.inr h2
theorem tkn_3 (hs : tkS T n a p) (h : p < n) (hc : (T p).toInt = 59) (he : e = p + 1) (hk : k = 3) (hv : v = 59) : TKN T n a p e k v := ⟨hs, Or.inr (Or.inr (Or.inr (Or.inl ⟨h, hc, he, hk, hv⟩)))⟩
theorem tkn_4 (hs : tkS T n a p) (h : p < n) (hl : ¬ tkL (T p)) (hc : (T p).toInt ≠ 59) (hq : ∀ q, ¬ tkQ T n p q) (he : e = p + 1) (hk : k = 4) : TKN T n a p e k v := ⟨hs, Or.inr (Or.inr (Or.inr (Or.inr ⟨h, hl, hc, hq, he, hk⟩)))⟩
theorem nq_1 (h : ¬ tkD (T p)) (hm : (T p).toInt ≠ 45) : ∀ q, ¬ tkQ T n p q := by
  intro q hq
  rcases hq with ⟨-, -, h3⟩ | ⟨-, h2, -⟩
  · exact h h3
  · exact hm h2
theorem nq_2 (h : (T p).toInt = 45) (hn : p + 1 < n → ¬ tkD (T (p + 1))) : ∀ q, ¬ tkQ T n p q := by
  intro q hq
  rcases hq with ⟨-, -, h3⟩ | ⟨-, -, h3, h4⟩
  · have := h3.1; omega
  · exact hn h3 h4
/-- a semicolon is 59, a letter is below 26 -/
theorem tkn_v3 (h : TKN T n a p e k v) (hk : k = 3) : v = 59 := by
  rcases h.2 with ⟨h1, h2, h3⟩ | ⟨h1, h2, h3, h4, h5⟩ | ⟨q, h1, h2, h3⟩ | ⟨h1, h2, h3, h4, h5⟩ | ⟨h1, h2, h3, h4, h5, h6⟩
  · omega
  · omega
  · rcases h3 with ⟨a1, a2, a3⟩ | ⟨a1, a2⟩ <;> omega
  · exact h5
  · omega
theorem tkn_v1 (h : TKN T n a p e k v) (hk : k = 1) : 0 ≤ v ∧ v ≤ 25 := by
  rcases h.2 with ⟨h1, h2, h3⟩ | ⟨h1, h2, h3, h4, h5⟩ | ⟨q, h1, h2, h3⟩ | ⟨h1, h2, h3, h4, h5⟩ | ⟨h1, h2, h3, h4, h5, h6⟩
  · omega
  · have := h2.1; have := h2.2; omega
  · rcases h3 with ⟨a1, a2, a3⟩ | ⟨a1, a2⟩ <;> omega
  · omega
  · omega
/-- a number has been read -/
theorem rdn_i {q : Nat} {d y x : Int} (h1 : q ≤ e) (h2 : e ≤ n) (hd : ∀ i, q ≤ i → i < e → tkD (T i)) (hn : e < n → ¬ tkD (T e)) (ed : d = (e : Int) - q) (hy : d ≤ 7 → y = tkN T q d.toNat) (hk : (d ≤ 7 ∧ k = 2) ∨ (7 < d ∧ k = 5)) (hv : v = (if x = 0 then y else - y)) : tkG T n q e ∧ ((e - q ≤ 7 ∧ k = 2 ∧ v = (if x = 0 then tkN T q (e - q) else - tkN T q (e - q))) ∨ (7 < e - q ∧ k = 5)) := by
  refine ⟨⟨h1, h2, hd, hn⟩, ?_⟩
  have en : d.toNat = e - q := by omega
  rcases hk with ⟨k1, k2⟩ | ⟨k1, k2⟩
  · refine Or.inl ⟨by omega, k2, ?_⟩
    rw [hv, hy k1, en]
  · exact Or.inr ⟨by omega, k2⟩
end TKI
theorem t_ngf {z x : Int32} (hz : z = -x) (hx : In x 0 9999999) : z.toInt = -x.toInt := by
  obtain ⟨x1, x2⟩ := hx
  rw [hz, Int32.toInt_neg]
  exact Int.bmod_eq_of_le (by omega) (by omega)
/-- the i-th token from a on -/
def TSQ (T : Nat → Int32) (n a : Nat) : Nat → Nat → Nat → Int → Int → Prop
  | 0, p, e, k, v => TKN T n a p e k v
  | i + 1, p, e, k, v => ∃ p0 e0 k0 v0, TSQ T n a i p0 e0 k0 v0 ∧ TKN T n e0 p e k v
theorem tsq_u {T : Nat → Int32} {n a : Nat} : ∀ (i : Nat) {p e p2 e2 : Nat} {k v k2 v2 : Int}, TSQ T n a i p e k v → TSQ T n a i p2 e2 k2 v2 → p = p2 ∧ e = e2 ∧ k = k2 ∧ ((k = 1 ∨ k = 2) → v = v2)
  | 0, _, _, _, _, _, _, _, _, h, g => tkn_u h g
  | i + 1, _, _, _, _, _, _, _, _, ⟨_, _, _, _, h1, h2⟩, ⟨_, _, _, _, g1, g2⟩ => by
    have hh := (tsq_u i h1 g1).2.1
    subst hh
    exact tkn_u h2 g2
/-- how many things a command wants, and of which kind -/
def cmA (c : Int) : Nat := if c = 13 then 1 else if c = 0 then 5 else if c = 19 then 1 else 2
def cmI (c : Int) : Prop := c = 13 ∨ c = 0 ∨ c = 19 ∨ c = 22
def cmK (c : Int) (i : Nat) : Int := if i = cmA c + 1 then 3 else if (c = 13 ∧ i = 1) ∨ (c = 0 ∧ i = 5) then 1 else 2
def cmF (k : Int) : Int := if k = 4 then 1 else if k = 5 then 3 else 2
/-- a command c with the values V, from a to e; its place p -/
def CMP (T : Nat → Int32) (n a p : Nat) (c : Int) (V : Nat → Int) (e : Nat) : Prop := cmI c ∧ (∃ e0, TSQ T n a 0 p e0 1 c) ∧ (∀ i, i < cmA c → ∃ q f, TSQ T n a (i + 1) q f (cmK c (i + 1)) (V i)) ∧ ∃ q v, TSQ T n a (cmA c + 1) q e 3 v
/-- no command from a on: fault f at place p -/
def CMX (T : Nat → Int32) (n a : Nat) (f : Int) (p : Nat) : Prop :=
  (∃ e k v, TSQ T n a 0 p e k v ∧ k ≠ 0 ∧ ¬ (k = 1 ∧ cmI v) ∧ f = cmF k) ∨
  (∃ c p0 e0, cmI c ∧ TSQ T n a 0 p0 e0 1 c ∧ ∃ i, i ≤ cmA c ∧ (∀ j, j < i → ∃ q g w, TSQ T n a (j + 1) q g (cmK c (j + 1)) w) ∧ ∃ e k v, TSQ T n a (i + 1) p e k v ∧ k ≠ cmK c (i + 1) ∧ f = cmF k)
theorem cmp_u {T : Nat → Int32} {n a p p2 e e2 : Nat} {c c2 : Int} {V V2 : Nat → Int} (h : CMP T n a p c V e) (g : CMP T n a p2 c2 V2 e2) : p = p2 ∧ c = c2 ∧ e = e2 ∧ ∀ i, i < cmA c → V i = V2 i := by
  obtain ⟨h1, ⟨e0, h2⟩, h3, q, v, h4⟩ := h
  obtain ⟨g1, ⟨f0, g2⟩, g3, r, w, g4⟩ := g
  have u0 := tsq_u 0 h2 g2
  have uc := u0.2.2.2 (Or.inl rfl)
  subst uc
  refine ⟨u0.1, rfl, (tsq_u _ h4 g4).2.1, fun i hi => ?_⟩
  obtain ⟨q1, f1, k1⟩ := h3 i hi
  obtain ⟨q2, f2, k2⟩ := g3 i hi
  refine (tsq_u _ k1 k2).2.2.2 ?_
  unfold cmK
  rw [if_neg (by omega)]
  by_cases cc : (c = 13 ∧ i + 1 = 1) ∨ (c = 0 ∧ i + 1 = 5)
  · rw [if_pos cc]; exact Or.inl rfl
  · rw [if_neg cc]; exact Or.inr rfl
theorem cmx_n {T : Nat → Int32} {n a p p2 e : Nat} {c f : Int} {V : Nat → Int} (h : CMP T n a p c V e) (g : CMX T n a f p2) : False := by
  obtain ⟨h1, ⟨e0, h2⟩, h3, q, v, h4⟩ := h
  rcases g with ⟨e1, k, w, g1, g2, g3, g4⟩ | ⟨c2, p0, f0, g1, g2, i, g3, g4, e1, k, w, g5, g6, g7⟩
  · have u0 := tsq_u 0 h2 g1
    exact g3 ⟨u0.2.2.1.symm, by rw [← u0.2.2.2 (Or.inl rfl)]; exact h1⟩
  · have u0 := tsq_u 0 h2 g2
    have uc := u0.2.2.2 (Or.inl rfl)
    subst uc
    rcases Nat.lt_or_ge i (cmA c) with ci | ci
    · obtain ⟨q1, f1, k1⟩ := h3 i ci
      exact g6 (tsq_u _ k1 g5).2.2.1.symm
    · have ei : i = cmA c := by omega
      subst ei
      refine g6 ?_
      rw [← (tsq_u _ h4 g5).2.2.1]
      unfold cmK
      rw [if_pos rfl]
theorem cmx_u {T : Nat → Int32} {n a p p2 : Nat} {f f2 : Int} (h : CMX T n a f p) (g : CMX T n a f2 p2) : f = f2 ∧ p = p2 := by
  rcases h with ⟨e1, k1, w1, h1, h2, h3, h4⟩ | ⟨c1, p1, f1, h1, h2, i1, h3, h4, e1, k1, w1, h5, h6, h7⟩ <;> rcases g with ⟨e2, k2, w2, g1, g2, g3, g4⟩ | ⟨c2, q2, r2, g1, g2, i2, g3, g4, e2, k2, w2, g5, g6, g7⟩
  · have u := tsq_u 0 h1 g1
    exact ⟨by rw [h4, g4, u.2.2.1], u.1⟩
  · have u := tsq_u 0 h1 g2
    exact absurd ⟨u.2.2.1, by rw [u.2.2.2 (Or.inl u.2.2.1)]; exact g1⟩ h3
  · have u := tsq_u 0 g1 h2
    exact absurd ⟨u.2.2.1, by rw [u.2.2.2 (Or.inl u.2.2.1)]; exact h1⟩ g3
  · have u0 := tsq_u 0 h2 g2
    have uc := u0.2.2.2 (Or.inl rfl)
    subst uc
    rcases Nat.lt_trichotomy i1 i2 with ci | ci | ci
    · obtain ⟨q, r, w, k⟩ := g4 i1 ci
      exact absurd (tsq_u _ h5 k).2.2.1 h6
    · subst ci
      have u := tsq_u _ h5 g5
      exact ⟨by rw [h7, g7, u.2.2.1], u.1⟩
    · obtain ⟨q, r, w, k⟩ := h4 i2 ci
      exact absurd (tsq_u _ g5 k).2.2.1 g6
/-- the text ends from a on -/
def CME (T : Nat → Int32) (n a : Nat) : Prop := ∃ p e v, TSQ T n a 0 p e 0 v
theorem cme_p {T : Nat → Int32} {n a p e : Nat} {c : Int} {V : Nat → Int} (h : CME T n a) (g : CMP T n a p c V e) : False := by
  obtain ⟨p1, e1, v1, h⟩ := h
  obtain ⟨-, ⟨e0, g2⟩, -⟩ := g
  have := (tsq_u 0 h g2).2.2.1
  omega
theorem cme_x {T : Nat → Int32} {n a p : Nat} {f : Int} (h : CME T n a) (g : CMX T n a f p) : False := by
  obtain ⟨p1, e1, v1, h⟩ := h
  rcases g with ⟨e2, k, w, g1, g2, g3, g4⟩ | ⟨c2, p0, f0, g1, g2, -⟩
  · exact g2 (tsq_u 0 h g1).2.2.1.symm
  · have := (tsq_u 0 h g2).2.2.1
    omega
end
section
/-! WHAT A TEXT OF COMMANDS DOES TO A GRAPH -/
section CG
variable {T U : Nat → Int32} {n : Nat}
theorem tkS_cg {a p : Nat} (hT : ∀ i, i < n → T i = U i) (h : tkS T n a p) : tkS U n a p := by
  obtain ⟨h1, h2, h3, h4⟩ := h
  exact ⟨h1, h2, fun i hi hp => by rw [← hT i (by omega)]; exact h3 i hi hp, fun hp => by rw [← hT p hp]; exact h4 hp⟩
theorem tkG_cg {a p : Nat} (hT : ∀ i, i < n → T i = U i) (h : tkG T n a p) : tkG U n a p := by
  obtain ⟨h1, h2, h3, h4⟩ := h
  exact ⟨h1, h2, fun i hi hp => by rw [← hT i (by omega)]; exact h3 i hi hp, fun hp => by rw [← hT p hp]; exact h4 hp⟩
theorem tkN_cg {a : Nat} (hT : ∀ i, i < n → T i = U i) : ∀ k, a + k ≤ n → tkN U a k = tkN T a k
  | 0, _ => rfl
  | k + 1, h => by
    unfold tkN
    rw [tkN_cg hT k (by omega), hT (a + k) (by omega)]
theorem tkQ_cg {p q : Nat} (hT : ∀ i, i < n → T i = U i) (h : tkQ T n p q) : tkQ U n p q := by
  rcases h with ⟨h1, h2, h3⟩ | ⟨h1, h2, h3, h4⟩
  · exact Or.inl ⟨h1, h2, by rw [← hT p h2]; exact h3⟩
  · exact Or.inr ⟨h1, by rw [← hT p (by omega)]; exact h2, h3, by rw [← hT (p + 1) h3]; exact h4⟩
theorem tkn_cg {a p e : Nat} {k v : Int} (hT : ∀ i, i < n → T i = U i) (h : TKN T n a p e k v) : TKN U n a p e k v := by
  obtain ⟨hs, h⟩ := h
  refine ⟨tkS_cg hT hs, ?_⟩
  rcases h with h | ⟨h1, h2, h3, h4, h5⟩ | ⟨q, h1, h2, h3⟩ | ⟨h1, h2, h3, h4, h5⟩ | ⟨h1, h2, h3, h4, h5, h6⟩
  · exact Or.inl h
  · exact Or.inr (Or.inl ⟨h1, by rw [← hT p h1]; exact h2, h3, h4, by rw [← hT p h1]; exact h5⟩)
  · refine Or.inr (Or.inr (Or.inl ⟨q, tkQ_cg hT h1, tkG_cg hT h2, ?_⟩))
    rcases h3 with ⟨a1, a2, a3⟩ | h3
    · refine Or.inl ⟨a1, a2, ?_⟩
      obtain ⟨g1, g2, -, -⟩ := h2
      rw [tkN_cg hT (e - q) (by omega)]
      exact a3
    · exact Or.inr h3
  · exact Or.inr (Or.inr (Or.inr (Or.inl ⟨h1, by rw [← hT p h1]; exact h2, h3, h4, h5⟩)))
  · exact Or.inr (Or.inr (Or.inr (Or.inr ⟨h1, by rw [← hT p h1]; exact h2, by rw [← hT p h1]; exact h3, fun q hq => h4 q (tkQ_cg (fun i hi => (hT i hi).symm) hq), h5, h6⟩)))
theorem tsq_cg {a : Nat} (hT : ∀ i, i < n → T i = U i) : ∀ (i : Nat) {p e : Nat} {k v : Int}, TSQ T n a i p e k v → TSQ U n a i p e k v
  | 0, _, _, _, _, h => tkn_cg hT h
  | i + 1, _, _, _, _, ⟨p0, e0, k0, v0, h1, h2⟩ => ⟨p0, e0, k0, v0, tsq_cg hT i h1, tkn_cg hT h2⟩
theorem cmp_cg {a p e : Nat} {c : Int} {V : Nat → Int} (hT : ∀ i, i < n → T i = U i) (h : CMP T n a p c V e) : CMP U n a p c V e := by
  obtain ⟨h1, ⟨e0, h2⟩, h3, q, v, h4⟩ := h
  exact ⟨h1, ⟨e0, tsq_cg hT 0 h2⟩, fun i hi => by
    obtain ⟨q, f, h⟩ := h3 i hi
    exact ⟨q, f, tsq_cg hT _ h⟩, q, v, tsq_cg hT _ h4⟩
theorem cmx_cg {a p : Nat} {f : Int} (hT : ∀ i, i < n → T i = U i) (h : CMX T n a f p) : CMX U n a f p := by
  rcases h with ⟨e1, k1, w1, h1, h2⟩ | ⟨c1, p1, f1, h1, h2, i1, h3, h4, e1, k1, w1, h5, h6⟩
  · exact Or.inl ⟨e1, k1, w1, tsq_cg hT 0 h1, h2⟩
  · exact Or.inr ⟨c1, p1, f1, h1, tsq_cg hT 0 h2, i1, h3, fun j hj => by
      obtain ⟨q, g, w, h⟩ := h4 j hj
      exact ⟨q, g, w, tsq_cg hT _ h⟩, e1, k1, w1, tsq_cg hT _ h5, h6⟩
theorem cme_cg {a : Nat} (hT : ∀ i, i < n → T i = U i) (h : CME T n a) : CME U n a := by
  obtain ⟨p, e, v, h⟩ := h
  exact ⟨p, e, v, tsq_cg hT 0 h⟩
end CG
/-- numbers of at most seven digits -/
theorem tkN_b {T : Nat → Int32} {a : Nat} : ∀ k, (∀ i, a ≤ i → i < a + k → tkD (T i)) → 0 ≤ tkN T a k ∧ tkN T a k < (10 : Int) ^ k
  | 0, _ => ⟨Int.le_refl 0, by show (0 : Int) < 10 ^ 0; decide⟩
  | k + 1, h => by
    have ih := tkN_b k (fun i h1 h2 => h i h1 (by omega))
    have hd := h (a + k) (by omega) (by omega)
    unfold tkD at hd
    show 0 ≤ 10 * tkN T a k + ((T (a + k)).toInt - 48) ∧ 10 * tkN T a k + ((T (a + k)).toInt - 48) < (10 : Int) ^ (k + 1)
    rw [Int.pow_succ]
    omega
theorem tkN_7 {T : Nat → Int32} {a k : Nat} (hk : k ≤ 7) (h : ∀ i, a ≤ i → i < a + k → tkD (T i)) : 0 ≤ tkN T a k ∧ tkN T a k ≤ 9999999 := by
  have b := tkN_b k h
  have p : (10 : Int) ^ k ≤ 10000000 := (by decide : ∀ k, k ≤ 7 → (10 : Int) ^ k ≤ 10000000) k hk
  omega
theorem lx_st {tn z54 z64 z65 z69 : Int64} {c : Int32} (e54 : z54 = Int64.ofInt 10 * tn) (e64 : z64 = c.toInt64) (e65 : z65 = z54 + z64) (e69 : z69 = z65 - Int64.ofInt 48) (h : 0 ≤ tn.toInt ∧ tn.toInt ≤ 9999999) (hc : 48 ≤ c.toInt ∧ c.toInt ≤ 57) : z69.toInt = 10 * tn.toInt + (c.toInt - 48) := by
  have a1 : z54.toInt = 10 * tn.toInt := by
    rw [e54, Int64.toInt_mul, show (Int64.ofInt 10).toInt = 10 from rfl]
    exact Int.bmod_eq_of_le (by omega) (by omega)
  have a2 : z64.toInt = c.toInt := tx_i2l e64
  have a3 : z65.toInt = 10 * tn.toInt + c.toInt := by
    rw [e65, Int64.toInt_add, a1, a2]
    exact Int.bmod_eq_of_le (by omega) (by omega)
  rw [e69, Int64.toInt_sub, a3, show (Int64.ofInt 48).toInt = 48 from rfl]
  rw [Int.bmod_eq_of_le (by omega) (by omega)]
  omega
theorem lx_ng {x z : Int64} (e : z = -x) (h : 0 ≤ x.toInt ∧ x.toInt ≤ 9999999) : z.toInt = - x.toInt := by
  rw [e, Int64.toInt_neg]
  exact Int.bmod_eq_of_le (by omega) (by omega)
/-- the reference's first fault stays -/
def FSM (s t : GS) : Prop := t.2.2.1 109 23 = s.2.2.1 109 23 ∧ t.2.2.1 109 24 = s.2.2.1 109 24
def FBL (s t : GS) (w p : Int) : Prop := ((s.2.2.1 109 23).toInt = 0 → (t.2.2.1 109 23).toInt = w ∧ (t.2.2.1 109 24).toInt = p) ∧ ((s.2.2.1 109 23).toInt ≠ 0 → FSM s t)
theorem fsm_tr {s u t : GS} (h : FSM s u) (g : FSM u t) : FSM s t := ⟨g.1.trans h.1, g.2.trans h.2⟩
theorem fbl_tr {s u t : GS} {w p : Int} (h : FSM s u) (g : FBL u t w p) : FBL s t w p := by
  unfold FBL FSM at g ⊢
  rw [h.1, h.2] at g
  exact g
/-- what the reference's token says of a token: k its kind, v its value -/
def NTK (s t : GS) (k v : Int) : Prop := (k = 0 → (t.2.2.1 109 28).toInt = 0) ∧ (k = 1 → (t.2.2.1 109 28).toInt = 1 ∧ (t.2.2.1 109 30).toInt = v + 97) ∧ (k = 2 → (t.2.2.1 109 28).toInt = 2 ∧ (t.2.2.2.1 109 31).toInt = v) ∧ (k = 3 → (t.2.2.1 109 28).toInt = 3 ∧ (t.2.2.1 109 30).toInt = 59) ∧ (k = 4 → (t.2.2.1 109 28).toInt = 3 ∧ (t.2.2.1 109 30).toInt ≠ 59 ∧ FBL s t 1 (t.2.2.1 109 29).toInt) ∧ (k = 5 → (t.2.2.1 109 28).toInt = 2 ∧ FBL s t 3 (t.2.2.1 109 29).toInt) ∧ (k ≠ 4 → k ≠ 5 → FSM s t)
section NTK
variable {s t : GS} {v : Int}
theorem ntk_0 (h : t.2.2.1 109 28 = Int32.ofInt 0) (f : FSM s t) : NTK s t 0 v := ⟨fun _ => by rw [h]; rfl, fun e => absurd e (by decide), fun e => absurd e (by decide), fun e => absurd e (by decide), fun e => absurd e (by decide), fun e => absurd e (by decide), fun _ _ => f⟩
theorem ntk_1 (h : t.2.2.1 109 28 = Int32.ofInt 1) (hs : (t.2.2.1 109 30).toInt = v + 97) (f : FSM s t) : NTK s t 1 v := ⟨fun e => absurd e (by decide), fun _ => ⟨by rw [h]; rfl, hs⟩, fun e => absurd e (by decide), fun e => absurd e (by decide), fun e => absurd e (by decide), fun e => absurd e (by decide), fun _ _ => f⟩
theorem ntk_2 (h : t.2.2.1 109 28 = Int32.ofInt 2) (hv : (t.2.2.2.1 109 31).toInt = v) (f : FSM s t) : NTK s t 2 v := ⟨fun e => absurd e (by decide), fun e => absurd e (by decide), fun _ => ⟨by rw [h]; rfl, hv⟩, fun e => absurd e (by decide), fun e => absurd e (by decide), fun e => absurd e (by decide), fun _ _ => f⟩
theorem ntk_3 (h : t.2.2.1 109 28 = Int32.ofInt 3) (hs : (t.2.2.1 109 30).toInt = 59) (f : FSM s t) : NTK s t 3 v := ⟨fun e => absurd e (by decide), fun e => absurd e (by decide), fun e => absurd e (by decide), fun _ => ⟨by rw [h]; rfl, hs⟩, fun e => absurd e (by decide), fun e => absurd e (by decide), fun _ _ => f⟩
theorem ntk_4 (h : t.2.2.1 109 28 = Int32.ofInt 3) (hs : (t.2.2.1 109 30).toInt ≠ 59) (f : FBL s t 1 (t.2.2.1 109 29).toInt) : NTK s t 4 v := ⟨fun e => absurd e (by decide), fun e => absurd e (by decide), fun e => absurd e (by decide), fun e => absurd e (by decide), fun _ => ⟨by rw [h]; rfl, hs, f⟩, fun e => absurd e (by decide), fun e _ => absurd rfl e⟩
theorem ntk_5 (h : t.2.2.1 109 28 = Int32.ofInt 2) (f : FBL s t 3 (t.2.2.1 109 29).toInt) : NTK s t 5 v := ⟨fun e => absurd e (by decide), fun e => absurd e (by decide), fun e => absurd e (by decide), fun e => absurd e (by decide), fun e => absurd e (by decide), fun _ => ⟨by rw [h]; rfl, f⟩, fun _ e => absurd rfl e⟩
end NTK
/-- two graphs that are alike -/
def GEQ (g h : GVW) : Prop := (∀ i, i < 32 → g.1 i = h.1 i) ∧ (∀ i, i < 160 → g.2.1 i = h.2.1 i) ∧ (∀ i, i < 160 → g.2.2.1 i = h.2.2.1 i) ∧ (∀ i, i < 160 → g.2.2.2.1 i = h.2.2.2.1 i) ∧ (∀ i, i < 160 → g.2.2.2.2.1 i = h.2.2.2.2.1 i) ∧ (∀ i, i < 160 → g.2.2.2.2.2.1 i = h.2.2.2.2.2.1 i) ∧ g.2.2.2.2.2.2.1 = h.2.2.2.2.2.2.1 ∧ g.2.2.2.2.2.2.2 = h.2.2.2.2.2.2.2
theorem upd_e {f g : Nat → Int32} {m p : Nat} {x : Int32} (h : ∀ i, i < m → f i = g i) : ∀ i, i < m → upd f p x i = upd g p x i := by
  intro i hi
  by_cases c : i = p
  · rw [c, ug_at, ug_at]
  · rw [ug_ne c, ug_ne c]; exact h i hi
section GE
variable {g h : GVW}
theorem geq_N {p : Nat} {l : Int32} (q : GEQ g h) : GEQ (gqN g p l) (gqN h p l) := by
  obtain ⟨q1, q2, q3, q4, q5, q6, q7, q8⟩ := q
  exact ⟨upd_e q1, q2, q3, q4, q5, q6, by show g.2.2.2.2.2.2.1 + 1 = h.2.2.2.2.2.2.1 + 1; rw [q7], by show g.2.2.2.2.2.2.2 + 1 = h.2.2.2.2.2.2.2 + 1; rw [q8]⟩
theorem geq_A {p : Nat} {a b w r k : Int32} (q : GEQ g h) : GEQ (gqA g p a b w r k) (gqA h p a b w r k) := by
  obtain ⟨q1, q2, q3, q4, q5, q6, q7, q8⟩ := q
  exact ⟨q1, upd_e q2, upd_e q3, upd_e q4, upd_e q5, upd_e q6, q7, by show g.2.2.2.2.2.2.2 + 1 = h.2.2.2.2.2.2.2 + 1; rw [q8]⟩
theorem geq_D {p : Nat} (q : GEQ g h) : GEQ (gqD g p) (gqD h p) := by
  obtain ⟨q1, q2, q3, q4, q5, q6, q7, q8⟩ := q
  exact ⟨q1, upd_e q2, q3, q4, q5, q6, q7, by show g.2.2.2.2.2.2.2 + 1 = h.2.2.2.2.2.2.2 + 1; rw [q8]⟩
theorem ite_e {f g f2 g2 : Nat → Int32} {m : Nat} {P : Prop} [Decidable P] (h : ∀ i, i < m → f i = g i) (h2 : ∀ i, i < m → f2 i = g2 i) : ∀ i, i < m → (if P then f else f2) i = (if P then g else g2) i := by
  intro i hi
  by_cases c : P
  · rw [if_pos c, if_pos c]; exact h i hi
  · rw [if_neg c, if_neg c]; exact h2 i hi
theorem geq_W {p : Nat} {w v : Int32} (q : GEQ g h) : GEQ (gqW g p w v) (gqW h p w v) := by
  obtain ⟨q1, q2, q3, q4, q5, q6, q7, q8⟩ := q
  exact ⟨q1, q2, q3, ite_e (upd_e q4) q4, ite_e (upd_e q5) q5, ite_e (upd_e q6) q6, q7, by show g.2.2.2.2.2.2.2 + 1 = h.2.2.2.2.2.2.2 + 1; rw [q8]⟩
theorem geq_L {p : Nat} {l : Int32} (q : GEQ g h) : GEQ (gqL g p l) (gqL h p l) := by
  obtain ⟨q1, q2, q3, q4, q5, q6, q7, q8⟩ := q
  exact ⟨upd_e q1, q2, q3, q4, q5, q6, q7, by show g.2.2.2.2.2.2.2 + 1 = h.2.2.2.2.2.2.2 + 1; rw [q8]⟩
theorem geq_f (q : GEQ g h) : fpl (ctg g.2.1) = fpl (ctg h.2.1) := fpl_cg (fun j hj => by unfold ctg; rw [q.2.1 j hj])
end GE
/-- a command can be carried out -/
def gvT (g : GVW) (x : Int) : Prop := 0 ≤ x ∧ x ≤ 159 ∧ (g.2.1 x.toNat).toInt ≠ -1
def dkC (g : GVW) (c : Int) (V : Nat → Int) : Prop := g.2.2.2.2.2.2.2 ≤ 3999 ∧ (c = 13 → g.2.2.2.2.2.2.1 ≤ 31) ∧ (c = 0 → (0 ≤ V 0 ∧ V 0 < g.2.2.2.2.2.2.1) ∧ (0 ≤ V 1 ∧ V 1 < g.2.2.2.2.2.2.1) ∧ (-1000000 ≤ V 2 ∧ V 2 ≤ 1000000) ∧ (0 ≤ V 3 ∧ V 3 ≤ 1000000) ∧ fpl (ctg g.2.1) < 160) ∧ (c = 19 → gvT g (V 0)) ∧ (c = 22 → gvT g (V 0) ∧ (-1000000 ≤ V 1 ∧ V 1 ≤ 1000000))
/-- what it does -/
def opC (g : GVW) (c : Int) (V : Nat → Int) : GVW := if c = 13 then gqN g g.2.2.2.2.2.2.1.toNat (Int32.ofInt (V 0)) else if c = 0 then gqA g (fpl (ctg g.2.1)) (Int32.ofInt (V 0)) (Int32.ofInt (V 1)) (Int32.ofInt (V 2)) (Int32.ofInt (V 3)) (Int32.ofInt (V 4)) else if c = 19 then gqD g (V 0).toNat else gqW g (V 0).toNat (Int32.ofInt 0) (Int32.ofInt (V 1))
theorem gvT_e {g h : GVW} {x : Int} (q : GEQ g h) (t : gvT g x) : gvT h x := ⟨t.1, t.2.1, by rw [← q.2.1 x.toNat (by have := t.1; have := t.2.1; omega)]; exact t.2.2⟩
theorem geq_s {g h : GVW} (q : GEQ g h) : GEQ h g := by
  obtain ⟨q1, q2, q3, q4, q5, q6, q7, q8⟩ := q
  exact ⟨fun i hi => (q1 i hi).symm, fun i hi => (q2 i hi).symm, fun i hi => (q3 i hi).symm, fun i hi => (q4 i hi).symm, fun i hi => (q5 i hi).symm, fun i hi => (q6 i hi).symm, q7.symm, q8.symm⟩
theorem geq_t {g h k : GVW} (q : GEQ g h) (r : GEQ h k) : GEQ g k := by
  obtain ⟨q1, q2, q3, q4, q5, q6, q7, q8⟩ := q
  obtain ⟨r1, r2, r3, r4, r5, r6, r7, r8⟩ := r
  exact ⟨fun i hi => (q1 i hi).trans (r1 i hi), fun i hi => (q2 i hi).trans (r2 i hi), fun i hi => (q3 i hi).trans (r3 i hi), fun i hi => (q4 i hi).trans (r4 i hi), fun i hi => (q5 i hi).trans (r5 i hi), fun i hi => (q6 i hi).trans (r6 i hi), q7.trans r7, q8.trans r8⟩
theorem geq_r {g : GVW} : GEQ g g := ⟨fun _ _ => rfl, fun _ _ => rfl, fun _ _ => rfl, fun _ _ => rfl, fun _ _ => rfl, fun _ _ => rfl, rfl, rfl⟩
theorem dkC_e {g h : GVW} {c : Int} {V W : Nat → Int} (q : GEQ g h) (hc : cmI c) (hV : ∀ i, i < cmA c → V i = W i) (t : dkC g c V) : dkC h c W := by
  obtain ⟨t1, t2, t3, t4, t5⟩ := t
  have e7 := q.2.2.2.2.2.2.1
  have e8 := q.2.2.2.2.2.2.2
  refine ⟨by rw [← e8]; exact t1, fun e => by rw [← e7]; exact t2 e, fun e => ?_, fun e => ?_, fun e => ?_⟩
  · have hA : cmA c = 5 := by rw [e]; rfl
    rw [hA] at hV
    rw [← hV 0 (by omega), ← hV 1 (by omega), ← hV 2 (by omega), ← hV 3 (by omega), ← e7, ← geq_f q]
    exact t3 e
  · have hA : cmA c = 1 := by rw [e]; rfl
    rw [hA] at hV
    rw [← hV 0 (by omega)]
    exact gvT_e q (t4 e)
  · have hA : cmA c = 2 := by rw [e]; rfl
    rw [hA] at hV
    rw [← hV 0 (by omega), ← hV 1 (by omega)]
    exact ⟨gvT_e q (t5 e).1, (t5 e).2⟩
theorem opC_e {g h : GVW} {c : Int} {V W : Nat → Int} (q : GEQ g h) (hc : cmI c) (hV : ∀ i, i < cmA c → V i = W i) : GEQ (opC g c V) (opC h c W) := by
  have e7 := q.2.2.2.2.2.2.1
  unfold opC
  rcases hc with e | e | e | e
  · have hA : cmA c = 1 := by rw [e]; rfl
    rw [hA] at hV
    rw [if_pos e, if_pos e, hV 0 (by omega), e7]
    exact geq_N q
  · have hA : cmA c = 5 := by rw [e]; rfl
    rw [hA] at hV
    rw [if_neg (by omega), if_pos e, if_neg (by omega), if_pos e, hV 0 (by omega), hV 1 (by omega), hV 2 (by omega), hV 3 (by omega), hV 4 (by omega), geq_f q]
    exact geq_A q
  · have hA : cmA c = 1 := by rw [e]; rfl
    rw [hA] at hV
    rw [if_neg (by omega), if_neg (by omega), if_pos e, if_neg (by omega), if_neg (by omega), if_pos e, hV 0 (by omega)]
    exact geq_D q
  · have hA : cmA c = 2 := by rw [e]; rfl
    rw [hA] at hV
    rw [if_neg (by omega), if_neg (by omega), if_neg (by omega), if_neg (by omega), if_neg (by omega), if_neg (by omega), hV 0 (by omega), hV 1 (by omega)]
    exact geq_W q
/-- the saved graph -/
def gvS (s : GS) : GVW := (s.1 17, s.1 18, s.1 19, s.1 20, s.1 21, s.1 22, (s.2.2.1 16 1).toInt, (s.2.2.1 16 0).toInt)
def TQS (s : GS) : Prop := ∀ p : Nat, p < 160 → (s.1 18 p).toInt ≠ -1 → (p : Int) < (s.2.2.1 16 3).toInt
theorem gvS_cg {s t : GS} {L : FM} (h : Fr L s t) (hq : (qI L.1 17 && qI L.1 18 && qI L.1 19 && qI L.1 20 && qI L.1 21 && qI L.1 22 && qF L.2.2.1 16 1 && qF L.2.2.1 16 0) = true) : gvS t = gvS s := by
  simp only [Bool.and_eq_true] at hq
  obtain ⟨⟨⟨⟨⟨⟨⟨q1, q2⟩, q3⟩, q4⟩, q5⟩, q6⟩, q7⟩, q8⟩ := hq
  unfold gvS
  rw [h.1 17 q1, h.1 18 q2, h.1 19 q3, h.1 20 q4, h.1 21 q5, h.1 22 q6, h.2.2.1 16 1 q7, h.2.2.1 16 0 q8]
theorem tqs_fr {s t : GS} {L : FM} (hT : TQS s) (h : Fr L s t) (hq : (qI L.1 18 && qF L.2.2.1 16 3) = true) : TQS t := by
  rw [Bool.and_eq_true] at hq
  intro p hp hn
  rw [h.1 18 hq.1] at hn
  rw [h.2.2.1 16 3 hq.2]
  exact hT p hp hn
/-- what stands in given -/
def V31 (s : GS) : Nat → Int := fun i => (s.1 31 i).toInt
section OPC
variable {s : GS} {c : Int} {g : GVW} {V : Nat → Int}
theorem opC_13 (h : c = 13) : opC (gvC s) c (V31 s) = gqN (gvC s) (s.2.2.1 2 1).toNatClampNeg (s.1 31 0) := by
  unfold opC
  rw [if_pos h]
  show gqN (gvC s) _ (Int32.ofInt (s.1 31 0).toInt) = _
  rw [Int32.ofInt_toInt]
  rfl
theorem opC_0 {p : Nat} (h : c = 0) (hp : fpl (ctg (s.1 4)) = p) : opC (gvC s) c (V31 s) = gqA (gvC s) p (s.1 31 0) (s.1 31 1) (s.1 31 2) (s.1 31 3) (s.1 31 4) := by
  unfold opC
  rw [if_neg (by omega), if_pos h]
  show gqA (gvC s) (fpl (ctg (s.1 4))) (Int32.ofInt (s.1 31 0).toInt) (Int32.ofInt (s.1 31 1).toInt) (Int32.ofInt (s.1 31 2).toInt) (Int32.ofInt (s.1 31 3).toInt) (Int32.ofInt (s.1 31 4).toInt) = _
  rw [Int32.ofInt_toInt, Int32.ofInt_toInt, Int32.ofInt_toInt, Int32.ofInt_toInt, Int32.ofInt_toInt, hp]
theorem opC_19 (h : c = 19) : opC (gvC s) c (V31 s) = gqD (gvC s) (s.1 31 0).toNatClampNeg := by
  unfold opC
  rw [if_neg (by omega), if_neg (by omega), if_pos h]
  rfl
theorem opC_22 (h : c = 22) : opC (gvC s) c (V31 s) = gqW (gvC s) (s.1 31 0).toNatClampNeg (Int32.ofInt 0) (s.1 31 1) := by
  unfold opC
  rw [if_neg (by omega), if_neg (by omega), if_neg (by omega)]
  show gqW (gvC s) (s.1 31 0).toInt.toNat (Int32.ofInt 0) (Int32.ofInt (s.1 31 1).toInt) = _
  rw [Int32.ofInt_toInt]
  rfl
theorem dk_13 (h : c = 13) (h1 : g.2.2.2.2.2.2.2 ≤ 3999) (h2 : g.2.2.2.2.2.2.1 ≤ 31) : dkC g c V := ⟨h1, fun _ => h2, fun e => absurd e (by omega), fun e => absurd e (by omega), fun e => absurd e (by omega)⟩
theorem dk_0 (h : c = 0) (h1 : g.2.2.2.2.2.2.2 ≤ 3999) (h2 : (0 ≤ V 0 ∧ V 0 < g.2.2.2.2.2.2.1) ∧ (0 ≤ V 1 ∧ V 1 < g.2.2.2.2.2.2.1) ∧ (-1000000 ≤ V 2 ∧ V 2 ≤ 1000000) ∧ (0 ≤ V 3 ∧ V 3 ≤ 1000000) ∧ fpl (ctg g.2.1) < 160) : dkC g c V := ⟨h1, fun e => absurd e (by omega), fun _ => h2, fun e => absurd e (by omega), fun e => absurd e (by omega)⟩
theorem dk_19 (h : c = 19) (h1 : g.2.2.2.2.2.2.2 ≤ 3999) (h2 : gvT g (V 0)) : dkC g c V := ⟨h1, fun e => absurd e (by omega), fun e => absurd e (by omega), fun _ => h2, fun e => absurd e (by omega)⟩
theorem dk_22 (h : c = 22) (h1 : g.2.2.2.2.2.2.2 ≤ 3999) (h2 : gvT g (V 0)) (h3 : -1000000 ≤ V 1 ∧ V 1 ≤ 1000000) : dkC g c V := ⟨h1, fun e => absurd e (by omega), fun e => absurd e (by omega), fun e => absurd e (by omega), fun _ => ⟨h2, h3⟩⟩
theorem dk_t (hc : cmI c) (h13 : c ≠ 13) (h0 : c ≠ 0) (h : dkC g c V) : gvT g (V 0) := by
  rcases hc with e | e | e | e
  · exact absurd e h13
  · exact absurd e h0
  · exact h.2.2.2.1 e
  · exact (h.2.2.2.2 e).1
end OPC
/-- k commands have been carried out: the place a, the graph g -/
def LRN (T : Nat → Int32) (n : Nat) (g0 : GVW) : Nat → Nat → GVW → Prop
  | 0, a, g => a = 0 ∧ g = g0
  | k + 1, a, g => ∃ a0 g1 p c V, LRN T n g0 k a0 g1 ∧ CMP T n a0 p c V a ∧ dkC g1 c V ∧ g = opC g1 c V
/-- how a text ends: z the answer, f the fault's number (0: none), p its place, g the graph -/
def LOT (T : Nat → Int32) (n : Nat) (g0 : GVW) (z f p : Int) (g : GVW) : Prop :=
  (∃ (k a : Nat) (g1 : GVW), LRN T n g0 k a g1 ∧ CME T n a ∧ z = (k : Int) ∧ f = 0 ∧ GEQ g g1) ∨
  (∃ (k a q : Nat) (g1 : GVW), LRN T n g0 k a g1 ∧ (CMX T n a f q ∨ ∃ c V e, CMP T n a q c V e ∧ ¬ dkC g1 c V ∧ f = 4) ∧ z = -4 ∧ p = (q : Int) ∧ GEQ g g0)
theorem cmp_l {T : Nat → Int32} {n a p e : Nat} {c : Int} {V : Nat → Int} (h : CMP T n a p c V e) : a < e := by
  have le : ∀ (i : Nat) {p e : Nat} {k v : Int}, TSQ T n a i p e k v → a ≤ e := by
    intro i
    induction i with
    | zero => intro p e k v h; have := tkn_e h; omega
    | succ i ih =>
      intro p e k v h
      obtain ⟨p0, e0, k0, v0, h1, h2⟩ := h
      have := ih h1
      have := tkn_e h2
      omega
  obtain ⟨-, -, -, q, v, p0, e0, k0, v0, h1, h2⟩ := h
  have h3 := le _ h1
  have h4 := tkn_e h2
  have h5 := h4.2.2.2.1 (by decide)
  omega
theorem lrn_l {T : Nat → Int32} {n : Nat} {g0 : GVW} : ∀ (k : Nat) {a : Nat} {g : GVW}, LRN T n g0 k a g → k ≤ a
  | 0, _, _, _ => Nat.zero_le _
  | k + 1, _, _, ⟨a0, g1, p, c, V, h1, h2, h3, h4⟩ => by
    have := lrn_l k h1
    have := cmp_l h2
    omega
theorem lrn_u {T U : Nat → Int32} {n : Nat} {g0 h0 : GVW} (hT : ∀ i, i < n → T i = U i) (q : GEQ g0 h0) : ∀ (k : Nat) {a b : Nat} {g h : GVW}, LRN T n g0 k a g → LRN U n h0 k b h → a = b ∧ GEQ g h
  | 0, _, _, _, _, ⟨h1, h2⟩, ⟨g1, g2⟩ => by
    rw [h1, h2, g1, g2]
    exact ⟨rfl, q⟩
  | k + 1, _, _, _, _, ⟨a0, x1, p1, c1, V1, h1, h2, h3, h4⟩, ⟨b0, y1, p2, c2, V2, g1, g2, g3, g4⟩ => by
    obtain ⟨ea, eg⟩ := lrn_u hT q k h1 g1
    subst ea
    have u := cmp_u (cmp_cg hT h2) g2
    obtain ⟨-, ec, ee, eV⟩ := u
    subst ec
    rw [h4, g4]
    exact ⟨ee, opC_e eg h2.1 eV⟩
/-- at a place where a run of k commands stands one more can't be there and not be there -/
theorem lrn_x {T U : Nat → Int32} {n : Nat} {g0 h0 : GVW} (hT : ∀ i, i < n → T i = U i) (q : GEQ g0 h0) {k : Nat} {a : Nat} {g : GVW} (h : LRN T n g0 k a g) (hx : CME T n a ∨ ∃ f p, CMX T n a f p ∨ ∃ c V e, CMP T n a p c V e ∧ ¬ dkC g c V ∧ f = 4) : ∀ (j : Nat) {b : Nat} {y : GVW}, LRN U n h0 j b y → j ≤ k
  | j, b, y, r => by
    rcases Nat.lt_or_ge k j with c | c
    · exfalso
      have low : ∀ (i : Nat) {b2 : Nat} {y2 : GVW}, LRN U n h0 (k + 1 + i) b2 y2 → ∃ b3 y3, LRN U n h0 (k + 1) b3 y3 := by
        intro i
        induction i with
        | zero => intro b2 y2 r2; exact ⟨b2, y2, r2⟩
        | succ i ih =>
          intro b2 y2 r2
          obtain ⟨a0, x1, p1, c1, V1, h1, -⟩ := r2
          exact ih h1
      obtain ⟨b3, y3, r3⟩ := low (j - (k + 1)) (by rw [show k + 1 + (j - (k + 1)) = j by omega]; exact r)
      obtain ⟨a0, x1, p1, c1, V1, g1, g2, g3, -⟩ := r3
      obtain ⟨ea, eg⟩ := lrn_u hT q k h g1
      subst ea
      rcases hx with hx | ⟨f, p, hx | ⟨c2, V2, e2, k1, k2, -⟩⟩
      · exact cme_p (cme_cg hT hx) g2
      · exact cmx_n g2 (cmx_cg hT hx)
      · have u := cmp_u (cmp_cg hT k1) g2
        obtain ⟨-, ec, -, eV⟩ := u
        subst ec
        exact k2 (dkC_e (geq_s eg) k1.1 (fun i hi => (eV i hi).symm) g3)
    · exact c
/-- a text has one end -/
theorem lot_u {T U : Nat → Int32} {n : Nat} {g0 h0 : GVW} {z f p z2 f2 p2 : Int} {g h : GVW} (hT : ∀ i, i < n → T i = U i) (q : GEQ g0 h0) (l : LOT T n g0 z f p g) (m : LOT U n h0 z2 f2 p2 h) : z = z2 ∧ f = f2 ∧ (f ≠ 0 → p = p2) ∧ GEQ g h := by
  have hU : ∀ i, i < n → U i = T i := fun i hi => (hT i hi).symm
  have qs := geq_s q
  rcases l with ⟨k, a, g1, l1, l2, l3, l4, l5⟩ | ⟨k, a, w, g1, l1, l2, l3, l4, l5⟩ <;> rcases m with ⟨j, b, h1, m1, m2, m3, m4, m5⟩ | ⟨j, b, w2, h1, m1, m2, m3, m4, m5⟩
  · have c1 := lrn_x hT q l1 (Or.inl l2) j m1
    have c2 := lrn_x hU qs m1 (Or.inl m2) k l1
    have e : k = j := by omega
    subst e
    exact ⟨by rw [l3, m3], by rw [l4, m4], fun c => absurd l4 c, geq_t l5 (geq_t (lrn_u hT q k l1 m1).2 (geq_s m5))⟩
  · have c1 := lrn_x hT q l1 (Or.inl l2) j m1
    have c2 := lrn_x hU qs m1 (Or.inr ⟨f2, w2, m2⟩) k l1
    have e : k = j := by omega
    subst e
    obtain ⟨ea, -⟩ := lrn_u hT q k l1 m1
    subst ea
    rcases m2 with m2 | ⟨c, V, e, m2, -⟩
    · exact (cme_x (cme_cg hT l2) m2).elim
    · exact (cme_p (cme_cg hT l2) m2).elim
  · have c1 := lrn_x hT q l1 (Or.inr ⟨f, w, l2⟩) j m1
    have c2 := lrn_x hU qs m1 (Or.inl m2) k l1
    have e : k = j := by omega
    subst e
    obtain ⟨ea, -⟩ := lrn_u hT q k l1 m1
    subst ea
    rcases l2 with l2 | ⟨c, V, e, l2, -⟩
    · exact (cme_x m2 (cmx_cg hT l2)).elim
    · exact (cme_p m2 (cmp_cg hT l2)).elim
  · have c1 := lrn_x hT q l1 (Or.inr ⟨f, w, l2⟩) j m1
    have c2 := lrn_x hU qs m1 (Or.inr ⟨f2, w2, m2⟩) k l1
    have e : k = j := by omega
    subst e
    obtain ⟨ea, eg⟩ := lrn_u hT q k l1 m1
    subst ea
    have both : f = f2 ∧ w = w2 := by
      rcases l2 with l2 | ⟨c, V, e, l2, l6, l7⟩ <;> rcases m2 with m2 | ⟨c3, V3, e3, m2, m6, m7⟩
      · exact cmx_u (cmx_cg hT l2) m2
      · exact (cmx_n m2 (cmx_cg hT l2)).elim
      · exact (cmx_n (cmp_cg hT l2) m2).elim
      · exact ⟨by rw [l7, m7], (cmp_u (cmp_cg hT l2) m2).1⟩
    exact ⟨by rw [l3, m3], both.1, fun _ => by rw [l4, m4, both.2], geq_t l5 (geq_t q (geq_s m5))⟩
/-! the reference's commands -/
def DON (s : GS) (c : Int) (m : Nat) : Prop :=
  (c = 110 → (s.1 110 2).toInt ≤ 31) ∧
  (c = 97 → fpl (thg s 320) < 160 ∧ nq (s.1 128 m) 0 ((s.1 110 2).toInt - 1) ∧ nq (s.1 128 (m + 1)) 0 ((s.1 110 2).toInt - 1) ∧ nq (s.1 128 (m + 2)) (-1000000) 1000000 ∧ nq (s.1 128 (m + 3)) 0 1000000) ∧
  ((c = 116 ∨ c = 119) → nq (s.1 128 m) 0 159 ∧ thg s 320 (s.1 128 m).toNatClampNeg = true) ∧
  (c = 119 → nq (s.1 128 (m + 1)) (-1000000) 1000000)
theorem don_97 {s : GS} {c : Int} {m : Nat} (h : c = 97) (h1 : fpl (thg s 320) < 160 ∧ nq (s.1 128 m) 0 ((s.1 110 2).toInt - 1) ∧ nq (s.1 128 (m + 1)) 0 ((s.1 110 2).toInt - 1) ∧ nq (s.1 128 (m + 2)) (-1000000) 1000000 ∧ nq (s.1 128 (m + 3)) 0 1000000) : DON s c m := ⟨fun e => absurd e (by omega), fun _ => h1, fun e => absurd e (by omega), fun e => absurd e (by omega)⟩
theorem don_110 {s : GS} {c : Int} {m : Nat} (h : c = 110) (h1 : (s.1 110 2).toInt ≤ 31) : DON s c m := ⟨fun _ => h1, fun e => absurd e (by omega), fun e => absurd e (by omega), fun e => absurd e (by omega)⟩
theorem don_116 {s : GS} {c : Int} {m : Nat} (h : c = 116) (h1 : nq (s.1 128 m) 0 159 ∧ thg s 320 (s.1 128 m).toNatClampNeg = true) : DON s c m := ⟨fun e => absurd e (by omega), fun e => absurd e (by omega), fun _ => h1, fun e => absurd e (by omega)⟩
theorem don_119 {s : GS} {c : Int} {m : Nat} (h : c = 119) (h1 : nq (s.1 128 m) 0 159 ∧ thg s 320 (s.1 128 m).toNatClampNeg = true) (h2 : nq (s.1 128 (m + 1)) (-1000000) 1000000) : DON s c m := ⟨fun e => absurd e (by omega), fun e => absurd e (by omega), fun _ => h1, fun _ => h2⟩
theorem thg_t {s : GS} {z w j : Int32} (e : w = s.1 112 j.toNatClampNeg) (hj : j.toInt = 320 + z.toInt) (hz : 0 ≤ z.toInt) : thg s 320 z.toNatClampNeg = decide (w.toInt ≠ 0) := by
  unfold thg
  rw [e, show j.toNatClampNeg = 320 + z.toNatClampNeg from by show j.toInt.toNat = 320 + z.toInt.toNat; omega]
end
section
/-! STRINGS IN FULL, AND THE SHAPES OF COMMANDS -/
def zby (k j : Nat) : Int := ((am_byt.getD k []).getD j 0).toInt
theorem z_by {k j : Nat} {z4 z5 z6 : Int32} (hk : k < 7) (hj : j < 10) (e4 : z4 = (am_byt.getD k []).getD j 0) (e5 : z5 = z4 &&& Int32.ofInt 255) (e6 : z6 = (z5.toUInt32 % 65536).toInt32) : z6.toInt = zby k j := by
  rw [e6, e5, e4]
  exact (by decide : ∀ k, k < 7 → ∀ j, j < 10 → ((((am_byt.getD k []).getD j 0) &&& Int32.ofInt 255).toUInt32 % 65536).toInt32.toInt = zby k j) k hk j hj
theorem z_j9 {x j : Int32} (hx : In x 0 6) (h0 : 0 ≤ j.toInt) (h1 : j.toInt < (zn x : Int)) : j.toNatClampNeg < 10 := by
  have := zn_9 hx
  show j.toInt.toNat < 10
  omega
section ZM
variable {Z : AmZ} {d : Nat} {ws : va_W} {X : AmX} {x : Int32}
theorem f_428 (hx : In x 0 6) (hd : 1 ≤ d) : GC Z d 428 [.ref (zq Z x)] ws 0 0 (fun v u => ∃ z : Int32, v = some (.int z) ∧ u = ws ∧ In z 0 1 ∧ (z.toInt = 0 → 0 < zn x) ∧ (z.toInt ≠ 0 → zn x = 0)) X := by
  intro post xp hP hX
  refine g_enter2 (k := 428) (N := 300) (by omega) rfl (Nat.le_of_ble_eq_true rfl) ?_
  refine g_aload_n 1 (gd rfl) rfl rfl ?_
  refine g_getVA 4 (gd rfl) rfl hx rfl ?_
  refine g_alenZ 5 (gd rfl) rfl hx (fun z e ez => ?_)
  refine g_if_ne 8 12 (gd rfl) rfl rfl (fun c => ?_) (fun c => ?_)
  · refine g_iconst 0 13 (gd rfl) rfl rfl ?_
    exact g_ireturn (gd rfl) rfl rfl (hP _ _ ⟨_, rfl, rfl, ⟨by decide, by decide⟩, fun _ => by omega, fun h => absurd rfl h⟩)
  · refine g_iconst 1 9 (gd rfl) rfl rfl ?_
    refine g_goto 13 (gd rfl) rfl ?_
    exact g_ireturn (gd rfl) rfl rfl (hP _ _ ⟨_, rfl, rfl, ⟨by decide, by decide⟩, fun h => absurd h (by decide), fun _ => by omega⟩)

theorem f_435 {j : Int32} (hx : In x 0 6) (h0 : 0 ≤ j.toInt) (h1_ : j.toInt < (zn x : Int)) (hd : 3 ≤ d) : GC Z d 435 [.ref (zp Z x), .int j] ws 0 0 (fun v u => ∃ z : Int32, v = some (.int z) ∧ u = ws ∧ In z 0 65535 ∧ (x.toInt = 1 → z.toInt = 108) ∧ z.toInt = zby x.toNatClampNeg j.toNatClampNeg) X := by
  intro post xp hP hX
  refine g_enter2 (k := 435) (N := 300) (by omega) rfl (Nat.le_of_ble_eq_true rfl) ?_
  refine g_iload_n 1 (gd rfl) rfl rfl ?_
  refine g_aload_n 2 (gd rfl) rfl rfl ?_
  refine g_alenZ 3 (gd rfl) rfl hx (fun z3 e3 ez => ?_)
  refine g_calls (As := [.int j, .int z3]) (r := []) 6 (gd rfl) rfl rfl rfl rfl rfl (Nat.le_of_ble_eq_true rfl) (Nat.zero_le _) (Nat.zero_le _) (k_434 h0 (by omega) (by omega)) (fun v u h => ?_)
  obtain ⟨rfl, rfl⟩ := h
  show GG _ _ _ _ _ _ _ _ [] _ _ _
  refine g_aload_n 7 (gd rfl) rfl rfl ?_
  refine g_iload_n 8 (gd rfl) rfl rfl ?_
  refine g_baloadZ 9 (gd rfl) rfl hx h0 h1_ (fun z4 e4 => ?_)
  refine g_sipush 255 12 (gd rfl) rfl rfl ?_
  refine g_iand 13 (gd rfl) rfl (fun z5 e5 => ?_)
  refine g_i2c 14 (gd rfl) rfl (fun z6 e6 => ?_)
  exact g_ireturn (gd rfl) rfl (z_nc2 (in_i2c e6)) (hP _ _ ⟨z6, rfl, rfl, in_i2c e6, fun h1 => z_108 h1 h0 h1_ e4 e5 e6, z_by (z_7 hx) (z_j9 hx h0 h1_) e4 e5 e6⟩)

theorem f_429 {j : Int32} (hx : In x 0 6) (h0 : 0 ≤ j.toInt) (h1 : j.toInt < (zn x : Int)) (hd : 4 ≤ d) : GC Z d 429 [.ref (zq Z x), .int j] ws 0 0 (fun v u => ∃ z : Int32, v = some (.int z) ∧ u = ws ∧ In z 0 65535 ∧ (x.toInt = 1 → z.toInt = 108) ∧ z.toInt = zby x.toNatClampNeg j.toNatClampNeg) X := by
  intro post xp hP hX
  refine g_enter2 (k := 429) (N := 300) (by omega) rfl (Nat.le_of_ble_eq_true rfl) ?_
  refine g_aload_n 1 (gd rfl) rfl rfl ?_
  refine g_callS (As := []) (r := []) (x := x) 4 (gd rfl) rfl rfl rfl zm_433 rfl rfl rfl hx (Nat.le_of_ble_eq_true rfl) (k_433 hx (by omega)) (fun e u h => h) (fun v u h => ?_)
  obtain ⟨rfl, rfl⟩ := h
  show GG _ _ _ _ _ _ _ _ [.int (Int32.ofInt 1)] _ _ _
  refine g_if_eq 7 16 (gd rfl) rfl rfl (fun c => absurd c (by decide)) (fun _ => ?_)
  refine g_aload_n 8 (gd rfl) rfl rfl ?_
  refine g_getVA 11 (gd rfl) rfl hx rfl ?_
  refine g_iload_n 12 (gd rfl) rfl rfl ?_
  refine g_calls (As := [.ref (zp Z x), .int j]) (r := []) 15 (gd rfl) rfl rfl rfl rfl rfl (Nat.le_of_ble_eq_true rfl) (Nat.zero_le _) (Nat.zero_le _) (f_435 hx h0 h1 (by omega)) (fun v u h => ?_)
  obtain ⟨z, rfl, rfl, hz, hz8, hz9⟩ := h
  show GG _ _ _ _ _ _ _ _ [.int z] _ _ _
  exact g_ireturn (gd rfl) rfl (z_nc2 hz) (hP _ _ ⟨z, rfl, rfl, hz, hz8, hz9⟩)

end ZM
/-- which shape belongs to which letter -/
def SHQ (c k : Int) : Prop := (c = 13 ∧ k = 1) ∨ (c = 0 ∧ k = 2) ∨ (c = 19 ∧ k = 3) ∨ (c = 22 ∧ k = 4)
theorem shq_i {c k : Int} (h : SHQ c k) : cmI c := by
  rcases h with h | h | h | h
  · exact Or.inl h.1
  · exact Or.inr (Or.inl h.1)
  · exact Or.inr (Or.inr (Or.inl h.1))
  · exact Or.inr (Or.inr (Or.inr h.1))
theorem shq_n {c : Int} {x : Int32} (h : SHQ c x.toInt) : zn x = cmA c := by
  unfold zn
  rcases h with ⟨h1, h2⟩ | ⟨h1, h2⟩ | ⟨h1, h2⟩ | ⟨h1, h2⟩
  · rw [show x.toNatClampNeg = 1 from by show x.toInt.toNat = 1; omega, h1]; rfl
  · rw [show x.toNatClampNeg = 2 from by show x.toInt.toNat = 2; omega, h1]; rfl
  · rw [show x.toNatClampNeg = 3 from by show x.toInt.toNat = 3; omega, h1]; rfl
  · rw [show x.toNatClampNeg = 4 from by show x.toInt.toNat = 4; omega, h1]; rfl
theorem shq_5 {c k : Int} (h : SHQ c k) : cmA c ≤ 5 ∧ 1 ≤ cmA c := by
  rcases h with ⟨h1, h2⟩ | ⟨h1, h2⟩ | ⟨h1, h2⟩ | ⟨h1, h2⟩ <;> (rw [h1]; decide)
theorem shq_k {c : Int} {x : Int32} {j : Nat} (h : SHQ c x.toInt) (hj : j < cmA c) : (zby x.toNatClampNeg j = 108 → cmK c (j + 1) = 1) ∧ (zby x.toNatClampNeg j ≠ 108 → cmK c (j + 1) = 2) := by
  rcases h with ⟨h1, h2⟩ | ⟨h1, h2⟩ | ⟨h1, h2⟩ | ⟨h1, h2⟩
  · rw [show x.toNatClampNeg = 1 from by show x.toInt.toNat = 1; omega]
    rw [h1] at hj ⊢
    exact (by decide : ∀ j, j < 1 → (zby 1 j = 108 → cmK 13 (j + 1) = 1) ∧ (zby 1 j ≠ 108 → cmK 13 (j + 1) = 2)) j hj
  · rw [show x.toNatClampNeg = 2 from by show x.toInt.toNat = 2; omega]
    rw [h1] at hj ⊢
    exact (by decide : ∀ j, j < 5 → (zby 2 j = 108 → cmK 0 (j + 1) = 1) ∧ (zby 2 j ≠ 108 → cmK 0 (j + 1) = 2)) j hj
  · rw [show x.toNatClampNeg = 3 from by show x.toInt.toNat = 3; omega]
    rw [h1] at hj ⊢
    exact (by decide : ∀ j, j < 1 → (zby 3 j = 108 → cmK 19 (j + 1) = 1) ∧ (zby 3 j ≠ 108 → cmK 19 (j + 1) = 2)) j hj
  · rw [show x.toNatClampNeg = 4 from by show x.toInt.toNat = 4; omega]
    rw [h1] at hj ⊢
    exact (by decide : ∀ j, j < 2 → (zby 4 j = 108 → cmK 22 (j + 1) = 1) ∧ (zby 4 j ≠ 108 → cmK 22 (j + 1) = 2)) j hj
end
section
/-! COMMANDS AS THE REFERENCE READS THEM -/
theorem shk {c : Int} {k : Int} (hc : cmI c) (h0 : 0 ≤ k) (hk : k ≤ (cmA c : Int)) : cmK c (k.toNat + 1) = (if c = 13 then (if k = 0 then 1 else 3) else if c = 0 then (if k < 4 then 2 else if k = 4 then 1 else 3) else if c = 19 then (if k < 1 then 2 else 3) else (if k < 2 then 2 else 3)) := by
  obtain ⟨j, rfl⟩ : ∃ j : Nat, k = (j : Int) := ⟨k.toNat, by omega⟩
  have e : ((j : Int)).toNat = j := Int.toNat_natCast j
  rw [e]
  rcases hc with h | h | h | h
  · rw [h] at hk ⊢
    have hj : j < 2 := by have : (cmA 13 : Int) = 1 := rfl; omega
    exact (by decide : ∀ j, j < 2 → cmK 13 (j + 1) = (if (13 : Int) = 13 then (if (j : Int) = 0 then 1 else 3) else if (13 : Int) = 0 then (if (j : Int) < 4 then 2 else if (j : Int) = 4 then 1 else 3) else if (13 : Int) = 19 then (if (j : Int) < 1 then 2 else 3) else (if (j : Int) < 2 then 2 else 3))) j hj
  · rw [h] at hk ⊢
    have hj : j < 6 := by have : (cmA 0 : Int) = 5 := rfl; omega
    exact (by decide : ∀ j, j < 6 → cmK 0 (j + 1) = (if (0 : Int) = 13 then (if (j : Int) = 0 then 1 else 3) else if (0 : Int) = 0 then (if (j : Int) < 4 then 2 else if (j : Int) = 4 then 1 else 3) else if (0 : Int) = 19 then (if (j : Int) < 1 then 2 else 3) else (if (j : Int) < 2 then 2 else 3))) j hj
  · rw [h] at hk ⊢
    have hj : j < 2 := by have : (cmA 19 : Int) = 1 := rfl; omega
    exact (by decide : ∀ j, j < 2 → cmK 19 (j + 1) = (if (19 : Int) = 13 then (if (j : Int) = 0 then 1 else 3) else if (19 : Int) = 0 then (if (j : Int) < 4 then 2 else if (j : Int) = 4 then 1 else 3) else if (19 : Int) = 19 then (if (j : Int) < 1 then 2 else 3) else (if (j : Int) < 2 then 2 else 3))) j hj
  · rw [h] at hk ⊢
    have hj : j < 3 := by have : (cmA 22 : Int) = 2 := rfl; omega
    exact (by decide : ∀ j, j < 3 → cmK 22 (j + 1) = (if (22 : Int) = 13 then (if (j : Int) = 0 then 1 else 3) else if (22 : Int) = 0 then (if (j : Int) < 4 then 2 else if (j : Int) = 4 then 1 else 3) else if (22 : Int) = 19 then (if (j : Int) < 1 then 2 else 3) else (if (j : Int) < 2 then 2 else 3))) j hj
theorem cmK_r {c : Int} {i : Nat} : 1 ≤ cmK c i ∧ cmK c i ≤ 3 ∧ (i ≤ cmA c → cmK c i ≠ 3) ∧ (i = cmA c + 1 → cmK c i = 3) := by
  unfold cmK
  by_cases h : i = cmA c + 1
  · rw [if_pos h]; exact ⟨by decide, by decide, fun h2 => by omega, fun _ => rfl⟩
  · rw [if_neg h]
    by_cases g : (c = 13 ∧ i = 1) ∨ (c = 0 ∧ i = 5)
    · rw [if_pos g]; exact ⟨by decide, by decide, fun _ => by decide, fun h2 => absurd h2 h⟩
    · rw [if_neg g]; exact ⟨by decide, by decide, fun _ => by decide, fun h2 => absurd h2 h⟩
def C4 (x : Int) : Prop := x = 110 ∨ x = 97 ∨ x = 116 ∨ x = 119
theorem c4_i {x : Int} (h : C4 x) : cmI (x - 97) := by
  rcases h with h | h | h | h
  · exact Or.inl (by omega)
  · exact Or.inr (Or.inl (by omega))
  · exact Or.inr (Or.inr (Or.inl (by omega)))
  · exact Or.inr (Or.inr (Or.inr (by omega)))
/-- what a call answers says whether P; what shape says -/
def YNQ (r : Int) (P : Prop) : Prop := (r ≠ 0 → P) ∧ (r = 0 → ¬ P)
def SHK (c k r : Int) : Prop := cmI c → k ≤ (cmA c : Int) → r = cmK c (k.toNat + 1)
/-- i things of the command c have been read -/
def CST (T : Nat → Int32) (n a : Nat) (c : Int) (i : Nat) (W : Nat → Int) (e : Nat) : Prop := (∀ j, j < i → ∃ q f, TSQ T n a (j + 1) q f (cmK c (j + 1)) (W j)) ∧ ∃ p k v, TSQ T n a i p e k v
/-- and the semicolon -/
def CSE (T : Nat → Int32) (n a : Nat) (c : Int) (W : Nat → Int) (e : Nat) : Prop := (∀ j, j < cmA c → ∃ q f, TSQ T n a (j + 1) q f (cmK c (j + 1)) (W j)) ∧ ∃ q v, TSQ T n a (cmA c + 1) q e 3 v
section CS
variable {T : Nat → Int32} {n a e p e2 : Nat} {c k v : Int} {i : Nat} {W : Nat → Int}
theorem cst_0 {p0 : Nat} (h : TSQ T n a 0 p0 e 1 c) : CST T n a c 0 W e := ⟨fun j hj => absurd hj (Nat.not_lt_zero _), p0, 1, c, h⟩
theorem cs_bad {p0 e0 : Nat} (hc : cmI c) (h0 : TSQ T n a 0 p0 e0 1 c) (hi : i ≤ cmA c) (h : CST T n a c i W e) (ht : TKN T n e p e2 k v) (hk : k ≠ cmK c (i + 1)) : CMX T n a (cmF k) p := by
  obtain ⟨h1, p1, k1, v1, h2⟩ := h
  exact Or.inr ⟨c, p0, e0, hc, h0, i, hi, fun j hj => by
    obtain ⟨q, f, h3⟩ := h1 j hj
    exact ⟨q, f, _, h3⟩, e2, k, v, ⟨p1, e, k1, v1, h2, ht⟩, hk, rfl⟩
theorem cs_more {W2 : Nat → Int} (h : CST T n a c i W e) (ht : TKN T n e p e2 k v) (hk : k = cmK c (i + 1)) (hW : ∀ j, j < i → W2 j = W j) (hv : W2 i = v) : CST T n a c (i + 1) W2 e2 := by
  obtain ⟨h1, p1, k1, v1, h2⟩ := h
  have hn : TSQ T n a (i + 1) p e2 k v := ⟨p1, e, k1, v1, h2, ht⟩
  refine ⟨fun j hj => ?_, p, k, v, hn⟩
  by_cases g : j = i
  · rw [g, hv, ← hk]; exact ⟨_, _, hn⟩
  · rw [hW j (by omega)]; exact h1 j (by omega)
theorem cs_end (hi : i = cmA c) (h : CST T n a c i W e) (ht : TKN T n e p e2 k v) (hk : k = 3) : CSE T n a c W e2 := by
  obtain ⟨h1, p1, k1, v1, h2⟩ := h
  rw [hi] at h1 h2
  refine ⟨h1, p, v, p1, e, k1, v1, h2, ?_⟩
  rw [← hk]; exact ht
theorem cse_cg {W2 : Nat → Int} (h : CSE T n a c W e) (hW : ∀ j, j < cmA c → W2 j = W j) : CSE T n a c W2 e := ⟨fun j hj => by rw [hW j hj]; exact h.1 j hj, h.2⟩
theorem cs_cmp {p0 e0 : Nat} (hc : cmI c) (h0 : TSQ T n a 0 p0 e0 1 c) (h : CSE T n a c W e) : CMP T n a p0 c W e := ⟨hc, ⟨e0, h0⟩, h.1, h.2⟩
end CS
/-- which kind the reference's token has, by its fields -/
def NTV (s : GS) (k v : Int) : Prop := (k = 0 → (s.2.2.1 109 28).toInt = 0) ∧ (k = 1 → (s.2.2.1 109 28).toInt = 1 ∧ (s.2.2.1 109 30).toInt = v + 97) ∧ (k = 2 → (s.2.2.1 109 28).toInt = 2 ∧ (s.2.2.2.1 109 31).toInt = v) ∧ (k = 3 → (s.2.2.1 109 28).toInt = 3 ∧ (s.2.2.1 109 30).toInt = 59) ∧ k ≠ 4 ∧ k ≠ 5
theorem ntk_f {s t : GS} {k v : Int} (h : NTK s t k v) (h0 : (s.2.2.1 109 23).toInt = 0) : ((t.2.2.1 109 23).toInt ≠ 0 → (t.2.2.1 109 23).toInt = cmF k ∧ (t.2.2.1 109 24).toInt = (t.2.2.1 109 29).toInt ∧ 4 ≤ k) ∧ ((t.2.2.1 109 23).toInt = 0 → NTV t k v) := by
  obtain ⟨n0, n1, n2, n3, n4, n5, n6⟩ := h
  by_cases k4 : k = 4
  · have b := (n4 k4).2.2.1 h0
    have e : cmF k = 1 := by rw [k4]; rfl
    exact ⟨fun _ => ⟨by rw [b.1, e], b.2, by omega⟩, fun z => by rw [b.1] at z; exact absurd z (by decide)⟩
  · by_cases k5 : k = 5
    · have b := (n5 k5).2.1 h0
      have e : cmF k = 3 := by rw [k5]; rfl
      exact ⟨fun _ => ⟨by rw [b.1, e], b.2, by omega⟩, fun z => by rw [b.1] at z; exact absurd z (by decide)⟩
    · have f := n6 k4 k5
      exact ⟨fun z => by rw [f.1] at z; exact absurd h0 z, fun _ => ⟨n0, n1, n2, n3, k4, k5⟩⟩
theorem ntv_t {s : GS} {k v : Int} (h : NTV s k v) (h0 : 0 ≤ k) (h5 : k ≤ 5) : (s.2.2.1 109 28).toInt = k := by
  obtain ⟨n0, n1, n2, n3, n4, n5⟩ := h
  by_cases a : k = 0
  · rw [n0 a, a]
  · by_cases b : k = 1
    · rw [(n1 b).1, b]
    · by_cases c : k = 2
      · rw [(n2 c).1, c]
      · rw [(n3 (by omega)).1]; omega
theorem tkn_v2 {T : Nat → Int32} {n a p e : Nat} {k v : Int} (h : TKN T n a p e k v) (hk : k = 2) : -9999999 ≤ v ∧ v ≤ 9999999 := by
  rcases h.2 with ⟨h1, h2, h3⟩ | ⟨h1, h2, h3, h4, h5⟩ | ⟨q, h1, h2, h3⟩ | ⟨h1, h2, h3, h4, h5⟩ | ⟨h1, h2, h3, h4, h5, h6⟩
  · omega
  · omega
  · rcases h3 with ⟨a1, a2, a3⟩ | ⟨a1, a2⟩
    · obtain ⟨g1, g2, g3, g4⟩ := h2
      have b := tkN_7 a1 (fun i x y => g3 i x (by omega))
      by_cases c : q = p
      · rw [if_pos c] at a3; omega
      · rw [if_neg c] at a3; omega
    · omega
  · omega
  · omega
theorem l2i_v {x : Int64} {z : Int32} (e : z = x.toInt32) (h : -9999999 ≤ x.toInt ∧ x.toInt ≤ 9999999) : z.toInt = x.toInt := by
  rw [e, Int64.toInt_toInt32]
  exact Int.bmod_eq_of_le (by omega) (by omega)
/-- the copy that the reference tries commands on is like g -/
def SIM (s : GS) (g : GVW) : Prop := (s.1 110 2).toInt = g.2.2.2.2.2.2.1 ∧ (∀ i, i < 160 → thg s 320 i = ctg g.2.1 i) ∧ (s.2.2.1 109 9).toInt + (s.2.2.1 109 32).toInt = g.2.2.2.2.2.2.2
section SIM
variable {s t : GS} {g : GVW} {c : Int} {m : Nat} {V : Nat → Int}
theorem sim_t (h : SIM s g) {x : Int32} (h0 : 0 ≤ x.toInt) (h1 : x.toInt ≤ 159) : (thg s 320 x.toNatClampNeg = true) ↔ (g.2.1 x.toInt.toNat).toInt ≠ -1 := by
  have e := h.2.1 x.toNatClampNeg (by show x.toInt.toNat < 160; omega)
  rw [e]
  unfold ctg
  exact decide_eq_true_iff
theorem sim_f (h : SIM s g) : fpl (thg s 320) = fpl (ctg g.2.1) := fpl_cg h.2.1
/-- what the reference tries is what can be done -/
theorem don_dk (h : SIM s g) (hv : g.2.2.2.2.2.2.2 ≤ 3999) (hc : cmI c) (hV : ∀ j, j < cmA c → V j = (s.1 128 (m + j)).toInt) (hd : DON s (c + 97) m) : dkC g c V := by
  obtain ⟨d1, d2, d3, d4⟩ := hd
  rcases hc with e | e | e | e
  · refine dk_13 e hv ?_
    rw [← h.1]
    exact d1 (by omega)
  · have hA : cmA c = 5 := by rw [e]; rfl
    rw [hA] at hV
    obtain ⟨a1, a2, a3, a4, a5⟩ := d2 (by omega)
    unfold nq at a2 a3 a4 a5
    refine dk_0 e hv ?_
    rw [hV 0 (by omega), hV 1 (by omega), hV 2 (by omega), hV 3 (by omega), ← h.1, ← sim_f h]
    exact ⟨⟨a2.1, by have := a2.2; simp only [Nat.add_zero] at *; omega⟩, ⟨a3.1, by have := a3.2; omega⟩, a4, a5, a1⟩
  · have hA : cmA c = 1 := by rw [e]; rfl
    rw [hA] at hV
    obtain ⟨a1, a2⟩ := d3 (Or.inl (by omega))
    unfold nq at a1
    refine dk_19 e hv ?_
    rw [hV 0 (by omega)]
    exact ⟨a1.1, a1.2, (sim_t h a1.1 a1.2).mp a2⟩
  · have hA : cmA c = 2 := by rw [e]; rfl
    rw [hA] at hV
    obtain ⟨a1, a2⟩ := d3 (Or.inr (by omega))
    have a3 := d4 (by omega)
    unfold nq at a1 a3
    refine dk_22 e hv ?_ ?_
    · rw [hV 0 (by omega)]
      exact ⟨a1.1, a1.2, (sim_t h a1.1 a1.2).mp a2⟩
    · rw [hV 1 (by omega)]
      exact a3
theorem dk_don (h : SIM s g) (hc : cmI c) (hV : ∀ j, j < cmA c → V j = (s.1 128 (m + j)).toInt) (hd : dkC g c V) : DON s (c + 97) m := by
  obtain ⟨-, d2, d3, d4, d5⟩ := hd
  rcases hc with e | e | e | e
  · refine don_110 (by omega) ?_
    rw [h.1]
    exact d2 e
  · have hA : cmA c = 5 := by rw [e]; rfl
    rw [hA] at hV
    have a := d3 e
    rw [hV 0 (by omega), hV 1 (by omega), hV 2 (by omega), hV 3 (by omega), ← h.1, ← sim_f h] at a
    obtain ⟨a1, a2, a3, a4, a5⟩ := a
    refine don_97 (by omega) ⟨a5, ?_, ?_, a3, a4⟩
    · unfold nq
      have q1 := a1.1
      have q2 := a1.2
      simp only [Nat.add_zero] at q1 q2
      exact ⟨q1, by omega⟩
    · unfold nq
      have q1 := a2.1
      have q2 := a2.2
      exact ⟨q1, by omega⟩
  · have hA : cmA c = 1 := by rw [e]; rfl
    rw [hA] at hV
    have a := d4 e
    rw [hV 0 (by omega)] at a
    exact don_116 (by omega) ⟨⟨a.1, a.2.1⟩, (sim_t h a.1 a.2.1).mpr a.2.2⟩
  · have hA : cmA c = 2 := by rw [e]; rfl
    rw [hA] at hV
    have a := d5 e
    rw [hV 0 (by omega), hV 1 (by omega)] at a
    exact don_119 (by omega) ⟨⟨a.1.1, a.1.2.1⟩, (sim_t h a.1.1 a.1.2.1).mpr a.1.2.2⟩ a.2
theorem ctg_u {f : Nat → Int32} {p : Nat} {x : Int32} {b : Nat → Bool} (h : ∀ i, i < 160 → b i = ctg f i) : ∀ i, i < 160 → ubq b p (decide (x.toInt ≠ -1)) i = ctg (upd f p x) i := by
  intro i hi
  unfold ubq ctg
  by_cases e : i = p
  · rw [if_pos e, e, ug_at]
  · rw [if_neg e, ug_ne e]
    exact h i hi
/-- and does to its copy -/
theorem sdn_sim (h : SIM s g) (hc : cmI c) (hV : ∀ j, j < cmA c → V j = (s.1 128 (m + j)).toInt) (hd : DON s (c + 97) m) (hs : SDN s t (c + 97) m) (hk : (t.2.2.1 109 9).toInt + (t.2.2.1 109 32).toInt = (s.2.2.1 109 9).toInt + (s.2.2.1 109 32).toInt + 1) : SIM t (opC g c V) := by
  obtain ⟨s1, s2, s3, s4⟩ := hs
  obtain ⟨h1, h2, h3⟩ := h
  unfold opC
  rcases hc with e | e | e | e
  · rw [if_pos e]
    obtain ⟨a1, a2, a3⟩ := s1 (by omega)
    exact ⟨by rw [a1, h1]; rfl, fun i hi => by rw [a3]; exact h2 i hi, by rw [hk, h3]; rfl⟩
  · have hA : cmA c = 5 := by rw [e]; rfl
    rw [hA] at hV
    rw [if_neg (by omega), if_pos e]
    obtain ⟨a1, a2, a3, -, -, -, a7⟩ := s2 (by omega)
    have x0 : (Int32.ofInt (V 0)).toInt ≠ -1 := by
      rw [hV 0 (by omega), Int32.ofInt_toInt]
      have := a3.1
      simp only [Nat.add_zero]
      omega
    refine ⟨by rw [a1, h1]; rfl, fun i hi => ?_, by rw [hk, h3]; rfl⟩
    rw [a7, sim_f ⟨h1, h2, h3⟩]
    have u := ctg_u (p := fpl (ctg g.2.1)) (x := Int32.ofInt (V 0)) h2 i hi
    rw [decide_eq_true x0] at u
    exact u
  · have hA : cmA c = 1 := by rw [e]; rfl
    rw [hA] at hV
    rw [if_neg (by omega), if_neg (by omega), if_pos e]
    obtain ⟨a1, a2, a3⟩ := s3 (by omega)
    refine ⟨by rw [a1, h1]; rfl, fun i hi => ?_, by rw [hk, h3]; rfl⟩
    rw [a3]
    have u := ctg_u (p := (s.1 128 m).toNatClampNeg) (x := Int32.ofInt (-1)) h2 i hi
    rw [show decide ((Int32.ofInt (-1)).toInt ≠ -1) = false from rfl] at u
    rw [hV 0 (by omega)]
    exact u
  · have hA : cmA c = 2 := by rw [e]; rfl
    rw [hA] at hV
    rw [if_neg (by omega), if_neg (by omega), if_neg (by omega)]
    obtain ⟨a1, -, -, a4⟩ := s4 (by omega) (by omega) (by omega)
    exact ⟨by rw [a1, h1]; rfl, fun i hi => by rw [a4]; exact h2 i hi, by rw [hk, h3]; rfl⟩
end SIM
/-! command of the reference: its loop, its end -/
def HQ5 (s t : GS) (c : Int) (k m : Int32) (e : Nat) : Prop := (t.2.2.1 109 23).toInt = 0 → m.toInt ≠ 0 → k.toInt ≤ (cmA c : Int) ∧ ∀ a : Nat, TKN (s.1 125) (s.2.2.1 109 22).toInt.toNat a (s.2.2.1 109 29).toInt.toNat (s.2.2.1 109 27).toInt.toNat 1 c → CST (s.1 125) (s.2.2.1 109 22).toInt.toNat a c k.toInt.toNat (fun j => (t.1 128 (5 * (s.2.2.1 109 32).toNatClampNeg + j)).toInt) e
def HQ6 (s t : GS) (c : Int) (m : Int32) (e : Nat) : Prop := (t.2.2.1 109 23).toInt = 0 → m.toInt = 0 → ∀ a : Nat, TKN (s.1 125) (s.2.2.1 109 22).toInt.toNat a (s.2.2.1 109 29).toInt.toNat (s.2.2.1 109 27).toInt.toNat 1 c → CSE (s.1 125) (s.2.2.1 109 22).toInt.toNat a c (fun j => (t.1 128 (5 * (s.2.2.1 109 32).toNatClampNeg + j)).toInt) e
def HQ7 (s t : GS) (c : Int) : Prop := (t.2.2.1 109 23).toInt ≠ 0 → 0 ≤ (t.2.2.1 109 24).toInt ∧ ∀ a : Nat, TKN (s.1 125) (s.2.2.1 109 22).toInt.toNat a (s.2.2.1 109 29).toInt.toNat (s.2.2.1 109 27).toInt.toNat 1 c → CMX (s.1 125) (s.2.2.1 109 22).toInt.toNat a (t.2.2.1 109 23).toInt (t.2.2.1 109 24).toInt.toNat
/-- what command does, from a place a whose token has been read -/
def RCM (s t : GS) : Prop := ∀ (a : Nat) (k v : Int), TKN (s.1 125) (s.2.2.1 109 22).toInt.toNat a (s.2.2.1 109 29).toInt.toNat (s.2.2.1 109 27).toInt.toNat k v → NTV s k v → k ≠ 0 →
  ((t.2.2.1 109 23).toInt = 0 → (t.2.2.1 109 32).toInt = (s.2.2.1 109 32).toInt + 1 ∧ ∃ c V, CMP (s.1 125) (s.2.2.1 109 22).toInt.toNat a (s.2.2.1 109 29).toInt.toNat c V (t.2.2.1 109 27).toInt.toNat ∧ (t.1 127 (s.2.2.1 109 32).toNatClampNeg).toInt = c + 97 ∧ (∀ i, i < cmA c → (t.1 128 (5 * (s.2.2.1 109 32).toNatClampNeg + i)).toInt = V i) ∧ (∀ j, j < (s.2.2.1 109 32).toNatClampNeg → t.1 127 j = s.1 127 j) ∧ (∀ j, j < 5 * (s.2.2.1 109 32).toNatClampNeg → t.1 128 j = s.1 128 j) ∧ ∀ g, SIM s g → dkC g c V ∧ SIM t (opC g c V)) ∧
  ((t.2.2.1 109 23).toInt ≠ 0 → 0 ≤ (t.2.2.1 109 24).toInt ∧ (CMX (s.1 125) (s.2.2.1 109 22).toInt.toNat a (t.2.2.1 109 23).toInt (t.2.2.1 109 24).toInt.toNat ∨ ∃ c V e, CMP (s.1 125) (s.2.2.1 109 22).toInt.toNat a (t.2.2.1 109 24).toInt.toNat c V e ∧ (∀ g, SIM s g → ¬ dkC g c V) ∧ (t.2.2.1 109 23).toInt = 4))
section RCM
variable {s t : GS} {c : Int} {W : Nat → Int} {e : Nat}
theorem rcm_in {a : Nat} {k v : Int} (h : TKN (s.1 125) (s.2.2.1 109 22).toInt.toNat a (s.2.2.1 109 29).toInt.toNat (s.2.2.1 109 27).toInt.toNat k v) (hn : NTV s k v) (h1 : (s.2.2.1 109 28).toInt = 1) (h2 : (s.2.2.1 109 30).toInt = c + 97) : TKN (s.1 125) (s.2.2.1 109 22).toInt.toNat a (s.2.2.1 109 29).toInt.toNat (s.2.2.1 109 27).toInt.toNat 1 c := by
  have r := tkn_e h
  have ek := ntv_t hn r.2.2.2.2.1 r.2.2.2.2.2
  rw [h1] at ek
  have ev := (hn.2.1 ek.symm).2
  rw [h2] at ev
  have e1 : v = c := by omega
  rw [← e1, ek]
  exact h
theorem rcm_48 (p48 : FBL s t 2 (s.2.2.1 109 29).toInt) (h0 : (s.2.2.1 109 23).toInt = 0) (hp : 0 ≤ (s.2.2.1 109 29).toInt) (hn : ¬ ((s.2.2.1 109 28).toInt = 1 ∧ C4 (s.2.2.1 109 30).toInt)) : RCM s t := by
  intro a k v h hv hk
  have b := p48.1 h0
  have r := tkn_e h
  have ek := ntv_t hv r.2.2.2.2.1 r.2.2.2.2.2
  refine ⟨fun z => by rw [b.1] at z; exact absurd z (by decide), fun _ => ⟨by rw [b.2]; exact hp, Or.inl ?_⟩⟩
  rw [b.1, b.2]
  refine Or.inl ⟨_, k, v, h, hk, fun z => hn ?_, ?_⟩
  · refine ⟨by rw [ek]; exact z.1, ?_⟩
    have ev := (hv.2.1 z.1).2
    rw [ev]
    rcases z.2 with q | q | q | q
    · exact Or.inl (by omega)
    · exact Or.inr (Or.inl (by omega))
    · exact Or.inr (Or.inr (Or.inl (by omega)))
    · exact Or.inr (Or.inr (Or.inr (by omega)))
  · unfold cmF
    rw [if_neg hv.2.2.2.2.1, if_neg hv.2.2.2.2.2]
theorem rcm_x (h1 : (s.2.2.1 109 28).toInt = 1) (h2 : (s.2.2.1 109 30).toInt = c + 97) (h7 : HQ7 s t c) (hf : (t.2.2.1 109 23).toInt ≠ 0) : RCM s t := by
  intro a k v h hv hk
  exact ⟨fun z => absurd z hf, fun z => ⟨(h7 z).1, Or.inl ((h7 z).2 a (rcm_in h hv h1 h2))⟩⟩
theorem rcm_4 (h1 : (s.2.2.1 109 28).toInt = 1) (h2 : (s.2.2.1 109 30).toInt = c + 97) (hc : cmI c) (hE : ∀ a : Nat, TKN (s.1 125) (s.2.2.1 109 22).toInt.toNat a (s.2.2.1 109 29).toInt.toNat (s.2.2.1 109 27).toInt.toNat 1 c → CSE (s.1 125) (s.2.2.1 109 22).toInt.toNat a c W e) (hn : ∀ g, SIM s g → ¬ dkC g c W) (hf : (t.2.2.1 109 23).toInt = 4) (hp : (t.2.2.1 109 24).toInt = (s.2.2.1 109 29).toInt) (h0 : 0 ≤ (s.2.2.1 109 29).toInt) : RCM s t := by
  intro a k v h hv hk
  have hi := rcm_in h hv h1 h2
  refine ⟨fun z => by rw [hf] at z; exact absurd z (by decide), fun _ => ⟨by rw [hp]; exact h0, Or.inr ⟨c, W, e, ?_, hn, hf⟩⟩⟩
  rw [hp]
  exact cs_cmp hc hi (hE a hi)
theorem rcm_0 (h1 : (s.2.2.1 109 28).toInt = 1) (h2 : (s.2.2.1 109 30).toInt = c + 97) (hc : cmI c) (hE : ∀ a : Nat, TKN (s.1 125) (s.2.2.1 109 22).toInt.toNat a (s.2.2.1 109 29).toInt.toNat (s.2.2.1 109 27).toInt.toNat 1 c → CSE (s.1 125) (s.2.2.1 109 22).toInt.toNat a c W e) (hf : (t.2.2.1 109 23).toInt = 0) (hm : (t.2.2.1 109 32).toInt = (s.2.2.1 109 32).toInt + 1) (he : (t.2.2.1 109 27).toInt.toNat = e) (hw : (t.1 127 (s.2.2.1 109 32).toNatClampNeg).toInt = c + 97) (hV : ∀ i, i < cmA c → (t.1 128 (5 * (s.2.2.1 109 32).toNatClampNeg + i)).toInt = W i) (k7 : ∀ j, j < (s.2.2.1 109 32).toNatClampNeg → t.1 127 j = s.1 127 j) (k8 : ∀ j, j < 5 * (s.2.2.1 109 32).toNatClampNeg → t.1 128 j = s.1 128 j) (hs : ∀ g, SIM s g → dkC g c W ∧ SIM t (opC g c W)) : RCM s t := by
  intro a k v h hv hk
  have hi := rcm_in h hv h1 h2
  refine ⟨fun _ => ⟨hm, c, W, ?_, hw, hV, k7, k8, hs⟩, fun z => absurd hf z⟩
  rw [he]
  exact cs_cmp hc hi (hE a hi)
theorem sim_cg {g : GVW} (h : SIM s g) (h0 : t.1 110 = s.1 110) (h2 : t.1 112 = s.1 112) (h9 : t.2.2.1 109 9 = s.2.2.1 109 9) (hm : t.2.2.1 109 32 = s.2.2.1 109 32) : SIM t g := by
  have eg : thg t 320 = thg s 320 := by unfold thg; rw [h2]
  unfold SIM
  rw [h0, eg, h9, hm]
  exact h
theorem c97 {y : Int32} {z : Int32} (h : y = z) : z.toInt = y.toInt - 97 + 97 := by rw [h]; omega
/-- not done -/
theorem rcm_n {sc : GS} {y y1 y4 w w27 : Int32} {m : Nat} (h3 : C4 y.toInt ∧ y = s.2.2.1 109 30 ∧ (s.2.2.1 109 28).toInt = 1 ∧ y1 = s.2.2.1 109 29) (h4 : sc.1 110 = s.1 110 ∧ sc.1 112 = s.1 112 ∧ sc.1 127 = s.1 127 ∧ (∀ j, j < 5 * (s.2.2.1 109 32).toNatClampNeg → sc.1 128 j = s.1 128 j) ∧ sc.2.2.1 109 32 = s.2.2.1 109 32) (h6 : HQ6 s sc (y.toInt - 97) y4 w27.toInt.toNat) (hf0 : (sc.2.2.1 109 23).toInt = 0) (hm0 : y4.toInt = 0) (h9 : sc.2.2.1 109 9 = s.2.2.1 109 9) (hw : w = sc.2.2.1 109 32) (hm : m = 5 * w.toNatClampNeg) (hn : ¬ DON (sI sc 127 w.toNatClampNeg y) y.toInt m ∨ 4000 ≤ (s.2.2.1 109 9).toInt + (s.2.2.1 109 32).toInt) (hf : (t.2.2.1 109 23).toInt = 4) (hp : (t.2.2.1 109 24).toInt = y1.toInt) (h0 : 0 ≤ y1.toInt) : RCM s t := by
  have ew : w.toNatClampNeg = (s.2.2.1 109 32).toNatClampNeg := by rw [hw, h4.2.2.2.2]
  refine rcm_4 h3.2.2.1 (c97 h3.2.1) (c4_i h3.1) (h6 hf0 hm0) ?_ hf (by rw [hp, h3.2.2.2]) (by rw [← h3.2.2.2]; exact h0)
  intro g hg hd
  rcases hn with hn | hn
  · apply hn
    have q := dk_don (s := sI sc 127 w.toNatClampNeg y) (m := m) (sim_cg hg ((sI_p rfl).trans h4.1) ((sI_p rfl).trans h4.2.1) h9 h4.2.2.2.2) (c4_i h3.1) (fun j _ => by rw [sI_p rfl, hm, ew]) hd
    rw [Int.sub_add_cancel] at q
    exact q
  · have a := hd.1
    have b := hg.2.2
    omega
/-- done -/
theorem rcm_d {sc x : GS} {y y1 y4 w w27 z : Int32} {m : Nat} (h3 : C4 y.toInt ∧ y = s.2.2.1 109 30 ∧ (s.2.2.1 109 28).toInt = 1 ∧ y1 = s.2.2.1 109 29) (h4 : sc.1 110 = s.1 110 ∧ sc.1 112 = s.1 112 ∧ sc.1 127 = s.1 127 ∧ (∀ j, j < 5 * (s.2.2.1 109 32).toNatClampNeg → sc.1 128 j = s.1 128 j) ∧ sc.2.2.1 109 32 = s.2.2.1 109 32) (h6 : HQ6 s sc (y.toInt - 97) y4 w27.toInt.toNat) (hf0 : (sc.2.2.1 109 23).toInt = 0) (hm0 : y4.toInt = 0) (h9 : sc.2.2.1 109 9 = s.2.2.1 109 9) (hw : w = sc.2.2.1 109 32) (hm : m = 5 * w.toNatClampNeg) (hd : DON (sI sc 127 w.toNatClampNeg y) y.toInt m) (hS : SDN (sI sc 127 w.toNatClampNeg y) x y.toInt m) (hlt : (s.2.2.1 109 9).toInt + (s.2.2.1 109 32).toInt < 4000) (h27 : w27 = sc.2.2.1 109 27) (hz : z.toInt = w.toInt + 1)
    (x9 : x.2.2.1 109 9 = sc.2.2.1 109 9) (x23 : x.2.2.1 109 23 = sc.2.2.1 109 23) (x27 : x.2.2.1 109 27 = sc.2.2.1 109 27) (x127 : x.1 127 = (sI sc 127 w.toNatClampNeg y).1 127) (x128 : x.1 128 = (sI sc 127 w.toNatClampNeg y).1 128) : RCM s (sF x 109 32 z) := by
  have ew : w.toNatClampNeg = (s.2.2.1 109 32).toNatClampNeg := by rw [hw, h4.2.2.2.2]
  have e8 : (sF x 109 32 z).1 128 = sc.1 128 := x128.trans (sI_p rfl)
  have e7 : (sF x 109 32 z).1 127 = upd (s.1 127) (s.2.2.1 109 32).toNatClampNeg y := by
    show x.1 127 = _
    rw [x127, sI_q, h4.2.2.1, ew]
  have e32 : (sF x 109 32 z).2.2.1 109 32 = z := sF_get.symm
  have hz2 : z.toInt = (s.2.2.1 109 32).toInt + 1 := by rw [hz, hw, h4.2.2.2.2]
  refine rcm_0 h3.2.2.1 (c97 h3.2.1) (c4_i h3.1) (h6 hf0 hm0) ?_ ?_ ?_ ?_ ?_ ?_ ?_ ?_
  · show (x.2.2.1 109 23).toInt = 0
    rw [x23]; exact hf0
  · rw [e32]; exact hz2
  · show (x.2.2.1 109 27).toInt.toNat = _
    rw [x27, h27]
  · rw [e7, ug_at]; omega
  · intro i _; rw [e8]
  · intro j hj; rw [e7, ug_ne (by omega)]
  · intro j hj; rw [e8]; exact h4.2.2.2.1 j hj
  · intro g hg
    have hu : SIM (sI sc 127 w.toNatClampNeg y) g := sim_cg hg ((sI_p rfl).trans h4.1) ((sI_p rfl).trans h4.2.1) h9 h4.2.2.2.2
    have hV : ∀ j, j < cmA (y.toInt - 97) → (sc.1 128 (5 * (s.2.2.1 109 32).toNatClampNeg + j)).toInt = ((sI sc 127 w.toNatClampNeg y).1 128 (m + j)).toInt := fun j _ => by rw [sI_p rfl, hm, ew]
    have b := hg.2.2
    refine ⟨don_dk hu (by omega) (c4_i h3.1) hV (by rw [Int.sub_add_cancel]; exact hd), ?_⟩
    refine sdn_sim (t := sF x 109 32 z) hu (c4_i h3.1) hV (by rw [Int.sub_add_cancel]; exact hd) (by rw [Int.sub_add_cancel]; exact hS) ?_
    rw [e32]
    show (x.2.2.1 109 9).toInt + z.toInt = (sc.2.2.1 109 9).toInt + (sc.2.2.1 109 32).toInt + 1
    rw [x9, hz, hw]
    omega
theorem g0_tr {u : GS} (h : G0S s t) (g : G0S t u) : G0S s u := ⟨g.1.trans h.1, fun i hi => (g.2 i hi).trans (h.2 i hi)⟩
theorem g0_cg (h0 : t.1 110 = s.1 110) (h2 : t.1 112 = s.1 112) : G0S s t := ⟨by rw [h0], fun i _ => by rw [h2]⟩
end RCM
end
section
/-! LOAD OF THE REFERENCE: WHAT IT DOES TO ITS GRAPH -/
def NVQ (N : Nat → Int32) (k : Nat) : Nat → Int := fun i => (N (5 * k + i)).toInt
/-- the commands in the rows W, N, carried out one after the other -/
def opF (g0 : GVW) (W N : Nat → Int32) : Nat → GVW
  | 0 => g0
  | k + 1 => opC (opF g0 W N k) ((W k).toInt - 97) (NVQ N k)
theorem opC_5 {g : GVW} {c : Int} {V W : Nat → Int} (h : ∀ i, i < 5 → V i = W i) : opC g c V = opC g c W := by
  unfold opC
  rw [h 0 (by omega), h 1 (by omega), h 2 (by omega), h 3 (by omega), h 4 (by omega)]
theorem opC_v {g : GVW} {c : Int} {V W : Nat → Int} (hc : cmI c) (hV : ∀ i, i < cmA c → V i = W i) : opC g c V = opC g c W := by
  unfold opC
  rcases hc with e | e | e | e
  · have hA : cmA c = 1 := by rw [e]; rfl
    rw [hA] at hV
    rw [if_pos e, if_pos e, hV 0 (by omega)]
  · have hA : cmA c = 5 := by rw [e]; rfl
    rw [hA] at hV
    rw [if_neg (by omega), if_pos e, if_neg (by omega), if_pos e, hV 0 (by omega), hV 1 (by omega), hV 2 (by omega), hV 3 (by omega), hV 4 (by omega)]
  · have hA : cmA c = 1 := by rw [e]; rfl
    rw [hA] at hV
    rw [if_neg (by omega), if_neg (by omega), if_pos e, if_neg (by omega), if_neg (by omega), if_pos e, hV 0 (by omega)]
  · have hA : cmA c = 2 := by rw [e]; rfl
    rw [hA] at hV
    rw [if_neg (by omega), if_neg (by omega), if_neg (by omega), if_neg (by omega), if_neg (by omega), if_neg (by omega), hV 0 (by omega), hV 1 (by omega)]
theorem opF_cg {g0 : GVW} {W V N M : Nat → Int32} : ∀ k, (∀ j, j < k → W j = V j) → (∀ j, j < 5 * k → N j = M j) → opF g0 W N k = opF g0 V M k
  | 0, _, _ => rfl
  | k + 1, h1, h2 => by
    show opC (opF g0 W N k) ((W k).toInt - 97) (NVQ N k) = opC (opF g0 V M k) ((V k).toInt - 97) (NVQ M k)
    rw [opF_cg k (fun j hj => h1 j (by omega)) (fun j hj => h2 j (by omega)), h1 k (by omega)]
    exact opC_5 (fun i hi => by unfold NVQ; rw [h2 (5 * k + i) (by omega)])
def LDG (s t : GS) (a : Nat) : Prop := LRN (s.1 125) (s.2.2.1 109 22).toInt.toNat (gvR s) (t.2.2.1 109 32).toNatClampNeg a (opF (gvR s) (t.1 127) (t.1 128) (t.2.2.1 109 32).toNatClampNeg) ∧ SIM t (opF (gvR s) (t.1 127) (t.1 128) (t.2.2.1 109 32).toNatClampNeg) ∧ ∀ j, j < (t.2.2.1 109 32).toNatClampNeg → cmI ((t.1 127 j).toInt - 97)
def LDX (s t : GS) : Prop := 0 ≤ (t.2.2.1 109 24).toInt ∧ ∃ (k a : Nat) (g1 : GVW), LRN (s.1 125) (s.2.2.1 109 22).toInt.toNat (gvR s) k a g1 ∧ (CMX (s.1 125) (s.2.2.1 109 22).toInt.toNat a (t.2.2.1 109 23).toInt (t.2.2.1 109 24).toInt.toNat ∨ ∃ c V e, CMP (s.1 125) (s.2.2.1 109 22).toInt.toNat a (t.2.2.1 109 24).toInt.toNat c V e ∧ ¬ dkC g1 c V ∧ (t.2.2.1 109 23).toInt = 4)
def LD1 (s t : GS) : Prop := GEQ (gvR t) (gvR s) ∧ ((t.2.2.1 109 23).toInt = 0 → ∃ a, LDG s t a ∧ ∃ k v, TKN (s.1 125) (s.2.2.1 109 22).toInt.toNat a (t.2.2.1 109 29).toInt.toNat (t.2.2.1 109 27).toInt.toNat k v ∧ NTV t k v) ∧ ((t.2.2.1 109 23).toInt ≠ 0 → LDX s t)
/-- the second half: k commands are done -/
def LD3 (s t : GS) (k : Nat) : Prop := (t.2.2.1 109 23).toInt = 0 ∧ (∃ a, LRN (s.1 125) (s.2.2.1 109 22).toInt.toNat (gvR s) (t.2.2.1 109 32).toNatClampNeg a (opF (gvR s) (t.1 127) (t.1 128) (t.2.2.1 109 32).toNatClampNeg) ∧ CME (s.1 125) (s.2.2.1 109 22).toInt.toNat a) ∧ (∀ j, j < (t.2.2.1 109 32).toNatClampNeg → cmI ((t.1 127 j).toInt - 97)) ∧ GEQ (gvR t) (opF (gvR s) (t.1 127) (t.1 128) k) ∧ k ≤ (t.2.2.1 109 32).toNatClampNeg
section LDF
variable {s u t : GS}
theorem r113 (hI : Inv s) {i : Nat} (hi : i < 160) : (s.1 113 i).toInt ≠ -1 := by
  have h := (hI.1.1 113 i (Nat.lt_of_lt_of_le hi (Nat.le_of_ble_eq_true rfl))).1
  have e : (rI 113).1 = 0 := rfl
  omega
theorem geq_0 {L : FM} (h : Fr L s t) (hq : (qI L.1 111 && qI L.1 113 && qI L.1 114 && qI L.1 115 && qI L.1 116 && qI L.1 117 && qF L.2.2.1 109 9) = true) (g : G0S s t) : GEQ (gvR t) (gvR s) := by
  simp only [Bool.and_eq_true] at hq
  obtain ⟨⟨⟨⟨⟨⟨q1, q3⟩, q4⟩, q5⟩, q6⟩, q7⟩, q8⟩ := hq
  refine ⟨fun i _ => ?_, fun i hi => ?_, fun i _ => ?_, fun i _ => ?_, fun i _ => ?_, fun i _ => ?_, ?_, ?_⟩
  · show t.1 111 i = s.1 111 i; rw [h.1 111 q1]
  · show thf (t.1 112) (t.1 113) i = thf (s.1 112) (s.1 113) i
    unfold thf
    rw [g.2 i hi, h.1 113 q3]
  · show t.1 114 i = s.1 114 i; rw [h.1 114 q4]
  · show t.1 115 i = s.1 115 i; rw [h.1 115 q5]
  · show t.1 116 i = s.1 116 i; rw [h.1 116 q6]
  · show t.1 117 i = s.1 117 i; rw [h.1 117 q7]
  · show (t.1 110 0).toInt = (s.1 110 0).toInt; rw [g.1]
  · show (t.2.2.1 109 9).toInt = (s.2.2.1 109 9).toInt; rw [h.2.2.1 109 9 q8]
theorem ctg_thf (h : ∀ i, i < 160 → (s.1 113 i).toInt ≠ -1) {i : Nat} (hi : i < 160) : ctg (thf (s.1 112) (s.1 113)) i = decide ((s.1 112 i).toInt ≠ 0) := by
  unfold ctg thf
  by_cases c : (s.1 112 i).toInt = 0
  · rw [if_pos c]
    rw [show decide ((Int32.ofInt (-1)).toInt ≠ -1) = false from rfl]
    exact (decide_eq_false (fun z => z c)).symm
  · rw [if_neg c]
    exact (decide_eq_true (h i hi)).trans (decide_eq_true c).symm
theorem ldg_0 (hI : Inv s) (h1 : t.1 110 2 = s.1 110 0) (h3 : ∀ i : Nat, i < 160 → t.1 112 (320 + i) = s.1 112 i ∧ t.1 112 i = s.1 112 i) (h9 : t.2.2.1 109 9 = s.2.2.1 109 9) (hm : t.2.2.1 109 32 = Int32.ofInt 0) (h27 : t.2.2.1 109 27 = Int32.ofInt 0) : LDG s t (t.2.2.1 109 27).toInt.toNat := by
  have ec : (t.2.2.1 109 32).toNatClampNeg = 0 := by rw [hm]; rfl
  unfold LDG
  rw [ec, h27]
  refine ⟨⟨rfl, rfl⟩, ⟨by rw [h1]; rfl, fun i hi => ?_, ?_⟩, fun j hj => absurd hj (Nat.not_lt_zero _)⟩
  · show thg t 320 i = ctg (thf (s.1 112) (s.1 113)) i
    rw [ctg_thf (fun i hi => r113 hI hi) hi]
    unfold thg
    rw [(h3 i hi).1]
  · show (t.2.2.1 109 9).toInt + (t.2.2.1 109 32).toInt = (s.2.2.1 109 9).toInt
    rw [h9, hm]
    exact Int.add_zero _
theorem ldg_cg {a : Nat} (h : LDG s u a) (h0 : t.1 110 = u.1 110) (h2 : t.1 112 = u.1 112) (h7 : t.1 127 = u.1 127) (h8 : t.1 128 = u.1 128) (h9 : t.2.2.1 109 9 = u.2.2.1 109 9) (hm : t.2.2.1 109 32 = u.2.2.1 109 32) : LDG s t a := by
  obtain ⟨a1, a2, a3⟩ := h
  have a4 := sim_cg a2 h0 h2 h9 hm
  unfold LDG
  rw [h7, h8, hm]
  exact ⟨a1, a4, a3⟩
/-- a token is read -/
theorem ld_tok (hI : Inv t) (hG : GEQ (gvR u) (gvR s)) (hD : LDG s u (u.2.2.1 109 27).toInt.toNat) (h0 : (u.2.2.1 109 23).toInt = 0) (hp : ∃ k v, TKN (u.1 125) (u.2.2.1 109 22).toInt.toNat (u.2.2.1 109 27).toInt.toNat (t.2.2.1 109 29).toInt.toNat (t.2.2.1 109 27).toInt.toNat k v ∧ NTK u t k v) (u125 : u.1 125 = s.1 125) (u22 : u.2.2.1 109 22 = s.2.2.1 109 22) (hg : gvR t = gvR u) (r0 : t.1 110 = u.1 110) (r2 : t.1 112 = u.1 112) (r7 : t.1 127 = u.1 127) (r8 : t.1 128 = u.1 128) (r9 : t.2.2.1 109 9 = u.2.2.1 109 9) (rm : t.2.2.1 109 32 = u.2.2.1 109 32) : LD1 s t := by
  obtain ⟨k, v, h, hn⟩ := hp
  rw [u125, u22] at h
  have hf := ntk_f hn h0
  have hDt := ldg_cg hD r0 r2 r7 r8 r9 rm
  refine ⟨by rw [hg]; exact hG, fun z => ⟨_, hDt, k, v, h, hf.2 z⟩, fun z => ?_⟩
  obtain ⟨f1, f2, f3⟩ := hf.1 z
  have h9 := inv_F hI (z := t.2.2.1 109 29) 0 1000 rfl rfl
  unfold In at h9
  refine ⟨by rw [f2]; omega, _, _, _, hDt.1, Or.inl ?_⟩
  rw [f1, f2]
  exact Or.inl ⟨_, k, v, h, by omega, fun q => by omega, rfl⟩
theorem ntv_z {k v : Int} {a p e n : Nat} {T : Nat → Int32} (h : TKN T n a p e k v) (hn : NTV t k v) : (t.2.2.1 109 28).toInt = k := by
  have r := tkn_e h
  exact ntv_t hn r.2.2.2.2.1 r.2.2.2.2.2
/-- a command is read and tried -/
theorem ld_cmd (hU : LD1 s u) (h0 : (u.2.2.1 109 23).toInt = 0) (ht : (u.2.2.1 109 28).toInt ≠ 0) (hR : RCM u t) (hT : GEQ (gvR t) (gvR u)) (hIu : 0 ≤ (u.2.2.1 109 32).toInt) (u125 : u.1 125 = s.1 125) (u22 : u.2.2.1 109 22 = s.2.2.1 109 22) : GEQ (gvR t) (gvR s) ∧ ((t.2.2.1 109 23).toInt = 0 → LDG s t (t.2.2.1 109 27).toInt.toNat) ∧ ((t.2.2.1 109 23).toInt ≠ 0 → LDX s t) := by
  obtain ⟨g1, g2, -⟩ := hU
  obtain ⟨a, ⟨d1, d2, d3⟩, k, v, hk, hv⟩ := g2 h0
  have ek := ntv_z hk hv
  unfold RCM at hR
  rw [u125, u22] at hR
  obtain ⟨r1, r2⟩ := hR a k v hk hv (by omega)
  refine ⟨geq_t hT g1, fun z => ?_, fun z => ?_⟩
  · obtain ⟨m1, c, V, m2, m3, m4, m5, m6, m7⟩ := r1 z
    obtain ⟨m8, m9⟩ := m7 _ d2
    have em : (t.2.2.1 109 32).toNatClampNeg = (u.2.2.1 109 32).toNatClampNeg + 1 := by
      show (t.2.2.1 109 32).toInt.toNat = (u.2.2.1 109 32).toInt.toNat + 1
      omega
    have eo : opF (gvR s) (t.1 127) (t.1 128) (u.2.2.1 109 32).toNatClampNeg = opF (gvR s) (u.1 127) (u.1 128) (u.2.2.1 109 32).toNatClampNeg := opF_cg _ m5 m6
    have ec : (t.1 127 (u.2.2.1 109 32).toNatClampNeg).toInt - 97 = c := by omega
    have en : opF (gvR s) (t.1 127) (t.1 128) (t.2.2.1 109 32).toNatClampNeg = opC (opF (gvR s) (u.1 127) (u.1 128) (u.2.2.1 109 32).toNatClampNeg) c V := by
      rw [em]
      show opC (opF (gvR s) (t.1 127) (t.1 128) (u.2.2.1 109 32).toNatClampNeg) ((t.1 127 (u.2.2.1 109 32).toNatClampNeg).toInt - 97) (NVQ (t.1 128) (u.2.2.1 109 32).toNatClampNeg) = _
      rw [eo, ec]
      exact opC_v m2.1 (fun i hi => m4 i hi)
    unfold LDG
    rw [en, em]
    refine ⟨⟨a, _, _, c, V, d1, m2, m8, rfl⟩, m9, fun j hj => ?_⟩
    by_cases q : j = (u.2.2.1 109 32).toNatClampNeg
    · rw [q, ec]; exact m2.1
    · rw [m5 j (by omega)]; exact d3 j (by omega)
  · obtain ⟨x1, x2⟩ := r2 z
    refine ⟨x1, _, a, _, d1, ?_⟩
    rcases x2 with x2 | ⟨c, V, e, y1, y2, y3⟩
    · exact Or.inl x2
    · exact Or.inr ⟨c, V, e, y1, y2 _ d2, y3⟩
theorem ld3_0 (h : LD1 s t) (h0 : (t.2.2.1 109 23).toInt = 0) (ht : (t.2.2.1 109 28).toInt = 0) : LD3 s t 0 := by
  obtain ⟨g1, g2, -⟩ := h
  obtain ⟨a, ⟨d1, d2, d3⟩, k, v, hk, hv⟩ := g2 h0
  have ek := ntv_z hk hv
  rw [ht] at ek
  rw [← ek] at hk
  exact ⟨h0, ⟨a, d1, _, _, v, hk⟩, d3, g1, Nat.zero_le _⟩
theorem ld3_s {k : Nat} (h : LD3 s u k) (hk : k < (u.2.2.1 109 32).toNatClampNeg) (hg : gvR t = opC (gvR u) ((u.1 127 k).toInt - 97) (NVQ (u.1 128) k)) (r7 : t.1 127 = u.1 127) (r8 : t.1 128 = u.1 128) (rm : t.2.2.1 109 32 = u.2.2.1 109 32) (rf : t.2.2.1 109 23 = u.2.2.1 109 23) : LD3 s t (k + 1) := by
  obtain ⟨a0, a1, a2, a3, -⟩ := h
  unfold LD3
  rw [r7, r8, rm, rf, hg]
  exact ⟨a0, a1, a2, opC_e a3 (a2 k hk) (fun _ _ => rfl), hk⟩
theorem ld3_e {k : Nat} {z f p : Int} (h : LD3 s t k) (hk : (t.2.2.1 109 32).toNatClampNeg ≤ k) (hz : z = (((t.2.2.1 109 32).toNatClampNeg : Nat) : Int)) (hf : f = (t.2.2.1 109 23).toInt) : LOT (s.1 125) (s.2.2.1 109 22).toInt.toNat (gvR s) z f p (gvR t) := by
  obtain ⟨a0, ⟨a, a1, a5⟩, a2, a3, a4⟩ := h
  have e : k = (t.2.2.1 109 32).toNatClampNeg := by omega
  rw [e] at a3
  exact Or.inl ⟨_, a, _, a1, a5, hz, by rw [hf]; exact a0, a3⟩
theorem ld1_x {z : Int} (h : LD1 s t) (h0 : (t.2.2.1 109 23).toInt ≠ 0) (hz : z = -4) : LOT (s.1 125) (s.2.2.1 109 22).toInt.toNat (gvR s) z (t.2.2.1 109 23).toInt (t.2.2.1 109 24).toInt (gvR t) := by
  obtain ⟨g1, -, g2⟩ := h
  obtain ⟨x0, k, a, g, x1, x2⟩ := g2 h0
  exact Or.inr ⟨k, a, _, g, x1, x2, hz, by omega, g1⟩
/-- each kind -/
theorem oR_n {c : Int} {V : Nat → Int} {x : Int32} (h : c = 13) (h0 : V 0 = x.toInt) : opC (gvR s) c V = gqN (gvR s) (s.1 110 0).toNatClampNeg x := by
  unfold opC
  rw [if_pos h, h0, Int32.ofInt_toInt]
  rfl
theorem oR_a {c : Int} {V : Nat → Int} {p : Nat} {x0 x1 x2 x3 x4 : Int32} (hI : Inv s) (h : c = 0) (hp : p = fpl (thg s 0)) (h0 : V 0 = x0.toInt) (h1 : V 1 = x1.toInt) (h2 : V 2 = x2.toInt) (h3 : V 3 = x3.toInt) (h4 : V 4 = x4.toInt) : opC (gvR s) c V = gqA (gvR s) p x0 x1 x2 x3 x4 := by
  unfold opC
  have e : fpl (ctg (gvR s).2.1) = p := by
    rw [hp]
    refine fpl_cg (fun i hi => ?_)
    show ctg (thf (s.1 112) (s.1 113)) i = thg s 0 i
    rw [ctg_thf (fun i hi => r113 hI hi) hi]
    unfold thg
    rw [Nat.zero_add]
  rw [if_neg (by omega), if_pos h, h0, h1, h2, h3, h4, e, Int32.ofInt_toInt, Int32.ofInt_toInt, Int32.ofInt_toInt, Int32.ofInt_toInt, Int32.ofInt_toInt]
theorem oR_t {c : Int} {V : Nat → Int} {x : Int32} (h : c = 19) (h0 : V 0 = x.toInt) : opC (gvR s) c V = gqD (gvR s) x.toNatClampNeg := by
  unfold opC
  rw [if_neg (by omega), if_neg (by omega), if_pos h, h0]
  rfl
theorem oR_w {c : Int} {V : Nat → Int} {x y : Int32} (h13 : c ≠ 13) (h00 : c ≠ 0) (h19 : c ≠ 19) (h0 : V 0 = x.toInt) (h1 : V 1 = y.toInt) : opC (gvR s) c V = gqW (gvR s) x.toNatClampNeg (Int32.ofInt 0) y := by
  unfold opC
  rw [if_neg h13, if_neg h00, if_neg h19, h0, h1, Int32.ofInt_toInt]
  rfl
theorem upd_lo {f : Nat → Int32} {p i m : Nat} {x : Int32} (hi : i < m) (hp : m ≤ p) : upd f p x i = f i := ug_ne (by omega)
theorem geq_110 {g : GVW} {j : Nat} {v : Int32} (hj : j ≠ 0) (h : GEQ (gvR u) g) : GEQ (gvR (sI u 110 j v)) g := by
  obtain ⟨q1, q2, q3, q4, q5, q6, q7, q8⟩ := h
  refine ⟨q1, q2, q3, q4, q5, q6, ?_, q8⟩
  show ((sI u 110 j v).1 110 0).toInt = _
  rw [sI_q, ug_ne (fun e => hj e.symm)]
  exact q7
theorem geq_112 {g : GVW} {j : Nat} {v : Int32} (hj : 160 ≤ j) (h : GEQ (gvR u) g) : GEQ (gvR (sI u 112 j v)) g := by
  obtain ⟨q1, q2, q3, q4, q5, q6, q7, q8⟩ := h
  refine ⟨q1, fun i hi => ?_, q3, q4, q5, q6, q7, q8⟩
  have e := q2 i hi
  rw [← e]
  show thf ((sI u 112 j v).1 112) (u.1 113) i = thf (u.1 112) (u.1 113) i
  unfold thf
  rw [sI_q, upd_lo hi hj]
theorem geq_rp {k : Nat} (hR : Rng u) (hk : k < 4000) (hp : AP u t k 1) (hr : RP u t k 1) (h9 : t.2.2.1 109 9 = u.2.2.1 109 9) : GEQ (gvR t) (gvR u) := by
  have w := hR.1 118 k (Nat.lt_of_lt_of_le hk (Nat.le_of_ble_eq_true rfl))
  have w1 : (rI 118).1 = 0 := rfl
  have w2 : (rI 118).2 = 4 := rfl
  unfold In at w
  rw [w1, w2] at w
  have e0 : t.1 110 0 = u.1 110 0 := hp.2.1 0 (by decide)
  obtain ⟨r0, r1, r2, r3, r4⟩ := hr
  have H : (∀ i, i < 32 → t.1 111 i = u.1 111 i) ∧ (∀ i, i < 160 → t.1 112 i = u.1 112 i) ∧ (∀ i, i < 160 → t.1 113 i = u.1 113 i) ∧ (∀ i, i < 160 → t.1 114 i = u.1 114 i) ∧ (∀ i, i < 160 → t.1 115 i = u.1 115 i) ∧ (∀ i, i < 160 → t.1 116 i = u.1 116 i) ∧ (∀ i, i < 160 → t.1 117 i = u.1 117 i) := by
    have c : (u.1 118 k).toInt = 0 ∨ (u.1 118 k).toInt = 1 ∨ (u.1 118 k).toInt = 2 ∨ (u.1 118 k).toInt = 3 ∨ (u.1 118 k).toInt = 4 := by omega
    rcases c with c | c | c | c | c
    · obtain ⟨a1, a2, a3, a4, a5, a6, a7⟩ := r0 c
      rw [a1, a2, a3, a4, a5, a6, a7]
      exact ⟨fun i hi => upd_lo hi (by omega), fun _ _ => rfl, fun _ _ => rfl, fun _ _ => rfl, fun _ _ => rfl, fun _ _ => rfl, fun _ _ => rfl⟩
    · obtain ⟨a1, ⟨v, -, a2⟩, a3, a4, a5, a6, a7⟩ := r1 c
      rw [a1, a2, a3, a4, a5, a6, a7]
      exact ⟨fun _ _ => rfl, fun i hi => upd_lo hi (by omega), fun i hi => upd_lo hi (by omega), fun i hi => upd_lo hi (by omega), fun i hi => upd_lo hi (by omega), fun i hi => upd_lo hi (by omega), fun i hi => upd_lo hi (by omega)⟩
    · obtain ⟨a1, ⟨v, -, a2⟩, a3, a4, a5, a6, a7⟩ := r2 c
      rw [a1, a2, a3, a4, a5, a6, a7]
      exact ⟨fun _ _ => rfl, fun i hi => upd_lo hi (by omega), fun _ _ => rfl, fun _ _ => rfl, fun _ _ => rfl, fun _ _ => rfl, fun _ _ => rfl⟩
    · obtain ⟨a1, a2, a3, a4, a5, a6, a7⟩ := r3 c
      rw [a1, a2, a3, a4, a5, a6, a7]
      refine ⟨fun _ _ => rfl, fun _ _ => rfl, fun _ _ => rfl, fun _ _ => rfl, fun i hi => ?_, fun i hi => ?_, fun i hi => ?_⟩
      · split
        · exact upd_lo hi (by omega)
        · rfl
      · split
        · exact upd_lo hi (by omega)
        · rfl
      · split
        · exact upd_lo hi (by omega)
        · rfl
    · obtain ⟨a1, a2, a3, a4, a5, a6, a7⟩ := r4 c
      rw [a1, a2, a3, a4, a5, a6, a7]
      exact ⟨fun i hi => upd_lo hi (by omega), fun _ _ => rfl, fun _ _ => rfl, fun _ _ => rfl, fun _ _ => rfl, fun _ _ => rfl, fun _ _ => rfl⟩
  obtain ⟨b1, b2, b3, b4, b5, b6, b7⟩ := H
  refine ⟨b1, fun i hi => ?_, b4, b5, b6, b7, ?_, ?_⟩
  · show thf (t.1 112) (t.1 113) i = thf (u.1 112) (u.1 113) i
    unfold thf
    rw [b2 i hi, b3 i hi]
  · show (t.1 110 0).toInt = (u.1 110 0).toInt; rw [e0]
  · show (t.2.2.1 109 9).toInt = (u.2.2.1 109 9).toInt; rw [h9]
/-- what view answers -/
def VWQ (s t : GS) (x z : Int32) : Prop := ((t.2.2.1 109 0).toInt = 1 ∧ ¬ (-1 ≤ x.toInt ∧ x.toInt ≤ (s.2.2.1 109 9).toInt)) ∨ ((t.2.2.1 109 0).toInt = 0 ∧ (-1 ≤ x.toInt ∧ x.toInt ≤ (s.2.2.1 109 9).toInt) ∧ z = (if x.toInt < 0 then s.2.2.1 109 9 else x))
theorem fpl_R (hI : Inv s) : fpl (ctg (gvR s).2.1) = fpl (thg s 0) := by
  refine fpl_cg (fun i hi => ?_)
  show ctg (thf (s.1 112) (s.1 113)) i = thg s 0 i
  rw [ctg_thf (fun i hi => r113 hI hi) hi]
  unfold thg
  rw [Nat.zero_add]
end LDF
end
section
/-! WHAT CAN BE SEEN OF A GRAPH; HISTORY -/
/-- alike as far as can be seen: labels of nodes, values of arcs -/
def GEV (g h : GVW) : Prop := (∀ i : Nat, (i : Int) < g.2.2.2.2.2.2.1 → g.1 i = h.1 i) ∧ (∀ i, i < 160 → g.2.1 i = h.2.1 i) ∧ (∀ i, i < 160 → (g.2.1 i).toInt ≠ -1 → g.2.2.1 i = h.2.2.1 i ∧ g.2.2.2.1 i = h.2.2.2.1 i ∧ g.2.2.2.2.1 i = h.2.2.2.2.1 i ∧ g.2.2.2.2.2.1 i = h.2.2.2.2.2.1 i) ∧ g.2.2.2.2.2.2.1 = h.2.2.2.2.2.2.1 ∧ g.2.2.2.2.2.2.2 = h.2.2.2.2.2.2.2
section GEV
variable {g h k : GVW}
theorem gev_q (q : GEQ g h) (hn : g.2.2.2.2.2.2.1 ≤ 32) : GEV g h := by
  obtain ⟨q1, q2, q3, q4, q5, q6, q7, q8⟩ := q
  exact ⟨fun i hi => q1 i (by omega), q2, fun i hi _ => ⟨q3 i hi, q4 i hi, q5 i hi, q6 i hi⟩, q7, q8⟩
theorem gev_r : GEV g g := ⟨fun _ _ => rfl, fun _ _ => rfl, fun _ _ _ => ⟨rfl, rfl, rfl, rfl⟩, rfl, rfl⟩
theorem gev_s (q : GEV g h) : GEV h g := by
  obtain ⟨q1, q2, q3, q4, q5⟩ := q
  refine ⟨fun i hi => (q1 i (by omega)).symm, fun i hi => (q2 i hi).symm, fun i hi hn => ?_, q4.symm, q5.symm⟩
  obtain ⟨a, b, c, d⟩ := q3 i hi (by rw [q2 i hi]; exact hn)
  exact ⟨a.symm, b.symm, c.symm, d.symm⟩
theorem gev_t (q : GEV g h) (r : GEV h k) : GEV g k := by
  obtain ⟨q1, q2, q3, q4, q5⟩ := q
  obtain ⟨r1, r2, r3, r4, r5⟩ := r
  refine ⟨fun i hi => (q1 i hi).trans (r1 i (by omega)), fun i hi => (q2 i hi).trans (r2 i hi), fun i hi hn => ?_, q4.trans r4, q5.trans r5⟩
  obtain ⟨a, b, c, d⟩ := q3 i hi hn
  obtain ⟨a2, b2, c2, d2⟩ := r3 i hi (by rw [← q2 i hi]; exact hn)
  exact ⟨a.trans a2, b.trans b2, c.trans c2, d.trans d2⟩
theorem upd_v {f f2 : Nat → Int32} {p i : Nat} {x : Int32} (h : i ≠ p → f i = f2 i) : upd f p x i = upd f2 p x i := by
  by_cases c : i = p
  · rw [c, ug_at, ug_at]
  · rw [ug_ne c, ug_ne c]; exact h c
theorem gev_N {p : Nat} {l : Int32} (q : GEV g h) (hp : (p : Int) = g.2.2.2.2.2.2.1) : GEV (gqN g p l) (gqN h p l) := by
  obtain ⟨q1, q2, q3, q4, q5⟩ := q
  refine ⟨fun i hi => upd_v (fun c => q1 i ?_), q2, q3, by show g.2.2.2.2.2.2.1 + 1 = h.2.2.2.2.2.2.1 + 1; rw [q4], by show g.2.2.2.2.2.2.2 + 1 = h.2.2.2.2.2.2.2 + 1; rw [q5]⟩
  have hi2 : (i : Int) < g.2.2.2.2.2.2.1 + 1 := hi
  omega
theorem gev_A {p : Nat} {a b w r c : Int32} (q : GEV g h) : GEV (gqA g p a b w r c) (gqA h p a b w r c) := by
  obtain ⟨q1, q2, q3, q4, q5⟩ := q
  refine ⟨q1, fun i hi => upd_v (fun _ => q2 i hi), fun i hi hn => ?_, q4, by show g.2.2.2.2.2.2.2 + 1 = h.2.2.2.2.2.2.2 + 1; rw [q5]⟩
  have key : i ≠ p → g.2.2.1 i = h.2.2.1 i ∧ g.2.2.2.1 i = h.2.2.2.1 i ∧ g.2.2.2.2.1 i = h.2.2.2.2.1 i ∧ g.2.2.2.2.2.1 i = h.2.2.2.2.2.1 i := fun e => q3 i hi (by
    have hn2 : (upd g.2.1 p a i).toInt ≠ -1 := hn
    rw [ug_ne e] at hn2
    exact hn2)
  exact ⟨upd_v (fun e => (key e).1), upd_v (fun e => (key e).2.1), upd_v (fun e => (key e).2.2.1), upd_v (fun e => (key e).2.2.2)⟩
theorem gev_D {p : Nat} (q : GEV g h) : GEV (gqD g p) (gqD h p) := by
  obtain ⟨q1, q2, q3, q4, q5⟩ := q
  refine ⟨q1, fun i hi => upd_v (fun _ => q2 i hi), fun i hi hn => ?_, q4, by show g.2.2.2.2.2.2.2 + 1 = h.2.2.2.2.2.2.2 + 1; rw [q5]⟩
  have hn2 : (upd g.2.1 p (Int32.ofInt (-1)) i).toInt ≠ -1 := hn
  by_cases e : i = p
  · rw [e, ug_at] at hn2; exact absurd rfl hn2
  · rw [ug_ne e] at hn2
    exact q3 i hi hn2
theorem ite_v {f f2 g2 h2 : Nat → Int32} {i : Nat} {P : Prop} [Decidable P] (h1 : f i = g2 i) (h3 : f2 i = h2 i) : (if P then f else f2) i = (if P then g2 else h2) i := by
  by_cases c : P
  · rw [if_pos c, if_pos c]; exact h1
  · rw [if_neg c, if_neg c]; exact h3
theorem gev_W {p : Nat} {w v : Int32} (q : GEV g h) : GEV (gqW g p w v) (gqW h p w v) := by
  obtain ⟨q1, q2, q3, q4, q5⟩ := q
  refine ⟨q1, q2, fun i hi hn => ?_, q4, by show g.2.2.2.2.2.2.2 + 1 = h.2.2.2.2.2.2.2 + 1; rw [q5]⟩
  obtain ⟨a, b, c, d⟩ := q3 i hi hn
  exact ⟨a, ite_v (upd_v (fun _ => b)) b, ite_v (upd_v (fun _ => c)) c, ite_v (upd_v (fun _ => d)) d⟩
theorem gev_L {p : Nat} {l : Int32} (q : GEV g h) : GEV (gqL g p l) (gqL h p l) := by
  obtain ⟨q1, q2, q3, q4, q5⟩ := q
  exact ⟨fun i hi => upd_v (fun _ => q1 i hi), q2, q3, q4, by show g.2.2.2.2.2.2.2 + 1 = h.2.2.2.2.2.2.2 + 1; rw [q5]⟩
/-- the class's row k -/
theorem gev_R {r : Nat → Int32} {k : Nat} (q : GEV g h) (hp : (r (7 * k)).toInt = 0 → ((r (7 * k + 1)).toNatClampNeg : Int) = g.2.2.2.2.2.2.1) : GEV (gqR g r k) (gqR h r k) := by
  unfold gqR gqP
  split
  · exact gev_A q
  · split
    · rename_i c; exact gev_N q (hp c)
    · split
      · exact gev_D q
      · split
        · exact gev_W q
        · exact gev_L q
end GEV
/-- the reference's row k -/
def gqT (g : GVW) (s : GS) (k : Nat) : GVW := if (s.1 118 k).toInt = 0 then gqN g g.2.2.2.2.2.2.1.toNat (s.1 119 k) else if (s.1 118 k).toInt = 1 then gqA g (s.1 119 k).toNatClampNeg (s.1 120 k) (s.1 121 k) (s.1 122 k) (s.1 123 k) (s.1 124 k) else if (s.1 118 k).toInt = 2 then gqD g (s.1 119 k).toNatClampNeg else if (s.1 118 k).toInt = 3 then gqW g (s.1 119 k).toNatClampNeg (s.1 120 k) (s.1 121 k) else gqL g (s.1 119 k).toNatClampNeg (s.1 120 k)
theorem gev_T {g h : GVW} {s : GS} {k : Nat} (q : GEV g h) (h0 : 0 ≤ g.2.2.2.2.2.2.1) : GEV (gqT g s k) (gqT h s k) := by
  unfold gqT
  rw [← q.2.2.2.1]
  split
  · exact gev_N q (by omega)
  · split
    · exact gev_A q
    · split
      · exact gev_D q
      · split
        · exact gev_W q
        · exact gev_L q
/-- the shown graphs: the class's (cell 32), the reference's graph 1 -/
def gvD (s : GS) : GVW := (s.1 33, s.1 34, s.1 35, s.1 36, s.1 37, s.1 38, (s.2.2.1 32 1).toInt, (s.2.2.1 32 0).toInt)
def gv1 (s : GS) (v : Int) : GVW := (fun i => s.1 111 (32 + i), fun i => thf (s.1 112) (s.1 113) (160 + i), fun i => s.1 114 (160 + i), fun i => s.1 115 (160 + i), fun i => s.1 116 (160 + i), fun i => s.1 117 (160 + i), (s.1 110 1).toInt, v)
/-- a graph with nothing in it -/
def GE0 (g : GVW) : Prop := (∀ i, i < 160 → (g.2.1 i).toInt = -1) ∧ g.2.2.2.2.2.2.1 = 0 ∧ g.2.2.2.2.2.2.2 = 0
theorem ge0_e {g h : GVW} (a : GE0 g) (b : GE0 h) : GEV g h := by
  obtain ⟨a1, a2, a3⟩ := a
  obtain ⟨b1, b2, b3⟩ := b
  exact ⟨fun i hi => by rw [a2] at hi; omega, fun i hi => i_eq.mpr (by rw [a1 i hi, b1 i hi]), fun i hi hn => absurd (a1 i hi) hn, by rw [a2, b2], by rw [a3, b3]⟩
/-- the history: H k the graph of version k -/
def HIS (s : GS) (H : Nat → GVW) : Prop := GE0 (H 0) ∧ ∀ k : Nat, (k : Int) < (s.2.2.1 2 0).toInt → GEV (H (k + 1)) (gqR (H k) (s.1 30) k) ∧ ((s.1 30 (7 * k)).toInt = 0 → ((s.1 30 (7 * k + 1)).toNatClampNeg : Int) = (H k).2.2.2.2.2.2.1) ∧ GEV (H (k + 1)) (gqT (H k) s k) ∧ 0 ≤ (H k).2.2.2.2.2.2.1
/-- what is shown is some version of it -/
def SHW (s : GS) (H : Nat → GVW) : Prop := GEV (gvD s) (H (s.2.2.1 32 0).toInt.toNat) ∧ 0 ≤ (s.2.2.1 32 0).toInt ∧ (s.2.2.1 32 0).toInt ≤ (s.2.2.1 2 0).toInt ∧ s.2.2.1 0 2 = s.2.2.1 109 17 ∧ (0 ≤ (s.2.2.1 109 17).toInt → s.2.2.1 0 2 = s.2.2.1 32 0 ∧ GEV (gv1 s (s.2.2.1 109 17).toInt) (H (s.2.2.1 109 17).toInt.toNat))
theorem gvD_mk {t : GS} {a b c d e f : Nat → Int32} {n v : Int} (h1 : t.1 33 = a) (h2 : t.1 34 = b) (h3 : t.1 35 = c) (h4 : t.1 36 = d) (h5 : t.1 37 = e) (h6 : t.1 38 = f) (h7 : (t.2.2.1 32 1).toInt = n) (h8 : (t.2.2.1 32 0).toInt = v) : gvD t = (a, b, c, d, e, f, n, v) := by
  unfold gvD
  rw [h1, h2, h3, h4, h5, h6, h7, h8]
/-- the class's shown graph is version v of the history, if it was some -/
def SHD (s t : GS) (v : Nat) : Prop := ∀ H, HIS s H → GEV (gvD s) (H (s.2.2.1 32 0).toInt.toNat) → GEV (gvD t) (H v)
theorem shq_r {s : GS} {v : Nat} (h : v = (s.2.2.1 32 0).toInt.toNat) : SHD s s v := by
  intro H _ g
  rw [h]; exact g
theorem shq_0 {s t : GS} {v : Nat} (h : GE0 (gvD t)) (hv : v = 0) : SHD s t v := by
  intro H g _
  rw [hv]; exact ge0_e h g.1
theorem shq_s {s u t : GS} {k v : Nat} (h : SHD s u k) (hk : (u.2.2.1 32 0).toInt.toNat = k) (hv : v = k + 1) (h30 : u.1 30 = s.1 30) (hl : (k : Int) < (s.2.2.1 2 0).toInt) (hg : gvD t = gqR (gvD u) (u.1 30) (u.2.2.1 32 0).toInt.toNat) : SHD s t v := by
  intro H g q
  have a := h H g q
  obtain ⟨b1, b2, -, -⟩ := g.2 k hl
  rw [hg, hk, h30, hv]
  exact gev_t (gev_R a (fun z => by rw [b2 z]; exact a.2.2.2.1.symm)) (gev_s b1)
/-! frames -/
theorem gqT_cg {s t : GS} {g : GVW} {k : Nat} (h0 : t.1 118 = s.1 118) (h1 : t.1 119 = s.1 119) (h2 : t.1 120 = s.1 120) (h3 : t.1 121 = s.1 121) (h4 : t.1 122 = s.1 122) (h5 : t.1 123 = s.1 123) (h6 : t.1 124 = s.1 124) : gqT g t k = gqT g s k := by
  unfold gqT
  rw [h0, h1, h2, h3, h4, h5, h6]
theorem his_fr {s t : GS} {L : FM} {H : Nat → GVW} (h : HIS s H) (hF : Fr L s t) (hq : (qI L.1 30 && (qI L.1 118 && qI L.1 119 && qI L.1 120 && qI L.1 121 && qI L.1 122 && qI L.1 123 && qI L.1 124) && qF L.2.2.1 2 0) = true) : HIS t H := by
  simp only [Bool.and_eq_true] at hq
  obtain ⟨⟨q0, ⟨⟨⟨⟨⟨q1, q2⟩, q3⟩, q4⟩, q5⟩, q6⟩, q7⟩, q8⟩ := hq
  refine ⟨h.1, fun k hk => ?_⟩
  rw [hF.2.2.1 2 0 q8] at hk
  obtain ⟨a, b, c, d⟩ := h.2 k hk
  rw [hF.1 30 q0, gqT_cg (hF.1 118 q1) (hF.1 119 q2) (hF.1 120 q3) (hF.1 121 q4) (hF.1 122 q5) (hF.1 123 q6) (hF.1 124 q7)]
  exact ⟨a, b, c, d⟩
theorem gvD_fr {s t : GS} {L : FM} (hF : Fr L s t) (hq : (qI L.1 33 && qI L.1 34 && qI L.1 35 && qI L.1 36 && qI L.1 37 && qI L.1 38 && qF L.2.2.1 32 1 && qF L.2.2.1 32 0) = true) : gvD t = gvD s := by
  simp only [Bool.and_eq_true] at hq
  obtain ⟨⟨⟨⟨⟨⟨⟨q1, q2⟩, q3⟩, q4⟩, q5⟩, q6⟩, q7⟩, q8⟩ := hq
  unfold gvD
  rw [hF.1 33 q1, hF.1 34 q2, hF.1 35 q3, hF.1 36 q4, hF.1 37 q5, hF.1 38 q6, hF.2.2.1 32 1 q7, hF.2.2.1 32 0 q8]
theorem shd_fr {s u t : GS} {L : FM} {v : Nat} (h : SHD u t v) (hF : Fr L s u) (hq : (qI L.1 30 && (qI L.1 118 && qI L.1 119 && qI L.1 120 && qI L.1 121 && qI L.1 122 && qI L.1 123 && qI L.1 124) && qF L.2.2.1 2 0) = true) (hq2 : (qI L.1 33 && qI L.1 34 && qI L.1 35 && qI L.1 36 && qI L.1 37 && qI L.1 38 && qF L.2.2.1 32 1 && qF L.2.2.1 32 0) = true) : SHD s t v := by
  intro H g q
  refine h H (his_fr g hF hq) ?_
  have e : (u.2.2.1 32 0) = s.2.2.1 32 0 := by
    simp only [Bool.and_eq_true] at hq2
    exact hF.2.2.1 32 0 hq2.2
  rw [gvD_fr hF hq2, e]
  exact q
/-- view of the class -/
def VWD (s t : GS) (x : Int32) : Prop := t.2.2.1 0 2 = x ∧ (x.toInt < 0 → gvD t = gvD s) ∧ (0 ≤ x.toInt → SHD s t x.toInt.toNat ∧ t.2.2.1 32 0 = x)
/-! view of the reference -/
def G1Q (s t : GS) (v : Int) : Prop := ∀ H, HIS s H → (s.2.2.1 109 9).toInt = (s.2.2.1 2 0).toInt → GEV (gv1 t v) (H v.toNat)
theorem g1q_0 {s t : GS} {v : Int} (hn : (t.1 110 1).toInt = 0) (ht : ∀ j : Nat, j < 160 → (t.1 112 (160 + j)).toInt = 0) (hv : v = 0) : G1Q s t v := by
  intro H g _
  rw [hv]
  refine ge0_e ⟨fun i hi => ?_, hn, rfl⟩ g.1
  show (thf (t.1 112) (t.1 113) (160 + i)).toInt = -1
  unfold thf
  rw [if_pos (ht i hi)]
  rfl
theorem upd_sh {f : Nat → Int32} {c p : Nat} {x : Int32} : (fun i => upd f (c + p) x (c + i)) = upd (fun i => f (c + i)) p x := by
  funext i
  by_cases e : i = p
  · rw [e, ug_at]; exact ug_at.symm
  · rw [ug_ne e]; exact ug_ne (by omega)
theorem ite_sh {f g : Nat → Int32} {P : Prop} [Decidable P] {c : Nat} : (fun i => (if P then f else g) (c + i)) = (if P then (fun i => f (c + i)) else (fun i => g (c + i))) := by
  by_cases h : P
  · rw [if_pos h, if_pos h]
  · rw [if_neg h, if_neg h]
theorem thf_sh {th fr : Nat → Int32} {c : Nat} : (fun i => thf th fr (c + i)) = thf (fun i => th (c + i)) (fun i => fr (c + i)) := rfl
theorem gv1_rp {u t : GS} {k : Nat} {v : Int} (hR : Rng u) (hk : k < 4000) (ha : AQ u k 1) (hp : AP u t k 1) (hr : RP u t k 1) : gv1 t (v + 1) = gqT (gv1 u v) u k := by
  have w := hR.1 118 k (Nat.lt_of_lt_of_le hk (Nat.le_of_ble_eq_true rfl))
  have w1 : (rI 118).1 = 0 := rfl
  have w2 : (rI 118).2 = 4 := rfl
  unfold In at w
  rw [w1, w2] at w
  have hn := hp.1
  have hm := ha.2.1
  have ez : (cz (u.1 118) (k + 1) : Int) = (cz (u.1 118) k : Int) + (if (u.1 118 k).toInt = 0 then 1 else 0) := by
    show ((cz (u.1 118) k + (if (u.1 118 k).toInt = 0 then 1 else 0) : Nat) : Int) = _
    by_cases c : (u.1 118 k).toInt = 0
    · rw [if_pos c, if_pos c]; rfl
    · rw [if_neg c, if_neg c]; rfl
  rw [ez, ← hm] at hn
  obtain ⟨r0, r1, r2, r3, r4⟩ := hr
  unfold gqT gv1
  have c : (u.1 118 k).toInt = 0 ∨ (u.1 118 k).toInt = 1 ∨ (u.1 118 k).toInt = 2 ∨ (u.1 118 k).toInt = 3 ∨ (u.1 118 k).toInt = 4 := by omega
  rcases c with c | c | c | c | c
  · obtain ⟨a1, a2, a3, a4, a5, a6, a7⟩ := r0 c
    rw [if_pos c] at hn ⊢
    rw [a1, a2, a3, a4, a5, a6, a7, hn, Nat.mul_one, upd_sh]
    rfl
  · obtain ⟨a1, ⟨x, hx, a2⟩, a3, a4, a5, a6, a7⟩ := r1 c
    rw [if_neg (by omega), Int.add_zero] at hn
    rw [if_neg (by omega), if_pos c, a1, a2, a3, a4, a5, a6, a7, hn, Nat.mul_one, thf_sh, upd_sh, upd_sh, thf_up hx, upd_sh, upd_sh, upd_sh, upd_sh]
    rfl
  · obtain ⟨a1, ⟨x, hx, a2⟩, a3, a4, a5, a6, a7⟩ := r2 c
    rw [if_neg (by omega), Int.add_zero] at hn
    rw [if_neg (by omega), if_neg (by omega), if_pos c, a1, a2, a3, a4, a5, a6, a7, hn, Nat.mul_one, thf_sh, upd_sh, thf_dn hx]
    rfl
  · obtain ⟨a1, a2, a3, a4, a5, a6, a7⟩ := r3 c
    rw [if_neg (by omega), Int.add_zero] at hn
    rw [if_neg (by omega), if_neg (by omega), if_neg (by omega), if_pos c, a1, a2, a3, a4, a5, a6, a7, hn, Nat.mul_one, ite_sh, ite_sh, ite_sh, upd_sh, upd_sh, upd_sh]
    rfl
  · obtain ⟨a1, a2, a3, a4, a5, a6, a7⟩ := r4 c
    rw [if_neg (by omega), Int.add_zero] at hn
    rw [if_neg (by omega), if_neg (by omega), if_neg (by omega), if_neg (by omega), a1, a2, a3, a4, a5, a6, a7, hn, Nat.mul_one, upd_sh]
    rfl
theorem g1q_s {s u t : GS} {k : Nat} {v w : Int} (h : G1Q s u v) (hg : gv1 t (v + 1) = gqT (gv1 u v) u k) (hv : v.toNat = k) (h0 : 0 ≤ v) (hw : w = v + 1) (hl : v < (s.2.2.1 109 9).toInt) (n0 : 0 ≤ (u.1 110 1).toInt) (r0 : u.1 118 = s.1 118) (r1 : u.1 119 = s.1 119) (r2 : u.1 120 = s.1 120) (r3 : u.1 121 = s.1 121) (r4 : u.1 122 = s.1 122) (r5 : u.1 123 = s.1 123) (r6 : u.1 124 = s.1 124) : G1Q s t w := by
  intro H g e
  have a := h H g e
  rw [hv] at a
  obtain ⟨-, -, b, -⟩ := g.2 k (by omega)
  rw [hw, hg, show (v + 1).toNat = k + 1 from by omega]
  refine gev_t (gev_T a n0) ?_
  rw [gqT_cg r0 r1 r2 r3 r4 r5 r6]
  exact gev_s b
theorem g1q_f {s u t : GS} {x y : Int} (e : x = y) (hr : t.1 = u.1) (h : G1Q s u y) : G1Q s t x := by
  intro H g q
  have a := h H g q
  rw [e]
  unfold gv1 at a ⊢
  rw [hr]
  exact a
def VW1 (s t : GS) (x : Int32) : Prop := ((t.2.2.1 109 0).toInt = 0 → t.2.2.1 109 17 = x ∧ (0 ≤ x.toInt → G1Q s t x.toInt)) ∧ ((t.2.2.1 109 0).toInt ≠ 0 → t.1 = s.1 ∧ t.2.2.1 109 17 = s.2.2.1 109 17)
/-! a new row of the logs -/
def LGX (s t : GS) (w a b c d e f : Int32) : Prop := (t.2.2.1 109 9 = s.2.2.1 109 9 ∧ t.1 118 = s.1 118 ∧ t.1 119 = s.1 119 ∧ t.1 120 = s.1 120 ∧ t.1 121 = s.1 121 ∧ t.1 122 = s.1 122 ∧ t.1 123 = s.1 123 ∧ t.1 124 = s.1 124) ∨ (t.1 118 = upd (s.1 118) (s.2.2.1 109 9).toNatClampNeg w ∧ t.1 119 = upd (s.1 119) (s.2.2.1 109 9).toNatClampNeg a ∧ t.1 120 = upd (s.1 120) (s.2.2.1 109 9).toNatClampNeg b ∧ t.1 121 = upd (s.1 121) (s.2.2.1 109 9).toNatClampNeg c ∧ t.1 122 = upd (s.1 122) (s.2.2.1 109 9).toNatClampNeg d ∧ t.1 123 = upd (s.1 123) (s.2.2.1 109 9).toNatClampNeg e ∧ t.1 124 = upd (s.1 124) (s.2.2.1 109 9).toNatClampNeg f)
/-- older rows stay -/
def LGO (s t : GS) : Prop := ∀ k, k < (s.2.2.1 109 9).toNatClampNeg → t.1 118 k = s.1 118 k ∧ t.1 119 k = s.1 119 k ∧ t.1 120 k = s.1 120 k ∧ t.1 121 k = s.1 121 k ∧ t.1 122 k = s.1 122 k ∧ t.1 123 k = s.1 123 k ∧ t.1 124 k = s.1 124 k
theorem lgx_o {s t : GS} {w a b c d e f : Int32} (h : LGX s t w a b c d e f) : LGO s t := by
  intro k hk
  rcases h with ⟨-, h0, h1, h2, h3, h4, h5, h6⟩ | ⟨h0, h1, h2, h3, h4, h5, h6⟩
  · rw [h0, h1, h2, h3, h4, h5, h6]
    exact ⟨rfl, rfl, rfl, rfl, rfl, rfl, rfl⟩
  · rw [h0, h1, h2, h3, h4, h5, h6]
    have n : k ≠ (s.2.2.1 109 9).toNatClampNeg := by omega
    exact ⟨ug_ne n, ug_ne n, ug_ne n, ug_ne n, ug_ne n, ug_ne n, ug_ne n⟩
theorem gqT_o {s t : GS} {g : GVW} {k : Nat} (h : LGO s t) (hk : k < (s.2.2.1 109 9).toNatClampNeg) : gqT g t k = gqT g s k := by
  obtain ⟨h0, h1, h2, h3, h4, h5, h6⟩ := h k hk
  unfold gqT
  rw [h0, h1, h2, h3, h4, h5, h6]
theorem lgx_t {s t : GS} {w a b c d e f : Int32} {g : GVW} (h : LGX s t w a b c d e f) (hv : t.2.2.1 109 9 ≠ s.2.2.1 109 9) : gqT g t (s.2.2.1 109 9).toNatClampNeg = (if w.toInt = 0 then gqN g g.2.2.2.2.2.2.1.toNat a else if w.toInt = 1 then gqA g a.toNatClampNeg b c d e f else if w.toInt = 2 then gqD g a.toNatClampNeg else if w.toInt = 3 then gqW g a.toNatClampNeg b c else gqL g a.toNatClampNeg b) := by
  rcases h with h | ⟨h0, h1, h2, h3, h4, h5, h6⟩
  · exact absurd h.1 hv
  · unfold gqT
    rw [h0, h1, h2, h3, h4, h5, h6]
    simp only [ug_at]
/-- what one change of the class writes into the log -/
def LGC (s t : GS) : Prop := (∀ k : Nat, (k : Int) < 7 * (s.2.2.1 2 0).toInt → t.1 30 k = s.1 30 k) ∧ gvC t = gqR (gvC s) (t.1 30) (s.2.2.1 2 0).toInt.toNat ∧ ((t.1 30 (7 * (s.2.2.1 2 0).toInt.toNat)).toInt = 0 → ((t.1 30 (7 * (s.2.2.1 2 0).toInt.toNat + 1)).toNatClampNeg : Int) = (s.2.2.1 2 1).toInt)
theorem gqR_p {r q : Nat → Int32} {g : GVW} {k : Nat} {n : Int} (h : ∀ j : Nat, (j : Int) < 7 * n → r j = q j) (hk : (k : Int) < n) : gqR g r k = gqR g q k ∧ r (7 * k) = q (7 * k) ∧ r (7 * k + 1) = q (7 * k + 1) := by
  unfold gqR
  rw [h (7 * k) (by omega), h (7 * k + 1) (by omega), h (7 * k + 2) (by omega), h (7 * k + 3) (by omega), h (7 * k + 4) (by omega), h (7 * k + 5) (by omega), h (7 * k + 6) (by omega)]
  exact ⟨rfl, rfl, rfl⟩
/-- one change on both sides: the history goes on -/
theorem his_x {s t u : GS} {H : Nat → GVW} (h : HIS s H) (hl : GEV (H (s.2.2.1 2 0).toInt.toNat) (gvC s)) (h0 : 0 ≤ (s.2.2.1 2 0).toInt) (n0 : 0 ≤ (s.2.2.1 2 1).toInt) (hC : LGC s t) (hv : (t.2.2.1 2 0).toInt = (s.2.2.1 2 0).toInt + 1) (u30 : u.1 30 = t.1 30) (uv : u.2.2.1 2 0 = t.2.2.1 2 0) (hc9 : (s.2.2.1 109 9).toInt = (s.2.2.1 2 0).toInt) (hO : LGO s u) (hg : GEV (gvC t) (gqT (gvC s) u (s.2.2.1 109 9).toNatClampNeg)) : HIS u (fun k => if k ≤ (s.2.2.1 2 0).toInt.toNat then H k else gvC t) := by
  have ech : (s.2.2.1 109 9).toNatClampNeg = (s.2.2.1 2 0).toInt.toNat := congrArg Int.toNat hc9
  refine ⟨by show GE0 (if 0 ≤ _ then H 0 else _); rw [if_pos (Nat.zero_le _)]; exact h.1, fun k hk => ?_⟩
  rw [uv, hv] at hk
  show GEV (if k + 1 ≤ _ then H (k + 1) else gvC t) (gqR (if k ≤ _ then H k else gvC t) (u.1 30) k) ∧ (_ → _ = (if k ≤ _ then H k else gvC t).2.2.2.2.2.2.1) ∧ GEV (if k + 1 ≤ _ then H (k + 1) else gvC t) (gqT (if k ≤ _ then H k else gvC t) u k) ∧ 0 ≤ (if k ≤ _ then H k else gvC t).2.2.2.2.2.2.1
  rw [if_pos (show k ≤ (s.2.2.1 2 0).toInt.toNat by omega), u30]
  by_cases c : k + 1 ≤ (s.2.2.1 2 0).toInt.toNat
  · rw [if_pos c]
    obtain ⟨a, b, d, e⟩ := h.2 k (by omega)
    obtain ⟨p1, p2, p3⟩ := gqR_p (g := H k) (k := k) hC.1 (by omega)
    rw [p1, p2, p3, gqT_o hO (by omega)]
    exact ⟨a, b, d, e⟩
  · rw [if_neg c]
    have ek : k = (s.2.2.1 2 0).toInt.toNat := by omega
    subst ek
    have hl2 := gev_s hl
    refine ⟨?_, fun z => ?_, ?_, by rw [hl.2.2.2.1]; exact n0⟩
    · have q := gev_R (r := t.1 30) (k := (s.2.2.1 2 0).toInt.toNat) hl2 (fun z => hC.2.2 z)
      rw [← hC.2.1] at q
      exact q
    · rw [hC.2.2 z, hl.2.2.2.1]; rfl
    · have q := gev_T (s := u) (k := (s.2.2.1 109 9).toNatClampNeg) hl2 n0
      rw [ech] at hg q
      exact gev_t hg q
/-! what is shown -/
def shC (s : GS) : GVW := if (s.2.2.1 0 2).toInt = -1 then gvC s else gvD s
theorem shC_n {s : GS} (h : (s.2.2.1 0 2).toInt = -1) : shC s = gvC s := if_pos h
theorem shC_d {s : GS} (h : (s.2.2.1 0 2).toInt ≠ -1) : shC s = gvD s := if_neg h
/-- the reference's graph g, as it is seen -/
def gvG (s : GS) (g : Nat) : GVW := (fun i => s.1 111 (32 * g + i), fun i => thf (s.1 112) (s.1 113) (160 * g + i), fun i => s.1 114 (160 * g + i), fun i => s.1 115 (160 * g + i), fun i => s.1 116 (160 * g + i), fun i => s.1 117 (160 * g + i), (s.1 110 g).toInt, (s.2.2.1 109 9).toInt)
/-- g is the graph that is looked at -/
def GSE (s : GS) : Prop := (s.2.2.1 109 18).toInt = (if (s.2.2.1 109 17).toInt < 0 then 0 else 1)
theorem gse_i {s : GS} {a b : Int32} (h1 : a = s.2.2.1 109 18) (h2 : b = s.2.2.1 109 17) (h : (b.toInt < 0 ∧ a.toInt = 0) ∨ (0 ≤ b.toInt ∧ a.toInt = 1)) : GSE s := by
  unfold GSE
  rw [← h1, ← h2]
  rcases h with ⟨x, y⟩ | ⟨x, y⟩
  · rw [if_pos x]; exact y
  · rw [if_neg (by omega)]; exact y
theorem gse_fr {s t : GS} {L : FM} (h : GSE s) (hF : Fr L s t) (hq : (qF L.2.2.1 109 18 && qF L.2.2.1 109 17) = true) : GSE t := by
  rw [Bool.and_eq_true] at hq
  unfold GSE
  rw [hF.2.2.1 109 18 hq.1, hF.2.2.1 109 17 hq.2]
  exact h
/-! load of the reference: its log -/
theorem geq_T {g h : GVW} {s : GS} {k : Nat} (q : GEQ g h) : GEQ (gqT g s k) (gqT h s k) := by
  unfold gqT
  rw [← q.2.2.2.2.2.2.1]
  split
  · exact geq_N q
  · split
    · exact geq_A q
    · split
      · exact geq_D q
      · split
        · exact geq_W q
        · exact geq_L q
def L28 (s t : GS) : Prop := (t.1 118 = s.1 118 ∧ t.1 119 = s.1 119 ∧ t.1 120 = s.1 120 ∧ t.1 121 = s.1 121 ∧ t.1 122 = s.1 122 ∧ t.1 123 = s.1 123 ∧ t.1 124 = s.1 124) ∧ t.2.2.1 109 9 = s.2.2.1 109 9 ∧ (GSE s → GSE t)
theorem l28_fr {s u t : GS} {L : FM} (h : L28 s u) (hF : Fr L u t) (hq : (qI L.1 118 && qI L.1 119 && qI L.1 120 && qI L.1 121 && qI L.1 122 && qI L.1 123 && qI L.1 124 && qF L.2.2.1 109 9 && (qF L.2.2.1 109 18 && qF L.2.2.1 109 17)) = true) : L28 s t := by
  simp only [Bool.and_eq_true] at hq
  obtain ⟨⟨⟨⟨⟨⟨⟨⟨q0, q1⟩, q2⟩, q3⟩, q4⟩, q5⟩, q6⟩, q7⟩, q8, q9⟩ := hq
  obtain ⟨⟨a0, a1, a2, a3, a4, a5, a6⟩, a7, a8⟩ := h
  refine ⟨⟨(hF.1 118 q0).trans a0, (hF.1 119 q1).trans a1, (hF.1 120 q2).trans a2, (hF.1 121 q3).trans a3, (hF.1 122 q4).trans a4, (hF.1 123 q5).trans a5, (hF.1 124 q6).trans a6⟩, (hF.2.2.1 109 9 q7).trans a7, fun g => ?_⟩
  have b := a8 g
  unfold GSE at b ⊢
  rw [hF.2.2.1 109 18 q8, hF.2.2.1 109 17 q9]
  exact b
theorem l28_r {s : GS} : L28 s s := ⟨⟨rfl, rfl, rfl, rfl, rfl, rfl, rfl⟩, rfl, id⟩
theorem lgo_tr {s u t : GS} (h : LGO s u) (g : LGO u t) (hc : (s.2.2.1 109 9).toNatClampNeg ≤ (u.2.2.1 109 9).toNatClampNeg) : LGO s t := by
  intro k hk
  obtain ⟨a0, a1, a2, a3, a4, a5, a6⟩ := h k hk
  obtain ⟨b0, b1, b2, b3, b4, b5, b6⟩ := g k (by omega)
  exact ⟨b0.trans a0, b1.trans a1, b2.trans a2, b3.trans a3, b4.trans a4, b5.trans a5, b6.trans a6⟩
def LDL (s t : GS) (k : Nat) : Prop := LGO s t ∧ (t.2.2.1 109 9).toInt = (s.2.2.1 109 9).toInt + (k : Int) ∧ (∀ j, j < k → GEQ (gqT (opF (gvR s) (t.1 127) (t.1 128) j) t ((s.2.2.1 109 9).toNatClampNeg + j)) (opF (gvR s) (t.1 127) (t.1 128) (j + 1))) ∧ (GSE s → GSE t)
theorem ldl_0 {s t : GS} (h : L28 s t) : LDL s t 0 := by
  obtain ⟨⟨a0, a1, a2, a3, a4, a5, a6⟩, a7, a8⟩ := h
  refine ⟨fun k _ => ?_, by rw [a7]; exact (Int.add_zero _).symm, fun j hj => absurd hj (Nat.not_lt_zero _), a8⟩
  rw [a0, a1, a2, a3, a4, a5, a6]
  exact ⟨rfl, rfl, rfl, rfl, rfl, rfl, rfl⟩
theorem ldl_s {s u t : GS} {k : Nat} {w a b c d e f : Int32} (h : LDL s u k) (h3 : LD3 s u k) (h4 : LD3 s t (k + 1)) (h0 : 0 ≤ (s.2.2.1 109 9).toInt) (hv : (t.2.2.1 109 9).toInt = (u.2.2.1 109 9).toInt + 1) (hx : LGX u t w a b c d e f) (hT : gvR t = (if w.toInt = 0 then gqN (gvR u) (gvR u).2.2.2.2.2.2.1.toNat a else if w.toInt = 1 then gqA (gvR u) a.toNatClampNeg b c d e f else if w.toInt = 2 then gqD (gvR u) a.toNatClampNeg else if w.toInt = 3 then gqW (gvR u) a.toNatClampNeg b c else gqL (gvR u) a.toNatClampNeg b)) (r7 : t.1 127 = u.1 127) (r8 : t.1 128 = u.1 128) (hg : GSE t) : LDL s t (k + 1) := by
  obtain ⟨b1, b2, b3, -⟩ := h
  have hne : t.2.2.1 109 9 ≠ u.2.2.1 109 9 := fun z => by rw [z] at hv; omega
  have hO := lgx_o hx
  have ec : (u.2.2.1 109 9).toNatClampNeg = (s.2.2.1 109 9).toNatClampNeg + k := by
    show (u.2.2.1 109 9).toInt.toNat = (s.2.2.1 109 9).toInt.toNat + k
    omega
  refine ⟨lgo_tr b1 hO (by omega), by rw [hv, b2]; omega, fun j hj => ?_, fun _ => hg⟩
  rw [r7, r8]
  by_cases q : j = k
  · rw [q, ← ec]
    have e := lgx_t (g := gvR u) hx hne
    rw [← hT] at e
    have x1 : GEQ (gqT (gvR u) t (u.2.2.1 109 9).toNatClampNeg) (gqT (opF (gvR s) (u.1 127) (u.1 128) k) t (u.2.2.1 109 9).toNatClampNeg) := geq_T h3.2.2.2.1
    rw [e] at x1
    have x2 := h4.2.2.2.1
    rw [r7, r8] at x2
    exact geq_t (geq_s x1) x2
  · rw [gqT_o hO (by omega)]
    exact b3 j (by omega)
/-- each of the commands is one of the text's -/
def LDB (s t : GS) : Prop := ∀ j, j ≤ (t.2.2.1 109 32).toNatClampNeg → ∃ a, LRN (s.1 125) (s.2.2.1 109 22).toInt.toNat (gvR s) j a (opF (gvR s) (t.1 127) (t.1 128) j)
theorem ldb_cg {s u t : GS} (h : LDB s u) (h7 : t.1 127 = u.1 127) (h8 : t.1 128 = u.1 128) (hm : t.2.2.1 109 32 = u.2.2.1 109 32) : LDB s t := by
  unfold LDB
  rw [h7, h8, hm]
  exact h
theorem ldb_0 {s t : GS} (hm : t.2.2.1 109 32 = Int32.ofInt 0) : LDB s t := by
  intro j hj
  have e : (t.2.2.1 109 32).toNatClampNeg = 0 := by rw [hm]; rfl
  have e2 : j = 0 := by omega
  subst e2
  exact ⟨0, rfl, rfl⟩
theorem ldb_cmd {s u t : GS} {a : Nat} (h : LDB s u) (hU : LD1 s u) (h0 : (u.2.2.1 109 23).toInt = 0) (ht : (u.2.2.1 109 28).toInt ≠ 0) (hR : RCM u t) (hIu : 0 ≤ (u.2.2.1 109 32).toInt) (u125 : u.1 125 = s.1 125) (u22 : u.2.2.1 109 22 = s.2.2.1 109 22) (z : (t.2.2.1 109 23).toInt = 0) (hD : LDG s t a) : LDB s t := by
  obtain ⟨-, g2, -⟩ := hU
  obtain ⟨a0, -, k, v, hk, hv⟩ := g2 h0
  have ek := ntv_z hk hv
  unfold RCM at hR
  rw [u125, u22] at hR
  obtain ⟨m1, c, V, m2, m3, m4, m5, m6, m7⟩ := (hR a0 k v hk hv (by omega)).1 z
  intro j hj
  by_cases q : j = (t.2.2.1 109 32).toNatClampNeg
  · rw [q]; exact ⟨a, hD.1⟩
  · have em : (t.2.2.1 109 32).toNatClampNeg = (u.2.2.1 109 32).toNatClampNeg + 1 := by
      show (t.2.2.1 109 32).toInt.toNat = (u.2.2.1 109 32).toInt.toNat + 1
      omega
    have eo : opF (gvR s) (t.1 127) (t.1 128) j = opF (gvR s) (u.1 127) (u.1 128) j := opF_cg j (fun i hi => m5 i (by omega)) (fun i hi => m6 i (by omega))
    rw [eo]
    exact h j (by omega)
/-- what load of the reference does to its log -/
def LDO (s t : GS) (z : Int32) : Prop := (z.toInt ≠ -4 → LDL s t z.toNatClampNeg ∧ LDB s t ∧ (t.2.2.1 109 32).toNatClampNeg = z.toNatClampNeg) ∧ (z.toInt = -4 → L28 s t)
/-! the class's log: one change, a text of changes -/
section LGC
variable {s t u : GS} {x y z w v : Int32} {p : Nat}
theorem lgc_n (hp : (∀ k : Nat, (k : Int) < 7 * (s.2.2.1 2 0).toInt → t.1 30 k = s.1 30 k)) (hg : gvC t = gqN (gvC s) (s.2.2.1 2 1).toNatClampNeg x) (hr : t.1 30 (7 * (s.2.2.1 2 0).toInt.toNat) = (Int32.ofInt 0) ∧ t.1 30 (7 * (s.2.2.1 2 0).toInt.toNat + 1) = (s.2.2.1 2 1) ∧ t.1 30 (7 * (s.2.2.1 2 0).toInt.toNat + 2) = x ∧ t.1 30 (7 * (s.2.2.1 2 0).toInt.toNat + 3) = y) (n0 : 0 ≤ (s.2.2.1 2 1).toInt) : LGC s t := by
  refine ⟨hp, ?_, fun _ => ?_⟩
  · rw [gqR_0 (by rw [hr.1]; rfl), hr.2.1, hr.2.2.1]; exact hg
  · rw [hr.2.1]
    show (((s.2.2.1 2 1).toInt.toNat : Nat) : Int) = _
    omega
theorem lgc_a {a b c d e : Int32} (hp : (∀ k : Nat, (k : Int) < 7 * (s.2.2.1 2 0).toInt → t.1 30 k = s.1 30 k)) (hg : gvC t = gqA (gvC s) x.toNatClampNeg a b c d e) (hr : t.1 30 (7 * (s.2.2.1 2 0).toInt.toNat) = (Int32.ofInt 1) ∧ t.1 30 (7 * (s.2.2.1 2 0).toInt.toNat + 1) = x ∧ t.1 30 (7 * (s.2.2.1 2 0).toInt.toNat + 2) = a ∧ t.1 30 (7 * (s.2.2.1 2 0).toInt.toNat + 3) = b ∧ t.1 30 (7 * (s.2.2.1 2 0).toInt.toNat + 4) = c ∧ t.1 30 (7 * (s.2.2.1 2 0).toInt.toNat + 5) = d ∧ t.1 30 (7 * (s.2.2.1 2 0).toInt.toNat + 6) = e) : LGC s t := by
  refine ⟨hp, ?_, fun q => by rw [hr.1] at q; exact absurd q (by decide)⟩
  rw [gqR_1 (by rw [hr.1]; rfl), hr.2.1, hr.2.2.1, hr.2.2.2.1, hr.2.2.2.2.1, hr.2.2.2.2.2.1, hr.2.2.2.2.2.2]; exact hg
theorem lgc_d (hp : (∀ k : Nat, (k : Int) < 7 * (s.2.2.1 2 0).toInt → t.1 30 k = s.1 30 k)) (hg : gvC t = gqD (gvC s) x.toNatClampNeg) (hr : t.1 30 (7 * (s.2.2.1 2 0).toInt.toNat) = (Int32.ofInt 2) ∧ t.1 30 (7 * (s.2.2.1 2 0).toInt.toNat + 1) = x ∧ t.1 30 (7 * (s.2.2.1 2 0).toInt.toNat + 2) = y ∧ t.1 30 (7 * (s.2.2.1 2 0).toInt.toNat + 3) = z) : LGC s t := by
  refine ⟨hp, ?_, fun q => by rw [hr.1] at q; exact absurd q (by decide)⟩
  rw [gqR_2 (by rw [hr.1]; rfl), hr.2.1]; exact hg
theorem lgc_w (hp : (∀ k : Nat, (k : Int) < 7 * (s.2.2.1 2 0).toInt → t.1 30 k = s.1 30 k)) (hg : gvC t = gqW (gvC s) x.toNatClampNeg w v) (hr : t.1 30 (7 * (s.2.2.1 2 0).toInt.toNat) = (Int32.ofInt 3) ∧ t.1 30 (7 * (s.2.2.1 2 0).toInt.toNat + 1) = x ∧ t.1 30 (7 * (s.2.2.1 2 0).toInt.toNat + 2) = w ∧ t.1 30 (7 * (s.2.2.1 2 0).toInt.toNat + 3) = v) : LGC s t := by
  refine ⟨hp, ?_, fun q => by rw [hr.1] at q; exact absurd q (by decide)⟩
  rw [gqR_3 (by rw [hr.1]; rfl), hr.2.1, hr.2.2.1, hr.2.2.2]; exact hg
theorem lgc_l (hp : (∀ k : Nat, (k : Int) < 7 * (s.2.2.1 2 0).toInt → t.1 30 k = s.1 30 k)) (hg : gvC t = gqL (gvC s) x.toNatClampNeg w) (hr : t.1 30 (7 * (s.2.2.1 2 0).toInt.toNat) = (Int32.ofInt 4) ∧ t.1 30 (7 * (s.2.2.1 2 0).toInt.toNat + 1) = x ∧ t.1 30 (7 * (s.2.2.1 2 0).toInt.toNat + 2) = w ∧ t.1 30 (7 * (s.2.2.1 2 0).toInt.toNat + 3) = v) : LGC s t := by
  refine ⟨hp, ?_, fun q => by rw [hr.1] at q; exact absurd q (by decide)⟩
  rw [gqR_4 (by rw [hr.1]; decide) (by rw [hr.1]; decide) (by rw [hr.1]; decide) (by rw [hr.1]; decide), hr.2.1, hr.2.2.1]; exact hg
theorem lgc_fr {L : FM} (h : LGC u t) (hF : Fr L s u) (hq : (qI L.1 30 && (qI L.1 3 && qI L.1 4 && qI L.1 5 && qI L.1 6 && qI L.1 7 && qI L.1 8 && qF L.2.2.1 2 1 && qF L.2.2.1 2 0)) = true) : LGC s t := by
  rw [Bool.and_eq_true] at hq
  have e := gvC_cg hF hq.2
  have e0 : u.2.2.1 2 0 = s.2.2.1 2 0 := by have q := hq.2; simp only [Bool.and_eq_true] at q; exact hF.2.2.1 2 0 q.2
  have e1 : u.2.2.1 2 1 = s.2.2.1 2 1 := by have q := hq.2; simp only [Bool.and_eq_true] at q; exact hF.2.2.1 2 1 q.1.2
  unfold LGC at h ⊢
  rw [e, e0, e1, hF.1 30 hq.1] at h
  exact h
theorem gqR_v {g : GVW} {r : Nat → Int32} {k : Nat} : (gqR g r k).2.2.2.2.2.2.2 = g.2.2.2.2.2.2.2 + 1 := by
  unfold gqR gqP
  split
  · rfl
  · split
    · rfl
    · split
      · rfl
      · split
        · rfl
        · rfl
theorem lgc_v (h : LGC s t) : (t.2.2.1 2 0).toInt = (s.2.2.1 2 0).toInt + 1 := by
  have e : (gvC t).2.2.2.2.2.2.2 = _ := congrArg (fun g : GVW => g.2.2.2.2.2.2.2) h.2.1
  rw [gqR_v] at e
  exact e
end LGC
def LGS (s t : GS) (k : Nat) : Prop := ∃ G : Nat → GVW, (∀ j, j ≤ k → ∃ a, LRN (s.1 47) (s.2.2.1 46 1).toInt.toNat (gvC s) j a (G j)) ∧ G k = gvC t ∧ (∀ k : Nat, (k : Int) < 7 * (s.2.2.1 2 0).toInt → t.1 30 k = s.1 30 k) ∧ (t.2.2.1 2 0).toInt = (s.2.2.1 2 0).toInt + (k : Int) ∧ ∀ j, j < k → gqR (G j) (t.1 30) ((s.2.2.1 2 0).toInt.toNat + j) = G (j + 1) ∧ ((t.1 30 (7 * ((s.2.2.1 2 0).toInt.toNat + j))).toInt = 0 → ((t.1 30 (7 * ((s.2.2.1 2 0).toInt.toNat + j) + 1)).toNatClampNeg : Int) = (G j).2.2.2.2.2.2.1)
theorem lgs_0 {s t : GS} (hg : gvC t = gvC s) (h30 : t.1 30 = s.1 30) : LGS s t 0 := by
  refine ⟨fun _ => gvC s, fun j hj => ⟨0, ?_⟩, hg.symm, fun k _ => by rw [h30], ?_, fun j hj => absurd hj (Nat.not_lt_zero _)⟩
  · have e : j = 0 := by omega
    rw [e]; exact ⟨rfl, rfl⟩
  · have e : (gvC t).2.2.2.2.2.2.2 = (gvC s).2.2.2.2.2.2.2 := by rw [hg]
    have e2 : (t.2.2.1 2 0).toInt = (s.2.2.1 2 0).toInt := e
    rw [e2]; exact (Int.add_zero _).symm
theorem lgs_s {s u t : GS} {k m : Nat} (h : LGS s u k) (hm : m = k + 1) (hC : LGC u t) (h0 : 0 ≤ (s.2.2.1 2 0).toInt) (hl : ∃ a, LRN (s.1 47) (s.2.2.1 46 1).toInt.toNat (gvC s) m a (gvC t)) : LGS s t m := by
  subst hm
  obtain ⟨G, a1, a2, a3, a4, a5⟩ := h
  have hv := lgc_v hC
  have ek : (u.2.2.1 2 0).toInt.toNat = (s.2.2.1 2 0).toInt.toNat + k := by omega
  refine ⟨fun j => if j ≤ k then G j else gvC t, fun j hj => ?_, by show (if k + 1 ≤ k then _ else _) = _; rw [if_neg (by omega)], fun j hj => ?_, by rw [hv, a4]; omega, fun j hj => ?_⟩
  · show ∃ a, LRN (s.1 47) (s.2.2.1 46 1).toInt.toNat (gvC s) j a (if j ≤ k then G j else gvC t)
    by_cases c : j ≤ k
    · rw [if_pos c]; exact a1 j c
    · rw [if_neg c, show j = k + 1 by omega]; exact hl
  · rw [hC.1 j (by omega)]; exact a3 j hj
  · show gqR (if j ≤ k then G j else gvC t) (t.1 30) ((s.2.2.1 2 0).toInt.toNat + j) = (if j + 1 ≤ k then G (j + 1) else gvC t) ∧ (_ → _ = (if j ≤ k then G j else gvC t).2.2.2.2.2.2.1)
    rw [if_pos (show j ≤ k by omega)]
    by_cases c : j + 1 ≤ k
    · rw [if_pos c]
      obtain ⟨p1, p2, p3⟩ := gqR_p (g := G j) (k := (s.2.2.1 2 0).toInt.toNat + j) hC.1 (by omega)
      rw [p1, p2, p3]
      exact a5 j (by omega)
    · have ej : j = k := by omega
      rw [if_neg c, ej, a2, ← ek]
      exact ⟨hC.2.1.symm, fun z => hC.2.2 z⟩
/-- what load of the class does to its log -/
def LCO (s t : GS) (z : Int32) : Prop := (z.toInt ≠ -4 → LGS s t z.toInt.toNat) ∧ (z.toInt = -4 → (∀ k : Nat, (k : Int) < 7 * (s.2.2.1 2 0).toInt → t.1 30 k = s.1 30 k))
end
section
/-! THE REFERENCE'S GRAPH 1 STAYS AS IT IS -/
def G12 (s t : GS) : Prop := t.1 110 1 = s.1 110 1 ∧ ∀ i, 160 ≤ i → i < 320 → t.1 112 i = s.1 112 i
def G1S (s t : GS) : Prop := t.1 110 1 = s.1 110 1 ∧ (∀ i, 32 ≤ i → t.1 111 i = s.1 111 i) ∧ ∀ i, 160 ≤ i → i < 320 → t.1 112 i = s.1 112 i ∧ t.1 113 i = s.1 113 i ∧ t.1 114 i = s.1 114 i ∧ t.1 115 i = s.1 115 i ∧ t.1 116 i = s.1 116 i ∧ t.1 117 i = s.1 117 i
section G1S
variable {s u t v : GS} {L : FM}
theorem g12_e (h : t = s) : G12 s t := by
  rw [h]
  exact ⟨rfl, fun _ _ _ => rfl⟩
theorem g12_cg (h0 : t.1 110 = s.1 110) (h2 : t.1 112 = s.1 112) : G12 s t := ⟨by rw [h0], fun i _ _ => by rw [h2]⟩
theorem g12_tr (h : G12 s u) (g : G12 u t) : G12 s t := ⟨g.1.trans h.1, fun i h1 h2 => (g.2 i h1 h2).trans (h.2 i h1 h2)⟩
theorem g12_t {i : Nat} {x : Int32} (hi : 320 ≤ i) : G12 s (sI s 112 i x) := by
  refine ⟨by rw [sI_p rfl], fun j h1 h2 => ?_⟩
  rw [sI_q]
  exact ug_ne (by omega)
theorem g12_n {x : Int32} : G12 s (sI s 110 2 x) := by
  refine ⟨?_, fun j h1 h2 => by rw [sI_p rfl]⟩
  rw [sI_q]
  exact ug_ne (by decide)
theorem g1_tr (h : G1S s u) (g : G1S u t) : G1S s t := by
  refine ⟨g.1.trans h.1, fun i hi => (g.2.1 i hi).trans (h.2.1 i hi), fun i h1 h2 => ?_⟩
  obtain ⟨a1, a2, a3, a4, a5, a6⟩ := h.2.2 i h1 h2
  obtain ⟨b1, b2, b3, b4, b5, b6⟩ := g.2.2 i h1 h2
  exact ⟨b1.trans a1, b2.trans a2, b3.trans a3, b4.trans a4, b5.trans a5, b6.trans a6⟩
theorem g1_fr (hF : Fr L s t) (hq : (qI L.1 110 && qI L.1 111 && qI L.1 112 && qI L.1 113 && qI L.1 114 && qI L.1 115 && qI L.1 116 && qI L.1 117) = true) : G1S s t := by
  simp only [Bool.and_eq_true] at hq
  obtain ⟨⟨⟨⟨⟨⟨⟨q0, q1⟩, q2⟩, q3⟩, q4⟩, q5⟩, q6⟩, q7⟩ := hq
  refine ⟨by rw [hF.1 110 q0], fun i _ => by rw [hF.1 111 q1], fun i _ _ => ?_⟩
  rw [hF.1 112 q2, hF.1 113 q3, hF.1 114 q4, hF.1 115 q5, hF.1 116 q6, hF.1 117 q7]
  exact ⟨rfl, rfl, rfl, rfl, rfl, rfl⟩
theorem g1_2 (hF : Fr L s t) (hq : (qI L.1 111 && qI L.1 113 && qI L.1 114 && qI L.1 115 && qI L.1 116 && qI L.1 117) = true) (h : G12 s t) : G1S s t := by
  simp only [Bool.and_eq_true] at hq
  obtain ⟨⟨⟨⟨⟨q1, q3⟩, q4⟩, q5⟩, q6⟩, q7⟩ := hq
  refine ⟨h.1, fun i _ => by rw [hF.1 111 q1], fun i h1 h2 => ?_⟩
  rw [hF.1 113 q3, hF.1 114 q4, hF.1 115 q5, hF.1 116 q6, hF.1 117 q7]
  exact ⟨h.2 i h1 h2, rfl, rfl, rfl, rfl, rfl⟩
theorem g1_mk {k : Nat} {w a : Int32} {f8 f9 : Nat → Int32} (hq : AQ u k 0) (ha : AP u v k 0) (hr : RP u v k 0) (h8 : u.1 118 = upd f8 k w) (hw : In w 0 4) (h9 : u.1 119 = upd f9 k a) (hx : In a 0 159) (r0 : u.1 110 = s.1 110) (r1 : u.1 111 = s.1 111) (r2 : u.1 112 = s.1 112) (r3 : u.1 113 = s.1 113) (r4 : u.1 114 = s.1 114) (r5 : u.1 115 = s.1 115) (r6 : u.1 116 = s.1 116) (r7 : u.1 117 = s.1 117) (ht : t.1 = v.1) : G1S s t := by
  have e8 : u.1 118 k = w := by rw [h8]; exact ug_at
  have e9 : u.1 119 k = a := by rw [h9]; exact ug_at
  have ea : a.toNatClampNeg = a.toInt.toNat := rfl
  have en : (u.1 110 0).toNatClampNeg = (u.1 110 0).toInt.toNat := rfl
  obtain ⟨q1, q2, q3, q4⟩ := hq
  have q5 := q1.2.2.2.2
  unfold RP at hr
  rw [e8, e9] at hr
  rw [e8] at q3
  rw [e8, e9] at q5
  unfold In at hw hx
  obtain ⟨p0, p1, p2, p3, p4⟩ := hr
  have H : (∀ i, 32 ≤ i → v.1 111 i = u.1 111 i) ∧ (∀ i, 160 ≤ i → v.1 115 i = u.1 115 i) ∧ (∀ i, 160 ≤ i → v.1 116 i = u.1 116 i) ∧ (∀ i, 160 ≤ i → v.1 117 i = u.1 117 i) := by
    have c : w.toInt = 0 ∨ w.toInt = 1 ∨ w.toInt = 2 ∨ w.toInt = 3 ∨ w.toInt = 4 := by clear p0 p1 p2 p3 p4 q3 q5; omega
    rcases c with c | c | c | c | c
    · obtain ⟨a1, a2, a3, a4, a5, a6, a7⟩ := p0 c
      clear p0 p1 p2 p3 p4
      have b := q3 c
      rw [a1, a5, a6, a7]
      exact ⟨fun i hi => ug_ne (by omega), fun _ _ => rfl, fun _ _ => rfl, fun _ _ => rfl⟩
    · obtain ⟨a1, ⟨x, -, a2⟩, a3, a4, a5, a6, a7⟩ := p1 c
      clear p0 p1 p2 p3 p4
      rw [a1, a5, a6, a7]
      exact ⟨fun _ _ => rfl, fun i hi => ug_ne (by omega), fun i hi => ug_ne (by omega), fun i hi => ug_ne (by omega)⟩
    · obtain ⟨a1, a2, a3, a4, a5, a6, a7⟩ := p2 c
      clear p0 p1 p2 p3 p4
      rw [a1, a5, a6, a7]
      exact ⟨fun _ _ => rfl, fun _ _ => rfl, fun _ _ => rfl, fun _ _ => rfl⟩
    · obtain ⟨a1, a2, a3, a4, a5, a6, a7⟩ := p3 c
      clear p0 p1 p2 p3 p4
      rw [a1, a5, a6, a7]
      refine ⟨fun _ _ => rfl, fun i hi => ?_, fun i hi => ?_, fun i hi => ?_⟩
      · split
        · exact ug_ne (by omega)
        · rfl
      · split
        · exact ug_ne (by omega)
        · rfl
      · split
        · exact ug_ne (by omega)
        · rfl
    · obtain ⟨a1, a2, a3, a4, a5, a6, a7⟩ := p4 c
      clear p0 p1 p2 p3 p4
      have b := (q5 c).1
      rw [a1, a5, a6, a7]
      exact ⟨fun i hi => ug_ne (by omega), fun _ _ => rfl, fun _ _ => rfl, fun _ _ => rfl⟩
  refine ⟨?_, fun i hi => ?_, fun i h1 h2 => ?_⟩
  · rw [ht, ha.2.1 1 (by decide), r0]
  · rw [ht, H.1 i hi, r1]
  · obtain ⟨b2, b3, b4⟩ := ha.2.2.2 i (Or.inr (by omega))
    rw [ht, b2, b3, b4, H.2.1 i h1, H.2.2.1 i h1, H.2.2.2 i h1, r2, r3, r4, r5, r6, r7]
    exact ⟨rfl, rfl, rfl, rfl, rfl, rfl⟩
/-- so what is shown stays -/
theorem g1_v {x : Int} (h : G1S s t) (hn : In (s.1 110 1) 0 32) : GEV (gv1 t x) (gv1 s x) := by
  obtain ⟨h0, h1, h2⟩ := h
  refine ⟨fun i hi => h1 (32 + i) (by omega), fun i hi => ?_, fun i hi hx => ?_, by show (t.1 110 1).toInt = (s.1 110 1).toInt; rw [h0], rfl⟩
  · obtain ⟨a1, a2, -⟩ := h2 (160 + i) (by omega) (by omega)
    show thf (t.1 112) (t.1 113) (160 + i) = thf (s.1 112) (s.1 113) (160 + i)
    unfold thf
    rw [a1, a2]
  · obtain ⟨a1, a2, a3, a4, a5, a6⟩ := h2 (160 + i) (by omega) (by omega)
    exact ⟨a3, a4, a5, a6⟩
end G1S
/-! TOPS OF THE SHOWN GRAPH -/
def TQD (s : GS) : Prop := ∀ p : Nat, p < 160 → (s.1 34 p).toInt ≠ -1 → (p : Int) < (s.2.2.1 32 3).toInt
theorem tqd_up {s t : GS} {p : Nat} {a : Int32} (h : TQD s) (hr : t.1 34 = upd (s.1 34) p a) (h1 : (s.2.2.1 32 3).toInt ≤ (t.2.2.1 32 3).toInt) (h2 : (p : Int) < (t.2.2.1 32 3).toInt) : TQD t := by
  intro q hq hn
  by_cases c : q = p
  · rw [c]; exact h2
  · rw [hr, ug_ne c] at hn
    have := h q hq hn
    omega
theorem tqd_dn {s t : GS} {p : Nat} (h : TQD s) (hr : t.1 34 = upd (s.1 34) p (Int32.ofInt (-1))) (h1 : (t.2.2.1 32 3) = (s.2.2.1 32 3)) : TQD t := by
  intro q hq hn
  rw [h1]
  by_cases c : q = p
  · rw [c, hr, ug_at] at hn; exact absurd rfl hn
  · rw [hr, ug_ne c] at hn
    exact h q hq hn
theorem tqd_lw {s t : GS} {j : Nat} {z : Int32} (h : TQD s) (hr : t.1 34 = s.1 34) (hz : z = s.1 34 j) (hz1 : z.toInt = -1) (h1 : (t.2.2.1 32 3).toInt = (j : Int)) (h2 : (s.2.2.1 32 3).toInt = (j : Int) + 1) : TQD t := by
  intro q hq hn
  rw [hr] at hn
  have h3 := h q hq hn
  have h4 : q ≠ j := fun c => by rw [c, ← hz] at hn; exact hn hz1
  omega
theorem tqd_cg {s t : GS} (h : TQD s) (hr : t.1 34 = s.1 34) (h1 : (t.2.2.1 32 3) = (s.2.2.1 32 3)) : TQD t := by
  intro q hq hn
  rw [hr] at hn
  rw [h1]
  exact h q hq hn
theorem tqd_fr {s t : GS} {L : FM} (hT : TQD s) (h : Fr L s t) (hq : (qI L.1 34 && qF L.2.2.1 32 3) = true) : TQD t := by
  rw [Bool.and_eq_true] at hq
  exact tqd_cg hT (h.1 34 hq.1) (h.2.2.1 32 3 hq.2)
/-- alike as far as can be seen, whatever the version -/
def GEW (g h : GVW) : Prop := (∀ i : Nat, (i : Int) < g.2.2.2.2.2.2.1 → g.1 i = h.1 i) ∧ (∀ i, i < 160 → g.2.1 i = h.2.1 i) ∧ (∀ i, i < 160 → (g.2.1 i).toInt ≠ -1 → g.2.2.1 i = h.2.2.1 i ∧ g.2.2.2.1 i = h.2.2.2.1 i ∧ g.2.2.2.2.1 i = h.2.2.2.2.1 i ∧ g.2.2.2.2.2.1 i = h.2.2.2.2.2.1 i) ∧ g.2.2.2.2.2.2.1 = h.2.2.2.2.2.2.1
theorem gew_v {g h : GVW} (q : GEV g h) : GEW g h := ⟨q.1, q.2.1, q.2.2.1, q.2.2.2.1⟩
/-! WHAT IS TOLD -/
def TLV (g : GVW) (p : Nat) (w : Int) : Int := if (g.2.1 p).toInt = -1 then 9000000000000000 else if w = 0 then (g.2.1 p).toInt else if w = 1 then (g.2.2.1 p).toInt else if w = 2 then (g.2.2.2.1 p).toInt else if w = 3 then (g.2.2.2.2.1 p).toInt else (g.2.2.2.2.2.1 p).toInt
section TLV
variable {g : GVW} {p : Nat} {w : Int} {f v : Int32} {z : Int64}
end TLV
theorem tg_no {s : GS} {g p : Nat} {x : Int32} (hx : x = s.1 112 (160 * g + p)) (h0 : x.toInt = 0) : ((gvG s g).2.1 p).toInt = -1 := by
  show (thf (s.1 112) (s.1 113) (160 * g + p)).toInt = -1
  unfold thf
  rw [← hx, if_pos h0]
  rfl
theorem tg_ne {s : GS} {g p : Nat} {x : Int32} (hI : Inv s) (hx : x = s.1 112 (160 * g + p)) (h0 : x.toInt ≠ 0) (hl : 160 * g + p < 480) : ((gvG s g).2.1 p).toInt ≠ -1 := by
  show (thf (s.1 112) (s.1 113) (160 * g + p)).toInt ≠ -1
  unfold thf
  rw [← hx, if_neg h0]
  have w := hI.1.1 113 (160 * g + p) (Nat.lt_of_lt_of_le hl (Nat.le_of_ble_eq_true rfl))
  have w1 : (rI 113).1 = 0 := rfl
  unfold In at w
  rw [w1] at w
  omega
theorem tg_is {s : GS} {g p : Nat} {x f : Int32} (hx : x = s.1 112 (160 * g + p)) (h0 : x.toInt ≠ 0) (hf : f = s.1 113 (160 * g + p)) : f = (gvG s g).2.1 p := by
  show f = thf (s.1 112) (s.1 113) (160 * g + p)
  unfold thf
  rw [← hx, if_neg h0]
  exact hf
end
section
/-! THE LOOP OF COMMAND -/
theorem in_ne3 {z : Int32} {lo hi : Int} (h : In z lo hi) (hh : decide (hi < 3) = true) : z.toInt ≠ 3 := by
  have a := h.2
  have b := of_decide_eq_true hh
  omega
theorem in_at {z : Int32} {c : Int} (h : In z c c) : z.toInt = c := Int.le_antisymm h.2 h.1
theorem tkn_l1 {T : Nat → Int32} {n a p e : Nat} {k v : Int} (h : TKN T n a p e k v) (hk : k = 1) : 0 ≤ v ∧ v ≤ 25 := by
  rcases h.2 with ⟨h1, h2, h3⟩ | ⟨h1, h2, h3, h4, h5⟩ | ⟨q, h1, h2, h3⟩ | ⟨h1, h2, h3, h4, h5⟩ | ⟨h1, h2, h3, h4, h5, h6⟩
  · omega
  · unfold tkL at h2
    omega
  · rcases h3 with ⟨a1, a2, a3⟩ | ⟨a1, a2⟩
    · omega
    · omega
  · omega
  · omega
theorem sg_v {y z : Int32} {v : Int} (e : z = y - Int32.ofInt 97) (q : y.toInt = v + 97) (b : 0 ≤ v ∧ v ≤ 25) : z.toInt = v := by
  rw [t_s97 e (by omega) (by omega)]
  omega
section HQ
variable {s sc u : GS} {y2 y3 y4 z3 m2 z76 w27 val : Int32} {p ix : Nat} {k v : Int}
theorem hq5_s (hf0 : (sc.2.2.1 109 23).toInt = 0) (hm : y4.toInt ≠ 0) (h5 : HQ5 s sc (y2.toInt - 97) y3 y4 w27.toInt.toNat) (hC : C4 y2.toInt) (h4 : sc.2.2.1 109 32 = s.2.2.1 109 32) (ht : TKN (s.1 125) (s.2.2.1 109 22).toInt.toNat w27.toInt.toNat p (u.2.2.1 109 27).toInt.toNat k v) (hw : SHK (y2.toInt - 97) y3.toInt z76.toInt) (hk : k = z76.toInt) (h3 : z76.toInt ≠ 3) (h0 : 0 ≤ y3.toInt) (hz : z3.toInt = y3.toInt + 1) (hix : ix = 5 * (sc.2.2.1 109 32).toNatClampNeg + y3.toNatClampNeg) (hval : val.toInt = v) (h128 : u.1 128 = sc.1 128) : HQ5 s (sI u 128 ix val) (y2.toInt - 97) z3 m2 (u.2.2.1 109 27).toInt.toNat := by
  intro _ _
  obtain ⟨a1, a2⟩ := h5 hf0 hm
  have hc9 := c4_i hC
  have hw := hw hc9 a1
  rw [h4] at hix
  have e3 : y3.toNatClampNeg = y3.toInt.toNat := rfl
  have hle : y3.toInt + 1 ≤ (cmA (y2.toInt - 97) : Int) := by
    by_cases q : y3.toInt < (cmA (y2.toInt - 97) : Int)
    · omega
    · exfalso
      have h8 := (cmK_r (c := y2.toInt - 97) (i := y3.toInt.toNat + 1)).2.2.2 (by omega)
      omega
  refine ⟨by omega, fun a ha => ?_⟩
  have ez : z3.toInt.toNat = y3.toInt.toNat + 1 := by omega
  rw [ez]
  refine cs_more (a2 a ha) ht (by rw [hk, hw]) (fun j hj => ?_) ?_
  · show ((sI u 128 ix val).1 128 (5 * (s.2.2.1 109 32).toNatClampNeg + j)).toInt = (sc.1 128 (5 * (s.2.2.1 109 32).toNatClampNeg + j)).toInt
    rw [sI_q, ug_ne (by omega), h128]
  · show ((sI u 128 ix val).1 128 (5 * (s.2.2.1 109 32).toNatClampNeg + y3.toInt.toNat)).toInt = v
    rw [sI_q, hix, e3, ug_at]
    exact hval
theorem hq6_e (hf0 : (sc.2.2.1 109 23).toInt = 0) (hm : y4.toInt ≠ 0) (h5 : HQ5 s sc (y2.toInt - 97) y3 y4 w27.toInt.toNat) (hC : C4 y2.toInt) (ht : TKN (s.1 125) (s.2.2.1 109 22).toInt.toNat w27.toInt.toNat p (u.2.2.1 109 27).toInt.toNat k v) (hw : SHK (y2.toInt - 97) y3.toInt z76.toInt) (hk : k = z76.toInt) (h3 : z76.toInt = 3) (h0 : 0 ≤ y3.toInt) (h128 : u.1 128 = sc.1 128) : HQ6 s u (y2.toInt - 97) m2 (u.2.2.1 109 27).toInt.toNat := by
  intro _ _ a ha
  obtain ⟨a1, a2⟩ := h5 hf0 hm
  have hw := hw (c4_i hC) a1
  have hi : y3.toInt.toNat = cmA (y2.toInt - 97) := by
    by_cases q : y3.toInt.toNat + 1 ≤ cmA (y2.toInt - 97)
    · exfalso
      have h8 := (cmK_r (c := y2.toInt - 97) (i := y3.toInt.toNat + 1)).2.2.1 q
      omega
    · omega
  exact cse_cg (cs_end hi (a2 a ha) ht (by omega)) (fun j hj => by
    show (u.1 128 (5 * (s.2.2.1 109 32).toNatClampNeg + j)).toInt = (sc.1 128 (5 * (s.2.2.1 109 32).toNatClampNeg + j)).toInt
    rw [h128])
theorem hq7_t (hI : Inv u) (hf0 : (sc.2.2.1 109 23).toInt = 0) (hm : y4.toInt ≠ 0) (h5 : HQ5 s sc (y2.toInt - 97) y3 y4 w27.toInt.toNat) (hC : C4 y2.toInt) (h0 : 0 ≤ y3.toInt) (ht : TKN (s.1 125) (s.2.2.1 109 22).toInt.toNat w27.toInt.toNat (u.2.2.1 109 29).toInt.toNat (u.2.2.1 109 27).toInt.toNat k v) (hn : NTK sc u k v) : HQ7 s u (y2.toInt - 97) := by
  intro hf
  obtain ⟨a1, a2⟩ := h5 hf0 hm
  obtain ⟨b1, b2, b3⟩ := (ntk_f hn hf0).1 hf
  have h9 := inv_F hI (z := u.2.2.1 109 29) 0 1000 rfl rfl
  unfold In at h9
  refine ⟨by rw [b2]; omega, fun a ha => ?_⟩
  rw [b1, b2]
  refine cs_bad (c4_i hC) ha (by omega) (a2 a ha) ht ?_
  have h8 := (cmK_r (c := y2.toInt - 97) (i := y3.toInt.toNat + 1)).2.1
  omega
end HQ
end
section
/-! THE K-TH ARC OF A NODE -/
def ARE (g : GVW) (w : Int) (p : Nat) : Int := if w = 0 then gF g.2.1 p else gG g.2.1 g.2.2.1 p
theorem are_no {g : GVW} {w : Int} {p : Nat} (h : (g.2.1 p).toInt = -1) : ARE g w p = -1 := by
  unfold ARE gF gG
  split
  · split
    · exact h
    · rfl
  · rw [if_neg (fun z => z.2 h)]
theorem are_f {g : GVW} {w : Int} {p : Nat} (hp : p < 160) (hw : w = 0) : ARE g w p = (g.2.1 p).toInt := by
  unfold ARE gF
  rw [if_pos hw, if_pos hp]
theorem are_t {g : GVW} {w : Int} {p : Nat} (hp : p < 160) (h : (g.2.1 p).toInt ≠ -1) (hw : w ≠ 0) : ARE g w p = (g.2.2.1 p).toInt := by
  unfold ARE gG
  rw [if_neg hw, if_pos ⟨hp, h⟩]
theorem are_e {g h : GVW} (q : GEW g h) {w : Int} {j : Nat} (hj : j < 160) : ARE g w j = ARE h w j := by
  have e := q.2.1 j hj
  by_cases c : (g.2.1 j).toInt = -1
  · rw [are_no c, are_no (by rw [← e]; exact c)]
  · by_cases z : w = 0
    · rw [are_f hj z, are_f hj z, e]
    · rw [are_t hj c z, are_t hj (by rw [← e]; exact c) z, (q.2.2.1 j hj c).1]
theorem cn_top {F : Nat → Int} {u : Int} {T : Nat} (hu : 0 ≤ u) (hQ : ∀ p, T ≤ p → p < 160 → F p = -1) : ∀ k : Nat, T + k ≤ 160 → cn F u (T + k) = cn F u T
  | 0, _ => rfl
  | k + 1, h => by
    have e : F (T + k) ≠ u := by rw [hQ _ (by omega) (by omega)]; omega
    show cn F u (T + k + 1) = _
    rw [cn_miss e]
    exact cn_top hu hQ k (by omega)
theorem gf_top {fr : Nat → Int32} {T : Nat} (hq : ∀ p, p < 160 → (fr p).toInt ≠ -1 → (p : Int) < (T : Int)) : ∀ p, T ≤ p → p < 160 → gF fr p = -1 := by
  intro p h1 h2
  unfold gF
  rw [if_pos h2]
  exact Classical.byContradiction fun hn => by have := hq p h2 hn; omega
/-- the rows of the graph in cell 2, when it is tied -/
theorem tg_2 {t : GS} (hI : Inv t) (hv : (t.2.2.1 2 4).toInt = (t.2.2.1 2 0).toInt) : TG (t.1 4) (t.1 5) (t.1 9) (t.1 10) (t.1 11) (t.1 12) (t.1 13) (t.1 14) (t.1 15) (t.2.2.1 2 3).toInt.toNat := by
  have h := hI.2.1
  unfold KG at h
  rw [mI_at rfl, mI_at rfl, mI_at rfl, mI_at rfl, mI_at rfl, mI_at rfl, mI_at rfl, mI_at rfl, mI_at rfl, mF_at rfl, mF_at rfl, mF_at rfl] at h
  exact h.2 hv
/-- the rows of the graph in cell 32, when it is tied -/
theorem tg_32 {t : GS} (hI : Inv t) (hv : (t.2.2.1 32 4).toInt = (t.2.2.1 32 0).toInt) : TG (t.1 34) (t.1 35) (t.1 39) (t.1 40) (t.1 41) (t.1 42) (t.1 43) (t.1 44) (t.1 45) (t.2.2.1 32 3).toInt.toNat := by
  have h := hI.2.2.1
  unfold KG at h
  rw [mI_at rfl, mI_at rfl, mI_at rfl, mI_at rfl, mI_at rfl, mI_at rfl, mI_at rfl, mI_at rfl, mI_at rfl, mF_at rfl, mF_at rfl, mF_at rfl] at h
  exact h.2 hv
end
section
/-! WHICH NODE REACHES WHICH -/
def FEQ (r : Nat → Int32) (al : Int32) (u w : Nat) : Prop := u < 32 ∧ bt (r u) w = true ∧ bt al w = true
/-! arcs as they are seen -/
def AJG (g : GVW) (u w : Nat) : Prop := ∃ p : Nat, p < 160 ∧ ARE g 0 p = (u : Int) ∧ ARE g 1 p = (w : Int)
def PE (g : GVW) (w : Int) (a b : Nat) : Prop := AJG g a b ∨ (w ≠ 0 ∧ AJG g b a)
theorem fe_all {fr tt ne ou nn : Nat → Int32} {T : Nat} {g : GVW} (hM : MSK fr tt ne ou nn T) (hT : T ≤ 160) (hg0 : ∀ p, ARE g 0 p = gF fr p) (hg1 : ∀ p, ARE g 1 p = gG fr tt p) (hq : ∀ p, T ≤ p → p < 160 → gF fr p = -1) (hr : ∀ p, p < 160 → (fr p).toInt ≤ 31 ∧ (tt p).toInt ≤ 31) : (∀ u w, FEQ ou (Int32.ofInt (-1)) u w ↔ AJG g u w) ∧ (∀ u w, FEQ nn (Int32.ofInt (-1)) u w ↔ AJG g w u) ∧ ∀ u w, FEQ ne (Int32.ofInt (-1)) u w ↔ (u ≠ w ∧ PE g 1 u w) := by
  have aj : ∀ u w, AJ fr tt T u w ↔ AJG g u w := fun u w => by
    constructor
    · rintro ⟨p, a, b, c⟩
      exact ⟨p, by omega, by rw [hg0]; exact b, by rw [hg1]; exact c⟩
    · rintro ⟨p, a, b, c⟩
      rw [hg0] at b
      rw [hg1] at c
      refine ⟨p, Classical.byContradiction fun z => ?_, b, c⟩
      have := hq p (by omega) a
      omega
  have lt : ∀ u w, AJG g u w → u < 32 ∧ w < 32 := fun u w => by
    rintro ⟨p, a, b, c⟩
    rw [hg0] at b
    rw [hg1] at c
    obtain ⟨r1, r2⟩ := hr p a
    unfold gF at b
    rw [if_pos a] at b
    unfold gG at c
    split at c
    · omega
    · omega
  refine ⟨fun u w => ⟨fun h => ?_, fun h => ?_⟩, fun u w => ⟨fun h => ?_, fun h => ?_⟩, fun u w => ⟨fun h => ?_, fun h => ?_⟩⟩
  · exact (aj u w).mp ((hM u w h.1 (bt_lt h.2.1)).1.mp h.2.1)
  · obtain ⟨a, b⟩ := lt u w h
    exact ⟨a, (hM u w a b).1.mpr ((aj u w).mpr h), bt_m1 b⟩
  · exact (aj w u).mp ((hM w u (bt_lt h.2.1) h.1).2.1.mp h.2.1)
  · obtain ⟨a, b⟩ := lt w u h
    exact ⟨b, (hM w u a b).2.1.mpr ((aj w u).mpr h), bt_m1 a⟩
  · obtain ⟨a, b⟩ := (hM u w h.1 (bt_lt h.2.1)).2.2.mp h.2.1
    exact ⟨a, b.elim (fun q => Or.inl ((aj u w).mp q)) (fun q => Or.inr ⟨by decide, (aj w u).mp q⟩)⟩
  · have ab : u < 32 ∧ w < 32 := by
      rcases h.2 with q | q
      · exact lt u w q
      · exact ⟨(lt w u q.2).2, (lt w u q.2).1⟩
    refine ⟨ab.1, (hM u w ab.1 ab.2).2.2.mpr ⟨h.1, ?_⟩, bt_m1 ab.2⟩
    exact h.2.elim (fun q => Or.inl ((aj u w).mpr q)) (fun q => Or.inr ((aj w u).mpr q.2))
/-! parts -/
theorem fe_2 {s t : GS} {L : FM} (hI : Inv t) (hF : Fr L s t) (q4 : qI L.1 4 = true) (q5 : qI L.1 5 = true) (q3 : qF L.2.2.1 2 3 = true) (hv : (t.2.2.1 2 4).toInt = (t.2.2.1 2 0).toInt) (hq : TQ s) : (∀ u w, FEQ (t.1 10) (Int32.ofInt (-1)) u w ↔ AJG (gvC s) u w) ∧ (∀ u w, FEQ (t.1 11) (Int32.ofInt (-1)) u w ↔ AJG (gvC s) w u) ∧ ∀ u w, FEQ (t.1 9) (Int32.ofInt (-1)) u w ↔ (u ≠ w ∧ PE (gvC s) 1 u w) := by
  have h := (tg_2 hI hv).2.2.2
  rw [hF.1 4 q4, hF.1 5 q5, hF.2.2.1 2 3 q3] at h
  have i3 : In (s.2.2.1 2 3) 0 160 := by rw [← hF.2.2.1 2 3 q3]; exact inv_F hI 0 160 rfl rfl
  have i30 := i3.1
  have i31 := i3.2
  refine fe_all h (by omega) (fun p => if_pos rfl) (fun p => if_neg (by decide)) (gf_top (fun p hp hn => by have := hq p hp hn; omega)) (fun p hp => ?_)
  have a := hI.1.1 4 p (Nat.lt_of_lt_of_le hp (Nat.le_of_ble_eq_true rfl))
  have c := hI.1.1 5 p (Nat.lt_of_lt_of_le hp (Nat.le_of_ble_eq_true rfl))
  rw [hF.1 4 q4] at a
  rw [hF.1 5 q5] at c
  exact ⟨a.2, c.2⟩
theorem fe_32 {s t : GS} {L : FM} (hI : Inv t) (hF : Fr L s t) (q4 : qI L.1 34 = true) (q5 : qI L.1 35 = true) (q3 : qF L.2.2.1 32 3 = true) (hv : (t.2.2.1 32 4).toInt = (t.2.2.1 32 0).toInt) (hq : TQD s) : (∀ u w, FEQ (t.1 40) (Int32.ofInt (-1)) u w ↔ AJG (gvD s) u w) ∧ (∀ u w, FEQ (t.1 41) (Int32.ofInt (-1)) u w ↔ AJG (gvD s) w u) ∧ ∀ u w, FEQ (t.1 39) (Int32.ofInt (-1)) u w ↔ (u ≠ w ∧ PE (gvD s) 1 u w) := by
  have h := (tg_32 hI hv).2.2.2
  rw [hF.1 34 q4, hF.1 35 q5, hF.2.2.1 32 3 q3] at h
  have i3 : In (s.2.2.1 32 3) 0 160 := by rw [← hF.2.2.1 32 3 q3]; exact inv_F hI 0 160 rfl rfl
  have i30 := i3.1
  have i31 := i3.2
  refine fe_all h (by omega) (fun p => if_pos rfl) (fun p => if_neg (by decide)) (gf_top (fun p hp hn => by have := hq p hp hn; omega)) (fun p hp => ?_)
  have a := hI.1.1 34 p (Nat.lt_of_lt_of_le hp (Nat.le_of_ble_eq_true rfl))
  have c := hI.1.1 35 p (Nat.lt_of_lt_of_le hp (Nat.le_of_ble_eq_true rfl))
  rw [hF.1 34 q4] at a
  rw [hF.1 35 q5] at c
  exact ⟨a.2, c.2⟩
/-! close (reference) -/
def CLA (s : GS) (x n : Int) (a : Nat) : Prop := (s.1 112 (bs s + a)).toInt ≠ 0 ∧ (a : Int) ≠ x ∧ (s.1 113 (bs s + a)).toInt ≠ n ∧ (s.1 114 (bs s + a)).toInt ≠ n
section CLO
variable {s : GS} {w x n : Int} {f f0 : Nat → Int32} {k m : Nat}
end CLO
abbrev gvZ (s : GS) : GVW := gvG s (s.2.2.1 109 18).toNatClampNeg
end
section
/-! HOW MANY PARTS -/
section CNP
variable {P Q : Nat → Prop}
end CNP
/-- the least of its part -/
def LST (E : Nat → Nat → Prop) (u : Nat) : Prop := ∀ j, j < u → ¬ wlq E u j
section LST
variable {E F : Nat → Nat → Prop}
end LST
section K327
variable {Z : AmZ} {d : Nat} {ws : va_W} {X : AmX}
end K327
/-! weakParts of the reference -/
/-! cuts -/
/-! bridges -/
end
section
/-! BRIDGES -/
theorem clx {x : Int32} (h : 0 ≤ x.toInt) : ((x.toNatClampNeg : Nat) : Int) = x.toInt := by
  show ((x.toInt.toNat : Nat) : Int) = _
  omega
/-- no arc below k beside p that joins a and b -/
def BRN (g : GVW) (p : Nat) (a b : Int) (k : Nat) : Prop := ∀ q : Nat, q < k → q < 160 → q ≠ p → ¬ ((ARE g 0 q = a ∧ ARE g 1 q = b) ∨ (ARE g 0 q = b ∧ ARE g 1 q = a))
section BRN
variable {g : GVW} {p k : Nat} {a b : Int}
end BRN
theorem bt_f0 {z : Int32} {b : Bool} (h : z.toInt = if b then 1 else 0) (c : z.toInt = 0) : b = false := by
  cases b
  · rfl
  · rw [c] at h
    exact absurd h (by decide)
theorem bt_t1 {z : Int32} {b : Bool} (h : z.toInt = if b then 1 else 0) (c : z.toInt ≠ 0) : b = true := by
  cases b
  · exact absurd h c
  · rfl
/-! the reference -/
theorem cla_m {s : GS} (hI : Inv s) : ∀ a, a < 160 → ∀ u v : Nat, (ARE (gvZ s) 0 a = (u : Int) ∧ ARE (gvZ s) 1 a = (v : Int)) ↔ (CLA s (-1) (-1) a ∧ (s.1 113 (bs s + a)).toNatClampNeg = u ∧ (s.1 114 (bs s + a)).toNatClampNeg = v) := by
  have k2 : (s.2.2.1 109 19).toInt = 160 * (s.2.2.1 109 18).toInt := hI.2.2.2.2.2.2.2.2.2.1
  have i18 := inv_F hI (z := s.2.2.1 109 18) 0 1 rfl rfl
  have eb : bs s = 160 * (s.2.2.1 109 18).toNatClampNeg := by
    show (s.2.2.1 109 19).toInt.toNat = 160 * (s.2.2.1 109 18).toInt.toNat
    have := i18.1
    omega
  have l18 : (s.2.2.1 109 18).toNatClampNeg ≤ 1 := by
    show (s.2.2.1 109 18).toInt.toNat ≤ 1
    have := i18.2
    omega
  have rg : ∀ a, a < 160 → In (s.1 113 (bs s + a)) 0 31 ∧ In (s.1 114 (bs s + a)) 0 31 := fun a ha => by
    have hl : bs s + a < 480 := by rw [eb]; omega
    exact ⟨hI.1.1 113 _ (Nat.lt_of_lt_of_le hl (Nat.le_of_ble_eq_true rfl)), hI.1.1 114 _ (Nat.lt_of_lt_of_le hl (Nat.le_of_ble_eq_true rfl))⟩
  intro a ha u v
  obtain ⟨⟨r1, r2⟩, r3, r4⟩ := rg a ha
  have c1 : (s.1 113 (bs s + a)).toNatClampNeg = (s.1 113 (bs s + a)).toInt.toNat := rfl
  have c2 : (s.1 114 (bs s + a)).toNatClampNeg = (s.1 114 (bs s + a)).toInt.toNat := rfl
  by_cases c : (s.1 112 (bs s + a)).toInt = 0
  · rw [are_no (tg_no (g := (s.2.2.1 109 18).toNatClampNeg) (x := s.1 112 (bs s + a)) (by rw [eb]) c)]
    constructor
    · intro q
      have := q.1
      omega
    · intro q
      exact absurd c q.1.1
  · have hl : 160 * (s.2.2.1 109 18).toNatClampNeg + a < 480 := by omega
    have ne := tg_ne hI (x := s.1 112 (bs s + a)) (by rw [eb]) c hl
    have f0 : ARE (gvZ s) 0 a = (s.1 113 (bs s + a)).toInt := by
      rw [are_f ha rfl, ← tg_is (x := s.1 112 (bs s + a)) (f := s.1 113 (bs s + a)) (by rw [eb]) c (by rw [eb])]
    have f1 : ARE (gvZ s) 1 a = (s.1 114 (bs s + a)).toInt := by
      rw [are_t ha ne (by decide), eb]
      rfl
    rw [f0, f1]
    constructor
    · rintro ⟨q1, q2⟩
      exact ⟨⟨c, by omega, by omega, by omega⟩, by omega, by omega⟩
    · rintro ⟨-, q1, q2⟩
      exact ⟨by omega, by omega⟩
theorem arz_n {s : GS} (hI : Inv s) {p : Nat} {x : Int32} (e : x = s.1 112 (bs s + p)) (h : x.toInt = 0) : ARE (gvZ s) 0 p = -1 := by
  have k2 : (s.2.2.1 109 19).toInt = 160 * (s.2.2.1 109 18).toInt := hI.2.2.2.2.2.2.2.2.2.1
  have i18 := inv_F hI (z := s.2.2.1 109 18) 0 1 rfl rfl
  have eb : bs s = 160 * (s.2.2.1 109 18).toNatClampNeg := by
    show (s.2.2.1 109 19).toInt.toNat = 160 * (s.2.2.1 109 18).toInt.toNat
    have := i18.1
    omega
  exact are_no (tg_no (g := (s.2.2.1 109 18).toNatClampNeg) (x := x) (by rw [e, eb]) h)
theorem arz_y {s : GS} (hI : Inv s) {p : Nat} (hp : p < 160) {x : Int32} (e : x = s.1 112 (bs s + p)) (h : x.toInt ≠ 0) : ARE (gvZ s) 0 p = ((s.1 113 (bs s + p)).toNatClampNeg : Int) ∧ ARE (gvZ s) 1 p = ((s.1 114 (bs s + p)).toNatClampNeg : Int) := by
  rw [e] at h
  have r := arc_n hI hp h
  have r1 := r.1.1.1
  have r2 := r.2.1.1.1
  exact (cla_m hI p hp _ _).mpr ⟨⟨h, by omega, by omega, by omega⟩, rfl, rfl⟩
end
section
/-! THE ROWS OF A TIED GRAPH -/
/-- ends of arcs are nodes -/
def NDQ (g : GVW) : Prop := ∀ p : Nat, p < 160 → (g.2.1 p).toInt ≠ -1 → (0 ≤ (g.2.1 p).toInt ∧ (g.2.1 p).toInt < g.2.2.2.2.2.2.1) ∧ (0 ≤ (g.2.2.1 p).toInt ∧ (g.2.2.1 p).toInt < g.2.2.2.2.2.2.1)
abbrev NDC (s : GS) : Prop := NDQ (shC s)
theorem ndq_z {s : GS} (hI : Inv s) : NDQ (gvZ s) := by
  intro p hp ne
  have th : (s.1 112 (bs s + p)).toInt ≠ 0 := fun z => ne (by
    have m := arz_n hI (p := p) rfl z
    rw [are_f hp rfl] at m
    exact m)
  have r := arc_n hI hp th
  have n1 := (nat_jn r.1.1 r.1.2).2
  have n2 := (nat_jn r.2.1.1 r.2.1.2).2
  obtain ⟨a1, a2⟩ := arz_y hI hp rfl th
  rw [are_f hp rfl] at a1
  rw [are_t hp ne (by decide)] at a2
  have en : (gvZ s).2.2.2.2.2.2.1 = (s.2.2.1 109 20).toInt := by
    have k : s.2.2.1 109 20 = s.1 110 (s.2.2.1 109 18).toNatClampNeg := hI.2.2.2.2.2.2.2.2.2.2
    rw [k]
    rfl
  rw [en]
  exact ⟨⟨by omega, by omega⟩, by omega, by omega⟩
theorem ndq_e {g h : GVW} (q : GEW g h) (k : NDQ h) : NDQ g := by
  intro p hp ne
  have e1 := q.2.1 p hp
  have e2 := (q.2.2.1 p hp ne).1
  have en := q.2.2.2
  rw [e1] at ne
  have r := k p hp ne
  rw [e1, e2, en]
  exact r
theorem cn_inj {F : Nat → Int} {v : Int} {p q : Nat} (hp : F p = v) (hq : F q = v) (e : cn F v p = cn F v q) : p = q := by
  rcases Nat.lt_trichotomy p q with c | c | c
  · have m := cn_mono F v (show p + 1 ≤ q by omega)
    rw [cn_hit hp] at m
    omega
  · exact c
  · have m := cn_mono F v (show q + 1 ≤ p by omega)
    rw [cn_hit hq] at m
    omega
theorem row_k {F : Nat → Int} {T : Nat} {oa os : Nat → Int32} (h160 : T ≤ 160) (hQ : ∀ p, T ≤ p → p < 160 → F p = -1) (hA : ∀ v, v ≤ 32 → (oa v).toInt = pr F T v) (hO : RWS F T os 0) {x a0 a1 : Int32} (i1 : In x 0 31) (h0 : a0 = oa x.toNatClampNeg) (h1 : a1 = oa (x.toInt + 1).toNat) : (∀ j z : Int32, a0.toInt ≤ j.toInt → j.toInt < a1.toInt → z = os j.toNatClampNeg → ∃ p : Nat, p < 160 ∧ F p = x.toInt ∧ cn F x.toInt p = j.toInt - a0.toInt ∧ z.toInt = (p : Int)) ∧ (∀ p, p < 160 → F p = x.toInt → cn F x.toInt p < a1.toInt - a0.toInt) ∧ a0.toInt ≤ a1.toInt ∧ a1.toInt - a0.toInt = cn F x.toInt 160 := by
  obtain ⟨v, hv⟩ : ∃ v : Nat, x.toInt = (v : Int) := ⟨x.toInt.toNat, by have := i1.1; omega⟩
  have e0 : x.toNatClampNeg = v := by show x.toInt.toNat = v; omega
  have e1 : (x.toInt + 1).toNat = v + 1 := by omega
  have hv31 : v ≤ 31 := by have := i1.2; omega
  rw [e0] at h0
  rw [e1] at h1
  have q0 := hA v (by omega)
  have q1 := hA (v + 1) (by omega)
  rw [← h0] at q0
  rw [← h1] at q1
  have e2 : pr F T (v + 1) = pr F T v + cn F (v : Int) T := rfl
  have ct := cn_top (u := (v : Int)) (Int.natCast_nonneg v) hQ (160 - T) (by omega)
  rw [show T + (160 - T) = 160 by omega] at ct
  have c0 := cn_0 F (v : Int) T
  rw [hv]
  refine ⟨fun j z g1 g2 hz => ?_, fun p hp hf => ?_, by omega, by omega⟩
  · obtain ⟨p, a, b, c⟩ := cn_ex (r := j.toInt - a0.toInt) (by omega) (n := T) (F := F) (u := (v : Int)) (by omega)
    have o := hO p v (Nat.zero_le _) a (by omega) b
    have ej : a0.toInt + (j.toInt - a0.toInt) = j.toInt := by omega
    rw [c, ← q0, ej] at o
    have hz2 : z = os j.toInt.toNat := hz
    rw [← hz2] at o
    exact ⟨p, by omega, b, c, o⟩
  · have m := cn_mono F (v : Int) (show p + 1 ≤ 160 by omega)
    rw [cn_hit hf] at m
    omega
theorem row_2_0 {s t : GS} {L : FM} (hI : Inv t) (hF : Fr L s t) (q4 : qI L.1 4 = true) (q5 : qI L.1 5 = true) (q3 : qF L.2.2.1 2 3 = true) (hv : (t.2.2.1 2 4).toInt = (t.2.2.1 2 0).toInt) (hq : TQ s) {x a0 a1 : Int32} (i1 : In x 0 31) (h0 : a0 = t.1 12 x.toNatClampNeg) (h1 : a1 = t.1 12 (x.toInt + 1).toNat) : (∀ j z : Int32, a0.toInt ≤ j.toInt → j.toInt < a1.toInt → z = t.1 13 j.toNatClampNeg → ∃ p : Nat, p < 160 ∧ ARE (gvC s) 0 p = x.toInt ∧ cn (ARE (gvC s) 0) x.toInt p = j.toInt - a0.toInt ∧ z.toInt = (p : Int)) ∧ (∀ p, p < 160 → ARE (gvC s) 0 p = x.toInt → cn (ARE (gvC s) 0) x.toInt p < a1.toInt - a0.toInt) ∧ a0.toInt ≤ a1.toInt ∧ a1.toInt - a0.toInt = cn (ARE (gvC s) 0) x.toInt 160 := by
  have h := tg_2 hI hv
  rw [hF.1 4 q4, hF.1 5 q5, hF.2.2.1 2 3 q3] at h
  have i3 : In (s.2.2.1 2 3) 0 160 := by rw [← hF.2.2.1 2 3 q3]; exact inv_F hI 0 160 rfl rfl
  have i30 := i3.1
  have i31 := i3.2
  have eE : ARE (gvC s) 0 = gF (s.1 4) := by
    funext p
    exact if_pos rfl
  rw [eE]
  exact row_k (by omega) (gf_top (fun p hp hn => by have := hq p hp hn; omega)) (fun v hv => (h.1 v hv).1) h.2.1 i1 h0 h1
theorem row_32_0 {s t : GS} {L : FM} (hI : Inv t) (hF : Fr L s t) (q4 : qI L.1 34 = true) (q5 : qI L.1 35 = true) (q3 : qF L.2.2.1 32 3 = true) (hv : (t.2.2.1 32 4).toInt = (t.2.2.1 32 0).toInt) (hq : TQD s) {x a0 a1 : Int32} (i1 : In x 0 31) (h0 : a0 = t.1 42 x.toNatClampNeg) (h1 : a1 = t.1 42 (x.toInt + 1).toNat) : (∀ j z : Int32, a0.toInt ≤ j.toInt → j.toInt < a1.toInt → z = t.1 43 j.toNatClampNeg → ∃ p : Nat, p < 160 ∧ ARE (gvD s) 0 p = x.toInt ∧ cn (ARE (gvD s) 0) x.toInt p = j.toInt - a0.toInt ∧ z.toInt = (p : Int)) ∧ (∀ p, p < 160 → ARE (gvD s) 0 p = x.toInt → cn (ARE (gvD s) 0) x.toInt p < a1.toInt - a0.toInt) ∧ a0.toInt ≤ a1.toInt ∧ a1.toInt - a0.toInt = cn (ARE (gvD s) 0) x.toInt 160 := by
  have h := tg_32 hI hv
  rw [hF.1 34 q4, hF.1 35 q5, hF.2.2.1 32 3 q3] at h
  have i3 : In (s.2.2.1 32 3) 0 160 := by rw [← hF.2.2.1 32 3 q3]; exact inv_F hI 0 160 rfl rfl
  have i30 := i3.1
  have i31 := i3.2
  have eE : ARE (gvD s) 0 = gF (s.1 34) := by
    funext p
    exact if_pos rfl
  rw [eE]
  exact row_k (by omega) (gf_top (fun p hp hn => by have := hq p hp hn; omega)) (fun v hv => (h.1 v hv).1) h.2.1 i1 h0 h1
/-- two nodes that are not the same -/
abbrev TWO (n : Int) (x y : Int32) : Prop := (0 ≤ x.toInt ∧ x.toInt < n) ∧ (0 ≤ y.toInt ∧ y.toInt < n) ∧ x.toInt ≠ y.toInt
end
section
/-! SPANS -/
def SPB (g : GVW) (q p : Nat) : Prop := (g.2.2.2.1 q).toInt < (g.2.2.2.1 p).toInt ∨ ((g.2.2.2.1 q).toInt = (g.2.2.2.1 p).toInt ∧ q < p)
/-- joints below k that come before p -/
def SPA (g : GVW) (p k u w : Nat) : Prop := k < 160 ∧ SPB g k p ∧ u ≠ w ∧ ((ARE g 0 k = (u : Int) ∧ ARE g 1 k = (w : Int)) ∨ (ARE g 0 k = (w : Int) ∧ ARE g 1 k = (u : Int)))
def SPK (g : GVW) (p k u w : Nat) : Prop := ∃ q : Nat, q < k ∧ SPA g p q u w
def SPN (g : GVW) (p : Nat) : Prop := ∃ x y : Nat, ARE g 0 p = (x : Int) ∧ ARE g 1 p = (y : Int) ∧ ¬ wlq (SPK g p 160) x y
section SPN
variable {g h : GVW} {p k : Nat}
/-! the class -/
end SPN
/-! the reference -/
section WKF
variable {E : Nat → Nat → Prop} {g : GVW} {p n k a : Nat} {f : Nat → Int32}
end WKF
/-! the reference's arcs -/
theorem n20 {s : GS} (hI : Inv s) : (((s.2.2.1 109 20).toInt.toNat : Nat) : Int) = (s.2.2.1 109 20).toInt := by
  have h := inv_F hI (z := s.2.2.1 109 20) 0 32 rfl rfl
  unfold In at h
  omega
end
section
/-! WIDTHS -/
section WID
variable {g h : GVW} {s t n : Nat}
/-! the class: the widest first -/
/-! the reference: all arcs, again and again -/
end WID
end
section
/-! bitCount COUNTS THE BITS -/
theorem byt (n i k : Nat) (hk : k < 8) : ((n / 2 ^ i) % 256).testBit k = n.testBit (i + k) := by
  rw [show (256 : Nat) = 2 ^ 8 from rfl, Nat.testBit_mod_two_pow, ← Nat.shiftRight_eq_div_pow, Nat.testBit_shiftRight]
  simp [hk]
end
section
/-! SUMS -/
def sm (f : Nat → Int) : Nat → Int
  | 0 => 0
  | n + 1 => sm f n + f n
section SM
variable {f h : Nat → Int}
theorem sm_s {n : Nat} : sm f (n + 1) = sm f n + f n := rfl
theorem sm_eq : ∀ n : Nat, (∀ k, k < n → f k = h k) → sm f n = sm h n
  | 0, _ => rfl
  | n + 1, e => by rw [sm_s, sm_s, sm_eq n (fun k hk => e k (by omega)), e n (by omega)]
theorem sm_0 : ∀ n : Nat, (∀ k, k < n → f k = 0) → sm f n = 0
  | 0, _ => rfl
  | n + 1, e => by rw [sm_s, sm_0 n (fun k hk => e k (by omega)), e n (by omega)]; rfl
theorem sm_one {u : Nat} {d : Int} : ∀ n : Nat, u < n → (∀ k, k < n → k ≠ u → h k = f k) → h u = f u + d → sm h n = sm f n + d
  | 0, hu, _, _ => absurd hu (Nat.not_lt_zero u)
  | n + 1, hu, e, eu => by
    rw [sm_s, sm_s]
    by_cases c : u = n
    · subst c
      rw [sm_eq (f := h) (h := f) u (fun k hk => e k (by omega) (by omega)), eu]
      omega
    · rw [sm_one n (by omega) (fun k hk hne => e k (by omega) hne) eu, e n (by omega) (fun z => c z.symm)]
      omega
end SM
/-! NEIGHBOURS -/
/-! the class's triangles -/
/-! pairs u < v, one by one -/
end
section
/-! NEIGHBOURS ON BOTH SIDES -/
/-! FIGURES -/
def QZ (L : FM) : Bool := qI L.1 110 && (qI L.1 111 && (qI L.1 112 && (qI L.1 113 && (qI L.1 114 && (qI L.1 115 && (qI L.1 116 && (qI L.1 117 && (qF L.2.2.1 109 9 && qF L.2.2.1 109 18))))))))
theorem gvz_cg {s t : GS} {F : FM} (hF : Fr F s t) (hk : QZ F = true) : gvZ t = gvZ s := by
  simp only [QZ, Bool.and_eq_true] at hk
  obtain ⟨q0, q1, q2, q3, q4, q5, q6, q7, q8, q9⟩ := hk
  unfold gvZ gvG
  rw [hF.1 110 q0, hF.1 111 q1, hF.1 112 q2, hF.1 113 q3, hF.1 114 q4, hF.1 115 q5, hF.1 116 q6, hF.1 117 q7, hF.2.2.1 109 9 q8, hF.2.2.1 109 18 q9]
end
section
/-! WALKS COUNTED -/
section WN
variable {F T : Nat → Int}
/-! the reference: layer by layer -/
end WN
end
section
/-! A SEARCH WITH A QUEUE -/
abbrev hn (h : Nat → Int32) (v : Nat) : Int := (h v).toInt
section HB
variable {F T : Nat → Int} {s : Nat} {h Q : Nat → Int32} {c : Nat → Int64} {b e : Nat} {R R2 : Nat → Prop}
end HB
theorem are_x {g h : GVW} (q : GEW g h) (w : Int) : ARE g w = ARE h w := by
  funext p
  by_cases hp : p < 160
  · exact are_e q hp
  · have no : ∀ k : GVW, ARE k w p = -1 := fun k => by
      unfold ARE gF gG
      by_cases c : w = 0
      · rw [if_pos c, if_neg hp]
      · rw [if_neg c, if_neg (fun z => hp z.1)]
    rw [no g, no h]
end
section
/-! RANKS -/
noncomputable def iw (P : Prop) (x : Int) : Int := @ite Int P (Classical.propDecidable P) x 0
theorem iw_y {P : Prop} {x : Int} (h : P) : iw P x = x := if_pos h
theorem iw_n {P : Prop} {x : Int} (h : ¬ P) : iw P x = 0 := if_neg h
theorem iw_b {P : Prop} {x : Int} (hx : 0 ≤ x) : 0 ≤ iw P x ∧ iw P x ≤ x := by
  by_cases h : P
  · rw [iw_y h]; exact ⟨hx, Int.le_refl _⟩
  · rw [iw_n h]; exact ⟨Int.le_refl _, hx⟩
theorem iw_eq {P Q : Prop} {x : Int} (h : P ↔ Q) : iw P x = iw Q x := by rw [propext h]
theorem sm_n0 {f : Nat → Int} : ∀ n : Nat, (∀ k, k < n → 0 ≤ f k) → 0 ≤ sm f n
  | 0, _ => Int.le_refl _
  | n + 1, e => by
    have a := sm_n0 n (fun k hk => e k (by omega))
    have b := e n (by omega)
    rw [sm_s]
    omega
theorem sm_mo {f h : Nat → Int} : ∀ n : Nat, (∀ k, k < n → f k ≤ h k) → sm f n ≤ sm h n
  | 0, _ => Int.le_refl _
  | n + 1, e => by
    have a := sm_mo n (fun k hk => e k (by omega))
    have b := e n (by omega)
    rw [sm_s, sm_s]
    omega
/-- what u sends along each of its arcs -/
noncomputable def shr (F U : Nat → Int) (u : Nat) : Int := iw (cn F (u : Int) 160 ≠ 0) (U u * 85 / (100 * cn F (u : Int) 160))
noncomputable def pot (F U : Nat → Int) (n : Nat) : Int := sm (fun u => U u - shr F U u * cn F (u : Int) 160) n
section RNK
variable {F T U : Nat → Int} {n : Nat}
/-! the class's round -/
/-! the pot -/
/-! the pot is shared -/
end RNK
/-! what is kept of the ranks -/
/-! the reference -/
section RRF
variable {F T U : Nat → Int} {n : Nat}
end RRF
end
section
/-! SHORT WAYS -/
/-- ways from u to t of at most d arcs that come to no node of V -/
noncomputable def shw (F T : Nat → Int) (t : Int) : Nat → Int → (Nat → Bool) → Int
  | 0, _, _ => 0
  | d + 1, u, V => sm (fun p => iw (F p = u) (if T p = t then 1 else if V (T p).toNat = true then 0 else shw F T t d (T p) (fun x => V x || decide (x = (T p).toNat)))) 160
/-- what the arc p adds -/
noncomputable def shp (F T : Nat → Int) (t : Int) (d : Nat) (V : Nat → Bool) (p : Nat) : Int := if T p = t then 1 else if V (T p).toNat = true then 0 else shw F T t d (T p) (fun x => V x || decide (x = (T p).toNat))
def cap (a : Int) : Int := if a ≤ 2000 then a else 2001
theorem cap_l {a : Int} (h : a ≤ 2000) : cap a = a := if_pos h
theorem cap_g {a : Int} (h : 2000 < a) : cap a = 2001 := if_neg (by omega)
theorem cap_a {a b : Int} (h : 0 ≤ b) : cap (cap a + b) = cap (a + b) := by
  by_cases c : a ≤ 2000
  · rw [cap_l c]
  · rw [cap_g (show 2000 < a by omega), cap_g (by omega), cap_g (by omega)]
theorem cap_m {a b : Int} (h : a ≤ b) (hc : 2000 < cap a) : cap b = cap a := by
  by_cases c : a ≤ 2000
  · rw [cap_l c] at hc
    omega
  · rw [cap_g (show 2000 < a by omega), cap_g (by omega)]
theorem cap_i {a : Int} (h0 : 0 ≤ a) (h : a ≤ 2001) : cap a = a := by
  by_cases c : a ≤ 2000
  · exact cap_l c
  · rw [cap_g (by omega)]
    omega
theorem cap_1 {a z : Int} (h : z = cap a) (hz : z ≤ 2000) : z + 1 = cap (a + 1) := by
  have e : a ≤ 2000 := Classical.byContradiction fun c => by
    rw [cap_g (by omega)] at h
    omega
  rw [cap_l e] at h
  by_cases c : a + 1 ≤ 2000
  · rw [cap_l c, h]
  · rw [cap_g (by omega)]
    omega
section SHO
variable {F T : Nat → Int} {t : Int}
theorem shw_0 : ∀ (d : Nat) (u : Int) (V : Nat → Bool), 0 ≤ shw F T t d u V
  | 0, _, _ => Int.le_refl _
  | d + 1, u, V => by
    refine sm_n0 160 (fun p _ => ?_)
    refine (iw_b ?_).1
    split
    · decide
    · split
      · decide
      · exact shw_0 d _ _
theorem shp_0 {d p : Nat} {V : Nat → Bool} : 0 ≤ shp F T t d V p := by
  unfold shp
  split
  · decide
  · split
    · decide
    · exact shw_0 d _ _
theorem shw_s {d : Nat} {u : Int} {V : Nat → Bool} : shw F T t (d + 1) u V = sm (fun p => iw (F p = u) (shp F T t d V p)) 160 := rfl
/-- the class: the arcs of u one by one -/
noncomputable def shz (F T : Nat → Int) (t : Int) (d : Nat) (u : Nat) (V : Nat → Bool) (k : Int) : Int := sm (fun p => iw (F p = (u : Int) ∧ cn F (u : Int) p < k) (shp F T t d V p)) 160
theorem shz_0 {d u : Nat} {V : Nat → Bool} {k : Int} (hk : k = 0) : shz F T t d u V k = 0 := sm_0 160 (fun p _ => iw_n (fun z => by
  have := cn_0 F (u : Int) p
  have := z.2
  omega))
theorem shz_s {d u p : Nat} {V : Nat → Bool} {k e : Int} (hp : p < 160) (hf : F p = (u : Int)) (hc : cn F (u : Int) p = k) (he : e = k + 1) : shz F T t d u V e = shz F T t d u V k + shp F T t d V p := by
  refine sm_one (u := p) (d := shp F T t d V p) 160 hp (fun q _ hq => iw_eq ⟨fun z => ⟨z.1, ?_⟩, fun z => ⟨z.1, ?_⟩⟩) ?_
  · have z2 := z.2
    by_cases c : cn F (u : Int) q = k
    · exact absurd (cn_inj z.1 hf (by omega)) hq
    · omega
  · have := z.2
    omega
  · show iw (F p = (u : Int) ∧ cn F (u : Int) p < e) (shp F T t d V p) = iw (F p = (u : Int) ∧ cn F (u : Int) p < k) (shp F T t d V p) + shp F T t d V p
    rw [iw_y ⟨hf, by omega⟩, iw_n (fun z => by have := z.2; omega)]
    omega
theorem shz_e {d u : Nat} {V : Nat → Bool} {k : Int} (h : ∀ p, p < 160 → F p = (u : Int) → cn F (u : Int) p < k) : shz F T t d u V k = shw F T t (d + 1) (u : Int) V := by
  rw [shw_s]
  exact sm_eq 160 (fun p hp => iw_eq ⟨fun z => z.1, fun z => ⟨z, h p hp z⟩⟩)
theorem shz_l {d u : Nat} {V : Nat → Bool} {k : Int} : 0 ≤ shz F T t d u V k ∧ shz F T t d u V k ≤ shw F T t (d + 1) (u : Int) V := by
  refine ⟨sm_n0 160 (fun p _ => (iw_b shp_0).1), ?_⟩
  rw [shw_s]
  refine sm_mo 160 (fun p _ => ?_)
  by_cases c : F p = (u : Int) ∧ cn F (u : Int) p < k
  · show iw (F p = (u : Int) ∧ cn F (u : Int) p < k) (shp F T t d V p) ≤ iw (F p = (u : Int)) (shp F T t d V p)
    rw [iw_y c, iw_y c.1]
    exact Int.le_refl _
  · show iw (F p = (u : Int) ∧ cn F (u : Int) p < k) (shp F T t d V p) ≤ iw (F p = (u : Int)) (shp F T t d V p)
    rw [iw_n c]
    exact (iw_b shp_0).1
/-- what an arc adds, by cases -/
theorem shp_t {d p : Nat} {V : Nat → Bool} (h : T p = t) : shp F T t d V p = 1 := if_pos h
theorem shp_v {d p : Nat} {V : Nat → Bool} (h : T p ≠ t) (hv : V (T p).toNat = true) : shp F T t d V p = 0 := by
  unfold shp
  rw [if_neg h, if_pos hv]
theorem shp_w {d p w : Nat} {V W : Nat → Bool} (h : T p ≠ t) (hw : T p = (w : Int)) (hv : V w = false) (hW : ∀ x, W x = (V x || decide (x = w))) : shp F T t d V p = shw F T t d (w : Int) W := by
  have e : (T p).toNat = w := by omega
  unfold shp
  rw [if_neg h, e, if_neg (by rw [hv]; decide), hw, show W = (fun x => V x || decide (x = w)) from funext hW]
/-- a way of so few arcs: leads says so -/
theorem shw_x : ∀ (d : Nat) {u : Int} {V : Nat → Bool}, 0 < shw F T t (d + 1) u V → ∃ p, p < 160 ∧ F p = u ∧ (T p = t ∨ (T p ≠ t ∧ V (T p).toNat = false ∧ 0 < shw F T t d (T p) (fun x => V x || decide (x = (T p).toNat)))) := fun d {u} {V} h => by
  refine Classical.byContradiction fun z => ?_
  have e : shw F T t (d + 1) u V = 0 := by
    rw [shw_s]
    refine sm_0 160 (fun p hp => ?_)
    by_cases c : F p = u
    · rw [iw_y c]
      unfold shp
      by_cases c2 : T p = t
      · exact absurd ⟨p, hp, c, Or.inl c2⟩ z
      · rw [if_neg c2]
        cases c3 : V (T p).toNat with
        | true => rw [if_pos rfl]
        | false =>
          rw [if_neg (by decide)]
          refine Classical.byContradiction fun y => z ⟨p, hp, c, Or.inr ⟨c2, c3, ?_⟩⟩
          have g := shw_0 (F := F) (T := T) (t := t) d (T p) (fun x => V x || decide (x = (T p).toNat))
          omega
    · exact iw_n c
  omega
end SHO
/-- nothing leads there -/
theorem lds {g : GVW} {r v : Nat} {tn : Nat} {V : Nat → Bool} (hN : NDQ g) (h3 : r ≤ 3) (A1 : 1 ≤ r → ¬ AJG g v tn) (A2 : 2 ≤ r → ∀ w : Nat, AJG g v w → V w = false → ¬ AJG g w tn) (A3 : 3 ≤ r → ∀ w x : Nat, AJG g v w → V w = false → AJG g w x → V x = false → ¬ AJG g x tn) : shw (ARE g 0) (ARE g 1) (tn : Int) r (v : Int) V = 0 := by
  have tp : ∀ p, p < 160 → 0 ≤ ARE g 0 p → ARE g 1 p = ((ARE g 1 p).toNat : Int) := fun p hp h0 => by
    by_cases c : (g.2.1 p).toInt = -1
    · rw [are_no c] at h0
      omega
    · obtain ⟨-, b0, -⟩ := hN p hp c
      rw [are_t hp c (by decide)]
      omega
  refine Classical.byContradiction fun z => ?_
  have pos : 0 < shw (ARE g 0) (ARE g 1) (tn : Int) r (v : Int) V := by
    have := shw_0 (F := ARE g 0) (T := ARE g 1) (t := (tn : Int)) r (v : Int) V
    omega
  rcases r with _ | r
  · exact absurd pos (Int.lt_irrefl 0)
  · obtain ⟨p, hp, hf, z1 | ⟨z1, z2, z3⟩⟩ := shw_x r pos
    · exact A1 (by omega) ⟨p, hp, hf, z1⟩
    · have e1 := tp p hp (by omega)
      have a1 : AJG g v (ARE g 1 p).toNat := ⟨p, hp, hf, e1⟩
      rcases r with _ | r
      · exact absurd z3 (Int.lt_irrefl 0)
      · obtain ⟨q, hq, hg, y1 | ⟨y1, y2, y3⟩⟩ := shw_x r z3
        · exact A2 (by omega) _ a1 z2 ⟨q, hq, hg.trans e1, y1⟩
        · have e2 := tp q hq (by omega)
          have a2 : AJG g (ARE g 1 p).toNat (ARE g 1 q).toNat := ⟨q, hq, hg.trans e1, e2⟩
          have y4 : V (ARE g 1 q).toNat = false := (Bool.or_eq_false_iff.mp y2).1
          rcases r with _ | r
          · exact absurd y3 (Int.lt_irrefl 0)
          · obtain ⟨o, ho, hh, x1 | ⟨x1, x2, x3⟩⟩ := shw_x r y3
            · exact A3 (by omega) _ _ a1 z2 a2 y4 ⟨o, ho, hh.trans e2, x1⟩
            · rcases r with _ | r
              · exact absurd x3 (Int.lt_irrefl 0)
              · omega
def LDW (g : GVW) (v t : Nat) (V : Nat → Bool) (r : Int) (i o l : Int32) : Prop := (∀ w, bt i w = true ↔ AJG g w t) ∧ (∀ w, bt o w = true ↔ (AJG g v w ∧ V w = false)) ∧ (1 ≤ r → ¬ AJG g v t) ∧ (2 ≤ r → ∀ w, bt o w = true → ¬ AJG g w t) ∧ (3 ≤ r → ∀ w, bt o w = true → bt l w = true ∨ ∀ x, AJG g w x → V x = false → ¬ AJG g x t)
def LDZ (F T : Nat → Int) (t : Int) (d : Nat) (u : Int) (V : Nat → Bool) (z : Int) : Prop := z = 0 → shw F T t d u V = 0
theorem adj_o {g : GVW} {r : Nat → Int32} (h : ∀ u w, FEQ r (Int32.ofInt (-1)) u w ↔ AJG g u w) {u : Nat} (hu : u < 32) {x : Int32} (e : x = r u) : ∀ w, bt x w = true ↔ AJG g u w := fun w => ⟨fun q => (h u w).mp ⟨hu, by rw [← e]; exact q, bt_m1 (bt_lt q)⟩, fun q => by rw [e]; exact ((h u w).mpr q).2.1⟩
theorem adj_i {g : GVW} {r : Nat → Int32} (h : ∀ u w, FEQ r (Int32.ofInt (-1)) u w ↔ AJG g w u) {u : Nat} (hu : u < 32) {x : Int32} (e : x = r u) : ∀ w, bt x w = true ↔ AJG g w u := fun w => ⟨fun q => (h u w).mp ⟨hu, by rw [← e]; exact q, bt_m1 (bt_lt q)⟩, fun q => by rw [e]; exact ((h u w).mpr q).2.1⟩
theorem bt_mi {x y z m : Int32} (e1 : m = y ^^^ Int32.ofInt (-1)) (e2 : z = x &&& m) (w : Nat) : bt z w = true ↔ (bt x w = true ∧ bt y w = false) := by
  rw [bt_and e2, Bool.and_eq_true]
  constructor
  · rintro ⟨a, b⟩
    have l := bt_lt a
    rw [bt_not e1 l] at b
    exact ⟨a, by simpa using b⟩
  · rintro ⟨a, b⟩
    have l := bt_lt a
    rw [bt_not e1 l, b]
    exact ⟨a, rfl⟩
theorem z_no {z : Int32} (h : z.toInt = 0) (w : Nat) : ¬ bt z w = true := fun q => bt_nz q h
section LD
variable {g : GVW} {v t : Nat} {y : Int32} {r : Int} {i o l : Int32}
theorem ldw_0 (hi : ∀ w, bt i w = true ↔ AJG g w t) (ho : ∀ w, bt o w = true ↔ (AJG g v w ∧ bt y w = false)) (h1 : 1 ≤ r → bt i v = false) (h2 : 2 ≤ r → ∀ w, bt o w = true → bt i w = true → False) : LDW g v t (bt y) r i o o := ⟨hi, ho, fun c a => (by rw [(hi v).mpr a] at h1; exact absurd (h1 c) (by decide)), fun c w a b => h2 c w a ((hi w).mpr b), fun _ w a => Or.inl a⟩
theorem ldw_s {k l2 m z80 z83 z84 z87 : Int32} {ro : Nat → Int32} (h : LDW g v t (bt y) r i o l) (hr : ∀ u w, FEQ ro (Int32.ofInt (-1)) u w ↔ AJG g u w) (ik : In k 0 31) (hl : lowB l k.toNatClampNeg) (e80 : z80 = ro k.toNatClampNeg) (e83 : z83 = y ^^^ Int32.ofInt (-1)) (e84 : z84 = z80 &&& z83) (e87 : z87 = z84 &&& i) (c : z87.toInt = 0) (e1 : m = l - Int32.ofInt 1) (e2 : l2 = l &&& m) : LDW g v t (bt y) r i o l2 := by
  obtain ⟨h1, h2, h3, h4, h5⟩ := h
  refine ⟨h1, h2, h3, h4, fun hr3 w hw => ?_⟩
  have k32 : k.toNatClampNeg < 32 := by
    show k.toInt.toNat < 32
    have := ik.2
    omega
  rcases h5 hr3 w hw with a | a
  · by_cases e : w = k.toNatClampNeg
    · right
      intro x hx hv ht
      refine z_no c x ?_
      rw [bt_and e87, Bool.and_eq_true]
      refine ⟨(bt_mi e83 e84 x).mpr ⟨?_, hv⟩, (h1 x).mpr ht⟩
      rw [e] at hx
      exact (adj_o hr k32 e80 x).mpr hx
    · left
      rw [lowB_clr hl e1 e2, a]
      simp [e]
  · exact Or.inr a
theorem ldw_e (hN : NDQ g) (h : LDW g v t (bt y) r i o l) (hr : 0 ≤ r ∧ r ≤ 3) (hl : r < 3 ∨ l.toInt = 0) : shw (ARE g 0) (ARE g 1) (t : Int) r.toNat (v : Int) (bt y) = 0 := by
  obtain ⟨h1, h2, h3, h4, h5⟩ := h
  refine lds hN (by omega) (fun c => h3 (by omega)) (fun c w a b => h4 (by omega) w ((h2 w).mpr ⟨a, b⟩)) (fun c w x a b d e f => ?_)
  have r3 : 3 ≤ r := by omega
  rcases hl with hl | hl
  · omega
  · rcases h5 r3 w ((h2 w).mpr ⟨a, b⟩) with q | q
    · exact z_no hl w q
    · exact q x d e f
end LD
/-! gather -/
theorem cap_f {a b c : Int} (h : c = cap a) (h2 : a ≤ b) (hc : 2000 < c) : c = cap b := by
  rw [cap_m h2 (by omega), h]
/-! the reference: the arcs below m -/
noncomputable def shx (F T : Nat → Int) (t : Int) (d u : Nat) (V : Nat → Bool) (m : Nat) : Int := sm (fun p => iw (F p = (u : Int)) (shp F T t d V p)) m
section SHX
variable {F T : Nat → Int} {t : Int} {d u : Nat} {V : Nat → Bool}
theorem shx_e : shx F T t d u V 160 = shw F T t (d + 1) (u : Int) V := rfl
theorem shx_n {m : Nat} (h : F m ≠ (u : Int)) : shx F T t d u V (m + 1) = shx F T t d u V m := by
  show shx F T t d u V m + iw (F m = (u : Int)) (shp F T t d V m) = _
  rw [iw_n h]
  omega
theorem shx_s {m : Nat} (h : F m = (u : Int)) : shx F T t d u V (m + 1) = shx F T t d u V m + shp F T t d V m := by
  show shx F T t d u V m + iw (F m = (u : Int)) (shp F T t d V m) = _
  rw [iw_y h]
theorem shx_l {m : Nat} (hm : m ≤ 160) : 0 ≤ shx F T t d u V m ∧ shx F T t d u V m ≤ shw F T t (d + 1) (u : Int) V := by
  refine ⟨sm_n0 m (fun p _ => (iw_b shp_0).1), ?_⟩
  have g : ∀ k : Nat, shx F T t d u V m ≤ shx F T t d u V (m + k) := fun k => by
    induction k with
    | zero => exact Int.le_refl _
    | succ k ih =>
      have q := (iw_b (P := F (m + k) = (u : Int)) (shp_0 (F := F) (T := T) (t := t) (d := d) (V := V) (p := m + k))).1
      have e : shx F T t d u V (m + (k + 1)) = shx F T t d u V (m + k) + iw (F (m + k) = (u : Int)) (shp F T t d V (m + k)) := rfl
      omega
  have e := g (160 - m)
  rw [show m + (160 - m) = 160 by omega] at e
  exact e
/-- the last arc -/
theorem shp_0d {p : Nat} (h : T p ≠ t) : shp F T t 0 V p = 0 := by
  unfold shp
  rw [if_neg h]
  split
  · rfl
  · rfl
end SHX
/-- how many short ways there are, 2001 if there are more than 2000 -/
noncomputable def SHN (g : GVW) (u v : Nat) : Int := cap (shw (ARE g 0) (ARE g 1) (v : Int) 4 (u : Int) (fun x => decide (x = u)))
theorem shn_e {g h : GVW} (q : GEW g h) {u v : Nat} : SHN g u v = SHN h u v := by
  unfold SHN
  rw [are_x q 0, are_x q 1]
theorem shw_1 {F T : Nat → Int} {t u : Int} {V W : Nat → Bool} : shw F T t 1 u V = shw F T t 1 u W := by
  rw [shw_s, shw_s]
  refine sm_eq 160 (fun p _ => ?_)
  by_cases c : T p = t
  · rw [shp_t c, shp_t c]
  · rw [shp_0d c, shp_0d c]
def SHB (g : GVW) (s : GS) : Prop := (s.2.2.1 49 8).toInt = g.2.2.2.2.2.2.2 → (s.2.2.1 49 11).toInt = SHN g (s.2.2.1 49 9).toInt.toNat (s.2.2.1 49 10).toInt.toNat
def SHG (g : GVW) (s : GS) : Prop := (s.2.2.1 49 8).toInt = g.2.2.2.2.2.2.2 ∧ (s.2.2.1 49 11).toInt = SHN g (s.2.2.1 49 9).toInt.toNat (s.2.2.1 49 10).toInt.toNat
def SHBC (s : GS) : Prop := SHB (shC s) s
def SHV (g : GVW) (u v : Nat) (z : Int) : Prop := (2000 < SHN g u v ∧ z = -2) ∨ (SHN g u v ≤ 2000 ∧ z = SHN g u v)
theorem shv_u {g h : GVW} (q : GEW g h) {u v : Nat} {y z : Int} (a : SHV g u v y) (b : SHV h u v z) : y = z := by
  unfold SHV at a b
  rw [shn_e q] at a
  omega
def SHOR (s t : GS) (x y z : Int32) : Prop := ((t.2.2.1 109 0).toInt = 1 ∧ ¬ TWO (s.2.2.1 109 20).toInt x y) ∨ ((t.2.2.1 109 0).toInt = 0 ∧ TWO (s.2.2.1 109 20).toInt x y ∧ SHV (gvZ s) x.toNatClampNeg y.toNatClampNeg z.toInt)
theorem shg_of {g : GVW} {s : GS} {x y m : Int32} (h8 : (s.2.2.1 49 8).toInt = g.2.2.2.2.2.2.2) (h9 : s.2.2.1 49 9 = x) (h10 : s.2.2.1 49 10 = y) (ix : In x 0 31) (iy : In y 0 31) (em : m = Int32.ofInt 1 <<< (x &&& 31)) (hc : (s.2.2.1 49 11).toInt = cap (0 + shw (ARE g 0) (ARE g 1) y.toInt 4 (x.toNatClampNeg : Int) (bt m))) : SHG g s := by
  refine ⟨h8, ?_⟩
  rw [h9, h10, hc, Int.zero_add]
  unfold SHN
  have ey : ((y.toInt.toNat : Nat) : Int) = y.toInt := clx iy.1
  rw [ey, show (fun k => decide (k = x.toInt.toNat)) = bt m from funext (fun k => (bt_one em ix).symm)]
  rfl
theorem shv_of {g : GVW} {s : GS} {x y z : Int32} (h : SHG g s) (h9 : s.2.2.1 49 9 = x) (h10 : s.2.2.1 49 10 = y) (hz : (2000 < (s.2.2.1 49 11).toInt ∧ z.toInt = -2) ∨ ((s.2.2.1 49 11).toInt ≤ 2000 ∧ z.toInt = (s.2.2.1 49 11).toInt)) : SHV g x.toNatClampNeg y.toNatClampNeg z.toInt := by
  have e := h.2
  rw [h9, h10] at e
  rw [e] at hz
  exact hz
end
