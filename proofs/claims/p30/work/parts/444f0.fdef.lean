section
/-! GRAPHS AS THEY ARE SEEN, AND WHAT CHANGES DO TO THEM -/
/-- labels, from, to, weight, room, kind; how many nodes, which version -/
abbrev GVW : Type := (Nat → Int32) × (Nat → Int32) × (Nat → Int32) × (Nat → Int32) × (Nat → Int32) × (Nat → Int32) × Int × Int
def gvC (s : GS) : GVW := (s.1 3, s.1 4, s.1 5, s.1 6, s.1 7, s.1 8, (s.2.2.1 2 1).toInt, (s.2.2.1 2 0).toInt)
theorem gvC_mk {t : GS} {a b c d e f : Nat → Int32} {n v : Int} (h1 : t.1 3 = a) (h2 : t.1 4 = b) (h3 : t.1 5 = c) (h4 : t.1 6 = d) (h5 : t.1 7 = e) (h6 : t.1 8 = f) (h7 : (t.2.2.1 2 1).toInt = n) (h8 : (t.2.2.1 2 0).toInt = v) : gvC t = (a, b, c, d, e, f, n, v) := by
  unfold gvC
  rw [h1, h2, h3, h4, h5, h6, h7, h8]
def gqN (g : GVW) (p : Nat) (l : Int32) : GVW := (upd g.1 p l, g.2.1, g.2.2.1, g.2.2.2.1, g.2.2.2.2.1, g.2.2.2.2.2.1, g.2.2.2.2.2.2.1 + 1, g.2.2.2.2.2.2.2 + 1)
def gqA (g : GVW) (p : Nat) (a b w r k : Int32) : GVW := (g.1, upd g.2.1 p a, upd g.2.2.1 p b, upd g.2.2.2.1 p w, upd g.2.2.2.2.1 p r, upd g.2.2.2.2.2.1 p k, g.2.2.2.2.2.2.1, g.2.2.2.2.2.2.2 + 1)
def gqD (g : GVW) (p : Nat) : GVW := (g.1, upd g.2.1 p (Int32.ofInt (-1)), g.2.2.1, g.2.2.2.1, g.2.2.2.2.1, g.2.2.2.2.2.1, g.2.2.2.2.2.2.1, g.2.2.2.2.2.2.2 + 1)
def gqW (g : GVW) (p : Nat) (w v : Int32) : GVW := (g.1, g.2.1, g.2.2.1, (if w.toInt = 0 then upd g.2.2.2.1 p v else g.2.2.2.1), (if w.toInt = 1 then upd g.2.2.2.2.1 p v else g.2.2.2.2.1), (if w.toInt ≠ 0 ∧ w.toInt ≠ 1 then upd g.2.2.2.2.2.1 p v else g.2.2.2.2.2.1), g.2.2.2.2.2.2.1, g.2.2.2.2.2.2.2 + 1)
def gqL (g : GVW) (p : Nat) (l : Int32) : GVW := (upd g.1 p l, g.2.1, g.2.2.1, g.2.2.2.1, g.2.2.2.2.1, g.2.2.2.2.2.1, g.2.2.2.2.2.2.1, g.2.2.2.2.2.2.2 + 1)
def gqP (g : GVW) (d : Int) (p : Nat) (a b : Int32) : GVW := if d = 0 then gqN g p a else if d = 2 then gqD g p else if d = 3 then gqW g p a b else gqL g p a
/-- the row k of the log r, carried out -/
def gqR (g : GVW) (r : Nat → Int32) (k : Nat) : GVW := if (r (7 * k)).toInt = 1 then gqA g (r (7 * k + 1)).toNatClampNeg (r (7 * k + 2)) (r (7 * k + 3)) (r (7 * k + 4)) (r (7 * k + 5)) (r (7 * k + 6)) else gqP g (r (7 * k)).toInt (r (7 * k + 1)).toNatClampNeg (r (7 * k + 2)) (r (7 * k + 3))
theorem gqP_0 {g : GVW} {d : Int} {p : Nat} {a b : Int32} (h : d = 0) : gqP g d p a b = gqN g p a := if_pos h
theorem gqP_2 {g : GVW} {d : Int} {p : Nat} {a b : Int32} (h : d = 2) : gqP g d p a b = gqD g p := by
  unfold gqP
  rw [if_neg (by omega), if_pos h]
theorem gqP_3 {g : GVW} {d : Int} {p : Nat} {a b : Int32} (h : d = 3) : gqP g d p a b = gqW g p a b := by
  unfold gqP
  rw [if_neg (by omega), if_neg (by omega), if_pos h]
theorem gqP_4 {g : GVW} {d : Int} {p : Nat} {a b : Int32} (h : d = 4) : gqP g d p a b = gqL g p a := by
  unfold gqP
  rw [if_neg (by omega), if_neg (by omega), if_neg (by omega)]
theorem gqR_1 {g : GVW} {r : Nat → Int32} {k : Nat} (h : (r (7 * k)).toInt = 1) : gqR g r k = gqA g (r (7 * k + 1)).toNatClampNeg (r (7 * k + 2)) (r (7 * k + 3)) (r (7 * k + 4)) (r (7 * k + 5)) (r (7 * k + 6)) := if_pos h
theorem gqR_n {g : GVW} {r : Nat → Int32} {k : Nat} (h : (r (7 * k)).toInt ≠ 1) : gqR g r k = gqP g (r (7 * k)).toInt (r (7 * k + 1)).toNatClampNeg (r (7 * k + 2)) (r (7 * k + 3)) := if_neg h
theorem gqR_0 {g : GVW} {r : Nat → Int32} {k : Nat} (h : (r (7 * k)).toInt = 0) : gqR g r k = gqN g (r (7 * k + 1)).toNatClampNeg (r (7 * k + 2)) := by rw [gqR_n (by omega), gqP_0 h]
theorem gqR_2 {g : GVW} {r : Nat → Int32} {k : Nat} (h : (r (7 * k)).toInt = 2) : gqR g r k = gqD g (r (7 * k + 1)).toNatClampNeg := by rw [gqR_n (by omega), gqP_2 h]
theorem gqR_3 {g : GVW} {r : Nat → Int32} {k : Nat} (h : (r (7 * k)).toInt = 3) : gqR g r k = gqW g (r (7 * k + 1)).toNatClampNeg (r (7 * k + 2)) (r (7 * k + 3)) := by rw [gqR_n (by omega), gqP_3 h]
theorem gqR_4 {g : GVW} {r : Nat → Int32} {k : Nat} (h0 : (r (7 * k)).toInt ≠ 0) (h1 : (r (7 * k)).toInt ≠ 1) (h2 : (r (7 * k)).toInt ≠ 2) (h3 : (r (7 * k)).toInt ≠ 3) : gqR g r k = gqL g (r (7 * k + 1)).toNatClampNeg (r (7 * k + 2)) := by
  rw [gqR_n h1]
  unfold gqP
  rw [if_neg h0, if_neg h2, if_neg h3]
/-- which places are taken -/
def ctg (f : Nat → Int32) : Nat → Bool := fun i => decide ((f i).toInt ≠ -1)
/-- whatever is there lies below top -/
def TQ (s : GS) : Prop := ∀ p : Nat, p < 160 → (s.1 4 p).toInt ≠ -1 → (p : Int) < (s.2.2.1 2 3).toInt
theorem tq_up {s t : GS} {p : Nat} {a : Int32} (h : TQ s) (hr : t.1 4 = upd (s.1 4) p a) (h1 : (s.2.2.1 2 3).toInt ≤ (t.2.2.1 2 3).toInt) (h2 : (p : Int) < (t.2.2.1 2 3).toInt) : TQ t := by
  intro q hq hn
  by_cases c : q = p
  · rw [c]; exact h2
  · rw [hr, ug_ne c] at hn
    have := h q hq hn
    omega
theorem tq_dn {s t : GS} {p : Nat} (h : TQ s) (hr : t.1 4 = upd (s.1 4) p (Int32.ofInt (-1))) (h1 : (t.2.2.1 2 3) = (s.2.2.1 2 3)) : TQ t := by
  intro q hq hn
  rw [h1]
  by_cases c : q = p
  · rw [c, hr, ug_at] at hn; exact absurd rfl hn
  · rw [hr, ug_ne c] at hn
    exact h q hq hn
theorem tq_lw {s t : GS} {j : Nat} {z : Int32} (h : TQ s) (hr : t.1 4 = s.1 4) (hz : z = s.1 4 j) (hz1 : z.toInt = -1) (h1 : (t.2.2.1 2 3).toInt = (j : Int)) (h2 : (s.2.2.1 2 3).toInt = (j : Int) + 1) : TQ t := by
  intro q hq hn
  rw [hr] at hn
  have h3 := h q hq hn
  have h4 : q ≠ j := fun c => by rw [c, ← hz] at hn; exact hn hz1
  omega
theorem tq_cg {s t : GS} (h : TQ s) (hr : t.1 4 = s.1 4) (h1 : (t.2.2.1 2 3) = (s.2.2.1 2 3)) : TQ t := by
  intro q hq hn
  rw [hr] at hn
  rw [h1]
  exact h q hq hn
/-- a place with an arc, a node, a value that fits -/
def HAC (s : GS) (x : Int32) : Prop := 0 ≤ x.toInt ∧ x.toInt ≤ 159 ∧ (s.1 4 x.toNatClampNeg).toInt ≠ -1
def HNC (s : GS) (x : Int32) : Prop := 0 ≤ x.toInt ∧ x.toInt < (s.2.2.1 2 1).toInt
def GVL (w v : Int32) : Prop := (w.toInt = 0 ∧ In v (-1000000) 1000000) ∨ (w.toInt = 1 ∧ In v 0 1000000) ∨ (w.toInt = 2 ∧ In v 0 25)
/-- throws that say why -/
noncomputable def gEx (Z : AmZ) (A : Nat → Nat) (ex : va_W) (L : FM) (s : GS) (P Q : Prop) : AmX := fun e u => ((e = am_IA ∧ P) ∨ (e = am_IS ∧ Q)) ∧ ∃ t, Inv t ∧ Fr L s t ∧ u = WW Z A t ++ ex
/-- a new row of the log -/
theorem nt_v {w : Nat → Int32} {k : Nat} {d x a b : Int32} : (upd (upd (upd (upd w (7 * k) d) (7 * k + 1) x) (7 * k + 2) a) (7 * k + 3) b) (7 * k) = d ∧ (upd (upd (upd (upd w (7 * k) d) (7 * k + 1) x) (7 * k + 2) a) (7 * k + 3) b) (7 * k + 1) = x ∧ (upd (upd (upd (upd w (7 * k) d) (7 * k + 1) x) (7 * k + 2) a) (7 * k + 3) b) (7 * k + 2) = a ∧ (upd (upd (upd (upd w (7 * k) d) (7 * k + 1) x) (7 * k + 2) a) (7 * k + 3) b) (7 * k + 3) = b := by
  refine ⟨?_, ?_, ?_, ug_at⟩
  · rw [ug_ne (by omega), ug_ne (by omega), ug_ne (by omega), ug_at]
  · rw [ug_ne (by omega), ug_ne (by omega), ug_at]
  · rw [ug_ne (by omega), ug_at]
theorem ar_v {w : Nat → Int32} {k : Nat} {d x f t g r c : Int32} {u : Nat → Int32} (h : u = upd (upd (upd (upd (upd (upd (upd w (7 * k) d) (7 * k + 1) x) (7 * k + 2) f) (7 * k + 3) t) (7 * k + 4) g) (7 * k + 5) r) (7 * k + 6) c) : u (7 * k) = d ∧ u (7 * k + 1) = x ∧ u (7 * k + 2) = f ∧ u (7 * k + 3) = t ∧ u (7 * k + 4) = g ∧ u (7 * k + 5) = r ∧ u (7 * k + 6) = c := by
  subst h
  refine ⟨?_, ?_, ?_, ?_, ?_, ?_, ug_at⟩
  · rw [ug_ne (by omega), ug_ne (by omega), ug_ne (by omega), ug_ne (by omega), ug_ne (by omega), ug_ne (by omega), ug_at]
  · rw [ug_ne (by omega), ug_ne (by omega), ug_ne (by omega), ug_ne (by omega), ug_ne (by omega), ug_at]
  · rw [ug_ne (by omega), ug_ne (by omega), ug_ne (by omega), ug_ne (by omega), ug_at]
  · rw [ug_ne (by omega), ug_ne (by omega), ug_ne (by omega), ug_at]
  · rw [ug_ne (by omega), ug_ne (by omega), ug_at]
  · rw [ug_ne (by omega), ug_at]
theorem gqR_nt {g : GVW} {r : Nat → Int32} {k : Nat} {d x a b : Int32} (hd : d.toInt ≠ 1) (h : r (7 * k) = d ∧ r (7 * k + 1) = x ∧ r (7 * k + 2) = a ∧ r (7 * k + 3) = b) : gqR g r k = gqP g d.toInt x.toNatClampNeg a b := by
  rw [gqR_n (by rw [h.1]; exact hd), h.1, h.2.1, h.2.2.1, h.2.2.2]
theorem gvC_cg {s t : GS} {L : FM} (h : Fr L s t) (hq : (qI L.1 3 && qI L.1 4 && qI L.1 5 && qI L.1 6 && qI L.1 7 && qI L.1 8 && qF L.2.2.1 2 1 && qF L.2.2.1 2 0) = true) : gvC t = gvC s := by
  simp only [Bool.and_eq_true] at hq
  obtain ⟨⟨⟨⟨⟨⟨⟨q1, q2⟩, q3⟩, q4⟩, q5⟩, q6⟩, q7⟩, q8⟩ := hq
  unfold gvC
  rw [h.1 3 q1, h.1 4 q2, h.1 5 q3, h.1 6 q4, h.1 7 q5, h.1 8 q6, h.2.2.1 2 1 q7, h.2.2.1 2 0 q8]
theorem tq_fr {s t : GS} {L : FM} (hT : TQ s) (h : Fr L s t) (hq : (qI L.1 4 && qF L.2.2.1 2 3) = true) : TQ t := by
  rw [Bool.and_eq_true] at hq
  exact tq_cg hT (h.1 4 hq.1) (h.2.2.1 2 3 hq.2)
/-! the reference's -/
/-- what the change k of the reference's log does to its graph g, row by row -/
def RP (s t : GS) (k g : Nat) : Prop :=
  ((s.1 118 k).toInt = 0 → t.1 111 = upd (s.1 111) (32 * g + (s.1 110 g).toNatClampNeg) (s.1 119 k) ∧ t.1 112 = s.1 112 ∧ t.1 113 = s.1 113 ∧ t.1 114 = s.1 114 ∧ t.1 115 = s.1 115 ∧ t.1 116 = s.1 116 ∧ t.1 117 = s.1 117) ∧
  ((s.1 118 k).toInt = 1 → t.1 111 = s.1 111 ∧ (∃ v : Int32, v.toInt ≠ 0 ∧ t.1 112 = upd (s.1 112) (160 * g + (s.1 119 k).toNatClampNeg) (v)) ∧ t.1 113 = upd (s.1 113) (160 * g + (s.1 119 k).toNatClampNeg) (s.1 120 k) ∧ t.1 114 = upd (s.1 114) (160 * g + (s.1 119 k).toNatClampNeg) (s.1 121 k) ∧ t.1 115 = upd (s.1 115) (160 * g + (s.1 119 k).toNatClampNeg) (s.1 122 k) ∧ t.1 116 = upd (s.1 116) (160 * g + (s.1 119 k).toNatClampNeg) (s.1 123 k) ∧ t.1 117 = upd (s.1 117) (160 * g + (s.1 119 k).toNatClampNeg) (s.1 124 k)) ∧
  ((s.1 118 k).toInt = 2 → t.1 111 = s.1 111 ∧ (∃ v : Int32, v.toInt = 0 ∧ t.1 112 = upd (s.1 112) (160 * g + (s.1 119 k).toNatClampNeg) (v)) ∧ t.1 113 = s.1 113 ∧ t.1 114 = s.1 114 ∧ t.1 115 = s.1 115 ∧ t.1 116 = s.1 116 ∧ t.1 117 = s.1 117) ∧
  ((s.1 118 k).toInt = 3 → t.1 111 = s.1 111 ∧ t.1 112 = s.1 112 ∧ t.1 113 = s.1 113 ∧ t.1 114 = s.1 114 ∧ t.1 115 = (if (s.1 120 k).toInt = 0 then upd (s.1 115) (160 * g + (s.1 119 k).toNatClampNeg) (s.1 121 k) else s.1 115) ∧ t.1 116 = (if (s.1 120 k).toInt = 1 then upd (s.1 116) (160 * g + (s.1 119 k).toNatClampNeg) (s.1 121 k) else s.1 116) ∧ t.1 117 = (if (s.1 120 k).toInt ≠ 0 ∧ (s.1 120 k).toInt ≠ 1 then upd (s.1 117) (160 * g + (s.1 119 k).toNatClampNeg) (s.1 121 k) else s.1 117)) ∧
  ((s.1 118 k).toInt = 4 → t.1 111 = upd (s.1 111) (32 * g + (s.1 119 k).toNatClampNeg) (s.1 120 k) ∧ t.1 112 = s.1 112 ∧ t.1 113 = s.1 113 ∧ t.1 114 = s.1 114 ∧ t.1 115 = s.1 115 ∧ t.1 116 = s.1 116 ∧ t.1 117 = s.1 117)
section RP
variable {s t : GS} {k g j : Nat}
theorem rp_0 {v : Int32} (h0 : (s.1 118 k).toInt = 0) (hj : j = 32 * g + (s.1 110 g).toNatClampNeg) (hv : v = s.1 119 k) (h1 : t.1 111 = upd (s.1 111) j v) (h2 : t.1 112 = s.1 112) (h3 : t.1 113 = s.1 113) (h4 : t.1 114 = s.1 114) (h5 : t.1 115 = s.1 115) (h6 : t.1 116 = s.1 116) (h7 : t.1 117 = s.1 117) : RP s t k g := by
  subst hj hv
  exact ⟨fun _ => ⟨h1, h2, h3, h4, h5, h6, h7⟩, fun h => absurd h (by omega), fun h => absurd h (by omega), fun h => absurd h (by omega), fun h => absurd h (by omega)⟩
theorem rp_1 {v b c d e f : Int32} (h0 : (s.1 118 k).toInt = 1) (hj : j = 160 * g + (s.1 119 k).toNatClampNeg) (hv : v.toInt ≠ 0) (hb : b = s.1 120 k) (hc : c = s.1 121 k) (hd : d = s.1 122 k) (he : e = s.1 123 k) (hf : f = s.1 124 k) (h1 : t.1 111 = s.1 111) (h2 : t.1 112 = upd (s.1 112) j v) (h3 : t.1 113 = upd (s.1 113) j b) (h4 : t.1 114 = upd (s.1 114) j c) (h5 : t.1 115 = upd (s.1 115) j d) (h6 : t.1 116 = upd (s.1 116) j e) (h7 : t.1 117 = upd (s.1 117) j f) : RP s t k g := by
  subst hj hb hc hd he hf
  exact ⟨fun h => absurd h (by omega), fun _ => ⟨h1, ⟨v, hv, h2⟩, h3, h4, h5, h6, h7⟩, fun h => absurd h (by omega), fun h => absurd h (by omega), fun h => absurd h (by omega)⟩
theorem rp_2 {v : Int32} (h0 : (s.1 118 k).toInt = 2) (hj : j = 160 * g + (s.1 119 k).toNatClampNeg) (hv : v.toInt = 0) (h1 : t.1 111 = s.1 111) (h2 : t.1 112 = upd (s.1 112) j v) (h3 : t.1 113 = s.1 113) (h4 : t.1 114 = s.1 114) (h5 : t.1 115 = s.1 115) (h6 : t.1 116 = s.1 116) (h7 : t.1 117 = s.1 117) : RP s t k g := by
  subst hj
  exact ⟨fun h => absurd h (by omega), fun h => absurd h (by omega), fun _ => ⟨h1, ⟨v, hv, h2⟩, h3, h4, h5, h6, h7⟩, fun h => absurd h (by omega), fun h => absurd h (by omega)⟩
theorem rp_3 (h0 : (s.1 118 k).toInt = 3) (h1 : t.1 111 = s.1 111) (h2 : t.1 112 = s.1 112) (h3 : t.1 113 = s.1 113) (h4 : t.1 114 = s.1 114) (h5 : t.1 115 = (if (s.1 120 k).toInt = 0 then upd (s.1 115) (160 * g + (s.1 119 k).toNatClampNeg) (s.1 121 k) else s.1 115)) (h6 : t.1 116 = (if (s.1 120 k).toInt = 1 then upd (s.1 116) (160 * g + (s.1 119 k).toNatClampNeg) (s.1 121 k) else s.1 116)) (h7 : t.1 117 = (if (s.1 120 k).toInt ≠ 0 ∧ (s.1 120 k).toInt ≠ 1 then upd (s.1 117) (160 * g + (s.1 119 k).toNatClampNeg) (s.1 121 k) else s.1 117)) : RP s t k g :=
  ⟨fun h => absurd h (by omega), fun h => absurd h (by omega), fun h => absurd h (by omega), fun _ => ⟨h1, h2, h3, h4, h5, h6, h7⟩, fun h => absurd h (by omega)⟩
theorem rp_4 {v : Int32} (h0 : (s.1 118 k).toInt = 4) (hj : j = 32 * g + (s.1 119 k).toNatClampNeg) (hv : v = s.1 120 k) (h1 : t.1 111 = upd (s.1 111) j v) (h2 : t.1 112 = s.1 112) (h3 : t.1 113 = s.1 113) (h4 : t.1 114 = s.1 114) (h5 : t.1 115 = s.1 115) (h6 : t.1 116 = s.1 116) (h7 : t.1 117 = s.1 117) : RP s t k g := by
  subst hj hv
  exact ⟨fun h => absurd h (by omega), fun h => absurd h (by omega), fun h => absurd h (by omega), fun h => absurd h (by omega), fun _ => ⟨h1, h2, h3, h4, h5, h6, h7⟩⟩
end RP
/-- from, where an arc is there -/
def thf (th fr : Nat → Int32) : Nat → Int32 := fun p => if (th p).toInt = 0 then Int32.ofInt (-1) else fr p
theorem thf_up {th fr : Nat → Int32} {p : Nat} {v a : Int32} (hv : v.toInt ≠ 0) : thf (upd th p v) (upd fr p a) = upd (thf th fr) p a := by
  funext q
  unfold thf
  by_cases c : q = p
  · subst c
    rw [ug_at, ug_at, ug_at, if_neg hv]
  · rw [ug_ne c, ug_ne c, ug_ne c]
theorem thf_dn {th fr : Nat → Int32} {p : Nat} {v : Int32} (hv : v.toInt = 0) : thf (upd th p v) fr = upd (thf th fr) p (Int32.ofInt (-1)) := by
  funext q
  unfold thf
  by_cases c : q = p
  · subst c
    rw [ug_at, ug_at, if_pos hv]
  · rw [ug_ne c, ug_ne c]
def gvR (s : GS) : GVW := (s.1 111, thf (s.1 112) (s.1 113), s.1 114, s.1 115, s.1 116, s.1 117, (s.1 110 0).toInt, (s.2.2.1 109 9).toInt)
def MKP (s t : GS) (w a b c d e f : Int32) : Prop := (w.toInt = 0 → gvR t = gqN (gvR s) (s.1 110 0).toNatClampNeg a) ∧ (w.toInt = 1 → gvR t = gqA (gvR s) a.toNatClampNeg b c d e f) ∧ (w.toInt = 2 → gvR t = gqD (gvR s) a.toNatClampNeg) ∧ (w.toInt = 3 → gvR t = gqW (gvR s) a.toNatClampNeg b c) ∧ (w.toInt = 4 → gvR t = gqL (gvR s) a.toNatClampNeg b)
theorem gvR_mk {t : GS} {a b c d e f : Nat → Int32} {n v : Int} (h1 : t.1 111 = a) (h2 : thf (t.1 112) (t.1 113) = b) (h3 : t.1 114 = c) (h4 : t.1 115 = d) (h5 : t.1 116 = e) (h6 : t.1 117 = f) (h7 : (t.1 110 0).toInt = n) (h8 : (t.2.2.1 109 9).toInt = v) : gvR t = (a, b, c, d, e, f, n, v) := by
  unfold gvR
  rw [h1, h2, h3, h4, h5, h6, h7, h8]
theorem mkp_i {s u v t : GS} {ch : Nat} {w a b c d e f : Int32} (hm : PMK s t w.toInt a.toNatClampNeg) (hp : RP u v ch 0) (w1 : u.1 118 ch = w) (w2 : u.1 119 ch = a) (w3 : u.1 120 ch = b) (w4 : u.1 121 ch = c) (w5 : u.1 122 ch = d) (w6 : u.1 123 ch = e) (w7 : u.1 124 ch = f) (r0 : u.1 110 = s.1 110) (r1 : u.1 111 = s.1 111) (r2 : u.1 112 = s.1 112) (r3 : u.1 113 = s.1 113) (r4 : u.1 114 = s.1 114) (r5 : u.1 115 = s.1 115) (r6 : u.1 116 = s.1 116) (r7 : u.1 117 = s.1 117) (ht : t.1 = v.1) (hc : (t.2.2.1 109 9).toInt = (s.2.2.1 109 9).toInt + 1) : MKP s t w a b c d e f := by
  unfold RP at hp
  rw [w1, w2, w3, w4, w5, w6, w7, r0, r1, r2, r3, r4, r5, r6, r7, ← ht] at hp
  obtain ⟨p0, p1, p2, p3, p4⟩ := hp
  simp only [Nat.mul_zero, Nat.zero_add] at p0 p1 p2 p3 p4
  refine ⟨fun h => ?_, fun h => ?_, fun h => ?_, fun h => ?_, fun h => ?_⟩
  · obtain ⟨g1, g2, g3, g4, g5, g6, g7⟩ := p0 h
    exact gvR_mk g1 (by rw [g2, g3]; rfl) g4 g5 g6 g7 (hm.1 h) hc
  · obtain ⟨g1, ⟨x, hx, g2⟩, g3, g4, g5, g6, g7⟩ := p1 h
    exact gvR_mk g1 (by rw [g2, g3]; exact thf_up hx) g4 g5 g6 g7 (hm.2.1 (by omega)) hc
  · obtain ⟨g1, ⟨x, hx, g2⟩, g3, g4, g5, g6, g7⟩ := p2 h
    exact gvR_mk g1 (by rw [g2, g3]; exact thf_dn hx) g4 g5 g6 g7 (hm.2.1 (by omega)) hc
  · obtain ⟨g1, g2, g3, g4, g5, g6, g7⟩ := p3 h
    exact gvR_mk g1 (by rw [g2, g3]; rfl) g4 g5 g6 g7 (hm.2.1 (by omega)) hc
  · obtain ⟨g1, g2, g3, g4, g5, g6, g7⟩ := p4 h
    exact gvR_mk g1 (by rw [g2, g3]; rfl) g4 g5 g6 g7 (hm.2.1 (by omega)) hc
theorem gvR_cg {s t : GS} {L : FM} (h : Fr L s t) (hq : (qI L.1 110 && qI L.1 111 && qI L.1 112 && qI L.1 113 && qI L.1 114 && qI L.1 115 && qI L.1 116 && qI L.1 117 && qF L.2.2.1 109 9) = true) : gvR t = gvR s := by
  simp only [Bool.and_eq_true] at hq
  obtain ⟨⟨⟨⟨⟨⟨⟨⟨q0, q1⟩, q2⟩, q3⟩, q4⟩, q5⟩, q6⟩, q7⟩, q8⟩ := hq
  unfold gvR
  rw [h.1 110 q0, h.1 111 q1, h.1 112 q2, h.1 113 q3, h.1 114 q4, h.1 115 q5, h.1 116 q6, h.1 117 q7, h.2.2.1 109 9 q8]
/-- a place with an arc, a node of the reference -/
def HAR (s : GS) (x : Int32) : Prop := 0 ≤ x.toInt ∧ x.toInt ≤ 159 ∧ (s.1 112 x.toNatClampNeg).toInt ≠ 0
def HNR (s : GS) (x : Int32) : Prop := 0 ≤ x.toInt ∧ x.toInt < (s.1 110 0).toInt
/-- code and answer of a call that may be refused: P the arguments are good, Q the time is -/
def CDR (s t : GS) (P Q R : Prop) : Prop := ((t.2.2.1 109 0).toInt = 1 ∧ ¬ P ∧ gvR t = gvR s) ∨ ((t.2.2.1 109 0).toInt = 2 ∧ P ∧ ¬ Q ∧ gvR t = gvR s) ∨ ((t.2.2.1 109 0).toInt = 0 ∧ P ∧ Q ∧ R)
end
section
/-! TOKENS OF A TEXT OF COMMANDS -/
def tkD (c : Int32) : Prop := 48 ≤ c.toInt ∧ c.toInt ≤ 57
/-- blanks from a on, up to p -/
def tkS (T : Nat → Int32) (n a p : Nat) : Prop := a ≤ p ∧ p ≤ n ∧ (∀ i, a ≤ i → i < p → (T i).toInt = 32) ∧ (p < n → (T p).toInt ≠ 32)
/-- digits from a on, up to p -/
def tkG (T : Nat → Int32) (n a p : Nat) : Prop := a ≤ p ∧ p ≤ n ∧ (∀ i, a ≤ i → i < p → tkD (T i)) ∧ (p < n → ¬ tkD (T p))
/-- the number of the k digits from a on -/
def tkN (T : Nat → Int32) (a : Nat) : Nat → Int
  | 0 => 0
  | k + 1 => 10 * tkN T a k + ((T (a + k)).toInt - 48)
/-- where the digits of a number at p begin -/
def tkQ (T : Nat → Int32) (n p q : Nat) : Prop := (q = p ∧ p < n ∧ tkD (T p)) ∨ (q = p + 1 ∧ (T p).toInt = 45 ∧ p + 1 < n ∧ tkD (T (p + 1)))
def tkL (c : Int32) : Prop := 97 ≤ c.toInt ∧ c.toInt ≤ 122
/-- the token from a on: its place p, its end e, its kind k (0 none, 1 letter, 2 number, 3 semicolon, 4 no token, 5 too long), its value v -/
def TKN (T : Nat → Int32) (n a p e : Nat) (k v : Int) : Prop := tkS T n a p ∧
  ((p = n ∧ e = p ∧ k = 0) ∨
   (p < n ∧ tkL (T p) ∧ e = p + 1 ∧ k = 1 ∧ v = (T p).toInt - 97) ∨
   (∃ q, tkQ T n p q ∧ tkG T n q e ∧ ((e - q ≤ 7 ∧ k = 2 ∧ v = (if q = p then tkN T q (e - q) else - tkN T q (e - q))) ∨ (7 < e - q ∧ k = 5))) ∨
   (p < n ∧ (T p).toInt = 59 ∧ e = p + 1 ∧ k = 3 ∧ v = 59) ∨
   (p < n ∧ ¬ tkL (T p) ∧ (T p).toInt ≠ 59 ∧ (∀ q, ¬ tkQ T n p q) ∧ e = p + 1 ∧ k = 4))
section TKU
variable {T : Nat → Int32} {n a : Nat}
theorem tkS_u {p q : Nat} (h : tkS T n a p) (g : tkS T n a q) : p = q := by
  obtain ⟨h1, h2, h3, h4⟩ := h
  obtain ⟨g1, g2, g3, g4⟩ := g
  rcases Nat.lt_trichotomy p q with c | c | c
  · exact absurd (g3 p h1 c) (h4 (by omega))
  · exact c
  · exact absurd (h3 q g1 c) (g4 (by omega))
theorem tkG_u {p q : Nat} (h : tkG T n a p) (g : tkG T n a q) : p = q := by
  obtain ⟨h1, h2, h3, h4⟩ := h
  obtain ⟨g1, g2, g3, g4⟩ := g
  rcases Nat.lt_trichotomy p q with c | c | c
  · exact absurd (g3 p h1 c) (h4 (by omega))
  · exact c
  · exact absurd (h3 q g1 c) (g4 (by omega))
theorem tkQ_u {p q r : Nat} (h : tkQ T n p q) (g : tkQ T n p r) : q = r := by
  rcases h with ⟨h1, h2, h3⟩ | ⟨h1, h2, h3, h4⟩ <;> rcases g with ⟨g1, g2, g3⟩ | ⟨g1, g2, g3, g4⟩
  · omega
  · have := h3.1; have := h3.2; omega
  · have := g3.1; have := g3.2; omega
  · omega
theorem tkQ_l {p q : Nat} (h : tkQ T n p q) : p < n ∧ ¬ tkL (T p) ∧ (T p).toInt ≠ 59 := by
  unfold tkL
  rcases h with ⟨h1, h2, h3⟩ | ⟨h1, h2, h3, h4⟩
  · have := h3.1; have := h3.2; exact ⟨h2, by omega, by omega⟩
  · exact ⟨by omega, by omega, by omega⟩
/-- a place has one token -/
theorem tkn_u {p e p2 e2 : Nat} {k v k2 v2 : Int} (h : TKN T n a p e k v) (g : TKN T n a p2 e2 k2 v2) : p = p2 ∧ e = e2 ∧ k = k2 ∧ ((k = 1 ∨ k = 2) → v = v2) := by
  obtain ⟨hs, h⟩ := h
  obtain ⟨gs, g⟩ := g
  have ep := tkS_u hs gs
  subst ep
  refine ⟨rfl, ?_⟩
  rcases h with ⟨h1, h2, h3⟩ | ⟨h1, h2, h3, h4, h5⟩ | ⟨q, h1, h2, h3⟩ | ⟨h1, h2, h3, h4, -⟩ | ⟨h1, h2, h3, h4, h5, h6⟩ <;> rcases g with ⟨g1, g2, g3⟩ | ⟨g1, g2, g3, g4, g5⟩ | ⟨r, g1, g2, g3⟩ | ⟨g1, g2, g3, g4, -⟩ | ⟨g1, g2, g3, g4, g5, g6⟩
  · exact ⟨by omega, by omega, fun c => by omega⟩
  · omega
  · have := (tkQ_l g1).1; omega
  · omega
  · omega
  · omega
  · exact ⟨by omega, by omega, fun _ => by omega⟩
  · exact absurd h2 (tkQ_l g1).2.1
  · unfold tkL at h2; omega
  · exact absurd h2 g2
  · have := (tkQ_l h1).1; omega
  · exact absurd g2 (tkQ_l h1).2.1
  · have er := tkQ_u h1 g1
    subst er
    have ee := tkG_u h2 g2
    subst ee
    rcases h3 with ⟨a1, a2, a3⟩ | ⟨a1, a2⟩ <;> rcases g3 with ⟨b1, b2, b3⟩ | ⟨b1, b2⟩
    · exact ⟨rfl, by omega, fun _ => by rw [a3, b3]⟩
    · omega
    · omega
    · exact ⟨rfl, by omega, fun c => by omega⟩
  · exact absurd g2 (tkQ_l h1).2.2
  · exact absurd h1 (g4 q)
  · omega
  · unfold tkL at g2; omega
  · exact absurd h2 (tkQ_l g1).2.2
  · exact ⟨by omega, by omega, fun c => by omega⟩
  · exact absurd h2 g3
  · omega
  · exact absurd g2 h2
  · exact absurd g1 (h4 r)
  · exact absurd g2 h3
  · exact ⟨by omega, by omega, fun c => by omega⟩
theorem tkn_e {p e : Nat} {k v : Int} (h : TKN T n a p e k v) : a ≤ p ∧ p ≤ e ∧ e ≤ n ∧ (k ≠ 0 → p < e) ∧ 0 ≤ k ∧ k ≤ 5 := by
  obtain ⟨⟨s1, s2, -, -⟩, h⟩ := h
  rcases h with ⟨h1, h2, h3⟩ | ⟨h1, h2, h3, h4, h5⟩ | ⟨q, h1, h2, h3⟩ | ⟨h1, h2, h3, h4, -⟩ | ⟨h1, h2, h3, h4, h5, h6⟩
  · exact ⟨s1, by omega, by omega, fun c => absurd h3 c, by omega, by omega⟩
  · exact ⟨s1, by omega, by omega, fun c => by omega, by omega, by omega⟩
  · obtain ⟨g1, g2, g3, g4⟩ := h2
    have hq : p ≤ q ∧ p < e := by
      rcases h1 with ⟨c1, c2, c3⟩ | ⟨c1, c2, c3, c4⟩
      · refine ⟨by omega, ?_⟩
        rcases Nat.lt_or_ge p e with c | c
        · exact c
        · exact absurd (by rw [c1] at g1; rw [show e = p by omega]; exact c3) (g4 (by omega))
      · exact ⟨by omega, by omega⟩
    exact ⟨s1, by omega, by omega, fun _ => hq.2, by omega, by omega⟩
  · exact ⟨s1, by omega, by omega, fun c => by omega, by omega, by omega⟩
  · exact ⟨s1, by omega, by omega, fun c => by omega, by omega, by omega⟩
end TKU
section TKI
variable {T : Nat → Int32} {n a p e : Nat} {k v : Int}
theorem tkn_0 (hs : tkS T n a p) (h : p = n) (he : e = p) (hk : k = 0) : TKN T n a p e k v := ⟨hs, Or.inl ⟨h, he, hk⟩⟩
theorem tkn_1 (hs : tkS T n a p) (h : p < n) (hl : tkL (T p)) (he : e = p + 1) (hk : k = 1) (hv : v = (T p).toInt - 97) : TKN T n a p e k v := ⟨hs, Or.inr (Or.inl ⟨h, hl, he, hk, hv⟩)⟩
theorem tkn_2 {q : Nat} {x : Int} (hs : tkS T n a p) (hq : tkQ T n p q) (hx : x = 0 ↔ q = p) (h : tkG T n q e ∧ ((e - q ≤ 7 ∧ k = 2 ∧ v = (if x = 0 then tkN T q (e - q) else - tkN T q (e - q))) ∨ (7 < e - q ∧ k = 5))) : TKN T n a p e k v := by
  refine ⟨hs, Or.inr (Or.inr (Or.inl ⟨q, hq, h.1, ?_⟩))⟩
  rcases h.2 with ⟨h1, h2, h3⟩ | h2
  · refine Or.inl ⟨h1, h2, ?_⟩
    rw [h3]
    by_cases c : x = 0
    · rw [if_pos c, if_pos (hx.mp c)]
    · rw [if_neg c, if_neg (fun z => c (hx.mpr z))]
  · exact Or.inr h2
theorem tkn_3 (hs : tkS T n a p) (h : p < n) (hc : (T p).toInt = 59) (he : e = p + 1) (hk : k = 3) (hv : v = 59) : TKN T n a p e k v := ⟨hs, Or.inr (Or.inr (Or.inr (Or.inl ⟨h, hc, he, hk, hv⟩)))⟩
theorem tkn_4 (hs : tkS T n a p) (h : p < n) (hl : ¬ tkL (T p)) (hc : (T p).toInt ≠ 59) (hq : ∀ q, ¬ tkQ T n p q) (he : e = p + 1) (hk : k = 4) : TKN T n a p e k v := ⟨hs, Or.inr (Or.inr (Or.inr (Or.inr ⟨h, hl, hc, hq, he, hk⟩)))⟩
theorem nq_1 (h : ¬ tkD (T p)) (hm : (T p).toInt ≠ 45) : ∀ q, ¬ tkQ T n p q := by
  intro q hq
  rcases hq with ⟨-, -, h3⟩ | ⟨-, h2, -⟩
  · exact h h3
  · exact hm h2
theorem nq_2 (h : (T p).toInt = 45) (hn : p + 1 < n → ¬ tkD (T (p + 1))) : ∀ q, ¬ tkQ T n p q := by
  intro q hq
  rcases hq with ⟨-, -, h3⟩ | ⟨-, -, h3, h4⟩
  · have := h3.1; omega
  · exact hn h3 h4
/-- a semicolon is 59, a letter is below 26 -/
theorem tkn_v3 (h : TKN T n a p e k v) (hk : k = 3) : v = 59 := by
  rcases h.2 with ⟨h1, h2, h3⟩ | ⟨h1, h2, h3, h4, h5⟩ | ⟨q, h1, h2, h3⟩ | ⟨h1, h2, h3, h4, h5⟩ | ⟨h1, h2, h3, h4, h5, h6⟩
  · omega
  · omega
  · rcases h3 with ⟨a1, a2, a3⟩ | ⟨a1, a2⟩ <;> omega
  · exact h5
  · omega
theorem tkn_v1 (h : TKN T n a p e k v) (hk : k = 1) : 0 ≤ v ∧ v ≤ 25 := by
  rcases h.2 with ⟨h1, h2, h3⟩ | ⟨h1, h2, h3, h4, h5⟩ | ⟨q, h1, h2, h3⟩ | ⟨h1, h2, h3, h4, h5⟩ | ⟨h1, h2, h3, h4, h5, h6⟩
  · omega
  · have := h2.1; have := h2.2; omega
  · rcases h3 with ⟨a1, a2, a3⟩ | ⟨a1, a2⟩ <;> omega
  · omega
  · omega
/-- a number has been read -/
theorem rdn_i {q : Nat} {d y x : Int} (h1 : q ≤ e) (h2 : e ≤ n) (hd : ∀ i, q ≤ i → i < e → tkD (T i)) (hn : e < n → ¬ tkD (T e)) (ed : d = (e : Int) - q) (hy : d ≤ 7 → y = tkN T q d.toNat) (hk : (d ≤ 7 ∧ k = 2) ∨ (7 < d ∧ k = 5)) (hv : v = (if x = 0 then y else - y)) : tkG T n q e ∧ ((e - q ≤ 7 ∧ k = 2 ∧ v = (if x = 0 then tkN T q (e - q) else - tkN T q (e - q))) ∨ (7 < e - q ∧ k = 5)) := by
  refine ⟨⟨h1, h2, hd, hn⟩, ?_⟩
  have en : d.toNat = e - q := by omega
  rcases hk with ⟨k1, k2⟩ | ⟨k1, k2⟩
  · refine Or.inl ⟨by omega, k2, ?_⟩
    rw [hv, hy k1, en]
  · exact Or.inr ⟨by omega, k2⟩
end TKI
theorem t_ngf {z x : Int32} (hz : z = -x) (hx : In x 0 9999999) : z.toInt = -x.toInt := by
  obtain ⟨x1, x2⟩ := hx
  rw [hz, Int32.toInt_neg]
  exact Int.bmod_eq_of_le (by omega) (by omega)
/-- the i-th token from a on -/
def TSQ (T : Nat → Int32) (n a : Nat) : Nat → Nat → Nat → Int → Int → Prop
  | 0, p, e, k, v => TKN T n a p e k v
  | i + 1, p, e, k, v => ∃ p0 e0 k0 v0, TSQ T n a i p0 e0 k0 v0 ∧ TKN T n e0 p e k v
theorem tsq_u {T : Nat → Int32} {n a : Nat} : ∀ (i : Nat) {p e p2 e2 : Nat} {k v k2 v2 : Int}, TSQ T n a i p e k v → TSQ T n a i p2 e2 k2 v2 → p = p2 ∧ e = e2 ∧ k = k2 ∧ ((k = 1 ∨ k = 2) → v = v2)
  | 0, _, _, _, _, _, _, _, _, h, g => tkn_u h g
  | i + 1, _, _, _, _, _, _, _, _, ⟨_, _, _, _, h1, h2⟩, ⟨_, _, _, _, g1, g2⟩ => by
    have hh := (tsq_u i h1 g1).2.1
    subst hh
    exact tkn_u h2 g2
/-- how many things a command wants, and of which kind -/
def cmA (c : Int) : Nat := if c = 13 then 1 else if c = 0 then 5 else if c = 19 then 1 else 2
def cmI (c : Int) : Prop := c = 13 ∨ c = 0 ∨ c = 19 ∨ c = 22
def cmK (c : Int) (i : Nat) : Int := if i = cmA c + 1 then 3 else if (c = 13 ∧ i = 1) ∨ (c = 0 ∧ i = 5) then 1 else 2
def cmF (k : Int) : Int := if k = 4 then 1 else if k = 5 then 3 else 2
/-- a command c with the values V, from a to e; its place p -/
def CMP (T : Nat → Int32) (n a p : Nat) (c : Int) (V : Nat → Int) (e : Nat) : Prop := cmI c ∧ (∃ e0, TSQ T n a 0 p e0 1 c) ∧ (∀ i, i < cmA c → ∃ q f, TSQ T n a (i + 1) q f (cmK c (i + 1)) (V i)) ∧ ∃ q v, TSQ T n a (cmA c + 1) q e 3 v
/-- no command from a on: fault f at place p -/
def CMX (T : Nat → Int32) (n a : Nat) (f : Int) (p : Nat) : Prop :=
  (∃ e k v, TSQ T n a 0 p e k v ∧ k ≠ 0 ∧ ¬ (k = 1 ∧ cmI v) ∧ f = cmF k) ∨
  (∃ c p0 e0, cmI c ∧ TSQ T n a 0 p0 e0 1 c ∧ ∃ i, i ≤ cmA c ∧ (∀ j, j < i → ∃ q g w, TSQ T n a (j + 1) q g (cmK c (j + 1)) w) ∧ ∃ e k v, TSQ T n a (i + 1) p e k v ∧ k ≠ cmK c (i + 1) ∧ f = cmF k)
theorem cmp_u {T : Nat → Int32} {n a p p2 e e2 : Nat} {c c2 : Int} {V V2 : Nat → Int} (h : CMP T n a p c V e) (g : CMP T n a p2 c2 V2 e2) : p = p2 ∧ c = c2 ∧ e = e2 ∧ ∀ i, i < cmA c → V i = V2 i := by
  obtain ⟨h1, ⟨e0, h2⟩, h3, q, v, h4⟩ := h
  obtain ⟨g1, ⟨f0, g2⟩, g3, r, w, g4⟩ := g
  have u0 := tsq_u 0 h2 g2
  have uc := u0.2.2.2 (Or.inl rfl)
  subst uc
  refine ⟨u0.1, rfl, (tsq_u _ h4 g4).2.1, fun i hi => ?_⟩
  obtain ⟨q1, f1, k1⟩ := h3 i hi
  obtain ⟨q2, f2, k2⟩ := g3 i hi
  refine (tsq_u _ k1 k2).2.2.2 ?_
  unfold cmK
  rw [if_neg (by omega)]
  by_cases cc : (c = 13 ∧ i + 1 = 1) ∨ (c = 0 ∧ i + 1 = 5)
  · rw [if_pos cc]; exact Or.inl rfl
  · rw [if_neg cc]; exact Or.inr rfl
theorem cmx_n {T : Nat → Int32} {n a p p2 e : Nat} {c f : Int} {V : Nat → Int} (h : CMP T n a p c V e) (g : CMX T n a f p2) : False := by
  obtain ⟨h1, ⟨e0, h2⟩, h3, q, v, h4⟩ := h
  rcases g with ⟨e1, k, w, g1, g2, g3, g4⟩ | ⟨c2, p0, f0, g1, g2, i, g3, g4, e1, k, w, g5, g6, g7⟩
  · have u0 := tsq_u 0 h2 g1
    exact g3 ⟨u0.2.2.1.symm, by rw [← u0.2.2.2 (Or.inl rfl)]; exact h1⟩
  · have u0 := tsq_u 0 h2 g2
    have uc := u0.2.2.2 (Or.inl rfl)
    subst uc
    rcases Nat.lt_or_ge i (cmA c) with ci | ci
    · obtain ⟨q1, f1, k1⟩ := h3 i ci
      exact g6 (tsq_u _ k1 g5).2.2.1.symm
    · have ei : i = cmA c := by omega
      subst ei
      refine g6 ?_
      rw [← (tsq_u _ h4 g5).2.2.1]
      unfold cmK
      rw [if_pos rfl]
theorem cmx_u {T : Nat → Int32} {n a p p2 : Nat} {f f2 : Int} (h : CMX T n a f p) (g : CMX T n a f2 p2) : f = f2 ∧ p = p2 := by
  rcases h with ⟨e1, k1, w1, h1, h2, h3, h4⟩ | ⟨c1, p1, f1, h1, h2, i1, h3, h4, e1, k1, w1, h5, h6, h7⟩ <;> rcases g with ⟨e2, k2, w2, g1, g2, g3, g4⟩ | ⟨c2, q2, r2, g1, g2, i2, g3, g4, e2, k2, w2, g5, g6, g7⟩
  · have u := tsq_u 0 h1 g1
    exact ⟨by rw [h4, g4, u.2.2.1], u.1⟩
  · have u := tsq_u 0 h1 g2
    exact absurd ⟨u.2.2.1, by rw [u.2.2.2 (Or.inl u.2.2.1)]; exact g1⟩ h3
  · have u := tsq_u 0 g1 h2
    exact absurd ⟨u.2.2.1, by rw [u.2.2.2 (Or.inl u.2.2.1)]; exact h1⟩ g3
  · have u0 := tsq_u 0 h2 g2
    have uc := u0.2.2.2 (Or.inl rfl)
    subst uc
    rcases Nat.lt_trichotomy i1 i2 with ci | ci | ci
    · obtain ⟨q, r, w, k⟩ := g4 i1 ci
      exact absurd (tsq_u _ h5 k).2.2.1 h6
    · subst ci
      have u := tsq_u _ h5 g5
      exact ⟨by rw [h7, g7, u.2.2.1], u.1⟩
    · obtain ⟨q, r, w, k⟩ := h4 i2 ci
      exact absurd (tsq_u _ g5 k).2.2.1 g6
/-- the text ends from a on -/
def CME (T : Nat → Int32) (n a : Nat) : Prop := ∃ p e v, TSQ T n a 0 p e 0 v
theorem cme_p {T : Nat → Int32} {n a p e : Nat} {c : Int} {V : Nat → Int} (h : CME T n a) (g : CMP T n a p c V e) : False := by
  obtain ⟨p1, e1, v1, h⟩ := h
  obtain ⟨-, ⟨e0, g2⟩, -⟩ := g
  have := (tsq_u 0 h g2).2.2.1
  omega
theorem cme_x {T : Nat → Int32} {n a p : Nat} {f : Int} (h : CME T n a) (g : CMX T n a f p) : False := by
  obtain ⟨p1, e1, v1, h⟩ := h
  rcases g with ⟨e2, k, w, g1, g2, g3, g4⟩ | ⟨c2, p0, f0, g1, g2, -⟩
  · exact g2 (tsq_u 0 h g1).2.2.1.symm
  · have := (tsq_u 0 h g2).2.2.1
    omega
end
section
/-! WHAT A TEXT OF COMMANDS DOES TO A GRAPH -/
section CG
variable {T U : Nat → Int32} {n : Nat}
theorem tkS_cg {a p : Nat} (hT : ∀ i, i < n → T i = U i) (h : tkS T n a p) : tkS U n a p := by
  obtain ⟨h1, h2, h3, h4⟩ := h
  exact ⟨h1, h2, fun i hi hp => by rw [← hT i (by omega)]; exact h3 i hi hp, fun hp => by rw [← hT p hp]; exact h4 hp⟩
theorem tkG_cg {a p : Nat} (hT : ∀ i, i < n → T i = U i) (h : tkG T n a p) : tkG U n a p := by
  obtain ⟨h1, h2, h3, h4⟩ := h
  exact ⟨h1, h2, fun i hi hp => by rw [← hT i (by omega)]; exact h3 i hi hp, fun hp => by rw [← hT p hp]; exact h4 hp⟩
theorem tkN_cg {a : Nat} (hT : ∀ i, i < n → T i = U i) : ∀ k, a + k ≤ n → tkN U a k = tkN T a k
  | 0, _ => rfl
  | k + 1, h => by
    unfold tkN
    rw [tkN_cg hT k (by omega), hT (a + k) (by omega)]
theorem tkQ_cg {p q : Nat} (hT : ∀ i, i < n → T i = U i) (h : tkQ T n p q) : tkQ U n p q := by
  rcases h with ⟨h1, h2, h3⟩ | ⟨h1, h2, h3, h4⟩
  · exact Or.inl ⟨h1, h2, by rw [← hT p h2]; exact h3⟩
  · exact Or.inr ⟨h1, by rw [← hT p (by omega)]; exact h2, h3, by rw [← hT (p + 1) h3]; exact h4⟩
theorem tkn_cg {a p e : Nat} {k v : Int} (hT : ∀ i, i < n → T i = U i) (h : TKN T n a p e k v) : TKN U n a p e k v := by
  obtain ⟨hs, h⟩ := h
  refine ⟨tkS_cg hT hs, ?_⟩
  rcases h with h | ⟨h1, h2, h3, h4, h5⟩ | ⟨q, h1, h2, h3⟩ | ⟨h1, h2, h3, h4, h5⟩ | ⟨h1, h2, h3, h4, h5, h6⟩
  · exact Or.inl h
  · exact Or.inr (Or.inl ⟨h1, by rw [← hT p h1]; exact h2, h3, h4, by rw [← hT p h1]; exact h5⟩)
  · refine Or.inr (Or.inr (Or.inl ⟨q, tkQ_cg hT h1, tkG_cg hT h2, ?_⟩))
    rcases h3 with ⟨a1, a2, a3⟩ | h3
    · refine Or.inl ⟨a1, a2, ?_⟩
      obtain ⟨g1, g2, -, -⟩ := h2
      rw [tkN_cg hT (e - q) (by omega)]
      exact a3
    · exact Or.inr h3
  · exact Or.inr (Or.inr (Or.inr (Or.inl ⟨h1, by rw [← hT p h1]; exact h2, h3, h4, h5⟩)))
  · exact Or.inr (Or.inr (Or.inr (Or.inr ⟨h1, by rw [← hT p h1]; exact h2, by rw [← hT p h1]; exact h3, fun q hq => h4 q (tkQ_cg (fun i hi => (hT i hi).symm) hq), h5, h6⟩)))
theorem tsq_cg {a : Nat} (hT : ∀ i, i < n → T i = U i) : ∀ (i : Nat) {p e : Nat} {k v : Int}, TSQ T n a i p e k v → TSQ U n a i p e k v
  | 0, _, _, _, _, h => tkn_cg hT h
  | i + 1, _, _, _, _, ⟨p0, e0, k0, v0, h1, h2⟩ => ⟨p0, e0, k0, v0, tsq_cg hT i h1, tkn_cg hT h2⟩
theorem cmp_cg {a p e : Nat} {c : Int} {V : Nat → Int} (hT : ∀ i, i < n → T i = U i) (h : CMP T n a p c V e) : CMP U n a p c V e := by
  obtain ⟨h1, ⟨e0, h2⟩, h3, q, v, h4⟩ := h
  exact ⟨h1, ⟨e0, tsq_cg hT 0 h2⟩, fun i hi => by
    obtain ⟨q, f, h⟩ := h3 i hi
    exact ⟨q, f, tsq_cg hT _ h⟩, q, v, tsq_cg hT _ h4⟩
theorem cmx_cg {a p : Nat} {f : Int} (hT : ∀ i, i < n → T i = U i) (h : CMX T n a f p) : CMX U n a f p := by
  rcases h with ⟨e1, k1, w1, h1, h2⟩ | ⟨c1, p1, f1, h1, h2, i1, h3, h4, e1, k1, w1, h5, h6⟩
  · exact Or.inl ⟨e1, k1, w1, tsq_cg hT 0 h1, h2⟩
  · exact Or.inr ⟨c1, p1, f1, h1, tsq_cg hT 0 h2, i1, h3, fun j hj => by
      obtain ⟨q, g, w, h⟩ := h4 j hj
      exact ⟨q, g, w, tsq_cg hT _ h⟩, e1, k1, w1, tsq_cg hT _ h5, h6⟩
theorem cme_cg {a : Nat} (hT : ∀ i, i < n → T i = U i) (h : CME T n a) : CME U n a := by
  obtain ⟨p, e, v, h⟩ := h
  exact ⟨p, e, v, tsq_cg hT 0 h⟩
end CG
/-- numbers of at most seven digits -/
theorem tkN_b {T : Nat → Int32} {a : Nat} : ∀ k, (∀ i, a ≤ i → i < a + k → tkD (T i)) → 0 ≤ tkN T a k ∧ tkN T a k < (10 : Int) ^ k
  | 0, _ => ⟨Int.le_refl 0, by show (0 : Int) < 10 ^ 0; decide⟩
  | k + 1, h => by
    have ih := tkN_b k (fun i h1 h2 => h i h1 (by omega))
    have hd := h (a + k) (by omega) (by omega)
    unfold tkD at hd
    show 0 ≤ 10 * tkN T a k + ((T (a + k)).toInt - 48) ∧ 10 * tkN T a k + ((T (a + k)).toInt - 48) < (10 : Int) ^ (k + 1)
    rw [Int.pow_succ]
    omega
theorem tkN_7 {T : Nat → Int32} {a k : Nat} (hk : k ≤ 7) (h : ∀ i, a ≤ i → i < a + k → tkD (T i)) : 0 ≤ tkN T a k ∧ tkN T a k ≤ 9999999 := by
  have b := tkN_b k h
  have p : (10 : Int) ^ k ≤ 10000000 := (by decide : ∀ k, k ≤ 7 → (10 : Int) ^ k ≤ 10000000) k hk
  omega
theorem lx_st {tn z54 z64 z65 z69 : Int64} {c : Int32} (e54 : z54 = Int64.ofInt 10 * tn) (e64 : z64 = c.toInt64) (e65 : z65 = z54 + z64) (e69 : z69 = z65 - Int64.ofInt 48) (h : 0 ≤ tn.toInt ∧ tn.toInt ≤ 9999999) (hc : 48 ≤ c.toInt ∧ c.toInt ≤ 57) : z69.toInt = 10 * tn.toInt + (c.toInt - 48) := by
  have a1 : z54.toInt = 10 * tn.toInt := by
    rw [e54, Int64.toInt_mul, show (Int64.ofInt 10).toInt = 10 from rfl]
    exact Int.bmod_eq_of_le (by omega) (by omega)
  have a2 : z64.toInt = c.toInt := tx_i2l e64
  have a3 : z65.toInt = 10 * tn.toInt + c.toInt := by
    rw [e65, Int64.toInt_add, a1, a2]
    exact Int.bmod_eq_of_le (by omega) (by omega)
  rw [e69, Int64.toInt_sub, a3, show (Int64.ofInt 48).toInt = 48 from rfl]
  rw [Int.bmod_eq_of_le (by omega) (by omega)]
  omega
theorem lx_ng {x z : Int64} (e : z = -x) (h : 0 ≤ x.toInt ∧ x.toInt ≤ 9999999) : z.toInt = - x.toInt := by
  rw [e, Int64.toInt_neg]
  exact Int.bmod_eq_of_le (by omega) (by omega)
/-- the reference's first fault stays -/
def FSM (s t : GS) : Prop := t.2.2.1 109 23 = s.2.2.1 109 23 ∧ t.2.2.1 109 24 = s.2.2.1 109 24
def FBL (s t : GS) (w p : Int) : Prop := ((s.2.2.1 109 23).toInt = 0 → (t.2.2.1 109 23).toInt = w ∧ (t.2.2.1 109 24).toInt = p) ∧ ((s.2.2.1 109 23).toInt ≠ 0 → FSM s t)
theorem fsm_tr {s u t : GS} (h : FSM s u) (g : FSM u t) : FSM s t := ⟨g.1.trans h.1, g.2.trans h.2⟩
theorem fbl_tr {s u t : GS} {w p : Int} (h : FSM s u) (g : FBL u t w p) : FBL s t w p := by
  unfold FBL FSM at g ⊢
  rw [h.1, h.2] at g
  exact g
/-- what the reference's token says of a token: k its kind, v its value -/
def NTK (s t : GS) (k v : Int) : Prop := (k = 0 → (t.2.2.1 109 28).toInt = 0) ∧ (k = 1 → (t.2.2.1 109 28).toInt = 1 ∧ (t.2.2.1 109 30).toInt = v + 97) ∧ (k = 2 → (t.2.2.1 109 28).toInt = 2 ∧ (t.2.2.2.1 109 31).toInt = v) ∧ (k = 3 → (t.2.2.1 109 28).toInt = 3 ∧ (t.2.2.1 109 30).toInt = 59) ∧ (k = 4 → (t.2.2.1 109 28).toInt = 3 ∧ (t.2.2.1 109 30).toInt ≠ 59 ∧ FBL s t 1 (t.2.2.1 109 29).toInt) ∧ (k = 5 → (t.2.2.1 109 28).toInt = 2 ∧ FBL s t 3 (t.2.2.1 109 29).toInt) ∧ (k ≠ 4 → k ≠ 5 → FSM s t)
section NTK
variable {s t : GS} {v : Int}
theorem ntk_0 (h : t.2.2.1 109 28 = Int32.ofInt 0) (f : FSM s t) : NTK s t 0 v := ⟨fun _ => by rw [h]; rfl, fun e => absurd e (by decide), fun e => absurd e (by decide), fun e => absurd e (by decide), fun e => absurd e (by decide), fun e => absurd e (by decide), fun _ _ => f⟩
theorem ntk_1 (h : t.2.2.1 109 28 = Int32.ofInt 1) (hs : (t.2.2.1 109 30).toInt = v + 97) (f : FSM s t) : NTK s t 1 v := ⟨fun e => absurd e (by decide), fun _ => ⟨by rw [h]; rfl, hs⟩, fun e => absurd e (by decide), fun e => absurd e (by decide), fun e => absurd e (by decide), fun e => absurd e (by decide), fun _ _ => f⟩
theorem ntk_2 (h : t.2.2.1 109 28 = Int32.ofInt 2) (hv : (t.2.2.2.1 109 31).toInt = v) (f : FSM s t) : NTK s t 2 v := ⟨fun e => absurd e (by decide), fun e => absurd e (by decide), fun _ => ⟨by rw [h]; rfl, hv⟩, fun e => absurd e (by decide), fun e => absurd e (by decide), fun e => absurd e (by decide), fun _ _ => f⟩
theorem ntk_3 (h : t.2.2.1 109 28 = Int32.ofInt 3) (hs : (t.2.2.1 109 30).toInt = 59) (f : FSM s t) : NTK s t 3 v := ⟨fun e => absurd e (by decide), fun e => absurd e (by decide), fun e => absurd e (by decide), fun _ => ⟨by rw [h]; rfl, hs⟩, fun e => absurd e (by decide), fun e => absurd e (by decide), fun _ _ => f⟩
theorem ntk_4 (h : t.2.2.1 109 28 = Int32.ofInt 3) (hs : (t.2.2.1 109 30).toInt ≠ 59) (f : FBL s t 1 (t.2.2.1 109 29).toInt) : NTK s t 4 v := ⟨fun e => absurd e (by decide), fun e => absurd e (by decide), fun e => absurd e (by decide), fun e => absurd e (by decide), fun _ => ⟨by rw [h]; rfl, hs, f⟩, fun e => absurd e (by decide), fun e _ => absurd rfl e⟩
theorem ntk_5 (h : t.2.2.1 109 28 = Int32.ofInt 2) (f : FBL s t 3 (t.2.2.1 109 29).toInt) : NTK s t 5 v := ⟨fun e => absurd e (by decide), fun e => absurd e (by decide), fun e => absurd e (by decide), fun e => absurd e (by decide), fun e => absurd e (by decide), fun _ => ⟨by rw [h]; rfl, f⟩, fun _ e => absurd rfl e⟩
end NTK
/-- two graphs that are alike -/
def GEQ (g h : GVW) : Prop := (∀ i, i < 32 → g.1 i = h.1 i) ∧ (∀ i, i < 160 → g.2.1 i = h.2.1 i) ∧ (∀ i, i < 160 → g.2.2.1 i = h.2.2.1 i) ∧ (∀ i, i < 160 → g.2.2.2.1 i = h.2.2.2.1 i) ∧ (∀ i, i < 160 → g.2.2.2.2.1 i = h.2.2.2.2.1 i) ∧ (∀ i, i < 160 → g.2.2.2.2.2.1 i = h.2.2.2.2.2.1 i) ∧ g.2.2.2.2.2.2.1 = h.2.2.2.2.2.2.1 ∧ g.2.2.2.2.2.2.2 = h.2.2.2.2.2.2.2
theorem upd_e {f g : Nat → Int32} {m p : Nat} {x : Int32} (h : ∀ i, i < m → f i = g i) : ∀ i, i < m → upd f p x i = upd g p x i := by
  intro i hi
  by_cases c : i = p
  · rw [c, ug_at, ug_at]
  · rw [ug_ne c, ug_ne c]; exact h i hi
section GE
variable {g h : GVW}
theorem geq_N {p : Nat} {l : Int32} (q : GEQ g h) : GEQ (gqN g p l) (gqN h p l) := by
  obtain ⟨q1, q2, q3, q4, q5, q6, q7, q8⟩ := q
  exact ⟨upd_e q1, q2, q3, q4, q5, q6, by show g.2.2.2.2.2.2.1 + 1 = h.2.2.2.2.2.2.1 + 1; rw [q7], by show g.2.2.2.2.2.2.2 + 1 = h.2.2.2.2.2.2.2 + 1; rw [q8]⟩
theorem geq_A {p : Nat} {a b w r k : Int32} (q : GEQ g h) : GEQ (gqA g p a b w r k) (gqA h p a b w r k) := by
  obtain ⟨q1, q2, q3, q4, q5, q6, q7, q8⟩ := q
  exact ⟨q1, upd_e q2, upd_e q3, upd_e q4, upd_e q5, upd_e q6, q7, by show g.2.2.2.2.2.2.2 + 1 = h.2.2.2.2.2.2.2 + 1; rw [q8]⟩
theorem geq_D {p : Nat} (q : GEQ g h) : GEQ (gqD g p) (gqD h p) := by
  obtain ⟨q1, q2, q3, q4, q5, q6, q7, q8⟩ := q
  exact ⟨q1, upd_e q2, q3, q4, q5, q6, q7, by show g.2.2.2.2.2.2.2 + 1 = h.2.2.2.2.2.2.2 + 1; rw [q8]⟩
theorem ite_e {f g f2 g2 : Nat → Int32} {m : Nat} {P : Prop} [Decidable P] (h : ∀ i, i < m → f i = g i) (h2 : ∀ i, i < m → f2 i = g2 i) : ∀ i, i < m → (if P then f else f2) i = (if P then g else g2) i := by
  intro i hi
  by_cases c : P
  · rw [if_pos c, if_pos c]; exact h i hi
  · rw [if_neg c, if_neg c]; exact h2 i hi
theorem geq_W {p : Nat} {w v : Int32} (q : GEQ g h) : GEQ (gqW g p w v) (gqW h p w v) := by
  obtain ⟨q1, q2, q3, q4, q5, q6, q7, q8⟩ := q
  exact ⟨q1, q2, q3, ite_e (upd_e q4) q4, ite_e (upd_e q5) q5, ite_e (upd_e q6) q6, q7, by show g.2.2.2.2.2.2.2 + 1 = h.2.2.2.2.2.2.2 + 1; rw [q8]⟩
theorem geq_L {p : Nat} {l : Int32} (q : GEQ g h) : GEQ (gqL g p l) (gqL h p l) := by
  obtain ⟨q1, q2, q3, q4, q5, q6, q7, q8⟩ := q
  exact ⟨upd_e q1, q2, q3, q4, q5, q6, q7, by show g.2.2.2.2.2.2.2 + 1 = h.2.2.2.2.2.2.2 + 1; rw [q8]⟩
theorem geq_f (q : GEQ g h) : fpl (ctg g.2.1) = fpl (ctg h.2.1) := fpl_cg (fun j hj => by unfold ctg; rw [q.2.1 j hj])
end GE
/-- a command can be carried out -/
def gvT (g : GVW) (x : Int) : Prop := 0 ≤ x ∧ x ≤ 159 ∧ (g.2.1 x.toNat).toInt ≠ -1
def dkC (g : GVW) (c : Int) (V : Nat → Int) : Prop := g.2.2.2.2.2.2.2 ≤ 3999 ∧ (c = 13 → g.2.2.2.2.2.2.1 ≤ 31) ∧ (c = 0 → (0 ≤ V 0 ∧ V 0 < g.2.2.2.2.2.2.1) ∧ (0 ≤ V 1 ∧ V 1 < g.2.2.2.2.2.2.1) ∧ (-1000000 ≤ V 2 ∧ V 2 ≤ 1000000) ∧ (0 ≤ V 3 ∧ V 3 ≤ 1000000) ∧ fpl (ctg g.2.1) < 160) ∧ (c = 19 → gvT g (V 0)) ∧ (c = 22 → gvT g (V 0) ∧ (-1000000 ≤ V 1 ∧ V 1 ≤ 1000000))
/-- what it does -/
def opC (g : GVW) (c : Int) (V : Nat → Int) : GVW := if c = 13 then gqN g g.2.2.2.2.2.2.1.toNat (Int32.ofInt (V 0)) else if c = 0 then gqA g (fpl (ctg g.2.1)) (Int32.ofInt (V 0)) (Int32.ofInt (V 1)) (Int32.ofInt (V 2)) (Int32.ofInt (V 3)) (Int32.ofInt (V 4)) else if c = 19 then gqD g (V 0).toNat else gqW g (V 0).toNat (Int32.ofInt 0) (Int32.ofInt (V 1))
theorem gvT_e {g h : GVW} {x : Int} (q : GEQ g h) (t : gvT g x) : gvT h x := ⟨t.1, t.2.1, by rw [← q.2.1 x.toNat (by have := t.1; have := t.2.1; omega)]; exact t.2.2⟩
theorem geq_s {g h : GVW} (q : GEQ g h) : GEQ h g := by
  obtain ⟨q1, q2, q3, q4, q5, q6, q7, q8⟩ := q
  exact ⟨fun i hi => (q1 i hi).symm, fun i hi => (q2 i hi).symm, fun i hi => (q3 i hi).symm, fun i hi => (q4 i hi).symm, fun i hi => (q5 i hi).symm, fun i hi => (q6 i hi).symm, q7.symm, q8.symm⟩
theorem geq_t {g h k : GVW} (q : GEQ g h) (r : GEQ h k) : GEQ g k := by
  obtain ⟨q1, q2, q3, q4, q5, q6, q7, q8⟩ := q
  obtain ⟨r1, r2, r3, r4, r5, r6, r7, r8⟩ := r
  exact ⟨fun i hi => (q1 i hi).trans (r1 i hi), fun i hi => (q2 i hi).trans (r2 i hi), fun i hi => (q3 i hi).trans (r3 i hi), fun i hi => (q4 i hi).trans (r4 i hi), fun i hi => (q5 i hi).trans (r5 i hi), fun i hi => (q6 i hi).trans (r6 i hi), q7.trans r7, q8.trans r8⟩
theorem geq_r {g : GVW} : GEQ g g := ⟨fun _ _ => rfl, fun _ _ => rfl, fun _ _ => rfl, fun _ _ => rfl, fun _ _ => rfl, fun _ _ => rfl, rfl, rfl⟩
theorem dkC_e {g h : GVW} {c : Int} {V W : Nat → Int} (q : GEQ g h) (hc : cmI c) (hV : ∀ i, i < cmA c → V i = W i) (t : dkC g c V) : dkC h c W := by
  obtain ⟨t1, t2, t3, t4, t5⟩ := t
  have e7 := q.2.2.2.2.2.2.1
  have e8 := q.2.2.2.2.2.2.2
  refine ⟨by rw [← e8]; exact t1, fun e => by rw [← e7]; exact t2 e, fun e => ?_, fun e => ?_, fun e => ?_⟩
  · have hA : cmA c = 5 := by rw [e]; rfl
    rw [hA] at hV
    rw [← hV 0 (by omega), ← hV 1 (by omega), ← hV 2 (by omega), ← hV 3 (by omega), ← e7, ← geq_f q]
    exact t3 e
  · have hA : cmA c = 1 := by rw [e]; rfl
    rw [hA] at hV
    rw [← hV 0 (by omega)]
    exact gvT_e q (t4 e)
  · have hA : cmA c = 2 := by rw [e]; rfl
    rw [hA] at hV
    rw [← hV 0 (by omega), ← hV 1 (by omega)]
    exact ⟨gvT_e q (t5 e).1, (t5 e).2⟩
theorem opC_e {g h : GVW} {c : Int} {V W : Nat → Int} (q : GEQ g h) (hc : cmI c) (hV : ∀ i, i < cmA c → V i = W i) : GEQ (opC g c V) (opC h c W) := by
  have e7 := q.2.2.2.2.2.2.1
  unfold opC
  rcases hc with e | e | e | e
  · have hA : cmA c = 1 := by rw [e]; rfl
    rw [hA] at hV
    rw [if_pos e, if_pos e, hV 0 (by omega), e7]
    exact geq_N q
  · have hA : cmA c = 5 := by rw [e]; rfl
    rw [hA] at hV
    rw [if_neg (by omega), if_pos e, if_neg (by omega), if_pos e, hV 0 (by omega), hV 1 (by omega), hV 2 (by omega), hV 3 (by omega), hV 4 (by omega), geq_f q]
    exact geq_A q
  · have hA : cmA c = 1 := by rw [e]; rfl
    rw [hA] at hV
    rw [if_neg (by omega), if_neg (by omega), if_pos e, if_neg (by omega), if_neg (by omega), if_pos e, hV 0 (by omega)]
    exact geq_D q
  · have hA : cmA c = 2 := by rw [e]; rfl
    rw [hA] at hV
    rw [if_neg (by omega), if_neg (by omega), if_neg (by omega), if_neg (by omega), if_neg (by omega), if_neg (by omega), hV 0 (by omega), hV 1 (by omega)]
    exact geq_W q
/-- the saved graph -/
def gvS (s : GS) : GVW := (s.1 17, s.1 18, s.1 19, s.1 20, s.1 21, s.1 22, (s.2.2.1 16 1).toInt, (s.2.2.1 16 0).toInt)
def TQS (s : GS) : Prop := ∀ p : Nat, p < 160 → (s.1 18 p).toInt ≠ -1 → (p : Int) < (s.2.2.1 16 3).toInt
theorem gvS_cg {s t : GS} {L : FM} (h : Fr L s t) (hq : (qI L.1 17 && qI L.1 18 && qI L.1 19 && qI L.1 20 && qI L.1 21 && qI L.1 22 && qF L.2.2.1 16 1 && qF L.2.2.1 16 0) = true) : gvS t = gvS s := by
  simp only [Bool.and_eq_true] at hq
  obtain ⟨⟨⟨⟨⟨⟨⟨q1, q2⟩, q3⟩, q4⟩, q5⟩, q6⟩, q7⟩, q8⟩ := hq
  unfold gvS
  rw [h.1 17 q1, h.1 18 q2, h.1 19 q3, h.1 20 q4, h.1 21 q5, h.1 22 q6, h.2.2.1 16 1 q7, h.2.2.1 16 0 q8]
theorem tqs_fr {s t : GS} {L : FM} (hT : TQS s) (h : Fr L s t) (hq : (qI L.1 18 && qF L.2.2.1 16 3) = true) : TQS t := by
  rw [Bool.and_eq_true] at hq
  intro p hp hn
  rw [h.1 18 hq.1] at hn
  rw [h.2.2.1 16 3 hq.2]
  exact hT p hp hn
/-- what stands in given -/
def V31 (s : GS) : Nat → Int := fun i => (s.1 31 i).toInt
section OPC
variable {s : GS} {c : Int} {g : GVW} {V : Nat → Int}
theorem opC_13 (h : c = 13) : opC (gvC s) c (V31 s) = gqN (gvC s) (s.2.2.1 2 1).toNatClampNeg (s.1 31 0) := by
  unfold opC
  rw [if_pos h]
  show gqN (gvC s) _ (Int32.ofInt (s.1 31 0).toInt) = _
  rw [Int32.ofInt_toInt]
  rfl
theorem opC_0 {p : Nat} (h : c = 0) (hp : fpl (ctg (s.1 4)) = p) : opC (gvC s) c (V31 s) = gqA (gvC s) p (s.1 31 0) (s.1 31 1) (s.1 31 2) (s.1 31 3) (s.1 31 4) := by
  unfold opC
  rw [if_neg (by omega), if_pos h]
  show gqA (gvC s) (fpl (ctg (s.1 4))) (Int32.ofInt (s.1 31 0).toInt) (Int32.ofInt (s.1 31 1).toInt) (Int32.ofInt (s.1 31 2).toInt) (Int32.ofInt (s.1 31 3).toInt) (Int32.ofInt (s.1 31 4).toInt) = _
  rw [Int32.ofInt_toInt, Int32.ofInt_toInt, Int32.ofInt_toInt, Int32.ofInt_toInt, Int32.ofInt_toInt, hp]
theorem opC_19 (h : c = 19) : opC (gvC s) c (V31 s) = gqD (gvC s) (s.1 31 0).toNatClampNeg := by
  unfold opC
  rw [if_neg (by omega), if_neg (by omega), if_pos h]
  rfl
theorem opC_22 (h : c = 22) : opC (gvC s) c (V31 s) = gqW (gvC s) (s.1 31 0).toNatClampNeg (Int32.ofInt 0) (s.1 31 1) := by
  unfold opC
  rw [if_neg (by omega), if_neg (by omega), if_neg (by omega)]
  show gqW (gvC s) (s.1 31 0).toInt.toNat (Int32.ofInt 0) (Int32.ofInt (s.1 31 1).toInt) = _
  rw [Int32.ofInt_toInt]
  rfl
theorem dk_13 (h : c = 13) (h1 : g.2.2.2.2.2.2.2 ≤ 3999) (h2 : g.2.2.2.2.2.2.1 ≤ 31) : dkC g c V := ⟨h1, fun _ => h2, fun e => absurd e (by omega), fun e => absurd e (by omega), fun e => absurd e (by omega)⟩
theorem dk_0 (h : c = 0) (h1 : g.2.2.2.2.2.2.2 ≤ 3999) (h2 : (0 ≤ V 0 ∧ V 0 < g.2.2.2.2.2.2.1) ∧ (0 ≤ V 1 ∧ V 1 < g.2.2.2.2.2.2.1) ∧ (-1000000 ≤ V 2 ∧ V 2 ≤ 1000000) ∧ (0 ≤ V 3 ∧ V 3 ≤ 1000000) ∧ fpl (ctg g.2.1) < 160) : dkC g c V := ⟨h1, fun e => absurd e (by omega), fun _ => h2, fun e => absurd e (by omega), fun e => absurd e (by omega)⟩
theorem dk_19 (h : c = 19) (h1 : g.2.2.2.2.2.2.2 ≤ 3999) (h2 : gvT g (V 0)) : dkC g c V := ⟨h1, fun e => absurd e (by omega), fun e => absurd e (by omega), fun _ => h2, fun e => absurd e (by omega)⟩
theorem dk_22 (h : c = 22) (h1 : g.2.2.2.2.2.2.2 ≤ 3999) (h2 : gvT g (V 0)) (h3 : -1000000 ≤ V 1 ∧ V 1 ≤ 1000000) : dkC g c V := ⟨h1, fun e => absurd e (by omega), fun e => absurd e (by omega), fun e => absurd e (by omega), fun _ => ⟨h2, h3⟩⟩
theorem dk_t (hc : cmI c) (h13 : c ≠ 13) (h0 : c ≠ 0) (h : dkC g c V) : gvT g (V 0) := by
  rcases hc with e | e | e | e
  · exact absurd e h13
  · exact absurd e h0
  · exact h.2.2.2.1 e
  · exact (h.2.2.2.2 e).1
end OPC
/-- k commands have been carried out: the place a, the graph g -/
def LRN (T : Nat → Int32) (n : Nat) (g0 : GVW) : Nat → Nat → GVW → Prop
  | 0, a, g => a = 0 ∧ g = g0
  | k + 1, a, g => ∃ a0 g1 p c V, LRN T n g0 k a0 g1 ∧ CMP T n a0 p c V a ∧ dkC g1 c V ∧ g = opC g1 c V
/-- how a text ends: z the answer, f the fault's number (0: none), p its place, g the graph -/
def LOT (T : Nat → Int32) (n : Nat) (g0 : GVW) (z f p : Int) (g : GVW) : Prop :=
  (∃ (k a : Nat) (g1 : GVW), LRN T n g0 k a g1 ∧ CME T n a ∧ z = (k : Int) ∧ f = 0 ∧ GEQ g g1) ∨
  (∃ (k a q : Nat) (g1 : GVW), LRN T n g0 k a g1 ∧ (CMX T n a f q ∨ ∃ c V e, CMP T n a q c V e ∧ ¬ dkC g1 c V ∧ f = 4) ∧ z = -4 ∧ p = (q : Int) ∧ GEQ g g0)
theorem cmp_l {T : Nat → Int32} {n a p e : Nat} {c : Int} {V : Nat → Int} (h : CMP T n a p c V e) : a < e := by
  have le : ∀ (i : Nat) {p e : Nat} {k v : Int}, TSQ T n a i p e k v → a ≤ e := by
    intro i
    induction i with
    | zero => intro p e k v h; have := tkn_e h; omega
    | succ i ih =>
      intro p e k v h
      obtain ⟨p0, e0, k0, v0, h1, h2⟩ := h
      have := ih h1
      have := tkn_e h2
      omega
  obtain ⟨-, -, -, q, v, p0, e0, k0, v0, h1, h2⟩ := h
  have h3 := le _ h1
  have h4 := tkn_e h2
  have h5 := h4.2.2.2.1 (by decide)
  omega
theorem lrn_l {T : Nat → Int32} {n : Nat} {g0 : GVW} : ∀ (k : Nat) {a : Nat} {g : GVW}, LRN T n g0 k a g → k ≤ a
  | 0, _, _, _ => Nat.zero_le _
  | k + 1, _, _, ⟨a0, g1, p, c, V, h1, h2, h3, h4⟩ => by
    have := lrn_l k h1
    have := cmp_l h2
    omega
theorem lrn_u {T U : Nat → Int32} {n : Nat} {g0 h0 : GVW} (hT : ∀ i, i < n → T i = U i) (q : GEQ g0 h0) : ∀ (k : Nat) {a b : Nat} {g h : GVW}, LRN T n g0 k a g → LRN U n h0 k b h → a = b ∧ GEQ g h
  | 0, _, _, _, _, ⟨h1, h2⟩, ⟨g1, g2⟩ => by
    rw [h1, h2, g1, g2]
    exact ⟨rfl, q⟩
  | k + 1, _, _, _, _, ⟨a0, x1, p1, c1, V1, h1, h2, h3, h4⟩, ⟨b0, y1, p2, c2, V2, g1, g2, g3, g4⟩ => by
    obtain ⟨ea, eg⟩ := lrn_u hT q k h1 g1
    subst ea
    have u := cmp_u (cmp_cg hT h2) g2
    obtain ⟨-, ec, ee, eV⟩ := u
    subst ec
    rw [h4, g4]
    exact ⟨ee, opC_e eg h2.1 eV⟩
/-- at a place where a run of k commands stands one more can't be there and not be there -/
theorem lrn_x {T U : Nat → Int32} {n : Nat} {g0 h0 : GVW} (hT : ∀ i, i < n → T i = U i) (q : GEQ g0 h0) {k : Nat} {a : Nat} {g : GVW} (h : LRN T n g0 k a g) (hx : CME T n a ∨ ∃ f p, CMX T n a f p ∨ ∃ c V e, CMP T n a p c V e ∧ ¬ dkC g c V ∧ f = 4) : ∀ (j : Nat) {b : Nat} {y : GVW}, LRN U n h0 j b y → j ≤ k
  | j, b, y, r => by
    rcases Nat.lt_or_ge k j with c | c
    · exfalso
      have low : ∀ (i : Nat) {b2 : Nat} {y2 : GVW}, LRN U n h0 (k + 1 + i) b2 y2 → ∃ b3 y3, LRN U n h0 (k + 1) b3 y3 := by
        intro i
        induction i with
        | zero => intro b2 y2 r2; exact ⟨b2, y2, r2⟩
        | succ i ih =>
          intro b2 y2 r2
          obtain ⟨a0, x1, p1, c1, V1, h1, -⟩ := r2
          exact ih h1
      obtain ⟨b3, y3, r3⟩ := low (j - (k + 1)) (by rw [show k + 1 + (j - (k + 1)) = j by omega]; exact r)
      obtain ⟨a0, x1, p1, c1, V1, g1, g2, g3, -⟩ := r3
      obtain ⟨ea, eg⟩ := lrn_u hT q k h g1
      subst ea
      rcases hx with hx | ⟨f, p, hx | ⟨c2, V2, e2, k1, k2, -⟩⟩
      · exact cme_p (cme_cg hT hx) g2
      · exact cmx_n g2 (cmx_cg hT hx)
      · have u := cmp_u (cmp_cg hT k1) g2
        obtain ⟨-, ec, -, eV⟩ := u
        subst ec
        exact k2 (dkC_e (geq_s eg) k1.1 (fun i hi => (eV i hi).symm) g3)
    · exact c
/-- a text has one end -/
theorem lot_u {T U : Nat → Int32} {n : Nat} {g0 h0 : GVW} {z f p z2 f2 p2 : Int} {g h : GVW} (hT : ∀ i, i < n → T i = U i) (q : GEQ g0 h0) (l : LOT T n g0 z f p g) (m : LOT U n h0 z2 f2 p2 h) : z = z2 ∧ f = f2 ∧ (f ≠ 0 → p = p2) ∧ GEQ g h := by
  have hU : ∀ i, i < n → U i = T i := fun i hi => (hT i hi).symm
  have qs := geq_s q
  rcases l with ⟨k, a, g1, l1, l2, l3, l4, l5⟩ | ⟨k, a, w, g1, l1, l2, l3, l4, l5⟩ <;> rcases m with ⟨j, b, h1, m1, m2, m3, m4, m5⟩ | ⟨j, b, w2, h1, m1, m2, m3, m4, m5⟩
  · have c1 := lrn_x hT q l1 (Or.inl l2) j m1
    have c2 := lrn_x hU qs m1 (Or.inl m2) k l1
    have e : k = j := by omega
    subst e
    exact ⟨by rw [l3, m3], by rw [l4, m4], fun c => absurd l4 c, geq_t l5 (geq_t (lrn_u hT q k l1 m1).2 (geq_s m5))⟩
  · have c1 := lrn_x hT q l1 (Or.inl l2) j m1
    have c2 := lrn_x hU qs m1 (Or.inr ⟨f2, w2, m2⟩) k l1
    have e : k = j := by omega
    subst e
    obtain ⟨ea, -⟩ := lrn_u hT q k l1 m1
    subst ea
    rcases m2 with m2 | ⟨c, V, e, m2, -⟩
    · exact (cme_x (cme_cg hT l2) m2).elim
    · exact (cme_p (cme_cg hT l2) m2).elim
  · have c1 := lrn_x hT q l1 (Or.inr ⟨f, w, l2⟩) j m1
    have c2 := lrn_x hU qs m1 (Or.inl m2) k l1
    have e : k = j := by omega
    subst e
    obtain ⟨ea, -⟩ := lrn_u hT q k l1 m1
    subst ea
    rcases l2 with l2 | ⟨c, V, e, l2, -⟩
    · exact (cme_x m2 (cmx_cg hT l2)).elim
    · exact (cme_p m2 (cmp_cg hT l2)).elim
  · have c1 := lrn_x hT q l1 (Or.inr ⟨f, w, l2⟩) j m1
    have c2 := lrn_x hU qs m1 (Or.inr ⟨f2, w2, m2⟩) k l1
    have e : k = j := by omega
    subst e
    obtain ⟨ea, eg⟩ := lrn_u hT q k l1 m1
    subst ea
    have both : f = f2 ∧ w = w2 := by
      rcases l2 with l2 | ⟨c, V, e, l2, l6, l7⟩ <;> rcases m2 with m2 | ⟨c3, V3, e3, m2, m6, m7⟩
      · exact cmx_u (cmx_cg hT l2) m2
      · exact (cmx_n m2 (cmx_cg hT l2)).elim
      · exact (cmx_n (cmp_cg hT l2) m2).elim
      · exact ⟨by rw [l7, m7], (cmp_u (cmp_cg hT l2) m2).1⟩
    exact ⟨by rw [l3, m3], both.1, fun _ => by rw [l4, m4, both.2], geq_t l5 (geq_t q (geq_s m5))⟩
/-! the reference's commands -/
def DON (s : GS) (c : Int) (m : Nat) : Prop :=
  (c = 110 → (s.1 110 2).toInt ≤ 31) ∧
  (c = 97 → fpl (thg s 320) < 160 ∧ nq (s.1 128 m) 0 ((s.1 110 2).toInt - 1) ∧ nq (s.1 128 (m + 1)) 0 ((s.1 110 2).toInt - 1) ∧ nq (s.1 128 (m + 2)) (-1000000) 1000000 ∧ nq (s.1 128 (m + 3)) 0 1000000) ∧
  ((c = 116 ∨ c = 119) → nq (s.1 128 m) 0 159 ∧ thg s 320 (s.1 128 m).toNatClampNeg = true) ∧
  (c = 119 → nq (s.1 128 (m + 1)) (-1000000) 1000000)
theorem don_97 {s : GS} {c : Int} {m : Nat} (h : c = 97) (h1 : fpl (thg s 320) < 160 ∧ nq (s.1 128 m) 0 ((s.1 110 2).toInt - 1) ∧ nq (s.1 128 (m + 1)) 0 ((s.1 110 2).toInt - 1) ∧ nq (s.1 128 (m + 2)) (-1000000) 1000000 ∧ nq (s.1 128 (m + 3)) 0 1000000) : DON s c m := ⟨fun e => absurd e (by omega), fun _ => h1, fun e => absurd e (by omega), fun e => absurd e (by omega)⟩
theorem don_110 {s : GS} {c : Int} {m : Nat} (h : c = 110) (h1 : (s.1 110 2).toInt ≤ 31) : DON s c m := ⟨fun _ => h1, fun e => absurd e (by omega), fun e => absurd e (by omega), fun e => absurd e (by omega)⟩
theorem don_116 {s : GS} {c : Int} {m : Nat} (h : c = 116) (h1 : nq (s.1 128 m) 0 159 ∧ thg s 320 (s.1 128 m).toNatClampNeg = true) : DON s c m := ⟨fun e => absurd e (by omega), fun e => absurd e (by omega), fun _ => h1, fun e => absurd e (by omega)⟩
theorem don_119 {s : GS} {c : Int} {m : Nat} (h : c = 119) (h1 : nq (s.1 128 m) 0 159 ∧ thg s 320 (s.1 128 m).toNatClampNeg = true) (h2 : nq (s.1 128 (m + 1)) (-1000000) 1000000) : DON s c m := ⟨fun e => absurd e (by omega), fun e => absurd e (by omega), fun _ => h1, fun _ => h2⟩
theorem thg_t {s : GS} {z w j : Int32} (e : w = s.1 112 j.toNatClampNeg) (hj : j.toInt = 320 + z.toInt) (hz : 0 ≤ z.toInt) : thg s 320 z.toNatClampNeg = decide (w.toInt ≠ 0) := by
  unfold thg
  rw [e, show j.toNatClampNeg = 320 + z.toNatClampNeg from by show j.toInt.toNat = 320 + z.toInt.toNat; omega]
end
section
/-! STRINGS IN FULL, AND THE SHAPES OF COMMANDS -/
def zby (k j : Nat) : Int := ((am_byt.getD k []).getD j 0).toInt
theorem z_by {k j : Nat} {z4 z5 z6 : Int32} (hk : k < 7) (hj : j < 10) (e4 : z4 = (am_byt.getD k []).getD j 0) (e5 : z5 = z4 &&& Int32.ofInt 255) (e6 : z6 = (z5.toUInt32 % 65536).toInt32) : z6.toInt = zby k j := by
  rw [e6, e5, e4]
  exact (by decide : ∀ k, k < 7 → ∀ j, j < 10 → ((((am_byt.getD k []).getD j 0) &&& Int32.ofInt 255).toUInt32 % 65536).toInt32.toInt = zby k j) k hk j hj
theorem z_j9 {x j : Int32} (hx : In x 0 6) (h0 : 0 ≤ j.toInt) (h1 : j.toInt < (zn x : Int)) : j.toNatClampNeg < 10 := by
  have := zn_9 hx
  show j.toInt.toNat < 10
  omega
section ZM
variable {Z : AmZ} {d : Nat} {ws : va_W} {X : AmX} {x : Int32}
theorem f_428 (hx : In x 0 6) (hd : 1 ≤ d) : GC Z d 428 [.ref (zq Z x)] ws 0 0 (fun v u => ∃ z : Int32, v = some (.int z) ∧ u = ws ∧ In z 0 1 ∧ (z.toInt = 0 → 0 < zn x) ∧ (z.toInt ≠ 0 → zn x = 0)) X := by
  intro post xp hP hX
  refine g_enter2 (k := 428) (N := 300) (by omega) rfl (Nat.le_of_ble_eq_true rfl) ?_
  refine g_aload_n 1 (gd rfl) rfl rfl ?_
  refine g_getVA 4 (gd rfl) rfl hx rfl ?_
  refine g_alenZ 5 (gd rfl) rfl hx (fun z e ez => ?_)
  refine g_if_ne 8 12 (gd rfl) rfl rfl (fun c => ?_) (fun c => ?_)
  · refine g_iconst 0 13 (gd rfl) rfl rfl ?_
    exact g_ireturn (gd rfl) rfl rfl (hP _ _ ⟨_, rfl, rfl, ⟨by decide, by decide⟩, fun _ => by omega, fun h => absurd rfl h⟩)
  · refine g_iconst 1 9 (gd rfl) rfl rfl ?_
    refine g_goto 13 (gd rfl) rfl ?_
    exact g_ireturn (gd rfl) rfl rfl (hP _ _ ⟨_, rfl, rfl, ⟨by decide, by decide⟩, fun h => absurd h (by decide), fun _ => by omega⟩)

theorem f_435 {j : Int32} (hx : In x 0 6) (h0 : 0 ≤ j.toInt) (h1_ : j.toInt < (zn x : Int)) (hd : 3 ≤ d) : GC Z d 435 [.ref (zp Z x), .int j] ws 0 0 (fun v u => ∃ z : Int32, v = some (.int z) ∧ u = ws ∧ In z 0 65535 ∧ (x.toInt = 1 → z.toInt = 108) ∧ z.toInt = zby x.toNatClampNeg j.toNatClampNeg) X := by
  intro post xp hP hX
  refine g_enter2 (k := 435) (N := 300) (by omega) rfl (Nat.le_of_ble_eq_true rfl) ?_
  refine g_iload_n 1 (gd rfl) rfl rfl ?_
  refine g_aload_n 2 (gd rfl) rfl rfl ?_
  refine g_alenZ 3 (gd rfl) rfl hx (fun z3 e3 ez => ?_)
  refine g_calls (As := [.int j, .int z3]) (r := []) 6 (gd rfl) rfl rfl rfl rfl rfl (Nat.le_of_ble_eq_true rfl) (Nat.zero_le _) (Nat.zero_le _) (k_434 h0 (by omega) (by omega)) (fun v u h => ?_)
  obtain ⟨rfl, rfl⟩ := h
  show GG _ _ _ _ _ _ _ _ [] _ _ _
  refine g_aload_n 7 (gd rfl) rfl rfl ?_
  refine g_iload_n 8 (gd rfl) rfl rfl ?_
  refine g_baloadZ 9 (gd rfl) rfl hx h0 h1_ (fun z4 e4 => ?_)
  refine g_sipush 255 12 (gd rfl) rfl rfl ?_
  refine g_iand 13 (gd rfl) rfl (fun z5 e5 => ?_)
  refine g_i2c 14 (gd rfl) rfl (fun z6 e6 => ?_)
  exact g_ireturn (gd rfl) rfl (z_nc2 (in_i2c e6)) (hP _ _ ⟨z6, rfl, rfl, in_i2c e6, fun h1 => z_108 h1 h0 h1_ e4 e5 e6, z_by (z_7 hx) (z_j9 hx h0 h1_) e4 e5 e6⟩)

theorem f_429 {j : Int32} (hx : In x 0 6) (h0 : 0 ≤ j.toInt) (h1 : j.toInt < (zn x : Int)) (hd : 4 ≤ d) : GC Z d 429 [.ref (zq Z x), .int j] ws 0 0 (fun v u => ∃ z : Int32, v = some (.int z) ∧ u = ws ∧ In z 0 65535 ∧ (x.toInt = 1 → z.toInt = 108) ∧ z.toInt = zby x.toNatClampNeg j.toNatClampNeg) X := by
  intro post xp hP hX
  refine g_enter2 (k := 429) (N := 300) (by omega) rfl (Nat.le_of_ble_eq_true rfl) ?_
  refine g_aload_n 1 (gd rfl) rfl rfl ?_
  refine g_callS (As := []) (r := []) (x := x) 4 (gd rfl) rfl rfl rfl zm_433 rfl rfl rfl hx (Nat.le_of_ble_eq_true rfl) (k_433 hx (by omega)) (fun e u h => h) (fun v u h => ?_)
  obtain ⟨rfl, rfl⟩ := h
  show GG _ _ _ _ _ _ _ _ [.int (Int32.ofInt 1)] _ _ _
  refine g_if_eq 7 16 (gd rfl) rfl rfl (fun c => absurd c (by decide)) (fun _ => ?_)
  refine g_aload_n 8 (gd rfl) rfl rfl ?_
  refine g_getVA 11 (gd rfl) rfl hx rfl ?_
  refine g_iload_n 12 (gd rfl) rfl rfl ?_
  refine g_calls (As := [.ref (zp Z x), .int j]) (r := []) 15 (gd rfl) rfl rfl rfl rfl rfl (Nat.le_of_ble_eq_true rfl) (Nat.zero_le _) (Nat.zero_le _) (f_435 hx h0 h1 (by omega)) (fun v u h => ?_)
  obtain ⟨z, rfl, rfl, hz, hz8, hz9⟩ := h
  show GG _ _ _ _ _ _ _ _ [.int z] _ _ _
  exact g_ireturn (gd rfl) rfl (z_nc2 hz) (hP _ _ ⟨z, rfl, rfl, hz, hz8, hz9⟩)

end ZM
/-- which shape belongs to which letter -/
def SHQ (c k : Int) : Prop := (c = 13 ∧ k = 1) ∨ (c = 0 ∧ k = 2) ∨ (c = 19 ∧ k = 3) ∨ (c = 22 ∧ k = 4)
theorem shq_i {c k : Int} (h : SHQ c k) : cmI c := by
  rcases h with h | h | h | h
  · exact Or.inl h.1
  · exact Or.inr (Or.inl h.1)
  · exact Or.inr (Or.inr (Or.inl h.1))
  · exact Or.inr (Or.inr (Or.inr h.1))
theorem shq_n {c : Int} {x : Int32} (h : SHQ c x.toInt) : zn x = cmA c := by
  unfold zn
  rcases h with ⟨h1, h2⟩ | ⟨h1, h2⟩ | ⟨h1, h2⟩ | ⟨h1, h2⟩
  · rw [show x.toNatClampNeg = 1 from by show x.toInt.toNat = 1; omega, h1]; rfl
  · rw [show x.toNatClampNeg = 2 from by show x.toInt.toNat = 2; omega, h1]; rfl
  · rw [show x.toNatClampNeg = 3 from by show x.toInt.toNat = 3; omega, h1]; rfl
  · rw [show x.toNatClampNeg = 4 from by show x.toInt.toNat = 4; omega, h1]; rfl
theorem shq_5 {c k : Int} (h : SHQ c k) : cmA c ≤ 5 ∧ 1 ≤ cmA c := by
  rcases h with ⟨h1, h2⟩ | ⟨h1, h2⟩ | ⟨h1, h2⟩ | ⟨h1, h2⟩ <;> (rw [h1]; decide)
theorem shq_k {c : Int} {x : Int32} {j : Nat} (h : SHQ c x.toInt) (hj : j < cmA c) : (zby x.toNatClampNeg j = 108 → cmK c (j + 1) = 1) ∧ (zby x.toNatClampNeg j ≠ 108 → cmK c (j + 1) = 2) := by
  rcases h with ⟨h1, h2⟩ | ⟨h1, h2⟩ | ⟨h1, h2⟩ | ⟨h1, h2⟩
  · rw [show x.toNatClampNeg = 1 from by show x.toInt.toNat = 1; omega]
    rw [h1] at hj ⊢
    exact (by decide : ∀ j, j < 1 → (zby 1 j = 108 → cmK 13 (j + 1) = 1) ∧ (zby 1 j ≠ 108 → cmK 13 (j + 1) = 2)) j hj
  · rw [show x.toNatClampNeg = 2 from by show x.toInt.toNat = 2; omega]
    rw [h1] at hj ⊢
    exact (by decide : ∀ j, j < 5 → (zby 2 j = 108 → cmK 0 (j + 1) = 1) ∧ (zby 2 j ≠ 108 → cmK 0 (j + 1) = 2)) j hj
  · rw [show x.toNatClampNeg = 3 from by show x.toInt.toNat = 3; omega]
    rw [h1] at hj ⊢
    exact (by decide : ∀ j, j < 1 → (zby 3 j = 108 → cmK 19 (j + 1) = 1) ∧ (zby 3 j ≠ 108 → cmK 19 (j + 1) = 2)) j hj
  · rw [show x.toNatClampNeg = 4 from by show x.toInt.toNat = 4; omega]
    rw [h1] at hj ⊢
    exact (by decide : ∀ j, j < 2 → (zby 4 j = 108 → cmK 22 (j + 1) = 1) ∧ (zby 4 j ≠ 108 → cmK 22 (j + 1) = 2)) j hj
end
section
/-! COMMANDS AS THE REFERENCE READS THEM -/
theorem shk {c : Int} {k : Int} (hc : cmI c) (h0 : 0 ≤ k) (hk : k ≤ (cmA c : Int)) : cmK c (k.toNat + 1) = (if c = 13 then (if k = 0 then 1 else 3) else if c = 0 then (if k < 4 then 2 else if k = 4 then 1 else 3) else if c = 19 then (if k < 1 then 2 else 3) else (if k < 2 then 2 else 3)) := by
  obtain ⟨j, rfl⟩ : ∃ j : Nat, k = (j : Int) := ⟨k.toNat, by omega⟩
  have e : ((j : Int)).toNat = j := Int.toNat_natCast j
  rw [e]
  rcases hc with h | h | h | h
  · rw [h] at hk ⊢
    have hj : j < 2 := by have : (cmA 13 : Int) = 1 := rfl; omega
    exact (by decide : ∀ j, j < 2 → cmK 13 (j + 1) = (if (13 : Int) = 13 then (if (j : Int) = 0 then 1 else 3) else if (13 : Int) = 0 then (if (j : Int) < 4 then 2 else if (j : Int) = 4 then 1 else 3) else if (13 : Int) = 19 then (if (j : Int) < 1 then 2 else 3) else (if (j : Int) < 2 then 2 else 3))) j hj
  · rw [h] at hk ⊢
    have hj : j < 6 := by have : (cmA 0 : Int) = 5 := rfl; omega
    exact (by decide : ∀ j, j < 6 → cmK 0 (j + 1) = (if (0 : Int) = 13 then (if (j : Int) = 0 then 1 else 3) else if (0 : Int) = 0 then (if (j : Int) < 4 then 2 else if (j : Int) = 4 then 1 else 3) else if (0 : Int) = 19 then (if (j : Int) < 1 then 2 else 3) else (if (j : Int) < 2 then 2 else 3))) j hj
  · rw [h] at hk ⊢
    have hj : j < 2 := by have : (cmA 19 : Int) = 1 := rfl; omega
    exact (by decide : ∀ j, j < 2 → cmK 19 (j + 1) = (if (19 : Int) = 13 then (if (j : Int) = 0 then 1 else 3) else if (19 : Int) = 0 then (if (j : Int) < 4 then 2 else if (j : Int) = 4 then 1 else 3) else if (19 : Int) = 19 then (if (j : Int) < 1 then 2 else 3) else (if (j : Int) < 2 then 2 else 3))) j hj
  · rw [h] at hk ⊢
    have hj : j < 3 := by have : (cmA 22 : Int) = 2 := rfl; omega
    exact (by decide : ∀ j, j < 3 → cmK 22 (j + 1) = (if (22 : Int) = 13 then (if (j : Int) = 0 then 1 else 3) else if (22 : Int) = 0 then (if (j : Int) < 4 then 2 else if (j : Int) = 4 then 1 else 3) else if (22 : Int) = 19 then (if (j : Int) < 1 then 2 else 3) else (if (j : Int) < 2 then 2 else 3))) j hj
theorem cmK_r {c : Int} {i : Nat} : 1 ≤ cmK c i ∧ cmK c i ≤ 3 ∧ (i ≤ cmA c → cmK c i ≠ 3) ∧ (i = cmA c + 1 → cmK c i = 3) := by
  unfold cmK
  by_cases h : i = cmA c + 1
  · rw [if_pos h]; exact ⟨by decide, by decide, fun h2 => by omega, fun _ => rfl⟩
  · rw [if_neg h]
    by_cases g : (c = 13 ∧ i = 1) ∨ (c = 0 ∧ i = 5)
    · rw [if_pos g]; exact ⟨by decide, by decide, fun _ => by decide, fun h2 => absurd h2 h⟩
    · rw [if_neg g]; exact ⟨by decide, by decide, fun _ => by decide, fun h2 => absurd h2 h⟩
def C4 (x : Int) : Prop := x = 110 ∨ x = 97 ∨ x = 116 ∨ x = 119
theorem c4_i {x : Int} (h : C4 x) : cmI (x - 97) := by
  rcases h with h | h | h | h
  · exact Or.inl (by omega)
  · exact Or.inr (Or.inl (by omega))
  · exact Or.inr (Or.inr (Or.inl (by omega)))
  · exact Or.inr (Or.inr (Or.inr (by omega)))
/-- what a call answers says whether P; what shape says -/
def YNQ (r : Int) (P : Prop) : Prop := (r ≠ 0 → P) ∧ (r = 0 → ¬ P)
def SHK (c k r : Int) : Prop := cmI c → k ≤ (cmA c : Int) → r = cmK c (k.toNat + 1)
/-- i things of the command c have been read -/
def CST (T : Nat → Int32) (n a : Nat) (c : Int) (i : Nat) (W : Nat → Int) (e : Nat) : Prop := (∀ j, j < i → ∃ q f, TSQ T n a (j + 1) q f (cmK c (j + 1)) (W j)) ∧ ∃ p k v, TSQ T n a i p e k v
/-- and the semicolon -/
def CSE (T : Nat → Int32) (n a : Nat) (c : Int) (W : Nat → Int) (e : Nat) : Prop := (∀ j, j < cmA c → ∃ q f, TSQ T n a (j + 1) q f (cmK c (j + 1)) (W j)) ∧ ∃ q v, TSQ T n a (cmA c + 1) q e 3 v
section CS
variable {T : Nat → Int32} {n a e p e2 : Nat} {c k v : Int} {i : Nat} {W : Nat → Int}
theorem cst_0 {p0 : Nat} (h : TSQ T n a 0 p0 e 1 c) : CST T n a c 0 W e := ⟨fun j hj => absurd hj (Nat.not_lt_zero _), p0, 1, c, h⟩
theorem cs_bad {p0 e0 : Nat} (hc : cmI c) (h0 : TSQ T n a 0 p0 e0 1 c) (hi : i ≤ cmA c) (h : CST T n a c i W e) (ht : TKN T n e p e2 k v) (hk : k ≠ cmK c (i + 1)) : CMX T n a (cmF k) p := by
  obtain ⟨h1, p1, k1, v1, h2⟩ := h
  exact Or.inr ⟨c, p0, e0, hc, h0, i, hi, fun j hj => by
    obtain ⟨q, f, h3⟩ := h1 j hj
    exact ⟨q, f, _, h3⟩, e2, k, v, ⟨p1, e, k1, v1, h2, ht⟩, hk, rfl⟩
theorem cs_more {W2 : Nat → Int} (h : CST T n a c i W e) (ht : TKN T n e p e2 k v) (hk : k = cmK c (i + 1)) (hW : ∀ j, j < i → W2 j = W j) (hv : W2 i = v) : CST T n a c (i + 1) W2 e2 := by
  obtain ⟨h1, p1, k1, v1, h2⟩ := h
  have hn : TSQ T n a (i + 1) p e2 k v := ⟨p1, e, k1, v1, h2, ht⟩
  refine ⟨fun j hj => ?_, p, k, v, hn⟩
  by_cases g : j = i
  · rw [g, hv, ← hk]; exact ⟨_, _, hn⟩
  · rw [hW j (by omega)]; exact h1 j (by omega)
theorem cs_end (hi : i = cmA c) (h : CST T n a c i W e) (ht : TKN T n e p e2 k v) (hk : k = 3) : CSE T n a c W e2 := by
  obtain ⟨h1, p1, k1, v1, h2⟩ := h
  rw [hi] at h1 h2
  refine ⟨h1, p, v, p1, e, k1, v1, h2, ?_⟩
  rw [← hk]; exact ht
theorem cse_cg {W2 : Nat → Int} (h : CSE T n a c W e) (hW : ∀ j, j < cmA c → W2 j = W j) : CSE T n a c W2 e := ⟨fun j hj => by rw [hW j hj]; exact h.1 j hj, h.2⟩
theorem cs_cmp {p0 e0 : Nat} (hc : cmI c) (h0 : TSQ T n a 0 p0 e0 1 c) (h : CSE T n a c W e) : CMP T n a p0 c W e := ⟨hc, ⟨e0, h0⟩, h.1, h.2⟩
end CS
/-- which kind the reference's token has, by its fields -/
def NTV (s : GS) (k v : Int) : Prop := (k = 0 → (s.2.2.1 109 28).toInt = 0) ∧ (k = 1 → (s.2.2.1 109 28).toInt = 1 ∧ (s.2.2.1 109 30).toInt = v + 97) ∧ (k = 2 → (s.2.2.1 109 28).toInt = 2 ∧ (s.2.2.2.1 109 31).toInt = v) ∧ (k = 3 → (s.2.2.1 109 28).toInt = 3 ∧ (s.2.2.1 109 30).toInt = 59) ∧ k ≠ 4 ∧ k ≠ 5
theorem ntk_f {s t : GS} {k v : Int} (h : NTK s t k v) (h0 : (s.2.2.1 109 23).toInt = 0) : ((t.2.2.1 109 23).toInt ≠ 0 → (t.2.2.1 109 23).toInt = cmF k ∧ (t.2.2.1 109 24).toInt = (t.2.2.1 109 29).toInt ∧ 4 ≤ k) ∧ ((t.2.2.1 109 23).toInt = 0 → NTV t k v) := by
  obtain ⟨n0, n1, n2, n3, n4, n5, n6⟩ := h
  by_cases k4 : k = 4
  · have b := (n4 k4).2.2.1 h0
    have e : cmF k = 1 := by rw [k4]; rfl
    exact ⟨fun _ => ⟨by rw [b.1, e], b.2, by omega⟩, fun z => by rw [b.1] at z; exact absurd z (by decide)⟩
  · by_cases k5 : k = 5
    · have b := (n5 k5).2.1 h0
      have e : cmF k = 3 := by rw [k5]; rfl
      exact ⟨fun _ => ⟨by rw [b.1, e], b.2, by omega⟩, fun z => by rw [b.1] at z; exact absurd z (by decide)⟩
    · have f := n6 k4 k5
      exact ⟨fun z => by rw [f.1] at z; exact absurd h0 z, fun _ => ⟨n0, n1, n2, n3, k4, k5⟩⟩
theorem ntv_t {s : GS} {k v : Int} (h : NTV s k v) (h0 : 0 ≤ k) (h5 : k ≤ 5) : (s.2.2.1 109 28).toInt = k := by
  obtain ⟨n0, n1, n2, n3, n4, n5⟩ := h
  by_cases a : k = 0
  · rw [n0 a, a]
  · by_cases b : k = 1
    · rw [(n1 b).1, b]
    · by_cases c : k = 2
      · rw [(n2 c).1, c]
      · rw [(n3 (by omega)).1]; omega
theorem tkn_v2 {T : Nat → Int32} {n a p e : Nat} {k v : Int} (h : TKN T n a p e k v) (hk : k = 2) : -9999999 ≤ v ∧ v ≤ 9999999 := by
  rcases h.2 with ⟨h1, h2, h3⟩ | ⟨h1, h2, h3, h4, h5⟩ | ⟨q, h1, h2, h3⟩ | ⟨h1, h2, h3, h4, h5⟩ | ⟨h1, h2, h3, h4, h5, h6⟩
  · omega
  · omega
  · rcases h3 with ⟨a1, a2, a3⟩ | ⟨a1, a2⟩
    · obtain ⟨g1, g2, g3, g4⟩ := h2
      have b := tkN_7 a1 (fun i x y => g3 i x (by omega))
      by_cases c : q = p
      · rw [if_pos c] at a3; omega
      · rw [if_neg c] at a3; omega
    · omega
  · omega
  · omega
theorem l2i_v {x : Int64} {z : Int32} (e : z = x.toInt32) (h : -9999999 ≤ x.toInt ∧ x.toInt ≤ 9999999) : z.toInt = x.toInt := by
  rw [e, Int64.toInt_toInt32]
  exact Int.bmod_eq_of_le (by omega) (by omega)
/-- the copy that the reference tries commands on is like g -/
def SIM (s : GS) (g : GVW) : Prop := (s.1 110 2).toInt = g.2.2.2.2.2.2.1 ∧ (∀ i, i < 160 → thg s 320 i = ctg g.2.1 i) ∧ (s.2.2.1 109 9).toInt + (s.2.2.1 109 32).toInt = g.2.2.2.2.2.2.2
section SIM
variable {s t : GS} {g : GVW} {c : Int} {m : Nat} {V : Nat → Int}
theorem sim_t (h : SIM s g) {x : Int32} (h0 : 0 ≤ x.toInt) (h1 : x.toInt ≤ 159) : (thg s 320 x.toNatClampNeg = true) ↔ (g.2.1 x.toInt.toNat).toInt ≠ -1 := by
  have e := h.2.1 x.toNatClampNeg (by show x.toInt.toNat < 160; omega)
  rw [e]
  unfold ctg
  exact decide_eq_true_iff
theorem sim_f (h : SIM s g) : fpl (thg s 320) = fpl (ctg g.2.1) := fpl_cg h.2.1
/-- what the reference tries is what can be done -/
theorem don_dk (h : SIM s g) (hv : g.2.2.2.2.2.2.2 ≤ 3999) (hc : cmI c) (hV : ∀ j, j < cmA c → V j = (s.1 128 (m + j)).toInt) (hd : DON s (c + 97) m) : dkC g c V := by
  obtain ⟨d1, d2, d3, d4⟩ := hd
  rcases hc with e | e | e | e
  · refine dk_13 e hv ?_
    rw [← h.1]
    exact d1 (by omega)
  · have hA : cmA c = 5 := by rw [e]; rfl
    rw [hA] at hV
    obtain ⟨a1, a2, a3, a4, a5⟩ := d2 (by omega)
    unfold nq at a2 a3 a4 a5
    refine dk_0 e hv ?_
    rw [hV 0 (by omega), hV 1 (by omega), hV 2 (by omega), hV 3 (by omega), ← h.1, ← sim_f h]
    exact ⟨⟨a2.1, by have := a2.2; simp only [Nat.add_zero] at *; omega⟩, ⟨a3.1, by have := a3.2; omega⟩, a4, a5, a1⟩
  · have hA : cmA c = 1 := by rw [e]; rfl
    rw [hA] at hV
    obtain ⟨a1, a2⟩ := d3 (Or.inl (by omega))
    unfold nq at a1
    refine dk_19 e hv ?_
    rw [hV 0 (by omega)]
    exact ⟨a1.1, a1.2, (sim_t h a1.1 a1.2).mp a2⟩
  · have hA : cmA c = 2 := by rw [e]; rfl
    rw [hA] at hV
    obtain ⟨a1, a2⟩ := d3 (Or.inr (by omega))
    have a3 := d4 (by omega)
    unfold nq at a1 a3
    refine dk_22 e hv ?_ ?_
    · rw [hV 0 (by omega)]
      exact ⟨a1.1, a1.2, (sim_t h a1.1 a1.2).mp a2⟩
    · rw [hV 1 (by omega)]
      exact a3
theorem dk_don (h : SIM s g) (hc : cmI c) (hV : ∀ j, j < cmA c → V j = (s.1 128 (m + j)).toInt) (hd : dkC g c V) : DON s (c + 97) m := by
  obtain ⟨-, d2, d3, d4, d5⟩ := hd
  rcases hc with e | e | e | e
  · refine don_110 (by omega) ?_
    rw [h.1]
    exact d2 e
  · have hA : cmA c = 5 := by rw [e]; rfl
    rw [hA] at hV
    have a := d3 e
    rw [hV 0 (by omega), hV 1 (by omega), hV 2 (by omega), hV 3 (by omega), ← h.1, ← sim_f h] at a
    obtain ⟨a1, a2, a3, a4, a5⟩ := a
    refine don_97 (by omega) ⟨a5, ?_, ?_, a3, a4⟩
    · unfold nq
      have q1 := a1.1
      have q2 := a1.2
      simp only [Nat.add_zero] at q1 q2
      exact ⟨q1, by omega⟩
    · unfold nq
      have q1 := a2.1
      have q2 := a2.2
      exact ⟨q1, by omega⟩
  · have hA : cmA c = 1 := by rw [e]; rfl
    rw [hA] at hV
    have a := d4 e
    rw [hV 0 (by omega)] at a
    exact don_116 (by omega) ⟨⟨a.1, a.2.1⟩, (sim_t h a.1 a.2.1).mpr a.2.2⟩
  · have hA : cmA c = 2 := by rw [e]; rfl
    rw [hA] at hV
    have a := d5 e
    rw [hV 0 (by omega), hV 1 (by omega)] at a
    exact don_119 (by omega) ⟨⟨a.1.1, a.1.2.1⟩, (sim_t h a.1.1 a.1.2.1).mpr a.1.2.2⟩ a.2
theorem ctg_u {f : Nat → Int32} {p : Nat} {x : Int32} {b : Nat → Bool} (h : ∀ i, i < 160 → b i = ctg f i) : ∀ i, i < 160 → ubq b p (decide (x.toInt ≠ -1)) i = ctg (upd f p x) i := by
  intro i hi
  unfold ubq ctg
  by_cases e : i = p
  · rw [if_pos e, e, ug_at]
  · rw [if_neg e, ug_ne e]
    exact h i hi
/-- and does to its copy -/
theorem sdn_sim (h : SIM s g) (hc : cmI c) (hV : ∀ j, j < cmA c → V j = (s.1 128 (m + j)).toInt) (hd : DON s (c + 97) m) (hs : SDN s t (c + 97) m) (hk : (t.2.2.1 109 9).toInt + (t.2.2.1 109 32).toInt = (s.2.2.1 109 9).toInt + (s.2.2.1 109 32).toInt + 1) : SIM t (opC g c V) := by
  obtain ⟨s1, s2, s3, s4⟩ := hs
  obtain ⟨h1, h2, h3⟩ := h
  unfold opC
  rcases hc with e | e | e | e
  · rw [if_pos e]
    obtain ⟨a1, a2, a3⟩ := s1 (by omega)
    exact ⟨by rw [a1, h1]; rfl, fun i hi => by rw [a3]; exact h2 i hi, by rw [hk, h3]; rfl⟩
  · have hA : cmA c = 5 := by rw [e]; rfl
    rw [hA] at hV
    rw [if_neg (by omega), if_pos e]
    obtain ⟨a1, a2, a3, -, -, -, a7⟩ := s2 (by omega)
    have x0 : (Int32.ofInt (V 0)).toInt ≠ -1 := by
      rw [hV 0 (by omega), Int32.ofInt_toInt]
      have := a3.1
      simp only [Nat.add_zero]
      omega
    refine ⟨by rw [a1, h1]; rfl, fun i hi => ?_, by rw [hk, h3]; rfl⟩
    rw [a7, sim_f ⟨h1, h2, h3⟩]
    have u := ctg_u (p := fpl (ctg g.2.1)) (x := Int32.ofInt (V 0)) h2 i hi
    rw [decide_eq_true x0] at u
    exact u
  · have hA : cmA c = 1 := by rw [e]; rfl
    rw [hA] at hV
    rw [if_neg (by omega), if_neg (by omega), if_pos e]
    obtain ⟨a1, a2, a3⟩ := s3 (by omega)
    refine ⟨by rw [a1, h1]; rfl, fun i hi => ?_, by rw [hk, h3]; rfl⟩
    rw [a3]
    have u := ctg_u (p := (s.1 128 m).toNatClampNeg) (x := Int32.ofInt (-1)) h2 i hi
    rw [show decide ((Int32.ofInt (-1)).toInt ≠ -1) = false from rfl] at u
    rw [hV 0 (by omega)]
    exact u
  · have hA : cmA c = 2 := by rw [e]; rfl
    rw [hA] at hV
    rw [if_neg (by omega), if_neg (by omega), if_neg (by omega)]
    obtain ⟨a1, -, -, a4⟩ := s4 (by omega) (by omega) (by omega)
    exact ⟨by rw [a1, h1]; rfl, fun i hi => by rw [a4]; exact h2 i hi, by rw [hk, h3]; rfl⟩
end SIM
/-! command of the reference: its loop, its end -/
def HQ5 (s t : GS) (c : Int) (k m : Int32) (e : Nat) : Prop := (t.2.2.1 109 23).toInt = 0 → m.toInt ≠ 0 → k.toInt ≤ (cmA c : Int) ∧ ∀ a : Nat, TKN (s.1 125) (s.2.2.1 109 22).toInt.toNat a (s.2.2.1 109 29).toInt.toNat (s.2.2.1 109 27).toInt.toNat 1 c → CST (s.1 125) (s.2.2.1 109 22).toInt.toNat a c k.toInt.toNat (fun j => (t.1 128 (5 * (s.2.2.1 109 32).toNatClampNeg + j)).toInt) e
def HQ6 (s t : GS) (c : Int) (m : Int32) (e : Nat) : Prop := (t.2.2.1 109 23).toInt = 0 → m.toInt = 0 → ∀ a : Nat, TKN (s.1 125) (s.2.2.1 109 22).toInt.toNat a (s.2.2.1 109 29).toInt.toNat (s.2.2.1 109 27).toInt.toNat 1 c → CSE (s.1 125) (s.2.2.1 109 22).toInt.toNat a c (fun j => (t.1 128 (5 * (s.2.2.1 109 32).toNatClampNeg + j)).toInt) e
def HQ7 (s t : GS) (c : Int) : Prop := (t.2.2.1 109 23).toInt ≠ 0 → 0 ≤ (t.2.2.1 109 24).toInt ∧ ∀ a : Nat, TKN (s.1 125) (s.2.2.1 109 22).toInt.toNat a (s.2.2.1 109 29).toInt.toNat (s.2.2.1 109 27).toInt.toNat 1 c → CMX (s.1 125) (s.2.2.1 109 22).toInt.toNat a (t.2.2.1 109 23).toInt (t.2.2.1 109 24).toInt.toNat
/-- what command does, from a place a whose token has been read -/
def RCM (s t : GS) : Prop := ∀ (a : Nat) (k v : Int), TKN (s.1 125) (s.2.2.1 109 22).toInt.toNat a (s.2.2.1 109 29).toInt.toNat (s.2.2.1 109 27).toInt.toNat k v → NTV s k v → k ≠ 0 →
  ((t.2.2.1 109 23).toInt = 0 → (t.2.2.1 109 32).toInt = (s.2.2.1 109 32).toInt + 1 ∧ ∃ c V, CMP (s.1 125) (s.2.2.1 109 22).toInt.toNat a (s.2.2.1 109 29).toInt.toNat c V (t.2.2.1 109 27).toInt.toNat ∧ (t.1 127 (s.2.2.1 109 32).toNatClampNeg).toInt = c + 97 ∧ (∀ i, i < cmA c → (t.1 128 (5 * (s.2.2.1 109 32).toNatClampNeg + i)).toInt = V i) ∧ (∀ j, j < (s.2.2.1 109 32).toNatClampNeg → t.1 127 j = s.1 127 j) ∧ (∀ j, j < 5 * (s.2.2.1 109 32).toNatClampNeg → t.1 128 j = s.1 128 j) ∧ ∀ g, SIM s g → dkC g c V ∧ SIM t (opC g c V)) ∧
  ((t.2.2.1 109 23).toInt ≠ 0 → 0 ≤ (t.2.2.1 109 24).toInt ∧ (CMX (s.1 125) (s.2.2.1 109 22).toInt.toNat a (t.2.2.1 109 23).toInt (t.2.2.1 109 24).toInt.toNat ∨ ∃ c V e, CMP (s.1 125) (s.2.2.1 109 22).toInt.toNat a (t.2.2.1 109 24).toInt.toNat c V e ∧ (∀ g, SIM s g → ¬ dkC g c V) ∧ (t.2.2.1 109 23).toInt = 4))
section RCM
variable {s t : GS} {c : Int} {W : Nat → Int} {e : Nat}
theorem rcm_in {a : Nat} {k v : Int} (h : TKN (s.1 125) (s.2.2.1 109 22).toInt.toNat a (s.2.2.1 109 29).toInt.toNat (s.2.2.1 109 27).toInt.toNat k v) (hn : NTV s k v) (h1 : (s.2.2.1 109 28).toInt = 1) (h2 : (s.2.2.1 109 30).toInt = c + 97) : TKN (s.1 125) (s.2.2.1 109 22).toInt.toNat a (s.2.2.1 109 29).toInt.toNat (s.2.2.1 109 27).toInt.toNat 1 c := by
  have r := tkn_e h
  have ek := ntv_t hn r.2.2.2.2.1 r.2.2.2.2.2
  rw [h1] at ek
  have ev := (hn.2.1 ek.symm).2
  rw [h2] at ev
  have e1 : v = c := by omega
  rw [← e1, ek]
  exact h
theorem rcm_48 (p48 : FBL s t 2 (s.2.2.1 109 29).toInt) (h0 : (s.2.2.1 109 23).toInt = 0) (hp : 0 ≤ (s.2.2.1 109 29).toInt) (hn : ¬ ((s.2.2.1 109 28).toInt = 1 ∧ C4 (s.2.2.1 109 30).toInt)) : RCM s t := by
  intro a k v h hv hk
  have b := p48.1 h0
  have r := tkn_e h
  have ek := ntv_t hv r.2.2.2.2.1 r.2.2.2.2.2
  refine ⟨fun z => by rw [b.1] at z; exact absurd z (by decide), fun _ => ⟨by rw [b.2]; exact hp, Or.inl ?_⟩⟩
  rw [b.1, b.2]
  refine Or.inl ⟨_, k, v, h, hk, fun z => hn ?_, ?_⟩
  · refine ⟨by rw [ek]; exact z.1, ?_⟩
    have ev := (hv.2.1 z.1).2
    rw [ev]
    rcases z.2 with q | q | q | q
    · exact Or.inl (by omega)
    · exact Or.inr (Or.inl (by omega))
    · exact Or.inr (Or.inr (Or.inl (by omega)))
    · exact Or.inr (Or.inr (Or.inr (by omega)))
  · unfold cmF
    rw [if_neg hv.2.2.2.2.1, if_neg hv.2.2.2.2.2]
theorem rcm_x (h1 : (s.2.2.1 109 28).toInt = 1) (h2 : (s.2.2.1 109 30).toInt = c + 97) (h7 : HQ7 s t c) (hf : (t.2.2.1 109 23).toInt ≠ 0) : RCM s t := by
  intro a k v h hv hk
  exact ⟨fun z => absurd z hf, fun z => ⟨(h7 z).1, Or.inl ((h7 z).2 a (rcm_in h hv h1 h2))⟩⟩
theorem rcm_4 (h1 : (s.2.2.1 109 28).toInt = 1) (h2 : (s.2.2.1 109 30).toInt = c + 97) (hc : cmI c) (hE : ∀ a : Nat, TKN (s.1 125) (s.2.2.1 109 22).toInt.toNat a (s.2.2.1 109 29).toInt.toNat (s.2.2.1 109 27).toInt.toNat 1 c → CSE (s.1 125) (s.2.2.1 109 22).toInt.toNat a c W e) (hn : ∀ g, SIM s g → ¬ dkC g c W) (hf : (t.2.2.1 109 23).toInt = 4) (hp : (t.2.2.1 109 24).toInt = (s.2.2.1 109 29).toInt) (h0 : 0 ≤ (s.2.2.1 109 29).toInt) : RCM s t := by
  intro a k v h hv hk
  have hi := rcm_in h hv h1 h2
  refine ⟨fun z => by rw [hf] at z; exact absurd z (by decide), fun _ => ⟨by rw [hp]; exact h0, Or.inr ⟨c, W, e, ?_, hn, hf⟩⟩⟩
  rw [hp]
  exact cs_cmp hc hi (hE a hi)
theorem rcm_0 (h1 : (s.2.2.1 109 28).toInt = 1) (h2 : (s.2.2.1 109 30).toInt = c + 97) (hc : cmI c) (hE : ∀ a : Nat, TKN (s.1 125) (s.2.2.1 109 22).toInt.toNat a (s.2.2.1 109 29).toInt.toNat (s.2.2.1 109 27).toInt.toNat 1 c → CSE (s.1 125) (s.2.2.1 109 22).toInt.toNat a c W e) (hf : (t.2.2.1 109 23).toInt = 0) (hm : (t.2.2.1 109 32).toInt = (s.2.2.1 109 32).toInt + 1) (he : (t.2.2.1 109 27).toInt.toNat = e) (hw : (t.1 127 (s.2.2.1 109 32).toNatClampNeg).toInt = c + 97) (hV : ∀ i, i < cmA c → (t.1 128 (5 * (s.2.2.1 109 32).toNatClampNeg + i)).toInt = W i) (k7 : ∀ j, j < (s.2.2.1 109 32).toNatClampNeg → t.1 127 j = s.1 127 j) (k8 : ∀ j, j < 5 * (s.2.2.1 109 32).toNatClampNeg → t.1 128 j = s.1 128 j) (hs : ∀ g, SIM s g → dkC g c W ∧ SIM t (opC g c W)) : RCM s t := by
  intro a k v h hv hk
  have hi := rcm_in h hv h1 h2
  refine ⟨fun _ => ⟨hm, c, W, ?_, hw, hV, k7, k8, hs⟩, fun z => absurd hf z⟩
  rw [he]
  exact cs_cmp hc hi (hE a hi)
theorem sim_cg {g : GVW} (h : SIM s g) (h0 : t.1 110 = s.1 110) (h2 : t.1 112 = s.1 112) (h9 : t.2.2.1 109 9 = s.2.2.1 109 9) (hm : t.2.2.1 109 32 = s.2.2.1 109 32) : SIM t g := by
  have eg : thg t 320 = thg s 320 := by unfold thg; rw [h2]
  unfold SIM
  rw [h0, eg, h9, hm]
  exact h
theorem c97 {y : Int32} {z : Int32} (h : y = z) : z.toInt = y.toInt - 97 + 97 := by rw [h]; omega
/-- not done -/
theorem rcm_n {sc : GS} {y y1 y4 w w27 : Int32} {m : Nat} (h3 : C4 y.toInt ∧ y = s.2.2.1 109 30 ∧ (s.2.2.1 109 28).toInt = 1 ∧ y1 = s.2.2.1 109 29) (h4 : sc.1 110 = s.1 110 ∧ sc.1 112 = s.1 112 ∧ sc.1 127 = s.1 127 ∧ (∀ j, j < 5 * (s.2.2.1 109 32).toNatClampNeg → sc.1 128 j = s.1 128 j) ∧ sc.2.2.1 109 32 = s.2.2.1 109 32) (h6 : HQ6 s sc (y.toInt - 97) y4 w27.toInt.toNat) (hf0 : (sc.2.2.1 109 23).toInt = 0) (hm0 : y4.toInt = 0) (h9 : sc.2.2.1 109 9 = s.2.2.1 109 9) (hw : w = sc.2.2.1 109 32) (hm : m = 5 * w.toNatClampNeg) (hn : ¬ DON (sI sc 127 w.toNatClampNeg y) y.toInt m ∨ 4000 ≤ (s.2.2.1 109 9).toInt + (s.2.2.1 109 32).toInt) (hf : (t.2.2.1 109 23).toInt = 4) (hp : (t.2.2.1 109 24).toInt = y1.toInt) (h0 : 0 ≤ y1.toInt) : RCM s t := by
  have ew : w.toNatClampNeg = (s.2.2.1 109 32).toNatClampNeg := by rw [hw, h4.2.2.2.2]
  refine rcm_4 h3.2.2.1 (c97 h3.2.1) (c4_i h3.1) (h6 hf0 hm0) ?_ hf (by rw [hp, h3.2.2.2]) (by rw [← h3.2.2.2]; exact h0)
  intro g hg hd
  rcases hn with hn | hn
  · apply hn
    have q := dk_don (s := sI sc 127 w.toNatClampNeg y) (m := m) (sim_cg hg ((sI_p rfl).trans h4.1) ((sI_p rfl).trans h4.2.1) h9 h4.2.2.2.2) (c4_i h3.1) (fun j _ => by rw [sI_p rfl, hm, ew]) hd
    rw [Int.sub_add_cancel] at q
    exact q
  · have a := hd.1
    have b := hg.2.2
    omega
/-- done -/
theorem rcm_d {sc x : GS} {y y1 y4 w w27 z : Int32} {m : Nat} (h3 : C4 y.toInt ∧ y = s.2.2.1 109 30 ∧ (s.2.2.1 109 28).toInt = 1 ∧ y1 = s.2.2.1 109 29) (h4 : sc.1 110 = s.1 110 ∧ sc.1 112 = s.1 112 ∧ sc.1 127 = s.1 127 ∧ (∀ j, j < 5 * (s.2.2.1 109 32).toNatClampNeg → sc.1 128 j = s.1 128 j) ∧ sc.2.2.1 109 32 = s.2.2.1 109 32) (h6 : HQ6 s sc (y.toInt - 97) y4 w27.toInt.toNat) (hf0 : (sc.2.2.1 109 23).toInt = 0) (hm0 : y4.toInt = 0) (h9 : sc.2.2.1 109 9 = s.2.2.1 109 9) (hw : w = sc.2.2.1 109 32) (hm : m = 5 * w.toNatClampNeg) (hd : DON (sI sc 127 w.toNatClampNeg y) y.toInt m) (hS : SDN (sI sc 127 w.toNatClampNeg y) x y.toInt m) (hlt : (s.2.2.1 109 9).toInt + (s.2.2.1 109 32).toInt < 4000) (h27 : w27 = sc.2.2.1 109 27) (hz : z.toInt = w.toInt + 1)
    (x9 : x.2.2.1 109 9 = sc.2.2.1 109 9) (x23 : x.2.2.1 109 23 = sc.2.2.1 109 23) (x27 : x.2.2.1 109 27 = sc.2.2.1 109 27) (x127 : x.1 127 = (sI sc 127 w.toNatClampNeg y).1 127) (x128 : x.1 128 = (sI sc 127 w.toNatClampNeg y).1 128) : RCM s (sF x 109 32 z) := by
  have ew : w.toNatClampNeg = (s.2.2.1 109 32).toNatClampNeg := by rw [hw, h4.2.2.2.2]
  have e8 : (sF x 109 32 z).1 128 = sc.1 128 := x128.trans (sI_p rfl)
  have e7 : (sF x 109 32 z).1 127 = upd (s.1 127) (s.2.2.1 109 32).toNatClampNeg y := by
    show x.1 127 = _
    rw [x127, sI_q, h4.2.2.1, ew]
  have e32 : (sF x 109 32 z).2.2.1 109 32 = z := sF_get.symm
  have hz2 : z.toInt = (s.2.2.1 109 32).toInt + 1 := by rw [hz, hw, h4.2.2.2.2]
  refine rcm_0 h3.2.2.1 (c97 h3.2.1) (c4_i h3.1) (h6 hf0 hm0) ?_ ?_ ?_ ?_ ?_ ?_ ?_ ?_
  · show (x.2.2.1 109 23).toInt = 0
    rw [x23]; exact hf0
  · rw [e32]; exact hz2
  · show (x.2.2.1 109 27).toInt.toNat = _
    rw [x27, h27]
  · rw [e7, ug_at]; omega
  · intro i _; rw [e8]
  · intro j hj; rw [e7, ug_ne (by omega)]
  · intro j hj; rw [e8]; exact h4.2.2.2.1 j hj
  · intro g hg
    have hu : SIM (sI sc 127 w.toNatClampNeg y) g := sim_cg hg ((sI_p rfl).trans h4.1) ((sI_p rfl).trans h4.2.1) h9 h4.2.2.2.2
    have hV : ∀ j, j < cmA (y.toInt - 97) → (sc.1 128 (5 * (s.2.2.1 109 32).toNatClampNeg + j)).toInt = ((sI sc 127 w.toNatClampNeg y).1 128 (m + j)).toInt := fun j _ => by rw [sI_p rfl, hm, ew]
    have b := hg.2.2
    refine ⟨don_dk hu (by omega) (c4_i h3.1) hV (by rw [Int.sub_add_cancel]; exact hd), ?_⟩
    refine sdn_sim (t := sF x 109 32 z) hu (c4_i h3.1) hV (by rw [Int.sub_add_cancel]; exact hd) (by rw [Int.sub_add_cancel]; exact hS) ?_
    rw [e32]
    show (x.2.2.1 109 9).toInt + z.toInt = (sc.2.2.1 109 9).toInt + (sc.2.2.1 109 32).toInt + 1
    rw [x9, hz, hw]
    omega
theorem g0_tr {u : GS} (h : G0S s t) (g : G0S t u) : G0S s u := ⟨g.1.trans h.1, fun i hi => (g.2 i hi).trans (h.2 i hi)⟩
theorem g0_cg (h0 : t.1 110 = s.1 110) (h2 : t.1 112 = s.1 112) : G0S s t := ⟨by rw [h0], fun i _ => by rw [h2]⟩
end RCM
end
section
/-! LOAD OF THE REFERENCE: WHAT IT DOES TO ITS GRAPH -/
def NVQ (N : Nat → Int32) (k : Nat) : Nat → Int := fun i => (N (5 * k + i)).toInt
/-- the commands in the rows W, N, carried out one after the other -/
def opF (g0 : GVW) (W N : Nat → Int32) : Nat → GVW
  | 0 => g0
  | k + 1 => opC (opF g0 W N k) ((W k).toInt - 97) (NVQ N k)
theorem opC_5 {g : GVW} {c : Int} {V W : Nat → Int} (h : ∀ i, i < 5 → V i = W i) : opC g c V = opC g c W := by
  unfold opC
  rw [h 0 (by omega), h 1 (by omega), h 2 (by omega), h 3 (by omega), h 4 (by omega)]
theorem opC_v {g : GVW} {c : Int} {V W : Nat → Int} (hc : cmI c) (hV : ∀ i, i < cmA c → V i = W i) : opC g c V = opC g c W := by
  unfold opC
  rcases hc with e | e | e | e
  · have hA : cmA c = 1 := by rw [e]; rfl
    rw [hA] at hV
    rw [if_pos e, if_pos e, hV 0 (by omega)]
  · have hA : cmA c = 5 := by rw [e]; rfl
    rw [hA] at hV
    rw [if_neg (by omega), if_pos e, if_neg (by omega), if_pos e, hV 0 (by omega), hV 1 (by omega), hV 2 (by omega), hV 3 (by omega), hV 4 (by omega)]
  · have hA : cmA c = 1 := by rw [e]; rfl
    rw [hA] at hV
    rw [if_neg (by omega), if_neg (by omega), if_pos e, if_neg (by omega), if_neg (by omega), if_pos e, hV 0 (by omega)]
  · have hA : cmA c = 2 := by rw [e]; rfl
    rw [hA] at hV
    rw [if_neg (by omega), if_neg (by omega), if_neg (by omega), if_neg (by omega), if_neg (by omega), if_neg (by omega), hV 0 (by omega), hV 1 (by omega)]
theorem opF_cg {g0 : GVW} {W V N M : Nat → Int32} : ∀ k, (∀ j, j < k → W j = V j) → (∀ j, j < 5 * k → N j = M j) → opF g0 W N k = opF g0 V M k
  | 0, _, _ => rfl
  | k + 1, h1, h2 => by
    show opC (opF g0 W N k) ((W k).toInt - 97) (NVQ N k) = opC (opF g0 V M k) ((V k).toInt - 97) (NVQ M k)
    rw [opF_cg k (fun j hj => h1 j (by omega)) (fun j hj => h2 j (by omega)), h1 k (by omega)]
    exact opC_5 (fun i hi => by unfold NVQ; rw [h2 (5 * k + i) (by omega)])
def LDG (s t : GS) (a : Nat) : Prop := LRN (s.1 125) (s.2.2.1 109 22).toInt.toNat (gvR s) (t.2.2.1 109 32).toNatClampNeg a (opF (gvR s) (t.1 127) (t.1 128) (t.2.2.1 109 32).toNatClampNeg) ∧ SIM t (opF (gvR s) (t.1 127) (t.1 128) (t.2.2.1 109 32).toNatClampNeg) ∧ ∀ j, j < (t.2.2.1 109 32).toNatClampNeg → cmI ((t.1 127 j).toInt - 97)
def LDX (s t : GS) : Prop := 0 ≤ (t.2.2.1 109 24).toInt ∧ ∃ (k a : Nat) (g1 : GVW), LRN (s.1 125) (s.2.2.1 109 22).toInt.toNat (gvR s) k a g1 ∧ (CMX (s.1 125) (s.2.2.1 109 22).toInt.toNat a (t.2.2.1 109 23).toInt (t.2.2.1 109 24).toInt.toNat ∨ ∃ c V e, CMP (s.1 125) (s.2.2.1 109 22).toInt.toNat a (t.2.2.1 109 24).toInt.toNat c V e ∧ ¬ dkC g1 c V ∧ (t.2.2.1 109 23).toInt = 4)
def LD1 (s t : GS) : Prop := GEQ (gvR t) (gvR s) ∧ ((t.2.2.1 109 23).toInt = 0 → ∃ a, LDG s t a ∧ ∃ k v, TKN (s.1 125) (s.2.2.1 109 22).toInt.toNat a (t.2.2.1 109 29).toInt.toNat (t.2.2.1 109 27).toInt.toNat k v ∧ NTV t k v) ∧ ((t.2.2.1 109 23).toInt ≠ 0 → LDX s t)
/-- the second half: k commands are done -/
def LD3 (s t : GS) (k : Nat) : Prop := (t.2.2.1 109 23).toInt = 0 ∧ (∃ a, LRN (s.1 125) (s.2.2.1 109 22).toInt.toNat (gvR s) (t.2.2.1 109 32).toNatClampNeg a (opF (gvR s) (t.1 127) (t.1 128) (t.2.2.1 109 32).toNatClampNeg) ∧ CME (s.1 125) (s.2.2.1 109 22).toInt.toNat a) ∧ (∀ j, j < (t.2.2.1 109 32).toNatClampNeg → cmI ((t.1 127 j).toInt - 97)) ∧ GEQ (gvR t) (opF (gvR s) (t.1 127) (t.1 128) k) ∧ k ≤ (t.2.2.1 109 32).toNatClampNeg
section LDF
variable {s u t : GS}
theorem r113 (hI : Inv s) {i : Nat} (hi : i < 160) : (s.1 113 i).toInt ≠ -1 := by
  have h := (hI.1.1 113 i (Nat.lt_of_lt_of_le hi (Nat.le_of_ble_eq_true rfl))).1
  have e : (rI 113).1 = 0 := rfl
  omega
theorem geq_0 {L : FM} (h : Fr L s t) (hq : (qI L.1 111 && qI L.1 113 && qI L.1 114 && qI L.1 115 && qI L.1 116 && qI L.1 117 && qF L.2.2.1 109 9) = true) (g : G0S s t) : GEQ (gvR t) (gvR s) := by
  simp only [Bool.and_eq_true] at hq
  obtain ⟨⟨⟨⟨⟨⟨q1, q3⟩, q4⟩, q5⟩, q6⟩, q7⟩, q8⟩ := hq
  refine ⟨fun i _ => ?_, fun i hi => ?_, fun i _ => ?_, fun i _ => ?_, fun i _ => ?_, fun i _ => ?_, ?_, ?_⟩
  · show t.1 111 i = s.1 111 i; rw [h.1 111 q1]
  · show thf (t.1 112) (t.1 113) i = thf (s.1 112) (s.1 113) i
    unfold thf
    rw [g.2 i hi, h.1 113 q3]
  · show t.1 114 i = s.1 114 i; rw [h.1 114 q4]
  · show t.1 115 i = s.1 115 i; rw [h.1 115 q5]
  · show t.1 116 i = s.1 116 i; rw [h.1 116 q6]
  · show t.1 117 i = s.1 117 i; rw [h.1 117 q7]
  · show (t.1 110 0).toInt = (s.1 110 0).toInt; rw [g.1]
  · show (t.2.2.1 109 9).toInt = (s.2.2.1 109 9).toInt; rw [h.2.2.1 109 9 q8]
theorem ctg_thf (h : ∀ i, i < 160 → (s.1 113 i).toInt ≠ -1) {i : Nat} (hi : i < 160) : ctg (thf (s.1 112) (s.1 113)) i = decide ((s.1 112 i).toInt ≠ 0) := by
  unfold ctg thf
  by_cases c : (s.1 112 i).toInt = 0
  · rw [if_pos c]
    rw [show decide ((Int32.ofInt (-1)).toInt ≠ -1) = false from rfl]
    exact (decide_eq_false (fun z => z c)).symm
  · rw [if_neg c]
    exact (decide_eq_true (h i hi)).trans (decide_eq_true c).symm
theorem ldg_0 (hI : Inv s) (h1 : t.1 110 2 = s.1 110 0) (h3 : ∀ i : Nat, i < 160 → t.1 112 (320 + i) = s.1 112 i ∧ t.1 112 i = s.1 112 i) (h9 : t.2.2.1 109 9 = s.2.2.1 109 9) (hm : t.2.2.1 109 32 = Int32.ofInt 0) (h27 : t.2.2.1 109 27 = Int32.ofInt 0) : LDG s t (t.2.2.1 109 27).toInt.toNat := by
  have ec : (t.2.2.1 109 32).toNatClampNeg = 0 := by rw [hm]; rfl
  unfold LDG
  rw [ec, h27]
  refine ⟨⟨rfl, rfl⟩, ⟨by rw [h1]; rfl, fun i hi => ?_, ?_⟩, fun j hj => absurd hj (Nat.not_lt_zero _)⟩
  · show thg t 320 i = ctg (thf (s.1 112) (s.1 113)) i
    rw [ctg_thf (fun i hi => r113 hI hi) hi]
    unfold thg
    rw [(h3 i hi).1]
  · show (t.2.2.1 109 9).toInt + (t.2.2.1 109 32).toInt = (s.2.2.1 109 9).toInt
    rw [h9, hm]
    exact Int.add_zero _
theorem ldg_cg {a : Nat} (h : LDG s u a) (h0 : t.1 110 = u.1 110) (h2 : t.1 112 = u.1 112) (h7 : t.1 127 = u.1 127) (h8 : t.1 128 = u.1 128) (h9 : t.2.2.1 109 9 = u.2.2.1 109 9) (hm : t.2.2.1 109 32 = u.2.2.1 109 32) : LDG s t a := by
  obtain ⟨a1, a2, a3⟩ := h
  have a4 := sim_cg a2 h0 h2 h9 hm
  unfold LDG
  rw [h7, h8, hm]
  exact ⟨a1, a4, a3⟩
/-- a token is read -/
theorem ld_tok (hI : Inv t) (hG : GEQ (gvR u) (gvR s)) (hD : LDG s u (u.2.2.1 109 27).toInt.toNat) (h0 : (u.2.2.1 109 23).toInt = 0) (hp : ∃ k v, TKN (u.1 125) (u.2.2.1 109 22).toInt.toNat (u.2.2.1 109 27).toInt.toNat (t.2.2.1 109 29).toInt.toNat (t.2.2.1 109 27).toInt.toNat k v ∧ NTK u t k v) (u125 : u.1 125 = s.1 125) (u22 : u.2.2.1 109 22 = s.2.2.1 109 22) (hg : gvR t = gvR u) (r0 : t.1 110 = u.1 110) (r2 : t.1 112 = u.1 112) (r7 : t.1 127 = u.1 127) (r8 : t.1 128 = u.1 128) (r9 : t.2.2.1 109 9 = u.2.2.1 109 9) (rm : t.2.2.1 109 32 = u.2.2.1 109 32) : LD1 s t := by
  obtain ⟨k, v, h, hn⟩ := hp
  rw [u125, u22] at h
  have hf := ntk_f hn h0
  have hDt := ldg_cg hD r0 r2 r7 r8 r9 rm
  refine ⟨by rw [hg]; exact hG, fun z => ⟨_, hDt, k, v, h, hf.2 z⟩, fun z => ?_⟩
  obtain ⟨f1, f2, f3⟩ := hf.1 z
  have h9 := inv_F hI (z := t.2.2.1 109 29) 0 1000 rfl rfl
  unfold In at h9
  refine ⟨by rw [f2]; omega, _, _, _, hDt.1, Or.inl ?_⟩
  rw [f1, f2]
  exact Or.inl ⟨_, k, v, h, by omega, fun q => by omega, rfl⟩
theorem ntv_z {k v : Int} {a p e n : Nat} {T : Nat → Int32} (h : TKN T n a p e k v) (hn : NTV t k v) : (t.2.2.1 109 28).toInt = k := by
  have r := tkn_e h
  exact ntv_t hn r.2.2.2.2.1 r.2.2.2.2.2
/-- a command is read and tried -/
theorem ld_cmd (hU : LD1 s u) (h0 : (u.2.2.1 109 23).toInt = 0) (ht : (u.2.2.1 109 28).toInt ≠ 0) (hR : RCM u t) (hT : GEQ (gvR t) (gvR u)) (hIu : 0 ≤ (u.2.2.1 109 32).toInt) (u125 : u.1 125 = s.1 125) (u22 : u.2.2.1 109 22 = s.2.2.1 109 22) : GEQ (gvR t) (gvR s) ∧ ((t.2.2.1 109 23).toInt = 0 → LDG s t (t.2.2.1 109 27).toInt.toNat) ∧ ((t.2.2.1 109 23).toInt ≠ 0 → LDX s t) := by
  obtain ⟨g1, g2, -⟩ := hU
  obtain ⟨a, ⟨d1, d2, d3⟩, k, v, hk, hv⟩ := g2 h0
  have ek := ntv_z hk hv
  unfold RCM at hR
  rw [u125, u22] at hR
  obtain ⟨r1, r2⟩ := hR a k v hk hv (by omega)
  refine ⟨geq_t hT g1, fun z => ?_, fun z => ?_⟩
  · obtain ⟨m1, c, V, m2, m3, m4, m5, m6, m7⟩ := r1 z
    obtain ⟨m8, m9⟩ := m7 _ d2
    have em : (t.2.2.1 109 32).toNatClampNeg = (u.2.2.1 109 32).toNatClampNeg + 1 := by
      show (t.2.2.1 109 32).toInt.toNat = (u.2.2.1 109 32).toInt.toNat + 1
      omega
    have eo : opF (gvR s) (t.1 127) (t.1 128) (u.2.2.1 109 32).toNatClampNeg = opF (gvR s) (u.1 127) (u.1 128) (u.2.2.1 109 32).toNatClampNeg := opF_cg _ m5 m6
    have ec : (t.1 127 (u.2.2.1 109 32).toNatClampNeg).toInt - 97 = c := by omega
    have en : opF (gvR s) (t.1 127) (t.1 128) (t.2.2.1 109 32).toNatClampNeg = opC (opF (gvR s) (u.1 127) (u.1 128) (u.2.2.1 109 32).toNatClampNeg) c V := by
      rw [em]
      show opC (opF (gvR s) (t.1 127) (t.1 128) (u.2.2.1 109 32).toNatClampNeg) ((t.1 127 (u.2.2.1 109 32).toNatClampNeg).toInt - 97) (NVQ (t.1 128) (u.2.2.1 109 32).toNatClampNeg) = _
      rw [eo, ec]
      exact opC_v m2.1 (fun i hi => m4 i hi)
    unfold LDG
    rw [en, em]
    refine ⟨⟨a, _, _, c, V, d1, m2, m8, rfl⟩, m9, fun j hj => ?_⟩
    by_cases q : j = (u.2.2.1 109 32).toNatClampNeg
    · rw [q, ec]; exact m2.1
    · rw [m5 j (by omega)]; exact d3 j (by omega)
  · obtain ⟨x1, x2⟩ := r2 z
    refine ⟨x1, _, a, _, d1, ?_⟩
    rcases x2 with x2 | ⟨c, V, e, y1, y2, y3⟩
    · exact Or.inl x2
    · exact Or.inr ⟨c, V, e, y1, y2 _ d2, y3⟩
theorem ld3_0 (h : LD1 s t) (h0 : (t.2.2.1 109 23).toInt = 0) (ht : (t.2.2.1 109 28).toInt = 0) : LD3 s t 0 := by
  obtain ⟨g1, g2, -⟩ := h
  obtain ⟨a, ⟨d1, d2, d3⟩, k, v, hk, hv⟩ := g2 h0
  have ek := ntv_z hk hv
  rw [ht] at ek
  rw [← ek] at hk
  exact ⟨h0, ⟨a, d1, _, _, v, hk⟩, d3, g1, Nat.zero_le _⟩
theorem ld3_s {k : Nat} (h : LD3 s u k) (hk : k < (u.2.2.1 109 32).toNatClampNeg) (hg : gvR t = opC (gvR u) ((u.1 127 k).toInt - 97) (NVQ (u.1 128) k)) (r7 : t.1 127 = u.1 127) (r8 : t.1 128 = u.1 128) (rm : t.2.2.1 109 32 = u.2.2.1 109 32) (rf : t.2.2.1 109 23 = u.2.2.1 109 23) : LD3 s t (k + 1) := by
  obtain ⟨a0, a1, a2, a3, -⟩ := h
  unfold LD3
  rw [r7, r8, rm, rf, hg]
  exact ⟨a0, a1, a2, opC_e a3 (a2 k hk) (fun _ _ => rfl), hk⟩
theorem ld3_e {k : Nat} {z f p : Int} (h : LD3 s t k) (hk : (t.2.2.1 109 32).toNatClampNeg ≤ k) (hz : z = (((t.2.2.1 109 32).toNatClampNeg : Nat) : Int)) (hf : f = (t.2.2.1 109 23).toInt) : LOT (s.1 125) (s.2.2.1 109 22).toInt.toNat (gvR s) z f p (gvR t) := by
  obtain ⟨a0, ⟨a, a1, a5⟩, a2, a3, a4⟩ := h
  have e : k = (t.2.2.1 109 32).toNatClampNeg := by omega
  rw [e] at a3
  exact Or.inl ⟨_, a, _, a1, a5, hz, by rw [hf]; exact a0, a3⟩
theorem ld1_x {z : Int} (h : LD1 s t) (h0 : (t.2.2.1 109 23).toInt ≠ 0) (hz : z = -4) : LOT (s.1 125) (s.2.2.1 109 22).toInt.toNat (gvR s) z (t.2.2.1 109 23).toInt (t.2.2.1 109 24).toInt (gvR t) := by
  obtain ⟨g1, -, g2⟩ := h
  obtain ⟨x0, k, a, g, x1, x2⟩ := g2 h0
  exact Or.inr ⟨k, a, _, g, x1, x2, hz, by omega, g1⟩
/-- each kind -/
theorem oR_n {c : Int} {V : Nat → Int} {x : Int32} (h : c = 13) (h0 : V 0 = x.toInt) : opC (gvR s) c V = gqN (gvR s) (s.1 110 0).toNatClampNeg x := by
  unfold opC
  rw [if_pos h, h0, Int32.ofInt_toInt]
  rfl
theorem oR_a {c : Int} {V : Nat → Int} {p : Nat} {x0 x1 x2 x3 x4 : Int32} (hI : Inv s) (h : c = 0) (hp : p = fpl (thg s 0)) (h0 : V 0 = x0.toInt) (h1 : V 1 = x1.toInt) (h2 : V 2 = x2.toInt) (h3 : V 3 = x3.toInt) (h4 : V 4 = x4.toInt) : opC (gvR s) c V = gqA (gvR s) p x0 x1 x2 x3 x4 := by
  unfold opC
  have e : fpl (ctg (gvR s).2.1) = p := by
    rw [hp]
    refine fpl_cg (fun i hi => ?_)
    show ctg (thf (s.1 112) (s.1 113)) i = thg s 0 i
    rw [ctg_thf (fun i hi => r113 hI hi) hi]
    unfold thg
    rw [Nat.zero_add]
  rw [if_neg (by omega), if_pos h, h0, h1, h2, h3, h4, e, Int32.ofInt_toInt, Int32.ofInt_toInt, Int32.ofInt_toInt, Int32.ofInt_toInt, Int32.ofInt_toInt]
theorem oR_t {c : Int} {V : Nat → Int} {x : Int32} (h : c = 19) (h0 : V 0 = x.toInt) : opC (gvR s) c V = gqD (gvR s) x.toNatClampNeg := by
  unfold opC
  rw [if_neg (by omega), if_neg (by omega), if_pos h, h0]
  rfl
theorem oR_w {c : Int} {V : Nat → Int} {x y : Int32} (h13 : c ≠ 13) (h00 : c ≠ 0) (h19 : c ≠ 19) (h0 : V 0 = x.toInt) (h1 : V 1 = y.toInt) : opC (gvR s) c V = gqW (gvR s) x.toNatClampNeg (Int32.ofInt 0) y := by
  unfold opC
  rw [if_neg h13, if_neg h00, if_neg h19, h0, h1, Int32.ofInt_toInt]
  rfl
theorem upd_lo {f : Nat → Int32} {p i m : Nat} {x : Int32} (hi : i < m) (hp : m ≤ p) : upd f p x i = f i := ug_ne (by omega)
theorem geq_110 {g : GVW} {j : Nat} {v : Int32} (hj : j ≠ 0) (h : GEQ (gvR u) g) : GEQ (gvR (sI u 110 j v)) g := by
  obtain ⟨q1, q2, q3, q4, q5, q6, q7, q8⟩ := h
  refine ⟨q1, q2, q3, q4, q5, q6, ?_, q8⟩
  show ((sI u 110 j v).1 110 0).toInt = _
  rw [sI_q, ug_ne (fun e => hj e.symm)]
  exact q7
theorem geq_112 {g : GVW} {j : Nat} {v : Int32} (hj : 160 ≤ j) (h : GEQ (gvR u) g) : GEQ (gvR (sI u 112 j v)) g := by
  obtain ⟨q1, q2, q3, q4, q5, q6, q7, q8⟩ := h
  refine ⟨q1, fun i hi => ?_, q3, q4, q5, q6, q7, q8⟩
  have e := q2 i hi
  rw [← e]
  show thf ((sI u 112 j v).1 112) (u.1 113) i = thf (u.1 112) (u.1 113) i
  unfold thf
  rw [sI_q, upd_lo hi hj]
theorem geq_rp {k : Nat} (hR : Rng u) (hk : k < 4000) (hp : AP u t k 1) (hr : RP u t k 1) (h9 : t.2.2.1 109 9 = u.2.2.1 109 9) : GEQ (gvR t) (gvR u) := by
  have w := hR.1 118 k (Nat.lt_of_lt_of_le hk (Nat.le_of_ble_eq_true rfl))
  have w1 : (rI 118).1 = 0 := rfl
  have w2 : (rI 118).2 = 4 := rfl
  unfold In at w
  rw [w1, w2] at w
  have e0 : t.1 110 0 = u.1 110 0 := hp.2.1 0 (by decide)
  obtain ⟨r0, r1, r2, r3, r4⟩ := hr
  have H : (∀ i, i < 32 → t.1 111 i = u.1 111 i) ∧ (∀ i, i < 160 → t.1 112 i = u.1 112 i) ∧ (∀ i, i < 160 → t.1 113 i = u.1 113 i) ∧ (∀ i, i < 160 → t.1 114 i = u.1 114 i) ∧ (∀ i, i < 160 → t.1 115 i = u.1 115 i) ∧ (∀ i, i < 160 → t.1 116 i = u.1 116 i) ∧ (∀ i, i < 160 → t.1 117 i = u.1 117 i) := by
    have c : (u.1 118 k).toInt = 0 ∨ (u.1 118 k).toInt = 1 ∨ (u.1 118 k).toInt = 2 ∨ (u.1 118 k).toInt = 3 ∨ (u.1 118 k).toInt = 4 := by omega
    rcases c with c | c | c | c | c
    · obtain ⟨a1, a2, a3, a4, a5, a6, a7⟩ := r0 c
      rw [a1, a2, a3, a4, a5, a6, a7]
      exact ⟨fun i hi => upd_lo hi (by omega), fun _ _ => rfl, fun _ _ => rfl, fun _ _ => rfl, fun _ _ => rfl, fun _ _ => rfl, fun _ _ => rfl⟩
    · obtain ⟨a1, ⟨v, -, a2⟩, a3, a4, a5, a6, a7⟩ := r1 c
      rw [a1, a2, a3, a4, a5, a6, a7]
      exact ⟨fun _ _ => rfl, fun i hi => upd_lo hi (by omega), fun i hi => upd_lo hi (by omega), fun i hi => upd_lo hi (by omega), fun i hi => upd_lo hi (by omega), fun i hi => upd_lo hi (by omega), fun i hi => upd_lo hi (by omega)⟩
    · obtain ⟨a1, ⟨v, -, a2⟩, a3, a4, a5, a6, a7⟩ := r2 c
      rw [a1, a2, a3, a4, a5, a6, a7]
      exact ⟨fun _ _ => rfl, fun i hi => upd_lo hi (by omega), fun _ _ => rfl, fun _ _ => rfl, fun _ _ => rfl, fun _ _ => rfl, fun _ _ => rfl⟩
    · obtain ⟨a1, a2, a3, a4, a5, a6, a7⟩ := r3 c
      rw [a1, a2, a3, a4, a5, a6, a7]
      refine ⟨fun _ _ => rfl, fun _ _ => rfl, fun _ _ => rfl, fun _ _ => rfl, fun i hi => ?_, fun i hi => ?_, fun i hi => ?_⟩
      · split
        · exact upd_lo hi (by omega)
        · rfl
      · split
        · exact upd_lo hi (by omega)
        · rfl
      · split
        · exact upd_lo hi (by omega)
        · rfl
    · obtain ⟨a1, a2, a3, a4, a5, a6, a7⟩ := r4 c
      rw [a1, a2, a3, a4, a5, a6, a7]
      exact ⟨fun i hi => upd_lo hi (by omega), fun _ _ => rfl, fun _ _ => rfl, fun _ _ => rfl, fun _ _ => rfl, fun _ _ => rfl, fun _ _ => rfl⟩
  obtain ⟨b1, b2, b3, b4, b5, b6, b7⟩ := H
  refine ⟨b1, fun i hi => ?_, b4, b5, b6, b7, ?_, ?_⟩
  · show thf (t.1 112) (t.1 113) i = thf (u.1 112) (u.1 113) i
    unfold thf
    rw [b2 i hi, b3 i hi]
  · show (t.1 110 0).toInt = (u.1 110 0).toInt; rw [e0]
  · show (t.2.2.1 109 9).toInt = (u.2.2.1 109 9).toInt; rw [h9]
/-- what view answers -/
def VWQ (s t : GS) (x z : Int32) : Prop := ((t.2.2.1 109 0).toInt = 1 ∧ ¬ (-1 ≤ x.toInt ∧ x.toInt ≤ (s.2.2.1 109 9).toInt)) ∨ ((t.2.2.1 109 0).toInt = 0 ∧ (-1 ≤ x.toInt ∧ x.toInt ≤ (s.2.2.1 109 9).toInt) ∧ z = (if x.toInt < 0 then s.2.2.1 109 9 else x))
theorem fpl_R (hI : Inv s) : fpl (ctg (gvR s).2.1) = fpl (thg s 0) := by
  refine fpl_cg (fun i hi => ?_)
  show ctg (thf (s.1 112) (s.1 113)) i = thg s 0 i
  rw [ctg_thf (fun i hi => r113 hI hi) hi]
  unfold thg
  rw [Nat.zero_add]
end LDF
end
section
/-! WHAT CAN BE SEEN OF A GRAPH; HISTORY -/
/-- alike as far as can be seen: labels of nodes, values of arcs -/
def GEV (g h : GVW) : Prop := (∀ i : Nat, (i : Int) < g.2.2.2.2.2.2.1 → g.1 i = h.1 i) ∧ (∀ i, i < 160 → g.2.1 i = h.2.1 i) ∧ (∀ i, i < 160 → (g.2.1 i).toInt ≠ -1 → g.2.2.1 i = h.2.2.1 i ∧ g.2.2.2.1 i = h.2.2.2.1 i ∧ g.2.2.2.2.1 i = h.2.2.2.2.1 i ∧ g.2.2.2.2.2.1 i = h.2.2.2.2.2.1 i) ∧ g.2.2.2.2.2.2.1 = h.2.2.2.2.2.2.1 ∧ g.2.2.2.2.2.2.2 = h.2.2.2.2.2.2.2
section GEV
variable {g h k : GVW}
theorem gev_q (q : GEQ g h) (hn : g.2.2.2.2.2.2.1 ≤ 32) : GEV g h := by
  obtain ⟨q1, q2, q3, q4, q5, q6, q7, q8⟩ := q
  exact ⟨fun i hi => q1 i (by omega), q2, fun i hi _ => ⟨q3 i hi, q4 i hi, q5 i hi, q6 i hi⟩, q7, q8⟩
theorem gev_r : GEV g g := ⟨fun _ _ => rfl, fun _ _ => rfl, fun _ _ _ => ⟨rfl, rfl, rfl, rfl⟩, rfl, rfl⟩
theorem gev_s (q : GEV g h) : GEV h g := by
  obtain ⟨q1, q2, q3, q4, q5⟩ := q
  refine ⟨fun i hi => (q1 i (by omega)).symm, fun i hi => (q2 i hi).symm, fun i hi hn => ?_, q4.symm, q5.symm⟩
  obtain ⟨a, b, c, d⟩ := q3 i hi (by rw [q2 i hi]; exact hn)
  exact ⟨a.symm, b.symm, c.symm, d.symm⟩
theorem gev_t (q : GEV g h) (r : GEV h k) : GEV g k := by
  obtain ⟨q1, q2, q3, q4, q5⟩ := q
  obtain ⟨r1, r2, r3, r4, r5⟩ := r
  refine ⟨fun i hi => (q1 i hi).trans (r1 i (by omega)), fun i hi => (q2 i hi).trans (r2 i hi), fun i hi hn => ?_, q4.trans r4, q5.trans r5⟩
  obtain ⟨a, b, c, d⟩ := q3 i hi hn
  obtain ⟨a2, b2, c2, d2⟩ := r3 i hi (by rw [← q2 i hi]; exact hn)
  exact ⟨a.trans a2, b.trans b2, c.trans c2, d.trans d2⟩
theorem upd_v {f f2 : Nat → Int32} {p i : Nat} {x : Int32} (h : i ≠ p → f i = f2 i) : upd f p x i = upd f2 p x i := by
  by_cases c : i = p
  · rw [c, ug_at, ug_at]
  · rw [ug_ne c, ug_ne c]; exact h c
theorem gev_N {p : Nat} {l : Int32} (q : GEV g h) (hp : (p : Int) = g.2.2.2.2.2.2.1) : GEV (gqN g p l) (gqN h p l) := by
  obtain ⟨q1, q2, q3, q4, q5⟩ := q
  refine ⟨fun i hi => upd_v (fun c => q1 i ?_), q2, q3, by show g.2.2.2.2.2.2.1 + 1 = h.2.2.2.2.2.2.1 + 1; rw [q4], by show g.2.2.2.2.2.2.2 + 1 = h.2.2.2.2.2.2.2 + 1; rw [q5]⟩
  have hi2 : (i : Int) < g.2.2.2.2.2.2.1 + 1 := hi
  omega
theorem gev_A {p : Nat} {a b w r c : Int32} (q : GEV g h) : GEV (gqA g p a b w r c) (gqA h p a b w r c) := by
  obtain ⟨q1, q2, q3, q4, q5⟩ := q
  refine ⟨q1, fun i hi => upd_v (fun _ => q2 i hi), fun i hi hn => ?_, q4, by show g.2.2.2.2.2.2.2 + 1 = h.2.2.2.2.2.2.2 + 1; rw [q5]⟩
  have key : i ≠ p → g.2.2.1 i = h.2.2.1 i ∧ g.2.2.2.1 i = h.2.2.2.1 i ∧ g.2.2.2.2.1 i = h.2.2.2.2.1 i ∧ g.2.2.2.2.2.1 i = h.2.2.2.2.2.1 i := fun e => q3 i hi (by
    have hn2 : (upd g.2.1 p a i).toInt ≠ -1 := hn
    rw [ug_ne e] at hn2
    exact hn2)
  exact ⟨upd_v (fun e => (key e).1), upd_v (fun e => (key e).2.1), upd_v (fun e => (key e).2.2.1), upd_v (fun e => (key e).2.2.2)⟩
theorem gev_D {p : Nat} (q : GEV g h) : GEV (gqD g p) (gqD h p) := by
  obtain ⟨q1, q2, q3, q4, q5⟩ := q
  refine ⟨q1, fun i hi => upd_v (fun _ => q2 i hi), fun i hi hn => ?_, q4, by show g.2.2.2.2.2.2.2 + 1 = h.2.2.2.2.2.2.2 + 1; rw [q5]⟩
  have hn2 : (upd g.2.1 p (Int32.ofInt (-1)) i).toInt ≠ -1 := hn
  by_cases e : i = p
  · rw [e, ug_at] at hn2; exact absurd rfl hn2
  · rw [ug_ne e] at hn2
    exact q3 i hi hn2
theorem ite_v {f f2 g2 h2 : Nat → Int32} {i : Nat} {P : Prop} [Decidable P] (h1 : f i = g2 i) (h3 : f2 i = h2 i) : (if P then f else f2) i = (if P then g2 else h2) i := by
  by_cases c : P
  · rw [if_pos c, if_pos c]; exact h1
  · rw [if_neg c, if_neg c]; exact h3
theorem gev_W {p : Nat} {w v : Int32} (q : GEV g h) : GEV (gqW g p w v) (gqW h p w v) := by
  obtain ⟨q1, q2, q3, q4, q5⟩ := q
  refine ⟨q1, q2, fun i hi hn => ?_, q4, by show g.2.2.2.2.2.2.2 + 1 = h.2.2.2.2.2.2.2 + 1; rw [q5]⟩
  obtain ⟨a, b, c, d⟩ := q3 i hi hn
  exact ⟨a, ite_v (upd_v (fun _ => b)) b, ite_v (upd_v (fun _ => c)) c, ite_v (upd_v (fun _ => d)) d⟩
theorem gev_L {p : Nat} {l : Int32} (q : GEV g h) : GEV (gqL g p l) (gqL h p l) := by
  obtain ⟨q1, q2, q3, q4, q5⟩ := q
  exact ⟨fun i hi => upd_v (fun _ => q1 i hi), q2, q3, q4, by show g.2.2.2.2.2.2.2 + 1 = h.2.2.2.2.2.2.2 + 1; rw [q5]⟩
/-- the class's row k -/
theorem gev_R {r : Nat → Int32} {k : Nat} (q : GEV g h) (hp : (r (7 * k)).toInt = 0 → ((r (7 * k + 1)).toNatClampNeg : Int) = g.2.2.2.2.2.2.1) : GEV (gqR g r k) (gqR h r k) := by
  unfold gqR gqP
  split
  · exact gev_A q
  · split
    · rename_i c; exact gev_N q (hp c)
    · split
      · exact gev_D q
      · split
        · exact gev_W q
        · exact gev_L q
end GEV
/-- the reference's row k -/
def gqT (g : GVW) (s : GS) (k : Nat) : GVW := if (s.1 118 k).toInt = 0 then gqN g g.2.2.2.2.2.2.1.toNat (s.1 119 k) else if (s.1 118 k).toInt = 1 then gqA g (s.1 119 k).toNatClampNeg (s.1 120 k) (s.1 121 k) (s.1 122 k) (s.1 123 k) (s.1 124 k) else if (s.1 118 k).toInt = 2 then gqD g (s.1 119 k).toNatClampNeg else if (s.1 118 k).toInt = 3 then gqW g (s.1 119 k).toNatClampNeg (s.1 120 k) (s.1 121 k) else gqL g (s.1 119 k).toNatClampNeg (s.1 120 k)
theorem gev_T {g h : GVW} {s : GS} {k : Nat} (q : GEV g h) (h0 : 0 ≤ g.2.2.2.2.2.2.1) : GEV (gqT g s k) (gqT h s k) := by
  unfold gqT
  rw [← q.2.2.2.1]
  split
  · exact gev_N q (by omega)
  · split
    · exact gev_A q
    · split
      · exact gev_D q
      · split
        · exact gev_W q
        · exact gev_L q
/-- the shown graphs: the class's (cell 32), the reference's graph 1 -/
def gvD (s : GS) : GVW := (s.1 33, s.1 34, s.1 35, s.1 36, s.1 37, s.1 38, (s.2.2.1 32 1).toInt, (s.2.2.1 32 0).toInt)
def gv1 (s : GS) (v : Int) : GVW := (fun i => s.1 111 (32 + i), fun i => thf (s.1 112) (s.1 113) (160 + i), fun i => s.1 114 (160 + i), fun i => s.1 115 (160 + i), fun i => s.1 116 (160 + i), fun i => s.1 117 (160 + i), (s.1 110 1).toInt, v)
/-- a graph with nothing in it -/
def GE0 (g : GVW) : Prop := (∀ i, i < 160 → (g.2.1 i).toInt = -1) ∧ g.2.2.2.2.2.2.1 = 0 ∧ g.2.2.2.2.2.2.2 = 0
theorem ge0_e {g h : GVW} (a : GE0 g) (b : GE0 h) : GEV g h := by
  obtain ⟨a1, a2, a3⟩ := a
  obtain ⟨b1, b2, b3⟩ := b
  exact ⟨fun i hi => by rw [a2] at hi; omega, fun i hi => i_eq.mpr (by rw [a1 i hi, b1 i hi]), fun i hi hn => absurd (a1 i hi) hn, by rw [a2, b2], by rw [a3, b3]⟩
/-- the history: H k the graph of version k -/
def HIS (s : GS) (H : Nat → GVW) : Prop := GE0 (H 0) ∧ ∀ k : Nat, (k : Int) < (s.2.2.1 2 0).toInt → GEV (H (k + 1)) (gqR (H k) (s.1 30) k) ∧ ((s.1 30 (7 * k)).toInt = 0 → ((s.1 30 (7 * k + 1)).toNatClampNeg : Int) = (H k).2.2.2.2.2.2.1) ∧ GEV (H (k + 1)) (gqT (H k) s k) ∧ 0 ≤ (H k).2.2.2.2.2.2.1
/-- what is shown is some version of it -/
def SHW (s : GS) (H : Nat → GVW) : Prop := GEV (gvD s) (H (s.2.2.1 32 0).toInt.toNat) ∧ 0 ≤ (s.2.2.1 32 0).toInt ∧ (s.2.2.1 32 0).toInt ≤ (s.2.2.1 2 0).toInt ∧ s.2.2.1 0 2 = s.2.2.1 109 17 ∧ (0 ≤ (s.2.2.1 109 17).toInt → s.2.2.1 0 2 = s.2.2.1 32 0 ∧ GEV (gv1 s (s.2.2.1 109 17).toInt) (H (s.2.2.1 109 17).toInt.toNat))
theorem gvD_mk {t : GS} {a b c d e f : Nat → Int32} {n v : Int} (h1 : t.1 33 = a) (h2 : t.1 34 = b) (h3 : t.1 35 = c) (h4 : t.1 36 = d) (h5 : t.1 37 = e) (h6 : t.1 38 = f) (h7 : (t.2.2.1 32 1).toInt = n) (h8 : (t.2.2.1 32 0).toInt = v) : gvD t = (a, b, c, d, e, f, n, v) := by
  unfold gvD
  rw [h1, h2, h3, h4, h5, h6, h7, h8]
/-- the class's shown graph is version v of the history, if it was some -/
def SHD (s t : GS) (v : Nat) : Prop := ∀ H, HIS s H → GEV (gvD s) (H (s.2.2.1 32 0).toInt.toNat) → GEV (gvD t) (H v)
theorem shq_r {s : GS} {v : Nat} (h : v = (s.2.2.1 32 0).toInt.toNat) : SHD s s v := by
  intro H _ g
  rw [h]; exact g
theorem shq_0 {s t : GS} {v : Nat} (h : GE0 (gvD t)) (hv : v = 0) : SHD s t v := by
  intro H g _
  rw [hv]; exact ge0_e h g.1
theorem shq_s {s u t : GS} {k v : Nat} (h : SHD s u k) (hk : (u.2.2.1 32 0).toInt.toNat = k) (hv : v = k + 1) (h30 : u.1 30 = s.1 30) (hl : (k : Int) < (s.2.2.1 2 0).toInt) (hg : gvD t = gqR (gvD u) (u.1 30) (u.2.2.1 32 0).toInt.toNat) : SHD s t v := by
  intro H g q
  have a := h H g q
  obtain ⟨b1, b2, -, -⟩ := g.2 k hl
  rw [hg, hk, h30, hv]
  exact gev_t (gev_R a (fun z => by rw [b2 z]; exact a.2.2.2.1.symm)) (gev_s b1)
/-! frames -/
theorem gqT_cg {s t : GS} {g : GVW} {k : Nat} (h0 : t.1 118 = s.1 118) (h1 : t.1 119 = s.1 119) (h2 : t.1 120 = s.1 120) (h3 : t.1 121 = s.1 121) (h4 : t.1 122 = s.1 122) (h5 : t.1 123 = s.1 123) (h6 : t.1 124 = s.1 124) : gqT g t k = gqT g s k := by
  unfold gqT
  rw [h0, h1, h2, h3, h4, h5, h6]
theorem his_fr {s t : GS} {L : FM} {H : Nat → GVW} (h : HIS s H) (hF : Fr L s t) (hq : (qI L.1 30 && (qI L.1 118 && qI L.1 119 && qI L.1 120 && qI L.1 121 && qI L.1 122 && qI L.1 123 && qI L.1 124) && qF L.2.2.1 2 0) = true) : HIS t H := by
  simp only [Bool.and_eq_true] at hq
  obtain ⟨⟨q0, ⟨⟨⟨⟨⟨q1, q2⟩, q3⟩, q4⟩, q5⟩, q6⟩, q7⟩, q8⟩ := hq
  refine ⟨h.1, fun k hk => ?_⟩
  rw [hF.2.2.1 2 0 q8] at hk
  obtain ⟨a, b, c, d⟩ := h.2 k hk
  rw [hF.1 30 q0, gqT_cg (hF.1 118 q1) (hF.1 119 q2) (hF.1 120 q3) (hF.1 121 q4) (hF.1 122 q5) (hF.1 123 q6) (hF.1 124 q7)]
  exact ⟨a, b, c, d⟩
theorem gvD_fr {s t : GS} {L : FM} (hF : Fr L s t) (hq : (qI L.1 33 && qI L.1 34 && qI L.1 35 && qI L.1 36 && qI L.1 37 && qI L.1 38 && qF L.2.2.1 32 1 && qF L.2.2.1 32 0) = true) : gvD t = gvD s := by
  simp only [Bool.and_eq_true] at hq
  obtain ⟨⟨⟨⟨⟨⟨⟨q1, q2⟩, q3⟩, q4⟩, q5⟩, q6⟩, q7⟩, q8⟩ := hq
  unfold gvD
  rw [hF.1 33 q1, hF.1 34 q2, hF.1 35 q3, hF.1 36 q4, hF.1 37 q5, hF.1 38 q6, hF.2.2.1 32 1 q7, hF.2.2.1 32 0 q8]
theorem shd_fr {s u t : GS} {L : FM} {v : Nat} (h : SHD u t v) (hF : Fr L s u) (hq : (qI L.1 30 && (qI L.1 118 && qI L.1 119 && qI L.1 120 && qI L.1 121 && qI L.1 122 && qI L.1 123 && qI L.1 124) && qF L.2.2.1 2 0) = true) (hq2 : (qI L.1 33 && qI L.1 34 && qI L.1 35 && qI L.1 36 && qI L.1 37 && qI L.1 38 && qF L.2.2.1 32 1 && qF L.2.2.1 32 0) = true) : SHD s t v := by
  intro H g q
  refine h H (his_fr g hF hq) ?_
  have e : (u.2.2.1 32 0) = s.2.2.1 32 0 := by
    simp only [Bool.and_eq_true] at hq2
    exact hF.2.2.1 32 0 hq2.2
  rw [gvD_fr hF hq2, e]
  exact q
/-- view of the class -/
def VWD (s t : GS) (x : Int32) : Prop := t.2.2.1 0 2 = x ∧ (x.toInt < 0 → gvD t = gvD s) ∧ (0 ≤ x.toInt → SHD s t x.toInt.toNat ∧ t.2.2.1 32 0 = x)
/-! view of the reference -/
def G1Q (s t : GS) (v : Int) : Prop := ∀ H, HIS s H → (s.2.2.1 109 9).toInt = (s.2.2.1 2 0).toInt → GEV (gv1 t v) (H v.toNat)
theorem g1q_0 {s t : GS} {v : Int} (hn : (t.1 110 1).toInt = 0) (ht : ∀ j : Nat, j < 160 → (t.1 112 (160 + j)).toInt = 0) (hv : v = 0) : G1Q s t v := by
  intro H g _
  rw [hv]
  refine ge0_e ⟨fun i hi => ?_, hn, rfl⟩ g.1
  show (thf (t.1 112) (t.1 113) (160 + i)).toInt = -1
  unfold thf
  rw [if_pos (ht i hi)]
  rfl
theorem upd_sh {f : Nat → Int32} {c p : Nat} {x : Int32} : (fun i => upd f (c + p) x (c + i)) = upd (fun i => f (c + i)) p x := by
  funext i
  by_cases e : i = p
  · rw [e, ug_at]; exact ug_at.symm
  · rw [ug_ne e]; exact ug_ne (by omega)
theorem ite_sh {f g : Nat → Int32} {P : Prop} [Decidable P] {c : Nat} : (fun i => (if P then f else g) (c + i)) = (if P then (fun i => f (c + i)) else (fun i => g (c + i))) := by
  by_cases h : P
  · rw [if_pos h, if_pos h]
  · rw [if_neg h, if_neg h]
theorem thf_sh {th fr : Nat → Int32} {c : Nat} : (fun i => thf th fr (c + i)) = thf (fun i => th (c + i)) (fun i => fr (c + i)) := rfl
theorem gv1_rp {u t : GS} {k : Nat} {v : Int} (hR : Rng u) (hk : k < 4000) (ha : AQ u k 1) (hp : AP u t k 1) (hr : RP u t k 1) : gv1 t (v + 1) = gqT (gv1 u v) u k := by
  have w := hR.1 118 k (Nat.lt_of_lt_of_le hk (Nat.le_of_ble_eq_true rfl))
  have w1 : (rI 118).1 = 0 := rfl
  have w2 : (rI 118).2 = 4 := rfl
  unfold In at w
  rw [w1, w2] at w
  have hn := hp.1
  have hm := ha.2.1
  have ez : (cz (u.1 118) (k + 1) : Int) = (cz (u.1 118) k : Int) + (if (u.1 118 k).toInt = 0 then 1 else 0) := by
    show ((cz (u.1 118) k + (if (u.1 118 k).toInt = 0 then 1 else 0) : Nat) : Int) = _
    by_cases c : (u.1 118 k).toInt = 0
    · rw [if_pos c, if_pos c]; rfl
    · rw [if_neg c, if_neg c]; rfl
  rw [ez, ← hm] at hn
  obtain ⟨r0, r1, r2, r3, r4⟩ := hr
  unfold gqT gv1
  have c : (u.1 118 k).toInt = 0 ∨ (u.1 118 k).toInt = 1 ∨ (u.1 118 k).toInt = 2 ∨ (u.1 118 k).toInt = 3 ∨ (u.1 118 k).toInt = 4 := by omega
  rcases c with c | c | c | c | c
  · obtain ⟨a1, a2, a3, a4, a5, a6, a7⟩ := r0 c
    rw [if_pos c] at hn ⊢
    rw [a1, a2, a3, a4, a5, a6, a7, hn, Nat.mul_one, upd_sh]
    rfl
  · obtain ⟨a1, ⟨x, hx, a2⟩, a3, a4, a5, a6, a7⟩ := r1 c
    rw [if_neg (by omega), Int.add_zero] at hn
    rw [if_neg (by omega), if_pos c, a1, a2, a3, a4, a5, a6, a7, hn, Nat.mul_one, thf_sh, upd_sh, upd_sh, thf_up hx, upd_sh, upd_sh, upd_sh, upd_sh]
    rfl
  · obtain ⟨a1, ⟨x, hx, a2⟩, a3, a4, a5, a6, a7⟩ := r2 c
    rw [if_neg (by omega), Int.add_zero] at hn
    rw [if_neg (by omega), if_neg (by omega), if_pos c, a1, a2, a3, a4, a5, a6, a7, hn, Nat.mul_one, thf_sh, upd_sh, thf_dn hx]
    rfl
  · obtain ⟨a1, a2, a3, a4, a5, a6, a7⟩ := r3 c
    rw [if_neg (by omega), Int.add_zero] at hn
    rw [if_neg (by omega), if_neg (by omega), if_neg (by omega), if_pos c, a1, a2, a3, a4, a5, a6, a7, hn, Nat.mul_one, ite_sh, ite_sh, ite_sh, upd_sh, upd_sh, upd_sh]
    rfl
  · obtain ⟨a1, a2, a3, a4, a5, a6, a7⟩ := r4 c
    rw [if_neg (by omega), Int.add_zero] at hn
    rw [if_neg (by omega), if_neg (by omega), if_neg (by omega), if_neg (by omega), a1, a2, a3, a4, a5, a6, a7, hn, Nat.mul_one, upd_sh]
    rfl
theorem g1q_s {s u t : GS} {k : Nat} {v w : Int} (h : G1Q s u v) (hg : gv1 t (v + 1) = gqT (gv1 u v) u k) (hv : v.toNat = k) (h0 : 0 ≤ v) (hw : w = v + 1) (hl : v < (s.2.2.1 109 9).toInt) (n0 : 0 ≤ (u.1 110 1).toInt) (r0 : u.1 118 = s.1 118) (r1 : u.1 119 = s.1 119) (r2 : u.1 120 = s.1 120) (r3 : u.1 121 = s.1 121) (r4 : u.1 122 = s.1 122) (r5 : u.1 123 = s.1 123) (r6 : u.1 124 = s.1 124) : G1Q s t w := by
  intro H g e
  have a := h H g e
  rw [hv] at a
  obtain ⟨-, -, b, -⟩ := g.2 k (by omega)
  rw [hw, hg, show (v + 1).toNat = k + 1 from by omega]
  refine gev_t (gev_T a n0) ?_
  rw [gqT_cg r0 r1 r2 r3 r4 r5 r6]
  exact gev_s b
theorem g1q_f {s u t : GS} {x y : Int} (e : x = y) (hr : t.1 = u.1) (h : G1Q s u y) : G1Q s t x := by
  intro H g q
  have a := h H g q
  rw [e]
  unfold gv1 at a ⊢
  rw [hr]
  exact a
def VW1 (s t : GS) (x : Int32) : Prop := ((t.2.2.1 109 0).toInt = 0 → t.2.2.1 109 17 = x ∧ (0 ≤ x.toInt → G1Q s t x.toInt)) ∧ ((t.2.2.1 109 0).toInt ≠ 0 → t.1 = s.1 ∧ t.2.2.1 109 17 = s.2.2.1 109 17)
/-! a new row of the logs -/
def LGX (s t : GS) (w a b c d e f : Int32) : Prop := (t.2.2.1 109 9 = s.2.2.1 109 9 ∧ t.1 118 = s.1 118 ∧ t.1 119 = s.1 119 ∧ t.1 120 = s.1 120 ∧ t.1 121 = s.1 121 ∧ t.1 122 = s.1 122 ∧ t.1 123 = s.1 123 ∧ t.1 124 = s.1 124) ∨ (t.1 118 = upd (s.1 118) (s.2.2.1 109 9).toNatClampNeg w ∧ t.1 119 = upd (s.1 119) (s.2.2.1 109 9).toNatClampNeg a ∧ t.1 120 = upd (s.1 120) (s.2.2.1 109 9).toNatClampNeg b ∧ t.1 121 = upd (s.1 121) (s.2.2.1 109 9).toNatClampNeg c ∧ t.1 122 = upd (s.1 122) (s.2.2.1 109 9).toNatClampNeg d ∧ t.1 123 = upd (s.1 123) (s.2.2.1 109 9).toNatClampNeg e ∧ t.1 124 = upd (s.1 124) (s.2.2.1 109 9).toNatClampNeg f)
/-- older rows stay -/
def LGO (s t : GS) : Prop := ∀ k, k < (s.2.2.1 109 9).toNatClampNeg → t.1 118 k = s.1 118 k ∧ t.1 119 k = s.1 119 k ∧ t.1 120 k = s.1 120 k ∧ t.1 121 k = s.1 121 k ∧ t.1 122 k = s.1 122 k ∧ t.1 123 k = s.1 123 k ∧ t.1 124 k = s.1 124 k
theorem lgx_o {s t : GS} {w a b c d e f : Int32} (h : LGX s t w a b c d e f) : LGO s t := by
  intro k hk
  rcases h with ⟨-, h0, h1, h2, h3, h4, h5, h6⟩ | ⟨h0, h1, h2, h3, h4, h5, h6⟩
  · rw [h0, h1, h2, h3, h4, h5, h6]
    exact ⟨rfl, rfl, rfl, rfl, rfl, rfl, rfl⟩
  · rw [h0, h1, h2, h3, h4, h5, h6]
    have n : k ≠ (s.2.2.1 109 9).toNatClampNeg := by omega
    exact ⟨ug_ne n, ug_ne n, ug_ne n, ug_ne n, ug_ne n, ug_ne n, ug_ne n⟩
theorem gqT_o {s t : GS} {g : GVW} {k : Nat} (h : LGO s t) (hk : k < (s.2.2.1 109 9).toNatClampNeg) : gqT g t k = gqT g s k := by
  obtain ⟨h0, h1, h2, h3, h4, h5, h6⟩ := h k hk
  unfold gqT
  rw [h0, h1, h2, h3, h4, h5, h6]
theorem lgx_t {s t : GS} {w a b c d e f : Int32} {g : GVW} (h : LGX s t w a b c d e f) (hv : t.2.2.1 109 9 ≠ s.2.2.1 109 9) : gqT g t (s.2.2.1 109 9).toNatClampNeg = (if w.toInt = 0 then gqN g g.2.2.2.2.2.2.1.toNat a else if w.toInt = 1 then gqA g a.toNatClampNeg b c d e f else if w.toInt = 2 then gqD g a.toNatClampNeg else if w.toInt = 3 then gqW g a.toNatClampNeg b c else gqL g a.toNatClampNeg b) := by
  rcases h with h | ⟨h0, h1, h2, h3, h4, h5, h6⟩
  · exact absurd h.1 hv
  · unfold gqT
    rw [h0, h1, h2, h3, h4, h5, h6]
    simp only [ug_at]
/-- what one change of the class writes into the log -/
def LGC (s t : GS) : Prop := (∀ k : Nat, (k : Int) < 7 * (s.2.2.1 2 0).toInt → t.1 30 k = s.1 30 k) ∧ gvC t = gqR (gvC s) (t.1 30) (s.2.2.1 2 0).toInt.toNat ∧ ((t.1 30 (7 * (s.2.2.1 2 0).toInt.toNat)).toInt = 0 → ((t.1 30 (7 * (s.2.2.1 2 0).toInt.toNat + 1)).toNatClampNeg : Int) = (s.2.2.1 2 1).toInt)
theorem gqR_p {r q : Nat → Int32} {g : GVW} {k : Nat} {n : Int} (h : ∀ j : Nat, (j : Int) < 7 * n → r j = q j) (hk : (k : Int) < n) : gqR g r k = gqR g q k ∧ r (7 * k) = q (7 * k) ∧ r (7 * k + 1) = q (7 * k + 1) := by
  unfold gqR
  rw [h (7 * k) (by omega), h (7 * k + 1) (by omega), h (7 * k + 2) (by omega), h (7 * k + 3) (by omega), h (7 * k + 4) (by omega), h (7 * k + 5) (by omega), h (7 * k + 6) (by omega)]
  exact ⟨rfl, rfl, rfl⟩
/-- one change on both sides: the history goes on -/
theorem his_x {s t u : GS} {H : Nat → GVW} (h : HIS s H) (hl : GEV (H (s.2.2.1 2 0).toInt.toNat) (gvC s)) (h0 : 0 ≤ (s.2.2.1 2 0).toInt) (n0 : 0 ≤ (s.2.2.1 2 1).toInt) (hC : LGC s t) (hv : (t.2.2.1 2 0).toInt = (s.2.2.1 2 0).toInt + 1) (u30 : u.1 30 = t.1 30) (uv : u.2.2.1 2 0 = t.2.2.1 2 0) (hc9 : (s.2.2.1 109 9).toInt = (s.2.2.1 2 0).toInt) (hO : LGO s u) (hg : GEV (gvC t) (gqT (gvC s) u (s.2.2.1 109 9).toNatClampNeg)) : HIS u (fun k => if k ≤ (s.2.2.1 2 0).toInt.toNat then H k else gvC t) := by
  have ech : (s.2.2.1 109 9).toNatClampNeg = (s.2.2.1 2 0).toInt.toNat := congrArg Int.toNat hc9
  refine ⟨by show GE0 (if 0 ≤ _ then H 0 else _); rw [if_pos (Nat.zero_le _)]; exact h.1, fun k hk => ?_⟩
  rw [uv, hv] at hk
  show GEV (if k + 1 ≤ _ then H (k + 1) else gvC t) (gqR (if k ≤ _ then H k else gvC t) (u.1 30) k) ∧ (_ → _ = (if k ≤ _ then H k else gvC t).2.2.2.2.2.2.1) ∧ GEV (if k + 1 ≤ _ then H (k + 1) else gvC t) (gqT (if k ≤ _ then H k else gvC t) u k) ∧ 0 ≤ (if k ≤ _ then H k else gvC t).2.2.2.2.2.2.1
  rw [if_pos (show k ≤ (s.2.2.1 2 0).toInt.toNat by omega), u30]
  by_cases c : k + 1 ≤ (s.2.2.1 2 0).toInt.toNat
  · rw [if_pos c]
    obtain ⟨a, b, d, e⟩ := h.2 k (by omega)
    obtain ⟨p1, p2, p3⟩ := gqR_p (g := H k) (k := k) hC.1 (by omega)
    rw [p1, p2, p3, gqT_o hO (by omega)]
    exact ⟨a, b, d, e⟩
  · rw [if_neg c]
    have ek : k = (s.2.2.1 2 0).toInt.toNat := by omega
    subst ek
    have hl2 := gev_s hl
    refine ⟨?_, fun z => ?_, ?_, by rw [hl.2.2.2.1]; exact n0⟩
    · have q := gev_R (r := t.1 30) (k := (s.2.2.1 2 0).toInt.toNat) hl2 (fun z => hC.2.2 z)
      rw [← hC.2.1] at q
      exact q
    · rw [hC.2.2 z, hl.2.2.2.1]; rfl
    · have q := gev_T (s := u) (k := (s.2.2.1 109 9).toNatClampNeg) hl2 n0
      rw [ech] at hg q
      exact gev_t hg q
/-! what is shown -/
def shC (s : GS) : GVW := if (s.2.2.1 0 2).toInt = -1 then gvC s else gvD s
theorem shC_n {s : GS} (h : (s.2.2.1 0 2).toInt = -1) : shC s = gvC s := if_pos h
theorem shC_d {s : GS} (h : (s.2.2.1 0 2).toInt ≠ -1) : shC s = gvD s := if_neg h
/-- the reference's graph g, as it is seen -/
def gvG (s : GS) (g : Nat) : GVW := (fun i => s.1 111 (32 * g + i), fun i => thf (s.1 112) (s.1 113) (160 * g + i), fun i => s.1 114 (160 * g + i), fun i => s.1 115 (160 * g + i), fun i => s.1 116 (160 * g + i), fun i => s.1 117 (160 * g + i), (s.1 110 g).toInt, (s.2.2.1 109 9).toInt)
/-- g is the graph that is looked at -/
def GSE (s : GS) : Prop := (s.2.2.1 109 18).toInt = (if (s.2.2.1 109 17).toInt < 0 then 0 else 1)
theorem gse_i {s : GS} {a b : Int32} (h1 : a = s.2.2.1 109 18) (h2 : b = s.2.2.1 109 17) (h : (b.toInt < 0 ∧ a.toInt = 0) ∨ (0 ≤ b.toInt ∧ a.toInt = 1)) : GSE s := by
  unfold GSE
  rw [← h1, ← h2]
  rcases h with ⟨x, y⟩ | ⟨x, y⟩
  · rw [if_pos x]; exact y
  · rw [if_neg (by omega)]; exact y
theorem gse_fr {s t : GS} {L : FM} (h : GSE s) (hF : Fr L s t) (hq : (qF L.2.2.1 109 18 && qF L.2.2.1 109 17) = true) : GSE t := by
  rw [Bool.and_eq_true] at hq
  unfold GSE
  rw [hF.2.2.1 109 18 hq.1, hF.2.2.1 109 17 hq.2]
  exact h
/-! load of the reference: its log -/
theorem geq_T {g h : GVW} {s : GS} {k : Nat} (q : GEQ g h) : GEQ (gqT g s k) (gqT h s k) := by
  unfold gqT
  rw [← q.2.2.2.2.2.2.1]
  split
  · exact geq_N q
  · split
    · exact geq_A q
    · split
      · exact geq_D q
      · split
        · exact geq_W q
        · exact geq_L q
def L28 (s t : GS) : Prop := (t.1 118 = s.1 118 ∧ t.1 119 = s.1 119 ∧ t.1 120 = s.1 120 ∧ t.1 121 = s.1 121 ∧ t.1 122 = s.1 122 ∧ t.1 123 = s.1 123 ∧ t.1 124 = s.1 124) ∧ t.2.2.1 109 9 = s.2.2.1 109 9 ∧ (GSE s → GSE t)
theorem l28_fr {s u t : GS} {L : FM} (h : L28 s u) (hF : Fr L u t) (hq : (qI L.1 118 && qI L.1 119 && qI L.1 120 && qI L.1 121 && qI L.1 122 && qI L.1 123 && qI L.1 124 && qF L.2.2.1 109 9 && (qF L.2.2.1 109 18 && qF L.2.2.1 109 17)) = true) : L28 s t := by
  simp only [Bool.and_eq_true] at hq
  obtain ⟨⟨⟨⟨⟨⟨⟨⟨q0, q1⟩, q2⟩, q3⟩, q4⟩, q5⟩, q6⟩, q7⟩, q8, q9⟩ := hq
  obtain ⟨⟨a0, a1, a2, a3, a4, a5, a6⟩, a7, a8⟩ := h
  refine ⟨⟨(hF.1 118 q0).trans a0, (hF.1 119 q1).trans a1, (hF.1 120 q2).trans a2, (hF.1 121 q3).trans a3, (hF.1 122 q4).trans a4, (hF.1 123 q5).trans a5, (hF.1 124 q6).trans a6⟩, (hF.2.2.1 109 9 q7).trans a7, fun g => ?_⟩
  have b := a8 g
  unfold GSE at b ⊢
  rw [hF.2.2.1 109 18 q8, hF.2.2.1 109 17 q9]
  exact b
theorem l28_r {s : GS} : L28 s s := ⟨⟨rfl, rfl, rfl, rfl, rfl, rfl, rfl⟩, rfl, id⟩
theorem lgo_tr {s u t : GS} (h : LGO s u) (g : LGO u t) (hc : (s.2.2.1 109 9).toNatClampNeg ≤ (u.2.2.1 109 9).toNatClampNeg) : LGO s t := by
  intro k hk
  obtain ⟨a0, a1, a2, a3, a4, a5, a6⟩ := h k hk
  obtain ⟨b0, b1, b2, b3, b4, b5, b6⟩ := g k (by omega)
  exact ⟨b0.trans a0, b1.trans a1, b2.trans a2, b3.trans a3, b4.trans a4, b5.trans a5, b6.trans a6⟩
def LDL (s t : GS) (k : Nat) : Prop := LGO s t ∧ (t.2.2.1 109 9).toInt = (s.2.2.1 109 9).toInt + (k : Int) ∧ (∀ j, j < k → GEQ (gqT (opF (gvR s) (t.1 127) (t.1 128) j) t ((s.2.2.1 109 9).toNatClampNeg + j)) (opF (gvR s) (t.1 127) (t.1 128) (j + 1))) ∧ (GSE s → GSE t)
theorem ldl_0 {s t : GS} (h : L28 s t) : LDL s t 0 := by
  obtain ⟨⟨a0, a1, a2, a3, a4, a5, a6⟩, a7, a8⟩ := h
  refine ⟨fun k _ => ?_, by rw [a7]; exact (Int.add_zero _).symm, fun j hj => absurd hj (Nat.not_lt_zero _), a8⟩
  rw [a0, a1, a2, a3, a4, a5, a6]
  exact ⟨rfl, rfl, rfl, rfl, rfl, rfl, rfl⟩
theorem ldl_s {s u t : GS} {k : Nat} {w a b c d e f : Int32} (h : LDL s u k) (h3 : LD3 s u k) (h4 : LD3 s t (k + 1)) (h0 : 0 ≤ (s.2.2.1 109 9).toInt) (hv : (t.2.2.1 109 9).toInt = (u.2.2.1 109 9).toInt + 1) (hx : LGX u t w a b c d e f) (hT : gvR t = (if w.toInt = 0 then gqN (gvR u) (gvR u).2.2.2.2.2.2.1.toNat a else if w.toInt = 1 then gqA (gvR u) a.toNatClampNeg b c d e f else if w.toInt = 2 then gqD (gvR u) a.toNatClampNeg else if w.toInt = 3 then gqW (gvR u) a.toNatClampNeg b c else gqL (gvR u) a.toNatClampNeg b)) (r7 : t.1 127 = u.1 127) (r8 : t.1 128 = u.1 128) (hg : GSE t) : LDL s t (k + 1) := by
  obtain ⟨b1, b2, b3, -⟩ := h
  have hne : t.2.2.1 109 9 ≠ u.2.2.1 109 9 := fun z => by rw [z] at hv; omega
  have hO := lgx_o hx
  have ec : (u.2.2.1 109 9).toNatClampNeg = (s.2.2.1 109 9).toNatClampNeg + k := by
    show (u.2.2.1 109 9).toInt.toNat = (s.2.2.1 109 9).toInt.toNat + k
    omega
  refine ⟨lgo_tr b1 hO (by omega), by rw [hv, b2]; omega, fun j hj => ?_, fun _ => hg⟩
  rw [r7, r8]
  by_cases q : j = k
  · rw [q, ← ec]
    have e := lgx_t (g := gvR u) hx hne
    rw [← hT] at e
    have x1 : GEQ (gqT (gvR u) t (u.2.2.1 109 9).toNatClampNeg) (gqT (opF (gvR s) (u.1 127) (u.1 128) k) t (u.2.2.1 109 9).toNatClampNeg) := geq_T h3.2.2.2.1
    rw [e] at x1
    have x2 := h4.2.2.2.1
    rw [r7, r8] at x2
    exact geq_t (geq_s x1) x2
  · rw [gqT_o hO (by omega)]
    exact b3 j (by omega)
/-- each of the commands is one of the text's -/
def LDB (s t : GS) : Prop := ∀ j, j ≤ (t.2.2.1 109 32).toNatClampNeg → ∃ a, LRN (s.1 125) (s.2.2.1 109 22).toInt.toNat (gvR s) j a (opF (gvR s) (t.1 127) (t.1 128) j)
theorem ldb_cg {s u t : GS} (h : LDB s u) (h7 : t.1 127 = u.1 127) (h8 : t.1 128 = u.1 128) (hm : t.2.2.1 109 32 = u.2.2.1 109 32) : LDB s t := by
  unfold LDB
  rw [h7, h8, hm]
  exact h
theorem ldb_0 {s t : GS} (hm : t.2.2.1 109 32 = Int32.ofInt 0) : LDB s t := by
  intro j hj
  have e : (t.2.2.1 109 32).toNatClampNeg = 0 := by rw [hm]; rfl
  have e2 : j = 0 := by omega
  subst e2
  exact ⟨0, rfl, rfl⟩
theorem ldb_cmd {s u t : GS} {a : Nat} (h : LDB s u) (hU : LD1 s u) (h0 : (u.2.2.1 109 23).toInt = 0) (ht : (u.2.2.1 109 28).toInt ≠ 0) (hR : RCM u t) (hIu : 0 ≤ (u.2.2.1 109 32).toInt) (u125 : u.1 125 = s.1 125) (u22 : u.2.2.1 109 22 = s.2.2.1 109 22) (z : (t.2.2.1 109 23).toInt = 0) (hD : LDG s t a) : LDB s t := by
  obtain ⟨-, g2, -⟩ := hU
  obtain ⟨a0, -, k, v, hk, hv⟩ := g2 h0
  have ek := ntv_z hk hv
  unfold RCM at hR
  rw [u125, u22] at hR
  obtain ⟨m1, c, V, m2, m3, m4, m5, m6, m7⟩ := (hR a0 k v hk hv (by omega)).1 z
  intro j hj
  by_cases q : j = (t.2.2.1 109 32).toNatClampNeg
  · rw [q]; exact ⟨a, hD.1⟩
  · have em : (t.2.2.1 109 32).toNatClampNeg = (u.2.2.1 109 32).toNatClampNeg + 1 := by
      show (t.2.2.1 109 32).toInt.toNat = (u.2.2.1 109 32).toInt.toNat + 1
      omega
    have eo : opF (gvR s) (t.1 127) (t.1 128) j = opF (gvR s) (u.1 127) (u.1 128) j := opF_cg j (fun i hi => m5 i (by omega)) (fun i hi => m6 i (by omega))
    rw [eo]
    exact h j (by omega)
/-- what load of the reference does to its log -/
def LDO (s t : GS) (z : Int32) : Prop := (z.toInt ≠ -4 → LDL s t z.toNatClampNeg ∧ LDB s t ∧ (t.2.2.1 109 32).toNatClampNeg = z.toNatClampNeg) ∧ (z.toInt = -4 → L28 s t)
/-! the class's log: one change, a text of changes -/
section LGC
variable {s t u : GS} {x y z w v : Int32} {p : Nat}
theorem lgc_n (hp : (∀ k : Nat, (k : Int) < 7 * (s.2.2.1 2 0).toInt → t.1 30 k = s.1 30 k)) (hg : gvC t = gqN (gvC s) (s.2.2.1 2 1).toNatClampNeg x) (hr : t.1 30 (7 * (s.2.2.1 2 0).toInt.toNat) = (Int32.ofInt 0) ∧ t.1 30 (7 * (s.2.2.1 2 0).toInt.toNat + 1) = (s.2.2.1 2 1) ∧ t.1 30 (7 * (s.2.2.1 2 0).toInt.toNat + 2) = x ∧ t.1 30 (7 * (s.2.2.1 2 0).toInt.toNat + 3) = y) (n0 : 0 ≤ (s.2.2.1 2 1).toInt) : LGC s t := by
  refine ⟨hp, ?_, fun _ => ?_⟩
  · rw [gqR_0 (by rw [hr.1]; rfl), hr.2.1, hr.2.2.1]; exact hg
  · rw [hr.2.1]
    show (((s.2.2.1 2 1).toInt.toNat : Nat) : Int) = _
    omega
theorem lgc_a {a b c d e : Int32} (hp : (∀ k : Nat, (k : Int) < 7 * (s.2.2.1 2 0).toInt → t.1 30 k = s.1 30 k)) (hg : gvC t = gqA (gvC s) x.toNatClampNeg a b c d e) (hr : t.1 30 (7 * (s.2.2.1 2 0).toInt.toNat) = (Int32.ofInt 1) ∧ t.1 30 (7 * (s.2.2.1 2 0).toInt.toNat + 1) = x ∧ t.1 30 (7 * (s.2.2.1 2 0).toInt.toNat + 2) = a ∧ t.1 30 (7 * (s.2.2.1 2 0).toInt.toNat + 3) = b ∧ t.1 30 (7 * (s.2.2.1 2 0).toInt.toNat + 4) = c ∧ t.1 30 (7 * (s.2.2.1 2 0).toInt.toNat + 5) = d ∧ t.1 30 (7 * (s.2.2.1 2 0).toInt.toNat + 6) = e) : LGC s t := by
  refine ⟨hp, ?_, fun q => by rw [hr.1] at q; exact absurd q (by decide)⟩
  rw [gqR_1 (by rw [hr.1]; rfl), hr.2.1, hr.2.2.1, hr.2.2.2.1, hr.2.2.2.2.1, hr.2.2.2.2.2.1, hr.2.2.2.2.2.2]; exact hg
theorem lgc_d (hp : (∀ k : Nat, (k : Int) < 7 * (s.2.2.1 2 0).toInt → t.1 30 k = s.1 30 k)) (hg : gvC t = gqD (gvC s) x.toNatClampNeg) (hr : t.1 30 (7 * (s.2.2.1 2 0).toInt.toNat) = (Int32.ofInt 2) ∧ t.1 30 (7 * (s.2.2.1 2 0).toInt.toNat + 1) = x ∧ t.1 30 (7 * (s.2.2.1 2 0).toInt.toNat + 2) = y ∧ t.1 30 (7 * (s.2.2.1 2 0).toInt.toNat + 3) = z) : LGC s t := by
  refine ⟨hp, ?_, fun q => by rw [hr.1] at q; exact absurd q (by decide)⟩
  rw [gqR_2 (by rw [hr.1]; rfl), hr.2.1]; exact hg
theorem lgc_w (hp : (∀ k : Nat, (k : Int) < 7 * (s.2.2.1 2 0).toInt → t.1 30 k = s.1 30 k)) (hg : gvC t = gqW (gvC s) x.toNatClampNeg w v) (hr : t.1 30 (7 * (s.2.2.1 2 0).toInt.toNat) = (Int32.ofInt 3) ∧ t.1 30 (7 * (s.2.2.1 2 0).toInt.toNat + 1) = x ∧ t.1 30 (7 * (s.2.2.1 2 0).toInt.toNat + 2) = w ∧ t.1 30 (7 * (s.2.2.1 2 0).toInt.toNat + 3) = v) : LGC s t := by
  refine ⟨hp, ?_, fun q => by rw [hr.1] at q; exact absurd q (by decide)⟩
  rw [gqR_3 (by rw [hr.1]; rfl), hr.2.1, hr.2.2.1, hr.2.2.2]; exact hg
theorem lgc_l (hp : (∀ k : Nat, (k : Int) < 7 * (s.2.2.1 2 0).toInt → t.1 30 k = s.1 30 k)) (hg : gvC t = gqL (gvC s) x.toNatClampNeg w) (hr : t.1 30 (7 * (s.2.2.1 2 0).toInt.toNat) = (Int32.ofInt 4) ∧ t.1 30 (7 * (s.2.2.1 2 0).toInt.toNat + 1) = x ∧ t.1 30 (7 * (s.2.2.1 2 0).toInt.toNat + 2) = w ∧ t.1 30 (7 * (s.2.2.1 2 0).toInt.toNat + 3) = v) : LGC s t := by
  refine ⟨hp, ?_, fun q => by rw [hr.1] at q; exact absurd q (by decide)⟩
  rw [gqR_4 (by rw [hr.1]; decide) (by rw [hr.1]; decide) (by rw [hr.1]; decide) (by rw [hr.1]; decide), hr.2.1, hr.2.2.1]; exact hg
theorem lgc_fr {L : FM} (h : LGC u t) (hF : Fr L s u) (hq : (qI L.1 30 && (qI L.1 3 && qI L.1 4 && qI L.1 5 && qI L.1 6 && qI L.1 7 && qI L.1 8 && qF L.2.2.1 2 1 && qF L.2.2.1 2 0)) = true) : LGC s t := by
  rw [Bool.and_eq_true] at hq
  have e := gvC_cg hF hq.2
  have e0 : u.2.2.1 2 0 = s.2.2.1 2 0 := by have q := hq.2; simp only [Bool.and_eq_true] at q; exact hF.2.2.1 2 0 q.2
  have e1 : u.2.2.1 2 1 = s.2.2.1 2 1 := by have q := hq.2; simp only [Bool.and_eq_true] at q; exact hF.2.2.1 2 1 q.1.2
  unfold LGC at h ⊢
  rw [e, e0, e1, hF.1 30 hq.1] at h
  exact h
theorem gqR_v {g : GVW} {r : Nat → Int32} {k : Nat} : (gqR g r k).2.2.2.2.2.2.2 = g.2.2.2.2.2.2.2 + 1 := by
  unfold gqR gqP
  split
  · rfl
  · split
    · rfl
    · split
      · rfl
      · split
        · rfl
        · rfl
theorem lgc_v (h : LGC s t) : (t.2.2.1 2 0).toInt = (s.2.2.1 2 0).toInt + 1 := by
  have e : (gvC t).2.2.2.2.2.2.2 = _ := congrArg (fun g : GVW => g.2.2.2.2.2.2.2) h.2.1
  rw [gqR_v] at e
  exact e
end LGC
def LGS (s t : GS) (k : Nat) : Prop := ∃ G : Nat → GVW, (∀ j, j ≤ k → ∃ a, LRN (s.1 47) (s.2.2.1 46 1).toInt.toNat (gvC s) j a (G j)) ∧ G k = gvC t ∧ (∀ k : Nat, (k : Int) < 7 * (s.2.2.1 2 0).toInt → t.1 30 k = s.1 30 k) ∧ (t.2.2.1 2 0).toInt = (s.2.2.1 2 0).toInt + (k : Int) ∧ ∀ j, j < k → gqR (G j) (t.1 30) ((s.2.2.1 2 0).toInt.toNat + j) = G (j + 1) ∧ ((t.1 30 (7 * ((s.2.2.1 2 0).toInt.toNat + j))).toInt = 0 → ((t.1 30 (7 * ((s.2.2.1 2 0).toInt.toNat + j) + 1)).toNatClampNeg : Int) = (G j).2.2.2.2.2.2.1)
theorem lgs_0 {s t : GS} (hg : gvC t = gvC s) (h30 : t.1 30 = s.1 30) : LGS s t 0 := by
  refine ⟨fun _ => gvC s, fun j hj => ⟨0, ?_⟩, hg.symm, fun k _ => by rw [h30], ?_, fun j hj => absurd hj (Nat.not_lt_zero _)⟩
  · have e : j = 0 := by omega
    rw [e]; exact ⟨rfl, rfl⟩
  · have e : (gvC t).2.2.2.2.2.2.2 = (gvC s).2.2.2.2.2.2.2 := by rw [hg]
    have e2 : (t.2.2.1 2 0).toInt = (s.2.2.1 2 0).toInt := e
    rw [e2]; exact (Int.add_zero _).symm
theorem lgs_s {s u t : GS} {k m : Nat} (h : LGS s u k) (hm : m = k + 1) (hC : LGC u t) (h0 : 0 ≤ (s.2.2.1 2 0).toInt) (hl : ∃ a, LRN (s.1 47) (s.2.2.1 46 1).toInt.toNat (gvC s) m a (gvC t)) : LGS s t m := by
  subst hm
  obtain ⟨G, a1, a2, a3, a4, a5⟩ := h
  have hv := lgc_v hC
  have ek : (u.2.2.1 2 0).toInt.toNat = (s.2.2.1 2 0).toInt.toNat + k := by omega
  refine ⟨fun j => if j ≤ k then G j else gvC t, fun j hj => ?_, by show (if k + 1 ≤ k then _ else _) = _; rw [if_neg (by omega)], fun j hj => ?_, by rw [hv, a4]; omega, fun j hj => ?_⟩
  · show ∃ a, LRN (s.1 47) (s.2.2.1 46 1).toInt.toNat (gvC s) j a (if j ≤ k then G j else gvC t)
    by_cases c : j ≤ k
    · rw [if_pos c]; exact a1 j c
    · rw [if_neg c, show j = k + 1 by omega]; exact hl
  · rw [hC.1 j (by omega)]; exact a3 j hj
  · show gqR (if j ≤ k then G j else gvC t) (t.1 30) ((s.2.2.1 2 0).toInt.toNat + j) = (if j + 1 ≤ k then G (j + 1) else gvC t) ∧ (_ → _ = (if j ≤ k then G j else gvC t).2.2.2.2.2.2.1)
    rw [if_pos (show j ≤ k by omega)]
    by_cases c : j + 1 ≤ k
    · rw [if_pos c]
      obtain ⟨p1, p2, p3⟩ := gqR_p (g := G j) (k := (s.2.2.1 2 0).toInt.toNat + j) hC.1 (by omega)
      rw [p1, p2, p3]
      exact a5 j (by omega)
    · have ej : j = k := by omega
      rw [if_neg c, ej, a2, ← ek]
      exact ⟨hC.2.1.symm, fun z => hC.2.2 z⟩
/-- what load of the class does to its log -/
def LCO (s t : GS) (z : Int32) : Prop := (z.toInt ≠ -4 → LGS s t z.toInt.toNat) ∧ (z.toInt = -4 → (∀ k : Nat, (k : Int) < 7 * (s.2.2.1 2 0).toInt → t.1 30 k = s.1 30 k))
end
section
/-! THE REFERENCE'S GRAPH 1 STAYS AS IT IS -/
def G12 (s t : GS) : Prop := t.1 110 1 = s.1 110 1 ∧ ∀ i, 160 ≤ i → i < 320 → t.1 112 i = s.1 112 i
def G1S (s t : GS) : Prop := t.1 110 1 = s.1 110 1 ∧ (∀ i, 32 ≤ i → t.1 111 i = s.1 111 i) ∧ ∀ i, 160 ≤ i → i < 320 → t.1 112 i = s.1 112 i ∧ t.1 113 i = s.1 113 i ∧ t.1 114 i = s.1 114 i ∧ t.1 115 i = s.1 115 i ∧ t.1 116 i = s.1 116 i ∧ t.1 117 i = s.1 117 i
section G1S
variable {s u t v : GS} {L : FM}
theorem g12_e (h : t = s) : G12 s t := by
  rw [h]
  exact ⟨rfl, fun _ _ _ => rfl⟩
theorem g12_cg (h0 : t.1 110 = s.1 110) (h2 : t.1 112 = s.1 112) : G12 s t := ⟨by rw [h0], fun i _ _ => by rw [h2]⟩
theorem g12_tr (h : G12 s u) (g : G12 u t) : G12 s t := ⟨g.1.trans h.1, fun i h1 h2 => (g.2 i h1 h2).trans (h.2 i h1 h2)⟩
theorem g12_t {i : Nat} {x : Int32} (hi : 320 ≤ i) : G12 s (sI s 112 i x) := by
  refine ⟨by rw [sI_p rfl], fun j h1 h2 => ?_⟩
  rw [sI_q]
  exact ug_ne (by omega)
theorem g12_n {x : Int32} : G12 s (sI s 110 2 x) := by
  refine ⟨?_, fun j h1 h2 => by rw [sI_p rfl]⟩
  rw [sI_q]
  exact ug_ne (by decide)
theorem g1_tr (h : G1S s u) (g : G1S u t) : G1S s t := by
  refine ⟨g.1.trans h.1, fun i hi => (g.2.1 i hi).trans (h.2.1 i hi), fun i h1 h2 => ?_⟩
  obtain ⟨a1, a2, a3, a4, a5, a6⟩ := h.2.2 i h1 h2
  obtain ⟨b1, b2, b3, b4, b5, b6⟩ := g.2.2 i h1 h2
  exact ⟨b1.trans a1, b2.trans a2, b3.trans a3, b4.trans a4, b5.trans a5, b6.trans a6⟩
theorem g1_fr (hF : Fr L s t) (hq : (qI L.1 110 && qI L.1 111 && qI L.1 112 && qI L.1 113 && qI L.1 114 && qI L.1 115 && qI L.1 116 && qI L.1 117) = true) : G1S s t := by
  simp only [Bool.and_eq_true] at hq
  obtain ⟨⟨⟨⟨⟨⟨⟨q0, q1⟩, q2⟩, q3⟩, q4⟩, q5⟩, q6⟩, q7⟩ := hq
  refine ⟨by rw [hF.1 110 q0], fun i _ => by rw [hF.1 111 q1], fun i _ _ => ?_⟩
  rw [hF.1 112 q2, hF.1 113 q3, hF.1 114 q4, hF.1 115 q5, hF.1 116 q6, hF.1 117 q7]
  exact ⟨rfl, rfl, rfl, rfl, rfl, rfl⟩
theorem g1_2 (hF : Fr L s t) (hq : (qI L.1 111 && qI L.1 113 && qI L.1 114 && qI L.1 115 && qI L.1 116 && qI L.1 117) = true) (h : G12 s t) : G1S s t := by
  simp only [Bool.and_eq_true] at hq
  obtain ⟨⟨⟨⟨⟨q1, q3⟩, q4⟩, q5⟩, q6⟩, q7⟩ := hq
  refine ⟨h.1, fun i _ => by rw [hF.1 111 q1], fun i h1 h2 => ?_⟩
  rw [hF.1 113 q3, hF.1 114 q4, hF.1 115 q5, hF.1 116 q6, hF.1 117 q7]
  exact ⟨h.2 i h1 h2, rfl, rfl, rfl, rfl, rfl⟩
theorem g1_mk {k : Nat} {w a : Int32} {f8 f9 : Nat → Int32} (hq : AQ u k 0) (ha : AP u v k 0) (hr : RP u v k 0) (h8 : u.1 118 = upd f8 k w) (hw : In w 0 4) (h9 : u.1 119 = upd f9 k a) (hx : In a 0 159) (r0 : u.1 110 = s.1 110) (r1 : u.1 111 = s.1 111) (r2 : u.1 112 = s.1 112) (r3 : u.1 113 = s.1 113) (r4 : u.1 114 = s.1 114) (r5 : u.1 115 = s.1 115) (r6 : u.1 116 = s.1 116) (r7 : u.1 117 = s.1 117) (ht : t.1 = v.1) : G1S s t := by
  have e8 : u.1 118 k = w := by rw [h8]; exact ug_at
  have e9 : u.1 119 k = a := by rw [h9]; exact ug_at
  have ea : a.toNatClampNeg = a.toInt.toNat := rfl
  have en : (u.1 110 0).toNatClampNeg = (u.1 110 0).toInt.toNat := rfl
  obtain ⟨q1, q2, q3, q4⟩ := hq
  have q5 := q1.2.2.2.2
  unfold RP at hr
  rw [e8, e9] at hr
  rw [e8] at q3
  rw [e8, e9] at q5
  unfold In at hw hx
  obtain ⟨p0, p1, p2, p3, p4⟩ := hr
  have H : (∀ i, 32 ≤ i → v.1 111 i = u.1 111 i) ∧ (∀ i, 160 ≤ i → v.1 115 i = u.1 115 i) ∧ (∀ i, 160 ≤ i → v.1 116 i = u.1 116 i) ∧ (∀ i, 160 ≤ i → v.1 117 i = u.1 117 i) := by
    have c : w.toInt = 0 ∨ w.toInt = 1 ∨ w.toInt = 2 ∨ w.toInt = 3 ∨ w.toInt = 4 := by clear p0 p1 p2 p3 p4 q3 q5; omega
    rcases c with c | c | c | c | c
    · obtain ⟨a1, a2, a3, a4, a5, a6, a7⟩ := p0 c
      clear p0 p1 p2 p3 p4
      have b := q3 c
      rw [a1, a5, a6, a7]
      exact ⟨fun i hi => ug_ne (by omega), fun _ _ => rfl, fun _ _ => rfl, fun _ _ => rfl⟩
    · obtain ⟨a1, ⟨x, -, a2⟩, a3, a4, a5, a6, a7⟩ := p1 c
      clear p0 p1 p2 p3 p4
      rw [a1, a5, a6, a7]
      exact ⟨fun _ _ => rfl, fun i hi => ug_ne (by omega), fun i hi => ug_ne (by omega), fun i hi => ug_ne (by omega)⟩
    · obtain ⟨a1, a2, a3, a4, a5, a6, a7⟩ := p2 c
      clear p0 p1 p2 p3 p4
      rw [a1, a5, a6, a7]
      exact ⟨fun _ _ => rfl, fun _ _ => rfl, fun _ _ => rfl, fun _ _ => rfl⟩
    · obtain ⟨a1, a2, a3, a4, a5, a6, a7⟩ := p3 c
      clear p0 p1 p2 p3 p4
      rw [a1, a5, a6, a7]
      refine ⟨fun _ _ => rfl, fun i hi => ?_, fun i hi => ?_, fun i hi => ?_⟩
      · split
        · exact ug_ne (by omega)
        · rfl
      · split
        · exact ug_ne (by omega)
        · rfl
      · split
        · exact ug_ne (by omega)
        · rfl
    · obtain ⟨a1, a2, a3, a4, a5, a6, a7⟩ := p4 c
      clear p0 p1 p2 p3 p4
      have b := (q5 c).1
      rw [a1, a5, a6, a7]
      exact ⟨fun i hi => ug_ne (by omega), fun _ _ => rfl, fun _ _ => rfl, fun _ _ => rfl⟩
  refine ⟨?_, fun i hi => ?_, fun i h1 h2 => ?_⟩
  · rw [ht, ha.2.1 1 (by decide), r0]
  · rw [ht, H.1 i hi, r1]
  · obtain ⟨b2, b3, b4⟩ := ha.2.2.2 i (Or.inr (by omega))
    rw [ht, b2, b3, b4, H.2.1 i h1, H.2.2.1 i h1, H.2.2.2 i h1, r2, r3, r4, r5, r6, r7]
    exact ⟨rfl, rfl, rfl, rfl, rfl, rfl⟩
/-- so what is shown stays -/
theorem g1_v {x : Int} (h : G1S s t) (hn : In (s.1 110 1) 0 32) : GEV (gv1 t x) (gv1 s x) := by
  obtain ⟨h0, h1, h2⟩ := h
  refine ⟨fun i hi => h1 (32 + i) (by omega), fun i hi => ?_, fun i hi hx => ?_, by show (t.1 110 1).toInt = (s.1 110 1).toInt; rw [h0], rfl⟩
  · obtain ⟨a1, a2, -⟩ := h2 (160 + i) (by omega) (by omega)
    show thf (t.1 112) (t.1 113) (160 + i) = thf (s.1 112) (s.1 113) (160 + i)
    unfold thf
    rw [a1, a2]
  · obtain ⟨a1, a2, a3, a4, a5, a6⟩ := h2 (160 + i) (by omega) (by omega)
    exact ⟨a3, a4, a5, a6⟩
end G1S
/-! TOPS OF THE SHOWN GRAPH -/
def TQD (s : GS) : Prop := ∀ p : Nat, p < 160 → (s.1 34 p).toInt ≠ -1 → (p : Int) < (s.2.2.1 32 3).toInt
theorem tqd_up {s t : GS} {p : Nat} {a : Int32} (h : TQD s) (hr : t.1 34 = upd (s.1 34) p a) (h1 : (s.2.2.1 32 3).toInt ≤ (t.2.2.1 32 3).toInt) (h2 : (p : Int) < (t.2.2.1 32 3).toInt) : TQD t := by
  intro q hq hn
  by_cases c : q = p
  · rw [c]; exact h2
  · rw [hr, ug_ne c] at hn
    have := h q hq hn
    omega
theorem tqd_dn {s t : GS} {p : Nat} (h : TQD s) (hr : t.1 34 = upd (s.1 34) p (Int32.ofInt (-1))) (h1 : (t.2.2.1 32 3) = (s.2.2.1 32 3)) : TQD t := by
  intro q hq hn
  rw [h1]
  by_cases c : q = p
  · rw [c, hr, ug_at] at hn; exact absurd rfl hn
  · rw [hr, ug_ne c] at hn
    exact h q hq hn
theorem tqd_lw {s t : GS} {j : Nat} {z : Int32} (h : TQD s) (hr : t.1 34 = s.1 34) (hz : z = s.1 34 j) (hz1 : z.toInt = -1) (h1 : (t.2.2.1 32 3).toInt = (j : Int)) (h2 : (s.2.2.1 32 3).toInt = (j : Int) + 1) : TQD t := by
  intro q hq hn
  rw [hr] at hn
  have h3 := h q hq hn
  have h4 : q ≠ j := fun c => by rw [c, ← hz] at hn; exact hn hz1
  omega
theorem tqd_cg {s t : GS} (h : TQD s) (hr : t.1 34 = s.1 34) (h1 : (t.2.2.1 32 3) = (s.2.2.1 32 3)) : TQD t := by
  intro q hq hn
  rw [hr] at hn
  rw [h1]
  exact h q hq hn
theorem tqd_fr {s t : GS} {L : FM} (hT : TQD s) (h : Fr L s t) (hq : (qI L.1 34 && qF L.2.2.1 32 3) = true) : TQD t := by
  rw [Bool.and_eq_true] at hq
  exact tqd_cg hT (h.1 34 hq.1) (h.2.2.1 32 3 hq.2)
/-- alike as far as can be seen, whatever the version -/
def GEW (g h : GVW) : Prop := (∀ i : Nat, (i : Int) < g.2.2.2.2.2.2.1 → g.1 i = h.1 i) ∧ (∀ i, i < 160 → g.2.1 i = h.2.1 i) ∧ (∀ i, i < 160 → (g.2.1 i).toInt ≠ -1 → g.2.2.1 i = h.2.2.1 i ∧ g.2.2.2.1 i = h.2.2.2.1 i ∧ g.2.2.2.2.1 i = h.2.2.2.2.1 i ∧ g.2.2.2.2.2.1 i = h.2.2.2.2.2.1 i) ∧ g.2.2.2.2.2.2.1 = h.2.2.2.2.2.2.1
theorem gew_v {g h : GVW} (q : GEV g h) : GEW g h := ⟨q.1, q.2.1, q.2.2.1, q.2.2.2.1⟩
/-! WHAT IS TOLD -/
def TLV (g : GVW) (p : Nat) (w : Int) : Int := if (g.2.1 p).toInt = -1 then 9000000000000000 else if w = 0 then (g.2.1 p).toInt else if w = 1 then (g.2.2.1 p).toInt else if w = 2 then (g.2.2.2.1 p).toInt else if w = 3 then (g.2.2.2.2.1 p).toInt else (g.2.2.2.2.2.1 p).toInt
section TLV
variable {g : GVW} {p : Nat} {w : Int} {f v : Int32} {z : Int64}
end TLV
theorem tg_no {s : GS} {g p : Nat} {x : Int32} (hx : x = s.1 112 (160 * g + p)) (h0 : x.toInt = 0) : ((gvG s g).2.1 p).toInt = -1 := by
  show (thf (s.1 112) (s.1 113) (160 * g + p)).toInt = -1
  unfold thf
  rw [← hx, if_pos h0]
  rfl
theorem tg_ne {s : GS} {g p : Nat} {x : Int32} (hI : Inv s) (hx : x = s.1 112 (160 * g + p)) (h0 : x.toInt ≠ 0) (hl : 160 * g + p < 480) : ((gvG s g).2.1 p).toInt ≠ -1 := by
  show (thf (s.1 112) (s.1 113) (160 * g + p)).toInt ≠ -1
  unfold thf
  rw [← hx, if_neg h0]
  have w := hI.1.1 113 (160 * g + p) (Nat.lt_of_lt_of_le hl (Nat.le_of_ble_eq_true rfl))
  have w1 : (rI 113).1 = 0 := rfl
  unfold In at w
  rw [w1] at w
  omega
theorem tg_is {s : GS} {g p : Nat} {x f : Int32} (hx : x = s.1 112 (160 * g + p)) (h0 : x.toInt ≠ 0) (hf : f = s.1 113 (160 * g + p)) : f = (gvG s g).2.1 p := by
  show f = thf (s.1 112) (s.1 113) (160 * g + p)
  unfold thf
  rw [← hx, if_neg h0]
  exact hf
end
section
/-! THE LOOP OF COMMAND -/
theorem in_ne3 {z : Int32} {lo hi : Int} (h : In z lo hi) (hh : decide (hi < 3) = true) : z.toInt ≠ 3 := by
  have a := h.2
  have b := of_decide_eq_true hh
  omega
theorem in_at {z : Int32} {c : Int} (h : In z c c) : z.toInt = c := Int.le_antisymm h.2 h.1
theorem tkn_l1 {T : Nat → Int32} {n a p e : Nat} {k v : Int} (h : TKN T n a p e k v) (hk : k = 1) : 0 ≤ v ∧ v ≤ 25 := by
  rcases h.2 with ⟨h1, h2, h3⟩ | ⟨h1, h2, h3, h4, h5⟩ | ⟨q, h1, h2, h3⟩ | ⟨h1, h2, h3, h4, h5⟩ | ⟨h1, h2, h3, h4, h5, h6⟩
  · omega
  · unfold tkL at h2
    omega
  · rcases h3 with ⟨a1, a2, a3⟩ | ⟨a1, a2⟩
    · omega
    · omega
  · omega
  · omega
theorem sg_v {y z : Int32} {v : Int} (e : z = y - Int32.ofInt 97) (q : y.toInt = v + 97) (b : 0 ≤ v ∧ v ≤ 25) : z.toInt = v := by
  rw [t_s97 e (by omega) (by omega)]
  omega
section HQ
variable {s sc u : GS} {y2 y3 y4 z3 m2 z76 w27 val : Int32} {p ix : Nat} {k v : Int}
theorem hq5_s (hf0 : (sc.2.2.1 109 23).toInt = 0) (hm : y4.toInt ≠ 0) (h5 : HQ5 s sc (y2.toInt - 97) y3 y4 w27.toInt.toNat) (hC : C4 y2.toInt) (h4 : sc.2.2.1 109 32 = s.2.2.1 109 32) (ht : TKN (s.1 125) (s.2.2.1 109 22).toInt.toNat w27.toInt.toNat p (u.2.2.1 109 27).toInt.toNat k v) (hw : SHK (y2.toInt - 97) y3.toInt z76.toInt) (hk : k = z76.toInt) (h3 : z76.toInt ≠ 3) (h0 : 0 ≤ y3.toInt) (hz : z3.toInt = y3.toInt + 1) (hix : ix = 5 * (sc.2.2.1 109 32).toNatClampNeg + y3.toNatClampNeg) (hval : val.toInt = v) (h128 : u.1 128 = sc.1 128) : HQ5 s (sI u 128 ix val) (y2.toInt - 97) z3 m2 (u.2.2.1 109 27).toInt.toNat := by
  intro _ _
  obtain ⟨a1, a2⟩ := h5 hf0 hm
  have hc9 := c4_i hC
  have hw := hw hc9 a1
  rw [h4] at hix
  have e3 : y3.toNatClampNeg = y3.toInt.toNat := rfl
  have hle : y3.toInt + 1 ≤ (cmA (y2.toInt - 97) : Int) := by
    by_cases q : y3.toInt < (cmA (y2.toInt - 97) : Int)
    · omega
    · exfalso
      have h8 := (cmK_r (c := y2.toInt - 97) (i := y3.toInt.toNat + 1)).2.2.2 (by omega)
      omega
  refine ⟨by omega, fun a ha => ?_⟩
  have ez : z3.toInt.toNat = y3.toInt.toNat + 1 := by omega
  rw [ez]
  refine cs_more (a2 a ha) ht (by rw [hk, hw]) (fun j hj => ?_) ?_
  · show ((sI u 128 ix val).1 128 (5 * (s.2.2.1 109 32).toNatClampNeg + j)).toInt = (sc.1 128 (5 * (s.2.2.1 109 32).toNatClampNeg + j)).toInt
    rw [sI_q, ug_ne (by omega), h128]
  · show ((sI u 128 ix val).1 128 (5 * (s.2.2.1 109 32).toNatClampNeg + y3.toInt.toNat)).toInt = v
    rw [sI_q, hix, e3, ug_at]
    exact hval
theorem hq6_e (hf0 : (sc.2.2.1 109 23).toInt = 0) (hm : y4.toInt ≠ 0) (h5 : HQ5 s sc (y2.toInt - 97) y3 y4 w27.toInt.toNat) (hC : C4 y2.toInt) (ht : TKN (s.1 125) (s.2.2.1 109 22).toInt.toNat w27.toInt.toNat p (u.2.2.1 109 27).toInt.toNat k v) (hw : SHK (y2.toInt - 97) y3.toInt z76.toInt) (hk : k = z76.toInt) (h3 : z76.toInt = 3) (h0 : 0 ≤ y3.toInt) (h128 : u.1 128 = sc.1 128) : HQ6 s u (y2.toInt - 97) m2 (u.2.2.1 109 27).toInt.toNat := by
  intro _ _ a ha
  obtain ⟨a1, a2⟩ := h5 hf0 hm
  have hw := hw (c4_i hC) a1
  have hi : y3.toInt.toNat = cmA (y2.toInt - 97) := by
    by_cases q : y3.toInt.toNat + 1 ≤ cmA (y2.toInt - 97)
    · exfalso
      have h8 := (cmK_r (c := y2.toInt - 97) (i := y3.toInt.toNat + 1)).2.2.1 q
      omega
    · omega
  exact cse_cg (cs_end hi (a2 a ha) ht (by omega)) (fun j hj => by
    show (u.1 128 (5 * (s.2.2.1 109 32).toNatClampNeg + j)).toInt = (sc.1 128 (5 * (s.2.2.1 109 32).toNatClampNeg + j)).toInt
    rw [h128])
theorem hq7_t (hI : Inv u) (hf0 : (sc.2.2.1 109 23).toInt = 0) (hm : y4.toInt ≠ 0) (h5 : HQ5 s sc (y2.toInt - 97) y3 y4 w27.toInt.toNat) (hC : C4 y2.toInt) (h0 : 0 ≤ y3.toInt) (ht : TKN (s.1 125) (s.2.2.1 109 22).toInt.toNat w27.toInt.toNat (u.2.2.1 109 29).toInt.toNat (u.2.2.1 109 27).toInt.toNat k v) (hn : NTK sc u k v) : HQ7 s u (y2.toInt - 97) := by
  intro hf
  obtain ⟨a1, a2⟩ := h5 hf0 hm
  obtain ⟨b1, b2, b3⟩ := (ntk_f hn hf0).1 hf
  have h9 := inv_F hI (z := u.2.2.1 109 29) 0 1000 rfl rfl
  unfold In at h9
  refine ⟨by rw [b2]; omega, fun a ha => ?_⟩
  rw [b1, b2]
  refine cs_bad (c4_i hC) ha (by omega) (a2 a ha) ht ?_
  have h8 := (cmK_r (c := y2.toInt - 97) (i := y3.toInt.toNat + 1)).2.1
  omega
end HQ
end
section
/-! THE K-TH ARC OF A NODE -/
def ARE (g : GVW) (w : Int) (p : Nat) : Int := if w = 0 then gF g.2.1 p else gG g.2.1 g.2.2.1 p
theorem are_no {g : GVW} {w : Int} {p : Nat} (h : (g.2.1 p).toInt = -1) : ARE g w p = -1 := by
  unfold ARE gF gG
  split
  · split
    · exact h
    · rfl
  · rw [if_neg (fun z => z.2 h)]
theorem are_f {g : GVW} {w : Int} {p : Nat} (hp : p < 160) (hw : w = 0) : ARE g w p = (g.2.1 p).toInt := by
  unfold ARE gF
  rw [if_pos hw, if_pos hp]
theorem are_t {g : GVW} {w : Int} {p : Nat} (hp : p < 160) (h : (g.2.1 p).toInt ≠ -1) (hw : w ≠ 0) : ARE g w p = (g.2.2.1 p).toInt := by
  unfold ARE gG
  rw [if_neg hw, if_pos ⟨hp, h⟩]
theorem are_e {g h : GVW} (q : GEW g h) {w : Int} {j : Nat} (hj : j < 160) : ARE g w j = ARE h w j := by
  have e := q.2.1 j hj
  by_cases c : (g.2.1 j).toInt = -1
  · rw [are_no c, are_no (by rw [← e]; exact c)]
  · by_cases z : w = 0
    · rw [are_f hj z, are_f hj z, e]
    · rw [are_t hj c z, are_t hj (by rw [← e]; exact c) z, (q.2.2.1 j hj c).1]
theorem gf_top {fr : Nat → Int32} {T : Nat} (hq : ∀ p, p < 160 → (fr p).toInt ≠ -1 → (p : Int) < (T : Int)) : ∀ p, T ≤ p → p < 160 → gF fr p = -1 := by
  intro p h1 h2
  unfold gF
  rw [if_pos h2]
  exact Classical.byContradiction fun hn => by have := hq p h2 hn; omega
/-- the rows of the graph in cell 2, when it is tied -/
theorem tg_2 {t : GS} (hI : Inv t) (hv : (t.2.2.1 2 4).toInt = (t.2.2.1 2 0).toInt) : TG (t.1 4) (t.1 5) (t.1 9) (t.1 10) (t.1 11) (t.1 12) (t.1 13) (t.1 14) (t.1 15) (t.2.2.1 2 3).toInt.toNat := by
  have h := hI.2.1
  unfold KG at h
  rw [mI_at rfl, mI_at rfl, mI_at rfl, mI_at rfl, mI_at rfl, mI_at rfl, mI_at rfl, mI_at rfl, mI_at rfl, mF_at rfl, mF_at rfl, mF_at rfl] at h
  exact h.2 hv
/-- the rows of the graph in cell 32, when it is tied -/
theorem tg_32 {t : GS} (hI : Inv t) (hv : (t.2.2.1 32 4).toInt = (t.2.2.1 32 0).toInt) : TG (t.1 34) (t.1 35) (t.1 39) (t.1 40) (t.1 41) (t.1 42) (t.1 43) (t.1 44) (t.1 45) (t.2.2.1 32 3).toInt.toNat := by
  have h := hI.2.2.1
  unfold KG at h
  rw [mI_at rfl, mI_at rfl, mI_at rfl, mI_at rfl, mI_at rfl, mI_at rfl, mI_at rfl, mI_at rfl, mI_at rfl, mF_at rfl, mF_at rfl, mF_at rfl] at h
  exact h.2 hv
end
section
/-! WHICH NODE REACHES WHICH -/
theorem low_min {x : Int32} {k j : Nat} (h : lowB x k) (hk : k < 32) (hj : bt x j = true) : k ≤ j := by
  refine Classical.byContradiction fun c => ?_
  have e : (x &&& -x).toBitVec.getLsbD k = (Int32.ofBitVec (BitVec.twoPow 32 k)).toBitVec.getLsbD k := by
    unfold lowB at h
    rw [h]
  rw [show (x &&& -x).toBitVec = x.toBitVec &&& -x.toBitVec from rfl, show (Int32.ofBitVec (BitVec.twoPow 32 k)).toBitVec = BitVec.twoPow 32 k from rfl, BitVec.getLsbD_and, BitVec.getLsbD_neg, BitVec.getLsbD_twoPow] at e
  have hex : ∃ i, i < k ∧ x.toBitVec.getLsbD i = true := ⟨j, by omega, hj⟩
  cases hx : x.toBitVec.getLsbD k <;> simp [hx, hex, hk] at e
theorem cbf_or {f g h : Nat → Bool} : ∀ n, (∀ k, k < n → h k = (f k || g k)) → (∀ k, k < n → f k = true → g k = false) → cbf h n = cbf f n + cbf g n
  | 0, _, _ => rfl
  | n + 1, h1, h2 => by
    have i := cbf_or n (fun k hk => h1 k (by omega)) (fun k hk => h2 k (by omega))
    show cbf h n + (h n).toNat = cbf f n + (f n).toNat + (cbf g n + (g n).toNat)
    have a := h1 n (by omega)
    have b := h2 n (by omega)
    rw [i, a]
    cases ef : f n
    · show _ + (g n).toNat = _ + 0 + _
      omega
    · rw [b ef]
      show _ + 1 = _ + 1 + (_ + 0)
      omega
theorem cb_or {x y z : Int32} (e : z = x ||| y) (h : ∀ k, bt x k = true → bt y k = false) : cb z = cb x + cb y := cbf_or 32 (fun k _ => bt_or e) (fun k _ => h k)
theorem cb_pos {x : Int32} {k : Nat} (h : bt x k = true) : 1 ≤ cb x := by
  have q := cbf_clr (f := bt x) (g := fun j => bt x j && !(decide (j = k))) (u := k) h (by show (bt x k && !(decide (k = k))) = false; simp) (n := 32) (bt_lt h) (fun j _ hne => by show (bt x j && !(decide (j = k))) = _; simp [hne])
  unfold cb
  omega
def FEQ (r : Nat → Int32) (al : Int32) (u w : Nat) : Prop := u < 32 ∧ bt (r u) w = true ∧ bt al w = true
/-- what is reached from the seed -/
def FLD (r : Nat → Int32) (seed al z : Int32) : Prop := ∀ w : Nat, bt z w = true ↔ ∃ x : Nat, bt seed x = true ∧ wlq (FEQ r al) x w
def FLI (r : Nat → Int32) (seed al seen todo : Int32) (i : Int) : Prop := (∀ w : Nat, bt seen w = true → ∃ x : Nat, bt seed x = true ∧ wlq (FEQ r al) x w) ∧ (∀ w : Nat, bt seed w = true → bt seen w = true) ∧ (∀ w : Nat, bt todo w = true → bt seen w = true) ∧ (∀ u w : Nat, bt seen u = true → bt todo u = false → FEQ r al u w → bt seen w = true) ∧ (cb seen : Int) = i + (cb todo : Int)
theorem fli_0 {r : Nat → Int32} {seed al : Int32} {i : Int} (hi : i = 0) : FLI r seed al seed seed i := ⟨fun w h => ⟨w, h, wl_0⟩, fun _ h => h, fun _ h => h, fun u w h1 h2 _ => (by rw [h1] at h2; cases h2), by rw [hi]; omega⟩
theorem fli_s {r : Nat → Int32} {seed al seen todo k z26 z28 z31 z32 z40 z41 z48 z54 : Int32} {i j : Int} (h : FLI r seed al seen todo i) (ik : In k 0 31) (hb : bt todo k.toNatClampNeg = true) (hl : lowB todo k.toNatClampNeg) (e26 : z26 = r k.toNatClampNeg) (e28 : z28 = z26 &&& al) (e31 : z31 = seen ^^^ Int32.ofInt (-1)) (e32 : z32 = z28 &&& z31) (e40 : z40 = todo - Int32.ofInt 1) (e41 : z41 = todo &&& z40) (e48 : z48 = z41 ||| z32) (e54 : z54 = seen ||| z32) (hj : j = i + 1) : FLI r seed al z54 z48 j := by
  obtain ⟨h1, h2, h3, h4, h5⟩ := h
  have k31 : k.toNatClampNeg < 32 := by
    show k.toInt.toNat < 32
    have := ik.2
    omega
  have c41 : ∀ j, bt z41 j = (bt todo j && !(decide (j = k.toNatClampNeg))) := fun j => lowB_clr hl e40 e41
  have a32 : ∀ w, bt z32 w = true → bt seen w = false := fun w q => bt_andn e31 e32 q
  have f32 : ∀ w, bt z32 w = true → FEQ r al k.toNatClampNeg w := fun w q => by
    have q1 := bt_and1 e32 q
    have q2 := bt_and1 e28 q1
    rw [e26] at q2
    exact ⟨k31, q2, bt_and2 e28 q1⟩
  have s54 : ∀ w, bt z54 w = true → bt seen w = true ∨ bt z32 w = true := fun w q => by
    rw [bt_or e54] at q
    exact (Bool.or_eq_true _ _).mp q
  refine ⟨fun w q => ?_, fun w q => bt_orl e54 (h2 w q), fun w q => ?_, fun u w q1 q2 q3 => ?_, ?_⟩
  · rcases s54 w q with q | q
    · exact h1 w q
    · obtain ⟨x, hx, hw⟩ := h1 _ (h3 _ hb)
      exact ⟨x, hx, wl_tr hw (wl_1 (f32 w q))⟩
  · rw [bt_or e48] at q
    rcases (Bool.or_eq_true _ _).mp q with q | q
    · rw [c41 w] at q
      exact bt_orl e54 (h3 w ((Bool.and_eq_true _ _).mp q).1)
    · exact bt_orr e54 q
  · rw [bt_or e48] at q2
    obtain ⟨q4, q5⟩ := (Bool.or_eq_false_iff).mp q2
    have q6 : bt seen u = true := by
      rcases s54 u q1 with q | q
      · exact q
      · rw [q5] at q; cases q
    by_cases c : bt todo u = true
    · have eu : u = k.toNatClampNeg := by
        refine Classical.byContradiction fun hne => ?_
        rw [c41 u, c] at q4
        simp [hne] at q4
      rw [eu] at q3
      cases hs : bt seen w with
      | true => exact bt_orl e54 hs
      | false =>
        refine bt_orr e54 ?_
        have hw : w < 32 := bt_lt q3.2.1
        rw [bt_and e32, bt_and e28, e26, q3.2.1, q3.2.2, bt_not e31 hw, hs]
        rfl
    · have c2 : bt todo u = false := by
        cases e : bt todo u with
        | true => exact absurd e c
        | false => rfl
      exact bt_orl e54 (h4 u w q6 c2 q3)
  · have n1 := cb_or e54 (fun w q => by
      cases e : bt z32 w with
      | true => rw [a32 w e] at q; cases q
      | false => rfl)
    have n2 := cb_or e48 (fun w q => by
      cases e : bt z32 w with
      | true =>
        rw [c41 w] at q
        have q7 := h3 w ((Bool.and_eq_true _ _).mp q).1
        rw [a32 w e] at q7; cases q7
      | false => rfl)
    have n3 : cb z41 + 1 = cb todo := cbf_clr hb (by rw [c41]; simp) k31 (fun j _ hne => by rw [c41]; simp [hne])
    omega
theorem fli_e {r : Nat → Int32} {seed al seen todo : Int32} {i : Int} (h : FLI r seed al seen todo i) (ht : todo.toInt = 0 ∨ 32 ≤ i) : FLD r seed al seen := by
  obtain ⟨h1, h2, h3, h4, h5⟩ := h
  have c32 := cb_le seen
  have tz : ∀ u, bt todo u = false := fun u => by
    cases e : bt todo u with
    | false => rfl
    | true =>
      exfalso
      have p := cb_pos e
      rcases ht with q | q
      · exact bt_nz e q
      · omega
  have go : ∀ (j x w : Nat), bt seen x = true → wkq (FEQ r al) j x w → bt seen w = true := by
    intro j
    induction j with
    | zero => intro x w hx hw; rw [← (show x = w from hw)]; exact hx
    | succ j ih =>
      intro x w hx hw
      obtain ⟨y, hy, hw⟩ := hw
      exact ih y w (h4 x y hx (tz x) hy) hw
  intro w
  refine ⟨h1 w, fun ⟨x, hx, j, hj⟩ => go j x w (h2 x hx) hj⟩
/-! arcs as they are seen -/
def AJG (g : GVW) (u w : Nat) : Prop := ∃ p : Nat, p < 160 ∧ ARE g 0 p = (u : Int) ∧ ARE g 1 p = (w : Int)
def PE (g : GVW) (w : Int) (a b : Nat) : Prop := AJG g a b ∨ (w ≠ 0 ∧ AJG g b a)
theorem ajg_e {g h : GVW} (q : GEW g h) : AJG g = AJG h := by
  funext u w
  refine propext ⟨fun ⟨p, a, b, c⟩ => ⟨p, a, by rw [← are_e q a]; exact b, by rw [← are_e q a]; exact c⟩, fun ⟨p, a, b, c⟩ => ⟨p, a, by rw [are_e q a]; exact b, by rw [are_e q a]; exact c⟩⟩
theorem fe_all {fr tt ne ou nn : Nat → Int32} {T : Nat} {g : GVW} (hM : MSK fr tt ne ou nn T) (hT : T ≤ 160) (hg0 : ∀ p, ARE g 0 p = gF fr p) (hg1 : ∀ p, ARE g 1 p = gG fr tt p) (hq : ∀ p, T ≤ p → p < 160 → gF fr p = -1) (hr : ∀ p, p < 160 → (fr p).toInt ≤ 31 ∧ (tt p).toInt ≤ 31) : (∀ u w, FEQ ou (Int32.ofInt (-1)) u w ↔ AJG g u w) ∧ (∀ u w, FEQ nn (Int32.ofInt (-1)) u w ↔ AJG g w u) ∧ ∀ u w, FEQ ne (Int32.ofInt (-1)) u w ↔ (u ≠ w ∧ PE g 1 u w) := by
  have aj : ∀ u w, AJ fr tt T u w ↔ AJG g u w := fun u w => by
    constructor
    · rintro ⟨p, a, b, c⟩
      exact ⟨p, by omega, by rw [hg0]; exact b, by rw [hg1]; exact c⟩
    · rintro ⟨p, a, b, c⟩
      rw [hg0] at b
      rw [hg1] at c
      refine ⟨p, Classical.byContradiction fun z => ?_, b, c⟩
      have := hq p (by omega) a
      omega
  have lt : ∀ u w, AJG g u w → u < 32 ∧ w < 32 := fun u w => by
    rintro ⟨p, a, b, c⟩
    rw [hg0] at b
    rw [hg1] at c
    obtain ⟨r1, r2⟩ := hr p a
    unfold gF at b
    rw [if_pos a] at b
    unfold gG at c
    split at c
    · omega
    · omega
  refine ⟨fun u w => ⟨fun h => ?_, fun h => ?_⟩, fun u w => ⟨fun h => ?_, fun h => ?_⟩, fun u w => ⟨fun h => ?_, fun h => ?_⟩⟩
  · exact (aj u w).mp ((hM u w h.1 (bt_lt h.2.1)).1.mp h.2.1)
  · obtain ⟨a, b⟩ := lt u w h
    exact ⟨a, (hM u w a b).1.mpr ((aj u w).mpr h), bt_m1 b⟩
  · exact (aj w u).mp ((hM w u (bt_lt h.2.1) h.1).2.1.mp h.2.1)
  · obtain ⟨a, b⟩ := lt w u h
    exact ⟨b, (hM w u a b).2.1.mpr ((aj w u).mpr h), bt_m1 a⟩
  · obtain ⟨a, b⟩ := (hM u w h.1 (bt_lt h.2.1)).2.2.mp h.2.1
    exact ⟨a, b.elim (fun q => Or.inl ((aj u w).mp q)) (fun q => Or.inr ⟨by decide, (aj w u).mp q⟩)⟩
  · have ab : u < 32 ∧ w < 32 := by
      rcases h.2 with q | q
      · exact lt u w q
      · exact ⟨(lt w u q.2).2, (lt w u q.2).1⟩
    refine ⟨ab.1, (hM u w ab.1 ab.2).2.2.mpr ⟨h.1, ?_⟩, bt_m1 ab.2⟩
    exact h.2.elim (fun q => Or.inl ((aj u w).mpr q)) (fun q => Or.inr ((aj w u).mpr q.2))
/-! parts -/
theorem fe_2 {s t : GS} {L : FM} (hI : Inv t) (hF : Fr L s t) (q4 : qI L.1 4 = true) (q5 : qI L.1 5 = true) (q3 : qF L.2.2.1 2 3 = true) (hv : (t.2.2.1 2 4).toInt = (t.2.2.1 2 0).toInt) (hq : TQ s) : (∀ u w, FEQ (t.1 10) (Int32.ofInt (-1)) u w ↔ AJG (gvC s) u w) ∧ (∀ u w, FEQ (t.1 11) (Int32.ofInt (-1)) u w ↔ AJG (gvC s) w u) ∧ ∀ u w, FEQ (t.1 9) (Int32.ofInt (-1)) u w ↔ (u ≠ w ∧ PE (gvC s) 1 u w) := by
  have h := (tg_2 hI hv).2.2.2
  rw [hF.1 4 q4, hF.1 5 q5, hF.2.2.1 2 3 q3] at h
  have i3 : In (s.2.2.1 2 3) 0 160 := by rw [← hF.2.2.1 2 3 q3]; exact inv_F hI 0 160 rfl rfl
  have i30 := i3.1
  have i31 := i3.2
  refine fe_all h (by omega) (fun p => if_pos rfl) (fun p => if_neg (by decide)) (gf_top (fun p hp hn => by have := hq p hp hn; omega)) (fun p hp => ?_)
  have a := hI.1.1 4 p (Nat.lt_of_lt_of_le hp (Nat.le_of_ble_eq_true rfl))
  have c := hI.1.1 5 p (Nat.lt_of_lt_of_le hp (Nat.le_of_ble_eq_true rfl))
  rw [hF.1 4 q4] at a
  rw [hF.1 5 q5] at c
  exact ⟨a.2, c.2⟩
theorem fe_32 {s t : GS} {L : FM} (hI : Inv t) (hF : Fr L s t) (q4 : qI L.1 34 = true) (q5 : qI L.1 35 = true) (q3 : qF L.2.2.1 32 3 = true) (hv : (t.2.2.1 32 4).toInt = (t.2.2.1 32 0).toInt) (hq : TQD s) : (∀ u w, FEQ (t.1 40) (Int32.ofInt (-1)) u w ↔ AJG (gvD s) u w) ∧ (∀ u w, FEQ (t.1 41) (Int32.ofInt (-1)) u w ↔ AJG (gvD s) w u) ∧ ∀ u w, FEQ (t.1 39) (Int32.ofInt (-1)) u w ↔ (u ≠ w ∧ PE (gvD s) 1 u w) := by
  have h := (tg_32 hI hv).2.2.2
  rw [hF.1 34 q4, hF.1 35 q5, hF.2.2.1 32 3 q3] at h
  have i3 : In (s.2.2.1 32 3) 0 160 := by rw [← hF.2.2.1 32 3 q3]; exact inv_F hI 0 160 rfl rfl
  have i30 := i3.1
  have i31 := i3.2
  refine fe_all h (by omega) (fun p => if_pos rfl) (fun p => if_neg (by decide)) (gf_top (fun p hp hn => by have := hq p hp hn; omega)) (fun p hp => ?_)
  have a := hI.1.1 34 p (Nat.lt_of_lt_of_le hp (Nat.le_of_ble_eq_true rfl))
  have c := hI.1.1 35 p (Nat.lt_of_lt_of_le hp (Nat.le_of_ble_eq_true rfl))
  rw [hF.1 34 q4] at a
  rw [hF.1 35 q5] at c
  exact ⟨a.2, c.2⟩
/-! close (reference) -/
def CLA (s : GS) (x n : Int) (a : Nat) : Prop := (s.1 112 (bs s + a)).toInt ≠ 0 ∧ (a : Int) ≠ x ∧ (s.1 113 (bs s + a)).toInt ≠ n ∧ (s.1 114 (bs s + a)).toInt ≠ n
section CLO
variable {s : GS} {w x n : Int} {f f0 : Nat → Int32} {k m : Nat}
theorem cq_row {u v : Nat} {z2 z3 : Int32} {W : Prop} (h2 : ∀ j, bt z2 j = true ↔ (bt (f u) j = true ∨ j = v)) (h3 : ∀ j, bt z3 j = true ↔ (bt (upd f u z2 v) j = true ∨ (W ∧ j = u))) : ∀ y j, bt (upd (upd f u z2) v z3 y) j = true ↔ (bt (f y) j = true ∨ (y = u ∧ j = v) ∨ (W ∧ y = v ∧ j = u)) := by
  intro y j
  have q : bt (upd f u z2 y) j = true ↔ (bt (f y) j = true ∨ (y = u ∧ j = v)) := by
    by_cases c : y = u
    · rw [c, up_e, h2]
      exact ⟨fun h => h.imp id (fun e => ⟨rfl, e⟩), fun h => h.imp id (fun e => e.2)⟩
    · rw [up_n c]
      exact ⟨Or.inl, fun h => h.elim id (fun e => absurd e.1 c)⟩
  by_cases c : y = v
  · rw [c] at q ⊢
    rw [up_e, h3, q]
    constructor
    · rintro ((h | h) | h)
      · exact Or.inl h
      · exact Or.inr (Or.inl h)
      · exact Or.inr (Or.inr ⟨h.1, rfl, h.2⟩)
    · rintro (h | h | h)
      · exact Or.inl (Or.inl h)
      · exact Or.inl (Or.inr h)
      · exact Or.inr ⟨h.1, h.2.2⟩
  · rw [up_n c, q]
    constructor
    · rintro (h | h)
      · exact Or.inl h
      · exact Or.inr (Or.inl h)
    · rintro (h | h | h)
      · exact Or.inl h
      · exact Or.inr h
      · exact absurd h.2.1 c
end CLO
abbrev gvZ (s : GS) : GVW := gvG s (s.2.2.1 109 18).toNatClampNeg
end
section
/-! HOW MANY PARTS -/
section CNP
variable {P Q : Nat → Prop}
end CNP
/-- the least of its part -/
def LST (E : Nat → Nat → Prop) (u : Nat) : Prop := ∀ j, j < u → ¬ wlq E u j
section LST
variable {E F : Nat → Nat → Prop}
end LST
section K327
variable {Z : AmZ} {d : Nat} {ws : va_W} {X : AmX}
theorem k_327m {x0 : Int32} (hd : 2 ≤ d) (hx : x0.toInt ≠ 0) : GC Z d 327 [.int x0] ws 0 0 (fun v u => ∃ z : Int32, v = some (.int z) ∧ u = ws ∧ In z 0 31 ∧ bt x0 z.toNatClampNeg = true ∧ ∀ j : Nat, bt x0 j = true → z.toNatClampNeg ≤ j) X := by
  intro post xp hP hX
  obtain ⟨w, hw, hb, -⟩ := low32 hx
  have ct : ∀ (k : Nat) (y : Int32), 0 ≤ y.toInt → y.toInt ≤ (w : Int) → (∀ j : Nat, (j : Int) < y.toInt → bt x0 j = false) → (w : Int) - y.toInt < (k : Int) → GG Z (d - 1) 327 post (gx xp) (10 + k * 20) 2 (fun j => xlook j [(0, .int x0), (1, .int y)]) [] ws 0 0 := by
    intro k
    induction k with
    | zero => intro y h0 h1 hn hm; omega
    | succ k ih =>
      intro y h0 h1 hn hm
      refine gg_w (M := 10 + k * 20 + 20) (by omega) ?_
      refine g_iload_n 3 (gd rfl) rfl rfl ?_
      refine g_iload_n 4 (gd rfl) rfl rfl ?_
      refine g_calls (As := [.int x0, .int y]) (r := []) 7 (gd rfl) rfl rfl rfl rfl rfl (Nat.le_of_ble_eq_true rfl) (Nat.zero_le _) (Nat.zero_le _) (x_311 (by omega)) (fun v u h => ?_)
      obtain ⟨rfl, h⟩ := h
      have hk : y.toInt = (y.toNatClampNeg : Int) := by
        show y.toInt = ((y.toInt.toNat : Nat) : Int)
        omega
      rcases h with ⟨hh, rfl⟩ | ⟨hh, rfl⟩
      · show GG _ _ _ _ _ _ _ _ [.int (Int32.ofInt 1)] _ _ _
        refine g_if_ne 10 16 (gd rfl) rfl rfl (fun c => ?_) (fun c => ?_)
        · refine g_iload_n 17 (gd rfl) rfl rfl ?_
          refine g_ireturn (gd rfl) rfl rfl (hP _ _ ⟨y, rfl, rfl, ⟨h0, by omega⟩, (has_bit hk (by omega)).mp hh, fun j hj => ?_⟩)
          refine Nat.le_of_not_lt fun c2 => ?_
          rw [hn j (by omega)] at hj
          cases hj
        · exact zn_eq c (in_c 1 rfl) rfl
      · show GG _ _ _ _ _ _ _ _ [.int (Int32.ofInt 0)] _ _ _
        refine g_if_ne 10 16 (gd rfl) rfl rfl (fun c => ?_) (fun c => ?_)
        · exact zn_ne c (in_c 0 rfl) rfl
        · have hne : y.toInt ≠ (w : Int) := fun e => hh ((has_bit e hw).mpr hb)
          refine g_iinc 13 (gd rfl) rfl rfl (Nat.le_of_ble_eq_true rfl) (fun z e => ?_)
          refine g_goto 2 (gd rfl) rfl ?_
          have ez := t_add (a := 0) (b := 31) e ⟨h0, by omega⟩ (in_c 1 rfl) rfl
          have h01 : (Int32.ofInt 1).toInt = 1 := rfl
          refine gg_w (by omega) (gg_f (gf_cons rfl (gf_cons rfl gf_nil)) (ih z (by omega) (by omega) (fun j hj => ?_) (by omega)))
          by_cases c3 : (j : Int) < y.toInt
          · exact hn j c3
          · cases e3 : bt x0 j with
            | false => rfl
            | true => exact absurd ((has_bit (x := x0) (y := y) (k := j) (by omega) (by omega)).mpr e3) hh
  refine g_enter2 (k := 327) (N := 1000) (by omega) rfl (Nat.le_of_ble_eq_true rfl) ?_
  refine g_iconst 0 1 (gd rfl) rfl rfl ?_
  refine g_istore_n 2 (gd rfl) rfl (Nat.le_of_ble_eq_true rfl) ?_
  have h00 : (Int32.ofInt 0).toInt = 0 := rfl
  exact gg_w (by omega) (gg_f (gf_cons rfl (gf_cons rfl gf_nil)) (ct 33 (Int32.ofInt 0) (by omega) (by omega) (fun j hj => absurd hj (by omega)) (by omega)))
end K327
/-! weakParts of the reference -/
/-! cuts -/
theorem pe_s {g : GVW} : ∀ a b, PE g 1 a b → PE g 1 b a := fun a b h => h.elim (fun q => Or.inr ⟨by decide, q⟩) (fun q => Or.inl q.2)
/-! bridges -/
end
section
/-! BRIDGES -/
theorem clx {x : Int32} (h : 0 ≤ x.toInt) : ((x.toNatClampNeg : Nat) : Int) = x.toInt := by
  show ((x.toInt.toNat : Nat) : Int) = _
  omega
/-- no arc below k beside p that joins a and b -/
def BRN (g : GVW) (p : Nat) (a b : Int) (k : Nat) : Prop := ∀ q : Nat, q < k → q < 160 → q ≠ p → ¬ ((ARE g 0 q = a ∧ ARE g 1 q = b) ∨ (ARE g 0 q = b ∧ ARE g 1 q = a))
section BRN
variable {g : GVW} {p k : Nat} {a b : Int}
end BRN
theorem bt_f0 {z : Int32} {b : Bool} (h : z.toInt = if b then 1 else 0) (c : z.toInt = 0) : b = false := by
  cases b
  · rfl
  · rw [c] at h
    exact absurd h (by decide)
theorem bt_t1 {z : Int32} {b : Bool} (h : z.toInt = if b then 1 else 0) (c : z.toInt ≠ 0) : b = true := by
  cases b
  · exact absurd h c
  · rfl
/-! the reference -/
theorem cla_m {s : GS} (hI : Inv s) : ∀ a, a < 160 → ∀ u v : Nat, (ARE (gvZ s) 0 a = (u : Int) ∧ ARE (gvZ s) 1 a = (v : Int)) ↔ (CLA s (-1) (-1) a ∧ (s.1 113 (bs s + a)).toNatClampNeg = u ∧ (s.1 114 (bs s + a)).toNatClampNeg = v) := by
  have k2 : (s.2.2.1 109 19).toInt = 160 * (s.2.2.1 109 18).toInt := hI.2.2.2.2.2.2.2.2.2.1
  have i18 := inv_F hI (z := s.2.2.1 109 18) 0 1 rfl rfl
  have eb : bs s = 160 * (s.2.2.1 109 18).toNatClampNeg := by
    show (s.2.2.1 109 19).toInt.toNat = 160 * (s.2.2.1 109 18).toInt.toNat
    have := i18.1
    omega
  have l18 : (s.2.2.1 109 18).toNatClampNeg ≤ 1 := by
    show (s.2.2.1 109 18).toInt.toNat ≤ 1
    have := i18.2
    omega
  have rg : ∀ a, a < 160 → In (s.1 113 (bs s + a)) 0 31 ∧ In (s.1 114 (bs s + a)) 0 31 := fun a ha => by
    have hl : bs s + a < 480 := by rw [eb]; omega
    exact ⟨hI.1.1 113 _ (Nat.lt_of_lt_of_le hl (Nat.le_of_ble_eq_true rfl)), hI.1.1 114 _ (Nat.lt_of_lt_of_le hl (Nat.le_of_ble_eq_true rfl))⟩
  intro a ha u v
  obtain ⟨⟨r1, r2⟩, r3, r4⟩ := rg a ha
  have c1 : (s.1 113 (bs s + a)).toNatClampNeg = (s.1 113 (bs s + a)).toInt.toNat := rfl
  have c2 : (s.1 114 (bs s + a)).toNatClampNeg = (s.1 114 (bs s + a)).toInt.toNat := rfl
  by_cases c : (s.1 112 (bs s + a)).toInt = 0
  · rw [are_no (tg_no (g := (s.2.2.1 109 18).toNatClampNeg) (x := s.1 112 (bs s + a)) (by rw [eb]) c)]
    constructor
    · intro q
      have := q.1
      omega
    · intro q
      exact absurd c q.1.1
  · have hl : 160 * (s.2.2.1 109 18).toNatClampNeg + a < 480 := by omega
    have ne := tg_ne hI (x := s.1 112 (bs s + a)) (by rw [eb]) c hl
    have f0 : ARE (gvZ s) 0 a = (s.1 113 (bs s + a)).toInt := by
      rw [are_f ha rfl, ← tg_is (x := s.1 112 (bs s + a)) (f := s.1 113 (bs s + a)) (by rw [eb]) c (by rw [eb])]
    have f1 : ARE (gvZ s) 1 a = (s.1 114 (bs s + a)).toInt := by
      rw [are_t ha ne (by decide), eb]
      rfl
    rw [f0, f1]
    constructor
    · rintro ⟨q1, q2⟩
      exact ⟨⟨c, by omega, by omega, by omega⟩, by omega, by omega⟩
    · rintro ⟨-, q1, q2⟩
      exact ⟨by omega, by omega⟩
theorem arz_n {s : GS} (hI : Inv s) {p : Nat} {x : Int32} (e : x = s.1 112 (bs s + p)) (h : x.toInt = 0) : ARE (gvZ s) 0 p = -1 := by
  have k2 : (s.2.2.1 109 19).toInt = 160 * (s.2.2.1 109 18).toInt := hI.2.2.2.2.2.2.2.2.2.1
  have i18 := inv_F hI (z := s.2.2.1 109 18) 0 1 rfl rfl
  have eb : bs s = 160 * (s.2.2.1 109 18).toNatClampNeg := by
    show (s.2.2.1 109 19).toInt.toNat = 160 * (s.2.2.1 109 18).toInt.toNat
    have := i18.1
    omega
  exact are_no (tg_no (g := (s.2.2.1 109 18).toNatClampNeg) (x := x) (by rw [e, eb]) h)
theorem arz_y {s : GS} (hI : Inv s) {p : Nat} (hp : p < 160) {x : Int32} (e : x = s.1 112 (bs s + p)) (h : x.toInt ≠ 0) : ARE (gvZ s) 0 p = ((s.1 113 (bs s + p)).toNatClampNeg : Int) ∧ ARE (gvZ s) 1 p = ((s.1 114 (bs s + p)).toNatClampNeg : Int) := by
  rw [e] at h
  have r := arc_n hI hp h
  have r1 := r.1.1.1
  have r2 := r.2.1.1.1
  exact (cla_m hI p hp _ _).mpr ⟨⟨h, by omega, by omega, by omega⟩, rfl, rfl⟩
end
section
/-! THE ROWS OF A TIED GRAPH -/
/-- ends of arcs are nodes -/
def NDQ (g : GVW) : Prop := ∀ p : Nat, p < 160 → (g.2.1 p).toInt ≠ -1 → (0 ≤ (g.2.1 p).toInt ∧ (g.2.1 p).toInt < g.2.2.2.2.2.2.1) ∧ (0 ≤ (g.2.2.1 p).toInt ∧ (g.2.2.1 p).toInt < g.2.2.2.2.2.2.1)
theorem are_ne {g : GVW} {p : Nat} {w : Int} {u : Nat} (h : ARE g w p = (u : Int)) : (g.2.1 p).toInt ≠ -1 := fun z => by
  rw [are_no z] at h
  omega
theorem ndq_a {g : GVW} (h : NDQ g) {p u v : Nat} (hp : p < 160) (hu : ARE g 0 p = (u : Int)) (hv : ARE g 1 p = (v : Int)) : (u : Int) < g.2.2.2.2.2.2.1 ∧ (v : Int) < g.2.2.2.2.2.2.1 := by
  have ne := are_ne hu
  obtain ⟨⟨-, a⟩, -, b⟩ := h p hp ne
  rw [are_f hp rfl] at hu
  rw [are_t hp ne (by decide)] at hv
  exact ⟨by omega, by omega⟩
theorem ndq_z {s : GS} (hI : Inv s) : NDQ (gvZ s) := by
  intro p hp ne
  have th : (s.1 112 (bs s + p)).toInt ≠ 0 := fun z => ne (by
    have m := arz_n hI (p := p) rfl z
    rw [are_f hp rfl] at m
    exact m)
  have r := arc_n hI hp th
  have n1 := (nat_jn r.1.1 r.1.2).2
  have n2 := (nat_jn r.2.1.1 r.2.1.2).2
  obtain ⟨a1, a2⟩ := arz_y hI hp rfl th
  rw [are_f hp rfl] at a1
  rw [are_t hp ne (by decide)] at a2
  have en : (gvZ s).2.2.2.2.2.2.1 = (s.2.2.1 109 20).toInt := by
    have k : s.2.2.1 109 20 = s.1 110 (s.2.2.1 109 18).toNatClampNeg := hI.2.2.2.2.2.2.2.2.2.2
    rw [k]
    rfl
  rw [en]
  exact ⟨⟨by omega, by omega⟩, by omega, by omega⟩
theorem all_a {u z1 z : Int32} (e1 : z1 = Int32.ofInt 1 <<< (u &&& 31)) (e : z = z1 - Int32.ofInt 1) (hu : In u 0 31) (v : Nat) : bt z v = true ↔ (v : Int) < u.toInt := by
  have h1 := hu.2
  constructor
  · intro h
    rw [bt_all e1 e hu (bt_lt h)] at h
    exact of_decide_eq_true h
  · intro h
    rw [bt_all e1 e hu (by omega)]
    exact decide_eq_true h
theorem all_b {n : Int} (hn : n = 32) (v : Nat) : bt (Int32.ofInt (-1)) v = true ↔ (v : Int) < n := by
  rw [hn]
  exact ⟨fun h => by have := bt_lt h; omega, fun h => bt_m1 (by omega)⟩
end
section
/-! SPANS -/
def SPB (g : GVW) (q p : Nat) : Prop := (g.2.2.2.1 q).toInt < (g.2.2.2.1 p).toInt ∨ ((g.2.2.2.1 q).toInt = (g.2.2.2.1 p).toInt ∧ q < p)
/-- joints below k that come before p -/
def SPA (g : GVW) (p k u w : Nat) : Prop := k < 160 ∧ SPB g k p ∧ u ≠ w ∧ ((ARE g 0 k = (u : Int) ∧ ARE g 1 k = (w : Int)) ∨ (ARE g 0 k = (w : Int) ∧ ARE g 1 k = (u : Int)))
def SPK (g : GVW) (p k u w : Nat) : Prop := ∃ q : Nat, q < k ∧ SPA g p q u w
def SPN (g : GVW) (p : Nat) : Prop := ∃ x y : Nat, ARE g 0 p = (x : Int) ∧ ARE g 1 p = (y : Int) ∧ ¬ wlq (SPK g p 160) x y
section SPN
variable {g h : GVW} {p k : Nat}
/-! the class -/
end SPN
/-! the reference -/
section WKF
variable {E : Nat → Nat → Prop} {g : GVW} {p n k a : Nat} {f : Nat → Int32}
end WKF
/-! the reference's arcs -/
theorem n20 {s : GS} (hI : Inv s) : (((s.2.2.1 109 20).toInt.toNat : Nat) : Int) = (s.2.2.1 109 20).toInt := by
  have h := inv_F hI (z := s.2.2.1 109 20) 0 32 rfl rfl
  unfold In at h
  omega
end
section
/-! bitCount COUNTS THE BITS -/
def P8 (b : Nat) : Nat := PC 15 (PB 51 (PA 85 b))
theorem p8_c : ∀ b : Fin 256, P8 b.val = cbf (fun k => b.val.testBit k) 8 := by decide +kernel
theorem cbf_sp {f : Nat → Bool} (m : Nat) : ∀ n, cbf f (m + n) = cbf f m + cbf (fun k => f (m + k)) n
  | 0 => rfl
  | n + 1 => by
    have i := cbf_sp (f := f) m n
    show cbf f (m + n) + (f (m + n)).toNat = cbf f m + (cbf (fun k => f (m + k)) n + (f (m + n)).toNat)
    omega
theorem byt (n i k : Nat) (hk : k < 8) : ((n / 2 ^ i) % 256).testBit k = n.testBit (i + k) := by
  rw [show (256 : Nat) = 2 ^ 8 from rfl, Nat.testBit_mod_two_pow, ← Nat.shiftRight_eq_div_pow, Nat.testBit_shiftRight]
  simp [hk]
theorem p8_b (n i : Nat) : P8 ((n / 2 ^ i) % 256) = cbf (fun k => n.testBit (i + k)) 8 := by
  rw [p8_c ⟨(n / 2 ^ i) % 256, by omega⟩]
  exact cbf_out (fun k hk => byt n i k hk)
theorem cb_p8 (x : Int32) : cb x = P8 (x.toBitVec.toNat % 256) + P8 (x.toBitVec.toNat / 256 % 256) + P8 (x.toBitVec.toNat / 65536 % 256) + P8 (x.toBitVec.toNat / 16777216) := by
  have hn : x.toBitVec.toNat < 4294967296 := x.toBitVec.isLt
  generalize hx : x.toBitVec.toNat = n at *
  have e : cb x = cbf (fun k => n.testBit k) 32 := by
    unfold cb
    refine cbf_out (fun k _ => ?_)
    rw [← hx]
    exact BitVec.testBit_toNat _
  have s1 : cbf (fun k => n.testBit k) 32 = cbf (fun k => n.testBit k) 8 + cbf (fun k => n.testBit (8 + k)) 24 := cbf_sp (f := fun k => n.testBit k) 8 24
  have s2 : cbf (fun k => n.testBit (8 + k)) 24 = cbf (fun k => n.testBit (8 + k)) 8 + cbf (fun k => n.testBit (8 + (8 + k))) 16 := cbf_sp (f := fun k => n.testBit (8 + k)) 8 16
  have s3 : cbf (fun k => n.testBit (8 + (8 + k))) 16 = cbf (fun k => n.testBit (8 + (8 + k))) 8 + cbf (fun k => n.testBit (8 + (8 + (8 + k)))) 8 := cbf_sp (f := fun k => n.testBit (8 + (8 + k))) 8 8
  have b0 := p8_b n 0
  have b1 := p8_b n 8
  have b2 := p8_b n 16
  have b3 := p8_b n 24
  rw [show n / 2 ^ 0 = n by simp] at b0
  rw [show n / 2 ^ 8 = n / 256 from rfl] at b1
  rw [show n / 2 ^ 16 = n / 65536 from rfl] at b2
  rw [show n / 2 ^ 24 % 256 = n / 16777216 by rw [show n / 2 ^ 24 = n / 16777216 from rfl]; omega] at b3
  have c0 : cbf (fun k => n.testBit (0 + k)) 8 = cbf (fun k => n.testBit k) 8 := cbf_out (fun k _ => by rw [Nat.zero_add])
  have c2 : cbf (fun k => n.testBit (16 + k)) 8 = cbf (fun k => n.testBit (8 + (8 + k))) 8 := cbf_out (fun k _ => by rw [show 16 + k = 8 + (8 + k) by omega])
  have c3 : cbf (fun k => n.testBit (24 + k)) 8 = cbf (fun k => n.testBit (8 + (8 + (8 + k)))) 8 := cbf_out (fun k _ => by rw [show 24 + k = 8 + (8 + (8 + k)) by omega])
  rw [e, b0, b1, b2, b3, c0, c2, c3]
  omega
theorem pop_eq (n : Nat) (hn : n < 4294967296) : PC 252645135 (PB 858993459 (PA 1431655765 n)) = P8 (n % 256) + 256 * (P8 (n / 256 % 256) + 256 * (P8 (n / 65536 % 256) + 256 * P8 (n / 16777216))) ∧ P8 (n % 256) ≤ 8 ∧ P8 (n / 256 % 256) ≤ 8 ∧ P8 (n / 65536 % 256) ≤ 8 ∧ P8 (n / 16777216) ≤ 8 := by
  obtain ⟨b0, b1, b2, b3, h0, h1, h2, h3, g0, g1, g2, g3, hnn⟩ : ∃ b0 b1 b2 b3 : Nat, b0 < 256 ∧ b1 < 256 ∧ b2 < 256 ∧ b3 < 256 ∧ n % 256 = b0 ∧ n / 256 % 256 = b1 ∧ n / 65536 % 256 = b2 ∧ n / 16777216 = b3 ∧ n = 256 * (256 * (256 * b3 + b2) + b1) + b0 := ⟨n % 256, n / 256 % 256, n / 65536 % 256, n / 16777216, by omega, by omega, by omega, by omega, rfl, rfl, rfl, rfl, by omega⟩
  rw [g0, g1, g2, g3, hnn]
  clear hnn g0 g1 g2 g3
  have p0 : PA 85 b0 < 256 := (pb_1 ⟨b0, h0⟩).1
  have q0 : PB 51 (PA 85 b0) ≤ 68 := (pb_1 ⟨b0, h0⟩).2.1
  have r0 : PB 51 (PA 85 b0) % 16 ≤ 4 := (pb_1 ⟨b0, h0⟩).2.2.1
  have s0 : PC 15 (PB 51 (PA 85 b0)) ≤ 8 := (pb_1 ⟨b0, h0⟩).2.2.2
  have p1 : PA 85 b1 < 256 := (pb_1 ⟨b1, h1⟩).1
  have q1 : PB 51 (PA 85 b1) ≤ 68 := (pb_1 ⟨b1, h1⟩).2.1
  have r1 : PB 51 (PA 85 b1) % 16 ≤ 4 := (pb_1 ⟨b1, h1⟩).2.2.1
  have s1 : PC 15 (PB 51 (PA 85 b1)) ≤ 8 := (pb_1 ⟨b1, h1⟩).2.2.2
  have p2 : PA 85 b2 < 256 := (pb_1 ⟨b2, h2⟩).1
  have q2 : PB 51 (PA 85 b2) ≤ 68 := (pb_1 ⟨b2, h2⟩).2.1
  have r2 : PB 51 (PA 85 b2) % 16 ≤ 4 := (pb_1 ⟨b2, h2⟩).2.2.1
  have s2 : PC 15 (PB 51 (PA 85 b2)) ≤ 8 := (pb_1 ⟨b2, h2⟩).2.2.2
  have p3 : PA 85 b3 < 256 := (pb_1 ⟨b3, h3⟩).1
  have q3 : PB 51 (PA 85 b3) ≤ 68 := (pb_1 ⟨b3, h3⟩).2.1
  have r3 : PB 51 (PA 85 b3) % 16 ≤ 4 := (pb_1 ⟨b3, h3⟩).2.2.1
  have s3 : PC 15 (PB 51 (PA 85 b3)) ≤ 8 := (pb_1 ⟨b3, h3⟩).2.2.2
  have a1 : PA 1431655765 (256 * (256 * (256 * b3 + b2) + b1) + b0) = 256 * (256 * (256 * PA 85 b3 + PA 85 b2) + PA 85 b1) + PA 85 b0 := by
    rw [show (1431655765 : Nat) = 256 * 5592405 + 85 from rfl, pa_s _ _ _ h0, show (5592405 : Nat) = 256 * 21845 + 85 from rfl, pa_s _ _ _ h1, show (21845 : Nat) = 256 * 85 + 85 from rfl, pa_s _ _ _ h2]
  have a2 : PB 858993459 (256 * (256 * (256 * PA 85 b3 + PA 85 b2) + PA 85 b1) + PA 85 b0) = 256 * (256 * (256 * PB 51 (PA 85 b3) + PB 51 (PA 85 b2)) + PB 51 (PA 85 b1)) + PB 51 (PA 85 b0) := by
    rw [show (858993459 : Nat) = 256 * 3355443 + 51 from rfl, pb_s _ _ _ p0, show (3355443 : Nat) = 256 * 13107 + 51 from rfl, pb_s _ _ _ p1, show (13107 : Nat) = 256 * 51 + 51 from rfl, pb_s _ _ _ p2]
  refine ⟨?_, s0, s1, s2, s3⟩
  show _ = PC 15 (PB 51 (PA 85 b0)) + 256 * (PC 15 (PB 51 (PA 85 b1)) + 256 * (PC 15 (PB 51 (PA 85 b2)) + 256 * PC 15 (PB 51 (PA 85 b3))))
  have q1' : PB 51 (PA 85 b1) % 16 ≤ 4 := r1
  have q2' : PB 51 (PA 85 b2) % 16 ≤ 4 := r2
  have q3' : PB 51 (PA 85 b3) % 16 ≤ 4 := r3
  rw [a1, a2, show (252645135 : Nat) = 256 * 986895 + 15 from rfl, pc_s _ _ _ q0 (by omega), show (986895 : Nat) = 256 * 3855 + 15 from rfl, pc_s _ _ _ q1 (by omega), show (3855 : Nat) = 256 * 15 + 15 from rfl, pc_s _ _ _ q2 (by omega)]
  omega
theorem bc_cb (x : Int32) : (bc0 x).toInt = (cb x : Int) := by
  rw [cb_p8 x]
  have hn := x.toBitVec.isLt
  have m5 : (Int32.ofInt 1431655765).toBitVec.toNat = 1431655765 := rfl
  have m3 : (Int32.ofInt 858993459).toBitVec.toNat = 858993459 := rfl
  have mf : (Int32.ofInt 252645135).toBitVec.toNat = 252645135 := rfl
  have m6 : (Int32.ofInt 63).toBitVec.toNat = 63 := rfl
  unfold bc0
  generalize e1 : x - ((x.toUInt32 >>> ((Int32.ofInt 1).toUInt32 &&& Int32.toUInt32 31)).toInt32 &&& Int32.ofInt 1431655765) = v1
  generalize e2 : (v1 &&& Int32.ofInt 858993459) + ((v1.toUInt32 >>> ((Int32.ofInt 2).toUInt32 &&& Int32.toUInt32 31)).toInt32 &&& Int32.ofInt 858993459) = v2
  generalize e3 : (v2 + (v2.toUInt32 >>> ((Int32.ofInt 4).toUInt32 &&& Int32.toUInt32 31)).toInt32) &&& Int32.ofInt 252645135 = v3
  generalize e4 : v3 + (v3.toUInt32 >>> ((Int32.ofInt 8).toUInt32 &&& Int32.toUInt32 31)).toInt32 = v4
  generalize e5 : v4 + (v4.toUInt32 >>> ((Int32.ofInt 16).toUInt32 &&& Int32.toUInt32 31)).toInt32 = v5
  have n1 : v1.toBitVec.toNat = PA 1431655765 x.toBitVec.toNat := by
    rw [← e1, sub_n]
    · rw [and_n, (ush_n x).1, m5]; rfl
    · rw [and_n, (ush_n x).1]
      exact Nat.le_trans Nat.and_le_left (Nat.div_le_self _ _)
  have n2 : v2.toBitVec.toNat = PB 858993459 v1.toBitVec.toNat := by
    have l1 : v1.toBitVec.toNat &&& 858993459 ≤ 858993459 := Nat.and_le_right
    have l2 : (v1.toBitVec.toNat / 4) &&& 858993459 ≤ 858993459 := Nat.and_le_right
    rw [← e2, add_n]
    · rw [and_n, and_n, (ush_n v1).2.1, m3]; rfl
    · rw [and_n, and_n, (ush_n v1).2.1, m3]; omega
  have b2 : v2.toBitVec.toNat ≤ 1717986918 := by
    have l1 : v1.toBitVec.toNat &&& 858993459 ≤ 858993459 := Nat.and_le_right
    have l2 : (v1.toBitVec.toNat / 4) &&& 858993459 ≤ 858993459 := Nat.and_le_right
    rw [n2]
    unfold PB
    omega
  have n3 : v3.toBitVec.toNat = PC 252645135 v2.toBitVec.toNat := by
    rw [← e3, and_n, add_n]
    · rw [(ush_n v2).2.2.1, mf]; rfl
    · rw [(ush_n v2).2.2.1]; omega
  obtain ⟨he, ha, hb, hc, hd⟩ := pop_eq x.toBitVec.toNat (by omega)
  generalize P8 (x.toBitVec.toNat % 256) = a at *
  generalize P8 (x.toBitVec.toNat / 256 % 256) = b at *
  generalize P8 (x.toBitVec.toNat / 65536 % 256) = c at *
  generalize P8 (x.toBitVec.toNat / 16777216) = d at *
  rw [← n1, ← n2, ← n3] at he
  have n4 : v4.toBitVec.toNat = v3.toBitVec.toNat + v3.toBitVec.toNat / 256 := by
    rw [← e4, add_n]
    · rw [(ush_n v3).2.2.2.1]
    · rw [(ush_n v3).2.2.2.1]; omega
  have n5 : v5.toBitVec.toNat = v4.toBitVec.toNat + v4.toBitVec.toNat / 65536 := by
    rw [← e5, add_n]
    · rw [(ush_n v4).2.2.2.2]
    · rw [(ush_n v4).2.2.2.2]; omega
  have n6 : (v5 &&& Int32.ofInt 63).toBitVec.toNat = v5.toBitVec.toNat % 64 := by
    rw [and_n, m6]
    exact Nat.and_two_pow_sub_one_eq_mod _ 6
  have h4 : v4.toBitVec.toNat = (a + b) + 256 * (b + c) + 65536 * (c + d) + 16777216 * d := by
    rw [n4, he]
    omega
  have h5 : v5.toBitVec.toNat = (a + b + c + d) + 64 * (4 * (b + c + d) + 1024 * (c + d) + 262144 * d) := by
    have hq : (a + b + 256 * (b + c) + 65536 * (c + d) + 16777216 * d) / 65536 = c + d + 256 * d := by
      rw [show a + b + 256 * (b + c) + 65536 * (c + d) + 16777216 * d = (a + b + 256 * (b + c)) + 65536 * (c + d + 256 * d) by omega, Nat.add_mul_div_left _ _ (by decide), Nat.div_eq_of_lt (by omega)]
      omega
    rw [n5, h4, hq]
    omega
  have hz : (v5 &&& Int32.ofInt 63).toBitVec.toNat = a + b + c + d := by
    rw [n6, h5, Nat.add_mul_mod_self_left]
    exact Nat.mod_eq_of_lt (by omega)
  have e : (v5 &&& Int32.ofInt 63).toInt = ((v5 &&& Int32.ofInt 63).toBitVec.toNat : Int) := BitVec.toInt_eq_toNat_of_lt (by omega)
  rw [e, hz]
theorem f_414 {Z : AmZ} {A : Nat → Nat} {s : GS} {ex : va_W} {d : Nat} {X : AmX} {x0 : Int32} (hd : 1 ≤ d) (_ : Inv s) : GC Z d 414 [.int x0] (WW Z A s ++ ex) 0 0 (fun v u => ∃ z : Int32, v = some (.int z) ∧ u = WW Z A s ++ ex ∧ In z 0 32 ∧ z.toInt = (cb x0 : Int)) X := by
  intro post xp hP hX
  exact x_414 hd post xp (fun v u h => hP v u ⟨_, h.1, h.2, bc_le _, bc_cb _⟩) hX
end
section
/-! SUMS -/
def sm (f : Nat → Int) : Nat → Int
  | 0 => 0
  | n + 1 => sm f n + f n
section SM
variable {f h : Nat → Int}
end SM
/-! NEIGHBOURS -/
def NBR (g : GVW) (u w : Nat) : Prop := u ≠ w ∧ PE g 1 u w
theorem nbr_s {g : GVW} {u w : Nat} (h : NBR g u w) : NBR g w u := ⟨fun z => h.1 z.symm, pe_s u w h.2⟩
theorem nbr_e {g h : GVW} (q : GEW g h) : NBR g = NBR h := by
  funext u w
  unfold NBR PE
  rw [ajg_e q]
/-! the class's triangles -/
/-! pairs u < v, one by one -/
end
section
/-! NEIGHBOURS ON BOTH SIDES -/
theorem nbr_r {g : GVW} {near : Nat → Int32} (h : ∀ u w, FEQ near (Int32.ofInt (-1)) u w ↔ (u ≠ w ∧ PE g 1 u w)) {u : Nat} (hu : u < 32) {x : Int32} (e : x = near u) : ∀ w, bt x w = true ↔ NBR g u w := fun w => by
  rw [e]
  exact ⟨fun q => (h u w).mp ⟨hu, q, bt_m1 (bt_lt q)⟩, fun q => ((h u w).mpr q).2.1⟩
theorem nbr_n {g : GVW} (hN : NDQ g) {u w : Nat} (h : NBR g u w) : (u : Int) < g.2.2.2.2.2.2.1 ∧ (w : Int) < g.2.2.2.2.2.2.1 := by
  rcases h.2 with ⟨p, a, b, c⟩ | ⟨-, p, a, b, c⟩
  · exact ndq_a hN a b c
  · exact ⟨(ndq_a hN a b c).2, (ndq_a hN a b c).1⟩
def JNA (g : GVW) (q u w : Nat) : Prop := q < 160 ∧ u ≠ w ∧ ((ARE g 0 q = (u : Int) ∧ ARE g 1 q = (w : Int)) ∨ (ARE g 0 q = (w : Int) ∧ ARE g 1 q = (u : Int)))
def JNK (g : GVW) (k u w : Nat) : Prop := ∃ q : Nat, q < k ∧ JNA g q u w
theorem jnk_s {g : GVW} {k u w : Nat} : JNK g (k + 1) u w ↔ (JNK g k u w ∨ JNA g k u w) := by
  constructor
  · rintro ⟨q, a, b⟩
    by_cases c : q = k
    · rw [c] at b; exact Or.inr b
    · exact Or.inl ⟨q, by omega, b⟩
  · rintro (⟨q, a, b⟩ | b)
    · exact ⟨q, by omega, b⟩
    · exact ⟨k, by omega, b⟩
theorem jnk_e {g : GVW} {u w : Nat} : JNK g 160 u w ↔ NBR g u w := by
  constructor
  · rintro ⟨q, a, b, c, d⟩
    exact ⟨c, d.elim (fun e => Or.inl ⟨q, a, e.1, e.2⟩) (fun e => Or.inr ⟨by decide, q, a, e.1, e.2⟩)⟩
  · rintro ⟨c, ⟨q, a, b, d⟩ | ⟨-, q, a, b, d⟩⟩
    · exact ⟨q, a, a, c, Or.inl ⟨b, d⟩⟩
    · exact ⟨q, a, a, c, Or.inr ⟨b, d⟩⟩
def BSK (g : GVW) (n : Int) (k : Nat) (f : Nat → Int32) : Prop := ∀ u w : Nat, (u : Int) < n → (bt (f u) w = true ↔ JNK g k u w)
theorem bsk_0 {g : GVW} {n : Int} {f : Nat → Int32} (hz : ∀ u : Nat, (u : Int) < n → f u = Int32.ofInt 0) : BSK g n 0 f := fun u w hu => by
  rw [hz u hu]
  constructor
  · intro z
    rw [show (Int32.ofInt 0) = 0 from rfl, bt_z] at z
    cases z
  · rintro ⟨q, a, -⟩
    exact absurd a (Nat.not_lt_zero q)
theorem bsk_n {g : GVW} {n : Int} {k : Nat} {f : Nat → Int32} (h : BSK g n k f) (hn : ∀ u w, ¬ JNA g k u w) : BSK g n (k + 1) f := fun u w hu => by
  rw [jnk_s]
  exact ⟨fun z => Or.inl ((h u w hu).mp z), fun z => z.elim (h u w hu).mpr (fun z => absurd z (hn u w))⟩
theorem bsk_s {s : GS} (hI : Inv s) {n : Int} {k : Nat} {f : Nat → Int32} {x a b x1 z1 z2 x2 y3 z3 : Int32} (h : BSK (gvZ s) n k f) (hk : k < 160) (ex : x = s.1 112 (bs s + k)) (hx : x.toInt ≠ 0) (hf : a = s.1 113 (bs s + k)) (ht : b = s.1 114 (bs s + k)) (i1 : In a 0 31) (i2 : In b 0 31) (ne : a.toInt ≠ b.toInt) (e0 : x1 = f a.toNatClampNeg) (e1 : z1 = Int32.ofInt 1 <<< (b &&& 31)) (e2 : z2 = x1 ||| z1) (e3 : x2 = upd f a.toNatClampNeg z2 b.toNatClampNeg) (e4 : y3 = Int32.ofInt 1 <<< (a &&& 31)) (e5 : z3 = x2 ||| y3) : BSK (gvZ s) n (k + 1) (upd (upd f a.toNatClampNeg z2) b.toNatClampNeg z3) := by
  have row := cq_row (f := f) (u := a.toNatClampNeg) (v := b.toNatClampNeg) (z2 := z2) (z3 := z3) (W := True) (fun j => by rw [bt_set e1 e2 i2, Bool.or_eq_true, decide_eq_true_iff, e0]) (fun j => by rw [bt_or e5, Bool.or_eq_true, bt_one e4 i1, decide_eq_true_iff, e3]; simp)
  obtain ⟨a0, a1⟩ := arz_y hI hk ex hx
  rw [← hf] at a0
  rw [← ht] at a1
  have c1 := clx i1.1
  have c2 := clx i2.1
  intro u w hu
  rw [row u w, jnk_s, h u w hu]
  unfold JNA
  rw [a0, a1]
  constructor
  · rintro (z | ⟨z1, z2⟩ | ⟨-, z1, z2⟩)
    · exact Or.inl z
    · exact Or.inr ⟨hk, by omega, Or.inl ⟨by omega, by omega⟩⟩
    · exact Or.inr ⟨hk, by omega, Or.inr ⟨by omega, by omega⟩⟩
  · rintro (z | ⟨-, z0, ⟨z1, z2⟩ | ⟨z1, z2⟩⟩)
    · exact Or.inl z
    · exact Or.inr (Or.inl ⟨by omega, by omega⟩)
    · exact Or.inr (Or.inr ⟨trivial, by omega, by omega⟩)
theorem jna_0 {s : GS} (hI : Inv s) {k : Nat} {x : Int32} (e : x = s.1 112 (bs s + k)) (h : x.toInt = 0) : ∀ u w, ¬ JNA (gvZ s) k u w := fun u w z => by
  have m := arz_n hI e h
  have d := z.2.2
  rw [m] at d
  rcases d with ⟨d1, -⟩ | ⟨d1, -⟩ <;> omega
theorem jna_1 {s : GS} (hI : Inv s) {k : Nat} {f t x : Int32} (e : x = s.1 112 (bs s + k)) (th : x.toInt ≠ 0) (hf : f = s.1 113 (bs s + k)) (ht : t = s.1 114 (bs s + k)) (eq : f.toInt = t.toInt) : ∀ u w, ¬ JNA (gvZ s) k u w := fun u w z => by
  obtain ⟨a1, a2⟩ := arz_y hI z.1 e th
  have d := z.2.2
  have c := z.2.1
  rw [a1, a2, ← hf, ← ht] at d
  have c1 : f.toNatClampNeg = f.toInt.toNat := rfl
  have c2 : t.toNatClampNeg = t.toInt.toNat := rfl
  rcases d with ⟨d1, d2⟩ | ⟨d1, d2⟩ <;> omega
/-- the reference's rows of neighbours -/
def BFR (g : GVW) (n : Int) (f : Nat → Int32) : Prop := ∀ u w : Nat, (u : Int) < n → (bt (f u) w = true ↔ NBR g u w)
theorem bfr_e {g : GVW} {n : Int} {f : Nat → Int32} (h : BSK g n 160 f) : BFR g n f := fun u w hu => (h u w hu).trans jnk_e
/-! FIGURES -/
theorem gvz_n {s : GS} (hI : Inv s) : (gvZ s).2.2.2.2.2.2.1 = (s.2.2.1 109 20).toInt := by
  have k : s.2.2.1 109 20 = s.1 110 (s.2.2.1 109 18).toNatClampNeg := hI.2.2.2.2.2.2.2.2.2.2
  rw [k]
  rfl
def QZ (L : FM) : Bool := qI L.1 110 && (qI L.1 111 && (qI L.1 112 && (qI L.1 113 && (qI L.1 114 && (qI L.1 115 && (qI L.1 116 && (qI L.1 117 && (qF L.2.2.1 109 9 && qF L.2.2.1 109 18))))))))
theorem gvz_cg {s t : GS} {F : FM} (hF : Fr F s t) (hk : QZ F = true) : gvZ t = gvZ s := by
  simp only [QZ, Bool.and_eq_true] at hk
  obtain ⟨q0, q1, q2, q3, q4, q5, q6, q7, q8, q9⟩ := hk
  unfold gvZ gvG
  rw [hF.1 110 q0, hF.1 111 q1, hF.1 112 q2, hF.1 113 q3, hF.1 114 q4, hF.1 115 q5, hF.1 116 q6, hF.1 117 q7, hF.2.2.1 109 9 q8, hF.2.2.1 109 18 q9]
end
section
/-! CLIQUES -/
def CLS (f : Nat → Int32) (S : Int32) : Prop := ∀ u w : Nat, bt S u = true → bt S w = true → u ≠ w → bt (f u) w = true
def PRF (S C : Int32) : Prop := S = C ∨ ∃ k : Nat, bt S k = true ∧ bt C k = false ∧ ∀ j, j < k → bt S j = bt C j
def EXC (f : Nat → Int32) (ch re C : Int32) : Prop := CLS f C ∧ (∀ k, bt ch k = true → bt C k = true) ∧ ∀ k, bt C k = true → bt ch k = true ∨ bt re k = true
def SYR (f : Nat → Int32) : Prop := (∀ u w : Nat, u < 32 → w < 32 → bt (f u) w = true → bt (f w) u = true) ∧ ∀ u, u < 32 → bt (f u) u = false
def GRP (f : Nat → Int32) (ch re : Int32) (d : Int) : Prop := CLS f ch ∧ (∀ k, bt re k = true → bt ch k = false ∧ ∀ u, bt ch u = true → bt (f u) k = true) ∧ (cb ch : Int) = d
def GRW (f : Nat → Int32) (ch re f0 f1 : Int32) : Prop := (f1 = f0 ∨ (EXC f ch re f1 ∧ cb f0 < cb f1)) ∧ ∀ C, EXC f ch re C → cb C ≤ cb f1 ∧ (cb C = cb f1 → f1 = f0 ∨ PRF f1 C)
/-- the tries with a node outside of le are done -/
def GRL (f : Nat → Int32) (ch re le f0 f1 : Int32) : Prop := (f1 = f0 ∨ (EXC f ch re f1 ∧ cb f0 < cb f1 ∧ (f1 = ch ∨ ∃ k, bt f1 k = true ∧ bt re k = true ∧ bt le k = false))) ∧ cb ch ≤ cb f1 ∧ (∀ k, bt le k = true → bt re k = true) ∧ (∀ k j, bt re k = true → bt le k = false → bt le j = true → k < j) ∧ ∀ C, EXC f ch re C → (C = ch ∨ ∃ k, bt C k = true ∧ bt re k = true ∧ bt le k = false) → cb C ≤ cb f1 ∧ (cb C = cb f1 → f1 = f0 ∨ PRF f1 C)
section CLK
variable {f : Nat → Int32} {ch re le f0 f1 C : Int32} {d : Int}
theorem bf_f {b : Bool} (h : ¬ b = true) : b = false := by
  cases b
  · rfl
  · exact absurd rfl h
theorem ext_new (h : EXC f ch re C) (hn : C ≠ ch) : ∃ k, bt C k = true ∧ bt ch k = false ∧ bt re k = true := by
  refine Classical.byContradiction fun z => hn (bt_ext (fun k _ => ?_))
  cases e : bt ch k with
  | true => exact h.2.1 k e
  | false =>
    refine bf_f (fun c => z ⟨k, c, e, ?_⟩)
    rcases h.2.2 k c with q | q
    · rw [e] at q; cases q
    · exact q
theorem grl_p (h : GRL f ch re le f0 f1) (p : GRP f ch re d) (hf : f1 ≠ f0) (hC : EXC f ch re C) (hl : ∀ k, bt C k = true → bt ch k = true ∨ bt le k = true) (hn : C ≠ ch) (hc : cb C = cb f1) : PRF f1 C := by
  rcases h.1 with q | ⟨q1, q2, q3⟩
  · exact absurd q hf
  · rcases q3 with q3 | ⟨k, k1, k2, k3⟩
    · have := cb_ss (x := ch) (y := C) hC.2.1 (fun z => hn z.symm)
      rw [q3] at hc
      omega
    · have kc := (p.2.1 k k2).1
      obtain ⟨k0, a1, a2⟩ := ex_least (fun j => bt f1 j && !(bt ch j)) k (by rw [k1, kc]; rfl)
      have a1 : (bt f1 k0 && !(bt ch k0)) = true := a1
      rw [Bool.and_eq_true] at a1
      obtain ⟨b1, b2⟩ := a1
      have b2 : bt ch k0 = false := by simpa using b2
      have k0k : k0 ≤ k := Classical.byContradiction fun z => by
        have w : (bt f1 k && !(bt ch k)) = false := a2 k (by omega)
        rw [k1, kc] at w
        cases w
      have r0 : bt re k0 = true := by
        rcases q1.2.2 k0 b1 with y | y
        · rw [b2] at y; cases y
        · exact y
      have l0 : bt le k0 = false := bf_f (fun z => by
        have := h.2.2.2.1 k k0 k2 k3 z
        omega)
      have c0 : bt C k0 = false := bf_f (fun z => by
        rcases hl k0 z with y | y
        · rw [b2] at y; cases y
        · rw [l0] at y; cases y)
      refine Or.inr ⟨k0, b1, c0, fun j hj => ?_⟩
      have w : (bt f1 j && !(bt ch j)) = false := a2 j hj
      cases e : bt f1 j with
      | true =>
        rw [e] at w
        have cj : bt ch j = true := by simpa using w
        rw [hC.2.1 j cj]
      | false =>
        refine (bf_f (fun z => ?_)).symm
        rcases hl j z with y | y
        · rw [q1.2.1 j y] at e; cases e
        · have := h.2.2.2.1 k0 j r0 l0 y
          omega
theorem ext_self (p : CLS f ch) : EXC f ch re ch := ⟨p, fun _ h => h, fun _ h => Or.inl h⟩
theorem prf_r {S : Int32} : PRF S S := Or.inl rfl
theorem grl_0 (p : GRP f ch re d) (hf : (cb f0 < cb ch ∧ f1 = ch) ∨ (cb ch ≤ cb f0 ∧ f1 = f0)) : GRL f ch re re f0 f1 := by
  have no : ∀ {C : Int32}, ¬ ∃ k, bt C k = true ∧ bt re k = true ∧ bt re k = false := fun ⟨k, _, a, b⟩ => by rw [a] at b; cases b
  have ord : ∀ k j, bt re k = true → bt re k = false → bt re j = true → k < j := fun k j a b => by rw [a] at b; cases b
  rcases hf with ⟨a, b⟩ | ⟨a, b⟩
  · rw [b]
    refine ⟨Or.inr ⟨ext_self p.1, a, Or.inl rfl⟩, Nat.le_refl _, fun _ h => h, ord, fun C _ z => ?_⟩
    rcases z with z | z
    · rw [z]; exact ⟨Nat.le_refl _, fun _ => Or.inr prf_r⟩
    · exact absurd z no
  · rw [b]
    refine ⟨Or.inl rfl, a, fun _ h => h, ord, fun C _ z => ?_⟩
    rcases z with z | z
    · rw [z]; exact ⟨a, fun _ => Or.inl rfl⟩
    · exact absurd z no
theorem grp_s {v one ch2 nv re2 : Int32} (h : GRL f ch re le f0 f1) (p : GRP f ch re d) (sy : SYR f) (hb : bt le v.toNatClampNeg = true) (iv : In v 0 31) (e1 : one = Int32.ofInt 1 <<< (v &&& 31)) (e2 : ch2 = ch ||| one) (e3 : nv = f v.toNatClampNeg) (e4 : re2 = le &&& nv) : GRP f ch2 re2 (d + 1) := by
  obtain ⟨p1, p2, p3⟩ := p
  have b2 : ∀ k, bt ch2 k = true ↔ (bt ch k = true ∨ k = v.toNatClampNeg) := fun k => by rw [bt_set e1 e2 iv, Bool.or_eq_true, decide_eq_true_iff]
  have vre := h.2.2.1 _ hb
  have v32 := bt_lt hb
  have vch := (p2 _ vre).1
  refine ⟨fun u w hu hw hne => ?_, fun k hk => ?_, ?_⟩
  · rcases (b2 u).mp hu with a | a <;> rcases (b2 w).mp hw with c | c
    · exact p1 u w a c hne
    · rw [c]; exact (p2 _ vre).2 u a
    · rw [a]
      exact sy.1 w _ (bt_lt c) v32 ((p2 _ vre).2 w c)
    · omega
  · have k1 := bt_and1 e4 hk
    have k2 := bt_and2 e4 hk
    rw [e3] at k2
    have kre := h.2.2.1 k k1
    refine ⟨bf_f (fun z => ?_), fun u hu => ?_⟩
    · rcases (b2 k).mp z with a | a
      · rw [(p2 k kre).1] at a; cases a
      · rw [a, sy.2 _ v32] at k2; cases k2
    · rcases (b2 u).mp hu with a | a
      · exact (p2 k kre).2 u a
      · rw [a]; exact k2
  · have c := cb_set e1 e2 iv vch
    omega
theorem grl_s {v one ch2 nv re2 m le2 f2 : Int32} (h : GRL f ch re le f0 f1) (p : GRP f ch re d) (hb : bt le v.toNatClampNeg = true) (hl : lowB le v.toNatClampNeg) (iv : In v 0 31) (e1 : one = Int32.ofInt 1 <<< (v &&& 31)) (e2 : ch2 = ch ||| one) (e3 : nv = f v.toNatClampNeg) (e4 : re2 = le &&& nv) (e5 : m = le - Int32.ofInt 1) (e6 : le2 = le &&& m) (g : GRW f ch2 re2 f1 f2) : GRL f ch re le2 f0 f2 := by
  have b2 : ∀ k, bt ch2 k = true ↔ (bt ch k = true ∨ k = v.toNatClampNeg) := fun k => by rw [bt_set e1 e2 iv, Bool.or_eq_true, decide_eq_true_iff]
  have l2 : ∀ k, bt le2 k = (bt le k && !(decide (k = v.toNatClampNeg))) := fun k => lowB_clr hl e5 e6
  have l2t : ∀ k, bt le2 k = true → bt le k = true ∧ k ≠ v.toNatClampNeg := fun k hk => by
    rw [l2 k, Bool.and_eq_true] at hk
    exact ⟨hk.1, by simpa using hk.2⟩
  have l2f : ∀ k, bt le2 k = false → bt le k = false ∨ k = v.toNatClampNeg := fun k hk => by
    rw [l2 k] at hk
    by_cases c : k = v.toNatClampNeg
    · exact Or.inr c
    · left; simpa [c] using hk
  have l2v : bt le2 v.toNatClampNeg = false := by rw [l2]; simp
  have low : ∀ j, bt le j = true → v.toNatClampNeg ≤ j := fun j hj => low_min hl (bt_lt hb) hj
  have vre := h.2.2.1 _ hb
  obtain ⟨h1, h2, h3, h4, h5⟩ := h
  have e21 : ∀ C, EXC f ch2 re2 C → EXC f ch re C := fun C q => ⟨q.1, fun k hk => q.2.1 k ((b2 k).mpr (Or.inl hk)), fun k hk => by
    rcases q.2.2 k hk with z | z
    · rcases (b2 k).mp z with y | y
      · exact Or.inl y
      · rw [y]; exact Or.inr vre
    · exact Or.inr (h3 k (bt_and1 e4 z))⟩
  have mono : cb f1 ≤ cb f2 := by
    rcases g.1 with z | ⟨-, z⟩
    · rw [z]; exact Nat.le_refl _
    · omega
  have same : cb f1 = cb f2 → f2 = f1 := fun z => by
    rcases g.1 with y | ⟨-, y⟩
    · exact y
    · omega
  refine ⟨?_, by omega, fun k hk => h3 k (l2t k hk).1, fun k j hk hf hj => ?_, fun C hC z => ?_⟩
  · rcases g.1 with z | ⟨z1, z2⟩
    · rw [z]
      rcases h1 with y | ⟨y1, y2, y3⟩
      · exact Or.inl y
      · refine Or.inr ⟨y1, y2, ?_⟩
        rcases y3 with y3 | ⟨k, k1, k2, k3⟩
        · exact Or.inl y3
        · exact Or.inr ⟨k, k1, k2, by rw [l2 k, k3]; rfl⟩
    · refine Or.inr ⟨e21 _ z1, ?_, Or.inr ⟨_, z1.2.1 _ ((b2 _).mpr (Or.inr rfl)), vre, l2v⟩⟩
      rcases h1 with y | ⟨-, y2, -⟩
      · rw [← y]; exact z2
      · omega
  · obtain ⟨j1, j2⟩ := l2t j hj
    rcases l2f k hf with z | z
    · exact h4 k j hk z j1
    · rw [z]
      have := low j j1
      omega
  · by_cases old : C = ch ∨ ∃ k, bt C k = true ∧ bt re k = true ∧ bt le k = false
    · obtain ⟨q1, q2⟩ := h5 C hC old
      refine ⟨by omega, fun w => ?_⟩
      have s := same (by omega)
      rw [s]
      exact q2 (by rw [s] at w; exact w)
    · have hn : C ≠ ch := fun y => old (Or.inl y)
      have hle : ∀ k, bt C k = true → bt ch k = true ∨ bt le k = true := fun k hk => by
        rcases hC.2.2 k hk with y | y
        · exact Or.inl y
        · cases e : bt le k with
          | true => exact Or.inr rfl
          | false => exact absurd (Or.inr ⟨k, hk, y, e⟩) old
      have cv : bt C v.toNatClampNeg = true := by
        rcases z with z | ⟨k, k1, k2, k3⟩
        · exact absurd z hn
        · rcases l2f k k3 with y | y
          · exact absurd (Or.inr ⟨k, k1, k2, y⟩) old
          · rw [← y]; exact k1
      have ex : EXC f ch2 re2 C := ⟨hC.1, fun k hk => by
        rcases (b2 k).mp hk with y | y
        · exact hC.2.1 k y
        · rw [y]; exact cv, fun k hk => by
        by_cases kv : k = v.toNatClampNeg
        · exact Or.inl ((b2 k).mpr (Or.inr kv))
        · rcases hle k hk with y | y
          · exact Or.inl ((b2 k).mpr (Or.inl y))
          · right
            rw [bt_and e4, y, e3, hC.1 _ k cv hk (fun w => kv w.symm)]
            rfl⟩
      obtain ⟨q1, q2⟩ := g.2 C ex
      refine ⟨q1, fun w => ?_⟩
      rcases q2 w with y | y
      · rw [y]
        by_cases fe : f1 = f0
        · exact Or.inl fe
        · exact Or.inr (grl_p ⟨h1, h2, h3, h4, h5⟩ p fe hC hle hn (by rw [y] at w; exact w))
      · exact Or.inr y
/-- nothing is left, or too little -/
theorem grl_x (h : GRL f ch re le f0 f1) (p : GRP f ch re d) (hx : le.toInt = 0 ∨ cb ch + cb le ≤ cb f1) : GRW f ch re f0 f1 := by
  refine ⟨h.1.imp id (fun z => ⟨z.1, z.2.1⟩), fun C hC => ?_⟩
  by_cases old : C = ch ∨ ∃ k, bt C k = true ∧ bt re k = true ∧ bt le k = false
  · exact h.2.2.2.2 C hC old
  · have hn : C ≠ ch := fun y => old (Or.inl y)
    have hle : ∀ k, bt C k = true → bt ch k = true ∨ bt le k = true := fun k hk => by
      rcases hC.2.2 k hk with y | y
      · exact Or.inl y
      · cases e : bt le k with
        | true => exact Or.inr rfl
        | false => exact absurd (Or.inr ⟨k, hk, y, e⟩) old
    obtain ⟨k, k1, k2, k3⟩ := ext_new hC hn
    have kl : bt le k = true := by
      rcases hle k k1 with y | y
      · rw [k2] at y; cases y
      · exact y
    rcases hx with hx | hx
    · exact absurd hx (bt_nz kl)
    · have dis : ∀ j, bt ch j = true → bt le j = false := fun j hj => bf_f (fun z => by
        rw [(p.2.1 j (h.2.2.1 j z)).1] at hj
        cases hj)
      have cu := cb_or (x := ch) (y := le) rfl dis
      have cs : cb C ≤ cb (ch ||| le) := cb_sub (fun j hj => by
        rw [bt_or rfl, Bool.or_eq_true]
        exact hle j hj)
      refine ⟨by omega, fun w => ?_⟩
      by_cases fe : f1 = f0
      · exact Or.inl fe
      · exact Or.inr (grl_p h p fe hC hle hn w)
theorem grw_d (p : GRP f ch re d) (hd : 32 ≤ d) (hf : (cb f0 < cb ch ∧ f1 = ch) ∨ (cb ch ≤ cb f0 ∧ f1 = f0)) : GRW f ch re f0 f1 := by
  have r0 : re.toInt = 0 := Classical.byContradiction fun z => by
    obtain ⟨k, k1, k2, -⟩ := low32x z
    have k2 : bt re k = true := k2
    have c := (p.2.1 k k2).1
    have full := cb_sub (x := ch) (y := ch ||| re) (fun j hj => bt_orl rfl hj)
    have lt := cb_ss (x := ch) (y := ch ||| re) (fun j hj => bt_orl rfl hj) (fun e => by
      have : bt (ch ||| re) k = true := bt_orr rfl k2
      rw [← e, c] at this
      cases this)
    have le := cb_le (ch ||| re)
    have q := p.2.2
    omega
  exact grl_x (grl_0 p hf) p (Or.inl r0)
/-- THE clique -/
def CLK (f : Nat → Int32) (n : Int) (S : Int32) : Prop := (CLS f S ∧ ∀ k : Nat, bt S k = true → (k : Int) < n) ∧ ∀ C, CLS f C → (∀ k : Nat, bt C k = true → (k : Int) < n) → cb C ≤ cb S ∧ (cb C = cb S → PRF S C)
theorem grw_e {n : Int} (g : GRW f (Int32.ofInt 0) re (Int32.ofInt 0) f1) (hr : ∀ k : Nat, bt re k = true ↔ (k : Int) < n) : CLK f n f1 := by
  have z0 : ∀ k, bt (Int32.ofInt 0) k = false := fun k => by rw [show (Int32.ofInt 0) = 0 from rfl]; exact bt_z
  have cz : CLS f (Int32.ofInt 0) := fun u w hu => by rw [z0 u] at hu; cases hu
  have ex : ∀ C, CLS f C → (∀ k : Nat, bt C k = true → (k : Int) < n) → EXC f (Int32.ofInt 0) re C := fun C h1 h2 => ⟨h1, fun k hk => (by rw [z0 k] at hk; cases hk), fun k hk => Or.inr ((hr k).mpr (h2 k hk))⟩
  refine ⟨?_, fun C h1 h2 => ?_⟩
  · rcases g.1 with e | ⟨e, -⟩
    · rw [e]; exact ⟨cz, fun k hk => by rw [z0 k] at hk; cases hk⟩
    · exact ⟨e.1, fun k hk => by
        rcases e.2.2 k hk with y | y
        · rw [z0 k] at y; cases y
        · exact (hr k).mp y⟩
  · obtain ⟨q1, q2⟩ := g.2 C (ex C h1 h2)
    refine ⟨q1, fun w => ?_⟩
    rcases q2 w with y | y
    · rw [y] at w ⊢
      left
      refine bt_ext (fun k _ => ?_)
      rw [z0 k]
      refine (bf_f (fun z => ?_)).symm
      have := cb_pos z
      have c0 : cb (Int32.ofInt 0) = 0 := cb_z
      omega
    · exact y
theorem clq_u {g : Nat → Int32} {n : Int} {S U : Int32} (hA : ∀ u w : Nat, (u : Int) < n → (bt (f u) w = true ↔ bt (g u) w = true)) (h1 : CLK f n S) (h2 : CLK g n U) : S = U := by
  have tr : ∀ C, (∀ k : Nat, bt C k = true → (k : Int) < n) → (CLS f C ↔ CLS g C) := fun C hC => ⟨fun h u w hu hw hne => (hA u w (hC u hu)).mp (h u w hu hw hne), fun h u w hu hw hne => (hA u w (hC u hu)).mpr (h u w hu hw hne)⟩
  obtain ⟨a1, a2⟩ := h1.2 U ((tr U h2.1.2).mpr h2.1.1) h2.1.2
  obtain ⟨b1, b2⟩ := h2.2 S ((tr S h1.1.2).mp h1.1.1) h1.1.2
  rcases a2 (by omega) with e | ⟨k, k1, k2, k3⟩
  · exact e
  · rcases b2 (by omega) with e | ⟨j, j1, j2, j3⟩
    · exact e.symm
    · exfalso
      rcases Nat.lt_trichotomy k j with c | c | c
      · have := j3 k c
        rw [k1, k2] at this
        cases this
      · rw [c, j2] at k1; cases k1
      · have := k3 j c
        rw [j1, j2] at this
        cases this
/-! the reference's row of tries -/
def RCZ (f : Nat → Int32) (n : Int) (op ch : Nat → Int32) (d : Int) : Prop := (∀ i : Nat, (i : Int) ≤ d → CLS f (ch i) ∧ (∀ k : Nat, bt (ch i) k = true → (k : Int) < n) ∧ cb (ch i) = i ∧ ∀ r : Nat, bt (op i) r = true → (r : Int) < n ∧ bt (ch i) r = false ∧ ∀ u, bt (ch i) u = true → bt (f u) r = true) ∧ ∀ i : Nat, (i : Int) < d → ∃ v, bt (ch i) v = false ∧ (∀ r, bt (op i) r = true → v < r) ∧ ∀ j : Nat, i < j → (j : Int) ≤ d → bt (ch j) v = true ∧ (∀ k, bt (ch i) k = true → bt (ch j) k = true) ∧ (∀ k, bt (ch j) k = true → bt (ch i) k = true ∨ v ≤ k) ∧ ∀ r, bt (op j) r = true → bt (op i) r = true
def PND (op ch : Nat → Int32) (d : Int) (C : Int32) : Prop := ∃ i : Nat, (i : Int) ≤ d ∧ (∀ k, bt (ch i) k = true → bt C k = true) ∧ ∀ k, bt C k = true → bt (ch i) k = true ∨ bt (op i) k = true
def RCQ2 (f : Nat → Int32) (n : Int) (op ch : Nat → Int32) (d : Int) (best : Int32) (bs : Int) : Prop := RCZ f n op ch d ∧ ((cb best : Int) = bs ∧ CLS f best ∧ ∀ k : Nat, bt best k = true → (k : Int) < n) ∧ ∀ C, CLS f C → (∀ k : Nat, bt C k = true → (k : Int) < n) → (PND op ch d C ∨ (cb C : Int) ≤ bs) ∧ ((cb C : Int) = bs → PRF best C)
end CLK
section RCQ
variable {f : Nat → Int32} {n d bs : Int} {op ch : Nat → Int32} {best : Int32}
theorem rcq_h {D : Nat} (h : RCQ2 f n op ch d best bs) (hD : d = (D : Int)) (hlt : bs < d) {b2 : Int32} (eb : b2 = ch D) : RCQ2 f n op ch d b2 d := by
  obtain ⟨⟨s1, s2⟩, ⟨a1, a2, a3⟩, h3⟩ := h
  obtain ⟨t1, t2, t3, t4⟩ := s1 D (by omega)
  rw [eb]
  refine ⟨⟨s1, s2⟩, ⟨by omega, t1, t2⟩, fun C hC hn => ?_⟩
  obtain ⟨q1, q2⟩ := h3 C hC hn
  refine ⟨q1.imp id (fun z => by omega), fun w => ?_⟩
  rcases q1 with ⟨i, i1, i2, i3⟩ | q1
  · by_cases e : i = D
    · rw [e] at i2 i3
      left
      exact Classical.byContradiction fun z => by
        have := cb_ss (x := ch D) (y := C) i2 z
        omega
    · obtain ⟨v, v1, v2, v3⟩ := s2 i (by omega)
      obtain ⟨x1, x2, x3, x4⟩ := v3 D (by omega) (by omega)
      have cv : bt C v = false := bf_f (fun z => by
        rcases i3 v z with y | y
        · rw [v1] at y; cases y
        · have := v2 v y
          omega)
      refine Or.inr ⟨v, x1, cv, fun j hj => ?_⟩
      cases e2 : bt (ch i) j with
      | true => rw [x2 j e2, i2 j e2]
      | false =>
        have c1 : bt (ch D) j = false := bf_f (fun z => by
          rcases x3 j z with y | y
          · rw [e2] at y; cases y
          · omega)
        have c2 : bt C j = false := bf_f (fun z => by
          rcases i3 j z with y | y
          · rw [e2] at y; cases y
          · have := v2 j y
            omega)
        rw [c1, c2]
  · omega
theorem rcq_pop {D : Nat} {e : Int} (h : RCQ2 f n op ch d best bs) (hD : d = (D : Int)) (he : e = d - 1) (hb : d ≤ bs) (hx : (op D).toInt = 0 ∨ d + (cb (op D) : Int) ≤ bs) : RCQ2 f n op ch e best bs := by
  obtain ⟨⟨s1, s2⟩, h2, h3⟩ := h
  refine ⟨⟨fun i hi => s1 i (by omega), fun i hi => ?_⟩, h2, fun C hC hn => ?_⟩
  · obtain ⟨v, v1, v2, v3⟩ := s2 i (by omega)
    exact ⟨v, v1, v2, fun j hj hjd => v3 j hj (by omega)⟩
  · obtain ⟨q1, q2⟩ := h3 C hC hn
    refine ⟨?_, q2⟩
    rcases q1 with ⟨i, i1, i2, i3⟩ | q1
    · by_cases c : i = D
      · right
        rw [c] at i2 i3
        obtain ⟨t1, t2, t3, t4⟩ := s1 D (by omega)
        rcases hx with hx | hx
        · have e2 : C = ch D := bt_ext (fun k _ => by
            cases e3 : bt (ch D) k with
            | true => exact i2 k e3
            | false => exact bf_f (fun z => by
                rcases i3 k z with y | y
                · rw [e3] at y; cases y
                · exact absurd hx (bt_nz y)))
          rw [e2, t3]
          omega
        · have cu := cb_or (x := ch D) (y := op D) rfl (fun j hj => bf_f (fun z => by
            rw [(t4 j z).2.1] at hj
            cases hj))
          have cs : cb C ≤ cb (ch D ||| op D) := cb_sub (fun j hj => by
            rw [bt_or rfl, Bool.or_eq_true]
            exact i3 j hj)
          omega
      · exact Or.inl ⟨i, by omega, i2, i3⟩
    · exact Or.inr q1
theorem rcq_push {D V : Nat} {e : Int} {op2 ch2 : Nat → Int32} (h : RCQ2 f n op ch d best bs) (sy : ∀ u w : Nat, (u : Int) < n → bt (f u) w = true → (w : Int) < n ∧ bt (f w) u = true ∧ u ≠ w) (hD : d = (D : Int)) (he : e = d + 1) (hV : bt (op D) V = true) (hm : ∀ j, bt (op D) j = true → V ≤ j) (o1 : ∀ k, bt (op2 D) k = true ↔ (bt (op D) k = true ∧ k ≠ V)) (o2 : ∀ k, bt (op2 (D + 1)) k = true ↔ (bt (op2 D) k = true ∧ bt (f V) k = true)) (o3 : ∀ i, i < D → op2 i = op i) (c1 : ∀ k, bt (ch2 (D + 1)) k = true ↔ (bt (ch D) k = true ∨ k = V)) (c2 : cb (ch2 (D + 1)) = D + 1) (c3 : ∀ i, i ≤ D → ch2 i = ch i) : RCQ2 f n op2 ch2 e best bs := by
  obtain ⟨⟨s1, s2⟩, h2, h3⟩ := h
  obtain ⟨t1, t2, t3, t4⟩ := s1 D (by omega)
  obtain ⟨w1, w2, w3⟩ := t4 V hV
  have sub : ∀ i : Nat, (i : Int) ≤ d → ∀ r, bt (op2 i) r = true → bt (op i) r = true := fun i hi r hr => by
    by_cases c : i = D
    · rw [c] at hr ⊢; exact ((o1 r).mp hr).1
    · rw [o3 i (by omega)] at hr; exact hr
  refine ⟨⟨fun i hi => ?_, fun i hi => ?_⟩, h2, fun C hC hn => ?_⟩
  · by_cases c : i = D + 1
    · rw [c]
      refine ⟨fun u w hu hw hne => ?_, fun k hk => ?_, c2, fun r hr => ?_⟩
      · rcases (c1 u).mp hu with a | a <;> rcases (c1 w).mp hw with b | b
        · exact t1 u w a b hne
        · rw [b]; exact w3 u a
        · rw [a]; exact (sy w V (t2 w b) (w3 w b)).2.1
        · omega
      · rcases (c1 k).mp hk with a | a
        · exact t2 k a
        · rw [a]; exact w1
      · obtain ⟨r1, r2⟩ := (o2 r).mp hr
        obtain ⟨r3, r4⟩ := (o1 r).mp r1
        obtain ⟨y1, y2, y3⟩ := t4 r r3
        refine ⟨y1, bf_f (fun z => ?_), fun u hu => ?_⟩
        · rcases (c1 r).mp z with a | a
          · rw [y2] at a; cases a
          · exact r4 a
        · rcases (c1 u).mp hu with a | a
          · exact y3 u a
          · rw [a]; exact r2
    · rw [c3 i (by omega)]
      obtain ⟨x1, x2, x3, x4⟩ := s1 i (by omega)
      exact ⟨x1, x2, x3, fun r hr => x4 r (sub i (by omega) r hr)⟩
  · by_cases c : i = D
    · rw [c]
      refine ⟨V, by rw [c3 D (Nat.le_refl _)]; exact w2, fun r hr => ?_, fun j hj hjd => ?_⟩
      · obtain ⟨r1, r2⟩ := (o1 r).mp hr
        have := hm r r1
        omega
      · have ej : j = D + 1 := by omega
        rw [ej, c3 D (Nat.le_refl _)]
        refine ⟨(c1 V).mpr (Or.inr rfl), fun k hk => (c1 k).mpr (Or.inl hk), fun k hk => ?_, fun r hr => ((o2 r).mp hr).1⟩
        rcases (c1 k).mp hk with a | a
        · exact Or.inl a
        · exact Or.inr (by omega)
    · obtain ⟨v, v1, v2, v3⟩ := s2 i (by omega)
      rw [c3 i (by omega), o3 i (by omega)]
      refine ⟨v, v1, v2, fun j hj hjd => ?_⟩
      by_cases cj : j = D + 1
      · obtain ⟨x1, x2, x3, x4⟩ := v3 D (by omega) (by omega)
        rw [cj]
        refine ⟨(c1 v).mpr (Or.inl x1), fun k hk => (c1 k).mpr (Or.inl (x2 k hk)), fun k hk => ?_, fun r hr => x4 r ((o1 r).mp ((o2 r).mp hr).1).1⟩
        rcases (c1 k).mp hk with a | a
        · exact x3 k a
        · right
          rw [a]
          have := v2 V (x4 V hV)
          omega
      · obtain ⟨x1, x2, x3, x4⟩ := v3 j hj (by omega)
        rw [c3 j (by omega)]
        exact ⟨x1, x2, x3, fun r hr => x4 r (sub j (by omega) r hr)⟩
  · obtain ⟨q1, q2⟩ := h3 C hC hn
    refine ⟨?_, q2⟩
    rcases q1 with ⟨i, i1, i2, i3⟩ | q1
    · left
      by_cases c : i = D
      · rw [c] at i2 i3
        by_cases cv : bt C V = true
        · refine ⟨D + 1, by omega, fun k hk => ?_, fun k hk => ?_⟩
          · rcases (c1 k).mp hk with a | a
            · exact i2 k a
            · rw [a]; exact cv
          · by_cases kv : k = V
            · exact Or.inl ((c1 k).mpr (Or.inr kv))
            · rcases i3 k hk with a | a
              · exact Or.inl ((c1 k).mpr (Or.inl a))
              · exact Or.inr ((o2 k).mpr ⟨(o1 k).mpr ⟨a, kv⟩, hC V k cv hk (fun z => kv z.symm)⟩)
        · refine ⟨D, by omega, fun k hk => by rw [c3 D (Nat.le_refl _)] at hk; exact i2 k hk, fun k hk => ?_⟩
          rw [c3 D (Nat.le_refl _)]
          rcases i3 k hk with a | a
          · exact Or.inl a
          · exact Or.inr ((o1 k).mpr ⟨a, fun z => cv (by rw [← z]; exact hk)⟩)
      · exact ⟨i, by omega, by rw [c3 i (by omega)]; exact i2, by rw [c3 i (by omega), o3 i (by omega)]; exact i3⟩
    · exact Or.inr q1
theorem rcq_0 {d0 : Int} (hd : d0 = 0) (ho : ∀ k : Nat, bt (op 0) k = true ↔ (k : Int) < n) (hc : ch 0 = Int32.ofInt 0) : RCQ2 f n op ch d0 (Int32.ofInt 0) 0 := by
  have z0 : ∀ k, bt (Int32.ofInt 0) k = false := fun k => by rw [show (Int32.ofInt 0) = 0 from rfl]; exact bt_z
  have c0 : cb (Int32.ofInt 0) = 0 := cb_z
  refine ⟨⟨fun i hi => ?_, fun i hi => by omega⟩, ⟨by rw [c0]; rfl, fun u w hu => (by rw [z0 u] at hu; cases hu), fun k hk => by rw [z0 k] at hk; cases hk⟩, fun C hC hn => ⟨Or.inl ⟨0, by omega, fun k hk => (by rw [hc, z0 k] at hk; cases hk), fun k hk => Or.inr ((ho k).mpr (hn k hk))⟩, fun w => ?_⟩⟩
  · rw [show i = 0 by omega, hc]
    exact ⟨fun u w hu => (by rw [z0 u] at hu; cases hu), fun k hk => (by rw [z0 k] at hk; cases hk), c0, fun r hr => ⟨(ho r).mp hr, z0 r, fun u hu => by rw [z0 u] at hu; cases hu⟩⟩
  · left
    refine bt_ext (fun k _ => ?_)
    rw [z0 k]
    refine (bf_f (fun z => ?_)).symm
    have := cb_pos z
    omega
theorem rcq_e (h : RCQ2 f n op ch d best bs) (hd : d < 0) : CLK f n best := by
  obtain ⟨-, ⟨a1, a2, a3⟩, h3⟩ := h
  refine ⟨⟨a2, a3⟩, fun C hC hn => ?_⟩
  obtain ⟨q1, q2⟩ := h3 C hC hn
  refine ⟨?_, fun w => q2 (by omega)⟩
  rcases q1 with ⟨i, i1, -⟩ | q1
  · omega
  · omega
end RCQ
/-! the k-th of a set -/
def KTH (S : Int32) (k z : Int) : Prop := ((cb S : Int) ≤ k ∧ z = -1) ∨ ∃ v : Nat, z = (v : Int) ∧ bt S v = true ∧ (cbf (bt S) v : Int) = k
theorem cbf_hit {f : Nat → Bool} {n : Nat} (h : f n = true) : cbf f (n + 1) = cbf f n + 1 := by
  show cbf f n + (f n).toNat = _
  rw [h]
  rfl
theorem cbf_miss {f : Nat → Bool} {n : Nat} (h : f n = false) : cbf f (n + 1) = cbf f n := by
  show cbf f n + (f n).toNat = _
  rw [h]
  rfl
theorem cbf_ex {f : Nat → Bool} {c : Nat} : ∀ {n : Nat}, c < cbf f n → ∃ k, k < n ∧ f k = true ∧ cbf f k = c
  | 0, h => absurd h (Nat.not_lt_zero c)
  | n + 1, h => by
    cases e : f n with
    | true =>
      rw [cbf_hit e] at h
      by_cases q : c = cbf f n
      · exact ⟨n, by omega, e, q.symm⟩
      · obtain ⟨k, a, b⟩ := cbf_ex (n := n) (show c < cbf f n by omega)
        exact ⟨k, by omega, b⟩
    | false =>
      rw [cbf_miss e] at h
      obtain ⟨k, a, b⟩ := cbf_ex (n := n) h
      exact ⟨k, by omega, b⟩
/-- the class: the lowest goes, i times -/
def KTI (S r : Int32) (i : Int) : Prop := (∀ j : Nat, bt r j = true ↔ (bt S j = true ∧ i ≤ (cbf (bt S) j : Int))) ∧ 0 ≤ i
theorem kti_0 {S : Int32} {i : Int} (h : i = 0) : KTI S S i := ⟨fun j => ⟨fun q => ⟨q, by omega⟩, fun q => q.1⟩, by omega⟩
theorem kti_l {S r k : Int32} {i : Int} (h : KTI S r i) (hb : bt r k.toNatClampNeg = true) (hl : lowB r k.toNatClampNeg) : (cbf (bt S) k.toNatClampNeg : Int) = i := by
  obtain ⟨a, b⟩ := (h.1 _).mp hb
  have h0 := h.2
  refine Classical.byContradiction fun z => ?_
  obtain ⟨j, j1, j2, j3⟩ := cbf_ex (f := bt S) (c := i.toNat) (n := k.toNatClampNeg) (by omega)
  have m := low_min hl (bt_lt hb) ((h.1 j).mpr ⟨j2, by omega⟩)
  omega
theorem kti_s {S r r2 m : Int32} {i j : Int} (h : KTI S r i) (e1 : m = r - Int32.ofInt 1) (e2 : r2 = r &&& m) (hj : j = i + 1) : KTI S r2 j := by
  have h0 := h.2
  refine ⟨fun w => ?_, by omega⟩
  by_cases z : r.toInt = 0
  · constructor
    · intro q
      exact absurd z (bt_nz (bt_and1 e2 q))
    · rintro ⟨a, b⟩
      exact absurd z (bt_nz ((h.1 w).mpr ⟨a, by omega⟩))
  · obtain ⟨k, k1, k2, k3, -⟩ := low32x z
    have k2 : bt r k = true := k2
    have ek : (Int32.ofInt (k : Int)).toNatClampNeg = k := by
      show (Int32.ofInt (k : Int)).toInt.toNat = k
      rw [Int32.toInt_ofInt_of_le (by omega) (by omega)]
      omega
    have c := kti_l (k := Int32.ofInt (k : Int)) h (by rw [ek]; exact k2) (by rw [ek]; exact k3)
    rw [ek] at c
    obtain ⟨sk, -⟩ := (h.1 k).mp k2
    rw [lowB_clr k3 e1 e2, Bool.and_eq_true, h.1 w]
    constructor
    · rintro ⟨⟨a, b⟩, d⟩
      have d : w ≠ k := by simpa using d
      refine ⟨a, ?_⟩
      have gt : k < w := by
        have := low_min k3 k1 ((h.1 w).mpr ⟨a, b⟩)
        omega
      have m := cbf_up (f := bt S) w (k + 1) (by omega)
      rw [cbf_hit sk] at m
      omega
    · rintro ⟨a, b⟩
      refine ⟨⟨a, by omega⟩, ?_⟩
      have : w ≠ k := fun e => by rw [e] at b; omega
      simp [this]
theorem kti_e {S r z : Int32} {i : Int} (h : KTI S r i) (hk : i < (cb S : Int)) (hl : r.toInt ≠ 0 → In z 0 31 ∧ bt r z.toNatClampNeg = true ∧ lowB r z.toNatClampNeg) : KTH S i z.toInt := by
  have h0 := h.2
  obtain ⟨j, j1, j2, j3⟩ := cbf_ex (f := bt S) (c := i.toNat) (n := 32) (by show _ < cb S; omega)
  have nz := bt_nz ((h.1 j).mpr ⟨j2, by omega⟩)
  obtain ⟨a, b, c⟩ := hl nz
  exact Or.inr ⟨z.toNatClampNeg, (clx a.1).symm, ((h.1 _).mp b).1, kti_l h b c⟩
def CLS2 (g : GVW) (n : Int) (k z : Int) : Prop := ∃ (f : Nat → Int32) (S : Int32), (∀ u w : Nat, (u : Int) < n → (bt (f u) w = true ↔ NBR g u w)) ∧ CLK f n S ∧ KTH S k z
/-! the class: what is kept of the clique fits the graph g -/
def CLG (g : GVW) (S : Int32) : Prop := ∃ f : Nat → Int32, (∀ u w : Nat, (u : Int) < g.2.2.2.2.2.2.1 → (bt (f u) w = true ↔ NBR g u w)) ∧ CLK f g.2.2.2.2.2.2.1 S
theorem clg_e {g h : GVW} (q : GEW g h) {S : Int32} (k : CLG g S) : CLG h S := by
  obtain ⟨f, a, b⟩ := k
  have en := q.2.2.2
  rw [en] at b
  refine ⟨f, fun u w hu => ?_, b⟩
  rw [← nbr_e q]
  exact a u w (by rw [en]; exact hu)
def CQB (g : GVW) (s : GS) : Prop := (s.2.2.1 60 0).toInt = g.2.2.2.2.2.2.2 → CLG g (s.2.2.1 60 1)
def CQQ (g : GVW) (s : GS) : Prop := (s.2.2.1 60 0).toInt = g.2.2.2.2.2.2.2 ∧ CLG g (s.2.2.1 60 1)
theorem cqb_cg {g : GVW} {s t : GS} (h : CQB g s) (a : t.2.2.1 60 0 = s.2.2.1 60 0) (b : t.2.2.1 60 1 = s.2.2.1 60 1) : CQB g t := by
  unfold CQB at h ⊢
  rw [a, b]
  exact h
theorem cqq_cg {g : GVW} {s t : GS} (h : CQQ g s) (a : t.2.2.1 60 0 = s.2.2.1 60 0) (b : t.2.2.1 60 1 = s.2.2.1 60 1) : CQQ g t := by
  unfold CQQ at h ⊢
  rw [a, b]
  exact h
/-- what is kept of the clique fits, or is as it was -/
def KPG (g : GVW) (s t : GS) : Prop := CQQ g t ∨ (t.2.2.1 60 0 = s.2.2.1 60 0 ∧ t.2.2.1 60 1 = s.2.2.1 60 1)
theorem cls_c {g : GVW} {S : Int32} {k z : Int} (h : CLG g S) (q : KTH S k z) : CLS2 g g.2.2.2.2.2.2.1 k z := by
  obtain ⟨f, a, b⟩ := h
  exact ⟨f, S, a, b, q⟩
theorem syr_of {g : GVW} {near : Nat → Int32} (h : ∀ u w, FEQ near (Int32.ofInt (-1)) u w ↔ (u ≠ w ∧ PE g 1 u w)) : SYR near := ⟨fun u w hu hw q => (nbr_r h hw rfl u).mpr (nbr_s ((nbr_r h hu rfl w).mp q)), fun u hu => bf_f (fun q => ((nbr_r h hu rfl u).mp q).1 rfl)⟩
theorem grp_0 {f : Nat → Int32} {re : Int32} {d : Int} (hd : d = 0) : GRP f (Int32.ofInt 0) re d := by
  have z0 : ∀ k, bt (Int32.ofInt 0) k = false := fun k => by rw [show (Int32.ofInt 0) = 0 from rfl]; exact bt_z
  have c0 : cb (Int32.ofInt 0) = 0 := cb_z
  exact ⟨fun u w hu => (by rw [z0 u] at hu; cases hu), fun k _ => ⟨z0 k, fun u hu => by rw [z0 u] at hu; cases hu⟩, by rw [c0, hd]; rfl⟩
theorem clg_of {g : GVW} {near : Nat → Int32} {re f0 f1 : Int32} (h : ∀ u w, FEQ near (Int32.ofInt (-1)) u w ↔ (u ≠ w ∧ PE g 1 u w)) (n32 : g.2.2.2.2.2.2.1 ≤ 32) (hr : ∀ k : Nat, bt re k = true ↔ (k : Int) < g.2.2.2.2.2.2.1) (hf : f0 = Int32.ofInt 0) (w : GRW near (Int32.ofInt 0) re f0 f1) : CLG g f1 := by
  rw [hf] at w
  exact ⟨near, fun u v hu => nbr_r h (by omega) rfl v, grw_e w hr⟩
/-! the reference -/
theorem bfr_sy {s : GS} (hI : Inv s) {f : Nat → Int32} (h : BFR (gvZ s) (s.2.2.1 109 20).toInt f) : ∀ u w : Nat, (u : Int) < (s.2.2.1 109 20).toInt → bt (f u) w = true → (w : Int) < (s.2.2.1 109 20).toInt ∧ bt (f w) u = true ∧ u ≠ w := fun u w hu q => by
  have b := (h u w hu).mp q
  have n := (nbr_n (ndq_z hI) b).2
  rw [gvz_n hI] at n
  exact ⟨n, (h w u n).mpr (nbr_s b), b.1⟩
theorem rcq_w {f op ch : Nat → Int32} {n e bs : Int} {best y w w2 x v one nt x2 nb x3 c one2 c2 : Int32} (h : RCQ2 f n op ch y.toInt best bs) (sy : ∀ u w : Nat, (u : Int) < n → bt (f u) w = true → (w : Int) < n ∧ bt (f w) u = true ∧ u ≠ w) (iy : In y 0 31) (hw : w.toInt = y.toInt + 1) (hw2 : w2.toInt = y.toInt + 1) (he : e = y.toInt + 1) (e0 : x = op y.toNatClampNeg) (hb : bt x v.toNatClampNeg = true) (hm : ∀ j : Nat, bt x j = true → v.toNatClampNeg ≤ j) (iv : In v 0 31) (e1 : one = Int32.ofInt 1 <<< (v &&& 31)) (e2 : nt = one ^^^ Int32.ofInt (-1)) (e3 : x2 = x &&& nt) (e4 : nb = f v.toNatClampNeg) (e5 : x3 = x2 &&& nb) (e6 : c = ch y.toNatClampNeg) (e7 : one2 = Int32.ofInt 1 <<< (v &&& 31)) (e8 : c2 = c ||| one2) : RCQ2 f n (upd (upd op y.toNatClampNeg x2) w.toNatClampNeg x3) (upd ch w2.toNatClampNeg c2) e best bs := by
  have y0 := iy.1
  have dw : w.toNatClampNeg = y.toNatClampNeg + 1 := by
    show w.toInt.toNat = y.toInt.toNat + 1
    omega
  have dw2 : w2.toNatClampNeg = y.toNatClampNeg + 1 := by
    show w2.toInt.toNat = y.toInt.toNat + 1
    omega
  rw [dw, dw2]
  have hD := (clx y0).symm
  obtain ⟨t1, t2, t3, t4⟩ := h.1.1 y.toNatClampNeg (by omega)
  rw [e0] at hb hm
  have vc : bt c v.toNatClampNeg = false := by rw [e6]; exact (t4 _ hb).2.1
  have oD : upd (upd op y.toNatClampNeg x2) (y.toNatClampNeg + 1) x3 y.toNatClampNeg = x2 := by rw [up_n (by omega), up_e]
  have b2 : ∀ k, bt x2 k = true ↔ (bt (op y.toNatClampNeg) k = true ∧ k ≠ v.toNatClampNeg) := fun k => by
    by_cases hk : k < 32
    · rw [bt_clr e1 e2 e3 iv hk, Bool.and_eq_true, e0]
      simp
    · exact ⟨fun z => absurd (bt_lt z) hk, fun z => absurd (bt_lt z.1) hk⟩
  refine rcq_push (D := y.toNatClampNeg) (V := v.toNatClampNeg) h sy hD he hb hm (fun k => ?_) (fun k => ?_) (fun i hi => ?_) (fun k => ?_) ?_ (fun i hi => ?_)
  · rw [oD]; exact b2 k
  · rw [oD, up_e, bt_and e5, Bool.and_eq_true, e4]
  · rw [up_n (by omega), up_n (by omega)]
  · rw [up_e, bt_set e7 e8 iv, Bool.or_eq_true, decide_eq_true_iff, e6]
  · rw [up_e]
    have c := cb_set e7 e8 iv vc
    rw [e6, t3] at c
    omega
  · rw [up_n (by omega)]
end
section
/-! COLOURS OF THE CLASS: FILLING -/
theorem clw_j {E : Nat → Nat → Prop} {P : Nat → Prop} (h : ∀ x y, E x y → P x → P y) : ∀ (j x y : Nat), wkq E j x y → P x → P y
  | 0, x, y, q, hx => by
    have e : x = y := q
    rw [← e]
    exact hx
  | j + 1, x, y, q, hx => by
    obtain ⟨z, hz, hq⟩ := q
    exact clw_j h j z y hq (h x z hz hx)
theorem clw_in {E : Nat → Nat → Prop} {P : Nat → Prop} (h : ∀ x y, E x y → P x → P y) {x y : Nat} (q : wlq E x y) (hx : P x) : P y := by
  obtain ⟨j, hj⟩ := q
  exact clw_j h j x y hj hx
theorem bt_xs {a : Int32} (h : a.toInt ≠ 0) : ∃ v, bt a v = true := Classical.byContradiction fun z => h (by
  have e : a = Int32.ofInt 0 := bt_ext (fun k _ => by
    cases q : bt a k with
    | true => exact absurd ⟨k, q⟩ z
    | false => exact (show bt (Int32.ofInt 0) k = false from bt_z).symm)
  rw [e]
  rfl)
/-- what a flood is -/
theorem fld_cl {f : Nat → Int32} {seed al z : Int32} (h : FLD f seed al z) {u w : Nat} (hu : bt z u = true) (hw : bt (f u) w = true) (ha : bt al w = true) : bt z w = true := by
  obtain ⟨x, x1, x2⟩ := (h u).mp hu
  exact (h w).mpr ⟨x, x1, wl_tr x2 (wl_1 ⟨bt_lt hu, hw, ha⟩)⟩
theorem fld_sb {f : Nat → Int32} {seed al z : Int32} (h : FLD f seed al z) {u : Nat} (hu : bt z u = true) : bt seed u = true ∨ bt al u = true := by
  obtain ⟨x, x1, x2⟩ := (h u).mp hu
  exact clw_in (P := fun y => bt seed y = true ∨ bt al y = true) (fun a b q _ => Or.inr q.2.2) x2 (Or.inl x1)
theorem fld_sd {f : Nat → Int32} {seed al z : Int32} (h : FLD f seed al z) {u : Nat} (hu : bt seed u = true) : bt z u = true := (h u).mpr ⟨u, hu, wl_0⟩
/-- the colour of a node by classes: -1 for none -/
def cgf (cl : Nat → Int32) (u : Nat) : Nat → Int
  | 0 => -1
  | n + 1 => if bt (cl n) u = true then (n : Int) else cgf cl u n
def sgc (cl : Nat → Int32) (u : Nat) : Int := cgf cl u 32
theorem cgf_y {cl : Nat → Int32} {u n : Nat} (h : bt (cl n) u = true) : cgf cl u (n + 1) = (n : Int) := by
  show (if bt (cl n) u = true then (n : Int) else cgf cl u n) = _
  rw [if_pos h]
theorem cgf_x {cl : Nat → Int32} {u n : Nat} (h : ¬ bt (cl n) u = true) : cgf cl u (n + 1) = cgf cl u n := by
  show (if bt (cl n) u = true then (n : Int) else cgf cl u n) = _
  rw [if_neg h]
theorem cgf_no {cl : Nat → Int32} {u : Nat} : ∀ n : Nat, (∀ c, c < n → bt (cl c) u = false) → cgf cl u n = -1
  | 0, _ => rfl
  | n + 1, h => by
    rw [cgf_x (by rw [h n (by omega)]; decide)]
    exact cgf_no n (fun c hc => h c (by omega))
theorem cgf_c {cl : Nat → Int32} {u : Nat} : ∀ n : Nat, 0 ≤ cgf cl u n → ∃ c : Nat, c < n ∧ cgf cl u n = (c : Int) ∧ bt (cl c) u = true
  | 0, h => by
    have q : (0 : Int) ≤ -1 := h
    omega
  | n + 1, h => by
    by_cases c : bt (cl n) u = true
    · exact ⟨n, by omega, cgf_y c, c⟩
    · rw [cgf_x c] at h ⊢
      obtain ⟨d, d1, d2, d3⟩ := cgf_c n h
      exact ⟨d, by omega, d2, d3⟩
theorem cgf_lt {cl : Nat → Int32} {u : Nat} : ∀ n : Nat, cgf cl u n < 0 → ∀ c, c < n → bt (cl c) u = false
  | 0, _, c, hc => by omega
  | n + 1, h, c, hc => by
    by_cases q : bt (cl n) u = true
    · rw [cgf_y q] at h
      omega
    · rw [cgf_x q] at h
      by_cases k : c = n
      · rw [k]; exact bf_f q
      · exact cgf_lt n h c (by omega)
theorem sgc_o {cl : Nat → Int32} {u : Nat} (h : 0 ≤ sgc cl u) : ∃ c : Nat, c < 32 ∧ sgc cl u = (c : Int) ∧ bt (cl c) u = true := cgf_c 32 h
theorem sgc_n {cl : Nat → Int32} {u : Nat} (h : ∀ c, c < 32 → bt (cl c) u = false) : sgc cl u = -1 := cgf_no 32 h
theorem sgc_at {cl : Nat → Int32} {u c : Nat} (h : sgc cl u = (c : Int)) : bt (cl c) u = true := by
  obtain ⟨d, d1, d2, d3⟩ := sgc_o (cl := cl) (u := u) (by omega)
  rw [show c = d by omega]
  exact d3
/-- classes: no node in two, none at or above the limit, no two neighbours in one -/
def CPV (f : Nat → Int32) (k : Int) (cl : Nat → Int32) : Prop := (∀ c d u : Nat, c < 32 → d < 32 → bt (cl c) u = true → bt (cl d) u = true → c = d) ∧ (∀ c u : Nat, c < 32 → bt (cl c) u = true → (c : Int) < k) ∧ ∀ c u w : Nat, c < 32 → bt (cl c) u = true → bt (cl c) w = true → bt (f u) w = false
def UNm (cl : Nat → Int32) (m : Int32) : Prop := ∀ u : Nat, bt m u = true → ∀ c : Nat, c < 32 → bt (cl c) u = false
def CLm (cl : Nat → Int32) (m : Int32) : Prop := ∀ u : Nat, bt m u = true → ∃ c : Nat, c < 32 ∧ bt (cl c) u = true
def OUTm (m : Int32) (cl cl2 : Nat → Int32) : Prop := ∀ u : Nat, bt m u = false → ∀ c : Nat, c < 32 → bt (cl2 c) u = bt (cl c) u
def CEQL (cl cl2 : Nat → Int32) : Prop := ∀ c : Nat, c < 32 → cl2 c = cl c
def adn (f : Nat → Int32) (a b : Nat) : Prop := bt (f a) b = true
def SOm (f : Nat → Int32) (k : Int) (cl : Nat → Int32) (m : Int32) (χ : Nat → Int) : Prop := Sol (adn f) (sgc cl) k (fun u => bt m u = true) χ
/-- what fill and fillPiece answer -/
def FRE (f : Nat → Int32) (k : Int) (m : Int32) (cl cl2 : Nat → Int32) (r : Int) : Prop := (r ≠ 0 → CPV f k cl2 ∧ OUTm m cl cl2 ∧ CLm cl2 m) ∧ (r = 0 → CEQL cl cl2 ∧ ∀ χ, ¬ SOm f k cl m χ)
section CLA
variable {f : Nat → Int32} {k : Int} {cl cl2 : Nat → Int32} {m : Int32}
theorem sgc_i (h : CPV f k cl) {c u : Nat} (hc : c < 32) (hb : bt (cl c) u = true) : sgc cl u = (c : Int) := by
  have p : 0 ≤ cgf cl u 32 := by
    refine Classical.byContradiction fun z => ?_
    have q := cgf_lt (cl := cl) (u := u) 32 (by omega) c hc
    rw [hb] at q
    cases q
  obtain ⟨d, d1, d2, d3⟩ := cgf_c 32 p
  have e := h.1 c d u hc d1 hb d3
  show cgf cl u 32 = _
  rw [d2, e]
theorem sgc_cg {u : Nat} (h : ∀ c, c < 32 → bt (cl2 c) u = bt (cl c) u) : sgc cl2 u = sgc cl u := by
  have key : ∀ n, n ≤ 32 → cgf cl2 u n = cgf cl u n := by
    intro n
    induction n with
    | zero => intro _; rfl
    | succ n ih =>
      intro hn
      by_cases c : bt (cl n) u = true
      · rw [cgf_y c, cgf_y (by rw [h n (by omega)]; exact c)]
      · rw [cgf_x c, cgf_x (by rw [h n (by omega)]; exact c)]
        exact ih (by omega)
  exact key 32 (Nat.le_refl _)
theorem cpv_cg (e : CEQL cl cl2) (h : CPV f k cl) : CPV f k cl2 := by
  refine ⟨fun c d u hc hd a b => ?_, fun c u hc a => ?_, fun c u w hc a b => ?_⟩
  · rw [e c hc] at a
    rw [e d hd] at b
    exact h.1 c d u hc hd a b
  · rw [e c hc] at a
    exact h.2.1 c u hc a
  · rw [e c hc] at a b
    exact h.2.2 c u w hc a b
theorem unm_cg (e : CEQL cl cl2) (h : UNm cl m) : UNm cl2 m := fun u hu c hc => by rw [e c hc]; exact h u hu c hc
theorem cle_r : CEQL cl cl := fun _ _ => rfl
theorem cle_t {cl3 : Nat → Int32} (h : CEQL cl cl2) (h2 : CEQL cl2 cl3) : CEQL cl cl3 := fun c hc => (h2 c hc).trans (h c hc)
theorem sol_fr {adj : Nat → Nat → Prop} {σ : Nat → Int} {K b c : Int} {P : Nat → Prop} {χ : Nat → Int} (h : Sol adj σ K P χ) (hb : 0 ≤ b ∧ b < K) (hc : 0 ≤ c ∧ c < K) (hf : ∀ v, P v → ∀ u, adj v u → 0 ≤ σ u → σ u ≠ b ∧ σ u ≠ c) : Sol adj σ K P (fun x => swq b c (χ x)) := by
  refine ⟨fun v hv => ?_, fun v hv u hu => ⟨fun hT e => (h.2 v hv u hu).1 hT (swq_i e), fun hs e => ?_⟩⟩
  · have q := h.1 v hv
    show 0 ≤ swq b c (χ v) ∧ swq b c (χ v) < K
    unfold swq
    split
    · exact hc
    · split
      · exact hb
      · exact q
  · have q := hf v hv u hu hs
    have r := (h.2 v hv u hu).2 hs
    have e2 : swq b c (χ v) = σ u := e
    unfold swq at e2
    split at e2
    · exact q.2 e2.symm
    · split at e2
      · exact q.1 e2.symm
      · exact r e2
/-! fillPiece -/
def FPI (f : Nat → Int32) (k : Int) (cl : Nat → Int32) (P : Int32) (v : Nat) (bs : Int32) (c tr : Int) : Prop := (∀ χ, SOm f k cl P χ → c ≤ χ v) ∧ (tr ≠ 0 → ∃ c0 : Nat, (c0 : Int) < c ∧ c0 < 32 ∧ ∀ u : Nat, bt (cl c0) u = true → bt bs u = false)
variable {P Q bs : Int32} {v : Nat} {c : Nat} {tr : Int}
theorem fpi_0 (hv : bt P v = true) : FPI f k cl P v bs 0 0 := ⟨fun χ h => (h.1 v hv).1, fun z => absurd rfl z⟩
theorem fpi_b (h : FPI f k cl P v bs (c : Int) tr) (hV : CPV f k cl) (hv : bt P v = true) (hc : c < 32) (hne : ∃ u, bt (cl c) u = true ∧ bt (f v) u = true) : FPI f k cl P v bs ((c : Int) + 1) tr := by
  refine ⟨fun χ hχ => ?_, fun t => ?_⟩
  · have a := h.1 χ hχ
    obtain ⟨u, u1, u2⟩ := hne
    have e := sgc_i hV hc u1
    have q := (hχ.2 v hv u u2).2 (by rw [e]; omega)
    rw [e] at q
    omega
  · obtain ⟨c0, a, b⟩ := h.2 t
    exact ⟨c0, by omega, b⟩
theorem fpi_f (h : FPI f k cl P v bs (c : Int) tr) (hV : CPV f k cl) (hv : bt P v = true) (hck : (c : Int) < k) (ht : tr ≠ 0) (hfr : ∀ u, bt (cl c) u = true → bt bs u = false) (hbs : ∀ w, bt P w = true → ∀ u, bt (f w) u = true → bt bs u = true) : FPI f k cl P v bs ((c : Int) + 1) tr := by
  obtain ⟨c0, a0, b0, d0⟩ := h.2 ht
  refine ⟨fun χ hχ => ?_, fun t => ⟨c0, by omega, b0, d0⟩⟩
  have a := h.1 χ hχ
  refine Classical.byContradiction fun z => ?_
  have e : χ v = (c : Int) := by omega
  have s := sol_fr (b := (c0 : Int)) (c := (c : Int)) hχ ⟨by omega, by omega⟩ ⟨by omega, hck⟩ (fun w hw u hu hs => by
    have hb := hbs w hw u hu
    refine ⟨fun q => ?_, fun q => ?_⟩
    · rw [d0 u (sgc_at q)] at hb; cases hb
    · rw [hfr u (sgc_at q)] at hb; cases hb)
  have r : (c : Int) ≤ swq (c0 : Int) (c : Int) (χ v) := h.1 _ s
  rw [e] at r
  unfold swq at r
  rw [if_neg (by omega), if_pos rfl] at r
  omega
/-- a node put into a class -/
def PUTc (cl cl2 : Nat → Int32) (c v : Nat) : Prop := ∀ d u : Nat, d < 32 → (bt (cl2 d) u = true ↔ (bt (cl d) u = true ∨ (d = c ∧ u = v)))
theorem cpv_put (h : CPV f k cl) (p : PUTc cl cl2 c v) (hs : SYR f) (hv : v < 32) (hu : ∀ d, d < 32 → bt (cl d) v = false) (hn : ∀ u, bt (cl c) u = true → bt (f v) u = false) (hk : (c : Int) < k) : CPV f k cl2 := by
  have no : ∀ d u, d < 32 → bt (cl d) u = true → u = v → False := fun d u hd a e => by
    rw [e, hu d hd] at a
    cases a
  refine ⟨fun a b u ha hb h3 h4 => ?_, fun a u ha h3 => ?_, fun a u w ha h3 h4 => ?_⟩
  · rcases (p a u ha).mp h3 with x | ⟨x1, x2⟩ <;> rcases (p b u hb).mp h4 with y | ⟨y1, y2⟩
    · exact h.1 a b u ha hb x y
    · exact (no a u ha x y2).elim
    · exact (no b u hb y x2).elim
    · rw [x1, y1]
  · rcases (p a u ha).mp h3 with x | ⟨x1, x2⟩
    · exact h.2.1 a u ha x
    · rw [x1]; exact hk
  · rcases (p a u ha).mp h3 with x | ⟨x1, x2⟩ <;> rcases (p a w ha).mp h4 with y | ⟨y1, y2⟩
    · exact h.2.2 a u w ha x y
    · rw [y1] at x
      rw [y2]
      have q := hn u x
      refine bf_f (fun z => ?_)
      rw [hs.1 u v (bt_lt x) hv z] at q
      cases q
    · rw [x1] at y
      rw [x2]
      exact hn w y
    · rw [x2, y2]
      exact hs.2 v hv
theorem unm_put (h : UNm cl P) (p : PUTc cl cl2 c v) (hQ : ∀ u, bt Q u = true ↔ (bt P u = true ∧ u ≠ v)) : UNm cl2 Q := fun u hu d hd => by
  obtain ⟨a, b⟩ := (hQ u).mp hu
  refine bf_f (fun z => ?_)
  rcases (p d u hd).mp z with x | ⟨-, x⟩
  · rw [h u a d hd] at x; cases x
  · exact b x
theorem fpi_t (h : FPI f k cl P v bs (c : Int) tr) (hV2 : CPV f k cl2) (hV : CPV f k cl) (p : PUTc cl cl2 c v) (hc : c < 32) (hv : bt P v = true) (hQ : ∀ u, bt Q u = true ↔ (bt P u = true ∧ u ≠ v)) (hno : ∀ χ, ¬ SOm f k cl2 Q χ) {tr2 : Int} (ht : tr2 ≠ 0 → tr ≠ 0 ∨ ∀ u, bt (cl c) u = true → bt bs u = false) : FPI f k cl P v bs ((c : Int) + 1) tr2 := by
  refine ⟨fun χ hχ => ?_, fun t => ?_⟩
  · have a := h.1 χ hχ
    refine Classical.byContradiction fun z => hno χ ?_
    have e : χ v = (c : Int) := by omega
    refine ⟨fun w hw => hχ.1 w ((hQ w).mp hw).1, fun w hw u hu => ⟨fun hT => (hχ.2 w ((hQ w).mp hw).1 u hu).1 ((hQ u).mp hT).1, fun hs => ?_⟩⟩
    obtain ⟨d, d1, d2, d3⟩ := sgc_o hs
    rcases (p d u d1).mp d3 with x | ⟨x1, x2⟩
    · have q := sgc_i hV d1 x
      have r := (hχ.2 w ((hQ w).mp hw).1 u hu).2 (by rw [q]; omega)
      rw [d2, ← q]
      exact r
    · rw [x2] at hu
      have r := (hχ.2 w ((hQ w).mp hw).1 v hu).1 hv
      rw [d2, x1, ← e]
      exact fun y => r y.symm
  · rcases ht t with q | q
    · obtain ⟨c0, a, b⟩ := h.2 q
      exact ⟨c0, by omega, b⟩
    · exact ⟨c, by omega, hc, q⟩
theorem fre_y {cl3 : Nat → Int32} {r r2 : Int} (h : FRE f k Q cl2 cl3 r) (hr : r ≠ 0) (p : PUTc cl cl2 c v) (hc : c < 32) (hv : bt P v = true) (hQ : ∀ u, bt Q u = true ↔ (bt P u = true ∧ u ≠ v)) (hr2 : r2 ≠ 0) : FRE f k P cl cl3 r2 := by
  obtain ⟨h1, h2, h3⟩ := h.1 hr
  refine ⟨fun _ => ⟨h1, fun u hu d hd => ?_, fun u hu => ?_⟩, fun z => absurd z hr2⟩
  · have uQ : bt Q u = false := bf_f (fun z => by rw [((hQ u).mp z).1] at hu; cases hu)
    rw [h2 u uQ d hd]
    refine Bool.eq_iff_iff.mpr ⟨fun z => ?_, fun z => (p d u hd).mpr (Or.inl z)⟩
    rcases (p d u hd).mp z with x | ⟨-, x⟩
    · exact x
    · rw [x, hv] at hu; cases hu
  · by_cases e : u = v
    · refine ⟨c, hc, ?_⟩
      have vQ : bt Q u = false := bf_f (fun z => ((hQ u).mp z).2 e)
      rw [h2 u vQ c hc]
      exact (p c u hc).mpr (Or.inr ⟨rfl, e⟩)
    · exact h3 u ((hQ u).mpr ⟨hu, e⟩)
theorem fre_n (h : FPI f k cl P v bs (c : Int) tr) (hv : bt P v = true) (hck : k ≤ (c : Int)) (e : CEQL cl cl2) {r : Int} (hr : r = 0) : FRE f k P cl cl2 r := by
  refine ⟨fun z => absurd hr z, fun _ => ⟨e, fun χ hχ => ?_⟩⟩
  have a := h.1 χ hχ
  have b := (hχ.1 v hv).2
  omega
/-! setAside, takeBack -/
noncomputable def fcb (cl : Nat → Int32) (x : Int32) (c : Nat) : Bool := dq (∀ u, bt (cl c) u = true → bt x u = false)
noncomputable def frc (k : Int) (cl : Nat → Int32) (x : Int32) : Nat := cbf (fcb cl x) k.toNat
/-- nodes set aside, one by one -/
def PLJ (f : Nat → Int32) (k : Int) (cl a : Nat → Int32) (b : Nat) (m : Int32) : Nat → Int32 → Prop
  | 0, r => r = m
  | n + 1, r => ∃ r0 : Int32, PLJ f k cl a b m n r0 ∧ In (a (b + n)) 0 31 ∧ bt r0 (a (b + n)).toNatClampNeg = true ∧ (∀ u, bt r u = true ↔ (bt r0 u = true ∧ u ≠ (a (b + n)).toNatClampNeg)) ∧ cb (f (a (b + n)).toNatClampNeg &&& r0) < frc k cl (f (a (b + n)).toNatClampNeg)
variable {a a2 : Nat → Int32} {b n : Nat} {r : Int32} {cl0 : Nat → Int32}
theorem plj_sub : ∀ {n : Nat} {r : Int32}, PLJ f k cl a b m n r → ∀ u, bt r u = true → bt m u = true
  | 0, r, h, u, hu => by
    have e : r = m := h
    rw [← e]; exact hu
  | n + 1, r, h, u, hu => by
    obtain ⟨r0, h1, -, -, h4, -⟩ := h
    exact plj_sub h1 u ((h4 u).mp hu).1
theorem cb_less {x y : Int32} {w : Nat} (hx : bt x w = true) (h : ∀ u, bt y u = true ↔ (bt x u = true ∧ u ≠ w)) : cb y + 1 = cb x :=
  cbf_clr (f := bt x) (g := bt y) (u := w) hx (bf_f (fun z => ((h w).mp z).2 rfl)) (n := 32) (bt_lt hx) (fun j _ hj => Bool.eq_iff_iff.mpr ⟨fun z => ((h j).mp z).1, fun z => (h j).mpr ⟨z, hj⟩⟩)
theorem plj_cb : ∀ {n : Nat} {r : Int32}, PLJ f k cl a b m n r → cb r + n = cb m
  | 0, r, h => by
    have e : r = m := h
    rw [e]; rfl
  | n + 1, r, h => by
    obtain ⟨r0, h1, -, h3, h4, -⟩ := h
    have q := plj_cb h1
    have p := cb_less h3 h4
    omega
theorem plj_cg : ∀ {n : Nat} {r : Int32}, (∀ i, b ≤ i → i < b + n → a2 i = a i) → PLJ f k cl a b m n r → PLJ f k cl a2 b m n r
  | 0, _, _, h => h
  | n + 1, r, e, h => by
    obtain ⟨r0, h1, h2, h3, h4, h5⟩ := h
    have q := e (b + n) (by omega) (by omega)
    refine ⟨r0, plj_cg (fun i hi hl => e i hi (by omega)) h1, ?_⟩
    rw [q]
    exact ⟨h2, h3, h4, h5⟩
theorem plj_s {z z1 z2 w : Int32} (h : PLJ f k cl a b m n r) (hb : bt r w.toNatClampNeg = true) (iw : In w 0 31) (e1 : z1 = Int32.ofInt 1 <<< (w &&& 31)) (e2 : z2 = z1 ^^^ Int32.ofInt (-1)) (e : z = r &&& z2) (hc : cb (f w.toNatClampNeg &&& r) < frc k cl (f w.toNatClampNeg)) {i : Nat} (hi : i = b + n) : PLJ f k cl (upd a i w) b m (n + 1) z := by
  refine ⟨r, plj_cg (fun j _ hj => up_n (by omega)) h, ?_⟩
  rw [hi, up_e]
  refine ⟨iw, hb, fun u => ?_, hc⟩
  by_cases hu : u < 32
  · rw [bt_clr e1 e2 e iw hu]
    simp
  · exact ⟨fun z => absurd (bt_lt z) hu, fun z => absurd (bt_lt z.1) hu⟩
theorem fre_ex {g : Nat → Bool} {S : Int32} {χ : Nat → Int} {K : Nat} (h : cb S < cbf g K) : ∃ c : Nat, c < K ∧ g c = true ∧ ∀ u, bt S u = true → χ u ≠ (c : Int) := by
  apply Classical.byContradiction
  intro hn
  have all : ∀ c, c < K → g c = true → ∃ u, u < 32 ∧ bt S u = true ∧ χ u = (c : Int) := by
    intro c hc hg
    apply Classical.byContradiction
    intro q
    exact hn ⟨c, hc, hg, fun u hu e => q ⟨u, bt_lt hu, hu, e⟩⟩
  have step : ∀ j, cbf (fun c => dq (∃ u, u < j ∧ bt S u = true ∧ χ u = (c : Int))) K ≤ cbf (bt S) j := by
    intro j
    induction j with
    | zero =>
      rw [cbf_0 (f := fun c => dq (∃ u, u < 0 ∧ bt S u = true ∧ χ u = (c : Int))) (n := K) (fun c _ => bf_f (fun hq => by
        obtain ⟨u, hu, -⟩ := dq_p hq
        omega))]
      exact Nat.zero_le _
    | succ j ih =>
      show _ ≤ cbf (bt S) j + (bt S j).toNat
      by_cases c : bt S j = true
      · have q := cbf_add (f := fun c => dq (∃ u, u < j ∧ bt S u = true ∧ χ u = (c : Int))) (g := fun c => dq (∃ u, u < j + 1 ∧ bt S u = true ∧ χ u = (c : Int))) (d := (χ j).toNat) K (fun c _ hq => by
          obtain ⟨u, hu, q1, q2⟩ := dq_p hq
          by_cases e : u = j
          · rw [e] at q2
            exact Or.inr (by omega)
          · exact Or.inl (dq_t ⟨u, by omega, q1, q2⟩))
        rw [c]
        show _ ≤ cbf (bt S) j + 1
        have l : (if (χ j).toNat < K then 1 else 0) ≤ 1 := by split <;> omega
        omega
      · have q := cbf_mono (f := fun c => dq (∃ u, u < j + 1 ∧ bt S u = true ∧ χ u = (c : Int))) (g := fun c => dq (∃ u, u < j ∧ bt S u = true ∧ χ u = (c : Int))) (n := K) (fun c' _ hq => by
          obtain ⟨u, hu, q1, q2⟩ := dq_p hq
          by_cases e : u = j
          · rw [e] at q1; exact absurd q1 c
          · exact dq_t ⟨u, by omega, q1, q2⟩)
        omega
  have l := cbf_mono (f := g) (g := fun c => dq (∃ u, u < 32 ∧ bt S u = true ∧ χ u = (c : Int))) (n := K) (fun c hc hg => dq_t (all c hc hg))
  have s := step 32
  have e : cb S = cbf (bt S) 32 := rfl
  omega
/-- the way back: n nodes are still aside -/
def TBP (f : Nat → Int32) (k : Int) (cl0 cl a : Nat → Int32) (b : Nat) (m : Int32) (n : Nat) : Prop := ∃ r : Int32, PLJ f k cl0 a b m n r ∧ CPV f k cl ∧ OUTm m cl0 cl ∧ CLm cl r ∧ ∀ u, bt m u = true → bt r u = false → ∀ c, c < 32 → bt (cl c) u = false
theorem tbp_f (h : TBP f k cl0 cl a b m (n + 1)) (hk : k ≤ 32) : ∃ c : Nat, (c : Int) < k ∧ c < 32 ∧ ∀ u, bt (cl c) u = true → bt (f (a (b + n)).toNatClampNeg) u = false := by
  obtain ⟨r, ⟨r0, p1, p2, p3, p4, p5⟩, h2, h3, h4, h5⟩ := h
  obtain ⟨c, c1, c2, c3⟩ := fre_ex (χ := sgc cl) p5
  have ck : (c : Int) < k := by omega
  refine ⟨c, ck, by omega, fun u hu => bf_f (fun z => ?_)⟩
  have c32 : c < 32 := by omega
  cases e : bt m u with
  | false =>
    rw [h3 u e c c32] at hu
    have q := dq_p c2 u hu
    rw [z] at q
    cases q
  | true =>
    have ur : bt r u = true := by
      cases er : bt r u with
      | true => rfl
      | false =>
        rw [h5 u e er c c32] at hu
        cases hu
    exact c3 u (by rw [bt_and rfl, z, ((p4 u).mp ur).1]; rfl) (sgc_i h2 c32 hu)
theorem tbp_s (h : TBP f k cl0 cl a b m (n + 1)) (hs : SYR f) (p : PUTc cl cl2 c (a (b + n)).toNatClampNeg) (hc : c < 32) (hk : (c : Int) < k) (hn : ∀ u, bt (cl c) u = true → bt (f (a (b + n)).toNatClampNeg) u = false) : TBP f k cl0 cl2 a b m n := by
  obtain ⟨r, ⟨r0, p1, p2, p3, p4, p5⟩, h2, h3, h4, h5⟩ := h
  have vr : bt r (a (b + n)).toNatClampNeg = false := bf_f (fun z => ((p4 _).mp z).2 rfl)
  have vm := plj_sub p1 _ p3
  refine ⟨r0, p1, cpv_put h2 p hs (bt_lt p3) (h5 _ vm vr) hn hk, fun u hu d hd => ?_, fun u hu => ?_, fun u hu hr d hd => ?_⟩
  · rw [← h3 u hu d hd]
    refine Bool.eq_iff_iff.mpr ⟨fun z => ?_, fun z => (p d u hd).mpr (Or.inl z)⟩
    rcases (p d u hd).mp z with x | ⟨-, x⟩
    · exact x
    · rw [x, vm] at hu; cases hu
  · by_cases e : u = (a (b + n)).toNatClampNeg
    · exact ⟨c, hc, (p c u hc).mpr (Or.inr ⟨rfl, e⟩)⟩
    · obtain ⟨d, d1, d2⟩ := h4 u ((p4 u).mpr ⟨hu, e⟩)
      exact ⟨d, d1, (p d u d1).mpr (Or.inl d2)⟩
  · refine bf_f (fun z => ?_)
    rcases (p d u hd).mp z with x | ⟨-, x⟩
    · rw [h5 u hu (bf_f (fun y => by rw [((p4 u).mp y).1] at hr; cases hr)) d hd] at x
      cases x
    · rw [x, p3] at hr; cases hr
theorem tbp_e (h : TBP f k cl0 cl a b m 0) : CPV f k cl ∧ OUTm m cl0 cl ∧ CLm cl m := by
  obtain ⟨r, h1, h2, h3, h4, -⟩ := h
  have e : r = m := h1
  rw [e] at h4
  exact ⟨h2, h3, h4⟩
/-! fill -/
def FLJ (f : Nat → Int32) (k : Int) (cl0 cl a : Nat → Int32) (b : Nat) (m : Int32) (n : Nat) (rest : Int32) : Prop := ∃ r : Int32, PLJ f k cl0 a b m n r ∧ CPV f k cl ∧ OUTm m cl0 cl ∧ (∀ u, bt rest u = true → bt r u = true) ∧ (∀ u, bt r u = true → bt rest u = false → (∃ c, c < 32 ∧ bt (cl c) u = true) ∧ ∀ w, bt rest w = true → bt (f w) u = false) ∧ ∀ u, bt m u = true → (bt r u = false ∨ bt rest u = true) → ∀ c, c < 32 → bt (cl c) u = false
variable {rest seed piece z1 z : Int32}
theorem flj_0 (h : PLJ f k cl0 a b m n rest) (hV : CPV f k cl0) (hU : UNm cl0 m) (e : CEQL cl0 cl) : FLJ f k cl0 cl a b m n rest :=
  ⟨rest, h, cpv_cg e hV, fun u _ c hc => by rw [e c hc], fun _ q => q, fun u p q => (by rw [p] at q; cases q), fun u hu _ c hc => by rw [e c hc]; exact hU u hu c hc⟩
theorem flj_c (h : FLJ f k cl0 cl a b m n rest) : cb rest + n ≤ cb m := by
  obtain ⟨r, h1, -, -, h4, -⟩ := h
  have q := plj_cb h1
  have p := cb_sub h4
  omega
theorem flj_u (h : FLJ f k cl0 cl a b m n rest) (hp : ∀ u, bt piece u = true → bt rest u = true) : UNm cl piece := by
  obtain ⟨r, h1, h2, h3, h4, h5, h6⟩ := h
  exact fun u hu => h6 u (plj_sub h1 u (h4 u (hp u hu))) (Or.inr (hp u hu))
theorem flj_v (h : FLJ f k cl0 cl a b m n rest) : CPV f k cl := by
  obtain ⟨r, h1, h2, -⟩ := h
  exact h2
theorem flj_s (h : FLJ f k cl0 cl a b m n rest) (hs : SYR f) (hF : FLD f seed rest piece) (hp : ∀ u, bt piece u = true → bt rest u = true) {i : Int} (hR : FRE f k piece cl cl2 i) (hi : i ≠ 0) (e1 : z1 = piece ^^^ Int32.ofInt (-1)) (e : z = rest &&& z1) (ha : ∀ j, b ≤ j → j < b + n → a2 j = a j) : FLJ f k cl0 cl2 a2 b m n z := by
  obtain ⟨r, h1, h2, h3, h4, h5, h6⟩ := h
  obtain ⟨q1, q2, q3⟩ := hR.1 hi
  have bz : ∀ w, bt z w = true ↔ (bt rest w = true ∧ bt piece w = false) := fun w => by
    by_cases hw : w < 32
    · rw [bt_and e, bt_not e1 hw, Bool.and_eq_true]
      cases bt piece w <;> simp
    · exact ⟨fun y => absurd (bt_lt y) hw, fun y => absurd (bt_lt y.1) hw⟩
  refine ⟨r, plj_cg ha h1, q1, fun u hu c hc => ?_, fun u hu => h4 u ((bz u).mp hu).1, fun u hu hz => ?_, fun u hu hz c hc => ?_⟩
  · rw [q2 u (bf_f (fun y => by rw [plj_sub h1 u (h4 u (hp u y))] at hu; cases hu)) c hc]
    exact h3 u hu c hc
  · cases ep : bt piece u with
    | true =>
      refine ⟨q3 u ep, fun w hw => bf_f (fun y => ?_)⟩
      obtain ⟨w1, w2⟩ := (bz w).mp hw
      rw [fld_cl hF ep (hs.1 w u (bt_lt hw) (bt_lt hu) y) w1] at w2
      cases w2
    | false =>
      have er : bt rest u = false := bf_f (fun y => by rw [(bz u).mpr ⟨y, ep⟩] at hz; cases hz)
      obtain ⟨⟨c, c1, c2⟩, d⟩ := h5 u hu er
      exact ⟨⟨c, c1, by rw [q2 u ep c c1]; exact c2⟩, fun w hw => d w ((bz w).mp hw).1⟩
  · have ep : bt piece u = false := by
      rcases hz with y | y
      · exact bf_f (fun t => by rw [h4 u (hp u t)] at y; cases y)
      · exact ((bz u).mp y).2
    rw [q2 u ep c hc]
    refine h6 u hu ?_ c hc
    rcases hz with y | y
    · exact Or.inl y
    · exact Or.inr ((bz u).mp y).1
theorem flj_e (h : FLJ f k cl0 cl a b m n rest) (hz : ∀ u, bt rest u = false) : TBP f k cl0 cl a b m n := by
  obtain ⟨r, h1, h2, h3, h4, h5, h6⟩ := h
  exact ⟨r, h1, h2, h3, fun u hu => (h5 u hu (hz u)).1, fun u hu hr => h6 u hu (Or.inl hr)⟩
/-- a piece that cannot be filled -/
theorem flj_f (h : FLJ f k cl0 cl a b m n rest) (hV : CPV f k cl0) (hp : ∀ u, bt piece u = true → bt rest u = true) (hno : ∀ χ, ¬ SOm f k cl piece χ) : ∀ χ, ¬ SOm f k cl0 m χ := by
  obtain ⟨r, h1, h2, h3, h4, h5, h6⟩ := h
  intro χ hχ
  have pm : ∀ u, bt piece u = true → bt m u = true := fun u hu => plj_sub h1 u (h4 u (hp u hu))
  refine hno χ ⟨fun v hv => hχ.1 v (pm v hv), fun v hv u hu => ⟨fun hT => (hχ.2 v (pm v hv) u hu).1 (pm u hT), fun hs => ?_⟩⟩
  obtain ⟨d, d1, d2, d3⟩ := sgc_o hs
  cases em : bt m u with
  | false =>
    rw [h3 u em d d1] at d3
    have q := sgc_i hV d1 d3
    have p := (hχ.2 v (pm v hv) u hu).2 (by rw [q]; omega)
    rw [d2, ← q]
    exact p
  | true =>
    exfalso
    have ur : bt r u = true := by
      cases er : bt r u with
      | true => rfl
      | false =>
        rw [h6 u em (Or.inl er) d d1] at d3
        cases d3
    have ut : bt rest u = false := bf_f (fun y => by
      rw [h6 u em (Or.inr y) d d1] at d3
      cases d3)
    have q := (h5 u ur ut).2 v (hp v hv)
    have q2 : bt (f v) u = true := hu
    rw [q2] at q
    cases q
/-- taking colours away again -/
def RSI (k : Int) (cl0 cl : Nat → Int32) (m : Int32) (y : Int) : Prop := OUTm m cl0 cl ∧ (∀ c u : Nat, c < 32 → k ≤ (c : Int) → bt (cl c) u = false) ∧ ∀ c : Nat, c < 32 → (c : Int) < y → cl c = cl0 c
theorem rsi_0 (h : FLJ f k cl0 cl a b m n rest) (e : CEQL cl cl2) {y : Int} (hy : y = 0) : RSI k cl0 cl2 m y := by
  obtain ⟨r, h1, h2, h3, -⟩ := h
  refine ⟨fun u hu c hc => by rw [e c hc]; exact h3 u hu c hc, fun c u hc hk => bf_f (fun q => ?_), fun c _ h => by omega⟩
  rw [e c hc] at q
  have := h2.2.1 c u hc q
  omega
theorem rsi_s {y w : Int} (h : RSI k cl0 cl m y) (hU : UNm cl0 m) (hy : y = (c : Int)) (hc : c < 32) (hw : w = y + 1) (e1 : z1 = m ^^^ Int32.ofInt (-1)) (e : z = cl c &&& z1) : RSI k cl0 (upd cl c z) m w := by
  obtain ⟨h1, h2, h3⟩ := h
  have bz : ∀ u, bt z u = true ↔ (bt (cl c) u = true ∧ bt m u = false) := fun u => by
    by_cases hu : u < 32
    · rw [bt_and e, bt_not e1 hu, Bool.and_eq_true]
      cases bt m u <;> simp
    · exact ⟨fun y => absurd (bt_lt y) hu, fun y => absurd (bt_lt y.1) hu⟩
  refine ⟨fun u hu d hd => ?_, fun d u hd hk => ?_, fun d hd hl => ?_⟩
  · by_cases q : d = c
    · rw [q, up_e, ← h1 u hu c hc]
      exact Bool.eq_iff_iff.mpr ⟨fun y => ((bz u).mp y).1, fun y => (bz u).mpr ⟨y, hu⟩⟩
    · rw [up_n q]; exact h1 u hu d hd
  · by_cases q : d = c
    · rw [q, up_e]
      exact bf_f (fun y => by
        have r := h2 c u hc (by omega)
        rw [((bz u).mp y).1] at r
        cases r)
    · rw [up_n q]; exact h2 d u hd hk
  · by_cases q : d = c
    · rw [q, up_e]
      refine bt_ext (fun u _ => ?_)
      cases em : bt m u with
      | false =>
        rw [← h1 u em c hc]
        exact Bool.eq_iff_iff.mpr ⟨fun y => ((bz u).mp y).1, fun y => (bz u).mpr ⟨y, em⟩⟩
      | true =>
        rw [hU u em c hc]
        exact bf_f (fun y => by rw [((bz u).mp y).2] at em; cases em)
    · rw [up_n q]; exact h3 d hd (by omega)
theorem rsi_e {y : Int} (h : RSI k cl0 cl m y) (hV : CPV f k cl0) (hy : k ≤ y) : CEQL cl0 cl := fun c hc => by
  obtain ⟨h1, h2, h3⟩ := h
  by_cases q : (c : Int) < k
  · exact h3 c hc (by omega)
  · refine bt_ext (fun u _ => ?_)
    rw [h2 c u hc (by omega)]
    exact (bf_f (fun z => q (hV.2.1 c u hc z))).symm
end CLA
end
section
/-! COLOURS: THE LEAST -/
def FUL (f : Nat → Int32) (n : Nat) (k : Int) (χ : Nat → Int) : Prop := (∀ v, v < n → 0 ≤ χ v ∧ χ v < k) ∧ ∀ v u, v < n → u < n → bt (f v) u = true → χ u ≠ χ v
def FCL (f : Nat → Int32) (n : Nat) (k : Int) (cl : Nat → Int32) : Prop := CPV f k cl ∧ (∀ u, u < n → ∃ c, c < 32 ∧ bt (cl c) u = true) ∧ ∀ c u, c < 32 → bt (cl c) u = true → u < n
def KEP (cl cl2 : Nat → Int32) (v : Nat) : Prop := ∀ u, u < v → ∀ c, c < 32 → bt (cl2 c) u = bt (cl c) u
def USD (cl : Nat → Int32) (v : Nat) (y : Int) : Prop := ∀ u c : Nat, u < v → c < 32 → bt (cl c) u = true → (c : Int) < y
/-- the colour of v in the first of the colourings with fewest colours, but not fewer than K0 -/
def LXC (f : Nat → Int32) (n : Nat) (K0 : Int) (v : Nat) (z : Int) : Prop := ∃ (k : Int) (a : Nat → Int), K0 ≤ k ∧ (∀ j, K0 ≤ j → j < k → ∀ χ, ¬ FUL f n j χ) ∧ (∃ χ, FUL f n k χ ∧ ∀ u, u ≤ v → χ u = a u) ∧ (∀ u, u ≤ v → ∀ χ, FUL f n k χ → (∀ w, w < u → χ w = a w) → a u ≤ χ u) ∧ a v = z
theorem ful_cg {f g : Nat → Int32} {n : Nat} {k : Int} {χ : Nat → Int} (h : ∀ u w, u < n → (bt (f u) w = true ↔ bt (g u) w = true)) (q : FUL f n k χ) : FUL g n k χ := ⟨q.1, fun v u hv hu e => q.2 v u hv hu ((h v u hv).mpr e)⟩
theorem lxc_cg {f g : Nat → Int32} {n v : Nat} {K0 z : Int} (h : ∀ u w, u < n → (bt (f u) w = true ↔ bt (g u) w = true)) (q : LXC f n K0 v z) : LXC g n K0 v z := by
  obtain ⟨k, a, q1, q2, ⟨χ, q3, q4⟩, q5, q6⟩ := q
  have b : ∀ u w, u < n → (bt (g u) w = true ↔ bt (f u) w = true) := fun u w hu => (h u w hu).symm
  exact ⟨k, a, q1, fun j h1 h2 χ hχ => q2 j h1 h2 χ (ful_cg b hχ), ⟨χ, ful_cg h q3, q4⟩, fun u hu χ hχ hw => q5 u hu χ (ful_cg b hχ) hw, q6⟩
theorem lxc_u {f : Nat → Int32} {n v : Nat} {K0 y z : Int} (p : LXC f n K0 v y) (q : LXC f n K0 v z) : y = z := by
  obtain ⟨k, a, p1, p2, ⟨χ, p3, p4⟩, p5, p6⟩ := p
  obtain ⟨l, b, q1, q2, ⟨ψ, q3, q4⟩, q5, q6⟩ := q
  have e : k = l := by
    rcases Int.lt_trichotomy k l with c | c | c
    · exact absurd p3 (q2 k p1 c χ)
    · exact c
    · exact absurd q3 (p2 l q1 c ψ)
  subst e
  have key : ∀ u, u ≤ v → a u = b u := by
    intro u
    induction u using Nat.strongRecOn with
    | ind u ih =>
      intro hu
      have a1 := p5 u hu ψ q3 (fun w hw => by rw [q4 w (by omega)]; exact (ih w hw (by omega)).symm)
      have a2 := q5 u hu χ p3 (fun w hw => by rw [p4 w (by omega)]; exact ih w hw (by omega))
      rw [q4 u hu] at a1
      rw [p4 u hu] at a2
      omega
  rw [← p6, ← q6]
  exact key v (Nat.le_refl _)
section CLB
variable {f cl cl2 cl3 : Nat → Int32} {n v c : Nat} {k : Int}
theorem fcl_s (h : FCL f n k cl) {u : Nat} (hu : u < n) : ∃ c : Nat, c < 32 ∧ bt (cl c) u = true ∧ sgc cl u = (c : Int) ∧ (c : Int) < k := by
  obtain ⟨c, c1, c2⟩ := h.2.1 u hu
  exact ⟨c, c1, c2, sgc_i h.1 c1 c2, h.1.2.1 c u c1 c2⟩
theorem fcl_ful (h : FCL f n k cl) : FUL f n k (sgc cl) := by
  refine ⟨fun u hu => ?_, fun u w hu hw e z => ?_⟩
  · obtain ⟨c, c1, c2, c3, c4⟩ := fcl_s h hu
    rw [c3]
    exact ⟨by omega, c4⟩
  · obtain ⟨c, c1, c2, c3, c4⟩ := fcl_s h hu
    obtain ⟨d, d1, d2, d3, d4⟩ := fcl_s h hw
    have q : c = d := by omega
    rw [← q] at d2
    rw [h.1.2.2 c u w c1 c2 d2] at e
    cases e
theorem fcl_cg (e : CEQL cl cl2) (h : FCL f n k cl) : FCL f n k cl2 := ⟨cpv_cg e h.1, fun u hu => by
  obtain ⟨c, c1, c2⟩ := h.2.1 u hu
  exact ⟨c, c1, by rw [e c c1]; exact c2⟩, fun c u hc hb => h.2.2 c u hc (by rw [← e c hc]; exact hb)⟩
theorem kep_r : KEP cl cl v := fun _ _ _ _ => rfl
theorem kep_t (h : KEP cl cl2 v) (h2 : KEP cl2 cl3 v) : KEP cl cl3 v := fun u hu c hc => (h2 u hu c hc).trans (h u hu c hc)
theorem kep_e (e : CEQL cl cl2) : KEP cl cl2 v := fun u _ c hc => by rw [e c hc]
theorem kep_s (h : KEP cl cl2 v) {u : Nat} (hu : u < v) : sgc cl2 u = sgc cl u := sgc_cg (h u hu)
/-! canLower -/
def CLW (f : Nat → Int32) (n : Nat) (k : Int) (cl cl2 : Nat → Int32) (v c : Nat) (r : Int) : Prop := (r ≠ 0 → FCL f n k cl2 ∧ KEP cl cl2 v ∧ bt (cl2 c) v = true) ∧ (r = 0 → CEQL cl cl2 ∧ ∀ χ, FUL f n k χ → (∀ u, u < v → χ u = sgc cl u) → χ v ≠ (c : Int))
theorem clw_b (h : FCL f n k cl) (hv : v < n) (hc : c < 32) (e : CEQL cl cl2) {r : Int} (hr : r = 0) (hx : ∃ u, u < v ∧ bt (cl c) u = true ∧ bt (f v) u = true) : CLW f n k cl cl2 v c r := by
  refine ⟨fun z => absurd hr z, fun _ => ⟨e, fun χ hχ hu z => ?_⟩⟩
  obtain ⟨u, u1, u2, u3⟩ := hx
  have a := hu u u1
  rw [sgc_i h.1 hc u2] at a
  exact hχ.2 v u hv (h.2.2 c u hc u2) u3 (a.trans z.symm)
/-- a chain turned over -/
theorem clw_c {o : Nat} {bit al ch zc zo : Int32} (h : FCL f n k cl) (hs : SYR f) (hc : c < 32) (ho : o < 32) (hco : c ≠ o) (hk : (c : Int) < k) (hv : bt (cl o) v = true) (eb : ∀ u, bt bit u = true ↔ u = v) (ea : al = cl c ||| cl o) (hF : FLD f bit al ch) (hb : ∀ u, bt ch u = true → ¬ u < v) (ec : ∀ u, bt zc u = (bt (cl c) u != bt ch u)) (eo : ∀ u, bt zo u = (bt (cl o) u != bt ch u)) (e2 : ∀ d, d < 32 → cl2 d = if d = o then zo else if d = c then zc else cl d) {r : Int} (hr : r ≠ 0) : CLW f n k cl cl2 v c r := by
  have al_t : ∀ u, bt al u = true ↔ (bt (cl c) u = true ∨ bt (cl o) u = true) := fun u => by rw [bt_or ea, Bool.or_eq_true]
  have cin : ∀ u, bt ch u = true → bt (cl c) u = true ∨ bt (cl o) u = true := fun u hu => by
    rcases fld_sb hF hu with q | q
    · rw [(eb u).mp q]; exact Or.inr hv
    · exact (al_t u).mp q
  have nb : ∀ u, bt (cl c) u = true → bt (cl o) u = true → False := fun u p q => hco (h.1.1 c o u hc ho p q)
  have bo : ∀ u, bt (cl2 o) u = true ↔ ((bt (cl o) u = true ∧ bt ch u = false) ∨ (bt (cl c) u = true ∧ bt ch u = true)) := fun u => by
    rw [e2 o ho, if_pos rfl, eo u]
    have p := cin u
    have q := nb u
    cases h1 : bt (cl o) u <;> cases h2 : bt (cl c) u <;> cases h3 : bt ch u <;> simp_all
  have bc : ∀ u, bt (cl2 c) u = true ↔ ((bt (cl c) u = true ∧ bt ch u = false) ∨ (bt (cl o) u = true ∧ bt ch u = true)) := fun u => by
    rw [e2 c hc, if_neg hco, if_pos rfl, ec u]
    have p := cin u
    have q := nb u
    cases h1 : bt (cl o) u <;> cases h2 : bt (cl c) u <;> cases h3 : bt ch u <;> simp_all
  have bd : ∀ d u, d < 32 → d ≠ c → d ≠ o → bt (cl2 d) u = bt (cl d) u := fun d u hd d1 d2 => by rw [e2 d hd, if_neg d2, if_neg d1]
  -- where a node of the new classes was
  have was : ∀ d u, d < 32 → bt (cl2 d) u = true → ∃ e, e < 32 ∧ bt (cl e) u = true ∧ ((bt ch u = false ∧ e = d) ∨ (bt ch u = true ∧ ((d = c ∧ e = o) ∨ (d = o ∧ e = c)))) := by
    intro d u hd hu
    by_cases d1 : d = o
    · rw [d1] at hu
      rcases (bo u).mp hu with ⟨x, y⟩ | ⟨x, y⟩
      · exact ⟨o, ho, x, Or.inl ⟨y, d1.symm⟩⟩
      · exact ⟨c, hc, x, Or.inr ⟨y, Or.inr ⟨d1, rfl⟩⟩⟩
    · by_cases d2 : d = c
      · rw [d2] at hu
        rcases (bc u).mp hu with ⟨x, y⟩ | ⟨x, y⟩
        · exact ⟨c, hc, x, Or.inl ⟨y, d2.symm⟩⟩
        · exact ⟨o, ho, x, Or.inr ⟨y, Or.inl ⟨d2, rfl⟩⟩⟩
      · rw [bd d u hd d2 d1] at hu
        refine ⟨d, hd, hu, Or.inl ⟨bf_f (fun z => ?_), rfl⟩⟩
        rcases cin u z with q | q
        · exact d2 (h.1.1 d c u hd hc hu q)
        · exact d1 (h.1.1 d o u hd ho hu q)
  have kv : (o : Int) < k := h.1.2.1 o v ho hv
  have vch : bt ch v = true := fld_sd hF ((eb v).mpr rfl)
  refine ⟨fun _ => ⟨⟨⟨fun a b u ha hb2 h3 h4 => ?_, fun a u ha h3 => ?_, fun a u w ha h3 h4 => ?_⟩, fun u hu => ?_, fun a u ha h3 => ?_⟩, fun u hu d hd => ?_, (bc v).mpr (Or.inr ⟨hv, vch⟩)⟩, fun z => absurd z hr⟩
  · obtain ⟨x, x1, x2, x3⟩ := was a u ha h3
    obtain ⟨y, y1, y2, y3⟩ := was b u hb2 h4
    have xy := h.1.1 x y u x1 y1 x2 y2
    rcases x3 with ⟨p1, p2⟩ | ⟨p1, p2⟩ <;> rcases y3 with ⟨q1, q2⟩ | ⟨q1, q2⟩
    · omega
    · rw [p1] at q1; cases q1
    · rw [p1] at q1; cases q1
    · omega
  · obtain ⟨x, x1, x2, x3⟩ := was a u ha h3
    rcases x3 with ⟨-, p2⟩ | ⟨-, ⟨p2, -⟩ | ⟨p2, -⟩⟩
    · rw [← p2]; exact h.1.2.1 x u x1 x2
    · rw [p2]; exact hk
    · rw [p2]; exact kv
  · obtain ⟨x, x1, x2, x3⟩ := was a u ha h3
    obtain ⟨y, y1, y2, y3⟩ := was a w ha h4
    rcases x3 with ⟨p1, p2⟩ | ⟨p1, p2⟩ <;> rcases y3 with ⟨q1, q2⟩ | ⟨q1, q2⟩
    · rw [p2] at x2
      rw [q2] at y2
      exact h.1.2.2 a u w ha x2 y2
    · refine bf_f (fun z => ?_)
      have g := hs.1 u w (bt_lt x2) (bt_lt y2) z
      have ua : bt al u = true := by
        rw [p2] at x2
        rcases q2 with ⟨q2, -⟩ | ⟨q2, -⟩
        · rw [q2] at x2; exact (al_t u).mpr (Or.inl x2)
        · rw [q2] at x2; exact (al_t u).mpr (Or.inr x2)
      rw [fld_cl hF q1 g ua] at p1
      cases p1
    · refine bf_f (fun z => ?_)
      have wa : bt al w = true := by
        rw [q2] at y2
        rcases p2 with ⟨p2, -⟩ | ⟨p2, -⟩
        · rw [p2] at y2; exact (al_t w).mpr (Or.inl y2)
        · rw [p2] at y2; exact (al_t w).mpr (Or.inr y2)
      rw [fld_cl hF p1 z wa] at q1
      cases q1
    · have xy : x = y := by omega
      rw [← xy] at y2
      exact h.1.2.2 x u w x1 x2 y2
  · obtain ⟨d, d1, d2⟩ := h.2.1 u hu
    by_cases g1 : d = o
    · rw [g1] at d2
      cases e : bt ch u with
      | false => exact ⟨o, ho, (bo u).mpr (Or.inl ⟨d2, e⟩)⟩
      | true => exact ⟨c, hc, (bc u).mpr (Or.inr ⟨d2, e⟩)⟩
    · by_cases g2 : d = c
      · rw [g2] at d2
        cases e : bt ch u with
        | false => exact ⟨c, hc, (bc u).mpr (Or.inl ⟨d2, e⟩)⟩
        | true => exact ⟨o, ho, (bo u).mpr (Or.inr ⟨d2, e⟩)⟩
      · exact ⟨d, d1, by rw [bd d u d1 g2 g1]; exact d2⟩
  · obtain ⟨x, x1, x2, -⟩ := was a u ha h3
    exact h.2.2 x u x1 x2
  · have uc : bt ch u = false := bf_f (fun z => hb u z hu)
    by_cases g1 : d = o
    · rw [g1]
      refine Bool.eq_iff_iff.mpr ⟨fun z => ?_, fun z => (bo u).mpr (Or.inl ⟨z, uc⟩)⟩
      rcases (bo u).mp z with ⟨x, -⟩ | ⟨-, x⟩
      · exact x
      · rw [uc] at x; cases x
    · by_cases g2 : d = c
      · rw [g2]
        refine Bool.eq_iff_iff.mpr ⟨fun z => ?_, fun z => (bc u).mpr (Or.inl ⟨z, uc⟩)⟩
        rcases (bc u).mp z with ⟨x, -⟩ | ⟨-, x⟩
        · exact x
        · rw [uc] at x; cases x
      · exact bd d u hd g2 g1
/-- only those before v keep their colours -/
def MKI (cl cl2 : Nat → Int32) (v : Nat) (y : Int) : Prop := ∀ c : Nat, c < 32 → ((c : Int) < y → ∀ u, bt (cl2 c) u = true ↔ (bt (cl c) u = true ∧ u < v)) ∧ (y ≤ (c : Int) → cl2 c = cl c)
def MKD (cl cl2 : Nat → Int32) (v : Nat) : Prop := ∀ c u : Nat, c < 32 → (bt (cl2 c) u = true ↔ (bt (cl c) u = true ∧ u < v))
theorem mki_0 (e : CEQL cl cl2) {y : Int} (hy : y = 0) : MKI cl cl2 v y := fun c hc => ⟨fun z => by omega, fun _ => e c hc⟩
theorem mki_s {y w : Int} {z b : Int32} (h : MKI cl cl2 v y) (hy : y = (c : Int)) (hw : w = y + 1) (hb : ∀ u, u < 32 → (bt b u = true ↔ u < v)) (e : z = cl2 c &&& b) : MKI cl (upd cl2 c z) v w := by
  intro d hd
  obtain ⟨h1, h2⟩ := h d hd
  by_cases q : d = c
  · refine ⟨fun _ u => ?_, fun z => by omega⟩
    rw [q, up_e, bt_and e, Bool.and_eq_true, ← q, h2 (by omega)]
    refine ⟨fun z => ⟨z.1, (hb u (bt_lt z.1)).mp z.2⟩, fun z => ⟨z.1, (hb u (bt_lt z.1)).mpr z.2⟩⟩
  · rw [up_n q]
    exact ⟨fun z => h1 (by omega), fun z => h2 (by omega)⟩
theorem mki_e {y : Int} (h : MKI cl cl2 v y) (hV : CPV f k cl) (hy : k ≤ y) : MKD cl cl2 v := by
  intro c u hc
  obtain ⟨h1, h2⟩ := h c hc
  by_cases q : (c : Int) < y
  · exact h1 q u
  · rw [h2 (by omega)]
    have no : ¬ bt (cl c) u = true := fun z => by have := hV.2.1 c u hc z; omega
    exact ⟨fun z => absurd z no, fun z => absurd z.1 no⟩
variable {m : Int32}
theorem mkd_v (h : FCL f n k cl) (hM : MKD cl cl2 v) (p : PUTc cl2 cl3 c v) (hs : SYR f) (hv : v < 32) (hk : (c : Int) < k) (hc : c < 32) (hn : ∀ u, u < v → bt (cl c) u = true → bt (f v) u = false) (hm : ∀ u, bt m u = true ↔ (u < n ∧ v < u)) : CPV f k cl3 ∧ UNm cl3 m := by
  have V2 : CPV f k cl2 := ⟨fun a b u ha hb x y => h.1.1 a b u ha hb ((hM a u ha).mp x).1 ((hM b u hb).mp y).1, fun a u ha x => h.1.2.1 a u ha ((hM a u ha).mp x).1, fun a u w ha x y => h.1.2.2 a u w ha ((hM a u ha).mp x).1 ((hM a w ha).mp y).1⟩
  refine ⟨cpv_put V2 p hs hv (fun d hd => bf_f (fun z => by have := ((hM d v hd).mp z).2; omega)) (fun u hu => hn u ((hM c u hc).mp hu).2 ((hM c u hc).mp hu).1) hk, fun u hu d hd => bf_f (fun z => ?_)⟩
  have q := (hm u).mp hu
  rcases (p d u hd).mp z with x | ⟨-, x⟩
  · have := ((hM d u hd).mp x).2
    omega
  · omega
theorem clw_y {r r2 : Int} {cl4 : Nat → Int32} (h : FCL f n k cl) (hM : MKD cl cl2 v) (p : PUTc cl2 cl3 c v) (hvn : v < n) (hc : c < 32) (hm : ∀ u, bt m u = true ↔ (u < n ∧ v < u)) (hR : FRE f k m cl3 cl4 r) (hr : r ≠ 0) (hr2 : r2 ≠ 0) : CLW f n k cl cl4 v c r2 := by
  obtain ⟨a1, a2, a3⟩ := hR.1 hr
  have out : ∀ u, ¬ (u < n ∧ v < u) → ∀ d, d < 32 → bt (cl4 d) u = bt (cl3 d) u := fun u hu d hd => a2 u (bf_f (fun z => hu ((hm u).mp z))) d hd
  refine ⟨fun _ => ⟨⟨a1, fun u hu => ?_, fun d u hd hb => ?_⟩, fun u hu d hd => ?_, ?_⟩, fun z => absurd z hr2⟩
  · by_cases q : v < u
    · exact a3 u ((hm u).mpr ⟨hu, q⟩)
    · by_cases e : u = v
      · exact ⟨c, hc, by rw [out u (fun z => q z.2) c hc]; exact (p c u hc).mpr (Or.inr ⟨rfl, e⟩)⟩
      · obtain ⟨d, d1, d2⟩ := h.2.1 u hu
        exact ⟨d, d1, by rw [out u (fun z => q z.2) d d1]; exact (p d u d1).mpr (Or.inl ((hM d u d1).mpr ⟨d2, by omega⟩))⟩
  · by_cases q : u < n
    · exact q
    · rw [out u (fun z => q z.1) d hd] at hb
      rcases (p d u hd).mp hb with x | ⟨-, x⟩
      · exact h.2.2 d u hd ((hM d u hd).mp x).1
      · omega
  · rw [out u (fun z => by omega) d hd]
    refine Bool.eq_iff_iff.mpr ⟨fun z => ?_, fun z => (p d u hd).mpr (Or.inl ((hM d u hd).mpr ⟨z, hu⟩))⟩
    rcases (p d u hd).mp z with x | ⟨-, x⟩
    · exact ((hM d u hd).mp x).1
    · omega
  · rw [out v (fun z => by omega) c hc]
    exact (p c v hc).mpr (Or.inr ⟨rfl, rfl⟩)
theorem clw_n {r r2 : Int} {cl4 cl5 : Nat → Int32} (h : FCL f n k cl) (hM : MKD cl cl2 v) (p : PUTc cl2 cl3 c v) (hV3 : CPV f k cl3) (hvn : v < n) (hc : c < 32) (hm : ∀ u, bt m u = true ↔ (u < n ∧ v < u)) (hR : FRE f k m cl3 cl4 r) (hr : r = 0) (hr2 : r2 = 0) (e : CEQL cl cl5) : CLW f n k cl cl5 v c r2 := by
  obtain ⟨-, a2⟩ := hR.2 hr
  refine ⟨fun z => absurd hr2 z, fun _ => ⟨e, fun χ hχ hu z => a2 χ ⟨fun w hw => hχ.1 w ((hm w).mp hw).1, fun w hw u huu => ⟨fun hT => hχ.2 w u ((hm w).mp hw).1 ((hm u).mp hT).1 huu, fun hs => ?_⟩⟩⟩⟩
  have wn := ((hm w).mp hw).1
  obtain ⟨d, d1, d2, d3⟩ := sgc_o hs
  rw [d2]
  rcases (p d u d1).mp d3 with x | ⟨x1, x2⟩
  · obtain ⟨x3, x4⟩ := (hM d u d1).mp x
    have a := hu u x4
    rw [sgc_i h.1 d1 x3] at a
    have b := hχ.2 w u wn (h.2.2 d u d1 x3) huu
    rw [a] at b
    exact fun y => b y.symm
  · have b := hχ.2 w u wn (by omega) huu
    rw [x2, z, ← x1] at b
    exact fun y => b y.symm
/-! lessen -/
theorem fcl_sw {o q : Nat} (h : FCL f n k cl) (ho : o < 32) (hq : q < 32) (hne : q ≠ o) (hqk : (q : Int) < k) (hok : (o : Int) < k) (e2 : ∀ d, d < 32 → cl2 d = if d = q then cl o else if d = o then cl q else cl d) : FCL f n k cl2 := by
  have was : ∀ d, d < 32 → ∃ e, e < 32 ∧ cl2 d = cl e ∧ ((d = q ∧ e = o) ∨ (d = o ∧ e = q) ∨ (d ≠ q ∧ d ≠ o ∧ e = d)) := by
    intro d hd
    by_cases a : d = q
    · exact ⟨o, ho, by rw [e2 d hd, if_pos a], Or.inl ⟨a, rfl⟩⟩
    · by_cases b : d = o
      · exact ⟨q, hq, by rw [e2 d hd, if_neg a, if_pos b], Or.inr (Or.inl ⟨b, rfl⟩)⟩
      · exact ⟨d, hd, by rw [e2 d hd, if_neg a, if_neg b], Or.inr (Or.inr ⟨a, b, rfl⟩)⟩
  refine ⟨⟨fun a b u ha hb x y => ?_, fun a u ha x => ?_, fun a u w ha x y => ?_⟩, fun u hu => ?_, fun a u ha x => ?_⟩
  · obtain ⟨d, d1, d2, d3⟩ := was a ha
    obtain ⟨e, f1, f2, f3⟩ := was b hb
    rw [d2] at x
    rw [f2] at y
    have g := h.1.1 d e u d1 f1 x y
    omega
  · obtain ⟨d, d1, d2, d3⟩ := was a ha
    rw [d2] at x
    have g := h.1.2.1 d u d1 x
    omega
  · obtain ⟨d, d1, d2, d3⟩ := was a ha
    rw [d2] at x y
    exact h.1.2.2 d u w d1 x y
  · obtain ⟨d, d1, d2⟩ := h.2.1 u hu
    by_cases a : d = q
    · exact ⟨o, ho, by rw [e2 o ho, if_neg (fun z => hne z.symm), if_pos rfl, ← a]; exact d2⟩
    · by_cases b : d = o
      · exact ⟨q, hq, by rw [e2 q hq, if_pos rfl, ← b]; exact d2⟩
      · exact ⟨d, d1, by rw [e2 d d1, if_neg a, if_neg b]; exact d2⟩
  · obtain ⟨d, d1, d2, -⟩ := was a ha
    rw [d2] at x
    exact h.2.2 d u d1 x
theorem kep_sw {o q : Nat} {y : Int} (hU : USD cl v y) (ho : o < 32) (hq : q < 32) (hqy : y ≤ (q : Int)) (hoy : y ≤ (o : Int)) (e2 : ∀ d, d < 32 → cl2 d = if d = q then cl o else if d = o then cl q else cl d) : KEP cl cl2 v := by
  intro u hu d hd
  have no : ∀ e : Nat, e < 32 → y ≤ (e : Int) → bt (cl e) u = false := fun e he hy => bf_f (fun z => by have := hU u e hu he z; omega)
  rw [e2 d hd]
  by_cases a : d = q
  · rw [if_pos a, a, no o ho hoy, no q hq hqy]
  · rw [if_neg a]
    by_cases b : d = o
    · rw [if_pos b, b, no o ho hoy, no q hq hqy]
    · rw [if_neg b]
/-- how far the colour of v is down -/
def LSI (f : Nat → Int32) (n : Nat) (k : Int) (cl cl2 : Nat → Int32) (v : Nat) (own y : Int) : Prop := FCL f n k cl2 ∧ KEP cl cl2 v ∧ (∃ o : Nat, own = (o : Int) ∧ o < 32 ∧ bt (cl2 o) v = true) ∧ ∀ χ, FUL f n k χ → (∀ u, u < v → χ u = sgc cl u) → y ≤ χ v ∨ own ≤ χ v
theorem lsi_0 {o : Nat} {own y : Int} (h : FCL f n k cl2) (hK : KEP cl cl2 v) (hv : v < n) (ho : own = (o : Int)) (h32 : o < 32) (hb : bt (cl2 o) v = true) (hy : y = 0) : LSI f n k cl cl2 v own y := ⟨h, hK, ⟨o, ho, h32, hb⟩, fun χ hχ _ => Or.inl (by have := (hχ.1 v hv).1; omega)⟩
theorem lsi_y {own y w r : Int} (h : LSI f n k cl cl2 v own y) (hy : y = (c : Int)) (hc : c < 32) (hl : y < own) (hR : CLW f n k cl2 cl3 v c r) (hr : r ≠ 0) (hw : w = y + 1) : LSI f n k cl cl3 v y w := by
  obtain ⟨h1, h2, h3, h4⟩ := h
  obtain ⟨r1, r2, r3⟩ := hR.1 hr
  refine ⟨r1, kep_t h2 r2, ⟨c, hy, hc, r3⟩, fun χ hχ hu => Or.inr ?_⟩
  rcases h4 χ hχ hu with q | q <;> omega
theorem lsi_n {own y w r : Int} (h : LSI f n k cl cl2 v own y) (hy : y = (c : Int)) (hR : CLW f n k cl2 cl3 v c r) (hr : r = 0) (hw : w = y + 1) : LSI f n k cl cl3 v own w := by
  obtain ⟨h1, h2, ⟨o, o1, o2, o3⟩, h4⟩ := h
  obtain ⟨r1, r2⟩ := hR.2 hr
  refine ⟨fcl_cg r1 h1, kep_t h2 (kep_e r1), ⟨o, o1, o2, by rw [r1 o o2]; exact o3⟩, fun χ hχ hu => ?_⟩
  have e := r2 χ hχ (fun u h => by rw [kep_s h2 h]; exact hu u h)
  rcases h4 χ hχ hu with q | q
  · exact Or.inl (by omega)
  · exact Or.inr q
/-- what lessen leaves -/
def LSE (f : Nat → Int32) (n : Nat) (k : Int) (cl cl2 : Nat → Int32) (v : Nat) (r : Int) : Prop := FCL f n k cl2 ∧ KEP cl cl2 v ∧ sgc cl2 v = r ∧ ∀ χ, FUL f n k χ → (∀ u, u < v → χ u = sgc cl u) → r ≤ χ v
theorem lsi_e {own y : Int} (h : LSI f n k cl cl2 v own y) (hy : own ≤ y) : LSE f n k cl cl2 v own := by
  obtain ⟨h1, h2, ⟨o, o1, o2, o3⟩, h4⟩ := h
  refine ⟨h1, h2, by rw [o1]; exact sgc_i h1.1 o2 o3, fun χ hχ hu => ?_⟩
  rcases h4 χ hχ hu with q | q <;> omega
/-! makeColours -/
def LIM (f : Nat → Int32) (n : Nat) (K0 k : Int) : Prop := K0 ≤ k ∧ ∀ j, K0 ≤ j → j < k → ∀ χ, ¬ FUL f n j χ
theorem lim_0 {K0 : Int} (h : K0 = k) : LIM f n K0 k := ⟨by omega, fun j h1 h2 => by omega⟩
def CL0 (cl : Nat → Int32) : Prop := ∀ c u : Nat, c < 32 → bt (cl c) u = false
theorem cl0_v (h : CL0 cl) : CPV f k cl ∧ UNm cl m := ⟨⟨fun a b u ha _ x => (by rw [h a u ha] at x; cases x), fun a u ha x => (by rw [h a u ha] at x; cases x), fun a u w ha x => (by rw [h a u ha] at x; cases x)⟩, fun u _ c hc => h c u hc⟩
theorem lim_s {K0 j r : Int} (h : LIM f n K0 k) (hz : CL0 cl) (hm : ∀ u, bt m u = true ↔ u < n) (hR : FRE f k m cl cl2 r) (hr : r = 0) (hj : j = k + 1) : LIM f n K0 j := by
  obtain ⟨-, a2⟩ := hR.2 hr
  refine ⟨by have := h.1; omega, fun i h1 h2 χ hχ => ?_⟩
  by_cases e : i = k
  · rw [e] at hχ
    refine a2 χ ⟨fun w hw => hχ.1 w ((hm w).mp hw), fun w hw u hu => ⟨fun hT => hχ.2 w u ((hm w).mp hw) ((hm u).mp hT) hu, fun hs => ?_⟩⟩
    rw [sgc_n (fun c hc => hz c u hc)] at hs
    omega
  · exact h.2 i h1 (by omega) χ hχ
theorem cl0_e (h : CL0 cl) (e : CEQL cl cl2) : CL0 cl2 := fun c u hc => by rw [e c hc]; exact h c u hc
theorem lim_f {r : Int} (hz : CL0 cl) (hm : ∀ u, bt m u = true ↔ u < n) (hR : FRE f k m cl cl2 r) (hr : r ≠ 0) : FCL f n k cl2 := by
  obtain ⟨a1, a2, a3⟩ := hR.1 hr
  refine ⟨a1, fun u hu => a3 u ((hm u).mpr hu), fun c u hc hb => Classical.byContradiction fun z => ?_⟩
  rw [a2 u (bf_f (fun y => z ((hm u).mp y))) c hc, hz c u hc] at hb
  cases hb
/-- what the loop over the nodes has done -/
def MCJ (f : Nat → Int32) (n : Nat) (k : Int) (cl res : Nat → Int32) (v : Nat) (used : Int) : Prop := FCL f n k cl ∧ (∀ u, u < v → sgc cl u = (res u).toInt ∧ (res u).toInt < used) ∧ ∀ u, u < v → ∀ χ, FUL f n k χ → (∀ w, w < u → χ w = (res w).toInt) → (res u).toInt ≤ χ u
theorem mcj_0 {res : Nat → Int32} {used : Int} (h : FCL f n k cl) : MCJ f n k cl res 0 used := ⟨h, fun u hu => by omega, fun u hu => by omega⟩
theorem mcj_u {res : Nat → Int32} {used : Int} (h : MCJ f n k cl res v used) : USD cl v used := fun u c hu hc hb => by
  have q := h.2.1 u hu
  rw [sgc_i h.1.1 hc hb] at q
  omega
theorem mcj_s {res : Nat → Int32} {used us2 : Int} {z : Int32} (h : MCJ f n k cl res v used) (hL : LSE f n k cl cl2 v z.toInt) (h1 : used ≤ us2) (h2 : z.toInt < us2) : MCJ f n k cl2 (upd res v z) (v + 1) us2 := by
  obtain ⟨a1, a2, a3⟩ := h
  obtain ⟨l1, l2, l3, l4⟩ := hL
  have ne : ∀ u, u < v → upd res v z u = res u := fun u hu => up_n (by omega)
  refine ⟨l1, fun u hu => ?_, fun u hu χ hχ hw => ?_⟩
  · by_cases e : u = v
    · rw [e, up_e]
      exact ⟨l3, h2⟩
    · rw [ne u (by omega), kep_s l2 (by omega)]
      have q := a2 u (by omega)
      exact ⟨q.1, by omega⟩
  · by_cases e : u = v
    · rw [e, up_e]
      refine l4 χ hχ (fun w hww => ?_)
      rw [hw w (by omega), ne w hww]
      exact (a2 w hww).1.symm
    · rw [ne u (by omega)]
      exact a3 u (by omega) χ hχ (fun w hww => by rw [hw w hww, ne w (by omega)])
theorem mcj_e {res : Nat → Int32} {used K0 : Int} (h : MCJ f n k cl res n used) (hL : LIM f n K0 k) : ∀ v, v < n → LXC f n K0 v (res v).toInt := by
  intro v hv
  obtain ⟨a1, a2, a3⟩ := h
  exact ⟨k, fun u => (res u).toInt, hL.1, hL.2, ⟨sgc cl, fcl_ful a1, fun u hu => (a2 u (by omega)).1⟩, fun u hu χ hχ hw => a3 u (by omega) χ hχ hw, rfl⟩
end CLB
/-! never 32 colours: there are too few arcs -/
theorem few_p {P : Nat → Prop} {g : Nat → Nat} {N : Nat} (h : ∀ c, P c → ∃ p, p < N ∧ g p = c) (M : Nat) : cbf (fun c => dq (P c)) M ≤ N := by
  have step : ∀ j, cbf (fun c => dq (∃ p, p < j ∧ g p = c)) M ≤ j := by
    intro j
    induction j with
    | zero =>
      rw [cbf_0 (f := fun c => dq (∃ p, p < 0 ∧ g p = c)) (n := M) (fun c _ => bf_f (fun hq => by
        obtain ⟨u, hu, -⟩ := dq_p hq
        omega))]
      exact Nat.le_refl _
    | succ j ih =>
      have q := cbf_add (f := fun c => dq (∃ p, p < j ∧ g p = c)) (g := fun c => dq (∃ p, p < j + 1 ∧ g p = c)) (d := g j) M (fun c _ hq => by
        obtain ⟨u, hu, q1⟩ := dq_p hq
        by_cases e : u = j
        · rw [e] at q1
          exact Or.inr q1.symm
        · exact Or.inl (dq_t ⟨u, by omega, q1⟩))
      have l : (if g j < M then 1 else 0) ≤ 1 := by split <;> omega
      omega
  have l := cbf_mono (f := fun c => dq (P c)) (g := fun c => dq (∃ p, p < N ∧ g p = c)) (n := M) (fun c _ hq => dq_t (h c (dq_p hq)))
  have s := step N
  omega
/-- 32 nodes: two of them are no neighbours -/
theorem two_no {E : Nat → Nat → Prop} {A : Nat → Nat → Nat → Prop} (h : ∀ u w, E u w → ∃ p, p < 160 ∧ A p u w) (hA : ∀ p u w x y, A p u w → A p x y → (x = u ∧ y = w) ∨ (x = w ∧ y = u)) : ∃ u w, u < w ∧ w < 32 ∧ ¬ E u w := by
  refine Classical.byContradiction fun no => ?_
  have all : ∀ u w, u < w → w < 32 → E u w := fun u w h1 h2 => Classical.byContradiction fun z => no ⟨u, w, h1, h2, z⟩
  -- the pairs with 0 to 5: 171 of them
  have ch : ∀ p : Nat, ∃ c : Nat, ∀ u w, u < w → w < 32 → A p u w → c = u * 32 + w := by
    intro p
    by_cases q : ∃ u w, u < w ∧ w < 32 ∧ A p u w
    · obtain ⟨u, w, h1, h2, h3⟩ := q
      refine ⟨u * 32 + w, fun x y h4 h5 h6 => ?_⟩
      rcases hA p u w x y h3 h6 with ⟨a, b⟩ | ⟨a, b⟩
      · rw [a, b]
      · omega
    · exact ⟨0, fun u w h1 h2 h3 => absurd ⟨u, w, h1, h2, h3⟩ q⟩
  have f : cbf (fun c => dq (c / 32 < c % 32 ∧ c < 192)) 192 ≤ 160 := few_p (P := fun c => c / 32 < c % 32 ∧ c < 192) (g := fun p => Classical.choose (ch p)) (N := 160) (fun c hc => by
    have h1 : c / 32 < c % 32 := hc.1
    have h2 : c < 192 := hc.2
    obtain ⟨p, p1, p2⟩ := h _ _ (all (c / 32) (c % 32) h1 (by omega))
    refine ⟨p, p1, ?_⟩
    have q := Classical.choose_spec (ch p) (c / 32) (c % 32) h1 (by omega) p2
    show Classical.choose (ch p) = c
    omega) 192
  have e : cbf (fun c => decide (c / 32 < c % 32 ∧ c < 192)) 192 = 171 := by decide +kernel
  have m := cbf_mono (f := fun c => decide (c / 32 < c % 32 ∧ c < 192)) (g := fun c => dq (c / 32 < c % 32 ∧ c < 192)) (n := 192) (fun c _ hq => dq_t (of_decide_eq_true hq))
  omega
theorem ful_31 {f : Nat → Int32} {n : Nat} (h32 : n ≤ 32) (hs : SYR f) (hp : ∃ u w, u < w ∧ w < 32 ∧ (n = 32 → bt (f u) w = false)) : ∃ χ, FUL f n 31 χ := by
  obtain ⟨a, b, h1, h2, h3⟩ := hp
  by_cases e : n = 32
  · have ab := h3 e
    have ba : bt (f b) a = false := bf_f (fun z => by
      rw [hs.1 b a h2 (by omega) z] at ab
      cases ab)
    obtain ⟨F, hF⟩ : ∃ F : Nat → Int, ∀ x : Nat, (x = b ∧ F x = (a : Int)) ∨ (x < b ∧ F x = (x : Int)) ∨ (b < x ∧ F x = (x : Int) - 1) := ⟨fun x => if x = b then (a : Int) else if x < b then (x : Int) else (x : Int) - 1, fun x => by
      by_cases p : x = b
      · exact Or.inl ⟨p, if_pos p⟩
      · by_cases d : x < b
        · exact Or.inr (Or.inl ⟨d, by show (if x = b then (a : Int) else if x < b then (x : Int) else (x : Int) - 1) = _; rw [if_neg p, if_pos d]⟩)
        · exact Or.inr (Or.inr ⟨by omega, by show (if x = b then (a : Int) else if x < b then (x : Int) else (x : Int) - 1) = _; rw [if_neg p, if_neg d]⟩)⟩
    refine ⟨F, fun v hv => ?_, fun v u hv hu q z => ?_⟩
    · rcases hF v with g | g | g <;> omega
    · have ne : u ≠ v := fun y => by
        rw [y, hs.2 v (by omega)] at q
        cases q
      have c1 : ¬ (v = a ∧ u = b) := fun y => by rw [y.1, y.2, ab] at q; cases q
      have c2 : ¬ (v = b ∧ u = a) := fun y => by rw [y.1, y.2, ba] at q; cases q
      rcases hF u with g | g | g <;> rcases hF v with g2 | g2 | g2 <;> omega
  · refine ⟨fun u => (u : Int), fun v hv => ?_, fun v u hv hu q z => ?_⟩
    · show 0 ≤ (v : Int) ∧ (v : Int) < 31
      omega
    · have z2 : (u : Int) = (v : Int) := z
      have y : u = v := by omega
      rw [y, hs.2 v (by omega)] at q
      cases q
end
section
/-! COLOURS: STEPS -/
theorem bt_0f {x : Int32} {k : Nat} (h : x.toInt = 0) : bt x k = false := bf_f (fun z => bt_nz z h)
def BSJ (f : Nat → Int32) (P bs r : Int32) : Prop := ∀ w : Nat, bt P w = true → bt r w = false → ∀ u, bt (f w) u = true → bt bs u = true
def BSX (f : Nat → Int32) (P bs : Int32) : Prop := ∀ w : Nat, bt P w = true → ∀ u, bt (f w) u = true → bt bs u = true
theorem bsj_0 {f : Nat → Int32} {P bs : Int32} : BSJ f P bs P := fun w a b => by rw [a] at b; cases b
theorem bsj_s {f : Nat → Int32} {P bs r v nv b2 m r2 : Int32} (h : BSJ f P bs r) (hl : lowB r v.toNatClampNeg) (e1 : nv = f v.toNatClampNeg) (e2 : b2 = bs ||| nv) (e3 : m = r - Int32.ofInt 1) (e4 : r2 = r &&& m) : BSJ f P b2 r2 := by
  intro w a b u hu
  rw [lowB_clr hl e3 e4] at b
  by_cases q : w = v.toNatClampNeg
  · rw [q, ← e1] at hu
    exact bt_orr e2 hu
  · refine bt_orl e2 (h w a (bf_f (fun z => ?_)) u hu)
    rw [z] at b
    simp [q] at b
theorem bsj_e {f : Nat → Int32} {P bs r : Int32} (h : BSJ f P bs r) (hr : r.toInt = 0) : BSX f P bs := fun w a => h w a (bt_0f hr)
theorem fcb_i {cl : Nat → Int32} {c : Nat} {x y z : Int32} (ey : y = cl c) (e : z = y &&& x) : fcb cl x c = true ↔ z.toInt = 0 := by
  constructor
  · intro h
    refine Classical.byContradiction fun n => ?_
    obtain ⟨u, hu⟩ := bt_xs n
    have q := dq_p h u (by rw [← ey]; exact bt_and1 e hu)
    rw [bt_and2 e hu] at q
    cases q
  · intro h
    exact dq_t (fun u hu => bf_f (fun q => bt_nz (x := z) (k := u) (by rw [bt_and e, ey, hu, q]; rfl) h))
theorem cbg_y {f : Nat → Bool} {y i z j : Int32} (h : y.toInt = (cbf f i.toNatClampNeg : Int)) (hb : f i.toNatClampNeg = true) (i0 : 0 ≤ i.toInt) (hz : z.toInt = y.toInt + 1) (hj : j.toInt = i.toInt + 1) : z.toInt = (cbf f j.toNatClampNeg : Int) := by
  rw [show j.toNatClampNeg = i.toNatClampNeg + 1 from (by show j.toInt.toNat = i.toInt.toNat + 1; omega), cbf_hit hb]
  omega
theorem cbg_n {f : Nat → Bool} {y i j : Int32} (h : y.toInt = (cbf f i.toNatClampNeg : Int)) (hb : ¬ f i.toNatClampNeg = true) (i0 : 0 ≤ i.toInt) (hj : j.toInt = i.toInt + 1) : y.toInt = (cbf f j.toNatClampNeg : Int) := by
  rw [show j.toNatClampNeg = i.toNatClampNeg + 1 from (by show j.toInt.toNat = i.toInt.toNat + 1; omega), cbf_miss (bf_f hb)]
  omega
theorem frc_e {cl : Nat → Int32} {x y i k : Int32} (h : y.toInt = (cbf (fcb cl x) i.toNatClampNeg : Int)) (hi : i.toInt = k.toInt) : y.toInt = (frc k.toInt cl x : Int) := by
  rw [h]
  show ((cbf (fcb cl x) i.toInt.toNat : Nat) : Int) = ((cbf (fcb cl x) k.toInt.toNat : Nat) : Int)
  rw [hi]
theorem or_0z {x z : Int32} (e : z = x ||| Int32.ofInt 0) (h : x.toInt = 0) : z.toInt = 0 := Classical.byContradiction fun n => by
  obtain ⟨u, hu⟩ := bt_xs n
  rw [bt_or e, bt_0f h, bt_0f (show (Int32.ofInt 0).toInt = 0 from rfl)] at hu
  cases hu
/-- a bit taken out -/
theorem clr_of {w b z2 z x : Int32} (iw : In w 0 31) (eb : b = Int32.ofInt 1 <<< (w &&& 31)) (e2 : z2 = b ^^^ Int32.ofInt (-1)) (e : z = x &&& z2) : ∀ u, bt z u = true ↔ (bt x u = true ∧ u ≠ w.toNatClampNeg) := fun u => by
  by_cases hu : u < 32
  · rw [bt_clr eb e2 e iw hu]
    simp
  · exact ⟨fun q => absurd (bt_lt q) hu, fun q => absurd (bt_lt q.1) hu⟩
theorem put_of {cl : Nat → Int32} {c : Nat} {w b z x : Int32} (iw : In w 0 31) (eb : b = Int32.ofInt 1 <<< (w &&& 31)) (ex : x = cl c) (e : z = x ||| b) : PUTc cl (upd cl c z) c w.toNatClampNeg := fun d u hd => by
  by_cases q : d = c
  · rw [q, up_e, bt_set eb e iw, ex, Bool.or_eq_true, decide_eq_true_iff]
    exact ⟨fun h => h.elim Or.inl (fun y => Or.inr ⟨rfl, y⟩), fun h => h.elim Or.inl (fun y => Or.inr y.2)⟩
  · rw [up_n q]
    exact ⟨Or.inl, fun h => h.elim id (fun y => absurd y.1 q)⟩
theorem put_cg {cl sc cl2 : Nat → Int32} {c v : Nat} (e : CEQL cl sc) (p : PUTc sc cl2 c v) : PUTc cl cl2 c v := fun d u hd => by
  rw [p d u hd, e d hd]
/-- taken out again -/
theorem rst_of {cl sc t : Nat → Int32} {c : Nat} {w b x z98 z126 z130 z131 : Int32} (iw : In w 0 31) (eb : b = Int32.ofInt 1 <<< (w &&& 31)) (ex : x = sc c) (e98 : z98 = x ||| b) (hC : CEQL cl sc) (hT : CEQL (upd sc c z98) t) (hc : c < 32) (hu : bt (cl c) w.toNatClampNeg = false) (e126 : z126 = t c) (e130 : z130 = b ^^^ Int32.ofInt (-1)) (e131 : z131 = z126 &&& z130) : CEQL cl (upd t c z131) := fun d hd => by
  by_cases q : d = c
  · rw [q, up_e]
    refine bt_ext (fun u _ => Bool.eq_iff_iff.mpr ?_)
    rw [clr_of iw eb e130 e131 u, e126, hT c hc, up_e, bt_set eb e98 iw, ex, hC c hc, Bool.or_eq_true, decide_eq_true_iff]
    constructor
    · rintro ⟨a | a, b⟩
      · exact a
      · exact absurd a b
    · intro a
      exact ⟨Or.inl a, fun z => by rw [z, hu] at a; cases a⟩
  · rw [up_n q, hT d hd, up_n q]
    exact hC d hd
/-! the nodes that are aside stay -/
def ASI (s t : GS) : Prop := (t.2.2.1 60 7).toInt = (s.2.2.1 60 7).toInt ∧ ∀ i : Nat, (i : Int) < (s.2.2.1 60 7).toInt → t.1 63 i = s.1 63 i
theorem asi_r {s : GS} : ASI s s := ⟨rfl, fun _ _ => rfl⟩
theorem asi_t {s t u : GS} (h : ASI s t) (h2 : ASI t u) : ASI s u := ⟨h2.1.trans h.1, fun i hi => (h2.2 i (by rw [h.1]; exact hi)).trans (h.2 i hi)⟩
theorem asi_I {s t : GS} {j : Nat} {x : Int32} (h : ASI s t) : ASI s (sI t 61 j x) := ⟨h.1, fun i hi => by rw [sI_p rfl]; exact h.2 i hi⟩
theorem asi_J {s t : GS} {j : Nat} {x : Int32} (h : ASI (sI s 61 j x) t) : ASI s t := ⟨h.1, fun i hi => by have q := h.2 i hi; rw [sI_p rfl] at q; exact q⟩
def FLX (f : Nat → Int32) (s : GS) (m : Int32) (d : Int) : Prop := SYR f ∧ CPV f (s.2.2.1 60 3).toInt (s.1 61) ∧ UNm (s.1 61) m ∧ (s.2.2.1 60 7).toInt + (cb m : Int) ≤ 32 ∧ d + (cb m : Int) ≤ 32
/-! fillPiece's steps -/
theorem fp_b {f cl sc : Nat → Int32} {k : Int} {P bs y8 y7 x z67 w z v : Int32} (h : FPI f k cl P v.toNatClampNeg bs y8.toInt y7.toInt) (hV : CPV f k cl) (hv : bt P v.toNatClampNeg = true) (hC : CEQL cl sc) (i8 : In y8 0 31) (ex : x = sc y8.toNatClampNeg) (ew : w = f v.toNatClampNeg) (e : z67 = x &&& w) (hne : z67.toInt ≠ 0) (hz : z.toInt = y8.toInt + 1) : FPI f k cl P v.toNatClampNeg bs z.toInt y7.toInt := by
  have e8 : ((y8.toNatClampNeg : Nat) : Int) = y8.toInt := clx i8.1
  have c32 : y8.toNatClampNeg < 32 := by have := i8.2; omega
  obtain ⟨u, hu⟩ := bt_xs hne
  rw [hz, ← e8]
  refine fpi_b (by rw [e8]; exact h) hV hv c32 ⟨u, ?_, ?_⟩
  · rw [← hC _ c32, ← ex]; exact bt_and1 e hu
  · rw [← ew]; exact bt_and2 e hu
theorem fr_sh {cl sc : Nat → Int32} {bs y8 x z45 : Int32} (hC : CEQL cl sc) (i8 : In y8 0 31) (ex : x = sc y8.toNatClampNeg) (e : z45 = x &&& bs) (h0 : z45.toInt = 0) : ∀ u, bt (cl y8.toNatClampNeg) u = true → bt bs u = false := fun u hu => by
  have c32 : y8.toNatClampNeg < 32 := by show y8.toInt.toNat < 32; have := i8.2; omega
  refine bf_f (fun q => bt_nz (x := z45) (k := u) ?_ h0)
  rw [bt_and e, ex, hC _ c32, hu, q]
  rfl
theorem fp_f {f cl sc : Nat → Int32} {k : Int} {P bs y8 y7 x z45 z v : Int32} (h : FPI f k cl P v.toNatClampNeg bs y8.toInt y7.toInt) (hV : CPV f k cl) (hv : bt P v.toNatClampNeg = true) (hb : BSX f P bs) (hC : CEQL cl sc) (i8 : In y8 0 31) (hk : y8.toInt < k) (ex : x = sc y8.toNatClampNeg) (e : z45 = x &&& bs) (h0 : z45.toInt = 0) (h7 : y7.toInt ≠ 0) (hz : z.toInt = y8.toInt + 1) : FPI f k cl P v.toNatClampNeg bs z.toInt y7.toInt := by
  have e8 : ((y8.toNatClampNeg : Nat) : Int) = y8.toInt := clx i8.1
  rw [hz, ← e8]
  exact fpi_f (by rw [e8]; exact h) hV hv (by rw [e8]; exact hk) h7 (fr_sh hC i8 ex e h0) hb
/-- the try: what fill needs -/
theorem fp_x {s sc : GS} {f : Nat → Int32} {P Q y8 x w b z67 z98 z106 v : Int32} {d e : Int} (h : FLX f s P d) (hC : CEQL (s.1 61) (sc.1 61)) (hA : ASI s sc) (h3 : sc.2.2.1 60 3 = s.2.2.1 60 3) (hv : bt P v.toNatClampNeg = true) (iv : In v 0 31) (i8 : In y8 0 31) (hk : y8.toInt < (s.2.2.1 60 3).toInt) (eb : b = Int32.ofInt 1 <<< (v &&& 31)) (ex : x = sc.1 61 y8.toNatClampNeg) (ew : w = f v.toNatClampNeg) (e67 : z67 = x &&& w) (h67 : z67.toInt = 0) (e98 : z98 = x ||| b) (e106 : z106 = b ^^^ Int32.ofInt (-1)) (eQ : Q = P &&& z106) (he : e = d + 1) : FLX f (sI sc 61 y8.toNatClampNeg z98) Q e ∧ CPV f (s.2.2.1 60 3).toInt (upd (sc.1 61) y8.toNatClampNeg z98) := by
  obtain ⟨f1, f2, f3, f4, f5⟩ := h
  have e8 : ((y8.toNatClampNeg : Nat) : Int) = y8.toInt := clx i8.1
  have c32 : y8.toNatClampNeg < 32 := by have := i8.2; omega
  have p := put_of iv eb ex e98
  have cQ := cb_clr eb e106 eQ iv hv
  have hQ := clr_of iv eb e106 eQ
  have V2 : CPV f (s.2.2.1 60 3).toInt (upd (sc.1 61) y8.toNatClampNeg z98) := by
    refine cpv_put (cpv_cg hC f2) p f1 (bt_lt hv) (fun d hd => ?_) (fun u hu => bf_f (fun q => bt_nz (x := z67) (k := u) ?_ h67)) (by rw [e8]; exact hk)
    · rw [hC d hd]; exact f3 _ hv d hd
    · rw [bt_and e67, ex, ew, hu, q]; rfl
  refine ⟨⟨f1, ?_, ?_, ?_, by omega⟩, V2⟩
  · show CPV f (sc.2.2.1 60 3).toInt ((sI sc 61 y8.toNatClampNeg z98).1 61)
    rw [sI_q, h3]
    exact V2
  · rw [sI_q]
    exact unm_put (unm_cg hC f3) p hQ
  · show (sc.2.2.1 60 7).toInt + _ ≤ _
    rw [hA.1]
    omega
/-- the try did not do -/
theorem fp_t {s sc t : GS} {f : Nat → Int32} {P Q bs y7 y8 x b z98 z106 z126 z130 z131 z85 v r z : Int32} {d : Int} (h : FLX f s P d) (hI : FPI f (s.2.2.1 60 3).toInt (s.1 61) P v.toNatClampNeg bs y8.toInt y7.toInt) (hC : CEQL (s.1 61) (sc.1 61)) (hV2 : CPV f (s.2.2.1 60 3).toInt (upd (sc.1 61) y8.toNatClampNeg z98)) (hv : bt P v.toNatClampNeg = true) (iv : In v 0 31) (i8 : In y8 0 31) (eb : b = Int32.ofInt 1 <<< (v &&& 31)) (ex : x = sc.1 61 y8.toNatClampNeg) (e98 : z98 = x ||| b) (e106 : z106 = b ^^^ Int32.ofInt (-1)) (eQ : Q = P &&& z106) (hR : FRE f (s.2.2.1 60 3).toInt Q (upd (sc.1 61) y8.toNatClampNeg z98) (t.1 61) r.toInt) (hr : r.toInt = 0) (e126 : z126 = t.1 61 y8.toNatClampNeg) (e130 : z130 = b ^^^ Int32.ofInt (-1)) (e131 : z131 = z126 &&& z130) (hz : z.toInt = y8.toInt + 1) (h85 : z85.toInt ≠ 0 → y7.toInt ≠ 0 ∨ ∀ u, bt (s.1 61 y8.toNatClampNeg) u = true → bt bs u = false) : CEQL (s.1 61) ((sI t 61 y8.toNatClampNeg z131).1 61) ∧ FPI f (s.2.2.1 60 3).toInt (s.1 61) P v.toNatClampNeg bs z.toInt z85.toInt := by
  have e8 : ((y8.toNatClampNeg : Nat) : Int) = y8.toInt := clx i8.1
  have c32 : y8.toNatClampNeg < 32 := by have := i8.2; omega
  obtain ⟨r1, r2⟩ := hR.2 hr
  refine ⟨?_, ?_⟩
  · rw [sI_q]
    exact rst_of iv eb ex e98 hC r1 c32 (h.2.2.1 _ hv _ c32) e126 e130 e131
  · rw [hz, ← e8]
    exact fpi_t (by rw [e8]; exact hI) hV2 h.2.1 (put_cg hC (put_of iv eb ex e98)) c32 hv (clr_of iv eb e106 eQ) r2 h85
theorem fp_y {s sc t : GS} {f : Nat → Int32} {P Q y8 x b z98 z106 v r : Int32} {r2 : Int} (hC : CEQL (s.1 61) (sc.1 61)) (hv : bt P v.toNatClampNeg = true) (iv : In v 0 31) (i8 : In y8 0 31) (eb : b = Int32.ofInt 1 <<< (v &&& 31)) (ex : x = sc.1 61 y8.toNatClampNeg) (e98 : z98 = x ||| b) (e106 : z106 = b ^^^ Int32.ofInt (-1)) (eQ : Q = P &&& z106) (hR : FRE f (s.2.2.1 60 3).toInt Q (upd (sc.1 61) y8.toNatClampNeg z98) (t.1 61) r.toInt) (hr : r.toInt ≠ 0) (hr2 : r2 ≠ 0) : FRE f (s.2.2.1 60 3).toInt P (s.1 61) (t.1 61) r2 := by
  have e8 : ((y8.toNatClampNeg : Nat) : Int) = y8.toInt := clx i8.1
  have c32 : y8.toNatClampNeg < 32 := by have := i8.2; omega
  exact fre_y hR hr (put_cg hC (put_of iv eb ex e98)) c32 hv (clr_of iv eb e106 eQ) hr2
theorem fp_e {f cl cl2 : Nat → Int32} {k r : Int} {P bs y8 : Int32} {v : Nat} {tr : Int} (h : FPI f k cl P v bs y8.toInt tr) (hv : bt P v = true) (i8 : 0 ≤ y8.toInt) (hk : k ≤ y8.toInt) (e : CEQL cl cl2) (hr : r = 0) : FRE f k P cl cl2 r := by
  have e8 : ((y8.toNatClampNeg : Nat) : Int) = y8.toInt := clx i8
  rw [← e8] at h hk
  exact fre_n h hv hk e hr
/-! setAside -/
def SAJ (f : Nat → Int32) (s t : GS) (m r : Int32) : Prop := ∃ n : Nat, (t.2.2.1 60 7).toInt = (s.2.2.1 60 7).toInt + (n : Int) ∧ PLJ f (s.2.2.1 60 3).toInt (s.1 61) (t.1 63) (s.2.2.1 60 7).toNatClampNeg m n r ∧ ∀ i : Nat, (i : Int) < (s.2.2.1 60 7).toInt → t.1 63 i = s.1 63 i
theorem saj_0 {f : Nat → Int32} {s : GS} {m : Int32} : SAJ f s s m m := ⟨0, by omega, rfl, fun _ _ => rfl⟩
theorem saj_s {f : Nat → Int32} {s t : GS} {m r z60 z85 w z93 z95 z : Int32} (h : SAJ f s t m r) (h0 : 0 ≤ (s.2.2.1 60 7).toInt) (e60 : z60 = t.2.2.1 60 7) (h85 : z85.toInt = z60.toInt + 1) (hb : bt r w.toNatClampNeg = true) (iw : In w 0 31) (e1 : z93 = Int32.ofInt 1 <<< (w &&& 31)) (e2 : z95 = z93 ^^^ Int32.ofInt (-1)) (e : z = r &&& z95) (hc : cb (f w.toNatClampNeg &&& r) < frc (s.2.2.1 60 3).toInt (s.1 61) (f w.toNatClampNeg)) : SAJ f s (sF (sI t 63 z60.toNatClampNeg w) 60 7 z85) m z := by
  obtain ⟨n, h1, h2, h3⟩ := h
  have ei : z60.toNatClampNeg = (s.2.2.1 60 7).toNatClampNeg + n := by
    show z60.toInt.toNat = (s.2.2.1 60 7).toInt.toNat + n
    rw [e60]
    omega
  have ea : (sF (sI t 63 z60.toNatClampNeg w) 60 7 z85).1 63 = upd (t.1 63) z60.toNatClampNeg w := by
    show (sI t 63 z60.toNatClampNeg w).1 63 = _
    rw [sI_q]
  refine ⟨n + 1, ?_, ?_, fun i hi => ?_⟩
  · rw [← sF_get, h85, e60, h1]
    omega
  · rw [ea]
    exact plj_s h2 hb iw e1 e2 e hc ei
  · rw [ea, up_n (by rw [ei]; show i ≠ (s.2.2.1 60 7).toInt.toNat + n; omega)]
    exact h3 i hi
theorem saj_c {f : Nat → Int32} {s sc : GS} {m r w z43 z44 z52 z53 : Int32} (h : SAJ f s sc m r) (e3 : sc.2.2.1 60 3 = s.2.2.1 60 3) (e61 : sc.1 61 = s.1 61) (e43 : z43 = f w.toNatClampNeg) (p44 : z44.toInt = (frc (sc.2.2.1 60 3).toInt (sc.1 61) z43 : Int)) (e52 : z52 = z43 &&& r) (p53 : z53.toInt = (cb z52 : Int)) (hc : z53.toInt < z44.toInt) : cb (f w.toNatClampNeg &&& r) < frc (s.2.2.1 60 3).toInt (s.1 61) (f w.toNatClampNeg) := by
  rw [e3, e61] at p44
  rw [← e43, ← e52]
  omega
theorem lf_s {l r w l2 m z93 z95 r2 : Int32} (h : ∀ u, bt l u = true → bt r u = true) (hl : lowB l w.toNatClampNeg) (iw : In w 0 31) (e1 : z93 = Int32.ofInt 1 <<< (w &&& 31)) (e2 : z95 = z93 ^^^ Int32.ofInt (-1)) (e : r2 = r &&& z95) (e3 : m = l - Int32.ofInt 1) (e4 : l2 = l &&& m) : ∀ u, bt l2 u = true → bt r2 u = true := fun u hu => by
  rw [lowB_clr hl e3 e4, Bool.and_eq_true] at hu
  exact (clr_of iw e1 e2 e u).mpr ⟨h u hu.1, by simpa using hu.2⟩
theorem lf_n {l r l2 m : Int32} (h : ∀ u, bt l u = true → bt r u = true) (e4 : l2 = l &&& m) : ∀ u, bt l2 u = true → bt r u = true := fun u hu => h u (bt_and1 e4 hu)
/-! takeBack -/
def TBJ (f : Nat → Int32) (s t : GS) (b : Int32) : Prop := ∀ (m : Int32) (cl0 : Nat → Int32), TBP f (s.2.2.1 60 3).toInt cl0 (s.1 61) (s.1 63) b.toNatClampNeg m ((s.2.2.1 60 7).toInt - b.toInt).toNat → TBP f (s.2.2.1 60 3).toInt cl0 (t.1 61) (s.1 63) b.toNatClampNeg m ((t.2.2.1 60 7).toInt - b.toInt).toNat
def BLK (f cl : Nat → Int32) (v : Nat) (y : Int) : Prop := ∀ d : Nat, (d : Int) < y → ∃ u, bt (cl d) u = true ∧ bt (f v) u = true
theorem blk_s {f cl : Nat → Int32} {v y x w z44 z : Int32} (h : BLK f cl v.toNatClampNeg y.toInt) (i0 : 0 ≤ y.toInt) (ex : x = cl y.toNatClampNeg) (ew : w = f v.toNatClampNeg) (e : z44 = x &&& w) (hne : z44.toInt ≠ 0) (hz : z.toInt = y.toInt + 1) : BLK f cl v.toNatClampNeg z.toInt := fun d hd => by
  have e8 : ((y.toNatClampNeg : Nat) : Int) = y.toInt := clx i0
  by_cases q : d = y.toNatClampNeg
  · obtain ⟨u, hu⟩ := bt_xs hne
    exact ⟨u, by rw [q, ← ex]; exact bt_and1 e hu, by rw [← ew]; exact bt_and2 e hu⟩
  · exact h d (by omega)
theorem tbj_s {f : Nat → Int32} {s t : GS} {b v y x z64 z65 z73 : Int32} (h : TBJ f s t b) (hs : SYR f) (hk : (s.2.2.1 60 3).toInt ≤ 32) (b0 : 0 ≤ b.toInt) (ev : v = s.1 63 ((t.2.2.1 60 7).toInt - 1).toNat) (iv : In v 0 31) (iy : In y 0 31) (hl : b.toInt < (t.2.2.1 60 7).toInt) (hB : BLK f (t.1 61) v.toNatClampNeg y.toInt) (hx : (s.2.2.1 60 3).toInt - 1 ≤ y.toInt ∨ ∀ u, bt (t.1 61 y.toNatClampNeg) u = true → bt (f v.toNatClampNeg) u = false) (ex : x = t.1 61 y.toNatClampNeg) (e64 : z64 = Int32.ofInt 1 <<< (v &&& 31)) (e65 : z65 = x ||| z64) (h73 : z73.toInt = (t.2.2.1 60 7).toInt - 1) : TBJ f s (sF (sI t 61 y.toNatClampNeg z65) 60 7 z73) b := by
  intro m cl0 hT
  have q := h m cl0 hT
  have e7 : (sF (sI t 61 y.toNatClampNeg z65) 60 7 z73).2.2.1 60 7 = z73 := sF_get.symm
  have e61 : (sF (sI t 61 y.toNatClampNeg z65) 60 7 z73).1 61 = upd (t.1 61) y.toNatClampNeg z65 := by
    show (sI t 61 y.toNatClampNeg z65).1 61 = _
    rw [sI_q]
  rw [e7, e61]
  obtain ⟨n, hn⟩ : ∃ n : Nat, n = (z73.toInt - b.toInt).toNat := ⟨_, rfl⟩
  rw [← hn]
  rw [show ((t.2.2.1 60 7).toInt - b.toInt).toNat = n + 1 by omega] at q
  have eb : b.toNatClampNeg = b.toInt.toNat := rfl
  have ei : b.toNatClampNeg + n = ((t.2.2.1 60 7).toInt - 1).toNat := by omega
  have e8 : ((y.toNatClampNeg : Nat) : Int) = y.toInt := clx iy.1
  have c32 : y.toNatClampNeg < 32 := by have := iy.2; omega
  have va : s.1 63 (b.toNatClampNeg + n) = v := by rw [ei]; exact ev.symm
  obtain ⟨c, c1, c2, c3⟩ := tbp_f q hk
  rw [va] at c3
  have free : ((y.toNatClampNeg : Nat) : Int) < (s.2.2.1 60 3).toInt ∧ ∀ u, bt (t.1 61 y.toNatClampNeg) u = true → bt (f v.toNatClampNeg) u = false := by
    have cy : y.toInt ≤ (c : Int) := by
      refine Classical.byContradiction fun z => ?_
      obtain ⟨u, u1, u2⟩ := hB c (by omega)
      rw [c3 u u1] at u2
      cases u2
    rcases hx with z | z
    · have e : c = y.toNatClampNeg := by omega
      rw [← e]
      exact ⟨c1, c3⟩
    · exact ⟨by omega, z⟩
  exact tbp_s q hs (by rw [va]; exact put_of iv e64 ex e65) c32 free.1 (by rw [va]; exact free.2)
/-! fill -/
def FJ (f : Nat → Int32) (s t : GS) (m rest : Int32) : Prop := ∃ n : Nat, (t.2.2.1 60 7).toInt = (s.2.2.1 60 7).toInt + (n : Int) ∧ (∀ i : Nat, (i : Int) < (s.2.2.1 60 7).toInt → t.1 63 i = s.1 63 i) ∧ FLJ f (s.2.2.1 60 3).toInt (s.1 61) (t.1 61) (t.1 63) (s.2.2.1 60 7).toNatClampNeg m n rest
theorem fj_0 {f : Nat → Int32} {s t : GS} {m r : Int32} {d : Int} (h : SAJ f s t m r) (hX : FLX f s m d) (e61 : t.1 61 = s.1 61) : FJ f s t m r := by
  obtain ⟨n, h1, h2, h3⟩ := h
  exact ⟨n, h1, h3, flj_0 h2 hX.2.1 hX.2.2.1 (fun c _ => by rw [e61])⟩
/-- the piece -/
theorem pc_in {f : Nat → Int32} {rest z42 seed piece : Int32} (e42 : z42 = -rest) (e43 : seed = rest &&& z42) (hF : FLD f seed rest piece) : ∀ u, bt piece u = true → bt rest u = true := fun u hu => by
  rcases fld_sb hF hu with q | q
  · exact bt_and1 e43 q
  · exact q
theorem fj_x {f : Nat → Int32} {s t : GS} {m rest piece : Int32} {d : Int} (h : FJ f s t m rest) (hX : FLX f s m d) (e3 : t.2.2.1 60 3 = s.2.2.1 60 3) (hp : ∀ u, bt piece u = true → bt rest u = true) : FLX f t piece d := by
  obtain ⟨n, h1, h2, h3⟩ := h
  obtain ⟨f1, f2, f3, f4, f5⟩ := hX
  have a := flj_c h3
  have b := cb_sub hp
  refine ⟨f1, by rw [e3]; exact flj_v h3, flj_u h3 hp, by omega, by omega⟩
theorem fj_s {f : Nat → Int32} {s t t2 : GS} {m rest seed piece z1 z r : Int32} {d : Int} (h : FJ f s t m rest) (hX : FLX f s m d) (h0 : 0 ≤ (s.2.2.1 60 7).toInt) (e3 : t.2.2.1 60 3 = s.2.2.1 60 3) (hF : FLD f seed rest piece) (hp : ∀ u, bt piece u = true → bt rest u = true) (hR : FRE f (t.2.2.1 60 3).toInt piece (t.1 61) (t2.1 61) r.toInt) (hA : ASI t t2) (hr : r.toInt ≠ 0) (e1 : z1 = piece ^^^ Int32.ofInt (-1)) (e : z = rest &&& z1) : FJ f s t2 m z := by
  obtain ⟨n, h1, h2, h3⟩ := h
  rw [e3] at hR
  have eb : (s.2.2.1 60 7).toNatClampNeg = (s.2.2.1 60 7).toInt.toNat := rfl
  exact ⟨n, hA.1.trans h1, fun i hi => (hA.2 i (by omega)).trans (h2 i hi), flj_s h3 hX.1 hF hp hR hr e1 e (fun j _ hj => hA.2 j (by omega))⟩
theorem fj_c {rest piece z1 z : Int32} {u : Nat} {i : Int} (h : i + (cb rest : Int) ≤ 32) (hr : bt rest u = true) (hp : bt piece u = true) (e1 : z1 = piece ^^^ Int32.ofInt (-1)) (e : z = rest &&& z1) {j : Int} (hj : j = i + 1) : j + (cb z : Int) ≤ 32 := by
  have q := cb_rm e1 e hr hp
  omega
theorem fj_z {rest : Int32} {i : Int} (h : i + (cb rest : Int) ≤ 32) (hi : 32 ≤ i) : ∀ u, bt rest u = false := fun u => bf_f (fun q => by
  have := cb_pos q
  omega)
/-- the end of fill -/
theorem fj_e {f : Nat → Int32} {s t t2 : GS} {m rest b : Int32} {d : Int} {r : Int} (h : FJ f s t m rest) (hX : FLX f s m d) (h0 : 0 ≤ (s.2.2.1 60 7).toInt) (hz : ∀ u, bt rest u = false) (eb : b = s.2.2.1 60 7) (e3 : t.2.2.1 60 3 = s.2.2.1 60 3) (hT : TBJ f t t2 b) (h7 : (t2.2.2.1 60 7).toInt = b.toInt) (e63 : t2.1 63 = t.1 63) (hr : r ≠ 0) : FRE f (s.2.2.1 60 3).toInt m (s.1 61) (t2.1 61) r ∧ ASI s t2 := by
  obtain ⟨n, h1, h2, h3⟩ := h
  have q := hT m (s.1 61) (by
    rw [e3, eb, show ((t.2.2.1 60 7).toInt - (s.2.2.1 60 7).toInt).toNat = n by omega]
    exact flj_e h3 hz)
  rw [h7, e3, show (b.toInt - b.toInt).toNat = 0 by omega] at q
  refine ⟨⟨fun _ => tbp_e q, fun z => absurd z hr⟩, by rw [h7, eb], fun i hi => by rw [e63]; exact h2 i hi⟩
/-- a piece did not do -/
def F65 (f : Nat → Int32) (s t : GS) (m : Int32) (y : Int) : Prop := RSI (s.2.2.1 60 3).toInt (s.1 61) (t.1 61) m y ∧ (∀ χ, ¬ SOm f (s.2.2.1 60 3).toInt (s.1 61) m χ) ∧ ∀ i : Nat, (i : Int) < (s.2.2.1 60 7).toInt → t.1 63 i = s.1 63 i
theorem f65_0 {f : Nat → Int32} {s t t2 : GS} {m rest piece r : Int32} {d y : Int} (h : FJ f s t m rest) (hX : FLX f s m d) (e3 : t.2.2.1 60 3 = s.2.2.1 60 3) (hp : ∀ u, bt piece u = true → bt rest u = true) (hR : FRE f (t.2.2.1 60 3).toInt piece (t.1 61) (t2.1 61) r.toInt) (hA : ASI t t2) (hr : r.toInt = 0) (hy : y = 0) : F65 f s t2 m y := by
  obtain ⟨n, h1, h2, h3⟩ := h
  rw [e3] at hR
  obtain ⟨r1, r2⟩ := hR.2 hr
  exact ⟨rsi_0 h3 r1 hy, flj_f h3 hX.2.1 hp r2, fun i hi => (hA.2 i (by omega)).trans (h2 i hi)⟩
theorem f65_s {f : Nat → Int32} {s t : GS} {m y x z84 z85 w : Int32} {d : Int} (h : F65 f s t m y.toInt) (hX : FLX f s m d) (iy : In y 0 31) (ex : x = t.1 61 y.toNatClampNeg) (e84 : z84 = m ^^^ Int32.ofInt (-1)) (e85 : z85 = x &&& z84) (hw : w.toInt = y.toInt + 1) : F65 f s (sI t 61 y.toNatClampNeg z85) m w.toInt := by
  have e8 : ((y.toNatClampNeg : Nat) : Int) = y.toInt := clx iy.1
  have c32 : y.toNatClampNeg < 32 := by have := iy.2; omega
  refine ⟨?_, h.2.1, fun i hi => by rw [sI_p rfl]; exact h.2.2 i hi⟩
  rw [sI_q]
  exact rsi_s h.1 hX.2.2.1 e8.symm c32 hw e84 (by rw [e85, ex])
theorem f65_e {f : Nat → Int32} {s t : GS} {m y b : Int32} {d r : Int} (h : F65 f s t m y.toInt) (hX : FLX f s m d) (hk : (s.2.2.1 60 3).toInt ≤ y.toInt) (eb : b = s.2.2.1 60 7) (hr : r = 0) : FRE f (s.2.2.1 60 3).toInt m (s.1 61) ((sF t 60 7 b).1 61) r ∧ ASI s (sF t 60 7 b) := by
  refine ⟨⟨fun z => absurd hr z, fun _ => ⟨rsi_e h.1 hX.2.1 hk, h.2.1⟩⟩, by rw [← sF_get, eb], fun i hi => h.2.2 i hi⟩
end
