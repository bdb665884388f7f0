section
/-! GRAPHS AS THEY ARE SEEN, AND WHAT CHANGES DO TO THEM -/
/-- labels, from, to, weight, room, kind; how many nodes, which version -/
abbrev GVW : Type := (Nat → Int32) × (Nat → Int32) × (Nat → Int32) × (Nat → Int32) × (Nat → Int32) × (Nat → Int32) × Int × Int
def gvC (s : GS) : GVW := (s.1 3, s.1 4, s.1 5, s.1 6, s.1 7, s.1 8, (s.2.2.1 2 1).toInt, (s.2.2.1 2 0).toInt)
theorem gvC_mk {t : GS} {a b c d e f : Nat → Int32} {n v : Int} (h1 : t.1 3 = a) (h2 : t.1 4 = b) (h3 : t.1 5 = c) (h4 : t.1 6 = d) (h5 : t.1 7 = e) (h6 : t.1 8 = f) (h7 : (t.2.2.1 2 1).toInt = n) (h8 : (t.2.2.1 2 0).toInt = v) : gvC t = (a, b, c, d, e, f, n, v) := by
  unfold gvC
  rw [h1, h2, h3, h4, h5, h6, h7, h8]
def gqN (g : GVW) (p : Nat) (l : Int32) : GVW := (upd g.1 p l, g.2.1, g.2.2.1, g.2.2.2.1, g.2.2.2.2.1, g.2.2.2.2.2.1, g.2.2.2.2.2.2.1 + 1, g.2.2.2.2.2.2.2 + 1)
def gqA (g : GVW) (p : Nat) (a b w r k : Int32) : GVW := (g.1, upd g.2.1 p a, upd g.2.2.1 p b, upd g.2.2.2.1 p w, upd g.2.2.2.2.1 p r, upd g.2.2.2.2.2.1 p k, g.2.2.2.2.2.2.1, g.2.2.2.2.2.2.2 + 1)
def gqD (g : GVW) (p : Nat) : GVW := (g.1, upd g.2.1 p (Int32.ofInt (-1)), g.2.2.1, g.2.2.2.1, g.2.2.2.2.1, g.2.2.2.2.2.1, g.2.2.2.2.2.2.1, g.2.2.2.2.2.2.2 + 1)
def gqW (g : GVW) (p : Nat) (w v : Int32) : GVW := (g.1, g.2.1, g.2.2.1, (if w.toInt = 0 then upd g.2.2.2.1 p v else g.2.2.2.1), (if w.toInt = 1 then upd g.2.2.2.2.1 p v else g.2.2.2.2.1), (if w.toInt ≠ 0 ∧ w.toInt ≠ 1 then upd g.2.2.2.2.2.1 p v else g.2.2.2.2.2.1), g.2.2.2.2.2.2.1, g.2.2.2.2.2.2.2 + 1)
def gqL (g : GVW) (p : Nat) (l : Int32) : GVW := (upd g.1 p l, g.2.1, g.2.2.1, g.2.2.2.1, g.2.2.2.2.1, g.2.2.2.2.2.1, g.2.2.2.2.2.2.1, g.2.2.2.2.2.2.2 + 1)
def gqP (g : GVW) (d : Int) (p : Nat) (a b : Int32) : GVW := if d = 0 then gqN g p a else if d = 2 then gqD g p else if d = 3 then gqW g p a b else gqL g p a
/-- the row k of the log r, carried out -/
def gqR (g : GVW) (r : Nat → Int32) (k : Nat) : GVW := if (r (7 * k)).toInt = 1 then gqA g (r (7 * k + 1)).toNatClampNeg (r (7 * k + 2)) (r (7 * k + 3)) (r (7 * k + 4)) (r (7 * k + 5)) (r (7 * k + 6)) else gqP g (r (7 * k)).toInt (r (7 * k + 1)).toNatClampNeg (r (7 * k + 2)) (r (7 * k + 3))
theorem gqP_0 {g : GVW} {d : Int} {p : Nat} {a b : Int32} (h : d = 0) : gqP g d p a b = gqN g p a := if_pos h
theorem gqP_2 {g : GVW} {d : Int} {p : Nat} {a b : Int32} (h : d = 2) : gqP g d p a b = gqD g p := by
  unfold gqP
  rw [if_neg (by omega), if_pos h]
theorem gqP_3 {g : GVW} {d : Int} {p : Nat} {a b : Int32} (h : d = 3) : gqP g d p a b = gqW g p a b := by
  unfold gqP
  rw [if_neg (by omega), if_neg (by omega), if_pos h]
theorem gqP_4 {g : GVW} {d : Int} {p : Nat} {a b : Int32} (h : d = 4) : gqP g d p a b = gqL g p a := by
  unfold gqP
  rw [if_neg (by omega), if_neg (by omega), if_neg (by omega)]
theorem gqR_1 {g : GVW} {r : Nat → Int32} {k : Nat} (h : (r (7 * k)).toInt = 1) : gqR g r k = gqA g (r (7 * k + 1)).toNatClampNeg (r (7 * k + 2)) (r (7 * k + 3)) (r (7 * k + 4)) (r (7 * k + 5)) (r (7 * k + 6)) := if_pos h
theorem gqR_n {g : GVW} {r : Nat → Int32} {k : Nat} (h : (r (7 * k)).toInt ≠ 1) : gqR g r k = gqP g (r (7 * k)).toInt (r (7 * k + 1)).toNatClampNeg (r (7 * k + 2)) (r (7 * k + 3)) := if_neg h
theorem gqR_0 {g : GVW} {r : Nat → Int32} {k : Nat} (h : (r (7 * k)).toInt = 0) : gqR g r k = gqN g (r (7 * k + 1)).toNatClampNeg (r (7 * k + 2)) := by rw [gqR_n (by omega), gqP_0 h]
theorem gqR_2 {g : GVW} {r : Nat → Int32} {k : Nat} (h : (r (7 * k)).toInt = 2) : gqR g r k = gqD g (r (7 * k + 1)).toNatClampNeg := by rw [gqR_n (by omega), gqP_2 h]
theorem gqR_3 {g : GVW} {r : Nat → Int32} {k : Nat} (h : (r (7 * k)).toInt = 3) : gqR g r k = gqW g (r (7 * k + 1)).toNatClampNeg (r (7 * k + 2)) (r (7 * k + 3)) := by rw [gqR_n (by omega), gqP_3 h]
theorem gqR_4 {g : GVW} {r : Nat → Int32} {k : Nat} (h0 : (r (7 * k)).toInt ≠ 0) (h1 : (r (7 * k)).toInt ≠ 1) (h2 : (r (7 * k)).toInt ≠ 2) (h3 : (r (7 * k)).toInt ≠ 3) : gqR g r k = gqL g (r (7 * k + 1)).toNatClampNeg (r (7 * k + 2)) := by
  rw [gqR_n h1]
  unfold gqP
  rw [if_neg h0, if_neg h2, if_neg h3]
/-- which places are taken -/
def ctg (f : Nat → Int32) : Nat → Bool := fun i => decide ((f i).toInt ≠ -1)
/-- whatever is there lies below top -/
def TQ (s : GS) : Prop := ∀ p : Nat, p < 160 → (s.1 4 p).toInt ≠ -1 → (p : Int) < (s.2.2.1 2 3).toInt
theorem tq_up {s t : GS} {p : Nat} {a : Int32} (h : TQ s) (hr : t.1 4 = upd (s.1 4) p a) (h1 : (s.2.2.1 2 3).toInt ≤ (t.2.2.1 2 3).toInt) (h2 : (p : Int) < (t.2.2.1 2 3).toInt) : TQ t := by
  intro q hq hn
  by_cases c : q = p
  · rw [c]; exact h2
  · rw [hr, ug_ne c] at hn
    have := h q hq hn
    omega
theorem tq_dn {s t : GS} {p : Nat} (h : TQ s) (hr : t.1 4 = upd (s.1 4) p (Int32.ofInt (-1))) (h1 : (t.2.2.1 2 3) = (s.2.2.1 2 3)) : TQ t := by
  intro q hq hn
  rw [h1]
  by_cases c : q = p
  · rw [c, hr, ug_at] at hn; exact absurd rfl hn
  · rw [hr, ug_ne c] at hn
    exact h q hq hn
theorem tq_lw {s t : GS} {j : Nat} {z : Int32} (h : TQ s) (hr : t.1 4 = s.1 4) (hz : z = s.1 4 j) (hz1 : z.toInt = -1) (h1 : (t.2.2.1 2 3).toInt = (j : Int)) (h2 : (s.2.2.1 2 3).toInt = (j : Int) + 1) : TQ t := by
  intro q hq hn
  rw [hr] at hn
  have h3 := h q hq hn
  have h4 : q ≠ j := fun c => by rw [c, ← hz] at hn; exact hn hz1
  omega
theorem tq_cg {s t : GS} (h : TQ s) (hr : t.1 4 = s.1 4) (h1 : (t.2.2.1 2 3) = (s.2.2.1 2 3)) : TQ t := by
  intro q hq hn
  rw [hr] at hn
  rw [h1]
  exact h q hq hn
/-- a place with an arc, a node, a value that fits -/
def HAC (s : GS) (x : Int32) : Prop := 0 ≤ x.toInt ∧ x.toInt ≤ 159 ∧ (s.1 4 x.toNatClampNeg).toInt ≠ -1
def HNC (s : GS) (x : Int32) : Prop := 0 ≤ x.toInt ∧ x.toInt < (s.2.2.1 2 1).toInt
def GVL (w v : Int32) : Prop := (w.toInt = 0 ∧ In v (-1000000) 1000000) ∨ (w.toInt = 1 ∧ In v 0 1000000) ∨ (w.toInt = 2 ∧ In v 0 25)
/-- throws that say why -/
noncomputable def gEx (Z : AmZ) (A : Nat → Nat) (ex : va_W) (L : FM) (s : GS) (P Q : Prop) : AmX := fun e u => ((e = am_IA ∧ P) ∨ (e = am_IS ∧ Q)) ∧ ∃ t, Inv t ∧ Fr L s t ∧ u = WW Z A t ++ ex
/-- a new row of the log -/
theorem nt_v {w : Nat → Int32} {k : Nat} {d x a b : Int32} : (upd (upd (upd (upd w (7 * k) d) (7 * k + 1) x) (7 * k + 2) a) (7 * k + 3) b) (7 * k) = d ∧ (upd (upd (upd (upd w (7 * k) d) (7 * k + 1) x) (7 * k + 2) a) (7 * k + 3) b) (7 * k + 1) = x ∧ (upd (upd (upd (upd w (7 * k) d) (7 * k + 1) x) (7 * k + 2) a) (7 * k + 3) b) (7 * k + 2) = a ∧ (upd (upd (upd (upd w (7 * k) d) (7 * k + 1) x) (7 * k + 2) a) (7 * k + 3) b) (7 * k + 3) = b := by
  refine ⟨?_, ?_, ?_, ug_at⟩
  · rw [ug_ne (by omega), ug_ne (by omega), ug_ne (by omega), ug_at]
  · rw [ug_ne (by omega), ug_ne (by omega), ug_at]
  · rw [ug_ne (by omega), ug_at]
theorem ar_v {w : Nat → Int32} {k : Nat} {d x f t g r c : Int32} {u : Nat → Int32} (h : u = upd (upd (upd (upd (upd (upd (upd w (7 * k) d) (7 * k + 1) x) (7 * k + 2) f) (7 * k + 3) t) (7 * k + 4) g) (7 * k + 5) r) (7 * k + 6) c) : u (7 * k) = d ∧ u (7 * k + 1) = x ∧ u (7 * k + 2) = f ∧ u (7 * k + 3) = t ∧ u (7 * k + 4) = g ∧ u (7 * k + 5) = r ∧ u (7 * k + 6) = c := by
  subst h
  refine ⟨?_, ?_, ?_, ?_, ?_, ?_, ug_at⟩
  · rw [ug_ne (by omega), ug_ne (by omega), ug_ne (by omega), ug_ne (by omega), ug_ne (by omega), ug_ne (by omega), ug_at]
  · rw [ug_ne (by omega), ug_ne (by omega), ug_ne (by omega), ug_ne (by omega), ug_ne (by omega), ug_at]
  · rw [ug_ne (by omega), ug_ne (by omega), ug_ne (by omega), ug_ne (by omega), ug_at]
  · rw [ug_ne (by omega), ug_ne (by omega), ug_ne (by omega), ug_at]
  · rw [ug_ne (by omega), ug_ne (by omega), ug_at]
  · rw [ug_ne (by omega), ug_at]
theorem gqR_nt {g : GVW} {r : Nat → Int32} {k : Nat} {d x a b : Int32} (hd : d.toInt ≠ 1) (h : r (7 * k) = d ∧ r (7 * k + 1) = x ∧ r (7 * k + 2) = a ∧ r (7 * k + 3) = b) : gqR g r k = gqP g d.toInt x.toNatClampNeg a b := by
  rw [gqR_n (by rw [h.1]; exact hd), h.1, h.2.1, h.2.2.1, h.2.2.2]
theorem gvC_cg {s t : GS} {L : FM} (h : Fr L s t) (hq : (qI L.1 3 && qI L.1 4 && qI L.1 5 && qI L.1 6 && qI L.1 7 && qI L.1 8 && qF L.2.2.1 2 1 && qF L.2.2.1 2 0) = true) : gvC t = gvC s := by
  simp only [Bool.and_eq_true] at hq
  obtain ⟨⟨⟨⟨⟨⟨⟨q1, q2⟩, q3⟩, q4⟩, q5⟩, q6⟩, q7⟩, q8⟩ := hq
  unfold gvC
  rw [h.1 3 q1, h.1 4 q2, h.1 5 q3, h.1 6 q4, h.1 7 q5, h.1 8 q6, h.2.2.1 2 1 q7, h.2.2.1 2 0 q8]
theorem tq_fr {s t : GS} {L : FM} (hT : TQ s) (h : Fr L s t) (hq : (qI L.1 4 && qF L.2.2.1 2 3) = true) : TQ t := by
  rw [Bool.and_eq_true] at hq
  exact tq_cg hT (h.1 4 hq.1) (h.2.2.1 2 3 hq.2)
/-! the reference's -/
/-- what the change k of the reference's log does to its graph g, row by row -/
def RP (s t : GS) (k g : Nat) : Prop :=
  ((s.1 118 k).toInt = 0 → t.1 111 = upd (s.1 111) (32 * g + (s.1 110 g).toNatClampNeg) (s.1 119 k) ∧ t.1 112 = s.1 112 ∧ t.1 113 = s.1 113 ∧ t.1 114 = s.1 114 ∧ t.1 115 = s.1 115 ∧ t.1 116 = s.1 116 ∧ t.1 117 = s.1 117) ∧
  ((s.1 118 k).toInt = 1 → t.1 111 = s.1 111 ∧ (∃ v : Int32, v.toInt ≠ 0 ∧ t.1 112 = upd (s.1 112) (160 * g + (s.1 119 k).toNatClampNeg) (v)) ∧ t.1 113 = upd (s.1 113) (160 * g + (s.1 119 k).toNatClampNeg) (s.1 120 k) ∧ t.1 114 = upd (s.1 114) (160 * g + (s.1 119 k).toNatClampNeg) (s.1 121 k) ∧ t.1 115 = upd (s.1 115) (160 * g + (s.1 119 k).toNatClampNeg) (s.1 122 k) ∧ t.1 116 = upd (s.1 116) (160 * g + (s.1 119 k).toNatClampNeg) (s.1 123 k) ∧ t.1 117 = upd (s.1 117) (160 * g + (s.1 119 k).toNatClampNeg) (s.1 124 k)) ∧
  ((s.1 118 k).toInt = 2 → t.1 111 = s.1 111 ∧ (∃ v : Int32, v.toInt = 0 ∧ t.1 112 = upd (s.1 112) (160 * g + (s.1 119 k).toNatClampNeg) (v)) ∧ t.1 113 = s.1 113 ∧ t.1 114 = s.1 114 ∧ t.1 115 = s.1 115 ∧ t.1 116 = s.1 116 ∧ t.1 117 = s.1 117) ∧
  ((s.1 118 k).toInt = 3 → t.1 111 = s.1 111 ∧ t.1 112 = s.1 112 ∧ t.1 113 = s.1 113 ∧ t.1 114 = s.1 114 ∧ t.1 115 = (if (s.1 120 k).toInt = 0 then upd (s.1 115) (160 * g + (s.1 119 k).toNatClampNeg) (s.1 121 k) else s.1 115) ∧ t.1 116 = (if (s.1 120 k).toInt = 1 then upd (s.1 116) (160 * g + (s.1 119 k).toNatClampNeg) (s.1 121 k) else s.1 116) ∧ t.1 117 = (if (s.1 120 k).toInt ≠ 0 ∧ (s.1 120 k).toInt ≠ 1 then upd (s.1 117) (160 * g + (s.1 119 k).toNatClampNeg) (s.1 121 k) else s.1 117)) ∧
  ((s.1 118 k).toInt = 4 → t.1 111 = upd (s.1 111) (32 * g + (s.1 119 k).toNatClampNeg) (s.1 120 k) ∧ t.1 112 = s.1 112 ∧ t.1 113 = s.1 113 ∧ t.1 114 = s.1 114 ∧ t.1 115 = s.1 115 ∧ t.1 116 = s.1 116 ∧ t.1 117 = s.1 117)
section RP
variable {s t : GS} {k g j : Nat}
theorem rp_0 {v : Int32} (h0 : (s.1 118 k).toInt = 0) (hj : j = 32 * g + (s.1 110 g).toNatClampNeg) (hv : v = s.1 119 k) (h1 : t.1 111 = upd (s.1 111) j v) (h2 : t.1 112 = s.1 112) (h3 : t.1 113 = s.1 113) (h4 : t.1 114 = s.1 114) (h5 : t.1 115 = s.1 115) (h6 : t.1 116 = s.1 116) (h7 : t.1 117 = s.1 117) : RP s t k g := by
  subst hj hv
  exact ⟨fun _ => ⟨h1, h2, h3, h4, h5, h6, h7⟩, fun h => absurd h (by omega), fun h => absurd h (by omega), fun h => absurd h (by omega), fun h => absurd h (by omega)⟩
theorem rp_1 {v b c d e f : Int32} (h0 : (s.1 118 k).toInt = 1) (hj : j = 160 * g + (s.1 119 k).toNatClampNeg) (hv : v.toInt ≠ 0) (hb : b = s.1 120 k) (hc : c = s.1 121 k) (hd : d = s.1 122 k) (he : e = s.1 123 k) (hf : f = s.1 124 k) (h1 : t.1 111 = s.1 111) (h2 : t.1 112 = upd (s.1 112) j v) (h3 : t.1 113 = upd (s.1 113) j b) (h4 : t.1 114 = upd (s.1 114) j c) (h5 : t.1 115 = upd (s.1 115) j d) (h6 : t.1 116 = upd (s.1 116) j e) (h7 : t.1 117 = upd (s.1 117) j f) : RP s t k g := by
  subst hj hb hc hd he hf
  exact ⟨fun h => absurd h (by omega), fun _ => ⟨h1, ⟨v, hv, h2⟩, h3, h4, h5, h6, h7⟩, fun h => absurd h (by omega), fun h => absurd h (by omega), fun h => absurd h (by omega)⟩
theorem rp_2 {v : Int32} (h0 : (s.1 118 k).toInt = 2) (hj : j = 160 * g + (s.1 119 k).toNatClampNeg) (hv : v.toInt = 0) (h1 : t.1 111 = s.1 111) (h2 : t.1 112 = upd (s.1 112) j v) (h3 : t.1 113 = s.1 113) (h4 : t.1 114 = s.1 114) (h5 : t.1 115 = s.1 115) (h6 : t.1 116 = s.1 116) (h7 : t.1 117 = s.1 117) : RP s t k g := by
  subst hj
  exact ⟨fun h => absurd h (by omega), fun h => absurd h (by omega), fun _ => ⟨h1, ⟨v, hv, h2⟩, h3, h4, h5, h6, h7⟩, fun h => absurd h (by omega), fun h => absurd h (by omega)⟩
theorem rp_3 (h0 : (s.1 118 k).toInt = 3) (h1 : t.1 111 = s.1 111) (h2 : t.1 112 = s.1 112) (h3 : t.1 113 = s.1 113) (h4 : t.1 114 = s.1 114) (h5 : t.1 115 = (if (s.1 120 k).toInt = 0 then upd (s.1 115) (160 * g + (s.1 119 k).toNatClampNeg) (s.1 121 k) else s.1 115)) (h6 : t.1 116 = (if (s.1 120 k).toInt = 1 then upd (s.1 116) (160 * g + (s.1 119 k).toNatClampNeg) (s.1 121 k) else s.1 116)) (h7 : t.1 117 = (if (s.1 120 k).toInt ≠ 0 ∧ (s.1 120 k).toInt ≠ 1 then upd (s.1 117) (160 * g + (s.1 119 k).toNatClampNeg) (s.1 121 k) else s.1 117)) : RP s t k g :=
  ⟨fun h => absurd h (by omega), fun h => absurd h (by omega), fun h => absurd h (by omega), fun _ => ⟨h1, h2, h3, h4, h5, h6, h7⟩, fun h => absurd h (by omega)⟩
theorem rp_4 {v : Int32} (h0 : (s.1 118 k).toInt = 4) (hj : j = 32 * g + (s.1 119 k).toNatClampNeg) (hv : v = s.1 120 k) (h1 : t.1 111 = upd (s.1 111) j v) (h2 : t.1 112 = s.1 112) (h3 : t.1 113 = s.1 113) (h4 : t.1 114 = s.1 114) (h5 : t.1 115 = s.1 115) (h6 : t.1 116 = s.1 116) (h7 : t.1 117 = s.1 117) : RP s t k g := by
  subst hj hv
  exact ⟨fun h => absurd h (by omega), fun h => absurd h (by omega), fun h => absurd h (by omega), fun h => absurd h (by omega), fun _ => ⟨h1, h2, h3, h4, h5, h6, h7⟩⟩
end RP
/-- from, where an arc is there -/
def thf (th fr : Nat → Int32) : Nat → Int32 := fun p => if (th p).toInt = 0 then Int32.ofInt (-1) else fr p
theorem thf_up {th fr : Nat → Int32} {p : Nat} {v a : Int32} (hv : v.toInt ≠ 0) : thf (upd th p v) (upd fr p a) = upd (thf th fr) p a := by
  funext q
  unfold thf
  by_cases c : q = p
  · subst c
    rw [ug_at, ug_at, ug_at, if_neg hv]
  · rw [ug_ne c, ug_ne c, ug_ne c]
theorem thf_dn {th fr : Nat → Int32} {p : Nat} {v : Int32} (hv : v.toInt = 0) : thf (upd th p v) fr = upd (thf th fr) p (Int32.ofInt (-1)) := by
  funext q
  unfold thf
  by_cases c : q = p
  · subst c
    rw [ug_at, ug_at, if_pos hv]
  · rw [ug_ne c, ug_ne c]
def gvR (s : GS) : GVW := (s.1 111, thf (s.1 112) (s.1 113), s.1 114, s.1 115, s.1 116, s.1 117, (s.1 110 0).toInt, (s.2.2.1 109 9).toInt)
def MKP (s t : GS) (w a b c d e f : Int32) : Prop := (w.toInt = 0 → gvR t = gqN (gvR s) (s.1 110 0).toNatClampNeg a) ∧ (w.toInt = 1 → gvR t = gqA (gvR s) a.toNatClampNeg b c d e f) ∧ (w.toInt = 2 → gvR t = gqD (gvR s) a.toNatClampNeg) ∧ (w.toInt = 3 → gvR t = gqW (gvR s) a.toNatClampNeg b c) ∧ (w.toInt = 4 → gvR t = gqL (gvR s) a.toNatClampNeg b)
theorem gvR_mk {t : GS} {a b c d e f : Nat → Int32} {n v : Int} (h1 : t.1 111 = a) (h2 : thf (t.1 112) (t.1 113) = b) (h3 : t.1 114 = c) (h4 : t.1 115 = d) (h5 : t.1 116 = e) (h6 : t.1 117 = f) (h7 : (t.1 110 0).toInt = n) (h8 : (t.2.2.1 109 9).toInt = v) : gvR t = (a, b, c, d, e, f, n, v) := by
  unfold gvR
  rw [h1, h2, h3, h4, h5, h6, h7, h8]
theorem mkp_i {s u v t : GS} {ch : Nat} {w a b c d e f : Int32} (hm : PMK s t w.toInt a.toNatClampNeg) (hp : RP u v ch 0) (w1 : u.1 118 ch = w) (w2 : u.1 119 ch = a) (w3 : u.1 120 ch = b) (w4 : u.1 121 ch = c) (w5 : u.1 122 ch = d) (w6 : u.1 123 ch = e) (w7 : u.1 124 ch = f) (r0 : u.1 110 = s.1 110) (r1 : u.1 111 = s.1 111) (r2 : u.1 112 = s.1 112) (r3 : u.1 113 = s.1 113) (r4 : u.1 114 = s.1 114) (r5 : u.1 115 = s.1 115) (r6 : u.1 116 = s.1 116) (r7 : u.1 117 = s.1 117) (ht : t.1 = v.1) (hc : (t.2.2.1 109 9).toInt = (s.2.2.1 109 9).toInt + 1) : MKP s t w a b c d e f := by
  unfold RP at hp
  rw [w1, w2, w3, w4, w5, w6, w7, r0, r1, r2, r3, r4, r5, r6, r7, ← ht] at hp
  obtain ⟨p0, p1, p2, p3, p4⟩ := hp
  simp only [Nat.mul_zero, Nat.zero_add] at p0 p1 p2 p3 p4
  refine ⟨fun h => ?_, fun h => ?_, fun h => ?_, fun h => ?_, fun h => ?_⟩
  · obtain ⟨g1, g2, g3, g4, g5, g6, g7⟩ := p0 h
    exact gvR_mk g1 (by rw [g2, g3]; rfl) g4 g5 g6 g7 (hm.1 h) hc
  · obtain ⟨g1, ⟨x, hx, g2⟩, g3, g4, g5, g6, g7⟩ := p1 h
    exact gvR_mk g1 (by rw [g2, g3]; exact thf_up hx) g4 g5 g6 g7 (hm.2.1 (by omega)) hc
  · obtain ⟨g1, ⟨x, hx, g2⟩, g3, g4, g5, g6, g7⟩ := p2 h
    exact gvR_mk g1 (by rw [g2, g3]; exact thf_dn hx) g4 g5 g6 g7 (hm.2.1 (by omega)) hc
  · obtain ⟨g1, g2, g3, g4, g5, g6, g7⟩ := p3 h
    exact gvR_mk g1 (by rw [g2, g3]; rfl) g4 g5 g6 g7 (hm.2.1 (by omega)) hc
  · obtain ⟨g1, g2, g3, g4, g5, g6, g7⟩ := p4 h
    exact gvR_mk g1 (by rw [g2, g3]; rfl) g4 g5 g6 g7 (hm.2.1 (by omega)) hc
theorem gvR_cg {s t : GS} {L : FM} (h : Fr L s t) (hq : (qI L.1 110 && qI L.1 111 && qI L.1 112 && qI L.1 113 && qI L.1 114 && qI L.1 115 && qI L.1 116 && qI L.1 117 && qF L.2.2.1 109 9) = true) : gvR t = gvR s := by
  simp only [Bool.and_eq_true] at hq
  obtain ⟨⟨⟨⟨⟨⟨⟨⟨q0, q1⟩, q2⟩, q3⟩, q4⟩, q5⟩, q6⟩, q7⟩, q8⟩ := hq
  unfold gvR
  rw [h.1 110 q0, h.1 111 q1, h.1 112 q2, h.1 113 q3, h.1 114 q4, h.1 115 q5, h.1 116 q6, h.1 117 q7, h.2.2.1 109 9 q8]
/-- a place with an arc, a node of the reference -/
def HAR (s : GS) (x : Int32) : Prop := 0 ≤ x.toInt ∧ x.toInt ≤ 159 ∧ (s.1 112 x.toNatClampNeg).toInt ≠ 0
def HNR (s : GS) (x : Int32) : Prop := 0 ≤ x.toInt ∧ x.toInt < (s.1 110 0).toInt
/-- code and answer of a call that may be refused: P the arguments are good, Q the time is -/
def CDR (s t : GS) (P Q R : Prop) : Prop := ((t.2.2.1 109 0).toInt = 1 ∧ ¬ P ∧ gvR t = gvR s) ∨ ((t.2.2.1 109 0).toInt = 2 ∧ P ∧ ¬ Q ∧ gvR t = gvR s) ∨ ((t.2.2.1 109 0).toInt = 0 ∧ P ∧ Q ∧ R)
end
section
/-! TOKENS OF A TEXT OF COMMANDS -/
def tkD (c : Int32) : Prop := 48 ≤ c.toInt ∧ c.toInt ≤ 57
/-- blanks from a on, up to p -/
def tkS (T : Nat → Int32) (n a p : Nat) : Prop := a ≤ p ∧ p ≤ n ∧ (∀ i, a ≤ i → i < p → (T i).toInt = 32) ∧ (p < n → (T p).toInt ≠ 32)
/-- digits from a on, up to p -/
def tkG (T : Nat → Int32) (n a p : Nat) : Prop := a ≤ p ∧ p ≤ n ∧ (∀ i, a ≤ i → i < p → tkD (T i)) ∧ (p < n → ¬ tkD (T p))
/-- the number of the k digits from a on -/
def tkN (T : Nat → Int32) (a : Nat) : Nat → Int
  | 0 => 0
  | k + 1 => 10 * tkN T a k + ((T (a + k)).toInt - 48)
/-- where the digits of a number at p begin -/
def tkQ (T : Nat → Int32) (n p q : Nat) : Prop := (q = p ∧ p < n ∧ tkD (T p)) ∨ (q = p + 1 ∧ (T p).toInt = 45 ∧ p + 1 < n ∧ tkD (T (p + 1)))
def tkL (c : Int32) : Prop := 97 ≤ c.toInt ∧ c.toInt ≤ 122
/-- the token from a on: its place p, its end e, its kind k (0 none, 1 letter, 2 number, 3 semicolon, 4 no token, 5 too long), its value v -/
def TKN (T : Nat → Int32) (n a p e : Nat) (k v : Int) : Prop := tkS T n a p ∧
  ((p = n ∧ e = p ∧ k = 0) ∨
   (p < n ∧ tkL (T p) ∧ e = p + 1 ∧ k = 1 ∧ v = (T p).toInt - 97) ∨
   (∃ q, tkQ T n p q ∧ tkG T n q e ∧ ((e - q ≤ 7 ∧ k = 2 ∧ v = (if q = p then tkN T q (e - q) else - tkN T q (e - q))) ∨ (7 < e - q ∧ k = 5))) ∨
   (p < n ∧ (T p).toInt = 59 ∧ e = p + 1 ∧ k = 3 ∧ v = 59) ∨
   (p < n ∧ ¬ tkL (T p) ∧ (T p).toInt ≠ 59 ∧ (∀ q, ¬ tkQ T n p q) ∧ e = p + 1 ∧ k = 4))
section TKU
variable {T : Nat → Int32} {n a : Nat}
theorem tkS_u {p q : Nat} (h : tkS T n a p) (g : tkS T n a q) : p = q := by
  obtain ⟨h1, h2, h3, h4⟩ := h
  obtain ⟨g1, g2, g3, g4⟩ := g
  rcases Nat.lt_trichotomy p q with c | c | c
  · exact absurd (g3 p h1 c) (h4 (by omega))
  · exact c
  · exact absurd (h3 q g1 c) (g4 (by omega))
theorem tkG_u {p q : Nat} (h : tkG T n a p) (g : tkG T n a q) : p = q := by
  obtain ⟨h1, h2, h3, h4⟩ := h
  obtain ⟨g1, g2, g3, g4⟩ := g
  rcases Nat.lt_trichotomy p q with c | c | c
  · exact absurd (g3 p h1 c) (h4 (by omega))
  · exact c
  · exact absurd (h3 q g1 c) (g4 (by omega))
theorem tkQ_u {p q r : Nat} (h : tkQ T n p q) (g : tkQ T n p r) : q = r := by
  rcases h with ⟨h1, h2, h3⟩ | ⟨h1, h2, h3, h4⟩ <;> rcases g with ⟨g1, g2, g3⟩ | ⟨g1, g2, g3, g4⟩
  · omega
  · have := h3.1; have := h3.2; omega
  · have := g3.1; have := g3.2; omega
  · omega
theorem tkQ_l {p q : Nat} (h : tkQ T n p q) : p < n ∧ ¬ tkL (T p) ∧ (T p).toInt ≠ 59 := by
  unfold tkL
  rcases h with ⟨h1, h2, h3⟩ | ⟨h1, h2, h3, h4⟩
  · have := h3.1; have := h3.2; exact ⟨h2, by omega, by omega⟩
  · exact ⟨by omega, by omega, by omega⟩
/-- a place has one token -/
theorem tkn_u {p e p2 e2 : Nat} {k v k2 v2 : Int} (h : TKN T n a p e k v) (g : TKN T n a p2 e2 k2 v2) : p = p2 ∧ e = e2 ∧ k = k2 ∧ ((k = 1 ∨ k = 2) → v = v2) := by
  obtain ⟨hs, h⟩ := h
  obtain ⟨gs, g⟩ := g
  have ep := tkS_u hs gs
  subst ep
  refine ⟨rfl, ?_⟩
  rcases h with ⟨h1, h2, h3⟩ | ⟨h1, h2, h3, h4, h5⟩ | ⟨q, h1, h2, h3⟩ | ⟨h1, h2, h3, h4, -⟩ | ⟨h1, h2, h3, h4, h5, h6⟩ <;> rcases g with ⟨g1, g2, g3⟩ | ⟨g1, g2, g3, g4, g5⟩ | ⟨r, g1, g2, g3⟩ | ⟨g1, g2, g3, g4, -⟩ | ⟨g1, g2, g3, g4, g5, g6⟩
  · exact ⟨by omega, by omega, fun c => by omega⟩
  · omega
  · have := (tkQ_l g1).1; omega
  · omega
  · omega
  · omega
  · exact ⟨by omega, by omega, fun _ => by omega⟩
  · exact absurd h2 (tkQ_l g1).2.1
  · unfold tkL at h2; omega
  · exact absurd h2 g2
  · have := (tkQ_l h1).1; omega
  · exact absurd g2 (tkQ_l h1).2.1
  · have er := tkQ_u h1 g1
    subst er
    have ee := tkG_u h2 g2
    subst ee
    rcases h3 with ⟨a1, a2, a3⟩ | ⟨a1, a2⟩ <;> rcases g3 with ⟨b1, b2, b3⟩ | ⟨b1, b2⟩
    · exact ⟨rfl, by omega, fun _ => by rw [a3, b3]⟩
    · omega
    · omega
    · exact ⟨rfl, by omega, fun c => by omega⟩
  · exact absurd g2 (tkQ_l h1).2.2
  · exact absurd h1 (g4 q)
  · omega
  · unfold tkL at g2; omega
  · exact absurd h2 (tkQ_l g1).2.2
  · exact ⟨by omega, by omega, fun c => by omega⟩
  · exact absurd h2 g3
  · omega
  · exact absurd g2 h2
  · exact absurd g1 (h4 r)
  · exact absurd g2 h3
  · exact ⟨by omega, by omega, fun c => by omega⟩
theorem tkn_e {p e : Nat} {k v : Int} (h : TKN T n a p e k v) : a ≤ p ∧ p ≤ e ∧ e ≤ n ∧ (k ≠ 0 → p < e) ∧ 0 ≤ k ∧ k ≤ 5 := by
  obtain ⟨⟨s1, s2, -, -⟩, h⟩ := h
  rcases h with ⟨h1, h2, h3⟩ | ⟨h1, h2, h3, h4, h5⟩ | ⟨q, h1, h2, h3⟩ | ⟨h1, h2, h3, h4, -⟩ | ⟨h1, h2, h3, h4, h5, h6⟩
  · exact ⟨s1, by omega, by omega, fun c => absurd h3 c, by omega, by omega⟩
  · exact ⟨s1, by omega, by omega, fun c => by omega, by omega, by omega⟩
  · obtain ⟨g1, g2, g3, g4⟩ := h2
    have hq : p ≤ q ∧ p < e := by
      rcases h1 with ⟨c1, c2, c3⟩ | ⟨c1, c2, c3, c4⟩
      · refine ⟨by omega, ?_⟩
        rcases Nat.lt_or_ge p e with c | c
        · exact c
        · exact absurd (by rw [c1] at g1; rw [show e = p by omega]; exact c3) (g4 (by omega))
      · exact ⟨by omega, by omega⟩
    exact ⟨s1, by omega, by omega, fun _ => hq.2, by omega, by omega⟩
  · exact ⟨s1, by omega, by omega, fun c => by omega, by omega, by omega⟩
  · exact ⟨s1, by omega, by omega, fun c => by omega, by omega, by omega⟩
end TKU
section TKI
variable {T : Nat → Int32} {n a p e : Nat} {k v : Int}
theorem tkn_0 (hs : tkS T n a p) (h : p = n) (he : e = p) (hk : k = 0) : TKN T n a p e k v := ⟨hs, Or.inl ⟨h, he, hk⟩⟩
theorem tkn_1 (hs : tkS T n a p) (h : p < n) (hl : tkL (T p)) (he : e = p + 1) (hk : k = 1) (hv : v = (T p).toInt - 97) : TKN T n a p e k v := ⟨hs, Or.inr (Or.inl ⟨h, hl, he, hk, hv⟩)⟩
theorem tkn_2 {q : Nat} {x : Int} (hs : tkS T n a p) (hq : tkQ T n p q) (hx : x = 0 ↔ q = p) (h : tkG T n q e ∧ ((e - q ≤ 7 ∧ k = 2 ∧ v = (if x = 0 then tkN T q (e - q) else - tkN T q (e - q))) ∨ (7 < e - q ∧ k = 5))) : TKN T n a p e k v := by
  refine ⟨hs, Or.inr (Or.inr (Or.inl ⟨q, hq, h.1, ?_⟩))⟩
  rcases h.2 with ⟨h1, h2, h3⟩ | h2
  · refine Or.inl ⟨h1, h2, ?_⟩
    rw [h3]
    by_cases c : x = 0
    · rw [if_pos c, if_pos (hx.mp c)]
    · rw [if_neg c, if_neg (fun z => c (hx.mpr z))]
  · exact Or.inr h2
theorem tkn_3 (hs : tkS T n a p) (h : p < n) (hc : (T p).toInt = 59) (he : e = p + 1) (hk : k = 3) (hv : v = 59) : TKN T n a p e k v := ⟨hs, Or.inr (Or.inr (Or.inr (Or.inl ⟨h, hc, he, hk, hv⟩)))⟩
theorem tkn_4 (hs : tkS T n a p) (h : p < n) (hl : ¬ tkL (T p)) (hc : (T p).toInt ≠ 59) (hq : ∀ q, ¬ tkQ T n p q) (he : e = p + 1) (hk : k = 4) : TKN T n a p e k v := ⟨hs, Or.inr (Or.inr (Or.inr (Or.inr ⟨h, hl, hc, hq, he, hk⟩)))⟩
theorem nq_1 (h : ¬ tkD (T p)) (hm : (T p).toInt ≠ 45) : ∀ q, ¬ tkQ T n p q := by
  intro q hq
  rcases hq with ⟨-, -, h3⟩ | ⟨-, h2, -⟩
  · exact h h3
  · exact hm h2
theorem nq_2 (h : (T p).toInt = 45) (hn : p + 1 < n → ¬ tkD (T (p + 1))) : ∀ q, ¬ tkQ T n p q := by
  intro q hq
  rcases hq with ⟨-, -, h3⟩ | ⟨-, -, h3, h4⟩
  · have := h3.1; omega
  · exact hn h3 h4
/-- a semicolon is 59, a letter is below 26 -/
theorem tkn_v3 (h : TKN T n a p e k v) (hk : k = 3) : v = 59 := by
  rcases h.2 with ⟨h1, h2, h3⟩ | ⟨h1, h2, h3, h4, h5⟩ | ⟨q, h1, h2, h3⟩ | ⟨h1, h2, h3, h4, h5⟩ | ⟨h1, h2, h3, h4, h5, h6⟩
  · omega
  · omega
  · rcases h3 with ⟨a1, a2, a3⟩ | ⟨a1, a2⟩ <;> omega
  · exact h5
  · omega
theorem tkn_v1 (h : TKN T n a p e k v) (hk : k = 1) : 0 ≤ v ∧ v ≤ 25 := by
  rcases h.2 with ⟨h1, h2, h3⟩ | ⟨h1, h2, h3, h4, h5⟩ | ⟨q, h1, h2, h3⟩ | ⟨h1, h2, h3, h4, h5⟩ | ⟨h1, h2, h3, h4, h5, h6⟩
  · omega
  · have := h2.1; have := h2.2; omega
  · rcases h3 with ⟨a1, a2, a3⟩ | ⟨a1, a2⟩ <;> omega
  · omega
  · omega
/-- a number has been read -/
theorem rdn_i {q : Nat} {d y x : Int} (h1 : q ≤ e) (h2 : e ≤ n) (hd : ∀ i, q ≤ i → i < e → tkD (T i)) (hn : e < n → ¬ tkD (T e)) (ed : d = (e : Int) - q) (hy : d ≤ 7 → y = tkN T q d.toNat) (hk : (d ≤ 7 ∧ k = 2) ∨ (7 < d ∧ k = 5)) (hv : v = (if x = 0 then y else - y)) : tkG T n q e ∧ ((e - q ≤ 7 ∧ k = 2 ∧ v = (if x = 0 then tkN T q (e - q) else - tkN T q (e - q))) ∨ (7 < e - q ∧ k = 5)) := by
  refine ⟨⟨h1, h2, hd, hn⟩, ?_⟩
  have en : d.toNat = e - q := by omega
  rcases hk with ⟨k1, k2⟩ | ⟨k1, k2⟩
  · refine Or.inl ⟨by omega, k2, ?_⟩
    rw [hv, hy k1, en]
  · exact Or.inr ⟨by omega, k2⟩
end TKI
theorem t_ngf {z x : Int32} (hz : z = -x) (hx : In x 0 9999999) : z.toInt = -x.toInt := by
  obtain ⟨x1, x2⟩ := hx
  rw [hz, Int32.toInt_neg]
  exact Int.bmod_eq_of_le (by omega) (by omega)
/-- the i-th token from a on -/
def TSQ (T : Nat → Int32) (n a : Nat) : Nat → Nat → Nat → Int → Int → Prop
  | 0, p, e, k, v => TKN T n a p e k v
  | i + 1, p, e, k, v => ∃ p0 e0 k0 v0, TSQ T n a i p0 e0 k0 v0 ∧ TKN T n e0 p e k v
theorem tsq_u {T : Nat → Int32} {n a : Nat} : ∀ (i : Nat) {p e p2 e2 : Nat} {k v k2 v2 : Int}, TSQ T n a i p e k v → TSQ T n a i p2 e2 k2 v2 → p = p2 ∧ e = e2 ∧ k = k2 ∧ ((k = 1 ∨ k = 2) → v = v2)
  | 0, _, _, _, _, _, _, _, _, h, g => tkn_u h g
  | i + 1, _, _, _, _, _, _, _, _, ⟨_, _, _, _, h1, h2⟩, ⟨_, _, _, _, g1, g2⟩ => by
    have hh := (tsq_u i h1 g1).2.1
    subst hh
    exact tkn_u h2 g2
/-- how many things a command wants, and of which kind -/
def cmA (c : Int) : Nat := if c = 13 then 1 else if c = 0 then 5 else if c = 19 then 1 else 2
def cmI (c : Int) : Prop := c = 13 ∨ c = 0 ∨ c = 19 ∨ c = 22
def cmK (c : Int) (i : Nat) : Int := if i = cmA c + 1 then 3 else if (c = 13 ∧ i = 1) ∨ (c = 0 ∧ i = 5) then 1 else 2
def cmF (k : Int) : Int := if k = 4 then 1 else if k = 5 then 3 else 2
/-- a command c with the values V, from a to e; its place p -/
def CMP (T : Nat → Int32) (n a p : Nat) (c : Int) (V : Nat → Int) (e : Nat) : Prop := cmI c ∧ (∃ e0, TSQ T n a 0 p e0 1 c) ∧ (∀ i, i < cmA c → ∃ q f, TSQ T n a (i + 1) q f (cmK c (i + 1)) (V i)) ∧ ∃ q v, TSQ T n a (cmA c + 1) q e 3 v
/-- no command from a on: fault f at place p -/
def CMX (T : Nat → Int32) (n a : Nat) (f : Int) (p : Nat) : Prop :=
  (∃ e k v, TSQ T n a 0 p e k v ∧ k ≠ 0 ∧ ¬ (k = 1 ∧ cmI v) ∧ f = cmF k) ∨
  (∃ c p0 e0, cmI c ∧ TSQ T n a 0 p0 e0 1 c ∧ ∃ i, i ≤ cmA c ∧ (∀ j, j < i → ∃ q g w, TSQ T n a (j + 1) q g (cmK c (j + 1)) w) ∧ ∃ e k v, TSQ T n a (i + 1) p e k v ∧ k ≠ cmK c (i + 1) ∧ f = cmF k)
theorem cmp_u {T : Nat → Int32} {n a p p2 e e2 : Nat} {c c2 : Int} {V V2 : Nat → Int} (h : CMP T n a p c V e) (g : CMP T n a p2 c2 V2 e2) : p = p2 ∧ c = c2 ∧ e = e2 ∧ ∀ i, i < cmA c → V i = V2 i := by
  obtain ⟨h1, ⟨e0, h2⟩, h3, q, v, h4⟩ := h
  obtain ⟨g1, ⟨f0, g2⟩, g3, r, w, g4⟩ := g
  have u0 := tsq_u 0 h2 g2
  have uc := u0.2.2.2 (Or.inl rfl)
  subst uc
  refine ⟨u0.1, rfl, (tsq_u _ h4 g4).2.1, fun i hi => ?_⟩
  obtain ⟨q1, f1, k1⟩ := h3 i hi
  obtain ⟨q2, f2, k2⟩ := g3 i hi
  refine (tsq_u _ k1 k2).2.2.2 ?_
  unfold cmK
  rw [if_neg (by omega)]
  by_cases cc : (c = 13 ∧ i + 1 = 1) ∨ (c = 0 ∧ i + 1 = 5)
  · rw [if_pos cc]; exact Or.inl rfl
  · rw [if_neg cc]; exact Or.inr rfl
theorem cmx_n {T : Nat → Int32} {n a p p2 e : Nat} {c f : Int} {V : Nat → Int} (h : CMP T n a p c V e) (g : CMX T n a f p2) : False := by
  obtain ⟨h1, ⟨e0, h2⟩, h3, q, v, h4⟩ := h
  rcases g with ⟨e1, k, w, g1, g2, g3, g4⟩ | ⟨c2, p0, f0, g1, g2, i, g3, g4, e1, k, w, g5, g6, g7⟩
  · have u0 := tsq_u 0 h2 g1
    exact g3 ⟨u0.2.2.1.symm, by rw [← u0.2.2.2 (Or.inl rfl)]; exact h1⟩
  · have u0 := tsq_u 0 h2 g2
    have uc := u0.2.2.2 (Or.inl rfl)
    subst uc
    rcases Nat.lt_or_ge i (cmA c) with ci | ci
    · obtain ⟨q1, f1, k1⟩ := h3 i ci
      exact g6 (tsq_u _ k1 g5).2.2.1.symm
    · have ei : i = cmA c := by omega
      subst ei
      refine g6 ?_
      rw [← (tsq_u _ h4 g5).2.2.1]
      unfold cmK
      rw [if_pos rfl]
theorem cmx_u {T : Nat → Int32} {n a p p2 : Nat} {f f2 : Int} (h : CMX T n a f p) (g : CMX T n a f2 p2) : f = f2 ∧ p = p2 := by
  rcases h with ⟨e1, k1, w1, h1, h2, h3, h4⟩ | ⟨c1, p1, f1, h1, h2, i1, h3, h4, e1, k1, w1, h5, h6, h7⟩ <;> rcases g with ⟨e2, k2, w2, g1, g2, g3, g4⟩ | ⟨c2, q2, r2, g1, g2, i2, g3, g4, e2, k2, w2, g5, g6, g7⟩
  · have u := tsq_u 0 h1 g1
    exact ⟨by rw [h4, g4, u.2.2.1], u.1⟩
  · have u := tsq_u 0 h1 g2
    exact absurd ⟨u.2.2.1, by rw [u.2.2.2 (Or.inl u.2.2.1)]; exact g1⟩ h3
  · have u := tsq_u 0 g1 h2
    exact absurd ⟨u.2.2.1, by rw [u.2.2.2 (Or.inl u.2.2.1)]; exact h1⟩ g3
  · have u0 := tsq_u 0 h2 g2
    have uc := u0.2.2.2 (Or.inl rfl)
    subst uc
    rcases Nat.lt_trichotomy i1 i2 with ci | ci | ci
    · obtain ⟨q, r, w, k⟩ := g4 i1 ci
      exact absurd (tsq_u _ h5 k).2.2.1 h6
    · subst ci
      have u := tsq_u _ h5 g5
      exact ⟨by rw [h7, g7, u.2.2.1], u.1⟩
    · obtain ⟨q, r, w, k⟩ := h4 i2 ci
      exact absurd (tsq_u _ g5 k).2.2.1 g6
/-- the text ends from a on -/
def CME (T : Nat → Int32) (n a : Nat) : Prop := ∃ p e v, TSQ T n a 0 p e 0 v
theorem cme_p {T : Nat → Int32} {n a p e : Nat} {c : Int} {V : Nat → Int} (h : CME T n a) (g : CMP T n a p c V e) : False := by
  obtain ⟨p1, e1, v1, h⟩ := h
  obtain ⟨-, ⟨e0, g2⟩, -⟩ := g
  have := (tsq_u 0 h g2).2.2.1
  omega
theorem cme_x {T : Nat → Int32} {n a p : Nat} {f : Int} (h : CME T n a) (g : CMX T n a f p) : False := by
  obtain ⟨p1, e1, v1, h⟩ := h
  rcases g with ⟨e2, k, w, g1, g2, g3, g4⟩ | ⟨c2, p0, f0, g1, g2, -⟩
  · exact g2 (tsq_u 0 h g1).2.2.1.symm
  · have := (tsq_u 0 h g2).2.2.1
    omega
end
section
/-! WHAT A TEXT OF COMMANDS DOES TO A GRAPH -/
section CG
variable {T U : Nat → Int32} {n : Nat}
theorem tkS_cg {a p : Nat} (hT : ∀ i, i < n → T i = U i) (h : tkS T n a p) : tkS U n a p := by
  obtain ⟨h1, h2, h3, h4⟩ := h
  exact ⟨h1, h2, fun i hi hp => by rw [← hT i (by omega)]; exact h3 i hi hp, fun hp => by rw [← hT p hp]; exact h4 hp⟩
theorem tkG_cg {a p : Nat} (hT : ∀ i, i < n → T i = U i) (h : tkG T n a p) : tkG U n a p := by
  obtain ⟨h1, h2, h3, h4⟩ := h
  exact ⟨h1, h2, fun i hi hp => by rw [← hT i (by omega)]; exact h3 i hi hp, fun hp => by rw [← hT p hp]; exact h4 hp⟩
theorem tkN_cg {a : Nat} (hT : ∀ i, i < n → T i = U i) : ∀ k, a + k ≤ n → tkN U a k = tkN T a k
  | 0, _ => rfl
  | k + 1, h => by
    unfold tkN
    rw [tkN_cg hT k (by omega), hT (a + k) (by omega)]
theorem tkQ_cg {p q : Nat} (hT : ∀ i, i < n → T i = U i) (h : tkQ T n p q) : tkQ U n p q := by
  rcases h with ⟨h1, h2, h3⟩ | ⟨h1, h2, h3, h4⟩
  · exact Or.inl ⟨h1, h2, by rw [← hT p h2]; exact h3⟩
  · exact Or.inr ⟨h1, by rw [← hT p (by omega)]; exact h2, h3, by rw [← hT (p + 1) h3]; exact h4⟩
theorem tkn_cg {a p e : Nat} {k v : Int} (hT : ∀ i, i < n → T i = U i) (h : TKN T n a p e k v) : TKN U n a p e k v := by
  obtain ⟨hs, h⟩ := h
  refine ⟨tkS_cg hT hs, ?_⟩
  rcases h with h | ⟨h1, h2, h3, h4, h5⟩ | ⟨q, h1, h2, h3⟩ | ⟨h1, h2, h3, h4, h5⟩ | ⟨h1, h2, h3, h4, h5, h6⟩
  · exact Or.inl h
  · exact Or.inr (Or.inl ⟨h1, by rw [← hT p h1]; exact h2, h3, h4, by rw [← hT p h1]; exact h5⟩)
  · refine Or.inr (Or.inr (Or.inl ⟨q, tkQ_cg hT h1, tkG_cg hT h2, ?_⟩))
    rcases h3 with ⟨a1, a2, a3⟩ | h3
    · refine Or.inl ⟨a1, a2, ?_⟩
      obtain ⟨g1, g2, -, -⟩ := h2
      rw [tkN_cg hT (e - q) (by omega)]
      exact a3
    · exact Or.inr h3
  · exact Or.inr (Or.inr (Or.inr (Or.inl ⟨h1, by rw [← hT p h1]; exact h2, h3, h4, h5⟩)))
  · exact Or.inr (Or.inr (Or.inr (Or.inr ⟨h1, by rw [← hT p h1]; exact h2, by rw [← hT p h1]; exact h3, fun q hq => h4 q (tkQ_cg (fun i hi => (hT i hi).symm) hq), h5, h6⟩)))
theorem tsq_cg {a : Nat} (hT : ∀ i, i < n → T i = U i) : ∀ (i : Nat) {p e : Nat} {k v : Int}, TSQ T n a i p e k v → TSQ U n a i p e k v
  | 0, _, _, _, _, h => tkn_cg hT h
  | i + 1, _, _, _, _, ⟨p0, e0, k0, v0, h1, h2⟩ => ⟨p0, e0, k0, v0, tsq_cg hT i h1, tkn_cg hT h2⟩
theorem cmp_cg {a p e : Nat} {c : Int} {V : Nat → Int} (hT : ∀ i, i < n → T i = U i) (h : CMP T n a p c V e) : CMP U n a p c V e := by
  obtain ⟨h1, ⟨e0, h2⟩, h3, q, v, h4⟩ := h
  exact ⟨h1, ⟨e0, tsq_cg hT 0 h2⟩, fun i hi => by
    obtain ⟨q, f, h⟩ := h3 i hi
    exact ⟨q, f, tsq_cg hT _ h⟩, q, v, tsq_cg hT _ h4⟩
theorem cmx_cg {a p : Nat} {f : Int} (hT : ∀ i, i < n → T i = U i) (h : CMX T n a f p) : CMX U n a f p := by
  rcases h with ⟨e1, k1, w1, h1, h2⟩ | ⟨c1, p1, f1, h1, h2, i1, h3, h4, e1, k1, w1, h5, h6⟩
  · exact Or.inl ⟨e1, k1, w1, tsq_cg hT 0 h1, h2⟩
  · exact Or.inr ⟨c1, p1, f1, h1, tsq_cg hT 0 h2, i1, h3, fun j hj => by
      obtain ⟨q, g, w, h⟩ := h4 j hj
      exact ⟨q, g, w, tsq_cg hT _ h⟩, e1, k1, w1, tsq_cg hT _ h5, h6⟩
theorem cme_cg {a : Nat} (hT : ∀ i, i < n → T i = U i) (h : CME T n a) : CME U n a := by
  obtain ⟨p, e, v, h⟩ := h
  exact ⟨p, e, v, tsq_cg hT 0 h⟩
end CG
/-- numbers of at most seven digits -/
theorem tkN_b {T : Nat → Int32} {a : Nat} : ∀ k, (∀ i, a ≤ i → i < a + k → tkD (T i)) → 0 ≤ tkN T a k ∧ tkN T a k < (10 : Int) ^ k
  | 0, _ => ⟨Int.le_refl 0, by show (0 : Int) < 10 ^ 0; decide⟩
  | k + 1, h => by
    have ih := tkN_b k (fun i h1 h2 => h i h1 (by omega))
    have hd := h (a + k) (by omega) (by omega)
    unfold tkD at hd
    show 0 ≤ 10 * tkN T a k + ((T (a + k)).toInt - 48) ∧ 10 * tkN T a k + ((T (a + k)).toInt - 48) < (10 : Int) ^ (k + 1)
    rw [Int.pow_succ]
    omega
theorem tkN_7 {T : Nat → Int32} {a k : Nat} (hk : k ≤ 7) (h : ∀ i, a ≤ i → i < a + k → tkD (T i)) : 0 ≤ tkN T a k ∧ tkN T a k ≤ 9999999 := by
  have b := tkN_b k h
  have p : (10 : Int) ^ k ≤ 10000000 := (by decide : ∀ k, k ≤ 7 → (10 : Int) ^ k ≤ 10000000) k hk
  omega
theorem lx_st {tn z54 z64 z65 z69 : Int64} {c : Int32} (e54 : z54 = Int64.ofInt 10 * tn) (e64 : z64 = c.toInt64) (e65 : z65 = z54 + z64) (e69 : z69 = z65 - Int64.ofInt 48) (h : 0 ≤ tn.toInt ∧ tn.toInt ≤ 9999999) (hc : 48 ≤ c.toInt ∧ c.toInt ≤ 57) : z69.toInt = 10 * tn.toInt + (c.toInt - 48) := by
  have a1 : z54.toInt = 10 * tn.toInt := by
    rw [e54, Int64.toInt_mul, show (Int64.ofInt 10).toInt = 10 from rfl]
    exact Int.bmod_eq_of_le (by omega) (by omega)
  have a2 : z64.toInt = c.toInt := tx_i2l e64
  have a3 : z65.toInt = 10 * tn.toInt + c.toInt := by
    rw [e65, Int64.toInt_add, a1, a2]
    exact Int.bmod_eq_of_le (by omega) (by omega)
  rw [e69, Int64.toInt_sub, a3, show (Int64.ofInt 48).toInt = 48 from rfl]
  rw [Int.bmod_eq_of_le (by omega) (by omega)]
  omega
theorem lx_ng {x z : Int64} (e : z = -x) (h : 0 ≤ x.toInt ∧ x.toInt ≤ 9999999) : z.toInt = - x.toInt := by
  rw [e, Int64.toInt_neg]
  exact Int.bmod_eq_of_le (by omega) (by omega)
/-- the reference's first fault stays -/
def FSM (s t : GS) : Prop := t.2.2.1 109 23 = s.2.2.1 109 23 ∧ t.2.2.1 109 24 = s.2.2.1 109 24
def FBL (s t : GS) (w p : Int) : Prop := ((s.2.2.1 109 23).toInt = 0 → (t.2.2.1 109 23).toInt = w ∧ (t.2.2.1 109 24).toInt = p) ∧ ((s.2.2.1 109 23).toInt ≠ 0 → FSM s t)
theorem fsm_tr {s u t : GS} (h : FSM s u) (g : FSM u t) : FSM s t := ⟨g.1.trans h.1, g.2.trans h.2⟩
theorem fbl_tr {s u t : GS} {w p : Int} (h : FSM s u) (g : FBL u t w p) : FBL s t w p := by
  unfold FBL FSM at g ⊢
  rw [h.1, h.2] at g
  exact g
/-- what the reference's token says of a token: k its kind, v its value -/
def NTK (s t : GS) (k v : Int) : Prop := (k = 0 → (t.2.2.1 109 28).toInt = 0) ∧ (k = 1 → (t.2.2.1 109 28).toInt = 1 ∧ (t.2.2.1 109 30).toInt = v + 97) ∧ (k = 2 → (t.2.2.1 109 28).toInt = 2 ∧ (t.2.2.2.1 109 31).toInt = v) ∧ (k = 3 → (t.2.2.1 109 28).toInt = 3 ∧ (t.2.2.1 109 30).toInt = 59) ∧ (k = 4 → (t.2.2.1 109 28).toInt = 3 ∧ (t.2.2.1 109 30).toInt ≠ 59 ∧ FBL s t 1 (t.2.2.1 109 29).toInt) ∧ (k = 5 → (t.2.2.1 109 28).toInt = 2 ∧ FBL s t 3 (t.2.2.1 109 29).toInt) ∧ (k ≠ 4 → k ≠ 5 → FSM s t)
section NTK
variable {s t : GS} {v : Int}
theorem ntk_0 (h : t.2.2.1 109 28 = Int32.ofInt 0) (f : FSM s t) : NTK s t 0 v := ⟨fun _ => by rw [h]; rfl, fun e => absurd e (by decide), fun e => absurd e (by decide), fun e => absurd e (by decide), fun e => absurd e (by decide), fun e => absurd e (by decide), fun _ _ => f⟩
theorem ntk_1 (h : t.2.2.1 109 28 = Int32.ofInt 1) (hs : (t.2.2.1 109 30).toInt = v + 97) (f : FSM s t) : NTK s t 1 v := ⟨fun e => absurd e (by decide), fun _ => ⟨by rw [h]; rfl, hs⟩, fun e => absurd e (by decide), fun e => absurd e (by decide), fun e => absurd e (by decide), fun e => absurd e (by decide), fun _ _ => f⟩
theorem ntk_2 (h : t.2.2.1 109 28 = Int32.ofInt 2) (hv : (t.2.2.2.1 109 31).toInt = v) (f : FSM s t) : NTK s t 2 v := ⟨fun e => absurd e (by decide), fun e => absurd e (by decide), fun _ => ⟨by rw [h]; rfl, hv⟩, fun e => absurd e (by decide), fun e => absurd e (by decide), fun e => absurd e (by decide), fun _ _ => f⟩
theorem ntk_3 (h : t.2.2.1 109 28 = Int32.ofInt 3) (hs : (t.2.2.1 109 30).toInt = 59) (f : FSM s t) : NTK s t 3 v := ⟨fun e => absurd e (by decide), fun e => absurd e (by decide), fun e => absurd e (by decide), fun _ => ⟨by rw [h]; rfl, hs⟩, fun e => absurd e (by decide), fun e => absurd e (by decide), fun _ _ => f⟩
theorem ntk_4 (h : t.2.2.1 109 28 = Int32.ofInt 3) (hs : (t.2.2.1 109 30).toInt ≠ 59) (f : FBL s t 1 (t.2.2.1 109 29).toInt) : NTK s t 4 v := ⟨fun e => absurd e (by decide), fun e => absurd e (by decide), fun e => absurd e (by decide), fun e => absurd e (by decide), fun _ => ⟨by rw [h]; rfl, hs, f⟩, fun e => absurd e (by decide), fun e _ => absurd rfl e⟩
theorem ntk_5 (h : t.2.2.1 109 28 = Int32.ofInt 2) (f : FBL s t 3 (t.2.2.1 109 29).toInt) : NTK s t 5 v := ⟨fun e => absurd e (by decide), fun e => absurd e (by decide), fun e => absurd e (by decide), fun e => absurd e (by decide), fun e => absurd e (by decide), fun _ => ⟨by rw [h]; rfl, f⟩, fun _ e => absurd rfl e⟩
end NTK
/-- two graphs that are alike -/
def GEQ (g h : GVW) : Prop := (∀ i, i < 32 → g.1 i = h.1 i) ∧ (∀ i, i < 160 → g.2.1 i = h.2.1 i) ∧ (∀ i, i < 160 → g.2.2.1 i = h.2.2.1 i) ∧ (∀ i, i < 160 → g.2.2.2.1 i = h.2.2.2.1 i) ∧ (∀ i, i < 160 → g.2.2.2.2.1 i = h.2.2.2.2.1 i) ∧ (∀ i, i < 160 → g.2.2.2.2.2.1 i = h.2.2.2.2.2.1 i) ∧ g.2.2.2.2.2.2.1 = h.2.2.2.2.2.2.1 ∧ g.2.2.2.2.2.2.2 = h.2.2.2.2.2.2.2
theorem upd_e {f g : Nat → Int32} {m p : Nat} {x : Int32} (h : ∀ i, i < m → f i = g i) : ∀ i, i < m → upd f p x i = upd g p x i := by
  intro i hi
  by_cases c : i = p
  · rw [c, ug_at, ug_at]
  · rw [ug_ne c, ug_ne c]; exact h i hi
section GE
variable {g h : GVW}
theorem geq_N {p : Nat} {l : Int32} (q : GEQ g h) : GEQ (gqN g p l) (gqN h p l) := by
  obtain ⟨q1, q2, q3, q4, q5, q6, q7, q8⟩ := q
  exact ⟨upd_e q1, q2, q3, q4, q5, q6, by show g.2.2.2.2.2.2.1 + 1 = h.2.2.2.2.2.2.1 + 1; rw [q7], by show g.2.2.2.2.2.2.2 + 1 = h.2.2.2.2.2.2.2 + 1; rw [q8]⟩
theorem geq_A {p : Nat} {a b w r k : Int32} (q : GEQ g h) : GEQ (gqA g p a b w r k) (gqA h p a b w r k) := by
  obtain ⟨q1, q2, q3, q4, q5, q6, q7, q8⟩ := q
  exact ⟨q1, upd_e q2, upd_e q3, upd_e q4, upd_e q5, upd_e q6, q7, by show g.2.2.2.2.2.2.2 + 1 = h.2.2.2.2.2.2.2 + 1; rw [q8]⟩
theorem geq_D {p : Nat} (q : GEQ g h) : GEQ (gqD g p) (gqD h p) := by
  obtain ⟨q1, q2, q3, q4, q5, q6, q7, q8⟩ := q
  exact ⟨q1, upd_e q2, q3, q4, q5, q6, q7, by show g.2.2.2.2.2.2.2 + 1 = h.2.2.2.2.2.2.2 + 1; rw [q8]⟩
theorem ite_e {f g f2 g2 : Nat → Int32} {m : Nat} {P : Prop} [Decidable P] (h : ∀ i, i < m → f i = g i) (h2 : ∀ i, i < m → f2 i = g2 i) : ∀ i, i < m → (if P then f else f2) i = (if P then g else g2) i := by
  intro i hi
  by_cases c : P
  · rw [if_pos c, if_pos c]; exact h i hi
  · rw [if_neg c, if_neg c]; exact h2 i hi
theorem geq_W {p : Nat} {w v : Int32} (q : GEQ g h) : GEQ (gqW g p w v) (gqW h p w v) := by
  obtain ⟨q1, q2, q3, q4, q5, q6, q7, q8⟩ := q
  exact ⟨q1, q2, q3, ite_e (upd_e q4) q4, ite_e (upd_e q5) q5, ite_e (upd_e q6) q6, q7, by show g.2.2.2.2.2.2.2 + 1 = h.2.2.2.2.2.2.2 + 1; rw [q8]⟩
theorem geq_L {p : Nat} {l : Int32} (q : GEQ g h) : GEQ (gqL g p l) (gqL h p l) := by
  obtain ⟨q1, q2, q3, q4, q5, q6, q7, q8⟩ := q
  exact ⟨upd_e q1, q2, q3, q4, q5, q6, q7, by show g.2.2.2.2.2.2.2 + 1 = h.2.2.2.2.2.2.2 + 1; rw [q8]⟩
theorem geq_f (q : GEQ g h) : fpl (ctg g.2.1) = fpl (ctg h.2.1) := fpl_cg (fun j hj => by unfold ctg; rw [q.2.1 j hj])
end GE
/-- a command can be carried out -/
def gvT (g : GVW) (x : Int) : Prop := 0 ≤ x ∧ x ≤ 159 ∧ (g.2.1 x.toNat).toInt ≠ -1
def dkC (g : GVW) (c : Int) (V : Nat → Int) : Prop := g.2.2.2.2.2.2.2 ≤ 3999 ∧ (c = 13 → g.2.2.2.2.2.2.1 ≤ 31) ∧ (c = 0 → (0 ≤ V 0 ∧ V 0 < g.2.2.2.2.2.2.1) ∧ (0 ≤ V 1 ∧ V 1 < g.2.2.2.2.2.2.1) ∧ (-1000000 ≤ V 2 ∧ V 2 ≤ 1000000) ∧ (0 ≤ V 3 ∧ V 3 ≤ 1000000) ∧ fpl (ctg g.2.1) < 160) ∧ (c = 19 → gvT g (V 0)) ∧ (c = 22 → gvT g (V 0) ∧ (-1000000 ≤ V 1 ∧ V 1 ≤ 1000000))
/-- what it does -/
def opC (g : GVW) (c : Int) (V : Nat → Int) : GVW := if c = 13 then gqN g g.2.2.2.2.2.2.1.toNat (Int32.ofInt (V 0)) else if c = 0 then gqA g (fpl (ctg g.2.1)) (Int32.ofInt (V 0)) (Int32.ofInt (V 1)) (Int32.ofInt (V 2)) (Int32.ofInt (V 3)) (Int32.ofInt (V 4)) else if c = 19 then gqD g (V 0).toNat else gqW g (V 0).toNat (Int32.ofInt 0) (Int32.ofInt (V 1))
theorem gvT_e {g h : GVW} {x : Int} (q : GEQ g h) (t : gvT g x) : gvT h x := ⟨t.1, t.2.1, by rw [← q.2.1 x.toNat (by have := t.1; have := t.2.1; omega)]; exact t.2.2⟩
theorem geq_s {g h : GVW} (q : GEQ g h) : GEQ h g := by
  obtain ⟨q1, q2, q3, q4, q5, q6, q7, q8⟩ := q
  exact ⟨fun i hi => (q1 i hi).symm, fun i hi => (q2 i hi).symm, fun i hi => (q3 i hi).symm, fun i hi => (q4 i hi).symm, fun i hi => (q5 i hi).symm, fun i hi => (q6 i hi).symm, q7.symm, q8.symm⟩
theorem geq_t {g h k : GVW} (q : GEQ g h) (r : GEQ h k) : GEQ g k := by
  obtain ⟨q1, q2, q3, q4, q5, q6, q7, q8⟩ := q
  obtain ⟨r1, r2, r3, r4, r5, r6, r7, r8⟩ := r
  exact ⟨fun i hi => (q1 i hi).trans (r1 i hi), fun i hi => (q2 i hi).trans (r2 i hi), fun i hi => (q3 i hi).trans (r3 i hi), fun i hi => (q4 i hi).trans (r4 i hi), fun i hi => (q5 i hi).trans (r5 i hi), fun i hi => (q6 i hi).trans (r6 i hi), q7.trans r7, q8.trans r8⟩
theorem geq_r {g : GVW} : GEQ g g := ⟨fun _ _ => rfl, fun _ _ => rfl, fun _ _ => rfl, fun _ _ => rfl, fun _ _ => rfl, fun _ _ => rfl, rfl, rfl⟩
theorem dkC_e {g h : GVW} {c : Int} {V W : Nat → Int} (q : GEQ g h) (hc : cmI c) (hV : ∀ i, i < cmA c → V i = W i) (t : dkC g c V) : dkC h c W := by
  obtain ⟨t1, t2, t3, t4, t5⟩ := t
  have e7 := q.2.2.2.2.2.2.1
  have e8 := q.2.2.2.2.2.2.2
  refine ⟨by rw [← e8]; exact t1, fun e => by rw [← e7]; exact t2 e, fun e => ?_, fun e => ?_, fun e => ?_⟩
  · have hA : cmA c = 5 := by rw [e]; rfl
    rw [hA] at hV
    rw [← hV 0 (by omega), ← hV 1 (by omega), ← hV 2 (by omega), ← hV 3 (by omega), ← e7, ← geq_f q]
    exact t3 e
  · have hA : cmA c = 1 := by rw [e]; rfl
    rw [hA] at hV
    rw [← hV 0 (by omega)]
    exact gvT_e q (t4 e)
  · have hA : cmA c = 2 := by rw [e]; rfl
    rw [hA] at hV
    rw [← hV 0 (by omega), ← hV 1 (by omega)]
    exact ⟨gvT_e q (t5 e).1, (t5 e).2⟩
theorem opC_e {g h : GVW} {c : Int} {V W : Nat → Int} (q : GEQ g h) (hc : cmI c) (hV : ∀ i, i < cmA c → V i = W i) : GEQ (opC g c V) (opC h c W) := by
  have e7 := q.2.2.2.2.2.2.1
  unfold opC
  rcases hc with e | e | e | e
  · have hA : cmA c = 1 := by rw [e]; rfl
    rw [hA] at hV
    rw [if_pos e, if_pos e, hV 0 (by omega), e7]
    exact geq_N q
  · have hA : cmA c = 5 := by rw [e]; rfl
    rw [hA] at hV
    rw [if_neg (by omega), if_pos e, if_neg (by omega), if_pos e, hV 0 (by omega), hV 1 (by omega), hV 2 (by omega), hV 3 (by omega), hV 4 (by omega), geq_f q]
    exact geq_A q
  · have hA : cmA c = 1 := by rw [e]; rfl
    rw [hA] at hV
    rw [if_neg (by omega), if_neg (by omega), if_pos e, if_neg (by omega), if_neg (by omega), if_pos e, hV 0 (by omega)]
    exact geq_D q
  · have hA : cmA c = 2 := by rw [e]; rfl
    rw [hA] at hV
    rw [if_neg (by omega), if_neg (by omega), if_neg (by omega), if_neg (by omega), if_neg (by omega), if_neg (by omega), hV 0 (by omega), hV 1 (by omega)]
    exact geq_W q
/-- the saved graph -/
def gvS (s : GS) : GVW := (s.1 17, s.1 18, s.1 19, s.1 20, s.1 21, s.1 22, (s.2.2.1 16 1).toInt, (s.2.2.1 16 0).toInt)
def TQS (s : GS) : Prop := ∀ p : Nat, p < 160 → (s.1 18 p).toInt ≠ -1 → (p : Int) < (s.2.2.1 16 3).toInt
theorem gvS_cg {s t : GS} {L : FM} (h : Fr L s t) (hq : (qI L.1 17 && qI L.1 18 && qI L.1 19 && qI L.1 20 && qI L.1 21 && qI L.1 22 && qF L.2.2.1 16 1 && qF L.2.2.1 16 0) = true) : gvS t = gvS s := by
  simp only [Bool.and_eq_true] at hq
  obtain ⟨⟨⟨⟨⟨⟨⟨q1, q2⟩, q3⟩, q4⟩, q5⟩, q6⟩, q7⟩, q8⟩ := hq
  unfold gvS
  rw [h.1 17 q1, h.1 18 q2, h.1 19 q3, h.1 20 q4, h.1 21 q5, h.1 22 q6, h.2.2.1 16 1 q7, h.2.2.1 16 0 q8]
theorem tqs_fr {s t : GS} {L : FM} (hT : TQS s) (h : Fr L s t) (hq : (qI L.1 18 && qF L.2.2.1 16 3) = true) : TQS t := by
  rw [Bool.and_eq_true] at hq
  intro p hp hn
  rw [h.1 18 hq.1] at hn
  rw [h.2.2.1 16 3 hq.2]
  exact hT p hp hn
/-- what stands in given -/
def V31 (s : GS) : Nat → Int := fun i => (s.1 31 i).toInt
section OPC
variable {s : GS} {c : Int} {g : GVW} {V : Nat → Int}
theorem opC_13 (h : c = 13) : opC (gvC s) c (V31 s) = gqN (gvC s) (s.2.2.1 2 1).toNatClampNeg (s.1 31 0) := by
  unfold opC
  rw [if_pos h]
  show gqN (gvC s) _ (Int32.ofInt (s.1 31 0).toInt) = _
  rw [Int32.ofInt_toInt]
  rfl
theorem opC_0 {p : Nat} (h : c = 0) (hp : fpl (ctg (s.1 4)) = p) : opC (gvC s) c (V31 s) = gqA (gvC s) p (s.1 31 0) (s.1 31 1) (s.1 31 2) (s.1 31 3) (s.1 31 4) := by
  unfold opC
  rw [if_neg (by omega), if_pos h]
  show gqA (gvC s) (fpl (ctg (s.1 4))) (Int32.ofInt (s.1 31 0).toInt) (Int32.ofInt (s.1 31 1).toInt) (Int32.ofInt (s.1 31 2).toInt) (Int32.ofInt (s.1 31 3).toInt) (Int32.ofInt (s.1 31 4).toInt) = _
  rw [Int32.ofInt_toInt, Int32.ofInt_toInt, Int32.ofInt_toInt, Int32.ofInt_toInt, Int32.ofInt_toInt, hp]
theorem opC_19 (h : c = 19) : opC (gvC s) c (V31 s) = gqD (gvC s) (s.1 31 0).toNatClampNeg := by
  unfold opC
  rw [if_neg (by omega), if_neg (by omega), if_pos h]
  rfl
theorem opC_22 (h : c = 22) : opC (gvC s) c (V31 s) = gqW (gvC s) (s.1 31 0).toNatClampNeg (Int32.ofInt 0) (s.1 31 1) := by
  unfold opC
  rw [if_neg (by omega), if_neg (by omega), if_neg (by omega)]
  show gqW (gvC s) (s.1 31 0).toInt.toNat (Int32.ofInt 0) (Int32.ofInt (s.1 31 1).toInt) = _
  rw [Int32.ofInt_toInt]
  rfl
theorem dk_13 (h : c = 13) (h1 : g.2.2.2.2.2.2.2 ≤ 3999) (h2 : g.2.2.2.2.2.2.1 ≤ 31) : dkC g c V := ⟨h1, fun _ => h2, fun e => absurd e (by omega), fun e => absurd e (by omega), fun e => absurd e (by omega)⟩
theorem dk_0 (h : c = 0) (h1 : g.2.2.2.2.2.2.2 ≤ 3999) (h2 : (0 ≤ V 0 ∧ V 0 < g.2.2.2.2.2.2.1) ∧ (0 ≤ V 1 ∧ V 1 < g.2.2.2.2.2.2.1) ∧ (-1000000 ≤ V 2 ∧ V 2 ≤ 1000000) ∧ (0 ≤ V 3 ∧ V 3 ≤ 1000000) ∧ fpl (ctg g.2.1) < 160) : dkC g c V := ⟨h1, fun e => absurd e (by omega), fun _ => h2, fun e => absurd e (by omega), fun e => absurd e (by omega)⟩
theorem dk_19 (h : c = 19) (h1 : g.2.2.2.2.2.2.2 ≤ 3999) (h2 : gvT g (V 0)) : dkC g c V := ⟨h1, fun e => absurd e (by omega), fun e => absurd e (by omega), fun _ => h2, fun e => absurd e (by omega)⟩
theorem dk_22 (h : c = 22) (h1 : g.2.2.2.2.2.2.2 ≤ 3999) (h2 : gvT g (V 0)) (h3 : -1000000 ≤ V 1 ∧ V 1 ≤ 1000000) : dkC g c V := ⟨h1, fun e => absurd e (by omega), fun e => absurd e (by omega), fun e => absurd e (by omega), fun _ => ⟨h2, h3⟩⟩
theorem dk_t (hc : cmI c) (h13 : c ≠ 13) (h0 : c ≠ 0) (h : dkC g c V) : gvT g (V 0) := by
  rcases hc with e | e | e | e
  · exact absurd e h13
  · exact absurd e h0
  · exact h.2.2.2.1 e
  · exact (h.2.2.2.2 e).1
end OPC
/-- k commands have been carried out: the place a, the graph g -/
def LRN (T : Nat → Int32) (n : Nat) (g0 : GVW) : Nat → Nat → GVW → Prop
  | 0, a, g => a = 0 ∧ g = g0
  | k + 1, a, g => ∃ a0 g1 p c V, LRN T n g0 k a0 g1 ∧ CMP T n a0 p c V a ∧ dkC g1 c V ∧ g = opC g1 c V
/-- how a text ends: z the answer, f the fault's number (0: none), p its place, g the graph -/
def LOT (T : Nat → Int32) (n : Nat) (g0 : GVW) (z f p : Int) (g : GVW) : Prop :=
  (∃ (k a : Nat) (g1 : GVW), LRN T n g0 k a g1 ∧ CME T n a ∧ z = (k : Int) ∧ f = 0 ∧ GEQ g g1) ∨
  (∃ (k a q : Nat) (g1 : GVW), LRN T n g0 k a g1 ∧ (CMX T n a f q ∨ ∃ c V e, CMP T n a q c V e ∧ ¬ dkC g1 c V ∧ f = 4) ∧ z = -4 ∧ p = (q : Int) ∧ GEQ g g0)
theorem cmp_l {T : Nat → Int32} {n a p e : Nat} {c : Int} {V : Nat → Int} (h : CMP T n a p c V e) : a < e := by
  have le : ∀ (i : Nat) {p e : Nat} {k v : Int}, TSQ T n a i p e k v → a ≤ e := by
    intro i
    induction i with
    | zero => intro p e k v h; have := tkn_e h; omega
    | succ i ih =>
      intro p e k v h
      obtain ⟨p0, e0, k0, v0, h1, h2⟩ := h
      have := ih h1
      have := tkn_e h2
      omega
  obtain ⟨-, -, -, q, v, p0, e0, k0, v0, h1, h2⟩ := h
  have h3 := le _ h1
  have h4 := tkn_e h2
  have h5 := h4.2.2.2.1 (by decide)
  omega
theorem lrn_l {T : Nat → Int32} {n : Nat} {g0 : GVW} : ∀ (k : Nat) {a : Nat} {g : GVW}, LRN T n g0 k a g → k ≤ a
  | 0, _, _, _ => Nat.zero_le _
  | k + 1, _, _, ⟨a0, g1, p, c, V, h1, h2, h3, h4⟩ => by
    have := lrn_l k h1
    have := cmp_l h2
    omega
theorem lrn_u {T U : Nat → Int32} {n : Nat} {g0 h0 : GVW} (hT : ∀ i, i < n → T i = U i) (q : GEQ g0 h0) : ∀ (k : Nat) {a b : Nat} {g h : GVW}, LRN T n g0 k a g → LRN U n h0 k b h → a = b ∧ GEQ g h
  | 0, _, _, _, _, ⟨h1, h2⟩, ⟨g1, g2⟩ => by
    rw [h1, h2, g1, g2]
    exact ⟨rfl, q⟩
  | k + 1, _, _, _, _, ⟨a0, x1, p1, c1, V1, h1, h2, h3, h4⟩, ⟨b0, y1, p2, c2, V2, g1, g2, g3, g4⟩ => by
    obtain ⟨ea, eg⟩ := lrn_u hT q k h1 g1
    subst ea
    have u := cmp_u (cmp_cg hT h2) g2
    obtain ⟨-, ec, ee, eV⟩ := u
    subst ec
    rw [h4, g4]
    exact ⟨ee, opC_e eg h2.1 eV⟩
/-- at a place where a run of k commands stands one more can't be there and not be there -/
theorem lrn_x {T U : Nat → Int32} {n : Nat} {g0 h0 : GVW} (hT : ∀ i, i < n → T i = U i) (q : GEQ g0 h0) {k : Nat} {a : Nat} {g : GVW} (h : LRN T n g0 k a g) (hx : CME T n a ∨ ∃ f p, CMX T n a f p ∨ ∃ c V e, CMP T n a p c V e ∧ ¬ dkC g c V ∧ f = 4) : ∀ (j : Nat) {b : Nat} {y : GVW}, LRN U n h0 j b y → j ≤ k
  | j, b, y, r => by
    rcases Nat.lt_or_ge k j with c | c
    · exfalso
      have low : ∀ (i : Nat) {b2 : Nat} {y2 : GVW}, LRN U n h0 (k + 1 + i) b2 y2 → ∃ b3 y3, LRN U n h0 (k + 1) b3 y3 := by
        intro i
        induction i with
        | zero => intro b2 y2 r2; exact ⟨b2, y2, r2⟩
        | succ i ih =>
          intro b2 y2 r2
          obtain ⟨a0, x1, p1, c1, V1, h1, -⟩ := r2
          exact ih h1
      obtain ⟨b3, y3, r3⟩ := low (j - (k + 1)) (by rw [show k + 1 + (j - (k + 1)) = j by omega]; exact r)
      obtain ⟨a0, x1, p1, c1, V1, g1, g2, g3, -⟩ := r3
      obtain ⟨ea, eg⟩ := lrn_u hT q k h g1
      subst ea
      rcases hx with hx | ⟨f, p, hx | ⟨c2, V2, e2, k1, k2, -⟩⟩
      · exact cme_p (cme_cg hT hx) g2
      · exact cmx_n g2 (cmx_cg hT hx)
      · have u := cmp_u (cmp_cg hT k1) g2
        obtain ⟨-, ec, -, eV⟩ := u
        subst ec
        exact k2 (dkC_e (geq_s eg) k1.1 (fun i hi => (eV i hi).symm) g3)
    · exact c
/-- a text has one end -/
theorem lot_u {T U : Nat → Int32} {n : Nat} {g0 h0 : GVW} {z f p z2 f2 p2 : Int} {g h : GVW} (hT : ∀ i, i < n → T i = U i) (q : GEQ g0 h0) (l : LOT T n g0 z f p g) (m : LOT U n h0 z2 f2 p2 h) : z = z2 ∧ f = f2 ∧ (f ≠ 0 → p = p2) ∧ GEQ g h := by
  have hU : ∀ i, i < n → U i = T i := fun i hi => (hT i hi).symm
  have qs := geq_s q
  rcases l with ⟨k, a, g1, l1, l2, l3, l4, l5⟩ | ⟨k, a, w, g1, l1, l2, l3, l4, l5⟩ <;> rcases m with ⟨j, b, h1, m1, m2, m3, m4, m5⟩ | ⟨j, b, w2, h1, m1, m2, m3, m4, m5⟩
  · have c1 := lrn_x hT q l1 (Or.inl l2) j m1
    have c2 := lrn_x hU qs m1 (Or.inl m2) k l1
    have e : k = j := by omega
    subst e
    exact ⟨by rw [l3, m3], by rw [l4, m4], fun c => absurd l4 c, geq_t l5 (geq_t (lrn_u hT q k l1 m1).2 (geq_s m5))⟩
  · have c1 := lrn_x hT q l1 (Or.inl l2) j m1
    have c2 := lrn_x hU qs m1 (Or.inr ⟨f2, w2, m2⟩) k l1
    have e : k = j := by omega
    subst e
    obtain ⟨ea, -⟩ := lrn_u hT q k l1 m1
    subst ea
    rcases m2 with m2 | ⟨c, V, e, m2, -⟩
    · exact (cme_x (cme_cg hT l2) m2).elim
    · exact (cme_p (cme_cg hT l2) m2).elim
  · have c1 := lrn_x hT q l1 (Or.inr ⟨f, w, l2⟩) j m1
    have c2 := lrn_x hU qs m1 (Or.inl m2) k l1
    have e : k = j := by omega
    subst e
    obtain ⟨ea, -⟩ := lrn_u hT q k l1 m1
    subst ea
    rcases l2 with l2 | ⟨c, V, e, l2, -⟩
    · exact (cme_x m2 (cmx_cg hT l2)).elim
    · exact (cme_p m2 (cmp_cg hT l2)).elim
  · have c1 := lrn_x hT q l1 (Or.inr ⟨f, w, l2⟩) j m1
    have c2 := lrn_x hU qs m1 (Or.inr ⟨f2, w2, m2⟩) k l1
    have e : k = j := by omega
    subst e
    obtain ⟨ea, eg⟩ := lrn_u hT q k l1 m1
    subst ea
    have both : f = f2 ∧ w = w2 := by
      rcases l2 with l2 | ⟨c, V, e, l2, l6, l7⟩ <;> rcases m2 with m2 | ⟨c3, V3, e3, m2, m6, m7⟩
      · exact cmx_u (cmx_cg hT l2) m2
      · exact (cmx_n m2 (cmx_cg hT l2)).elim
      · exact (cmx_n (cmp_cg hT l2) m2).elim
      · exact ⟨by rw [l7, m7], (cmp_u (cmp_cg hT l2) m2).1⟩
    exact ⟨by rw [l3, m3], both.1, fun _ => by rw [l4, m4, both.2], geq_t l5 (geq_t q (geq_s m5))⟩
/-! the reference's commands -/
def DON (s : GS) (c : Int) (m : Nat) : Prop :=
  (c = 110 → (s.1 110 2).toInt ≤ 31) ∧
  (c = 97 → fpl (thg s 320) < 160 ∧ nq (s.1 128 m) 0 ((s.1 110 2).toInt - 1) ∧ nq (s.1 128 (m + 1)) 0 ((s.1 110 2).toInt - 1) ∧ nq (s.1 128 (m + 2)) (-1000000) 1000000 ∧ nq (s.1 128 (m + 3)) 0 1000000) ∧
  ((c = 116 ∨ c = 119) → nq (s.1 128 m) 0 159 ∧ thg s 320 (s.1 128 m).toNatClampNeg = true) ∧
  (c = 119 → nq (s.1 128 (m + 1)) (-1000000) 1000000)
theorem don_97 {s : GS} {c : Int} {m : Nat} (h : c = 97) (h1 : fpl (thg s 320) < 160 ∧ nq (s.1 128 m) 0 ((s.1 110 2).toInt - 1) ∧ nq (s.1 128 (m + 1)) 0 ((s.1 110 2).toInt - 1) ∧ nq (s.1 128 (m + 2)) (-1000000) 1000000 ∧ nq (s.1 128 (m + 3)) 0 1000000) : DON s c m := ⟨fun e => absurd e (by omega), fun _ => h1, fun e => absurd e (by omega), fun e => absurd e (by omega)⟩
theorem don_110 {s : GS} {c : Int} {m : Nat} (h : c = 110) (h1 : (s.1 110 2).toInt ≤ 31) : DON s c m := ⟨fun _ => h1, fun e => absurd e (by omega), fun e => absurd e (by omega), fun e => absurd e (by omega)⟩
theorem don_116 {s : GS} {c : Int} {m : Nat} (h : c = 116) (h1 : nq (s.1 128 m) 0 159 ∧ thg s 320 (s.1 128 m).toNatClampNeg = true) : DON s c m := ⟨fun e => absurd e (by omega), fun e => absurd e (by omega), fun _ => h1, fun e => absurd e (by omega)⟩
theorem don_119 {s : GS} {c : Int} {m : Nat} (h : c = 119) (h1 : nq (s.1 128 m) 0 159 ∧ thg s 320 (s.1 128 m).toNatClampNeg = true) (h2 : nq (s.1 128 (m + 1)) (-1000000) 1000000) : DON s c m := ⟨fun e => absurd e (by omega), fun e => absurd e (by omega), fun _ => h1, fun _ => h2⟩
theorem thg_t {s : GS} {z w j : Int32} (e : w = s.1 112 j.toNatClampNeg) (hj : j.toInt = 320 + z.toInt) (hz : 0 ≤ z.toInt) : thg s 320 z.toNatClampNeg = decide (w.toInt ≠ 0) := by
  unfold thg
  rw [e, show j.toNatClampNeg = 320 + z.toNatClampNeg from by show j.toInt.toNat = 320 + z.toInt.toNat; omega]
end
section
/-! STRINGS IN FULL, AND THE SHAPES OF COMMANDS -/
def zby (k j : Nat) : Int := ((am_byt.getD k []).getD j 0).toInt
theorem z_by {k j : Nat} {z4 z5 z6 : Int32} (hk : k < 7) (hj : j < 10) (e4 : z4 = (am_byt.getD k []).getD j 0) (e5 : z5 = z4 &&& Int32.ofInt 255) (e6 : z6 = (z5.toUInt32 % 65536).toInt32) : z6.toInt = zby k j := by
  rw [e6, e5, e4]
  exact (by decide : ∀ k, k < 7 → ∀ j, j < 10 → ((((am_byt.getD k []).getD j 0) &&& Int32.ofInt 255).toUInt32 % 65536).toInt32.toInt = zby k j) k hk j hj
theorem z_j9 {x j : Int32} (hx : In x 0 6) (h0 : 0 ≤ j.toInt) (h1 : j.toInt < (zn x : Int)) : j.toNatClampNeg < 10 := by
  have := zn_9 hx
  show j.toInt.toNat < 10
  omega
section ZM
variable {Z : AmZ} {d : Nat} {ws : va_W} {X : AmX} {x : Int32}
theorem f_428 (hx : In x 0 6) (hd : 1 ≤ d) : GC Z d 428 [.ref (zq Z x)] ws 0 0 (fun v u => ∃ z : Int32, v = some (.int z) ∧ u = ws ∧ In z 0 1 ∧ (z.toInt = 0 → 0 < zn x) ∧ (z.toInt ≠ 0 → zn x = 0)) X := by
  intro post xp hP hX
  refine g_enter2 (k := 428) (N := 300) (by omega) rfl (Nat.le_of_ble_eq_true rfl) ?_
  refine g_aload_n 1 (gd rfl) rfl rfl ?_
  refine g_getVA 4 (gd rfl) rfl hx rfl ?_
  refine g_alenZ 5 (gd rfl) rfl hx (fun z e ez => ?_)
  refine g_if_ne 8 12 (gd rfl) rfl rfl (fun c => ?_) (fun c => ?_)
  · refine g_iconst 0 13 (gd rfl) rfl rfl ?_
    exact g_ireturn (gd rfl) rfl rfl (hP _ _ ⟨_, rfl, rfl, ⟨by decide, by decide⟩, fun _ => by omega, fun h => absurd rfl h⟩)
  · refine g_iconst 1 9 (gd rfl) rfl rfl ?_
    refine g_goto 13 (gd rfl) rfl ?_
    exact g_ireturn (gd rfl) rfl rfl (hP _ _ ⟨_, rfl, rfl, ⟨by decide, by decide⟩, fun h => absurd h (by decide), fun _ => by omega⟩)

theorem f_435 {j : Int32} (hx : In x 0 6) (h0 : 0 ≤ j.toInt) (h1_ : j.toInt < (zn x : Int)) (hd : 3 ≤ d) : GC Z d 435 [.ref (zp Z x), .int j] ws 0 0 (fun v u => ∃ z : Int32, v = some (.int z) ∧ u = ws ∧ In z 0 65535 ∧ (x.toInt = 1 → z.toInt = 108) ∧ z.toInt = zby x.toNatClampNeg j.toNatClampNeg) X := by
  intro post xp hP hX
  refine g_enter2 (k := 435) (N := 300) (by omega) rfl (Nat.le_of_ble_eq_true rfl) ?_
  refine g_iload_n 1 (gd rfl) rfl rfl ?_
  refine g_aload_n 2 (gd rfl) rfl rfl ?_
  refine g_alenZ 3 (gd rfl) rfl hx (fun z3 e3 ez => ?_)
  refine g_calls (As := [.int j, .int z3]) (r := []) 6 (gd rfl) rfl rfl rfl rfl rfl (Nat.le_of_ble_eq_true rfl) (Nat.zero_le _) (Nat.zero_le _) (k_434 h0 (by omega) (by omega)) (fun v u h => ?_)
  obtain ⟨rfl, rfl⟩ := h
  show GG _ _ _ _ _ _ _ _ [] _ _ _
  refine g_aload_n 7 (gd rfl) rfl rfl ?_
  refine g_iload_n 8 (gd rfl) rfl rfl ?_
  refine g_baloadZ 9 (gd rfl) rfl hx h0 h1_ (fun z4 e4 => ?_)
  refine g_sipush 255 12 (gd rfl) rfl rfl ?_
  refine g_iand 13 (gd rfl) rfl (fun z5 e5 => ?_)
  refine g_i2c 14 (gd rfl) rfl (fun z6 e6 => ?_)
  exact g_ireturn (gd rfl) rfl (z_nc2 (in_i2c e6)) (hP _ _ ⟨z6, rfl, rfl, in_i2c e6, fun h1 => z_108 h1 h0 h1_ e4 e5 e6, z_by (z_7 hx) (z_j9 hx h0 h1_) e4 e5 e6⟩)

theorem f_429 {j : Int32} (hx : In x 0 6) (h0 : 0 ≤ j.toInt) (h1 : j.toInt < (zn x : Int)) (hd : 4 ≤ d) : GC Z d 429 [.ref (zq Z x), .int j] ws 0 0 (fun v u => ∃ z : Int32, v = some (.int z) ∧ u = ws ∧ In z 0 65535 ∧ (x.toInt = 1 → z.toInt = 108) ∧ z.toInt = zby x.toNatClampNeg j.toNatClampNeg) X := by
  intro post xp hP hX
  refine g_enter2 (k := 429) (N := 300) (by omega) rfl (Nat.le_of_ble_eq_true rfl) ?_
  refine g_aload_n 1 (gd rfl) rfl rfl ?_
  refine g_callS (As := []) (r := []) (x := x) 4 (gd rfl) rfl rfl rfl zm_433 rfl rfl rfl hx (Nat.le_of_ble_eq_true rfl) (k_433 hx (by omega)) (fun e u h => h) (fun v u h => ?_)
  obtain ⟨rfl, rfl⟩ := h
  show GG _ _ _ _ _ _ _ _ [.int (Int32.ofInt 1)] _ _ _
  refine g_if_eq 7 16 (gd rfl) rfl rfl (fun c => absurd c (by decide)) (fun _ => ?_)
  refine g_aload_n 8 (gd rfl) rfl rfl ?_
  refine g_getVA 11 (gd rfl) rfl hx rfl ?_
  refine g_iload_n 12 (gd rfl) rfl rfl ?_
  refine g_calls (As := [.ref (zp Z x), .int j]) (r := []) 15 (gd rfl) rfl rfl rfl rfl rfl (Nat.le_of_ble_eq_true rfl) (Nat.zero_le _) (Nat.zero_le _) (f_435 hx h0 h1 (by omega)) (fun v u h => ?_)
  obtain ⟨z, rfl, rfl, hz, hz8, hz9⟩ := h
  show GG _ _ _ _ _ _ _ _ [.int z] _ _ _
  exact g_ireturn (gd rfl) rfl (z_nc2 hz) (hP _ _ ⟨z, rfl, rfl, hz, hz8, hz9⟩)

end ZM
/-- which shape belongs to which letter -/
def SHQ (c k : Int) : Prop := (c = 13 ∧ k = 1) ∨ (c = 0 ∧ k = 2) ∨ (c = 19 ∧ k = 3) ∨ (c = 22 ∧ k = 4)
theorem shq_i {c k : Int} (h : SHQ c k) : cmI c := by
  rcases h with h | h | h | h
  · exact Or.inl h.1
  · exact Or.inr (Or.inl h.1)
  · exact Or.inr (Or.inr (Or.inl h.1))
  · exact Or.inr (Or.inr (Or.inr h.1))
theorem shq_n {c : Int} {x : Int32} (h : SHQ c x.toInt) : zn x = cmA c := by
  unfold zn
  rcases h with ⟨h1, h2⟩ | ⟨h1, h2⟩ | ⟨h1, h2⟩ | ⟨h1, h2⟩
  · rw [show x.toNatClampNeg = 1 from by show x.toInt.toNat = 1; omega, h1]; rfl
  · rw [show x.toNatClampNeg = 2 from by show x.toInt.toNat = 2; omega, h1]; rfl
  · rw [show x.toNatClampNeg = 3 from by show x.toInt.toNat = 3; omega, h1]; rfl
  · rw [show x.toNatClampNeg = 4 from by show x.toInt.toNat = 4; omega, h1]; rfl
theorem shq_5 {c k : Int} (h : SHQ c k) : cmA c ≤ 5 ∧ 1 ≤ cmA c := by
  rcases h with ⟨h1, h2⟩ | ⟨h1, h2⟩ | ⟨h1, h2⟩ | ⟨h1, h2⟩ <;> (rw [h1]; decide)
theorem shq_k {c : Int} {x : Int32} {j : Nat} (h : SHQ c x.toInt) (hj : j < cmA c) : (zby x.toNatClampNeg j = 108 → cmK c (j + 1) = 1) ∧ (zby x.toNatClampNeg j ≠ 108 → cmK c (j + 1) = 2) := by
  rcases h with ⟨h1, h2⟩ | ⟨h1, h2⟩ | ⟨h1, h2⟩ | ⟨h1, h2⟩
  · rw [show x.toNatClampNeg = 1 from by show x.toInt.toNat = 1; omega]
    rw [h1] at hj ⊢
    exact (by decide : ∀ j, j < 1 → (zby 1 j = 108 → cmK 13 (j + 1) = 1) ∧ (zby 1 j ≠ 108 → cmK 13 (j + 1) = 2)) j hj
  · rw [show x.toNatClampNeg = 2 from by show x.toInt.toNat = 2; omega]
    rw [h1] at hj ⊢
    exact (by decide : ∀ j, j < 5 → (zby 2 j = 108 → cmK 0 (j + 1) = 1) ∧ (zby 2 j ≠ 108 → cmK 0 (j + 1) = 2)) j hj
  · rw [show x.toNatClampNeg = 3 from by show x.toInt.toNat = 3; omega]
    rw [h1] at hj ⊢
    exact (by decide : ∀ j, j < 1 → (zby 3 j = 108 → cmK 19 (j + 1) = 1) ∧ (zby 3 j ≠ 108 → cmK 19 (j + 1) = 2)) j hj
  · rw [show x.toNatClampNeg = 4 from by show x.toInt.toNat = 4; omega]
    rw [h1] at hj ⊢
    exact (by decide : ∀ j, j < 2 → (zby 4 j = 108 → cmK 22 (j + 1) = 1) ∧ (zby 4 j ≠ 108 → cmK 22 (j + 1) = 2)) j hj
end
section
/-! COMMANDS AS THE REFERENCE READS THEM -/
theorem shk {c : Int} {k : Int} (hc : cmI c) (h0 : 0 ≤ k) (hk : k ≤ (cmA c : Int)) : cmK c (k.toNat + 1) = (if c = 13 then (if k = 0 then 1 else 3) else if c = 0 then (if k < 4 then 2 else if k = 4 then 1 else 3) else if c = 19 then (if k < 1 then 2 else 3) else (if k < 2 then 2 else 3)) := by
  obtain ⟨j, rfl⟩ : ∃ j : Nat, k = (j : Int) := ⟨k.toNat, by omega⟩
  have e : ((j : Int)).toNat = j := Int.toNat_natCast j
  rw [e]
  rcases hc with h | h | h | h
  · rw [h] at hk ⊢
    have hj : j < 2 := by have : (cmA 13 : Int) = 1 := rfl; omega
    exact (by decide : ∀ j, j < 2 → cmK 13 (j + 1) = (if (13 : Int) = 13 then (if (j : Int) = 0 then 1 else 3) else if (13 : Int) = 0 then (if (j : Int) < 4 then 2 else if (j : Int) = 4 then 1 else 3) else if (13 : Int) = 19 then (if (j : Int) < 1 then 2 else 3) else (if (j : Int) < 2 then 2 else 3))) j hj
  · rw [h] at hk ⊢
    have hj : j < 6 := by have : (cmA 0 : Int) = 5 := rfl; omega
    exact (by decide : ∀ j, j < 6 → cmK 0 (j + 1) = (if (0 : Int) = 13 then (if (j : Int) = 0 then 1 else 3) else if (0 : Int) = 0 then (if (j : Int) < 4 then 2 else if (j : Int) = 4 then 1 else 3) else if (0 : Int) = 19 then (if (j : Int) < 1 then 2 else 3) else (if (j : Int) < 2 then 2 else 3))) j hj
  · rw [h] at hk ⊢
    have hj : j < 2 := by have : (cmA 19 : Int) = 1 := rfl; omega
    exact (by decide : ∀ j, j < 2 → cmK 19 (j + 1) = (if (19 : Int) = 13 then (if (j : Int) = 0 then 1 else 3) else if (19 : Int) = 0 then (if (j : Int) < 4 then 2 else if (j : Int) = 4 then 1 else 3) else if (19 : Int) = 19 then (if (j : Int) < 1 then 2 else 3) else (if (j : Int) < 2 then 2 else 3))) j hj
  · rw [h] at hk ⊢
    have hj : j < 3 := by have : (cmA 22 : Int) = 2 := rfl; omega
    exact (by decide : ∀ j, j < 3 → cmK 22 (j + 1) = (if (22 : Int) = 13 then (if (j : Int) = 0 then 1 else 3) else if (22 : Int) = 0 then (if (j : Int) < 4 then 2 else if (j : Int) = 4 then 1 else 3) else if (22 : Int) = 19 then (if (j : Int) < 1 then 2 else 3) else (if (j : Int) < 2 then 2 else 3))) j hj
theorem cmK_r {c : Int} {i : Nat} : 1 ≤ cmK c i ∧ cmK c i ≤ 3 ∧ (i ≤ cmA c → cmK c i ≠ 3) ∧ (i = cmA c + 1 → cmK c i = 3) := by
  unfold cmK
  by_cases h : i = cmA c + 1
  · rw [if_pos h]; exact ⟨by decide, by decide, fun h2 => by omega, fun _ => rfl⟩
  · rw [if_neg h]
    by_cases g : (c = 13 ∧ i = 1) ∨ (c = 0 ∧ i = 5)
    · rw [if_pos g]; exact ⟨by decide, by decide, fun _ => by decide, fun h2 => absurd h2 h⟩
    · rw [if_neg g]; exact ⟨by decide, by decide, fun _ => by decide, fun h2 => absurd h2 h⟩
def C4 (x : Int) : Prop := x = 110 ∨ x = 97 ∨ x = 116 ∨ x = 119
theorem c4_i {x : Int} (h : C4 x) : cmI (x - 97) := by
  rcases h with h | h | h | h
  · exact Or.inl (by omega)
  · exact Or.inr (Or.inl (by omega))
  · exact Or.inr (Or.inr (Or.inl (by omega)))
  · exact Or.inr (Or.inr (Or.inr (by omega)))
/-- what a call answers says whether P; what shape says -/
def YNQ (r : Int) (P : Prop) : Prop := (r ≠ 0 → P) ∧ (r = 0 → ¬ P)
def SHK (c k r : Int) : Prop := cmI c → k ≤ (cmA c : Int) → r = cmK c (k.toNat + 1)
/-- i things of the command c have been read -/
def CST (T : Nat → Int32) (n a : Nat) (c : Int) (i : Nat) (W : Nat → Int) (e : Nat) : Prop := (∀ j, j < i → ∃ q f, TSQ T n a (j + 1) q f (cmK c (j + 1)) (W j)) ∧ ∃ p k v, TSQ T n a i p e k v
/-- and the semicolon -/
def CSE (T : Nat → Int32) (n a : Nat) (c : Int) (W : Nat → Int) (e : Nat) : Prop := (∀ j, j < cmA c → ∃ q f, TSQ T n a (j + 1) q f (cmK c (j + 1)) (W j)) ∧ ∃ q v, TSQ T n a (cmA c + 1) q e 3 v
section CS
variable {T : Nat → Int32} {n a e p e2 : Nat} {c k v : Int} {i : Nat} {W : Nat → Int}
theorem cst_0 {p0 : Nat} (h : TSQ T n a 0 p0 e 1 c) : CST T n a c 0 W e := ⟨fun j hj => absurd hj (Nat.not_lt_zero _), p0, 1, c, h⟩
theorem cs_bad {p0 e0 : Nat} (hc : cmI c) (h0 : TSQ T n a 0 p0 e0 1 c) (hi : i ≤ cmA c) (h : CST T n a c i W e) (ht : TKN T n e p e2 k v) (hk : k ≠ cmK c (i + 1)) : CMX T n a (cmF k) p := by
  obtain ⟨h1, p1, k1, v1, h2⟩ := h
  exact Or.inr ⟨c, p0, e0, hc, h0, i, hi, fun j hj => by
    obtain ⟨q, f, h3⟩ := h1 j hj
    exact ⟨q, f, _, h3⟩, e2, k, v, ⟨p1, e, k1, v1, h2, ht⟩, hk, rfl⟩
theorem cs_more {W2 : Nat → Int} (h : CST T n a c i W e) (ht : TKN T n e p e2 k v) (hk : k = cmK c (i + 1)) (hW : ∀ j, j < i → W2 j = W j) (hv : W2 i = v) : CST T n a c (i + 1) W2 e2 := by
  obtain ⟨h1, p1, k1, v1, h2⟩ := h
  have hn : TSQ T n a (i + 1) p e2 k v := ⟨p1, e, k1, v1, h2, ht⟩
  refine ⟨fun j hj => ?_, p, k, v, hn⟩
  by_cases g : j = i
  · rw [g, hv, ← hk]; exact ⟨_, _, hn⟩
  · rw [hW j (by omega)]; exact h1 j (by omega)
theorem cs_end (hi : i = cmA c) (h : CST T n a c i W e) (ht : TKN T n e p e2 k v) (hk : k = 3) : CSE T n a c W e2 := by
  obtain ⟨h1, p1, k1, v1, h2⟩ := h
  rw [hi] at h1 h2
  refine ⟨h1, p, v, p1, e, k1, v1, h2, ?_⟩
  rw [← hk]; exact ht
theorem cst_cg {W2 : Nat → Int} (h : CST T n a c i W e) (hW : ∀ j, j < i → W2 j = W j) : CST T n a c i W2 e := ⟨fun j hj => by rw [hW j hj]; exact h.1 j hj, h.2⟩
theorem cse_cg {W2 : Nat → Int} (h : CSE T n a c W e) (hW : ∀ j, j < cmA c → W2 j = W j) : CSE T n a c W2 e := ⟨fun j hj => by rw [hW j hj]; exact h.1 j hj, h.2⟩
theorem cs_cmp {p0 e0 : Nat} (hc : cmI c) (h0 : TSQ T n a 0 p0 e0 1 c) (h : CSE T n a c W e) : CMP T n a p0 c W e := ⟨hc, ⟨e0, h0⟩, h.1, h.2⟩
end CS
/-- which kind the reference's token has, by its fields -/
def NTV (s : GS) (k v : Int) : Prop := (k = 0 → (s.2.2.1 109 28).toInt = 0) ∧ (k = 1 → (s.2.2.1 109 28).toInt = 1 ∧ (s.2.2.1 109 30).toInt = v + 97) ∧ (k = 2 → (s.2.2.1 109 28).toInt = 2 ∧ (s.2.2.2.1 109 31).toInt = v) ∧ (k = 3 → (s.2.2.1 109 28).toInt = 3 ∧ (s.2.2.1 109 30).toInt = 59) ∧ k ≠ 4 ∧ k ≠ 5
theorem ntk_f {s t : GS} {k v : Int} (h : NTK s t k v) (h0 : (s.2.2.1 109 23).toInt = 0) : ((t.2.2.1 109 23).toInt ≠ 0 → (t.2.2.1 109 23).toInt = cmF k ∧ (t.2.2.1 109 24).toInt = (t.2.2.1 109 29).toInt ∧ 4 ≤ k) ∧ ((t.2.2.1 109 23).toInt = 0 → NTV t k v) := by
  obtain ⟨n0, n1, n2, n3, n4, n5, n6⟩ := h
  by_cases k4 : k = 4
  · have b := (n4 k4).2.2.1 h0
    have e : cmF k = 1 := by rw [k4]; rfl
    exact ⟨fun _ => ⟨by rw [b.1, e], b.2, by omega⟩, fun z => by rw [b.1] at z; exact absurd z (by decide)⟩
  · by_cases k5 : k = 5
    · have b := (n5 k5).2.1 h0
      have e : cmF k = 3 := by rw [k5]; rfl
      exact ⟨fun _ => ⟨by rw [b.1, e], b.2, by omega⟩, fun z => by rw [b.1] at z; exact absurd z (by decide)⟩
    · have f := n6 k4 k5
      exact ⟨fun z => by rw [f.1] at z; exact absurd h0 z, fun _ => ⟨n0, n1, n2, n3, k4, k5⟩⟩
theorem ntv_t {s : GS} {k v : Int} (h : NTV s k v) (h0 : 0 ≤ k) (h5 : k ≤ 5) : (s.2.2.1 109 28).toInt = k := by
  obtain ⟨n0, n1, n2, n3, n4, n5⟩ := h
  by_cases a : k = 0
  · rw [n0 a, a]
  · by_cases b : k = 1
    · rw [(n1 b).1, b]
    · by_cases c : k = 2
      · rw [(n2 c).1, c]
      · rw [(n3 (by omega)).1]; omega
theorem tkn_v2 {T : Nat → Int32} {n a p e : Nat} {k v : Int} (h : TKN T n a p e k v) (hk : k = 2) : -9999999 ≤ v ∧ v ≤ 9999999 := by
  rcases h.2 with ⟨h1, h2, h3⟩ | ⟨h1, h2, h3, h4, h5⟩ | ⟨q, h1, h2, h3⟩ | ⟨h1, h2, h3, h4, h5⟩ | ⟨h1, h2, h3, h4, h5, h6⟩
  · omega
  · omega
  · rcases h3 with ⟨a1, a2, a3⟩ | ⟨a1, a2⟩
    · obtain ⟨g1, g2, g3, g4⟩ := h2
      have b := tkN_7 a1 (fun i x y => g3 i x (by omega))
      by_cases c : q = p
      · rw [if_pos c] at a3; omega
      · rw [if_neg c] at a3; omega
    · omega
  · omega
  · omega
theorem l2i_v {x : Int64} {z : Int32} (e : z = x.toInt32) (h : -9999999 ≤ x.toInt ∧ x.toInt ≤ 9999999) : z.toInt = x.toInt := by
  rw [e, Int64.toInt_toInt32]
  exact Int.bmod_eq_of_le (by omega) (by omega)
/-- the copy that the reference tries commands on is like g -/
def SIM (s : GS) (g : GVW) : Prop := (s.1 110 2).toInt = g.2.2.2.2.2.2.1 ∧ (∀ i, i < 160 → thg s 320 i = ctg g.2.1 i) ∧ (s.2.2.1 109 9).toInt + (s.2.2.1 109 32).toInt = g.2.2.2.2.2.2.2
section SIM
variable {s t : GS} {g : GVW} {c : Int} {m : Nat} {V : Nat → Int}
theorem sim_t (h : SIM s g) {x : Int32} (h0 : 0 ≤ x.toInt) (h1 : x.toInt ≤ 159) : (thg s 320 x.toNatClampNeg = true) ↔ (g.2.1 x.toInt.toNat).toInt ≠ -1 := by
  have e := h.2.1 x.toNatClampNeg (by show x.toInt.toNat < 160; omega)
  rw [e]
  unfold ctg
  exact decide_eq_true_iff
theorem sim_f (h : SIM s g) : fpl (thg s 320) = fpl (ctg g.2.1) := fpl_cg h.2.1
/-- what the reference tries is what can be done -/
theorem don_dk (h : SIM s g) (hv : g.2.2.2.2.2.2.2 ≤ 3999) (hc : cmI c) (hV : ∀ j, j < cmA c → V j = (s.1 128 (m + j)).toInt) (hd : DON s (c + 97) m) : dkC g c V := by
  obtain ⟨d1, d2, d3, d4⟩ := hd
  rcases hc with e | e | e | e
  · refine dk_13 e hv ?_
    rw [← h.1]
    exact d1 (by omega)
  · have hA : cmA c = 5 := by rw [e]; rfl
    rw [hA] at hV
    obtain ⟨a1, a2, a3, a4, a5⟩ := d2 (by omega)
    unfold nq at a2 a3 a4 a5
    refine dk_0 e hv ?_
    rw [hV 0 (by omega), hV 1 (by omega), hV 2 (by omega), hV 3 (by omega), ← h.1, ← sim_f h]
    exact ⟨⟨a2.1, by have := a2.2; simp only [Nat.add_zero] at *; omega⟩, ⟨a3.1, by have := a3.2; omega⟩, a4, a5, a1⟩
  · have hA : cmA c = 1 := by rw [e]; rfl
    rw [hA] at hV
    obtain ⟨a1, a2⟩ := d3 (Or.inl (by omega))
    unfold nq at a1
    refine dk_19 e hv ?_
    rw [hV 0 (by omega)]
    exact ⟨a1.1, a1.2, (sim_t h a1.1 a1.2).mp a2⟩
  · have hA : cmA c = 2 := by rw [e]; rfl
    rw [hA] at hV
    obtain ⟨a1, a2⟩ := d3 (Or.inr (by omega))
    have a3 := d4 (by omega)
    unfold nq at a1 a3
    refine dk_22 e hv ?_ ?_
    · rw [hV 0 (by omega)]
      exact ⟨a1.1, a1.2, (sim_t h a1.1 a1.2).mp a2⟩
    · rw [hV 1 (by omega)]
      exact a3
theorem dk_don (h : SIM s g) (hc : cmI c) (hV : ∀ j, j < cmA c → V j = (s.1 128 (m + j)).toInt) (hd : dkC g c V) : DON s (c + 97) m := by
  obtain ⟨-, d2, d3, d4, d5⟩ := hd
  rcases hc with e | e | e | e
  · refine don_110 (by omega) ?_
    rw [h.1]
    exact d2 e
  · have hA : cmA c = 5 := by rw [e]; rfl
    rw [hA] at hV
    have a := d3 e
    rw [hV 0 (by omega), hV 1 (by omega), hV 2 (by omega), hV 3 (by omega), ← h.1, ← sim_f h] at a
    obtain ⟨a1, a2, a3, a4, a5⟩ := a
    refine don_97 (by omega) ⟨a5, ?_, ?_, a3, a4⟩
    · unfold nq
      have q1 := a1.1
      have q2 := a1.2
      simp only [Nat.add_zero] at q1 q2
      exact ⟨q1, by omega⟩
    · unfold nq
      have q1 := a2.1
      have q2 := a2.2
      exact ⟨q1, by omega⟩
  · have hA : cmA c = 1 := by rw [e]; rfl
    rw [hA] at hV
    have a := d4 e
    rw [hV 0 (by omega)] at a
    exact don_116 (by omega) ⟨⟨a.1, a.2.1⟩, (sim_t h a.1 a.2.1).mpr a.2.2⟩
  · have hA : cmA c = 2 := by rw [e]; rfl
    rw [hA] at hV
    have a := d5 e
    rw [hV 0 (by omega), hV 1 (by omega)] at a
    exact don_119 (by omega) ⟨⟨a.1.1, a.1.2.1⟩, (sim_t h a.1.1 a.1.2.1).mpr a.1.2.2⟩ a.2
theorem ctg_u {f : Nat → Int32} {p : Nat} {x : Int32} {b : Nat → Bool} (h : ∀ i, i < 160 → b i = ctg f i) : ∀ i, i < 160 → ubq b p (decide (x.toInt ≠ -1)) i = ctg (upd f p x) i := by
  intro i hi
  unfold ubq ctg
  by_cases e : i = p
  · rw [if_pos e, e, ug_at]
  · rw [if_neg e, ug_ne e]
    exact h i hi
/-- and does to its copy -/
theorem sdn_sim (h : SIM s g) (hc : cmI c) (hV : ∀ j, j < cmA c → V j = (s.1 128 (m + j)).toInt) (hd : DON s (c + 97) m) (hs : SDN s t (c + 97) m) (hk : (t.2.2.1 109 9).toInt + (t.2.2.1 109 32).toInt = (s.2.2.1 109 9).toInt + (s.2.2.1 109 32).toInt + 1) : SIM t (opC g c V) := by
  obtain ⟨s1, s2, s3, s4⟩ := hs
  obtain ⟨h1, h2, h3⟩ := h
  unfold opC
  rcases hc with e | e | e | e
  · rw [if_pos e]
    obtain ⟨a1, a2, a3⟩ := s1 (by omega)
    exact ⟨by rw [a1, h1]; rfl, fun i hi => by rw [a3]; exact h2 i hi, by rw [hk, h3]; rfl⟩
  · have hA : cmA c = 5 := by rw [e]; rfl
    rw [hA] at hV
    rw [if_neg (by omega), if_pos e]
    obtain ⟨a1, a2, a3, -, -, -, a7⟩ := s2 (by omega)
    have x0 : (Int32.ofInt (V 0)).toInt ≠ -1 := by
      rw [hV 0 (by omega), Int32.ofInt_toInt]
      have := a3.1
      simp only [Nat.add_zero]
      omega
    refine ⟨by rw [a1, h1]; rfl, fun i hi => ?_, by rw [hk, h3]; rfl⟩
    rw [a7, sim_f ⟨h1, h2, h3⟩]
    have u := ctg_u (p := fpl (ctg g.2.1)) (x := Int32.ofInt (V 0)) h2 i hi
    rw [decide_eq_true x0] at u
    exact u
  · have hA : cmA c = 1 := by rw [e]; rfl
    rw [hA] at hV
    rw [if_neg (by omega), if_neg (by omega), if_pos e]
    obtain ⟨a1, a2, a3⟩ := s3 (by omega)
    refine ⟨by rw [a1, h1]; rfl, fun i hi => ?_, by rw [hk, h3]; rfl⟩
    rw [a3]
    have u := ctg_u (p := (s.1 128 m).toNatClampNeg) (x := Int32.ofInt (-1)) h2 i hi
    rw [show decide ((Int32.ofInt (-1)).toInt ≠ -1) = false from rfl] at u
    rw [hV 0 (by omega)]
    exact u
  · have hA : cmA c = 2 := by rw [e]; rfl
    rw [hA] at hV
    rw [if_neg (by omega), if_neg (by omega), if_neg (by omega)]
    obtain ⟨a1, -, -, a4⟩ := s4 (by omega) (by omega) (by omega)
    exact ⟨by rw [a1, h1]; rfl, fun i hi => by rw [a4]; exact h2 i hi, by rw [hk, h3]; rfl⟩
end SIM
/-! command of the reference: its loop, its end -/
def HQ5 (s t : GS) (c : Int) (k m : Int32) (e : Nat) : Prop := (t.2.2.1 109 23).toInt = 0 → m.toInt ≠ 0 → k.toInt ≤ (cmA c : Int) ∧ ∀ a : Nat, TKN (s.1 125) (s.2.2.1 109 22).toInt.toNat a (s.2.2.1 109 29).toInt.toNat (s.2.2.1 109 27).toInt.toNat 1 c → CST (s.1 125) (s.2.2.1 109 22).toInt.toNat a c k.toInt.toNat (fun j => (t.1 128 (5 * (s.2.2.1 109 32).toNatClampNeg + j)).toInt) e
def HQ6 (s t : GS) (c : Int) (m : Int32) (e : Nat) : Prop := (t.2.2.1 109 23).toInt = 0 → m.toInt = 0 → ∀ a : Nat, TKN (s.1 125) (s.2.2.1 109 22).toInt.toNat a (s.2.2.1 109 29).toInt.toNat (s.2.2.1 109 27).toInt.toNat 1 c → CSE (s.1 125) (s.2.2.1 109 22).toInt.toNat a c (fun j => (t.1 128 (5 * (s.2.2.1 109 32).toNatClampNeg + j)).toInt) e
def HQ7 (s t : GS) (c : Int) : Prop := (t.2.2.1 109 23).toInt ≠ 0 → 0 ≤ (t.2.2.1 109 24).toInt ∧ ∀ a : Nat, TKN (s.1 125) (s.2.2.1 109 22).toInt.toNat a (s.2.2.1 109 29).toInt.toNat (s.2.2.1 109 27).toInt.toNat 1 c → CMX (s.1 125) (s.2.2.1 109 22).toInt.toNat a (t.2.2.1 109 23).toInt (t.2.2.1 109 24).toInt.toNat
/-- what command does, from a place a whose token has been read -/
def RCM (s t : GS) : Prop := ∀ (a : Nat) (k v : Int), TKN (s.1 125) (s.2.2.1 109 22).toInt.toNat a (s.2.2.1 109 29).toInt.toNat (s.2.2.1 109 27).toInt.toNat k v → NTV s k v → k ≠ 0 →
  ((t.2.2.1 109 23).toInt = 0 → (t.2.2.1 109 32).toInt = (s.2.2.1 109 32).toInt + 1 ∧ ∃ c V, CMP (s.1 125) (s.2.2.1 109 22).toInt.toNat a (s.2.2.1 109 29).toInt.toNat c V (t.2.2.1 109 27).toInt.toNat ∧ (t.1 127 (s.2.2.1 109 32).toNatClampNeg).toInt = c + 97 ∧ (∀ i, i < cmA c → (t.1 128 (5 * (s.2.2.1 109 32).toNatClampNeg + i)).toInt = V i) ∧ (∀ j, j < (s.2.2.1 109 32).toNatClampNeg → t.1 127 j = s.1 127 j) ∧ (∀ j, j < 5 * (s.2.2.1 109 32).toNatClampNeg → t.1 128 j = s.1 128 j) ∧ ∀ g, SIM s g → dkC g c V ∧ SIM t (opC g c V)) ∧
  ((t.2.2.1 109 23).toInt ≠ 0 → 0 ≤ (t.2.2.1 109 24).toInt ∧ (CMX (s.1 125) (s.2.2.1 109 22).toInt.toNat a (t.2.2.1 109 23).toInt (t.2.2.1 109 24).toInt.toNat ∨ ∃ c V e, CMP (s.1 125) (s.2.2.1 109 22).toInt.toNat a (t.2.2.1 109 24).toInt.toNat c V e ∧ (∀ g, SIM s g → ¬ dkC g c V) ∧ (t.2.2.1 109 23).toInt = 4))
section RCM
variable {s t : GS} {c : Int} {W : Nat → Int} {e : Nat}
theorem rcm_in {a : Nat} {k v : Int} (h : TKN (s.1 125) (s.2.2.1 109 22).toInt.toNat a (s.2.2.1 109 29).toInt.toNat (s.2.2.1 109 27).toInt.toNat k v) (hn : NTV s k v) (h1 : (s.2.2.1 109 28).toInt = 1) (h2 : (s.2.2.1 109 30).toInt = c + 97) : TKN (s.1 125) (s.2.2.1 109 22).toInt.toNat a (s.2.2.1 109 29).toInt.toNat (s.2.2.1 109 27).toInt.toNat 1 c := by
  have r := tkn_e h
  have ek := ntv_t hn r.2.2.2.2.1 r.2.2.2.2.2
  rw [h1] at ek
  have ev := (hn.2.1 ek.symm).2
  rw [h2] at ev
  have e1 : v = c := by omega
  rw [← e1, ek]
  exact h
theorem rcm_48 (p48 : FBL s t 2 (s.2.2.1 109 29).toInt) (h0 : (s.2.2.1 109 23).toInt = 0) (hp : 0 ≤ (s.2.2.1 109 29).toInt) (hn : ¬ ((s.2.2.1 109 28).toInt = 1 ∧ C4 (s.2.2.1 109 30).toInt)) : RCM s t := by
  intro a k v h hv hk
  have b := p48.1 h0
  have r := tkn_e h
  have ek := ntv_t hv r.2.2.2.2.1 r.2.2.2.2.2
  refine ⟨fun z => by rw [b.1] at z; exact absurd z (by decide), fun _ => ⟨by rw [b.2]; exact hp, Or.inl ?_⟩⟩
  rw [b.1, b.2]
  refine Or.inl ⟨_, k, v, h, hk, fun z => hn ?_, ?_⟩
  · refine ⟨by rw [ek]; exact z.1, ?_⟩
    have ev := (hv.2.1 z.1).2
    rw [ev]
    rcases z.2 with q | q | q | q
    · exact Or.inl (by omega)
    · exact Or.inr (Or.inl (by omega))
    · exact Or.inr (Or.inr (Or.inl (by omega)))
    · exact Or.inr (Or.inr (Or.inr (by omega)))
  · unfold cmF
    rw [if_neg hv.2.2.2.2.1, if_neg hv.2.2.2.2.2]
theorem rcm_x (h1 : (s.2.2.1 109 28).toInt = 1) (h2 : (s.2.2.1 109 30).toInt = c + 97) (h7 : HQ7 s t c) (hf : (t.2.2.1 109 23).toInt ≠ 0) : RCM s t := by
  intro a k v h hv hk
  exact ⟨fun z => absurd z hf, fun z => ⟨(h7 z).1, Or.inl ((h7 z).2 a (rcm_in h hv h1 h2))⟩⟩
theorem rcm_4 (h1 : (s.2.2.1 109 28).toInt = 1) (h2 : (s.2.2.1 109 30).toInt = c + 97) (hc : cmI c) (hE : ∀ a : Nat, TKN (s.1 125) (s.2.2.1 109 22).toInt.toNat a (s.2.2.1 109 29).toInt.toNat (s.2.2.1 109 27).toInt.toNat 1 c → CSE (s.1 125) (s.2.2.1 109 22).toInt.toNat a c W e) (hn : ∀ g, SIM s g → ¬ dkC g c W) (hf : (t.2.2.1 109 23).toInt = 4) (hp : (t.2.2.1 109 24).toInt = (s.2.2.1 109 29).toInt) (h0 : 0 ≤ (s.2.2.1 109 29).toInt) : RCM s t := by
  intro a k v h hv hk
  have hi := rcm_in h hv h1 h2
  refine ⟨fun z => by rw [hf] at z; exact absurd z (by decide), fun _ => ⟨by rw [hp]; exact h0, Or.inr ⟨c, W, e, ?_, hn, hf⟩⟩⟩
  rw [hp]
  exact cs_cmp hc hi (hE a hi)
theorem rcm_0 (h1 : (s.2.2.1 109 28).toInt = 1) (h2 : (s.2.2.1 109 30).toInt = c + 97) (hc : cmI c) (hE : ∀ a : Nat, TKN (s.1 125) (s.2.2.1 109 22).toInt.toNat a (s.2.2.1 109 29).toInt.toNat (s.2.2.1 109 27).toInt.toNat 1 c → CSE (s.1 125) (s.2.2.1 109 22).toInt.toNat a c W e) (hf : (t.2.2.1 109 23).toInt = 0) (hm : (t.2.2.1 109 32).toInt = (s.2.2.1 109 32).toInt + 1) (he : (t.2.2.1 109 27).toInt.toNat = e) (hw : (t.1 127 (s.2.2.1 109 32).toNatClampNeg).toInt = c + 97) (hV : ∀ i, i < cmA c → (t.1 128 (5 * (s.2.2.1 109 32).toNatClampNeg + i)).toInt = W i) (k7 : ∀ j, j < (s.2.2.1 109 32).toNatClampNeg → t.1 127 j = s.1 127 j) (k8 : ∀ j, j < 5 * (s.2.2.1 109 32).toNatClampNeg → t.1 128 j = s.1 128 j) (hs : ∀ g, SIM s g → dkC g c W ∧ SIM t (opC g c W)) : RCM s t := by
  intro a k v h hv hk
  have hi := rcm_in h hv h1 h2
  refine ⟨fun _ => ⟨hm, c, W, ?_, hw, hV, k7, k8, hs⟩, fun z => absurd hf z⟩
  rw [he]
  exact cs_cmp hc hi (hE a hi)
theorem sim_cg {g : GVW} (h : SIM s g) (h0 : t.1 110 = s.1 110) (h2 : t.1 112 = s.1 112) (h9 : t.2.2.1 109 9 = s.2.2.1 109 9) (hm : t.2.2.1 109 32 = s.2.2.1 109 32) : SIM t g := by
  have eg : thg t 320 = thg s 320 := by unfold thg; rw [h2]
  unfold SIM
  rw [h0, eg, h9, hm]
  exact h
theorem c97 {y : Int32} {z : Int32} (h : y = z) : z.toInt = y.toInt - 97 + 97 := by rw [h]; omega
/-- not done -/
theorem rcm_n {sc : GS} {y y1 y4 w w27 : Int32} {m : Nat} (h3 : C4 y.toInt ∧ y = s.2.2.1 109 30 ∧ (s.2.2.1 109 28).toInt = 1 ∧ y1 = s.2.2.1 109 29) (h4 : sc.1 110 = s.1 110 ∧ sc.1 112 = s.1 112 ∧ sc.1 127 = s.1 127 ∧ (∀ j, j < 5 * (s.2.2.1 109 32).toNatClampNeg → sc.1 128 j = s.1 128 j) ∧ sc.2.2.1 109 32 = s.2.2.1 109 32) (h6 : HQ6 s sc (y.toInt - 97) y4 w27.toInt.toNat) (hf0 : (sc.2.2.1 109 23).toInt = 0) (hm0 : y4.toInt = 0) (h9 : sc.2.2.1 109 9 = s.2.2.1 109 9) (hw : w = sc.2.2.1 109 32) (hm : m = 5 * w.toNatClampNeg) (hn : ¬ DON (sI sc 127 w.toNatClampNeg y) y.toInt m ∨ 4000 ≤ (s.2.2.1 109 9).toInt + (s.2.2.1 109 32).toInt) (hf : (t.2.2.1 109 23).toInt = 4) (hp : (t.2.2.1 109 24).toInt = y1.toInt) (h0 : 0 ≤ y1.toInt) : RCM s t := by
  have ew : w.toNatClampNeg = (s.2.2.1 109 32).toNatClampNeg := by rw [hw, h4.2.2.2.2]
  refine rcm_4 h3.2.2.1 (c97 h3.2.1) (c4_i h3.1) (h6 hf0 hm0) ?_ hf (by rw [hp, h3.2.2.2]) (by rw [← h3.2.2.2]; exact h0)
  intro g hg hd
  rcases hn with hn | hn
  · apply hn
    have q := dk_don (s := sI sc 127 w.toNatClampNeg y) (m := m) (sim_cg hg ((sI_p rfl).trans h4.1) ((sI_p rfl).trans h4.2.1) h9 h4.2.2.2.2) (c4_i h3.1) (fun j _ => by rw [sI_p rfl, hm, ew]) hd
    rw [Int.sub_add_cancel] at q
    exact q
  · have a := hd.1
    have b := hg.2.2
    omega
/-- done -/
theorem rcm_d {sc x : GS} {y y1 y4 w w27 z : Int32} {m : Nat} (h3 : C4 y.toInt ∧ y = s.2.2.1 109 30 ∧ (s.2.2.1 109 28).toInt = 1 ∧ y1 = s.2.2.1 109 29) (h4 : sc.1 110 = s.1 110 ∧ sc.1 112 = s.1 112 ∧ sc.1 127 = s.1 127 ∧ (∀ j, j < 5 * (s.2.2.1 109 32).toNatClampNeg → sc.1 128 j = s.1 128 j) ∧ sc.2.2.1 109 32 = s.2.2.1 109 32) (h6 : HQ6 s sc (y.toInt - 97) y4 w27.toInt.toNat) (hf0 : (sc.2.2.1 109 23).toInt = 0) (hm0 : y4.toInt = 0) (h9 : sc.2.2.1 109 9 = s.2.2.1 109 9) (hw : w = sc.2.2.1 109 32) (hm : m = 5 * w.toNatClampNeg) (hd : DON (sI sc 127 w.toNatClampNeg y) y.toInt m) (hS : SDN (sI sc 127 w.toNatClampNeg y) x y.toInt m) (hlt : (s.2.2.1 109 9).toInt + (s.2.2.1 109 32).toInt < 4000) (h27 : w27 = sc.2.2.1 109 27) (hz : z.toInt = w.toInt + 1)
    (x9 : x.2.2.1 109 9 = sc.2.2.1 109 9) (x23 : x.2.2.1 109 23 = sc.2.2.1 109 23) (x27 : x.2.2.1 109 27 = sc.2.2.1 109 27) (x127 : x.1 127 = (sI sc 127 w.toNatClampNeg y).1 127) (x128 : x.1 128 = (sI sc 127 w.toNatClampNeg y).1 128) : RCM s (sF x 109 32 z) := by
  have ew : w.toNatClampNeg = (s.2.2.1 109 32).toNatClampNeg := by rw [hw, h4.2.2.2.2]
  have e8 : (sF x 109 32 z).1 128 = sc.1 128 := x128.trans (sI_p rfl)
  have e7 : (sF x 109 32 z).1 127 = upd (s.1 127) (s.2.2.1 109 32).toNatClampNeg y := by
    show x.1 127 = _
    rw [x127, sI_q, h4.2.2.1, ew]
  have e32 : (sF x 109 32 z).2.2.1 109 32 = z := sF_get.symm
  have hz2 : z.toInt = (s.2.2.1 109 32).toInt + 1 := by rw [hz, hw, h4.2.2.2.2]
  refine rcm_0 h3.2.2.1 (c97 h3.2.1) (c4_i h3.1) (h6 hf0 hm0) ?_ ?_ ?_ ?_ ?_ ?_ ?_ ?_
  · show (x.2.2.1 109 23).toInt = 0
    rw [x23]; exact hf0
  · rw [e32]; exact hz2
  · show (x.2.2.1 109 27).toInt.toNat = _
    rw [x27, h27]
  · rw [e7, ug_at]; omega
  · intro i _; rw [e8]
  · intro j hj; rw [e7, ug_ne (by omega)]
  · intro j hj; rw [e8]; exact h4.2.2.2.1 j hj
  · intro g hg
    have hu : SIM (sI sc 127 w.toNatClampNeg y) g := sim_cg hg ((sI_p rfl).trans h4.1) ((sI_p rfl).trans h4.2.1) h9 h4.2.2.2.2
    have hV : ∀ j, j < cmA (y.toInt - 97) → (sc.1 128 (5 * (s.2.2.1 109 32).toNatClampNeg + j)).toInt = ((sI sc 127 w.toNatClampNeg y).1 128 (m + j)).toInt := fun j _ => by rw [sI_p rfl, hm, ew]
    have b := hg.2.2
    refine ⟨don_dk hu (by omega) (c4_i h3.1) hV (by rw [Int.sub_add_cancel]; exact hd), ?_⟩
    refine sdn_sim (t := sF x 109 32 z) hu (c4_i h3.1) hV (by rw [Int.sub_add_cancel]; exact hd) (by rw [Int.sub_add_cancel]; exact hS) ?_
    rw [e32]
    show (x.2.2.1 109 9).toInt + z.toInt = (sc.2.2.1 109 9).toInt + (sc.2.2.1 109 32).toInt + 1
    rw [x9, hz, hw]
    omega
theorem g0_tr {u : GS} (h : G0S s t) (g : G0S t u) : G0S s u := ⟨g.1.trans h.1, fun i hi => (g.2 i hi).trans (h.2 i hi)⟩
theorem g0_cg (h0 : t.1 110 = s.1 110) (h2 : t.1 112 = s.1 112) : G0S s t := ⟨by rw [h0], fun i _ => by rw [h2]⟩
end RCM
end
section
/-! LOAD OF THE REFERENCE: WHAT IT DOES TO ITS GRAPH -/
def NVQ (N : Nat → Int32) (k : Nat) : Nat → Int := fun i => (N (5 * k + i)).toInt
/-- the commands in the rows W, N, carried out one after the other -/
def opF (g0 : GVW) (W N : Nat → Int32) : Nat → GVW
  | 0 => g0
  | k + 1 => opC (opF g0 W N k) ((W k).toInt - 97) (NVQ N k)
theorem opC_5 {g : GVW} {c : Int} {V W : Nat → Int} (h : ∀ i, i < 5 → V i = W i) : opC g c V = opC g c W := by
  unfold opC
  rw [h 0 (by omega), h 1 (by omega), h 2 (by omega), h 3 (by omega), h 4 (by omega)]
theorem opC_v {g : GVW} {c : Int} {V W : Nat → Int} (hc : cmI c) (hV : ∀ i, i < cmA c → V i = W i) : opC g c V = opC g c W := by
  unfold opC
  rcases hc with e | e | e | e
  · have hA : cmA c = 1 := by rw [e]; rfl
    rw [hA] at hV
    rw [if_pos e, if_pos e, hV 0 (by omega)]
  · have hA : cmA c = 5 := by rw [e]; rfl
    rw [hA] at hV
    rw [if_neg (by omega), if_pos e, if_neg (by omega), if_pos e, hV 0 (by omega), hV 1 (by omega), hV 2 (by omega), hV 3 (by omega), hV 4 (by omega)]
  · have hA : cmA c = 1 := by rw [e]; rfl
    rw [hA] at hV
    rw [if_neg (by omega), if_neg (by omega), if_pos e, if_neg (by omega), if_neg (by omega), if_pos e, hV 0 (by omega)]
  · have hA : cmA c = 2 := by rw [e]; rfl
    rw [hA] at hV
    rw [if_neg (by omega), if_neg (by omega), if_neg (by omega), if_neg (by omega), if_neg (by omega), if_neg (by omega), hV 0 (by omega), hV 1 (by omega)]
theorem opF_cg {g0 : GVW} {W V N M : Nat → Int32} : ∀ k, (∀ j, j < k → W j = V j) → (∀ j, j < 5 * k → N j = M j) → opF g0 W N k = opF g0 V M k
  | 0, _, _ => rfl
  | k + 1, h1, h2 => by
    show opC (opF g0 W N k) ((W k).toInt - 97) (NVQ N k) = opC (opF g0 V M k) ((V k).toInt - 97) (NVQ M k)
    rw [opF_cg k (fun j hj => h1 j (by omega)) (fun j hj => h2 j (by omega)), h1 k (by omega)]
    exact opC_5 (fun i hi => by unfold NVQ; rw [h2 (5 * k + i) (by omega)])
def LDG (s t : GS) (a : Nat) : Prop := LRN (s.1 125) (s.2.2.1 109 22).toInt.toNat (gvR s) (t.2.2.1 109 32).toNatClampNeg a (opF (gvR s) (t.1 127) (t.1 128) (t.2.2.1 109 32).toNatClampNeg) ∧ SIM t (opF (gvR s) (t.1 127) (t.1 128) (t.2.2.1 109 32).toNatClampNeg) ∧ ∀ j, j < (t.2.2.1 109 32).toNatClampNeg → cmI ((t.1 127 j).toInt - 97)
def LDX (s t : GS) : Prop := 0 ≤ (t.2.2.1 109 24).toInt ∧ ∃ (k a : Nat) (g1 : GVW), LRN (s.1 125) (s.2.2.1 109 22).toInt.toNat (gvR s) k a g1 ∧ (CMX (s.1 125) (s.2.2.1 109 22).toInt.toNat a (t.2.2.1 109 23).toInt (t.2.2.1 109 24).toInt.toNat ∨ ∃ c V e, CMP (s.1 125) (s.2.2.1 109 22).toInt.toNat a (t.2.2.1 109 24).toInt.toNat c V e ∧ ¬ dkC g1 c V ∧ (t.2.2.1 109 23).toInt = 4)
def LD1 (s t : GS) : Prop := GEQ (gvR t) (gvR s) ∧ ((t.2.2.1 109 23).toInt = 0 → ∃ a, LDG s t a ∧ ∃ k v, TKN (s.1 125) (s.2.2.1 109 22).toInt.toNat a (t.2.2.1 109 29).toInt.toNat (t.2.2.1 109 27).toInt.toNat k v ∧ NTV t k v) ∧ ((t.2.2.1 109 23).toInt ≠ 0 → LDX s t)
/-- the second half: k commands are done -/
def LD3 (s t : GS) (k : Nat) : Prop := (t.2.2.1 109 23).toInt = 0 ∧ (∃ a, LRN (s.1 125) (s.2.2.1 109 22).toInt.toNat (gvR s) (t.2.2.1 109 32).toNatClampNeg a (opF (gvR s) (t.1 127) (t.1 128) (t.2.2.1 109 32).toNatClampNeg) ∧ CME (s.1 125) (s.2.2.1 109 22).toInt.toNat a) ∧ (∀ j, j < (t.2.2.1 109 32).toNatClampNeg → cmI ((t.1 127 j).toInt - 97)) ∧ GEQ (gvR t) (opF (gvR s) (t.1 127) (t.1 128) k) ∧ k ≤ (t.2.2.1 109 32).toNatClampNeg
section LDF
variable {s u t : GS}
theorem r113 (hI : Inv s) {i : Nat} (hi : i < 160) : (s.1 113 i).toInt ≠ -1 := by
  have h := (hI.1.1 113 i (Nat.lt_of_lt_of_le hi (Nat.le_of_ble_eq_true rfl))).1
  have e : (rI 113).1 = 0 := rfl
  omega
theorem geq_0 {L : FM} (h : Fr L s t) (hq : (qI L.1 111 && qI L.1 113 && qI L.1 114 && qI L.1 115 && qI L.1 116 && qI L.1 117 && qF L.2.2.1 109 9) = true) (g : G0S s t) : GEQ (gvR t) (gvR s) := by
  simp only [Bool.and_eq_true] at hq
  obtain ⟨⟨⟨⟨⟨⟨q1, q3⟩, q4⟩, q5⟩, q6⟩, q7⟩, q8⟩ := hq
  refine ⟨fun i _ => ?_, fun i hi => ?_, fun i _ => ?_, fun i _ => ?_, fun i _ => ?_, fun i _ => ?_, ?_, ?_⟩
  · show t.1 111 i = s.1 111 i; rw [h.1 111 q1]
  · show thf (t.1 112) (t.1 113) i = thf (s.1 112) (s.1 113) i
    unfold thf
    rw [g.2 i hi, h.1 113 q3]
  · show t.1 114 i = s.1 114 i; rw [h.1 114 q4]
  · show t.1 115 i = s.1 115 i; rw [h.1 115 q5]
  · show t.1 116 i = s.1 116 i; rw [h.1 116 q6]
  · show t.1 117 i = s.1 117 i; rw [h.1 117 q7]
  · show (t.1 110 0).toInt = (s.1 110 0).toInt; rw [g.1]
  · show (t.2.2.1 109 9).toInt = (s.2.2.1 109 9).toInt; rw [h.2.2.1 109 9 q8]
theorem ctg_thf (h : ∀ i, i < 160 → (s.1 113 i).toInt ≠ -1) {i : Nat} (hi : i < 160) : ctg (thf (s.1 112) (s.1 113)) i = decide ((s.1 112 i).toInt ≠ 0) := by
  unfold ctg thf
  by_cases c : (s.1 112 i).toInt = 0
  · rw [if_pos c]
    rw [show decide ((Int32.ofInt (-1)).toInt ≠ -1) = false from rfl]
    exact (decide_eq_false (fun z => z c)).symm
  · rw [if_neg c]
    exact (decide_eq_true (h i hi)).trans (decide_eq_true c).symm
theorem ldg_0 (hI : Inv s) (h1 : t.1 110 2 = s.1 110 0) (h3 : ∀ i : Nat, i < 160 → t.1 112 (320 + i) = s.1 112 i ∧ t.1 112 i = s.1 112 i) (h9 : t.2.2.1 109 9 = s.2.2.1 109 9) (hm : t.2.2.1 109 32 = Int32.ofInt 0) (h27 : t.2.2.1 109 27 = Int32.ofInt 0) : LDG s t (t.2.2.1 109 27).toInt.toNat := by
  have ec : (t.2.2.1 109 32).toNatClampNeg = 0 := by rw [hm]; rfl
  unfold LDG
  rw [ec, h27]
  refine ⟨⟨rfl, rfl⟩, ⟨by rw [h1]; rfl, fun i hi => ?_, ?_⟩, fun j hj => absurd hj (Nat.not_lt_zero _)⟩
  · show thg t 320 i = ctg (thf (s.1 112) (s.1 113)) i
    rw [ctg_thf (fun i hi => r113 hI hi) hi]
    unfold thg
    rw [(h3 i hi).1]
  · show (t.2.2.1 109 9).toInt + (t.2.2.1 109 32).toInt = (s.2.2.1 109 9).toInt
    rw [h9, hm]
    exact Int.add_zero _
theorem ldg_cg {a : Nat} (h : LDG s u a) (h0 : t.1 110 = u.1 110) (h2 : t.1 112 = u.1 112) (h7 : t.1 127 = u.1 127) (h8 : t.1 128 = u.1 128) (h9 : t.2.2.1 109 9 = u.2.2.1 109 9) (hm : t.2.2.1 109 32 = u.2.2.1 109 32) : LDG s t a := by
  obtain ⟨a1, a2, a3⟩ := h
  have a4 := sim_cg a2 h0 h2 h9 hm
  unfold LDG
  rw [h7, h8, hm]
  exact ⟨a1, a4, a3⟩
/-- a token is read -/
theorem ld_tok (hI : Inv t) (hG : GEQ (gvR u) (gvR s)) (hD : LDG s u (u.2.2.1 109 27).toInt.toNat) (h0 : (u.2.2.1 109 23).toInt = 0) (hp : ∃ k v, TKN (u.1 125) (u.2.2.1 109 22).toInt.toNat (u.2.2.1 109 27).toInt.toNat (t.2.2.1 109 29).toInt.toNat (t.2.2.1 109 27).toInt.toNat k v ∧ NTK u t k v) (u125 : u.1 125 = s.1 125) (u22 : u.2.2.1 109 22 = s.2.2.1 109 22) (hg : gvR t = gvR u) (r0 : t.1 110 = u.1 110) (r2 : t.1 112 = u.1 112) (r7 : t.1 127 = u.1 127) (r8 : t.1 128 = u.1 128) (r9 : t.2.2.1 109 9 = u.2.2.1 109 9) (rm : t.2.2.1 109 32 = u.2.2.1 109 32) : LD1 s t := by
  obtain ⟨k, v, h, hn⟩ := hp
  rw [u125, u22] at h
  have hf := ntk_f hn h0
  have hDt := ldg_cg hD r0 r2 r7 r8 r9 rm
  refine ⟨by rw [hg]; exact hG, fun z => ⟨_, hDt, k, v, h, hf.2 z⟩, fun z => ?_⟩
  obtain ⟨f1, f2, f3⟩ := hf.1 z
  have h9 := inv_F hI (z := t.2.2.1 109 29) 0 1000 rfl rfl
  unfold In at h9
  refine ⟨by rw [f2]; omega, _, _, _, hDt.1, Or.inl ?_⟩
  rw [f1, f2]
  exact Or.inl ⟨_, k, v, h, by omega, fun q => by omega, rfl⟩
theorem ntv_z {k v : Int} {a p e n : Nat} {T : Nat → Int32} (h : TKN T n a p e k v) (hn : NTV t k v) : (t.2.2.1 109 28).toInt = k := by
  have r := tkn_e h
  exact ntv_t hn r.2.2.2.2.1 r.2.2.2.2.2
/-- a command is read and tried -/
theorem ld_cmd (hU : LD1 s u) (h0 : (u.2.2.1 109 23).toInt = 0) (ht : (u.2.2.1 109 28).toInt ≠ 0) (hR : RCM u t) (hT : GEQ (gvR t) (gvR u)) (hIu : 0 ≤ (u.2.2.1 109 32).toInt) (u125 : u.1 125 = s.1 125) (u22 : u.2.2.1 109 22 = s.2.2.1 109 22) : GEQ (gvR t) (gvR s) ∧ ((t.2.2.1 109 23).toInt = 0 → LDG s t (t.2.2.1 109 27).toInt.toNat) ∧ ((t.2.2.1 109 23).toInt ≠ 0 → LDX s t) := by
  obtain ⟨g1, g2, -⟩ := hU
  obtain ⟨a, ⟨d1, d2, d3⟩, k, v, hk, hv⟩ := g2 h0
  have ek := ntv_z hk hv
  unfold RCM at hR
  rw [u125, u22] at hR
  obtain ⟨r1, r2⟩ := hR a k v hk hv (by omega)
  refine ⟨geq_t hT g1, fun z => ?_, fun z => ?_⟩
  · obtain ⟨m1, c, V, m2, m3, m4, m5, m6, m7⟩ := r1 z
    obtain ⟨m8, m9⟩ := m7 _ d2
    have em : (t.2.2.1 109 32).toNatClampNeg = (u.2.2.1 109 32).toNatClampNeg + 1 := by
      show (t.2.2.1 109 32).toInt.toNat = (u.2.2.1 109 32).toInt.toNat + 1
      omega
    have eo : opF (gvR s) (t.1 127) (t.1 128) (u.2.2.1 109 32).toNatClampNeg = opF (gvR s) (u.1 127) (u.1 128) (u.2.2.1 109 32).toNatClampNeg := opF_cg _ m5 m6
    have ec : (t.1 127 (u.2.2.1 109 32).toNatClampNeg).toInt - 97 = c := by omega
    have en : opF (gvR s) (t.1 127) (t.1 128) (t.2.2.1 109 32).toNatClampNeg = opC (opF (gvR s) (u.1 127) (u.1 128) (u.2.2.1 109 32).toNatClampNeg) c V := by
      rw [em]
      show opC (opF (gvR s) (t.1 127) (t.1 128) (u.2.2.1 109 32).toNatClampNeg) ((t.1 127 (u.2.2.1 109 32).toNatClampNeg).toInt - 97) (NVQ (t.1 128) (u.2.2.1 109 32).toNatClampNeg) = _
      rw [eo, ec]
      exact opC_v m2.1 (fun i hi => m4 i hi)
    unfold LDG
    rw [en, em]
    refine ⟨⟨a, _, _, c, V, d1, m2, m8, rfl⟩, m9, fun j hj => ?_⟩
    by_cases q : j = (u.2.2.1 109 32).toNatClampNeg
    · rw [q, ec]; exact m2.1
    · rw [m5 j (by omega)]; exact d3 j (by omega)
  · obtain ⟨x1, x2⟩ := r2 z
    refine ⟨x1, _, a, _, d1, ?_⟩
    rcases x2 with x2 | ⟨c, V, e, y1, y2, y3⟩
    · exact Or.inl x2
    · exact Or.inr ⟨c, V, e, y1, y2 _ d2, y3⟩
theorem ld3_0 (h : LD1 s t) (h0 : (t.2.2.1 109 23).toInt = 0) (ht : (t.2.2.1 109 28).toInt = 0) : LD3 s t 0 := by
  obtain ⟨g1, g2, -⟩ := h
  obtain ⟨a, ⟨d1, d2, d3⟩, k, v, hk, hv⟩ := g2 h0
  have ek := ntv_z hk hv
  rw [ht] at ek
  rw [← ek] at hk
  exact ⟨h0, ⟨a, d1, _, _, v, hk⟩, d3, g1, Nat.zero_le _⟩
theorem ld3_s {k : Nat} (h : LD3 s u k) (hk : k < (u.2.2.1 109 32).toNatClampNeg) (hg : gvR t = opC (gvR u) ((u.1 127 k).toInt - 97) (NVQ (u.1 128) k)) (r7 : t.1 127 = u.1 127) (r8 : t.1 128 = u.1 128) (rm : t.2.2.1 109 32 = u.2.2.1 109 32) (rf : t.2.2.1 109 23 = u.2.2.1 109 23) : LD3 s t (k + 1) := by
  obtain ⟨a0, a1, a2, a3, -⟩ := h
  unfold LD3
  rw [r7, r8, rm, rf, hg]
  exact ⟨a0, a1, a2, opC_e a3 (a2 k hk) (fun _ _ => rfl), hk⟩
theorem ld3_e {k : Nat} {z f p : Int} (h : LD3 s t k) (hk : (t.2.2.1 109 32).toNatClampNeg ≤ k) (hz : z = (((t.2.2.1 109 32).toNatClampNeg : Nat) : Int)) (hf : f = (t.2.2.1 109 23).toInt) : LOT (s.1 125) (s.2.2.1 109 22).toInt.toNat (gvR s) z f p (gvR t) := by
  obtain ⟨a0, ⟨a, a1, a5⟩, a2, a3, a4⟩ := h
  have e : k = (t.2.2.1 109 32).toNatClampNeg := by omega
  rw [e] at a3
  exact Or.inl ⟨_, a, _, a1, a5, hz, by rw [hf]; exact a0, a3⟩
theorem ld1_x {z : Int} (h : LD1 s t) (h0 : (t.2.2.1 109 23).toInt ≠ 0) (hz : z = -4) : LOT (s.1 125) (s.2.2.1 109 22).toInt.toNat (gvR s) z (t.2.2.1 109 23).toInt (t.2.2.1 109 24).toInt (gvR t) := by
  obtain ⟨g1, -, g2⟩ := h
  obtain ⟨x0, k, a, g, x1, x2⟩ := g2 h0
  exact Or.inr ⟨k, a, _, g, x1, x2, hz, by omega, g1⟩
/-- each kind -/
theorem oR_n {c : Int} {V : Nat → Int} {x : Int32} (h : c = 13) (h0 : V 0 = x.toInt) : opC (gvR s) c V = gqN (gvR s) (s.1 110 0).toNatClampNeg x := by
  unfold opC
  rw [if_pos h, h0, Int32.ofInt_toInt]
  rfl
theorem oR_a {c : Int} {V : Nat → Int} {p : Nat} {x0 x1 x2 x3 x4 : Int32} (hI : Inv s) (h : c = 0) (hp : p = fpl (thg s 0)) (h0 : V 0 = x0.toInt) (h1 : V 1 = x1.toInt) (h2 : V 2 = x2.toInt) (h3 : V 3 = x3.toInt) (h4 : V 4 = x4.toInt) : opC (gvR s) c V = gqA (gvR s) p x0 x1 x2 x3 x4 := by
  unfold opC
  have e : fpl (ctg (gvR s).2.1) = p := by
    rw [hp]
    refine fpl_cg (fun i hi => ?_)
    show ctg (thf (s.1 112) (s.1 113)) i = thg s 0 i
    rw [ctg_thf (fun i hi => r113 hI hi) hi]
    unfold thg
    rw [Nat.zero_add]
  rw [if_neg (by omega), if_pos h, h0, h1, h2, h3, h4, e, Int32.ofInt_toInt, Int32.ofInt_toInt, Int32.ofInt_toInt, Int32.ofInt_toInt, Int32.ofInt_toInt]
theorem oR_t {c : Int} {V : Nat → Int} {x : Int32} (h : c = 19) (h0 : V 0 = x.toInt) : opC (gvR s) c V = gqD (gvR s) x.toNatClampNeg := by
  unfold opC
  rw [if_neg (by omega), if_neg (by omega), if_pos h, h0]
  rfl
theorem oR_w {c : Int} {V : Nat → Int} {x y : Int32} (h13 : c ≠ 13) (h00 : c ≠ 0) (h19 : c ≠ 19) (h0 : V 0 = x.toInt) (h1 : V 1 = y.toInt) : opC (gvR s) c V = gqW (gvR s) x.toNatClampNeg (Int32.ofInt 0) y := by
  unfold opC
  rw [if_neg h13, if_neg h00, if_neg h19, h0, h1, Int32.ofInt_toInt]
  rfl
theorem upd_lo {f : Nat → Int32} {p i m : Nat} {x : Int32} (hi : i < m) (hp : m ≤ p) : upd f p x i = f i := ug_ne (by omega)
theorem geq_110 {g : GVW} {j : Nat} {v : Int32} (hj : j ≠ 0) (h : GEQ (gvR u) g) : GEQ (gvR (sI u 110 j v)) g := by
  obtain ⟨q1, q2, q3, q4, q5, q6, q7, q8⟩ := h
  refine ⟨q1, q2, q3, q4, q5, q6, ?_, q8⟩
  show ((sI u 110 j v).1 110 0).toInt = _
  rw [sI_q, ug_ne (fun e => hj e.symm)]
  exact q7
theorem geq_112 {g : GVW} {j : Nat} {v : Int32} (hj : 160 ≤ j) (h : GEQ (gvR u) g) : GEQ (gvR (sI u 112 j v)) g := by
  obtain ⟨q1, q2, q3, q4, q5, q6, q7, q8⟩ := h
  refine ⟨q1, fun i hi => ?_, q3, q4, q5, q6, q7, q8⟩
  have e := q2 i hi
  rw [← e]
  show thf ((sI u 112 j v).1 112) (u.1 113) i = thf (u.1 112) (u.1 113) i
  unfold thf
  rw [sI_q, upd_lo hi hj]
theorem geq_rp {k : Nat} (hR : Rng u) (hk : k < 4000) (hp : AP u t k 1) (hr : RP u t k 1) (h9 : t.2.2.1 109 9 = u.2.2.1 109 9) : GEQ (gvR t) (gvR u) := by
  have w := hR.1 118 k (Nat.lt_of_lt_of_le hk (Nat.le_of_ble_eq_true rfl))
  have w1 : (rI 118).1 = 0 := rfl
  have w2 : (rI 118).2 = 4 := rfl
  unfold In at w
  rw [w1, w2] at w
  have e0 : t.1 110 0 = u.1 110 0 := hp.2.1 0 (by decide)
  obtain ⟨r0, r1, r2, r3, r4⟩ := hr
  have H : (∀ i, i < 32 → t.1 111 i = u.1 111 i) ∧ (∀ i, i < 160 → t.1 112 i = u.1 112 i) ∧ (∀ i, i < 160 → t.1 113 i = u.1 113 i) ∧ (∀ i, i < 160 → t.1 114 i = u.1 114 i) ∧ (∀ i, i < 160 → t.1 115 i = u.1 115 i) ∧ (∀ i, i < 160 → t.1 116 i = u.1 116 i) ∧ (∀ i, i < 160 → t.1 117 i = u.1 117 i) := by
    have c : (u.1 118 k).toInt = 0 ∨ (u.1 118 k).toInt = 1 ∨ (u.1 118 k).toInt = 2 ∨ (u.1 118 k).toInt = 3 ∨ (u.1 118 k).toInt = 4 := by omega
    rcases c with c | c | c | c | c
    · obtain ⟨a1, a2, a3, a4, a5, a6, a7⟩ := r0 c
      rw [a1, a2, a3, a4, a5, a6, a7]
      exact ⟨fun i hi => upd_lo hi (by omega), fun _ _ => rfl, fun _ _ => rfl, fun _ _ => rfl, fun _ _ => rfl, fun _ _ => rfl, fun _ _ => rfl⟩
    · obtain ⟨a1, ⟨v, -, a2⟩, a3, a4, a5, a6, a7⟩ := r1 c
      rw [a1, a2, a3, a4, a5, a6, a7]
      exact ⟨fun _ _ => rfl, fun i hi => upd_lo hi (by omega), fun i hi => upd_lo hi (by omega), fun i hi => upd_lo hi (by omega), fun i hi => upd_lo hi (by omega), fun i hi => upd_lo hi (by omega), fun i hi => upd_lo hi (by omega)⟩
    · obtain ⟨a1, ⟨v, -, a2⟩, a3, a4, a5, a6, a7⟩ := r2 c
      rw [a1, a2, a3, a4, a5, a6, a7]
      exact ⟨fun _ _ => rfl, fun i hi => upd_lo hi (by omega), fun _ _ => rfl, fun _ _ => rfl, fun _ _ => rfl, fun _ _ => rfl, fun _ _ => rfl⟩
    · obtain ⟨a1, a2, a3, a4, a5, a6, a7⟩ := r3 c
      rw [a1, a2, a3, a4, a5, a6, a7]
      refine ⟨fun _ _ => rfl, fun _ _ => rfl, fun _ _ => rfl, fun _ _ => rfl, fun i hi => ?_, fun i hi => ?_, fun i hi => ?_⟩
      · split
        · exact upd_lo hi (by omega)
        · rfl
      · split
        · exact upd_lo hi (by omega)
        · rfl
      · split
        · exact upd_lo hi (by omega)
        · rfl
    · obtain ⟨a1, a2, a3, a4, a5, a6, a7⟩ := r4 c
      rw [a1, a2, a3, a4, a5, a6, a7]
      exact ⟨fun i hi => upd_lo hi (by omega), fun _ _ => rfl, fun _ _ => rfl, fun _ _ => rfl, fun _ _ => rfl, fun _ _ => rfl, fun _ _ => rfl⟩
  obtain ⟨b1, b2, b3, b4, b5, b6, b7⟩ := H
  refine ⟨b1, fun i hi => ?_, b4, b5, b6, b7, ?_, ?_⟩
  · show thf (t.1 112) (t.1 113) i = thf (u.1 112) (u.1 113) i
    unfold thf
    rw [b2 i hi, b3 i hi]
  · show (t.1 110 0).toInt = (u.1 110 0).toInt; rw [e0]
  · show (t.2.2.1 109 9).toInt = (u.2.2.1 109 9).toInt; rw [h9]
/-- what view answers -/
def VWQ (s t : GS) (x z : Int32) : Prop := ((t.2.2.1 109 0).toInt = 1 ∧ ¬ (-1 ≤ x.toInt ∧ x.toInt ≤ (s.2.2.1 109 9).toInt)) ∨ ((t.2.2.1 109 0).toInt = 0 ∧ (-1 ≤ x.toInt ∧ x.toInt ≤ (s.2.2.1 109 9).toInt) ∧ z = (if x.toInt < 0 then s.2.2.1 109 9 else x))
theorem fpl_R (hI : Inv s) : fpl (ctg (gvR s).2.1) = fpl (thg s 0) := by
  refine fpl_cg (fun i hi => ?_)
  show ctg (thf (s.1 112) (s.1 113)) i = thg s 0 i
  rw [ctg_thf (fun i hi => r113 hI hi) hi]
  unfold thg
  rw [Nat.zero_add]
end LDF
end
section
/-! WHAT CAN BE SEEN OF A GRAPH; HISTORY -/
/-- alike as far as can be seen: labels of nodes, values of arcs -/
def GEV (g h : GVW) : Prop := (∀ i : Nat, (i : Int) < g.2.2.2.2.2.2.1 → g.1 i = h.1 i) ∧ (∀ i, i < 160 → g.2.1 i = h.2.1 i) ∧ (∀ i, i < 160 → (g.2.1 i).toInt ≠ -1 → g.2.2.1 i = h.2.2.1 i ∧ g.2.2.2.1 i = h.2.2.2.1 i ∧ g.2.2.2.2.1 i = h.2.2.2.2.1 i ∧ g.2.2.2.2.2.1 i = h.2.2.2.2.2.1 i) ∧ g.2.2.2.2.2.2.1 = h.2.2.2.2.2.2.1 ∧ g.2.2.2.2.2.2.2 = h.2.2.2.2.2.2.2
section GEV
variable {g h k : GVW}
theorem gev_q (q : GEQ g h) (hn : g.2.2.2.2.2.2.1 ≤ 32) : GEV g h := by
  obtain ⟨q1, q2, q3, q4, q5, q6, q7, q8⟩ := q
  exact ⟨fun i hi => q1 i (by omega), q2, fun i hi _ => ⟨q3 i hi, q4 i hi, q5 i hi, q6 i hi⟩, q7, q8⟩
theorem gev_r : GEV g g := ⟨fun _ _ => rfl, fun _ _ => rfl, fun _ _ _ => ⟨rfl, rfl, rfl, rfl⟩, rfl, rfl⟩
theorem gev_s (q : GEV g h) : GEV h g := by
  obtain ⟨q1, q2, q3, q4, q5⟩ := q
  refine ⟨fun i hi => (q1 i (by omega)).symm, fun i hi => (q2 i hi).symm, fun i hi hn => ?_, q4.symm, q5.symm⟩
  obtain ⟨a, b, c, d⟩ := q3 i hi (by rw [q2 i hi]; exact hn)
  exact ⟨a.symm, b.symm, c.symm, d.symm⟩
theorem gev_t (q : GEV g h) (r : GEV h k) : GEV g k := by
  obtain ⟨q1, q2, q3, q4, q5⟩ := q
  obtain ⟨r1, r2, r3, r4, r5⟩ := r
  refine ⟨fun i hi => (q1 i hi).trans (r1 i (by omega)), fun i hi => (q2 i hi).trans (r2 i hi), fun i hi hn => ?_, q4.trans r4, q5.trans r5⟩
  obtain ⟨a, b, c, d⟩ := q3 i hi hn
  obtain ⟨a2, b2, c2, d2⟩ := r3 i hi (by rw [← q2 i hi]; exact hn)
  exact ⟨a.trans a2, b.trans b2, c.trans c2, d.trans d2⟩
theorem upd_v {f f2 : Nat → Int32} {p i : Nat} {x : Int32} (h : i ≠ p → f i = f2 i) : upd f p x i = upd f2 p x i := by
  by_cases c : i = p
  · rw [c, ug_at, ug_at]
  · rw [ug_ne c, ug_ne c]; exact h c
theorem gev_N {p : Nat} {l : Int32} (q : GEV g h) (hp : (p : Int) = g.2.2.2.2.2.2.1) : GEV (gqN g p l) (gqN h p l) := by
  obtain ⟨q1, q2, q3, q4, q5⟩ := q
  refine ⟨fun i hi => upd_v (fun c => q1 i ?_), q2, q3, by show g.2.2.2.2.2.2.1 + 1 = h.2.2.2.2.2.2.1 + 1; rw [q4], by show g.2.2.2.2.2.2.2 + 1 = h.2.2.2.2.2.2.2 + 1; rw [q5]⟩
  have hi2 : (i : Int) < g.2.2.2.2.2.2.1 + 1 := hi
  omega
theorem gev_A {p : Nat} {a b w r c : Int32} (q : GEV g h) : GEV (gqA g p a b w r c) (gqA h p a b w r c) := by
  obtain ⟨q1, q2, q3, q4, q5⟩ := q
  refine ⟨q1, fun i hi => upd_v (fun _ => q2 i hi), fun i hi hn => ?_, q4, by show g.2.2.2.2.2.2.2 + 1 = h.2.2.2.2.2.2.2 + 1; rw [q5]⟩
  have key : i ≠ p → g.2.2.1 i = h.2.2.1 i ∧ g.2.2.2.1 i = h.2.2.2.1 i ∧ g.2.2.2.2.1 i = h.2.2.2.2.1 i ∧ g.2.2.2.2.2.1 i = h.2.2.2.2.2.1 i := fun e => q3 i hi (by
    have hn2 : (upd g.2.1 p a i).toInt ≠ -1 := hn
    rw [ug_ne e] at hn2
    exact hn2)
  exact ⟨upd_v (fun e => (key e).1), upd_v (fun e => (key e).2.1), upd_v (fun e => (key e).2.2.1), upd_v (fun e => (key e).2.2.2)⟩
theorem gev_D {p : Nat} (q : GEV g h) : GEV (gqD g p) (gqD h p) := by
  obtain ⟨q1, q2, q3, q4, q5⟩ := q
  refine ⟨q1, fun i hi => upd_v (fun _ => q2 i hi), fun i hi hn => ?_, q4, by show g.2.2.2.2.2.2.2 + 1 = h.2.2.2.2.2.2.2 + 1; rw [q5]⟩
  have hn2 : (upd g.2.1 p (Int32.ofInt (-1)) i).toInt ≠ -1 := hn
  by_cases e : i = p
  · rw [e, ug_at] at hn2; exact absurd rfl hn2
  · rw [ug_ne e] at hn2
    exact q3 i hi hn2
theorem ite_v {f f2 g2 h2 : Nat → Int32} {i : Nat} {P : Prop} [Decidable P] (h1 : f i = g2 i) (h3 : f2 i = h2 i) : (if P then f else f2) i = (if P then g2 else h2) i := by
  by_cases c : P
  · rw [if_pos c, if_pos c]; exact h1
  · rw [if_neg c, if_neg c]; exact h3
theorem gev_W {p : Nat} {w v : Int32} (q : GEV g h) : GEV (gqW g p w v) (gqW h p w v) := by
  obtain ⟨q1, q2, q3, q4, q5⟩ := q
  refine ⟨q1, q2, fun i hi hn => ?_, q4, by show g.2.2.2.2.2.2.2 + 1 = h.2.2.2.2.2.2.2 + 1; rw [q5]⟩
  obtain ⟨a, b, c, d⟩ := q3 i hi hn
  exact ⟨a, ite_v (upd_v (fun _ => b)) b, ite_v (upd_v (fun _ => c)) c, ite_v (upd_v (fun _ => d)) d⟩
theorem gev_L {p : Nat} {l : Int32} (q : GEV g h) : GEV (gqL g p l) (gqL h p l) := by
  obtain ⟨q1, q2, q3, q4, q5⟩ := q
  exact ⟨fun i hi => upd_v (fun _ => q1 i hi), q2, q3, q4, by show g.2.2.2.2.2.2.2 + 1 = h.2.2.2.2.2.2.2 + 1; rw [q5]⟩
/-- the class's row k -/
theorem gev_R {r : Nat → Int32} {k : Nat} (q : GEV g h) (hp : (r (7 * k)).toInt = 0 → ((r (7 * k + 1)).toNatClampNeg : Int) = g.2.2.2.2.2.2.1) : GEV (gqR g r k) (gqR h r k) := by
  unfold gqR gqP
  split
  · exact gev_A q
  · split
    · rename_i c; exact gev_N q (hp c)
    · split
      · exact gev_D q
      · split
        · exact gev_W q
        · exact gev_L q
end GEV
/-- the reference's row k -/
def gqT (g : GVW) (s : GS) (k : Nat) : GVW := if (s.1 118 k).toInt = 0 then gqN g g.2.2.2.2.2.2.1.toNat (s.1 119 k) else if (s.1 118 k).toInt = 1 then gqA g (s.1 119 k).toNatClampNeg (s.1 120 k) (s.1 121 k) (s.1 122 k) (s.1 123 k) (s.1 124 k) else if (s.1 118 k).toInt = 2 then gqD g (s.1 119 k).toNatClampNeg else if (s.1 118 k).toInt = 3 then gqW g (s.1 119 k).toNatClampNeg (s.1 120 k) (s.1 121 k) else gqL g (s.1 119 k).toNatClampNeg (s.1 120 k)
theorem gev_T {g h : GVW} {s : GS} {k : Nat} (q : GEV g h) (h0 : 0 ≤ g.2.2.2.2.2.2.1) : GEV (gqT g s k) (gqT h s k) := by
  unfold gqT
  rw [← q.2.2.2.1]
  split
  · exact gev_N q (by omega)
  · split
    · exact gev_A q
    · split
      · exact gev_D q
      · split
        · exact gev_W q
        · exact gev_L q
/-- the shown graphs: the class's (cell 32), the reference's graph 1 -/
def gvD (s : GS) : GVW := (s.1 33, s.1 34, s.1 35, s.1 36, s.1 37, s.1 38, (s.2.2.1 32 1).toInt, (s.2.2.1 32 0).toInt)
def gv1 (s : GS) (v : Int) : GVW := (fun i => s.1 111 (32 + i), fun i => thf (s.1 112) (s.1 113) (160 + i), fun i => s.1 114 (160 + i), fun i => s.1 115 (160 + i), fun i => s.1 116 (160 + i), fun i => s.1 117 (160 + i), (s.1 110 1).toInt, v)
/-- a graph with nothing in it -/
def GE0 (g : GVW) : Prop := (∀ i, i < 160 → (g.2.1 i).toInt = -1) ∧ g.2.2.2.2.2.2.1 = 0 ∧ g.2.2.2.2.2.2.2 = 0
theorem ge0_e {g h : GVW} (a : GE0 g) (b : GE0 h) : GEV g h := by
  obtain ⟨a1, a2, a3⟩ := a
  obtain ⟨b1, b2, b3⟩ := b
  exact ⟨fun i hi => by rw [a2] at hi; omega, fun i hi => i_eq.mpr (by rw [a1 i hi, b1 i hi]), fun i hi hn => absurd (a1 i hi) hn, by rw [a2, b2], by rw [a3, b3]⟩
/-- the history: H k the graph of version k -/
def HIS (s : GS) (H : Nat → GVW) : Prop := GE0 (H 0) ∧ ∀ k : Nat, (k : Int) < (s.2.2.1 2 0).toInt → GEV (H (k + 1)) (gqR (H k) (s.1 30) k) ∧ ((s.1 30 (7 * k)).toInt = 0 → ((s.1 30 (7 * k + 1)).toNatClampNeg : Int) = (H k).2.2.2.2.2.2.1) ∧ GEV (H (k + 1)) (gqT (H k) s k) ∧ 0 ≤ (H k).2.2.2.2.2.2.1
/-- what is shown is some version of it -/
def SHW (s : GS) (H : Nat → GVW) : Prop := GEV (gvD s) (H (s.2.2.1 32 0).toInt.toNat) ∧ 0 ≤ (s.2.2.1 32 0).toInt ∧ (s.2.2.1 32 0).toInt ≤ (s.2.2.1 2 0).toInt ∧ s.2.2.1 0 2 = s.2.2.1 109 17 ∧ (0 ≤ (s.2.2.1 109 17).toInt → s.2.2.1 0 2 = s.2.2.1 32 0 ∧ GEV (gv1 s (s.2.2.1 109 17).toInt) (H (s.2.2.1 109 17).toInt.toNat))
theorem gvD_mk {t : GS} {a b c d e f : Nat → Int32} {n v : Int} (h1 : t.1 33 = a) (h2 : t.1 34 = b) (h3 : t.1 35 = c) (h4 : t.1 36 = d) (h5 : t.1 37 = e) (h6 : t.1 38 = f) (h7 : (t.2.2.1 32 1).toInt = n) (h8 : (t.2.2.1 32 0).toInt = v) : gvD t = (a, b, c, d, e, f, n, v) := by
  unfold gvD
  rw [h1, h2, h3, h4, h5, h6, h7, h8]
/-- the class's shown graph is version v of the history, if it was some -/
def SHD (s t : GS) (v : Nat) : Prop := ∀ H, HIS s H → GEV (gvD s) (H (s.2.2.1 32 0).toInt.toNat) → GEV (gvD t) (H v)
theorem shq_r {s : GS} {v : Nat} (h : v = (s.2.2.1 32 0).toInt.toNat) : SHD s s v := by
  intro H _ g
  rw [h]; exact g
theorem shq_0 {s t : GS} {v : Nat} (h : GE0 (gvD t)) (hv : v = 0) : SHD s t v := by
  intro H g _
  rw [hv]; exact ge0_e h g.1
theorem shq_s {s u t : GS} {k v : Nat} (h : SHD s u k) (hk : (u.2.2.1 32 0).toInt.toNat = k) (hv : v = k + 1) (h30 : u.1 30 = s.1 30) (hl : (k : Int) < (s.2.2.1 2 0).toInt) (hg : gvD t = gqR (gvD u) (u.1 30) (u.2.2.1 32 0).toInt.toNat) : SHD s t v := by
  intro H g q
  have a := h H g q
  obtain ⟨b1, b2, -, -⟩ := g.2 k hl
  rw [hg, hk, h30, hv]
  exact gev_t (gev_R a (fun z => by rw [b2 z]; exact a.2.2.2.1.symm)) (gev_s b1)
/-! frames -/
theorem gqT_cg {s t : GS} {g : GVW} {k : Nat} (h0 : t.1 118 = s.1 118) (h1 : t.1 119 = s.1 119) (h2 : t.1 120 = s.1 120) (h3 : t.1 121 = s.1 121) (h4 : t.1 122 = s.1 122) (h5 : t.1 123 = s.1 123) (h6 : t.1 124 = s.1 124) : gqT g t k = gqT g s k := by
  unfold gqT
  rw [h0, h1, h2, h3, h4, h5, h6]
theorem his_fr {s t : GS} {L : FM} {H : Nat → GVW} (h : HIS s H) (hF : Fr L s t) (hq : (qI L.1 30 && (qI L.1 118 && qI L.1 119 && qI L.1 120 && qI L.1 121 && qI L.1 122 && qI L.1 123 && qI L.1 124) && qF L.2.2.1 2 0) = true) : HIS t H := by
  simp only [Bool.and_eq_true] at hq
  obtain ⟨⟨q0, ⟨⟨⟨⟨⟨q1, q2⟩, q3⟩, q4⟩, q5⟩, q6⟩, q7⟩, q8⟩ := hq
  refine ⟨h.1, fun k hk => ?_⟩
  rw [hF.2.2.1 2 0 q8] at hk
  obtain ⟨a, b, c, d⟩ := h.2 k hk
  rw [hF.1 30 q0, gqT_cg (hF.1 118 q1) (hF.1 119 q2) (hF.1 120 q3) (hF.1 121 q4) (hF.1 122 q5) (hF.1 123 q6) (hF.1 124 q7)]
  exact ⟨a, b, c, d⟩
theorem gvD_fr {s t : GS} {L : FM} (hF : Fr L s t) (hq : (qI L.1 33 && qI L.1 34 && qI L.1 35 && qI L.1 36 && qI L.1 37 && qI L.1 38 && qF L.2.2.1 32 1 && qF L.2.2.1 32 0) = true) : gvD t = gvD s := by
  simp only [Bool.and_eq_true] at hq
  obtain ⟨⟨⟨⟨⟨⟨⟨q1, q2⟩, q3⟩, q4⟩, q5⟩, q6⟩, q7⟩, q8⟩ := hq
  unfold gvD
  rw [hF.1 33 q1, hF.1 34 q2, hF.1 35 q3, hF.1 36 q4, hF.1 37 q5, hF.1 38 q6, hF.2.2.1 32 1 q7, hF.2.2.1 32 0 q8]
theorem shd_fr {s u t : GS} {L : FM} {v : Nat} (h : SHD u t v) (hF : Fr L s u) (hq : (qI L.1 30 && (qI L.1 118 && qI L.1 119 && qI L.1 120 && qI L.1 121 && qI L.1 122 && qI L.1 123 && qI L.1 124) && qF L.2.2.1 2 0) = true) (hq2 : (qI L.1 33 && qI L.1 34 && qI L.1 35 && qI L.1 36 && qI L.1 37 && qI L.1 38 && qF L.2.2.1 32 1 && qF L.2.2.1 32 0) = true) : SHD s t v := by
  intro H g q
  refine h H (his_fr g hF hq) ?_
  have e : (u.2.2.1 32 0) = s.2.2.1 32 0 := by
    simp only [Bool.and_eq_true] at hq2
    exact hF.2.2.1 32 0 hq2.2
  rw [gvD_fr hF hq2, e]
  exact q
/-- view of the class -/
def VWD (s t : GS) (x : Int32) : Prop := t.2.2.1 0 2 = x ∧ (x.toInt < 0 → gvD t = gvD s) ∧ (0 ≤ x.toInt → SHD s t x.toInt.toNat ∧ t.2.2.1 32 0 = x)
/-! view of the reference -/
def G1Q (s t : GS) (v : Int) : Prop := ∀ H, HIS s H → (s.2.2.1 109 9).toInt = (s.2.2.1 2 0).toInt → GEV (gv1 t v) (H v.toNat)
theorem g1q_0 {s t : GS} {v : Int} (hn : (t.1 110 1).toInt = 0) (ht : ∀ j : Nat, j < 160 → (t.1 112 (160 + j)).toInt = 0) (hv : v = 0) : G1Q s t v := by
  intro H g _
  rw [hv]
  refine ge0_e ⟨fun i hi => ?_, hn, rfl⟩ g.1
  show (thf (t.1 112) (t.1 113) (160 + i)).toInt = -1
  unfold thf
  rw [if_pos (ht i hi)]
  rfl
theorem upd_sh {f : Nat → Int32} {c p : Nat} {x : Int32} : (fun i => upd f (c + p) x (c + i)) = upd (fun i => f (c + i)) p x := by
  funext i
  by_cases e : i = p
  · rw [e, ug_at]; exact ug_at.symm
  · rw [ug_ne e]; exact ug_ne (by omega)
theorem ite_sh {f g : Nat → Int32} {P : Prop} [Decidable P] {c : Nat} : (fun i => (if P then f else g) (c + i)) = (if P then (fun i => f (c + i)) else (fun i => g (c + i))) := by
  by_cases h : P
  · rw [if_pos h, if_pos h]
  · rw [if_neg h, if_neg h]
theorem thf_sh {th fr : Nat → Int32} {c : Nat} : (fun i => thf th fr (c + i)) = thf (fun i => th (c + i)) (fun i => fr (c + i)) := rfl
theorem gv1_rp {u t : GS} {k : Nat} {v : Int} (hR : Rng u) (hk : k < 4000) (ha : AQ u k 1) (hp : AP u t k 1) (hr : RP u t k 1) : gv1 t (v + 1) = gqT (gv1 u v) u k := by
  have w := hR.1 118 k (Nat.lt_of_lt_of_le hk (Nat.le_of_ble_eq_true rfl))
  have w1 : (rI 118).1 = 0 := rfl
  have w2 : (rI 118).2 = 4 := rfl
  unfold In at w
  rw [w1, w2] at w
  have hn := hp.1
  have hm := ha.2.1
  have ez : (cz (u.1 118) (k + 1) : Int) = (cz (u.1 118) k : Int) + (if (u.1 118 k).toInt = 0 then 1 else 0) := by
    show ((cz (u.1 118) k + (if (u.1 118 k).toInt = 0 then 1 else 0) : Nat) : Int) = _
    by_cases c : (u.1 118 k).toInt = 0
    · rw [if_pos c, if_pos c]; rfl
    · rw [if_neg c, if_neg c]; rfl
  rw [ez, ← hm] at hn
  obtain ⟨r0, r1, r2, r3, r4⟩ := hr
  unfold gqT gv1
  have c : (u.1 118 k).toInt = 0 ∨ (u.1 118 k).toInt = 1 ∨ (u.1 118 k).toInt = 2 ∨ (u.1 118 k).toInt = 3 ∨ (u.1 118 k).toInt = 4 := by omega
  rcases c with c | c | c | c | c
  · obtain ⟨a1, a2, a3, a4, a5, a6, a7⟩ := r0 c
    rw [if_pos c] at hn ⊢
    rw [a1, a2, a3, a4, a5, a6, a7, hn, Nat.mul_one, upd_sh]
    rfl
  · obtain ⟨a1, ⟨x, hx, a2⟩, a3, a4, a5, a6, a7⟩ := r1 c
    rw [if_neg (by omega), Int.add_zero] at hn
    rw [if_neg (by omega), if_pos c, a1, a2, a3, a4, a5, a6, a7, hn, Nat.mul_one, thf_sh, upd_sh, upd_sh, thf_up hx, upd_sh, upd_sh, upd_sh, upd_sh]
    rfl
  · obtain ⟨a1, ⟨x, hx, a2⟩, a3, a4, a5, a6, a7⟩ := r2 c
    rw [if_neg (by omega), Int.add_zero] at hn
    rw [if_neg (by omega), if_neg (by omega), if_pos c, a1, a2, a3, a4, a5, a6, a7, hn, Nat.mul_one, thf_sh, upd_sh, thf_dn hx]
    rfl
  · obtain ⟨a1, a2, a3, a4, a5, a6, a7⟩ := r3 c
    rw [if_neg (by omega), Int.add_zero] at hn
    rw [if_neg (by omega), if_neg (by omega), if_neg (by omega), if_pos c, a1, a2, a3, a4, a5, a6, a7, hn, Nat.mul_one, ite_sh, ite_sh, ite_sh, upd_sh, upd_sh, upd_sh]
    rfl
  · obtain ⟨a1, a2, a3, a4, a5, a6, a7⟩ := r4 c
    rw [if_neg (by omega), Int.add_zero] at hn
    rw [if_neg (by omega), if_neg (by omega), if_neg (by omega), if_neg (by omega), a1, a2, a3, a4, a5, a6, a7, hn, Nat.mul_one, upd_sh]
    rfl
theorem g1q_s {s u t : GS} {k : Nat} {v w : Int} (h : G1Q s u v) (hg : gv1 t (v + 1) = gqT (gv1 u v) u k) (hv : v.toNat = k) (h0 : 0 ≤ v) (hw : w = v + 1) (hl : v < (s.2.2.1 109 9).toInt) (n0 : 0 ≤ (u.1 110 1).toInt) (r0 : u.1 118 = s.1 118) (r1 : u.1 119 = s.1 119) (r2 : u.1 120 = s.1 120) (r3 : u.1 121 = s.1 121) (r4 : u.1 122 = s.1 122) (r5 : u.1 123 = s.1 123) (r6 : u.1 124 = s.1 124) : G1Q s t w := by
  intro H g e
  have a := h H g e
  rw [hv] at a
  obtain ⟨-, -, b, -⟩ := g.2 k (by omega)
  rw [hw, hg, show (v + 1).toNat = k + 1 from by omega]
  refine gev_t (gev_T a n0) ?_
  rw [gqT_cg r0 r1 r2 r3 r4 r5 r6]
  exact gev_s b
theorem g1q_f {s u t : GS} {x y : Int} (e : x = y) (hr : t.1 = u.1) (h : G1Q s u y) : G1Q s t x := by
  intro H g q
  have a := h H g q
  rw [e]
  unfold gv1 at a ⊢
  rw [hr]
  exact a
def VW1 (s t : GS) (x : Int32) : Prop := ((t.2.2.1 109 0).toInt = 0 → t.2.2.1 109 17 = x ∧ (0 ≤ x.toInt → G1Q s t x.toInt)) ∧ ((t.2.2.1 109 0).toInt ≠ 0 → t.1 = s.1 ∧ t.2.2.1 109 17 = s.2.2.1 109 17)
/-! a new row of the logs -/
def LGX (s t : GS) (w a b c d e f : Int32) : Prop := (t.2.2.1 109 9 = s.2.2.1 109 9 ∧ t.1 118 = s.1 118 ∧ t.1 119 = s.1 119 ∧ t.1 120 = s.1 120 ∧ t.1 121 = s.1 121 ∧ t.1 122 = s.1 122 ∧ t.1 123 = s.1 123 ∧ t.1 124 = s.1 124) ∨ (t.1 118 = upd (s.1 118) (s.2.2.1 109 9).toNatClampNeg w ∧ t.1 119 = upd (s.1 119) (s.2.2.1 109 9).toNatClampNeg a ∧ t.1 120 = upd (s.1 120) (s.2.2.1 109 9).toNatClampNeg b ∧ t.1 121 = upd (s.1 121) (s.2.2.1 109 9).toNatClampNeg c ∧ t.1 122 = upd (s.1 122) (s.2.2.1 109 9).toNatClampNeg d ∧ t.1 123 = upd (s.1 123) (s.2.2.1 109 9).toNatClampNeg e ∧ t.1 124 = upd (s.1 124) (s.2.2.1 109 9).toNatClampNeg f)
/-- older rows stay -/
def LGO (s t : GS) : Prop := ∀ k, k < (s.2.2.1 109 9).toNatClampNeg → t.1 118 k = s.1 118 k ∧ t.1 119 k = s.1 119 k ∧ t.1 120 k = s.1 120 k ∧ t.1 121 k = s.1 121 k ∧ t.1 122 k = s.1 122 k ∧ t.1 123 k = s.1 123 k ∧ t.1 124 k = s.1 124 k
theorem lgx_o {s t : GS} {w a b c d e f : Int32} (h : LGX s t w a b c d e f) : LGO s t := by
  intro k hk
  rcases h with ⟨-, h0, h1, h2, h3, h4, h5, h6⟩ | ⟨h0, h1, h2, h3, h4, h5, h6⟩
  · rw [h0, h1, h2, h3, h4, h5, h6]
    exact ⟨rfl, rfl, rfl, rfl, rfl, rfl, rfl⟩
  · rw [h0, h1, h2, h3, h4, h5, h6]
    have n : k ≠ (s.2.2.1 109 9).toNatClampNeg := by omega
    exact ⟨ug_ne n, ug_ne n, ug_ne n, ug_ne n, ug_ne n, ug_ne n, ug_ne n⟩
theorem gqT_o {s t : GS} {g : GVW} {k : Nat} (h : LGO s t) (hk : k < (s.2.2.1 109 9).toNatClampNeg) : gqT g t k = gqT g s k := by
  obtain ⟨h0, h1, h2, h3, h4, h5, h6⟩ := h k hk
  unfold gqT
  rw [h0, h1, h2, h3, h4, h5, h6]
theorem lgx_t {s t : GS} {w a b c d e f : Int32} {g : GVW} (h : LGX s t w a b c d e f) (hv : t.2.2.1 109 9 ≠ s.2.2.1 109 9) : gqT g t (s.2.2.1 109 9).toNatClampNeg = (if w.toInt = 0 then gqN g g.2.2.2.2.2.2.1.toNat a else if w.toInt = 1 then gqA g a.toNatClampNeg b c d e f else if w.toInt = 2 then gqD g a.toNatClampNeg else if w.toInt = 3 then gqW g a.toNatClampNeg b c else gqL g a.toNatClampNeg b) := by
  rcases h with h | ⟨h0, h1, h2, h3, h4, h5, h6⟩
  · exact absurd h.1 hv
  · unfold gqT
    rw [h0, h1, h2, h3, h4, h5, h6]
    simp only [ug_at]
/-- what one change of the class writes into the log -/
def LGC (s t : GS) : Prop := (∀ k : Nat, (k : Int) < 7 * (s.2.2.1 2 0).toInt → t.1 30 k = s.1 30 k) ∧ gvC t = gqR (gvC s) (t.1 30) (s.2.2.1 2 0).toInt.toNat ∧ ((t.1 30 (7 * (s.2.2.1 2 0).toInt.toNat)).toInt = 0 → ((t.1 30 (7 * (s.2.2.1 2 0).toInt.toNat + 1)).toNatClampNeg : Int) = (s.2.2.1 2 1).toInt)
theorem gqR_p {r q : Nat → Int32} {g : GVW} {k : Nat} {n : Int} (h : ∀ j : Nat, (j : Int) < 7 * n → r j = q j) (hk : (k : Int) < n) : gqR g r k = gqR g q k ∧ r (7 * k) = q (7 * k) ∧ r (7 * k + 1) = q (7 * k + 1) := by
  unfold gqR
  rw [h (7 * k) (by omega), h (7 * k + 1) (by omega), h (7 * k + 2) (by omega), h (7 * k + 3) (by omega), h (7 * k + 4) (by omega), h (7 * k + 5) (by omega), h (7 * k + 6) (by omega)]
  exact ⟨rfl, rfl, rfl⟩
/-- one change on both sides: the history goes on -/
theorem his_x {s t u : GS} {H : Nat → GVW} (h : HIS s H) (hl : GEV (H (s.2.2.1 2 0).toInt.toNat) (gvC s)) (h0 : 0 ≤ (s.2.2.1 2 0).toInt) (n0 : 0 ≤ (s.2.2.1 2 1).toInt) (hC : LGC s t) (hv : (t.2.2.1 2 0).toInt = (s.2.2.1 2 0).toInt + 1) (u30 : u.1 30 = t.1 30) (uv : u.2.2.1 2 0 = t.2.2.1 2 0) (hc9 : (s.2.2.1 109 9).toInt = (s.2.2.1 2 0).toInt) (hO : LGO s u) (hg : GEV (gvC t) (gqT (gvC s) u (s.2.2.1 109 9).toNatClampNeg)) : HIS u (fun k => if k ≤ (s.2.2.1 2 0).toInt.toNat then H k else gvC t) := by
  have ech : (s.2.2.1 109 9).toNatClampNeg = (s.2.2.1 2 0).toInt.toNat := congrArg Int.toNat hc9
  refine ⟨by show GE0 (if 0 ≤ _ then H 0 else _); rw [if_pos (Nat.zero_le _)]; exact h.1, fun k hk => ?_⟩
  rw [uv, hv] at hk
  show GEV (if k + 1 ≤ _ then H (k + 1) else gvC t) (gqR (if k ≤ _ then H k else gvC t) (u.1 30) k) ∧ (_ → _ = (if k ≤ _ then H k else gvC t).2.2.2.2.2.2.1) ∧ GEV (if k + 1 ≤ _ then H (k + 1) else gvC t) (gqT (if k ≤ _ then H k else gvC t) u k) ∧ 0 ≤ (if k ≤ _ then H k else gvC t).2.2.2.2.2.2.1
  rw [if_pos (show k ≤ (s.2.2.1 2 0).toInt.toNat by omega), u30]
  by_cases c : k + 1 ≤ (s.2.2.1 2 0).toInt.toNat
  · rw [if_pos c]
    obtain ⟨a, b, d, e⟩ := h.2 k (by omega)
    obtain ⟨p1, p2, p3⟩ := gqR_p (g := H k) (k := k) hC.1 (by omega)
    rw [p1, p2, p3, gqT_o hO (by omega)]
    exact ⟨a, b, d, e⟩
  · rw [if_neg c]
    have ek : k = (s.2.2.1 2 0).toInt.toNat := by omega
    subst ek
    have hl2 := gev_s hl
    refine ⟨?_, fun z => ?_, ?_, by rw [hl.2.2.2.1]; exact n0⟩
    · have q := gev_R (r := t.1 30) (k := (s.2.2.1 2 0).toInt.toNat) hl2 (fun z => hC.2.2 z)
      rw [← hC.2.1] at q
      exact q
    · rw [hC.2.2 z, hl.2.2.2.1]; rfl
    · have q := gev_T (s := u) (k := (s.2.2.1 109 9).toNatClampNeg) hl2 n0
      rw [ech] at hg q
      exact gev_t hg q
/-! what is shown -/
def shC (s : GS) : GVW := if (s.2.2.1 0 2).toInt = -1 then gvC s else gvD s
theorem shC_n {s : GS} (h : (s.2.2.1 0 2).toInt = -1) : shC s = gvC s := if_pos h
theorem shC_d {s : GS} (h : (s.2.2.1 0 2).toInt ≠ -1) : shC s = gvD s := if_neg h
/-- the reference's graph g, as it is seen -/
def gvG (s : GS) (g : Nat) : GVW := (fun i => s.1 111 (32 * g + i), fun i => thf (s.1 112) (s.1 113) (160 * g + i), fun i => s.1 114 (160 * g + i), fun i => s.1 115 (160 * g + i), fun i => s.1 116 (160 * g + i), fun i => s.1 117 (160 * g + i), (s.1 110 g).toInt, (s.2.2.1 109 9).toInt)
/-- g is the graph that is looked at -/
def GSE (s : GS) : Prop := (s.2.2.1 109 18).toInt = (if (s.2.2.1 109 17).toInt < 0 then 0 else 1)
theorem gse_i {s : GS} {a b : Int32} (h1 : a = s.2.2.1 109 18) (h2 : b = s.2.2.1 109 17) (h : (b.toInt < 0 ∧ a.toInt = 0) ∨ (0 ≤ b.toInt ∧ a.toInt = 1)) : GSE s := by
  unfold GSE
  rw [← h1, ← h2]
  rcases h with ⟨x, y⟩ | ⟨x, y⟩
  · rw [if_pos x]; exact y
  · rw [if_neg (by omega)]; exact y
theorem gse_fr {s t : GS} {L : FM} (h : GSE s) (hF : Fr L s t) (hq : (qF L.2.2.1 109 18 && qF L.2.2.1 109 17) = true) : GSE t := by
  rw [Bool.and_eq_true] at hq
  unfold GSE
  rw [hF.2.2.1 109 18 hq.1, hF.2.2.1 109 17 hq.2]
  exact h
/-- labelOf of the reference -/
def LBR (s t : GS) (x z : Int32) : Prop := ((t.2.2.1 109 0).toInt = 1 ∧ ¬ (0 ≤ x.toInt ∧ x.toInt < (s.2.2.1 109 20).toInt)) ∨ ((t.2.2.1 109 0).toInt = 0 ∧ (0 ≤ x.toInt ∧ x.toInt < (s.2.2.1 109 20).toInt) ∧ z = s.1 111 (32 * (s.2.2.1 109 18).toNatClampNeg + x.toNatClampNeg))
/-! load of the reference: its log -/
theorem geq_T {g h : GVW} {s : GS} {k : Nat} (q : GEQ g h) : GEQ (gqT g s k) (gqT h s k) := by
  unfold gqT
  rw [← q.2.2.2.2.2.2.1]
  split
  · exact geq_N q
  · split
    · exact geq_A q
    · split
      · exact geq_D q
      · split
        · exact geq_W q
        · exact geq_L q
def L28 (s t : GS) : Prop := (t.1 118 = s.1 118 ∧ t.1 119 = s.1 119 ∧ t.1 120 = s.1 120 ∧ t.1 121 = s.1 121 ∧ t.1 122 = s.1 122 ∧ t.1 123 = s.1 123 ∧ t.1 124 = s.1 124) ∧ t.2.2.1 109 9 = s.2.2.1 109 9 ∧ (GSE s → GSE t)
theorem l28_fr {s u t : GS} {L : FM} (h : L28 s u) (hF : Fr L u t) (hq : (qI L.1 118 && qI L.1 119 && qI L.1 120 && qI L.1 121 && qI L.1 122 && qI L.1 123 && qI L.1 124 && qF L.2.2.1 109 9 && (qF L.2.2.1 109 18 && qF L.2.2.1 109 17)) = true) : L28 s t := by
  simp only [Bool.and_eq_true] at hq
  obtain ⟨⟨⟨⟨⟨⟨⟨⟨q0, q1⟩, q2⟩, q3⟩, q4⟩, q5⟩, q6⟩, q7⟩, q8, q9⟩ := hq
  obtain ⟨⟨a0, a1, a2, a3, a4, a5, a6⟩, a7, a8⟩ := h
  refine ⟨⟨(hF.1 118 q0).trans a0, (hF.1 119 q1).trans a1, (hF.1 120 q2).trans a2, (hF.1 121 q3).trans a3, (hF.1 122 q4).trans a4, (hF.1 123 q5).trans a5, (hF.1 124 q6).trans a6⟩, (hF.2.2.1 109 9 q7).trans a7, fun g => ?_⟩
  have b := a8 g
  unfold GSE at b ⊢
  rw [hF.2.2.1 109 18 q8, hF.2.2.1 109 17 q9]
  exact b
theorem l28_r {s : GS} : L28 s s := ⟨⟨rfl, rfl, rfl, rfl, rfl, rfl, rfl⟩, rfl, id⟩
theorem lgo_tr {s u t : GS} (h : LGO s u) (g : LGO u t) (hc : (s.2.2.1 109 9).toNatClampNeg ≤ (u.2.2.1 109 9).toNatClampNeg) : LGO s t := by
  intro k hk
  obtain ⟨a0, a1, a2, a3, a4, a5, a6⟩ := h k hk
  obtain ⟨b0, b1, b2, b3, b4, b5, b6⟩ := g k (by omega)
  exact ⟨b0.trans a0, b1.trans a1, b2.trans a2, b3.trans a3, b4.trans a4, b5.trans a5, b6.trans a6⟩
def LDL (s t : GS) (k : Nat) : Prop := LGO s t ∧ (t.2.2.1 109 9).toInt = (s.2.2.1 109 9).toInt + (k : Int) ∧ (∀ j, j < k → GEQ (gqT (opF (gvR s) (t.1 127) (t.1 128) j) t ((s.2.2.1 109 9).toNatClampNeg + j)) (opF (gvR s) (t.1 127) (t.1 128) (j + 1))) ∧ (GSE s → GSE t)
theorem ldl_0 {s t : GS} (h : L28 s t) : LDL s t 0 := by
  obtain ⟨⟨a0, a1, a2, a3, a4, a5, a6⟩, a7, a8⟩ := h
  refine ⟨fun k _ => ?_, by rw [a7]; exact (Int.add_zero _).symm, fun j hj => absurd hj (Nat.not_lt_zero _), a8⟩
  rw [a0, a1, a2, a3, a4, a5, a6]
  exact ⟨rfl, rfl, rfl, rfl, rfl, rfl, rfl⟩
theorem ldl_s {s u t : GS} {k : Nat} {w a b c d e f : Int32} (h : LDL s u k) (h3 : LD3 s u k) (h4 : LD3 s t (k + 1)) (h0 : 0 ≤ (s.2.2.1 109 9).toInt) (hv : (t.2.2.1 109 9).toInt = (u.2.2.1 109 9).toInt + 1) (hx : LGX u t w a b c d e f) (hT : gvR t = (if w.toInt = 0 then gqN (gvR u) (gvR u).2.2.2.2.2.2.1.toNat a else if w.toInt = 1 then gqA (gvR u) a.toNatClampNeg b c d e f else if w.toInt = 2 then gqD (gvR u) a.toNatClampNeg else if w.toInt = 3 then gqW (gvR u) a.toNatClampNeg b c else gqL (gvR u) a.toNatClampNeg b)) (r7 : t.1 127 = u.1 127) (r8 : t.1 128 = u.1 128) (hg : GSE t) : LDL s t (k + 1) := by
  obtain ⟨b1, b2, b3, -⟩ := h
  have hne : t.2.2.1 109 9 ≠ u.2.2.1 109 9 := fun z => by rw [z] at hv; omega
  have hO := lgx_o hx
  have ec : (u.2.2.1 109 9).toNatClampNeg = (s.2.2.1 109 9).toNatClampNeg + k := by
    show (u.2.2.1 109 9).toInt.toNat = (s.2.2.1 109 9).toInt.toNat + k
    omega
  refine ⟨lgo_tr b1 hO (by omega), by rw [hv, b2]; omega, fun j hj => ?_, fun _ => hg⟩
  rw [r7, r8]
  by_cases q : j = k
  · rw [q, ← ec]
    have e := lgx_t (g := gvR u) hx hne
    rw [← hT] at e
    have x1 : GEQ (gqT (gvR u) t (u.2.2.1 109 9).toNatClampNeg) (gqT (opF (gvR s) (u.1 127) (u.1 128) k) t (u.2.2.1 109 9).toNatClampNeg) := geq_T h3.2.2.2.1
    rw [e] at x1
    have x2 := h4.2.2.2.1
    rw [r7, r8] at x2
    exact geq_t (geq_s x1) x2
  · rw [gqT_o hO (by omega)]
    exact b3 j (by omega)
/-- each of the commands is one of the text's -/
def LDB (s t : GS) : Prop := ∀ j, j ≤ (t.2.2.1 109 32).toNatClampNeg → ∃ a, LRN (s.1 125) (s.2.2.1 109 22).toInt.toNat (gvR s) j a (opF (gvR s) (t.1 127) (t.1 128) j)
theorem ldb_cg {s u t : GS} (h : LDB s u) (h7 : t.1 127 = u.1 127) (h8 : t.1 128 = u.1 128) (hm : t.2.2.1 109 32 = u.2.2.1 109 32) : LDB s t := by
  unfold LDB
  rw [h7, h8, hm]
  exact h
theorem ldb_0 {s t : GS} (hm : t.2.2.1 109 32 = Int32.ofInt 0) : LDB s t := by
  intro j hj
  have e : (t.2.2.1 109 32).toNatClampNeg = 0 := by rw [hm]; rfl
  have e2 : j = 0 := by omega
  subst e2
  exact ⟨0, rfl, rfl⟩
theorem ldb_cmd {s u t : GS} {a : Nat} (h : LDB s u) (hU : LD1 s u) (h0 : (u.2.2.1 109 23).toInt = 0) (ht : (u.2.2.1 109 28).toInt ≠ 0) (hR : RCM u t) (hIu : 0 ≤ (u.2.2.1 109 32).toInt) (u125 : u.1 125 = s.1 125) (u22 : u.2.2.1 109 22 = s.2.2.1 109 22) (z : (t.2.2.1 109 23).toInt = 0) (hD : LDG s t a) : LDB s t := by
  obtain ⟨-, g2, -⟩ := hU
  obtain ⟨a0, -, k, v, hk, hv⟩ := g2 h0
  have ek := ntv_z hk hv
  unfold RCM at hR
  rw [u125, u22] at hR
  obtain ⟨m1, c, V, m2, m3, m4, m5, m6, m7⟩ := (hR a0 k v hk hv (by omega)).1 z
  intro j hj
  by_cases q : j = (t.2.2.1 109 32).toNatClampNeg
  · rw [q]; exact ⟨a, hD.1⟩
  · have em : (t.2.2.1 109 32).toNatClampNeg = (u.2.2.1 109 32).toNatClampNeg + 1 := by
      show (t.2.2.1 109 32).toInt.toNat = (u.2.2.1 109 32).toInt.toNat + 1
      omega
    have eo : opF (gvR s) (t.1 127) (t.1 128) j = opF (gvR s) (u.1 127) (u.1 128) j := opF_cg j (fun i hi => m5 i (by omega)) (fun i hi => m6 i (by omega))
    rw [eo]
    exact h j (by omega)
/-- what load of the reference does to its log -/
def LDO (s t : GS) (z : Int32) : Prop := (z.toInt ≠ -4 → LDL s t z.toNatClampNeg ∧ LDB s t ∧ (t.2.2.1 109 32).toNatClampNeg = z.toNatClampNeg) ∧ (z.toInt = -4 → L28 s t)
/-! the class's log: one change, a text of changes -/
section LGC
variable {s t u : GS} {x y z w v : Int32} {p : Nat}
theorem lgc_n (hp : (∀ k : Nat, (k : Int) < 7 * (s.2.2.1 2 0).toInt → t.1 30 k = s.1 30 k)) (hg : gvC t = gqN (gvC s) (s.2.2.1 2 1).toNatClampNeg x) (hr : t.1 30 (7 * (s.2.2.1 2 0).toInt.toNat) = (Int32.ofInt 0) ∧ t.1 30 (7 * (s.2.2.1 2 0).toInt.toNat + 1) = (s.2.2.1 2 1) ∧ t.1 30 (7 * (s.2.2.1 2 0).toInt.toNat + 2) = x ∧ t.1 30 (7 * (s.2.2.1 2 0).toInt.toNat + 3) = y) (n0 : 0 ≤ (s.2.2.1 2 1).toInt) : LGC s t := by
  refine ⟨hp, ?_, fun _ => ?_⟩
  · rw [gqR_0 (by rw [hr.1]; rfl), hr.2.1, hr.2.2.1]; exact hg
  · rw [hr.2.1]
    show (((s.2.2.1 2 1).toInt.toNat : Nat) : Int) = _
    omega
theorem lgc_a {a b c d e : Int32} (hp : (∀ k : Nat, (k : Int) < 7 * (s.2.2.1 2 0).toInt → t.1 30 k = s.1 30 k)) (hg : gvC t = gqA (gvC s) x.toNatClampNeg a b c d e) (hr : t.1 30 (7 * (s.2.2.1 2 0).toInt.toNat) = (Int32.ofInt 1) ∧ t.1 30 (7 * (s.2.2.1 2 0).toInt.toNat + 1) = x ∧ t.1 30 (7 * (s.2.2.1 2 0).toInt.toNat + 2) = a ∧ t.1 30 (7 * (s.2.2.1 2 0).toInt.toNat + 3) = b ∧ t.1 30 (7 * (s.2.2.1 2 0).toInt.toNat + 4) = c ∧ t.1 30 (7 * (s.2.2.1 2 0).toInt.toNat + 5) = d ∧ t.1 30 (7 * (s.2.2.1 2 0).toInt.toNat + 6) = e) : LGC s t := by
  refine ⟨hp, ?_, fun q => by rw [hr.1] at q; exact absurd q (by decide)⟩
  rw [gqR_1 (by rw [hr.1]; rfl), hr.2.1, hr.2.2.1, hr.2.2.2.1, hr.2.2.2.2.1, hr.2.2.2.2.2.1, hr.2.2.2.2.2.2]; exact hg
theorem lgc_d (hp : (∀ k : Nat, (k : Int) < 7 * (s.2.2.1 2 0).toInt → t.1 30 k = s.1 30 k)) (hg : gvC t = gqD (gvC s) x.toNatClampNeg) (hr : t.1 30 (7 * (s.2.2.1 2 0).toInt.toNat) = (Int32.ofInt 2) ∧ t.1 30 (7 * (s.2.2.1 2 0).toInt.toNat + 1) = x ∧ t.1 30 (7 * (s.2.2.1 2 0).toInt.toNat + 2) = y ∧ t.1 30 (7 * (s.2.2.1 2 0).toInt.toNat + 3) = z) : LGC s t := by
  refine ⟨hp, ?_, fun q => by rw [hr.1] at q; exact absurd q (by decide)⟩
  rw [gqR_2 (by rw [hr.1]; rfl), hr.2.1]; exact hg
theorem lgc_w (hp : (∀ k : Nat, (k : Int) < 7 * (s.2.2.1 2 0).toInt → t.1 30 k = s.1 30 k)) (hg : gvC t = gqW (gvC s) x.toNatClampNeg w v) (hr : t.1 30 (7 * (s.2.2.1 2 0).toInt.toNat) = (Int32.ofInt 3) ∧ t.1 30 (7 * (s.2.2.1 2 0).toInt.toNat + 1) = x ∧ t.1 30 (7 * (s.2.2.1 2 0).toInt.toNat + 2) = w ∧ t.1 30 (7 * (s.2.2.1 2 0).toInt.toNat + 3) = v) : LGC s t := by
  refine ⟨hp, ?_, fun q => by rw [hr.1] at q; exact absurd q (by decide)⟩
  rw [gqR_3 (by rw [hr.1]; rfl), hr.2.1, hr.2.2.1, hr.2.2.2]; exact hg
theorem lgc_l (hp : (∀ k : Nat, (k : Int) < 7 * (s.2.2.1 2 0).toInt → t.1 30 k = s.1 30 k)) (hg : gvC t = gqL (gvC s) x.toNatClampNeg w) (hr : t.1 30 (7 * (s.2.2.1 2 0).toInt.toNat) = (Int32.ofInt 4) ∧ t.1 30 (7 * (s.2.2.1 2 0).toInt.toNat + 1) = x ∧ t.1 30 (7 * (s.2.2.1 2 0).toInt.toNat + 2) = w ∧ t.1 30 (7 * (s.2.2.1 2 0).toInt.toNat + 3) = v) : LGC s t := by
  refine ⟨hp, ?_, fun q => by rw [hr.1] at q; exact absurd q (by decide)⟩
  rw [gqR_4 (by rw [hr.1]; decide) (by rw [hr.1]; decide) (by rw [hr.1]; decide) (by rw [hr.1]; decide), hr.2.1, hr.2.2.1]; exact hg
theorem lgc_fr {L : FM} (h : LGC u t) (hF : Fr L s u) (hq : (qI L.1 30 && (qI L.1 3 && qI L.1 4 && qI L.1 5 && qI L.1 6 && qI L.1 7 && qI L.1 8 && qF L.2.2.1 2 1 && qF L.2.2.1 2 0)) = true) : LGC s t := by
  rw [Bool.and_eq_true] at hq
  have e := gvC_cg hF hq.2
  have e0 : u.2.2.1 2 0 = s.2.2.1 2 0 := by have q := hq.2; simp only [Bool.and_eq_true] at q; exact hF.2.2.1 2 0 q.2
  have e1 : u.2.2.1 2 1 = s.2.2.1 2 1 := by have q := hq.2; simp only [Bool.and_eq_true] at q; exact hF.2.2.1 2 1 q.1.2
  unfold LGC at h ⊢
  rw [e, e0, e1, hF.1 30 hq.1] at h
  exact h
theorem gqR_v {g : GVW} {r : Nat → Int32} {k : Nat} : (gqR g r k).2.2.2.2.2.2.2 = g.2.2.2.2.2.2.2 + 1 := by
  unfold gqR gqP
  split
  · rfl
  · split
    · rfl
    · split
      · rfl
      · split
        · rfl
        · rfl
theorem lgc_v (h : LGC s t) : (t.2.2.1 2 0).toInt = (s.2.2.1 2 0).toInt + 1 := by
  have e : (gvC t).2.2.2.2.2.2.2 = _ := congrArg (fun g : GVW => g.2.2.2.2.2.2.2) h.2.1
  rw [gqR_v] at e
  exact e
end LGC
def LGS (s t : GS) (k : Nat) : Prop := ∃ G : Nat → GVW, (∀ j, j ≤ k → ∃ a, LRN (s.1 47) (s.2.2.1 46 1).toInt.toNat (gvC s) j a (G j)) ∧ G k = gvC t ∧ (∀ k : Nat, (k : Int) < 7 * (s.2.2.1 2 0).toInt → t.1 30 k = s.1 30 k) ∧ (t.2.2.1 2 0).toInt = (s.2.2.1 2 0).toInt + (k : Int) ∧ ∀ j, j < k → gqR (G j) (t.1 30) ((s.2.2.1 2 0).toInt.toNat + j) = G (j + 1) ∧ ((t.1 30 (7 * ((s.2.2.1 2 0).toInt.toNat + j))).toInt = 0 → ((t.1 30 (7 * ((s.2.2.1 2 0).toInt.toNat + j) + 1)).toNatClampNeg : Int) = (G j).2.2.2.2.2.2.1)
theorem lgs_0 {s t : GS} (hg : gvC t = gvC s) (h30 : t.1 30 = s.1 30) : LGS s t 0 := by
  refine ⟨fun _ => gvC s, fun j hj => ⟨0, ?_⟩, hg.symm, fun k _ => by rw [h30], ?_, fun j hj => absurd hj (Nat.not_lt_zero _)⟩
  · have e : j = 0 := by omega
    rw [e]; exact ⟨rfl, rfl⟩
  · have e : (gvC t).2.2.2.2.2.2.2 = (gvC s).2.2.2.2.2.2.2 := by rw [hg]
    have e2 : (t.2.2.1 2 0).toInt = (s.2.2.1 2 0).toInt := e
    rw [e2]; exact (Int.add_zero _).symm
theorem lgs_s {s u t : GS} {k m : Nat} (h : LGS s u k) (hm : m = k + 1) (hC : LGC u t) (h0 : 0 ≤ (s.2.2.1 2 0).toInt) (hl : ∃ a, LRN (s.1 47) (s.2.2.1 46 1).toInt.toNat (gvC s) m a (gvC t)) : LGS s t m := by
  subst hm
  obtain ⟨G, a1, a2, a3, a4, a5⟩ := h
  have hv := lgc_v hC
  have ek : (u.2.2.1 2 0).toInt.toNat = (s.2.2.1 2 0).toInt.toNat + k := by omega
  refine ⟨fun j => if j ≤ k then G j else gvC t, fun j hj => ?_, by show (if k + 1 ≤ k then _ else _) = _; rw [if_neg (by omega)], fun j hj => ?_, by rw [hv, a4]; omega, fun j hj => ?_⟩
  · show ∃ a, LRN (s.1 47) (s.2.2.1 46 1).toInt.toNat (gvC s) j a (if j ≤ k then G j else gvC t)
    by_cases c : j ≤ k
    · rw [if_pos c]; exact a1 j c
    · rw [if_neg c, show j = k + 1 by omega]; exact hl
  · rw [hC.1 j (by omega)]; exact a3 j hj
  · show gqR (if j ≤ k then G j else gvC t) (t.1 30) ((s.2.2.1 2 0).toInt.toNat + j) = (if j + 1 ≤ k then G (j + 1) else gvC t) ∧ (_ → _ = (if j ≤ k then G j else gvC t).2.2.2.2.2.2.1)
    rw [if_pos (show j ≤ k by omega)]
    by_cases c : j + 1 ≤ k
    · rw [if_pos c]
      obtain ⟨p1, p2, p3⟩ := gqR_p (g := G j) (k := (s.2.2.1 2 0).toInt.toNat + j) hC.1 (by omega)
      rw [p1, p2, p3]
      exact a5 j (by omega)
    · have ej : j = k := by omega
      rw [if_neg c, ej, a2, ← ek]
      exact ⟨hC.2.1.symm, fun z => hC.2.2 z⟩
/-- what load of the class does to its log -/
def LCO (s t : GS) (z : Int32) : Prop := (z.toInt ≠ -4 → LGS s t z.toInt.toNat) ∧ (z.toInt = -4 → (∀ k : Nat, (k : Int) < 7 * (s.2.2.1 2 0).toInt → t.1 30 k = s.1 30 k))
end
section
/-! THE REFERENCE'S GRAPH 1 STAYS AS IT IS -/
def G12 (s t : GS) : Prop := t.1 110 1 = s.1 110 1 ∧ ∀ i, 160 ≤ i → i < 320 → t.1 112 i = s.1 112 i
def G1S (s t : GS) : Prop := t.1 110 1 = s.1 110 1 ∧ (∀ i, 32 ≤ i → t.1 111 i = s.1 111 i) ∧ ∀ i, 160 ≤ i → i < 320 → t.1 112 i = s.1 112 i ∧ t.1 113 i = s.1 113 i ∧ t.1 114 i = s.1 114 i ∧ t.1 115 i = s.1 115 i ∧ t.1 116 i = s.1 116 i ∧ t.1 117 i = s.1 117 i
section G1S
variable {s u t v : GS} {L : FM}
theorem g12_e (h : t = s) : G12 s t := by
  rw [h]
  exact ⟨rfl, fun _ _ _ => rfl⟩
theorem g12_cg (h0 : t.1 110 = s.1 110) (h2 : t.1 112 = s.1 112) : G12 s t := ⟨by rw [h0], fun i _ _ => by rw [h2]⟩
theorem g12_tr (h : G12 s u) (g : G12 u t) : G12 s t := ⟨g.1.trans h.1, fun i h1 h2 => (g.2 i h1 h2).trans (h.2 i h1 h2)⟩
theorem g12_t {i : Nat} {x : Int32} (hi : 320 ≤ i) : G12 s (sI s 112 i x) := by
  refine ⟨by rw [sI_p rfl], fun j h1 h2 => ?_⟩
  rw [sI_q]
  exact ug_ne (by omega)
theorem g12_n {x : Int32} : G12 s (sI s 110 2 x) := by
  refine ⟨?_, fun j h1 h2 => by rw [sI_p rfl]⟩
  rw [sI_q]
  exact ug_ne (by decide)
theorem g1_rf : G1S s s := ⟨rfl, fun _ _ => rfl, fun _ _ _ => ⟨rfl, rfl, rfl, rfl, rfl, rfl⟩⟩
theorem g1_tr (h : G1S s u) (g : G1S u t) : G1S s t := by
  refine ⟨g.1.trans h.1, fun i hi => (g.2.1 i hi).trans (h.2.1 i hi), fun i h1 h2 => ?_⟩
  obtain ⟨a1, a2, a3, a4, a5, a6⟩ := h.2.2 i h1 h2
  obtain ⟨b1, b2, b3, b4, b5, b6⟩ := g.2.2 i h1 h2
  exact ⟨b1.trans a1, b2.trans a2, b3.trans a3, b4.trans a4, b5.trans a5, b6.trans a6⟩
theorem g1_fr (hF : Fr L s t) (hq : (qI L.1 110 && qI L.1 111 && qI L.1 112 && qI L.1 113 && qI L.1 114 && qI L.1 115 && qI L.1 116 && qI L.1 117) = true) : G1S s t := by
  simp only [Bool.and_eq_true] at hq
  obtain ⟨⟨⟨⟨⟨⟨⟨q0, q1⟩, q2⟩, q3⟩, q4⟩, q5⟩, q6⟩, q7⟩ := hq
  refine ⟨by rw [hF.1 110 q0], fun i _ => by rw [hF.1 111 q1], fun i _ _ => ?_⟩
  rw [hF.1 112 q2, hF.1 113 q3, hF.1 114 q4, hF.1 115 q5, hF.1 116 q6, hF.1 117 q7]
  exact ⟨rfl, rfl, rfl, rfl, rfl, rfl⟩
theorem g1_2 (hF : Fr L s t) (hq : (qI L.1 111 && qI L.1 113 && qI L.1 114 && qI L.1 115 && qI L.1 116 && qI L.1 117) = true) (h : G12 s t) : G1S s t := by
  simp only [Bool.and_eq_true] at hq
  obtain ⟨⟨⟨⟨⟨q1, q3⟩, q4⟩, q5⟩, q6⟩, q7⟩ := hq
  refine ⟨h.1, fun i _ => by rw [hF.1 111 q1], fun i h1 h2 => ?_⟩
  rw [hF.1 113 q3, hF.1 114 q4, hF.1 115 q5, hF.1 116 q6, hF.1 117 q7]
  exact ⟨h.2 i h1 h2, rfl, rfl, rfl, rfl, rfl⟩
theorem g1_mk {k : Nat} {w a : Int32} {f8 f9 : Nat → Int32} (hq : AQ u k 0) (ha : AP u v k 0) (hr : RP u v k 0) (h8 : u.1 118 = upd f8 k w) (hw : In w 0 4) (h9 : u.1 119 = upd f9 k a) (hx : In a 0 159) (r0 : u.1 110 = s.1 110) (r1 : u.1 111 = s.1 111) (r2 : u.1 112 = s.1 112) (r3 : u.1 113 = s.1 113) (r4 : u.1 114 = s.1 114) (r5 : u.1 115 = s.1 115) (r6 : u.1 116 = s.1 116) (r7 : u.1 117 = s.1 117) (ht : t.1 = v.1) : G1S s t := by
  have e8 : u.1 118 k = w := by rw [h8]; exact ug_at
  have e9 : u.1 119 k = a := by rw [h9]; exact ug_at
  have ea : a.toNatClampNeg = a.toInt.toNat := rfl
  have en : (u.1 110 0).toNatClampNeg = (u.1 110 0).toInt.toNat := rfl
  obtain ⟨q1, q2, q3, q4⟩ := hq
  have q5 := q1.2.2.2.2
  unfold RP at hr
  rw [e8, e9] at hr
  rw [e8] at q3
  rw [e8, e9] at q5
  unfold In at hw hx
  obtain ⟨p0, p1, p2, p3, p4⟩ := hr
  have H : (∀ i, 32 ≤ i → v.1 111 i = u.1 111 i) ∧ (∀ i, 160 ≤ i → v.1 115 i = u.1 115 i) ∧ (∀ i, 160 ≤ i → v.1 116 i = u.1 116 i) ∧ (∀ i, 160 ≤ i → v.1 117 i = u.1 117 i) := by
    have c : w.toInt = 0 ∨ w.toInt = 1 ∨ w.toInt = 2 ∨ w.toInt = 3 ∨ w.toInt = 4 := by clear p0 p1 p2 p3 p4 q3 q5; omega
    rcases c with c | c | c | c | c
    · obtain ⟨a1, a2, a3, a4, a5, a6, a7⟩ := p0 c
      clear p0 p1 p2 p3 p4
      have b := q3 c
      rw [a1, a5, a6, a7]
      exact ⟨fun i hi => ug_ne (by omega), fun _ _ => rfl, fun _ _ => rfl, fun _ _ => rfl⟩
    · obtain ⟨a1, ⟨x, -, a2⟩, a3, a4, a5, a6, a7⟩ := p1 c
      clear p0 p1 p2 p3 p4
      rw [a1, a5, a6, a7]
      exact ⟨fun _ _ => rfl, fun i hi => ug_ne (by omega), fun i hi => ug_ne (by omega), fun i hi => ug_ne (by omega)⟩
    · obtain ⟨a1, a2, a3, a4, a5, a6, a7⟩ := p2 c
      clear p0 p1 p2 p3 p4
      rw [a1, a5, a6, a7]
      exact ⟨fun _ _ => rfl, fun _ _ => rfl, fun _ _ => rfl, fun _ _ => rfl⟩
    · obtain ⟨a1, a2, a3, a4, a5, a6, a7⟩ := p3 c
      clear p0 p1 p2 p3 p4
      rw [a1, a5, a6, a7]
      refine ⟨fun _ _ => rfl, fun i hi => ?_, fun i hi => ?_, fun i hi => ?_⟩
      · split
        · exact ug_ne (by omega)
        · rfl
      · split
        · exact ug_ne (by omega)
        · rfl
      · split
        · exact ug_ne (by omega)
        · rfl
    · obtain ⟨a1, a2, a3, a4, a5, a6, a7⟩ := p4 c
      clear p0 p1 p2 p3 p4
      have b := (q5 c).1
      rw [a1, a5, a6, a7]
      exact ⟨fun i hi => ug_ne (by omega), fun _ _ => rfl, fun _ _ => rfl, fun _ _ => rfl⟩
  refine ⟨?_, fun i hi => ?_, fun i h1 h2 => ?_⟩
  · rw [ht, ha.2.1 1 (by decide), r0]
  · rw [ht, H.1 i hi, r1]
  · obtain ⟨b2, b3, b4⟩ := ha.2.2.2 i (Or.inr (by omega))
    rw [ht, b2, b3, b4, H.2.1 i h1, H.2.2.1 i h1, H.2.2.2 i h1, r2, r3, r4, r5, r6, r7]
    exact ⟨rfl, rfl, rfl, rfl, rfl, rfl⟩
/-- so what is shown stays -/
theorem g1_v {x : Int} (h : G1S s t) (hn : In (s.1 110 1) 0 32) : GEV (gv1 t x) (gv1 s x) := by
  obtain ⟨h0, h1, h2⟩ := h
  refine ⟨fun i hi => h1 (32 + i) (by omega), fun i hi => ?_, fun i hi hx => ?_, by show (t.1 110 1).toInt = (s.1 110 1).toInt; rw [h0], rfl⟩
  · obtain ⟨a1, a2, -⟩ := h2 (160 + i) (by omega) (by omega)
    show thf (t.1 112) (t.1 113) (160 + i) = thf (s.1 112) (s.1 113) (160 + i)
    unfold thf
    rw [a1, a2]
  · obtain ⟨a1, a2, a3, a4, a5, a6⟩ := h2 (160 + i) (by omega) (by omega)
    exact ⟨a3, a4, a5, a6⟩
end G1S
/-! TOPS OF THE SHOWN GRAPH -/
def TQD (s : GS) : Prop := ∀ p : Nat, p < 160 → (s.1 34 p).toInt ≠ -1 → (p : Int) < (s.2.2.1 32 3).toInt
theorem tqd_up {s t : GS} {p : Nat} {a : Int32} (h : TQD s) (hr : t.1 34 = upd (s.1 34) p a) (h1 : (s.2.2.1 32 3).toInt ≤ (t.2.2.1 32 3).toInt) (h2 : (p : Int) < (t.2.2.1 32 3).toInt) : TQD t := by
  intro q hq hn
  by_cases c : q = p
  · rw [c]; exact h2
  · rw [hr, ug_ne c] at hn
    have := h q hq hn
    omega
theorem tqd_dn {s t : GS} {p : Nat} (h : TQD s) (hr : t.1 34 = upd (s.1 34) p (Int32.ofInt (-1))) (h1 : (t.2.2.1 32 3) = (s.2.2.1 32 3)) : TQD t := by
  intro q hq hn
  rw [h1]
  by_cases c : q = p
  · rw [c, hr, ug_at] at hn; exact absurd rfl hn
  · rw [hr, ug_ne c] at hn
    exact h q hq hn
theorem tqd_lw {s t : GS} {j : Nat} {z : Int32} (h : TQD s) (hr : t.1 34 = s.1 34) (hz : z = s.1 34 j) (hz1 : z.toInt = -1) (h1 : (t.2.2.1 32 3).toInt = (j : Int)) (h2 : (s.2.2.1 32 3).toInt = (j : Int) + 1) : TQD t := by
  intro q hq hn
  rw [hr] at hn
  have h3 := h q hq hn
  have h4 : q ≠ j := fun c => by rw [c, ← hz] at hn; exact hn hz1
  omega
theorem tqd_cg {s t : GS} (h : TQD s) (hr : t.1 34 = s.1 34) (h1 : (t.2.2.1 32 3) = (s.2.2.1 32 3)) : TQD t := by
  intro q hq hn
  rw [hr] at hn
  rw [h1]
  exact h q hq hn
theorem tqd_fr {s t : GS} {L : FM} (hT : TQD s) (h : Fr L s t) (hq : (qI L.1 34 && qF L.2.2.1 32 3) = true) : TQD t := by
  rw [Bool.and_eq_true] at hq
  exact tqd_cg hT (h.1 34 hq.1) (h.2.2.1 32 3 hq.2)
/-- alike as far as can be seen, whatever the version -/
def GEW (g h : GVW) : Prop := (∀ i : Nat, (i : Int) < g.2.2.2.2.2.2.1 → g.1 i = h.1 i) ∧ (∀ i, i < 160 → g.2.1 i = h.2.1 i) ∧ (∀ i, i < 160 → (g.2.1 i).toInt ≠ -1 → g.2.2.1 i = h.2.2.1 i ∧ g.2.2.2.1 i = h.2.2.2.1 i ∧ g.2.2.2.2.1 i = h.2.2.2.2.1 i ∧ g.2.2.2.2.2.1 i = h.2.2.2.2.2.1 i) ∧ g.2.2.2.2.2.2.1 = h.2.2.2.2.2.2.1
theorem gew_v {g h : GVW} (q : GEV g h) : GEW g h := ⟨q.1, q.2.1, q.2.2.1, q.2.2.2.1⟩
/-! WHAT IS TOLD -/
def TLV (g : GVW) (p : Nat) (w : Int) : Int := if (g.2.1 p).toInt = -1 then 9000000000000000 else if w = 0 then (g.2.1 p).toInt else if w = 1 then (g.2.2.1 p).toInt else if w = 2 then (g.2.2.2.1 p).toInt else if w = 3 then (g.2.2.2.2.1 p).toInt else (g.2.2.2.2.2.1 p).toInt
section TLV
variable {g : GVW} {p : Nat} {w : Int} {f v : Int32} {z : Int64}
theorem tlv_no (hf : (g.2.1 p).toInt = -1) (hz : z.toInt = 9000000000000000) : z.toInt = TLV g p w := by
  unfold TLV
  rw [if_pos hf]; exact hz
theorem tlv_0 (h : (g.2.1 p).toInt ≠ -1) (hw : w = 0) (hf : f = g.2.1 p) (hz : z.toInt = f.toInt) : z.toInt = TLV g p w := by
  unfold TLV
  rw [if_neg h, if_pos hw, ← hf]; exact hz
theorem tlv_1 (h : (g.2.1 p).toInt ≠ -1) (hw : w = 1) (hv : v = g.2.2.1 p) (hz : z.toInt = v.toInt) : z.toInt = TLV g p w := by
  unfold TLV
  rw [if_neg h, if_neg (by omega), if_pos hw, ← hv]; exact hz
theorem tlv_2 (h : (g.2.1 p).toInt ≠ -1) (hw : w = 2) (hv : v = g.2.2.2.1 p) (hz : z.toInt = v.toInt) : z.toInt = TLV g p w := by
  unfold TLV
  rw [if_neg h, if_neg (by omega), if_neg (by omega), if_pos hw, ← hv]; exact hz
theorem tlv_3 (h : (g.2.1 p).toInt ≠ -1) (hw : w = 3) (hv : v = g.2.2.2.2.1 p) (hz : z.toInt = v.toInt) : z.toInt = TLV g p w := by
  unfold TLV
  rw [if_neg h, if_neg (by omega), if_neg (by omega), if_neg (by omega), if_pos hw, ← hv]; exact hz
theorem tlv_4 (h : (g.2.1 p).toInt ≠ -1) (hw : w = 4) (hv : v = g.2.2.2.2.2.1 p) (hz : z.toInt = v.toInt) : z.toInt = TLV g p w := by
  unfold TLV
  rw [if_neg h, if_neg (by omega), if_neg (by omega), if_neg (by omega), if_neg (by omega), ← hv]; exact hz
theorem tl_ne {x y : Int32} (e : x = y) (h : x.toInt ≠ -1) : y.toInt ≠ -1 := e ▸ h
theorem tl_eq {x y : Int32} (e : x = y) (h : x.toInt = -1) : y.toInt = -1 := e ▸ h
theorem tlv_e {h : GVW} (q : GEW g h) (hp : p < 160) : TLV g p w = TLV h p w := by
  unfold TLV
  rw [q.2.1 p hp]
  by_cases c : (h.2.1 p).toInt = -1
  · rw [if_pos c, if_pos c]
  · obtain ⟨a, b, d, e⟩ := q.2.2.1 p hp (by rw [q.2.1 p hp]; exact c)
    rw [a, b, d, e]
end TLV
def TLR (s t : GS) (x y : Int32) (z : Int64) : Prop := ((t.2.2.1 109 0).toInt = 1 ∧ ¬ (In x 0 159 ∧ In y 0 4)) ∨ ((t.2.2.1 109 0).toInt = 0 ∧ (In x 0 159 ∧ In y 0 4) ∧ z.toInt = TLV (gvG s (s.2.2.1 109 18).toNatClampNeg) x.toNatClampNeg y.toInt)
/-- the reference's place of an arc, and whether it is there -/
theorem tg_ix {s : GS} {b x z : Int32} (hI : Inv s) (hb : b = s.2.2.1 109 19) (hz : z.toInt = b.toInt + x.toInt) (hx : In x 0 159) : z.toNatClampNeg = 160 * (s.2.2.1 109 18).toNatClampNeg + x.toNatClampNeg := by
  have k := hI.2.2.2.2.2.2.2.2.2.1
  have g := inv_F hI (z := s.2.2.1 109 18) 0 1 rfl rfl
  have k2 : (s.2.2.1 109 19).toInt = 160 * (s.2.2.1 109 18).toInt := k
  unfold In at g hx
  rw [hb, k2] at hz
  show z.toInt.toNat = 160 * (s.2.2.1 109 18).toInt.toNat + x.toInt.toNat
  omega
theorem tg_no {s : GS} {g p : Nat} {x : Int32} (hx : x = s.1 112 (160 * g + p)) (h0 : x.toInt = 0) : ((gvG s g).2.1 p).toInt = -1 := by
  show (thf (s.1 112) (s.1 113) (160 * g + p)).toInt = -1
  unfold thf
  rw [← hx, if_pos h0]
  rfl
theorem tg_ne {s : GS} {g p : Nat} {x : Int32} (hI : Inv s) (hx : x = s.1 112 (160 * g + p)) (h0 : x.toInt ≠ 0) (hl : 160 * g + p < 480) : ((gvG s g).2.1 p).toInt ≠ -1 := by
  show (thf (s.1 112) (s.1 113) (160 * g + p)).toInt ≠ -1
  unfold thf
  rw [← hx, if_neg h0]
  have w := hI.1.1 113 (160 * g + p) (Nat.lt_of_lt_of_le hl (Nat.le_of_ble_eq_true rfl))
  have w1 : (rI 113).1 = 0 := rfl
  unfold In at w
  rw [w1] at w
  omega
theorem tg_is {s : GS} {g p : Nat} {x f : Int32} (hx : x = s.1 112 (160 * g + p)) (h0 : x.toInt ≠ 0) (hf : f = s.1 113 (160 * g + p)) : f = (gvG s g).2.1 p := by
  show f = thf (s.1 112) (s.1 113) (160 * g + p)
  unfold thf
  rw [← hx, if_neg h0]
  exact hf
end
section
/-! THE LOOP OF COMMAND -/
theorem shk_r {c k r : Int} (h : SHK c k r) (hc : cmI c) (hk : k ≤ (cmA c : Int)) : 1 ≤ r ∧ r ≤ 3 := by
  rw [h hc hk]
  have := cmK_r (c := c) (i := k.toNat + 1)
  omega
theorem in_ne3 {z : Int32} {lo hi : Int} (h : In z lo hi) (hh : decide (hi < 3) = true) : z.toInt ≠ 3 := by
  have a := h.2
  have b := of_decide_eq_true hh
  omega
theorem in_at {z : Int32} {c : Int} (h : In z c c) : z.toInt = c := Int.le_antisymm h.2 h.1
theorem tkn_l1 {T : Nat → Int32} {n a p e : Nat} {k v : Int} (h : TKN T n a p e k v) (hk : k = 1) : 0 ≤ v ∧ v ≤ 25 := by
  rcases h.2 with ⟨h1, h2, h3⟩ | ⟨h1, h2, h3, h4, h5⟩ | ⟨q, h1, h2, h3⟩ | ⟨h1, h2, h3, h4, h5⟩ | ⟨h1, h2, h3, h4, h5, h6⟩
  · omega
  · unfold tkL at h2
    omega
  · rcases h3 with ⟨a1, a2, a3⟩ | ⟨a1, a2⟩
    · omega
    · omega
  · omega
  · omega
theorem sg_v {y z : Int32} {v : Int} (e : z = y - Int32.ofInt 97) (q : y.toInt = v + 97) (b : 0 ≤ v ∧ v ≤ 25) : z.toInt = v := by
  rw [t_s97 e (by omega) (by omega)]
  omega
section HQ
variable {s sc u : GS} {y2 y3 y4 z3 m2 z76 w27 val : Int32} {p ix : Nat} {k v : Int}
theorem hq5_s (hf0 : (sc.2.2.1 109 23).toInt = 0) (hm : y4.toInt ≠ 0) (h5 : HQ5 s sc (y2.toInt - 97) y3 y4 w27.toInt.toNat) (hC : C4 y2.toInt) (h4 : sc.2.2.1 109 32 = s.2.2.1 109 32) (ht : TKN (s.1 125) (s.2.2.1 109 22).toInt.toNat w27.toInt.toNat p (u.2.2.1 109 27).toInt.toNat k v) (hw : SHK (y2.toInt - 97) y3.toInt z76.toInt) (hk : k = z76.toInt) (h3 : z76.toInt ≠ 3) (h0 : 0 ≤ y3.toInt) (hz : z3.toInt = y3.toInt + 1) (hix : ix = 5 * (sc.2.2.1 109 32).toNatClampNeg + y3.toNatClampNeg) (hval : val.toInt = v) (h128 : u.1 128 = sc.1 128) : HQ5 s (sI u 128 ix val) (y2.toInt - 97) z3 m2 (u.2.2.1 109 27).toInt.toNat := by
  intro _ _
  obtain ⟨a1, a2⟩ := h5 hf0 hm
  have hc9 := c4_i hC
  have hw := hw hc9 a1
  rw [h4] at hix
  have e3 : y3.toNatClampNeg = y3.toInt.toNat := rfl
  have hle : y3.toInt + 1 ≤ (cmA (y2.toInt - 97) : Int) := by
    by_cases q : y3.toInt < (cmA (y2.toInt - 97) : Int)
    · omega
    · exfalso
      have h8 := (cmK_r (c := y2.toInt - 97) (i := y3.toInt.toNat + 1)).2.2.2 (by omega)
      omega
  refine ⟨by omega, fun a ha => ?_⟩
  have ez : z3.toInt.toNat = y3.toInt.toNat + 1 := by omega
  rw [ez]
  refine cs_more (a2 a ha) ht (by rw [hk, hw]) (fun j hj => ?_) ?_
  · show ((sI u 128 ix val).1 128 (5 * (s.2.2.1 109 32).toNatClampNeg + j)).toInt = (sc.1 128 (5 * (s.2.2.1 109 32).toNatClampNeg + j)).toInt
    rw [sI_q, ug_ne (by omega), h128]
  · show ((sI u 128 ix val).1 128 (5 * (s.2.2.1 109 32).toNatClampNeg + y3.toInt.toNat)).toInt = v
    rw [sI_q, hix, e3, ug_at]
    exact hval
theorem hq6_e (hf0 : (sc.2.2.1 109 23).toInt = 0) (hm : y4.toInt ≠ 0) (h5 : HQ5 s sc (y2.toInt - 97) y3 y4 w27.toInt.toNat) (hC : C4 y2.toInt) (ht : TKN (s.1 125) (s.2.2.1 109 22).toInt.toNat w27.toInt.toNat p (u.2.2.1 109 27).toInt.toNat k v) (hw : SHK (y2.toInt - 97) y3.toInt z76.toInt) (hk : k = z76.toInt) (h3 : z76.toInt = 3) (h0 : 0 ≤ y3.toInt) (h128 : u.1 128 = sc.1 128) : HQ6 s u (y2.toInt - 97) m2 (u.2.2.1 109 27).toInt.toNat := by
  intro _ _ a ha
  obtain ⟨a1, a2⟩ := h5 hf0 hm
  have hw := hw (c4_i hC) a1
  have hi : y3.toInt.toNat = cmA (y2.toInt - 97) := by
    by_cases q : y3.toInt.toNat + 1 ≤ cmA (y2.toInt - 97)
    · exfalso
      have h8 := (cmK_r (c := y2.toInt - 97) (i := y3.toInt.toNat + 1)).2.2.1 q
      omega
    · omega
  exact cse_cg (cs_end hi (a2 a ha) ht (by omega)) (fun j hj => by
    show (u.1 128 (5 * (s.2.2.1 109 32).toNatClampNeg + j)).toInt = (sc.1 128 (5 * (s.2.2.1 109 32).toNatClampNeg + j)).toInt
    rw [h128])
theorem hq7_t (hI : Inv u) (hf0 : (sc.2.2.1 109 23).toInt = 0) (hm : y4.toInt ≠ 0) (h5 : HQ5 s sc (y2.toInt - 97) y3 y4 w27.toInt.toNat) (hC : C4 y2.toInt) (h0 : 0 ≤ y3.toInt) (ht : TKN (s.1 125) (s.2.2.1 109 22).toInt.toNat w27.toInt.toNat (u.2.2.1 109 29).toInt.toNat (u.2.2.1 109 27).toInt.toNat k v) (hn : NTK sc u k v) : HQ7 s u (y2.toInt - 97) := by
  intro hf
  obtain ⟨a1, a2⟩ := h5 hf0 hm
  obtain ⟨b1, b2, b3⟩ := (ntk_f hn hf0).1 hf
  have h9 := inv_F hI (z := u.2.2.1 109 29) 0 1000 rfl rfl
  unfold In at h9
  refine ⟨by rw [b2]; omega, fun a ha => ?_⟩
  rw [b1, b2]
  refine cs_bad (c4_i hC) ha (by omega) (a2 a ha) ht ?_
  have h8 := (cmK_r (c := y2.toInt - 97) (i := y3.toInt.toNat + 1)).2.1
  omega
end HQ
end
section
/-! THE K-TH ARC OF A NODE -/
def ARE (g : GVW) (w : Int) (p : Nat) : Int := if w = 0 then gF g.2.1 p else gG g.2.1 g.2.2.1 p
def ARS (E : Nat → Int) (v k z : Int) : Prop := (∃ p : Nat, p < 160 ∧ E p = v ∧ cn E v p = k ∧ z = (p : Int)) ∨ (cn E v 160 ≤ k ∧ z = -1)
theorem are_no {g : GVW} {w : Int} {p : Nat} (h : (g.2.1 p).toInt = -1) : ARE g w p = -1 := by
  unfold ARE gF gG
  split
  · split
    · exact h
    · rfl
  · rw [if_neg (fun z => z.2 h)]
theorem are_f {g : GVW} {w : Int} {p : Nat} (hp : p < 160) (hw : w = 0) : ARE g w p = (g.2.1 p).toInt := by
  unfold ARE gF
  rw [if_pos hw, if_pos hp]
theorem are_t {g : GVW} {w : Int} {p : Nat} (hp : p < 160) (h : (g.2.1 p).toInt ≠ -1) (hw : w ≠ 0) : ARE g w p = (g.2.2.1 p).toInt := by
  unfold ARE gG
  rw [if_neg hw, if_pos ⟨hp, h⟩]
theorem are_e {g h : GVW} (q : GEW g h) {w : Int} {j : Nat} (hj : j < 160) : ARE g w j = ARE h w j := by
  have e := q.2.1 j hj
  by_cases c : (g.2.1 j).toInt = -1
  · rw [are_no c, are_no (by rw [← e]; exact c)]
  · by_cases z : w = 0
    · rw [are_f hj z, are_f hj z, e]
    · rw [are_t hj c z, are_t hj (by rw [← e]; exact c) z, (q.2.2.1 j hj c).1]
theorem cn_eq {E F : Nat → Int} {v : Int} : ∀ n : Nat, (∀ j, j < n → E j = F j) → cn E v n = cn F v n
  | 0, _ => rfl
  | n + 1, h => by
    have i := cn_eq (v := v) n (fun j hj => h j (by omega))
    by_cases c : E n = v
    · rw [cn_hit c, cn_hit ((h n (by omega)).symm.trans c), i]
    · rw [cn_miss c, cn_miss (fun z => c ((h n (by omega)).trans z)), i]
theorem ars_u {E F : Nat → Int} {v k z z2 : Int} (he : ∀ j, j < 160 → E j = F j) (h1 : ARS E v k z) (h2 : ARS F v k z2) : z = z2 := by
  have ce : ∀ n, n ≤ 160 → cn E v n = cn F v n := fun n hn => cn_eq n (fun j hj => he j (by omega))
  rcases h1 with ⟨p, a1, a2, a3, a4⟩ | ⟨a1, a2⟩ <;> rcases h2 with ⟨q, b1, b2, b3, b4⟩ | ⟨b1, b2⟩
  · have b2' : E q = v := (he q b1).trans b2
    rw [← ce q (by omega)] at b3
    rcases Nat.lt_trichotomy p q with c | c | c
    · have m := cn_mono E v (show p + 1 ≤ q by omega)
      rw [cn_hit a2] at m; omega
    · omega
    · have m := cn_mono E v (show q + 1 ≤ p by omega)
      rw [cn_hit b2'] at m; omega
  · have m := cn_mono E v (show p + 1 ≤ 160 by omega)
    rw [cn_hit a2] at m
    rw [← ce 160 (Nat.le_refl _)] at b1
    omega
  · have b2' : E q = v := (he q b1).trans b2
    have m := cn_mono E v (show q + 1 ≤ 160 by omega)
    rw [cn_hit b2'] at m
    rw [← ce q (by omega)] at b3
    omega
  · omega
theorem cn_top {F : Nat → Int} {u : Int} {T : Nat} (hu : 0 ≤ u) (hQ : ∀ p, T ≤ p → p < 160 → F p = -1) : ∀ k : Nat, T + k ≤ 160 → cn F u (T + k) = cn F u T
  | 0, _ => rfl
  | k + 1, h => by
    have e : F (T + k) ≠ u := by rw [hQ _ (by omega) (by omega)]; omega
    show cn F u (T + k + 1) = _
    rw [cn_miss e]
    exact cn_top hu hQ k (by omega)
theorem ars_k {F : Nat → Int} {T : Nat} {oa os : Nat → Int32} (h160 : T ≤ 160) (hQ : ∀ p, T ≤ p → p < 160 → F p = -1) (hA : ∀ v, v ≤ 32 → (oa v).toInt = pr F T v) (hO : RWS F T os 0) {x1 x3 a0 a1 : Int32} (i1 : In x1 0 31) (k0 : 0 ≤ x3.toInt) (h0 : a0 = oa x1.toNatClampNeg) (h1 : a1 = oa (x1.toInt + 1).toNat) : (a1.toInt - a0.toInt ≤ x3.toInt → ARS F x1.toInt x3.toInt (-1)) ∧ (x3.toInt < a1.toInt - a0.toInt → ∀ z : Int32, z = os (a0.toInt + x3.toInt).toNat → ARS F x1.toInt x3.toInt z.toInt) := by
  obtain ⟨v, hv⟩ : ∃ v : Nat, x1.toInt = (v : Int) := ⟨x1.toInt.toNat, by have := i1.1; omega⟩
  have e0 : x1.toNatClampNeg = v := by show x1.toInt.toNat = v; omega
  have e1 : (x1.toInt + 1).toNat = v + 1 := by omega
  have hv31 : v ≤ 31 := by have := i1.2; omega
  rw [e0] at h0
  rw [e1] at h1
  have q0 := hA v (by omega)
  have q1 := hA (v + 1) (by omega)
  rw [← h0] at q0
  rw [← h1] at q1
  have e2 : pr F T (v + 1) = pr F T v + cn F (v : Int) T := rfl
  have ct := cn_top (u := (v : Int)) (Int.natCast_nonneg v) hQ (160 - T) (by omega)
  rw [show T + (160 - T) = 160 by omega] at ct
  rw [hv]
  refine ⟨fun h => Or.inr ⟨by omega, rfl⟩, fun h z hz => ?_⟩
  obtain ⟨p, a, b, c⟩ := cn_ex k0 (n := T) (F := F) (u := (v : Int)) (by omega)
  have o := hO p v (Nat.zero_le _) a (by omega) b
  rw [c, ← q0, ← hz] at o
  exact Or.inl ⟨p, by omega, b, c, o⟩
theorem gf_top {fr : Nat → Int32} {T : Nat} (hq : ∀ p, p < 160 → (fr p).toInt ≠ -1 → (p : Int) < (T : Int)) : ∀ p, T ≤ p → p < 160 → gF fr p = -1 := by
  intro p h1 h2
  unfold gF
  rw [if_pos h2]
  exact Classical.byContradiction fun hn => by have := hq p h2 hn; omega
theorem gg_top {fr tt : Nat → Int32} {T : Nat} (hq : ∀ p, p < 160 → (fr p).toInt ≠ -1 → (p : Int) < (T : Int)) : ∀ p, T ≤ p → p < 160 → gG fr tt p = -1 := by
  intro p h1 h2
  unfold gG
  exact if_neg (fun z => by have := hq p h2 z.2; omega)
/-- the rows of the graph in cell 2, when it is tied -/
theorem tg_2 {t : GS} (hI : Inv t) (hv : (t.2.2.1 2 4).toInt = (t.2.2.1 2 0).toInt) : TG (t.1 4) (t.1 5) (t.1 9) (t.1 10) (t.1 11) (t.1 12) (t.1 13) (t.1 14) (t.1 15) (t.2.2.1 2 3).toInt.toNat := by
  have h := hI.2.1
  unfold KG at h
  rw [mI_at rfl, mI_at rfl, mI_at rfl, mI_at rfl, mI_at rfl, mI_at rfl, mI_at rfl, mI_at rfl, mI_at rfl, mF_at rfl, mF_at rfl, mF_at rfl] at h
  exact h.2 hv
theorem ars_2_0 {s t : GS} {L : FM} (hI : Inv t) (hF : Fr L s t) (q4 : qI L.1 4 = true) (q5 : qI L.1 5 = true) (q3 : qF L.2.2.1 2 3 = true) (hv : (t.2.2.1 2 4).toInt = (t.2.2.1 2 0).toInt) (hq : TQ s) {x1 x3 a0 a1 : Int32} (i1 : In x1 0 31) (k0 : 0 ≤ x3.toInt) (h0 : a0 = t.1 12 x1.toNatClampNeg) (h1 : a1 = t.1 12 (x1.toInt + 1).toNat) : (a1.toInt - a0.toInt ≤ x3.toInt → ARS (ARE (gvC s) 0) x1.toInt x3.toInt (-1)) ∧ (x3.toInt < a1.toInt - a0.toInt → ∀ z : Int32, z = t.1 13 (a0.toInt + x3.toInt).toNat → ARS (ARE (gvC s) 0) x1.toInt x3.toInt z.toInt) := by
  have h := tg_2 hI hv
  rw [hF.1 4 q4, hF.1 5 q5, hF.2.2.1 2 3 q3] at h
  have i3 : In (s.2.2.1 2 3) 0 160 := by rw [← hF.2.2.1 2 3 q3]; exact inv_F hI 0 160 rfl rfl
  have i30 := i3.1
  have i31 := i3.2
  have eE : ARE (gvC s) 0 = gF (s.1 4) := by
    funext p
    exact if_pos rfl
  rw [eE]
  exact ars_k (by omega) (gf_top (fun p hp hn => by have := hq p hp hn; omega)) (fun v hv => (h.1 v hv).1) h.2.1 i1 k0 h0 h1
theorem ars_2_1 {s t : GS} {L : FM} (hI : Inv t) (hF : Fr L s t) (q4 : qI L.1 4 = true) (q5 : qI L.1 5 = true) (q3 : qF L.2.2.1 2 3 = true) (hv : (t.2.2.1 2 4).toInt = (t.2.2.1 2 0).toInt) (hq : TQ s) {x1 x3 a0 a1 : Int32} (i1 : In x1 0 31) (k0 : 0 ≤ x3.toInt) (h0 : a0 = t.1 14 x1.toNatClampNeg) (h1 : a1 = t.1 14 (x1.toInt + 1).toNat) : (a1.toInt - a0.toInt ≤ x3.toInt → ARS (ARE (gvC s) 1) x1.toInt x3.toInt (-1)) ∧ (x3.toInt < a1.toInt - a0.toInt → ∀ z : Int32, z = t.1 15 (a0.toInt + x3.toInt).toNat → ARS (ARE (gvC s) 1) x1.toInt x3.toInt z.toInt) := by
  have h := tg_2 hI hv
  rw [hF.1 4 q4, hF.1 5 q5, hF.2.2.1 2 3 q3] at h
  have i3 : In (s.2.2.1 2 3) 0 160 := by rw [← hF.2.2.1 2 3 q3]; exact inv_F hI 0 160 rfl rfl
  have i30 := i3.1
  have i31 := i3.2
  have eE : ARE (gvC s) 1 = gG (s.1 4) (s.1 5) := by
    funext p
    exact if_neg (by decide)
  rw [eE]
  exact ars_k (by omega) (gg_top (fun p hp hn => by have := hq p hp hn; omega)) (fun v hv => (h.1 v hv).2) h.2.2.1 i1 k0 h0 h1
/-- the rows of the graph in cell 32, when it is tied -/
theorem tg_32 {t : GS} (hI : Inv t) (hv : (t.2.2.1 32 4).toInt = (t.2.2.1 32 0).toInt) : TG (t.1 34) (t.1 35) (t.1 39) (t.1 40) (t.1 41) (t.1 42) (t.1 43) (t.1 44) (t.1 45) (t.2.2.1 32 3).toInt.toNat := by
  have h := hI.2.2.1
  unfold KG at h
  rw [mI_at rfl, mI_at rfl, mI_at rfl, mI_at rfl, mI_at rfl, mI_at rfl, mI_at rfl, mI_at rfl, mI_at rfl, mF_at rfl, mF_at rfl, mF_at rfl] at h
  exact h.2 hv
theorem ars_32_0 {s t : GS} {L : FM} (hI : Inv t) (hF : Fr L s t) (q4 : qI L.1 34 = true) (q5 : qI L.1 35 = true) (q3 : qF L.2.2.1 32 3 = true) (hv : (t.2.2.1 32 4).toInt = (t.2.2.1 32 0).toInt) (hq : TQD s) {x1 x3 a0 a1 : Int32} (i1 : In x1 0 31) (k0 : 0 ≤ x3.toInt) (h0 : a0 = t.1 42 x1.toNatClampNeg) (h1 : a1 = t.1 42 (x1.toInt + 1).toNat) : (a1.toInt - a0.toInt ≤ x3.toInt → ARS (ARE (gvD s) 0) x1.toInt x3.toInt (-1)) ∧ (x3.toInt < a1.toInt - a0.toInt → ∀ z : Int32, z = t.1 43 (a0.toInt + x3.toInt).toNat → ARS (ARE (gvD s) 0) x1.toInt x3.toInt z.toInt) := by
  have h := tg_32 hI hv
  rw [hF.1 34 q4, hF.1 35 q5, hF.2.2.1 32 3 q3] at h
  have i3 : In (s.2.2.1 32 3) 0 160 := by rw [← hF.2.2.1 32 3 q3]; exact inv_F hI 0 160 rfl rfl
  have i30 := i3.1
  have i31 := i3.2
  have eE : ARE (gvD s) 0 = gF (s.1 34) := by
    funext p
    exact if_pos rfl
  rw [eE]
  exact ars_k (by omega) (gf_top (fun p hp hn => by have := hq p hp hn; omega)) (fun v hv => (h.1 v hv).1) h.2.1 i1 k0 h0 h1
theorem ars_32_1 {s t : GS} {L : FM} (hI : Inv t) (hF : Fr L s t) (q4 : qI L.1 34 = true) (q5 : qI L.1 35 = true) (q3 : qF L.2.2.1 32 3 = true) (hv : (t.2.2.1 32 4).toInt = (t.2.2.1 32 0).toInt) (hq : TQD s) {x1 x3 a0 a1 : Int32} (i1 : In x1 0 31) (k0 : 0 ≤ x3.toInt) (h0 : a0 = t.1 44 x1.toNatClampNeg) (h1 : a1 = t.1 44 (x1.toInt + 1).toNat) : (a1.toInt - a0.toInt ≤ x3.toInt → ARS (ARE (gvD s) 1) x1.toInt x3.toInt (-1)) ∧ (x3.toInt < a1.toInt - a0.toInt → ∀ z : Int32, z = t.1 45 (a0.toInt + x3.toInt).toNat → ARS (ARE (gvD s) 1) x1.toInt x3.toInt z.toInt) := by
  have h := tg_32 hI hv
  rw [hF.1 34 q4, hF.1 35 q5, hF.2.2.1 32 3 q3] at h
  have i3 : In (s.2.2.1 32 3) 0 160 := by rw [← hF.2.2.1 32 3 q3]; exact inv_F hI 0 160 rfl rfl
  have i30 := i3.1
  have i31 := i3.2
  have eE : ARE (gvD s) 1 = gG (s.1 34) (s.1 35) := by
    funext p
    exact if_neg (by decide)
  rw [eE]
  exact ars_k (by omega) (gg_top (fun p hp hn => by have := hq p hp hn; omega)) (fun v hv => (h.1 v hv).2) h.2.2.1 i1 k0 h0 h1
def ARR (s t : GS) (x y k z : Int32) : Prop := ((t.2.2.1 109 0).toInt = 1 ∧ ¬ (0 ≤ x.toInt ∧ x.toInt < (s.2.2.1 109 20).toInt ∧ In y 0 1 ∧ 0 ≤ k.toInt)) ∨ ((t.2.2.1 109 0).toInt = 0 ∧ (0 ≤ x.toInt ∧ x.toInt < (s.2.2.1 109 20).toInt ∧ In y 0 1 ∧ 0 ≤ k.toInt) ∧ ARS (ARE (gvG s (s.2.2.1 109 18).toNatClampNeg) y.toInt) x.toInt k.toInt z.toInt)
theorem ar_miss {E : Nat → Int} {v c : Int} {p : Nat} (h : c = cn E v p) (hE : E p ≠ v) : c = cn E v (p + 1) := by rw [cn_miss hE]; exact h
theorem ar_hit {E : Nat → Int} {v c d : Int} {p : Nat} (h : c = cn E v p) (hE : E p = v) (hd : d = c + 1) : d = cn E v (p + 1) := by rw [cn_hit hE, ← h]; exact hd
end
section
/-! WHICH NODE REACHES WHICH -/
theorem low_min {x : Int32} {k j : Nat} (h : lowB x k) (hk : k < 32) (hj : bt x j = true) : k ≤ j := by
  refine Classical.byContradiction fun c => ?_
  have e : (x &&& -x).toBitVec.getLsbD k = (Int32.ofBitVec (BitVec.twoPow 32 k)).toBitVec.getLsbD k := by
    unfold lowB at h
    rw [h]
  rw [show (x &&& -x).toBitVec = x.toBitVec &&& -x.toBitVec from rfl, show (Int32.ofBitVec (BitVec.twoPow 32 k)).toBitVec = BitVec.twoPow 32 k from rfl, BitVec.getLsbD_and, BitVec.getLsbD_neg, BitVec.getLsbD_twoPow] at e
  have hex : ∃ i, i < k ∧ x.toBitVec.getLsbD i = true := ⟨j, by omega, hj⟩
  cases hx : x.toBitVec.getLsbD k <;> simp [hx, hex, hk] at e
theorem cbf_or {f g h : Nat → Bool} : ∀ n, (∀ k, k < n → h k = (f k || g k)) → (∀ k, k < n → f k = true → g k = false) → cbf h n = cbf f n + cbf g n
  | 0, _, _ => rfl
  | n + 1, h1, h2 => by
    have i := cbf_or n (fun k hk => h1 k (by omega)) (fun k hk => h2 k (by omega))
    show cbf h n + (h n).toNat = cbf f n + (f n).toNat + (cbf g n + (g n).toNat)
    have a := h1 n (by omega)
    have b := h2 n (by omega)
    rw [i, a]
    cases ef : f n
    · show _ + (g n).toNat = _ + 0 + _
      omega
    · rw [b ef]
      show _ + 1 = _ + 1 + (_ + 0)
      omega
theorem cb_or {x y z : Int32} (e : z = x ||| y) (h : ∀ k, bt x k = true → bt y k = false) : cb z = cb x + cb y := cbf_or 32 (fun k _ => bt_or e) (fun k _ => h k)
theorem cb_pos {x : Int32} {k : Nat} (h : bt x k = true) : 1 ≤ cb x := by
  have q := cbf_clr (f := bt x) (g := fun j => bt x j && !(decide (j = k))) (u := k) h (by show (bt x k && !(decide (k = k))) = false; simp) (n := 32) (bt_lt h) (fun j _ hne => by show (bt x j && !(decide (j = k))) = _; simp [hne])
  unfold cb
  omega
def FEQ (r : Nat → Int32) (al : Int32) (u w : Nat) : Prop := u < 32 ∧ bt (r u) w = true ∧ bt al w = true
/-- what is reached from the seed -/
def FLD (r : Nat → Int32) (seed al z : Int32) : Prop := ∀ w : Nat, bt z w = true ↔ ∃ x : Nat, bt seed x = true ∧ wlq (FEQ r al) x w
def FLI (r : Nat → Int32) (seed al seen todo : Int32) (i : Int) : Prop := (∀ w : Nat, bt seen w = true → ∃ x : Nat, bt seed x = true ∧ wlq (FEQ r al) x w) ∧ (∀ w : Nat, bt seed w = true → bt seen w = true) ∧ (∀ w : Nat, bt todo w = true → bt seen w = true) ∧ (∀ u w : Nat, bt seen u = true → bt todo u = false → FEQ r al u w → bt seen w = true) ∧ (cb seen : Int) = i + (cb todo : Int)
theorem fli_0 {r : Nat → Int32} {seed al : Int32} {i : Int} (hi : i = 0) : FLI r seed al seed seed i := ⟨fun w h => ⟨w, h, wl_0⟩, fun _ h => h, fun _ h => h, fun u w h1 h2 _ => (by rw [h1] at h2; cases h2), by rw [hi]; omega⟩
theorem fli_s {r : Nat → Int32} {seed al seen todo k z26 z28 z31 z32 z40 z41 z48 z54 : Int32} {i j : Int} (h : FLI r seed al seen todo i) (ik : In k 0 31) (hb : bt todo k.toNatClampNeg = true) (hl : lowB todo k.toNatClampNeg) (e26 : z26 = r k.toNatClampNeg) (e28 : z28 = z26 &&& al) (e31 : z31 = seen ^^^ Int32.ofInt (-1)) (e32 : z32 = z28 &&& z31) (e40 : z40 = todo - Int32.ofInt 1) (e41 : z41 = todo &&& z40) (e48 : z48 = z41 ||| z32) (e54 : z54 = seen ||| z32) (hj : j = i + 1) : FLI r seed al z54 z48 j := by
  obtain ⟨h1, h2, h3, h4, h5⟩ := h
  have k31 : k.toNatClampNeg < 32 := by
    show k.toInt.toNat < 32
    have := ik.2
    omega
  have c41 : ∀ j, bt z41 j = (bt todo j && !(decide (j = k.toNatClampNeg))) := fun j => lowB_clr hl e40 e41
  have a32 : ∀ w, bt z32 w = true → bt seen w = false := fun w q => bt_andn e31 e32 q
  have f32 : ∀ w, bt z32 w = true → FEQ r al k.toNatClampNeg w := fun w q => by
    have q1 := bt_and1 e32 q
    have q2 := bt_and1 e28 q1
    rw [e26] at q2
    exact ⟨k31, q2, bt_and2 e28 q1⟩
  have s54 : ∀ w, bt z54 w = true → bt seen w = true ∨ bt z32 w = true := fun w q => by
    rw [bt_or e54] at q
    exact (Bool.or_eq_true _ _).mp q
  refine ⟨fun w q => ?_, fun w q => bt_orl e54 (h2 w q), fun w q => ?_, fun u w q1 q2 q3 => ?_, ?_⟩
  · rcases s54 w q with q | q
    · exact h1 w q
    · obtain ⟨x, hx, hw⟩ := h1 _ (h3 _ hb)
      exact ⟨x, hx, wl_tr hw (wl_1 (f32 w q))⟩
  · rw [bt_or e48] at q
    rcases (Bool.or_eq_true _ _).mp q with q | q
    · rw [c41 w] at q
      exact bt_orl e54 (h3 w ((Bool.and_eq_true _ _).mp q).1)
    · exact bt_orr e54 q
  · rw [bt_or e48] at q2
    obtain ⟨q4, q5⟩ := (Bool.or_eq_false_iff).mp q2
    have q6 : bt seen u = true := by
      rcases s54 u q1 with q | q
      · exact q
      · rw [q5] at q; cases q
    by_cases c : bt todo u = true
    · have eu : u = k.toNatClampNeg := by
        refine Classical.byContradiction fun hne => ?_
        rw [c41 u, c] at q4
        simp [hne] at q4
      rw [eu] at q3
      cases hs : bt seen w with
      | true => exact bt_orl e54 hs
      | false =>
        refine bt_orr e54 ?_
        have hw : w < 32 := bt_lt q3.2.1
        rw [bt_and e32, bt_and e28, e26, q3.2.1, q3.2.2, bt_not e31 hw, hs]
        rfl
    · have c2 : bt todo u = false := by
        cases e : bt todo u with
        | true => exact absurd e c
        | false => rfl
      exact bt_orl e54 (h4 u w q6 c2 q3)
  · have n1 := cb_or e54 (fun w q => by
      cases e : bt z32 w with
      | true => rw [a32 w e] at q; cases q
      | false => rfl)
    have n2 := cb_or e48 (fun w q => by
      cases e : bt z32 w with
      | true =>
        rw [c41 w] at q
        have q7 := h3 w ((Bool.and_eq_true _ _).mp q).1
        rw [a32 w e] at q7; cases q7
      | false => rfl)
    have n3 : cb z41 + 1 = cb todo := cbf_clr hb (by rw [c41]; simp) k31 (fun j _ hne => by rw [c41]; simp [hne])
    omega
theorem fli_e {r : Nat → Int32} {seed al seen todo : Int32} {i : Int} (h : FLI r seed al seen todo i) (ht : todo.toInt = 0 ∨ 32 ≤ i) : FLD r seed al seen := by
  obtain ⟨h1, h2, h3, h4, h5⟩ := h
  have c32 := cb_le seen
  have tz : ∀ u, bt todo u = false := fun u => by
    cases e : bt todo u with
    | false => rfl
    | true =>
      exfalso
      have p := cb_pos e
      rcases ht with q | q
      · exact bt_nz e q
      · omega
  have go : ∀ (j x w : Nat), bt seen x = true → wkq (FEQ r al) j x w → bt seen w = true := by
    intro j
    induction j with
    | zero => intro x w hx hw; rw [← (show x = w from hw)]; exact hx
    | succ j ih =>
      intro x w hx hw
      obtain ⟨y, hy, hw⟩ := hw
      exact ih y w (h4 x y hx (tz x) hy) hw
  intro w
  refine ⟨h1 w, fun ⟨x, hx, j, hj⟩ => go j x w (h2 x hx) hj⟩
theorem fld_1 {r : Nat → Int32} {seed al z v : Int32} (h : FLD r seed al z) (e : seed = Int32.ofInt 1 <<< (v &&& 31)) (hv : In v 0 31) (w : Nat) : bt z w = true ↔ wlq (FEQ r al) v.toNatClampNeg w := by
  rw [h w]
  constructor
  · rintro ⟨x, hx, hw⟩
    rw [bt_one e hv] at hx
    rw [← of_decide_eq_true hx]
    exact hw
  · intro hw
    exact ⟨_, by rw [bt_one e hv]; exact decide_eq_true rfl, hw⟩
/-! arcs as they are seen -/
def AJG (g : GVW) (u w : Nat) : Prop := ∃ p : Nat, p < 160 ∧ ARE g 0 p = (u : Int) ∧ ARE g 1 p = (w : Int)
def PE (g : GVW) (w : Int) (a b : Nat) : Prop := AJG g a b ∨ (w ≠ 0 ∧ AJG g b a)
theorem ajg_e {g h : GVW} (q : GEW g h) : AJG g = AJG h := by
  funext u w
  refine propext ⟨fun ⟨p, a, b, c⟩ => ⟨p, a, by rw [← are_e q a]; exact b, by rw [← are_e q a]; exact c⟩, fun ⟨p, a, b, c⟩ => ⟨p, a, by rw [are_e q a]; exact b, by rw [are_e q a]; exact c⟩⟩
theorem wl_mono {E F : Nat → Nat → Prop} (h : ∀ u w, E u w → F u w) {u w : Nat} (q : wlq E u w) : wlq F u w := by
  obtain ⟨j, hj⟩ := q
  refine ⟨j, ?_⟩
  revert u
  induction j with
  | zero => intro u hj; exact hj
  | succ j ih =>
    intro u hj
    obtain ⟨x, hx, hw⟩ := hj
    exact ⟨x, h u x hx, ih hw⟩
theorem wl_rev {E : Nat → Nat → Prop} {u w : Nat} (q : wlq E u w) : wlq (fun a b => E b a) w u := by
  obtain ⟨j, hj⟩ := q
  revert u
  induction j with
  | zero => intro u hj; rw [show u = w from hj]; exact wl_0
  | succ j ih =>
    intro u hj
    obtain ⟨x, hx, hw⟩ := hj
    exact wl_tr (ih hw) (wl_1 (E := fun a b => E b a) hx)
theorem wl_loop {E : Nat → Nat → Prop} {u w : Nat} (q : wlq E u w) : wlq (fun a b => a ≠ b ∧ E a b) u w := by
  obtain ⟨j, hj⟩ := q
  revert u
  induction j with
  | zero => intro u hj; rw [show u = w from hj]; exact wl_0
  | succ j ih =>
    intro u hj
    obtain ⟨x, hx, hw⟩ := hj
    by_cases c : u = x
    · rw [c]; exact ih hw
    · exact wl_tr (wl_1 (E := fun a b => a ≠ b ∧ E a b) ⟨c, hx⟩) (ih hw)
theorem wl_iff {E F : Nat → Nat → Prop} (h : ∀ u w, E u w ↔ F u w) {u w : Nat} : wlq E u w ↔ wlq F u w := ⟨wl_mono (fun a b => (h a b).mp), wl_mono (fun a b => (h a b).mpr)⟩
theorem fe_all {fr tt ne ou nn : Nat → Int32} {T : Nat} {g : GVW} (hM : MSK fr tt ne ou nn T) (hT : T ≤ 160) (hg0 : ∀ p, ARE g 0 p = gF fr p) (hg1 : ∀ p, ARE g 1 p = gG fr tt p) (hq : ∀ p, T ≤ p → p < 160 → gF fr p = -1) (hr : ∀ p, p < 160 → (fr p).toInt ≤ 31 ∧ (tt p).toInt ≤ 31) : (∀ u w, FEQ ou (Int32.ofInt (-1)) u w ↔ AJG g u w) ∧ (∀ u w, FEQ nn (Int32.ofInt (-1)) u w ↔ AJG g w u) ∧ ∀ u w, FEQ ne (Int32.ofInt (-1)) u w ↔ (u ≠ w ∧ PE g 1 u w) := by
  have aj : ∀ u w, AJ fr tt T u w ↔ AJG g u w := fun u w => by
    constructor
    · rintro ⟨p, a, b, c⟩
      exact ⟨p, by omega, by rw [hg0]; exact b, by rw [hg1]; exact c⟩
    · rintro ⟨p, a, b, c⟩
      rw [hg0] at b
      rw [hg1] at c
      refine ⟨p, Classical.byContradiction fun z => ?_, b, c⟩
      have := hq p (by omega) a
      omega
  have lt : ∀ u w, AJG g u w → u < 32 ∧ w < 32 := fun u w => by
    rintro ⟨p, a, b, c⟩
    rw [hg0] at b
    rw [hg1] at c
    obtain ⟨r1, r2⟩ := hr p a
    unfold gF at b
    rw [if_pos a] at b
    unfold gG at c
    split at c
    · omega
    · omega
  refine ⟨fun u w => ⟨fun h => ?_, fun h => ?_⟩, fun u w => ⟨fun h => ?_, fun h => ?_⟩, fun u w => ⟨fun h => ?_, fun h => ?_⟩⟩
  · exact (aj u w).mp ((hM u w h.1 (bt_lt h.2.1)).1.mp h.2.1)
  · obtain ⟨a, b⟩ := lt u w h
    exact ⟨a, (hM u w a b).1.mpr ((aj u w).mpr h), bt_m1 b⟩
  · exact (aj w u).mp ((hM w u (bt_lt h.2.1) h.1).2.1.mp h.2.1)
  · obtain ⟨a, b⟩ := lt w u h
    exact ⟨b, (hM w u a b).2.1.mpr ((aj w u).mpr h), bt_m1 a⟩
  · obtain ⟨a, b⟩ := (hM u w h.1 (bt_lt h.2.1)).2.2.mp h.2.1
    exact ⟨a, b.elim (fun q => Or.inl ((aj u w).mp q)) (fun q => Or.inr ⟨by decide, (aj w u).mp q⟩)⟩
  · have ab : u < 32 ∧ w < 32 := by
      rcases h.2 with q | q
      · exact lt u w q
      · exact ⟨(lt w u q.2).2, (lt w u q.2).1⟩
    refine ⟨ab.1, (hM u w ab.1 ab.2).2.2.mpr ⟨h.1, ?_⟩, bt_m1 ab.2⟩
    exact h.2.elim (fun q => Or.inl ((aj u w).mpr q)) (fun q => Or.inr ((aj w u).mpr q.2))
/-! parts -/
def PEQ (g : GVW) (w : Int) (v j : Nat) : Prop := wlq (PE g w) v j ∧ wlq (PE g w) j v
/-- the least node of v's part -/
def PSP (g : GVW) (w : Int) (v : Nat) (z : Int) : Prop := ∃ j : Nat, z = (j : Int) ∧ PEQ g w v j ∧ ∀ i : Nat, i < j → ¬ PEQ g w v i
theorem psp_u {g h : GVW} (q : GEW g h) {w : Int} {v : Nat} {y z : Int} (h1 : PSP g w v y) (h2 : PSP h w v z) : y = z := by
  have e : PE h w = PE g w := by
    funext a b
    unfold PE
    rw [ajg_e q]
  obtain ⟨j, a1, a2, a3⟩ := h1
  obtain ⟨k, b1, b2, b3⟩ := h2
  unfold PEQ at a2 a3 b2 b3
  rw [e] at b2 b3
  rcases Nat.lt_trichotomy j k with c | c | c
  · exact absurd a2 (b3 j c)
  · omega
  · exact absurd b2 (a3 k c)
theorem pe_sym {g : GVW} {u w : Nat} (h : wlq (PE g 1) u w) : wlq (PE g 1) w u := wl_mono (fun a b q => by
  rcases q with q | q
  · exact Or.inr ⟨by decide, q⟩
  · exact Or.inl q.2) (wl_rev h)
theorem pex_0 {g : GVW} : ∀ u w, AJG g u w ↔ PE g 0 u w := fun u w => ⟨Or.inl, fun h => h.elim id (fun q => absurd rfl q.1)⟩
theorem psp_low {g : GVW} {w : Int} {v : Nat} {x z : Int32} (hx : ∀ j : Nat, bt x j = true ↔ PEQ g w v j) (hl : x.toInt ≠ 0 → In z 0 31 ∧ bt x z.toNatClampNeg = true ∧ lowB x z.toNatClampNeg) : PSP g w v z.toInt := by
  have hv : bt x v = true := (hx v).mpr ⟨wl_0, wl_0⟩
  obtain ⟨i, b, l⟩ := hl (bt_nz hv)
  have ez : (z.toNatClampNeg : Int) = z.toInt := by
    show ((z.toInt.toNat : Nat) : Int) = _
    have := i.1
    omega
  refine ⟨z.toNatClampNeg, ez.symm, (hx _).mp b, fun j hj q => ?_⟩
  have := low_min l (by have := i.2; omega) ((hx j).mpr q)
  omega
theorem fe_2 {s t : GS} {L : FM} (hI : Inv t) (hF : Fr L s t) (q4 : qI L.1 4 = true) (q5 : qI L.1 5 = true) (q3 : qF L.2.2.1 2 3 = true) (hv : (t.2.2.1 2 4).toInt = (t.2.2.1 2 0).toInt) (hq : TQ s) : (∀ u w, FEQ (t.1 10) (Int32.ofInt (-1)) u w ↔ AJG (gvC s) u w) ∧ (∀ u w, FEQ (t.1 11) (Int32.ofInt (-1)) u w ↔ AJG (gvC s) w u) ∧ ∀ u w, FEQ (t.1 9) (Int32.ofInt (-1)) u w ↔ (u ≠ w ∧ PE (gvC s) 1 u w) := by
  have h := (tg_2 hI hv).2.2.2
  rw [hF.1 4 q4, hF.1 5 q5, hF.2.2.1 2 3 q3] at h
  have i3 : In (s.2.2.1 2 3) 0 160 := by rw [← hF.2.2.1 2 3 q3]; exact inv_F hI 0 160 rfl rfl
  have i30 := i3.1
  have i31 := i3.2
  refine fe_all h (by omega) (fun p => if_pos rfl) (fun p => if_neg (by decide)) (gf_top (fun p hp hn => by have := hq p hp hn; omega)) (fun p hp => ?_)
  have a := hI.1.1 4 p (Nat.lt_of_lt_of_le hp (Nat.le_of_ble_eq_true rfl))
  have c := hI.1.1 5 p (Nat.lt_of_lt_of_le hp (Nat.le_of_ble_eq_true rfl))
  rw [hF.1 4 q4] at a
  rw [hF.1 5 q5] at c
  exact ⟨a.2, c.2⟩
theorem psw_2 {s t : GS} {L : FM} (hI : Inv t) (hF : Fr L s t) (q4 : qI L.1 4 = true) (q5 : qI L.1 5 = true) (q3 : qF L.2.2.1 2 3 = true) (hv : (t.2.2.1 2 4).toInt = (t.2.2.1 2 0).toInt) (hq : TQ s) {x y f z : Int32} (i1 : In x 0 31) (e1 : y = Int32.ofInt 1 <<< (x &&& 31)) (hf : FLD (t.1 9) y (Int32.ofInt (-1)) f) (hl : f.toInt ≠ 0 → In z 0 31 ∧ bt f z.toNatClampNeg = true ∧ lowB f z.toNatClampNeg) : PSP (gvC s) 1 x.toNatClampNeg z.toInt := by
  have h := (fe_2 hI hF q4 q5 q3 hv hq).2.2
  refine psp_low (fun j => ?_) hl
  rw [fld_1 hf e1 i1 j, wl_iff h]
  constructor
  · intro q
    have q2 := wl_mono (F := PE (gvC s) 1) (fun a b q => q.2) q
    exact ⟨q2, pe_sym q2⟩
  · intro q
    exact wl_loop q.1
theorem pss_2 {s t : GS} {L : FM} (hI : Inv t) (hF : Fr L s t) (q4 : qI L.1 4 = true) (q5 : qI L.1 5 = true) (q3 : qF L.2.2.1 2 3 = true) (hv : (t.2.2.1 2 4).toInt = (t.2.2.1 2 0).toInt) (hq : TQ s) {x y y2 f f2 f3 z : Int32} (i1 : In x 0 31) (e1 : y = Int32.ofInt 1 <<< (x &&& 31)) (hf : FLD (t.1 10) y (Int32.ofInt (-1)) f) (e2 : y2 = Int32.ofInt 1 <<< (x &&& 31)) (hg : FLD (t.1 11) y2 (Int32.ofInt (-1)) f2) (e3 : f3 = f &&& f2) (hl : f3.toInt ≠ 0 → In z 0 31 ∧ bt f3 z.toNatClampNeg = true ∧ lowB f3 z.toNatClampNeg) : PSP (gvC s) 0 x.toNatClampNeg z.toInt := by
  obtain ⟨h1, h2, -⟩ := fe_2 hI hF q4 q5 q3 hv hq
  refine psp_low (fun j => ?_) hl
  rw [bt_and e3, Bool.and_eq_true, fld_1 hf e1 i1 j, fld_1 hg e2 i1 j, wl_iff h1, wl_iff h2]
  unfold PEQ
  rw [← wl_iff pex_0, ← wl_iff pex_0]
  exact ⟨fun q => ⟨q.1, wl_rev q.2⟩, fun q => ⟨q.1, wl_rev q.2⟩⟩
theorem fe_32 {s t : GS} {L : FM} (hI : Inv t) (hF : Fr L s t) (q4 : qI L.1 34 = true) (q5 : qI L.1 35 = true) (q3 : qF L.2.2.1 32 3 = true) (hv : (t.2.2.1 32 4).toInt = (t.2.2.1 32 0).toInt) (hq : TQD s) : (∀ u w, FEQ (t.1 40) (Int32.ofInt (-1)) u w ↔ AJG (gvD s) u w) ∧ (∀ u w, FEQ (t.1 41) (Int32.ofInt (-1)) u w ↔ AJG (gvD s) w u) ∧ ∀ u w, FEQ (t.1 39) (Int32.ofInt (-1)) u w ↔ (u ≠ w ∧ PE (gvD s) 1 u w) := by
  have h := (tg_32 hI hv).2.2.2
  rw [hF.1 34 q4, hF.1 35 q5, hF.2.2.1 32 3 q3] at h
  have i3 : In (s.2.2.1 32 3) 0 160 := by rw [← hF.2.2.1 32 3 q3]; exact inv_F hI 0 160 rfl rfl
  have i30 := i3.1
  have i31 := i3.2
  refine fe_all h (by omega) (fun p => if_pos rfl) (fun p => if_neg (by decide)) (gf_top (fun p hp hn => by have := hq p hp hn; omega)) (fun p hp => ?_)
  have a := hI.1.1 34 p (Nat.lt_of_lt_of_le hp (Nat.le_of_ble_eq_true rfl))
  have c := hI.1.1 35 p (Nat.lt_of_lt_of_le hp (Nat.le_of_ble_eq_true rfl))
  rw [hF.1 34 q4] at a
  rw [hF.1 35 q5] at c
  exact ⟨a.2, c.2⟩
theorem psw_32 {s t : GS} {L : FM} (hI : Inv t) (hF : Fr L s t) (q4 : qI L.1 34 = true) (q5 : qI L.1 35 = true) (q3 : qF L.2.2.1 32 3 = true) (hv : (t.2.2.1 32 4).toInt = (t.2.2.1 32 0).toInt) (hq : TQD s) {x y f z : Int32} (i1 : In x 0 31) (e1 : y = Int32.ofInt 1 <<< (x &&& 31)) (hf : FLD (t.1 39) y (Int32.ofInt (-1)) f) (hl : f.toInt ≠ 0 → In z 0 31 ∧ bt f z.toNatClampNeg = true ∧ lowB f z.toNatClampNeg) : PSP (gvD s) 1 x.toNatClampNeg z.toInt := by
  have h := (fe_32 hI hF q4 q5 q3 hv hq).2.2
  refine psp_low (fun j => ?_) hl
  rw [fld_1 hf e1 i1 j, wl_iff h]
  constructor
  · intro q
    have q2 := wl_mono (F := PE (gvD s) 1) (fun a b q => q.2) q
    exact ⟨q2, pe_sym q2⟩
  · intro q
    exact wl_loop q.1
theorem pss_32 {s t : GS} {L : FM} (hI : Inv t) (hF : Fr L s t) (q4 : qI L.1 34 = true) (q5 : qI L.1 35 = true) (q3 : qF L.2.2.1 32 3 = true) (hv : (t.2.2.1 32 4).toInt = (t.2.2.1 32 0).toInt) (hq : TQD s) {x y y2 f f2 f3 z : Int32} (i1 : In x 0 31) (e1 : y = Int32.ofInt 1 <<< (x &&& 31)) (hf : FLD (t.1 40) y (Int32.ofInt (-1)) f) (e2 : y2 = Int32.ofInt 1 <<< (x &&& 31)) (hg : FLD (t.1 41) y2 (Int32.ofInt (-1)) f2) (e3 : f3 = f &&& f2) (hl : f3.toInt ≠ 0 → In z 0 31 ∧ bt f3 z.toNatClampNeg = true ∧ lowB f3 z.toNatClampNeg) : PSP (gvD s) 0 x.toNatClampNeg z.toInt := by
  obtain ⟨h1, h2, -⟩ := fe_32 hI hF q4 q5 q3 hv hq
  refine psp_low (fun j => ?_) hl
  rw [bt_and e3, Bool.and_eq_true, fld_1 hf e1 i1 j, fld_1 hg e2 i1 j, wl_iff h1, wl_iff h2]
  unfold PEQ
  rw [← wl_iff pex_0, ← wl_iff pex_0]
  exact ⟨fun q => ⟨q.1, wl_rev q.2⟩, fun q => ⟨q.1, wl_rev q.2⟩⟩
/-! close (reference) -/
def CLA (s : GS) (x n : Int) (a : Nat) : Prop := (s.1 112 (bs s + a)).toInt ≠ 0 ∧ (a : Int) ≠ x ∧ (s.1 113 (bs s + a)).toInt ≠ n ∧ (s.1 114 (bs s + a)).toInt ≠ n
def CLE (s : GS) (w x n : Int) (u v : Nat) : Prop := ∃ a : Nat, a < 160 ∧ CLA s x n a ∧ (((s.1 113 (bs s + a)).toNatClampNeg = u ∧ (s.1 114 (bs s + a)).toNatClampNeg = v) ∨ (w ≠ 0 ∧ (s.1 114 (bs s + a)).toNatClampNeg = u ∧ (s.1 113 (bs s + a)).toNatClampNeg = v))
def CQ1 (s : GS) (w x n : Int) (f : Nat → Int32) (k : Nat) : Prop := (∀ u v : Nat, (u : Int) < nmx s → bt (f u) v = true → wlq (CLE s w x n) u v) ∧ ∀ a, a < k → CLA s x n a → bt (f (s.1 113 (bs s + a)).toNatClampNeg) (s.1 114 (bs s + a)).toNatClampNeg = true ∧ (w ≠ 0 → bt (f (s.1 114 (bs s + a)).toNatClampNeg) (s.1 113 (bs s + a)).toNatClampNeg = true)
section CLO
variable {s : GS} {w x n : Int} {f f0 : Nat → Int32} {k m : Nat}
theorem cq1_0 (h : ∀ u v : Nat, (u : Int) < nmx s → bt (f u) v = true → u = v) : CQ1 s w x n f 0 := ⟨fun u v hu hb => by rw [h u v hu hb]; exact wl_0, fun a ha => absurd ha (Nat.not_lt_zero _)⟩
theorem cq1_no (h : CQ1 s w x n f k) (hn : ¬ CLA s x n k) : CQ1 s w x n f (k + 1) := by
  refine ⟨h.1, fun a ha hc => ?_⟩
  by_cases c : a = k
  · rw [c] at hc; exact absurd hc hn
  · exact h.2 a (by omega) hc
theorem cq_row {u v : Nat} {z2 z3 : Int32} {W : Prop} (h2 : ∀ j, bt z2 j = true ↔ (bt (f u) j = true ∨ j = v)) (h3 : ∀ j, bt z3 j = true ↔ (bt (upd f u z2 v) j = true ∨ (W ∧ j = u))) : ∀ y j, bt (upd (upd f u z2) v z3 y) j = true ↔ (bt (f y) j = true ∨ (y = u ∧ j = v) ∨ (W ∧ y = v ∧ j = u)) := by
  intro y j
  have q : bt (upd f u z2 y) j = true ↔ (bt (f y) j = true ∨ (y = u ∧ j = v)) := by
    by_cases c : y = u
    · rw [c, up_e, h2]
      exact ⟨fun h => h.imp id (fun e => ⟨rfl, e⟩), fun h => h.imp id (fun e => e.2)⟩
    · rw [up_n c]
      exact ⟨Or.inl, fun h => h.elim id (fun e => absurd e.1 c)⟩
  by_cases c : y = v
  · rw [c] at q ⊢
    rw [up_e, h3, q]
    constructor
    · rintro ((h | h) | h)
      · exact Or.inl h
      · exact Or.inr (Or.inl h)
      · exact Or.inr (Or.inr ⟨h.1, rfl, h.2⟩)
    · rintro (h | h | h)
      · exact Or.inl (Or.inl h)
      · exact Or.inl (Or.inr h)
      · exact Or.inr ⟨h.1, h.2.2⟩
  · rw [up_n c, q]
    constructor
    · rintro (h | h)
      · exact Or.inl h
      · exact Or.inr (Or.inl h)
    · rintro (h | h | h)
      · exact Or.inl h
      · exact Or.inr h
      · exact absurd h.2.1 c
theorem cq1_st {u v z1 x1 z2 x2 z3 y3 : Int32} (h : CQ1 s w x n f k) (hk : k < 160) (ha : CLA s x n k) (hu : u = s.1 113 (bs s + k)) (hv : v = s.1 114 (bs s + k)) (hvr : In v 0 31) (e0 : x1 = f u.toNatClampNeg) (e1 : z1 = Int32.ofInt 1 <<< (v &&& 31)) (e2 : z2 = x1 ||| z1) (e3 : x2 = upd f u.toNatClampNeg z2 v.toNatClampNeg) (e4 : z3 = x2 ||| y3) (hy : ∀ j, bt y3 j = true ↔ (w ≠ 0 ∧ j = u.toNatClampNeg)) : CQ1 s w x n (upd (upd f u.toNatClampNeg z2) v.toNatClampNeg z3) (k + 1) := by
  have row := cq_row (f := f) (u := u.toNatClampNeg) (v := v.toNatClampNeg) (z2 := z2) (z3 := z3) (W := w ≠ 0) (fun j => by rw [bt_set e1 e2 hvr, Bool.or_eq_true, decide_eq_true_iff, e0]) (fun j => by rw [bt_or e4, Bool.or_eq_true, hy j, e3])
  refine ⟨fun y j hy0 hb => ?_, fun a hlt hc => ?_⟩
  · rcases (row y j).mp hb with q | ⟨q1, q2⟩ | ⟨q0, q1, q2⟩
    · exact h.1 y j hy0 q
    · rw [q1, q2]
      exact wl_1 ⟨k, hk, ha, Or.inl ⟨by rw [hu], by rw [hv]⟩⟩
    · rw [q1, q2]
      exact wl_1 ⟨k, hk, ha, Or.inr ⟨q0, by rw [hv], by rw [hu]⟩⟩
  · by_cases c : a = k
    · rw [c, ← hu, ← hv]
      exact ⟨(row _ _).mpr (Or.inr (Or.inl ⟨rfl, rfl⟩)), fun hw => (row _ _).mpr (Or.inr (Or.inr ⟨hw, rfl, rfl⟩))⟩
    · obtain ⟨p1, p2⟩ := h.2 a (by omega) hc
      exact ⟨(row _ _).mpr (Or.inl p1), fun hw => (row _ _).mpr (Or.inl (p2 hw))⟩
def CQ2 (s : GS) (w x n : Int) (f : Nat → Int32) (m : Nat) : Prop := CQ1 s w x n f 160 ∧ ∀ v u j : Nat, v < m → (u : Int) < nmx s → bt (f u) v = true → bt (f v) j = true → bt (f u) j = true
theorem cq2_s {c : Int} (hI : Inv s) (h : CQ2 s w x n f0 m) (h3 : RQ3 (nmx s) f0 f m c) (hc : nmx s ≤ c) (hm : (m : Int) < nmx s) : CQ2 s w x n f (m + 1) := by
  obtain ⟨⟨h1, h2⟩, ht⟩ := h
  have up : ∀ u j : Nat, (u : Int) < nmx s → bt (f0 u) j = true → bt (f u) j = true := fun u j hu hb => (h3 u j hu).mpr (Or.inl hb)
  refine ⟨⟨fun u j hu hb => ?_, fun a ha hth => ?_⟩, fun v u j hv hu b1 b2 => ?_⟩
  · rcases (h3 u j hu).mp hb with q | ⟨-, q1, q2⟩
    · exact h1 u j hu q
    · exact wl_tr (h1 u m hu q1) (h1 m j hm q2)
  · have hn := arc_n hI ha hth.1
    obtain ⟨p1, p2⟩ := h2 a ha hth
    exact ⟨up _ _ (nat_jn hn.1.1 hn.1.2).2 p1, fun hw => up _ _ (nat_jn hn.2.1.1 hn.2.1.2).2 (p2 hw)⟩
  · have hvn : (v : Int) < nmx s := by omega
    have p1 := (h3 u v hu).mp b1
    have p2 := (h3 v j hvn).mp b2
    refine (h3 u j hu).mpr ?_
    by_cases k : v = m
    · rw [k] at p1 p2
      have q1 : bt (f0 u) m = true := by
        rcases p1 with q | ⟨-, q, -⟩
        · exact q
        · exact q
      have q2 : bt (f0 m) j = true := by
        rcases p2 with q | ⟨-, -, q⟩
        · exact q
        · exact q
      exact Or.inr ⟨by omega, q1, q2⟩
    · have hvm : v < m := by omega
      rcases p1 with q | ⟨q0, q1, q2⟩ <;> rcases p2 with r | ⟨r0, r1, r2⟩
      · exact Or.inl (ht v u j hvm hu q r)
      · exact Or.inr ⟨by omega, ht v u m hvm hu q r1, r2⟩
      · exact Or.inr ⟨by omega, q1, ht v m j hvm hm q2 r⟩
      · exact Or.inr ⟨by omega, q1, r2⟩
end CLO
/-- what close leaves: who reaches whom -/
def CCQ (s : GS) (w x n : Int) (f : Nat → Int32) : Prop := ∀ u v : Nat, (u : Int) < nmx s → (u : Int) ≠ n → (bt (f u) v = true ↔ wlq (CLE s w x n) u v)
theorem ccq_e {s : GS} {w x n : Int} {f : Nat → Int32} {m : Nat} (hI : Inv s) (h : CQ2 s w x n f m) (hm : nmx s ≤ (m : Int)) (hs : ∀ j : Nat, ((j : Int) < nmx s ∧ (j : Int) ≠ n) → bt (f j) j = true) : CCQ s w x n f := by
  intro u v hu hn
  refine ⟨h.1.1 u v hu, fun ⟨j, hj⟩ => ?_⟩
  have hm2 : (s.2.2.1 109 20).toInt ≤ (m : Int) := hm
  have go : ∀ (j y v : Nat), bt (f u) y = true → wkq (CLE s w x n) j y v → bt (f u) v = true := by
    intro j
    induction j with
    | zero => intro y v hy hw; rw [← (show y = v from hw)]; exact hy
    | succ j ih =>
      intro y v hy hw
      obtain ⟨z, ⟨a, ha, hc, he⟩, hw⟩ := hw
      have hn := arc_n hI ha hc.1
      have b := h.1.2 a ha hc
      refine ih z v ?_ hw
      rcases he with ⟨e1, e2⟩ | ⟨e0, e1, e2⟩
      · have b1 := b.1
        rw [e1, e2] at b1
        have hy2 := (nat_jn hn.1.1 hn.1.2).2
        rw [e1] at hy2
        exact h.2 y u z (by omega) hu hy b1
      · have b1 := b.2 e0
        rw [e1, e2] at b1
        have hy2 := (nat_jn hn.2.1.1 hn.2.1.2).2
        rw [e1] at hy2
        exact h.2 y u z (by omega) hu hy b1
  exact go j u v (hs u ⟨hu, hn⟩) hj
theorem ccq_cg {s t : GS} {w x n : Int} {f : Nat → Int32} (h : CCQ s w x n f) (h2 : t.1 112 = s.1 112) (h3 : t.1 113 = s.1 113) (h4 : t.1 114 = s.1 114) (h7 : t.2.2.1 109 19 = s.2.2.1 109 19) (h8 : t.2.2.1 109 20 = s.2.2.1 109 20) : CCQ t w x n f := by
  have e : CLE t w x n = CLE s w x n := by
    funext u v
    unfold CLE CLA bs
    rw [h2, h3, h4, h7]
  have en : nmx t = nmx s := by unfold nmx; rw [h8]
  unfold CCQ
  rw [e, en]
  exact h
abbrev gvZ (s : GS) : GVW := gvG s (s.2.2.1 109 18).toNatClampNeg
theorem cle_pe {s : GS} (hI : Inv s) {w : Int} : ∀ u v, CLE s w (-1) (-1) u v ↔ PE (gvZ s) w u v := by
  have k2 : (s.2.2.1 109 19).toInt = 160 * (s.2.2.1 109 18).toInt := hI.2.2.2.2.2.2.2.2.2.1
  have i18 := inv_F hI (z := s.2.2.1 109 18) 0 1 rfl rfl
  have eb : bs s = 160 * (s.2.2.1 109 18).toNatClampNeg := by
    show (s.2.2.1 109 19).toInt.toNat = 160 * (s.2.2.1 109 18).toInt.toNat
    have := i18.1
    omega
  have l18 : (s.2.2.1 109 18).toNatClampNeg ≤ 1 := by
    show (s.2.2.1 109 18).toInt.toNat ≤ 1
    have := i18.2
    omega
  have rg : ∀ a, a < 160 → In (s.1 113 (bs s + a)) 0 31 ∧ In (s.1 114 (bs s + a)) 0 31 := fun a ha => by
    have hl : bs s + a < 480 := by rw [eb]; omega
    exact ⟨hI.1.1 113 _ (Nat.lt_of_lt_of_le hl (Nat.le_of_ble_eq_true rfl)), hI.1.1 114 _ (Nat.lt_of_lt_of_le hl (Nat.le_of_ble_eq_true rfl))⟩
  have main : ∀ a, a < 160 → ∀ u v : Nat, (ARE (gvZ s) 0 a = (u : Int) ∧ ARE (gvZ s) 1 a = (v : Int)) ↔ (CLA s (-1) (-1) a ∧ (s.1 113 (bs s + a)).toNatClampNeg = u ∧ (s.1 114 (bs s + a)).toNatClampNeg = v) := fun a ha u v => by
    obtain ⟨⟨r1, r2⟩, r3, r4⟩ := rg a ha
    have c1 : (s.1 113 (bs s + a)).toNatClampNeg = (s.1 113 (bs s + a)).toInt.toNat := rfl
    have c2 : (s.1 114 (bs s + a)).toNatClampNeg = (s.1 114 (bs s + a)).toInt.toNat := rfl
    by_cases c : (s.1 112 (bs s + a)).toInt = 0
    · rw [are_no (tg_no (g := (s.2.2.1 109 18).toNatClampNeg) (x := s.1 112 (bs s + a)) (by rw [eb]) c)]
      constructor
      · intro q
        have := q.1
        omega
      · intro q
        exact absurd c q.1.1
    · have hl : 160 * (s.2.2.1 109 18).toNatClampNeg + a < 480 := by omega
      have ne := tg_ne hI (x := s.1 112 (bs s + a)) (by rw [eb]) c hl
      have f0 : ARE (gvZ s) 0 a = (s.1 113 (bs s + a)).toInt := by
        rw [are_f ha rfl, ← tg_is (x := s.1 112 (bs s + a)) (f := s.1 113 (bs s + a)) (by rw [eb]) c (by rw [eb])]
      have f1 : ARE (gvZ s) 1 a = (s.1 114 (bs s + a)).toInt := by
        rw [are_t ha ne (by decide), eb]
        rfl
      rw [f0, f1]
      constructor
      · rintro ⟨q1, q2⟩
        exact ⟨⟨c, by omega, by omega, by omega⟩, by omega, by omega⟩
      · rintro ⟨-, q1, q2⟩
        exact ⟨by omega, by omega⟩
  intro u v
  constructor
  · rintro ⟨a, ha, hc, he⟩
    rcases he with ⟨e1, e2⟩ | ⟨e0, e1, e2⟩
    · obtain ⟨p1, p2⟩ := (main a ha u v).mpr ⟨hc, e1, e2⟩
      exact Or.inl ⟨a, ha, p1, p2⟩
    · obtain ⟨p1, p2⟩ := (main a ha v u).mpr ⟨hc, e2, e1⟩
      exact Or.inr ⟨e0, a, ha, p1, p2⟩
  · rintro (⟨a, ha, p1, p2⟩ | ⟨e0, a, ha, p1, p2⟩)
    · obtain ⟨q0, q1, q2⟩ := (main a ha u v).mp ⟨p1, p2⟩
      exact ⟨a, ha, q0, Or.inl ⟨q1, q2⟩⟩
    · obtain ⟨q0, q1, q2⟩ := (main a ha v u).mp ⟨p1, p2⟩
      exact ⟨a, ha, q0, Or.inr ⟨e0, q2, q1⟩⟩
theorem psp_r {s : GS} (hI : Inv s) {w : Int} {f : Nat → Int32} {v j : Nat} (hc : CCQ s w (-1) (-1) f) (hv : (v : Int) < nmx s) (hj : (j : Int) < nmx s) (b1 : bt (f v) j = true) (b2 : bt (f j) v = true) (hm : ∀ i : Nat, i < j → ¬ (bt (f v) i = true ∧ bt (f i) v = true)) : PSP (gvZ s) w v (j : Int) := by
  have q : ∀ i : Nat, (i : Int) < nmx s → ((bt (f v) i = true ∧ bt (f i) v = true) ↔ PEQ (gvZ s) w v i) := fun i hi => by
    rw [hc v i hv (by omega), hc i v hi (by omega), wl_iff (cle_pe hI), wl_iff (cle_pe hI)]
    exact Iff.rfl
  exact ⟨j, rfl, (q j hj).mp ⟨b1, b2⟩, fun i hi h => hm i hi ((q i (by omega)).mpr h)⟩
def PAR (s t : GS) (x y z : Int32) : Prop := ((t.2.2.1 109 0).toInt = 1 ∧ ¬ (In x 0 1 ∧ 0 ≤ y.toInt ∧ y.toInt < (s.2.2.1 109 20).toInt)) ∨ ((t.2.2.1 109 0).toInt = 0 ∧ (In x 0 1 ∧ 0 ≤ y.toInt ∧ y.toInt < (s.2.2.1 109 20).toInt) ∧ PSP (gvZ s) x.toInt y.toNatClampNeg z.toInt)
end
section
/-! HOW MANY PARTS -/
noncomputable def cnP (P : Nat → Prop) : Nat → Nat
  | 0 => 0
  | n + 1 => cnP P n + @ite Nat (P n) (Classical.propDecidable _) 1 0
section CNP
variable {P Q : Nat → Prop}
theorem cnP_y {n : Nat} (h : P n) : cnP P (n + 1) = cnP P n + 1 := by
  show cnP P n + @ite Nat (P n) (Classical.propDecidable _) 1 0 = _
  rw [if_pos h]
theorem cnP_n {n : Nat} (h : ¬ P n) : cnP P (n + 1) = cnP P n := by
  show cnP P n + @ite Nat (P n) (Classical.propDecidable _) 1 0 = _
  rw [if_neg h]
  rfl
theorem cnP_le : ∀ n : Nat, (∀ k, k < n → P k → Q k) → cnP P n ≤ cnP Q n
  | 0, _ => Nat.le_refl _
  | n + 1, h => by
    have i := cnP_le n (fun k hk => h k (by omega))
    by_cases c : P n
    · rw [cnP_y c, cnP_y (h n (by omega) c)]
      omega
    · by_cases d : Q n
      · rw [cnP_n c, cnP_y d]; omega
      · rw [cnP_n c, cnP_n d]; exact i
theorem cnP_lt : ∀ n : Nat, (∀ k, k < n → P k → Q k) → ∀ w, w < n → Q w → ¬ P w → cnP P n < cnP Q n
  | 0, _, w, hw, _, _ => absurd hw (Nat.not_lt_zero w)
  | n + 1, h, w, hw, hq, hp => by
    by_cases e : w = n
    · rw [e] at hq hp
      have i := cnP_le n (fun k hk => h k (by omega))
      rw [cnP_n hp, cnP_y hq]
      omega
    · have i := cnP_lt n (fun k hk => h k (by omega)) w (by omega) hq hp
      by_cases c : P n
      · rw [cnP_y c, cnP_y (h n (by omega) c)]
        omega
      · by_cases d : Q n
        · rw [cnP_n c, cnP_y d]; omega
        · rw [cnP_n c, cnP_n d]; exact i
theorem cnP_eq {n : Nat} (h : ∀ k, k < n → (P k ↔ Q k)) : cnP P n = cnP Q n := Nat.le_antisymm (cnP_le n (fun k hk => (h k hk).mp)) (cnP_le n (fun k hk => (h k hk).mpr))
theorem cnP_rm : ∀ (n : Nat) {w : Nat}, w < n → P w → cnP (fun k => P k ∧ k ≠ w) n + 1 = cnP P n
  | 0, w, hw, _ => absurd hw (Nat.not_lt_zero w)
  | n + 1, w, hw, hp => by
    by_cases e : w = n
    · subst e
      rw [cnP_y hp, cnP_n (P := fun k => P k ∧ k ≠ w) (fun h => h.2 rfl), cnP_eq (P := fun k => P k ∧ k ≠ w) (Q := P) (n := w) (fun k hk => ⟨fun h => h.1, fun h => ⟨h, by omega⟩⟩)]
    · have i := cnP_rm n (w := w) (by omega) hp
      by_cases c : P n
      · rw [cnP_y c, cnP_y (P := fun k => P k ∧ k ≠ w) ⟨c, fun h => e h.symm⟩]
        omega
      · rw [cnP_n c, cnP_n (P := fun k => P k ∧ k ≠ w) (fun h => c h.1)]
        exact i
theorem cnP_add {n w : Nat} (hw : w < n) (hp : ¬ P w) : cnP (fun k => P k ∨ k = w) n = cnP P n + 1 := by
  have i := cnP_rm (P := fun k => P k ∨ k = w) n hw (Or.inr rfl)
  have e : cnP (fun k => (P k ∨ k = w) ∧ k ≠ w) n = cnP P n := cnP_eq (fun k _ => ⟨fun h => h.1.elim id (fun z => absurd z h.2), fun h => ⟨Or.inl h, fun z => hp (by rw [← z]; exact h)⟩⟩)
  omega
end CNP
/-- the least of its part -/
def LST (E : Nat → Nat → Prop) (u : Nat) : Prop := ∀ j, j < u → ¬ wlq E u j
section LST
variable {E F : Nat → Nat → Prop}
theorem wl_sym (hs : ∀ a b, E a b → E b a) {u w : Nat} (h : wlq E u w) : wlq E w u := wl_mono (fun a b q => hs b a q) (wl_rev h)
theorem lsp_ex : ∀ u : Nat, ∃ l, l ≤ u ∧ wlq E u l ∧ LST E l := by
  intro u
  induction u using Nat.strongRecOn with
  | ind u ih =>
    by_cases c : LST E u
    · exact ⟨u, Nat.le_refl _, wl_0, c⟩
    · have h : ∃ j, j < u ∧ wlq E u j := Classical.byContradiction fun z => c (fun j hj hw => z ⟨j, hj, hw⟩)
      obtain ⟨j, hj, hw⟩ := h
      obtain ⟨l, h1, h2, h3⟩ := ih j hj
      exact ⟨l, by omega, wl_tr hw h2, h3⟩
theorem lst_u (hs : ∀ a b, E a b → E b a) {k l : Nat} (h : LST E k) (g : LST E l) (w : wlq E k l) : k = l := by
  rcases Nat.lt_trichotomy k l with c | c | c
  · exact absurd (wl_sym hs w) (g k c)
  · exact c
  · exact absurd w (h l c)
theorem lst_sub (hF : ∀ a b, F a b → E a b) {u : Nat} (h : LST E u) : LST F u := fun j hj hw => h j hj (wl_mono hF hw)
/-- one joint less: more parts iff its ends are no longer together -/
theorem cn_bridge {n x y : Nat} (hsE : ∀ a b, E a b → E b a) (hsF : ∀ a b, F a b → F b a) (hF : ∀ a b, F a b → E a b) (hE : ∀ a b, E a b → F a b ∨ (a = x ∧ b = y) ∨ (a = y ∧ b = x)) (hxy : E x y) (hx : x < n) (hy : y < n) : cnP (LST E) n < cnP (LST F) n ↔ ¬ wlq F x y := by
  constructor
  · intro h w
    have q : ∀ a b, wlq E a b → wlq F a b := fun a b h => by
      obtain ⟨j, hj⟩ := h
      revert a
      induction j with
      | zero => intro a hj; rw [show a = b from hj]; exact wl_0
      | succ j ih =>
        intro a hj
        obtain ⟨c, hc, hw⟩ := hj
        have t := ih c hw
        rcases hE a c hc with r | ⟨r1, r2⟩ | ⟨r1, r2⟩
        · exact wl_tr (wl_1 r) t
        · rw [r1]; rw [r2] at t; exact wl_tr w t
        · rw [r1]; rw [r2] at t; exact wl_tr (wl_sym hsF w) t
    have e : cnP (LST E) n = cnP (LST F) n := cnP_eq (fun k _ => ⟨lst_sub hF, fun g j hj hw => g j hj (q _ _ hw)⟩)
    omega
  · intro h
    obtain ⟨lx, a1, a2, a3⟩ := lsp_ex (E := F) x
    obtain ⟨ly, b1, b2, b3⟩ := lsp_ex (E := F) y
    have big : ∀ u w, wlq F u w → wlq E u w := fun u w => wl_mono hF
    rcases Nat.lt_trichotomy lx ly with c | c | c
    · exact cnP_lt n (fun k _ => lst_sub hF) ly (by omega) b3 (fun g => g lx c (wl_tr (wl_sym hsE (big _ _ b2)) (wl_tr (wl_sym hsE (wl_1 hxy)) (big _ _ a2))))
    · exact absurd (wl_tr a2 (by rw [c]; exact wl_sym hsF b2)) h
    · exact cnP_lt n (fun k _ => lst_sub hF) lx (by omega) a3 (fun g => g ly c (wl_tr (wl_sym hsE (big _ _ a2)) (wl_tr (wl_1 hxy) (big _ _ b2))))
/-- a node less -/
theorem cn_cut {n v : Nat} (hsE : ∀ a b, E a b → E b a) (hF : ∀ a b, F a b ↔ (E a b ∧ a ≠ v ∧ b ≠ v)) (hn : ∀ a b, E a b → a < n ∧ b < n) (hv : v < n) : cnP (LST E) n < cnP (fun u => u ≠ v ∧ LST F u) n ↔ ∃ a b, E v a ∧ E v b ∧ a ≠ v ∧ b ≠ v ∧ ¬ wlq F a b := by
  have hsF : ∀ a b, F a b → F b a := fun a b h => by
    have q := (hF a b).mp h
    exact (hF b a).mpr ⟨hsE a b q.1, q.2.2, q.2.1⟩
  have sub : ∀ a b, F a b → E a b := fun a b h => ((hF a b).mp h).1
  have big : ∀ u w, wlq F u w → wlq E u w := fun u w => wl_mono sub
  -- a walk to w: without v, or by a neighbour of v that reaches w without v, or w is v
  have tail : ∀ (j a w : Nat), w ≠ v → wkq E j a w → wlq F a w ∨ ∃ c, E v c ∧ c ≠ v ∧ wlq F c w := by
    intro j
    induction j with
    | zero => intro a w hw h; rw [show a = w from h]; exact Or.inl wl_0
    | succ j ih =>
      intro a w hw h
      obtain ⟨c, hc, h2⟩ := h
      rcases ih c w hw h2 with q | q
      · by_cases ca : a = v
        · by_cases cc : c = v
          · rw [ca, ← cc]; exact Or.inl q
          · rw [ca] at hc; exact Or.inr ⟨c, hc, cc, q⟩
        · by_cases cc : c = v
          · rw [cc] at q
            obtain ⟨i, hi⟩ := q
            cases i with
            | zero => exact absurd (show v = w from hi).symm hw
            | succ i =>
              obtain ⟨x, hx, -⟩ := hi
              exact absurd rfl ((hF v x).mp hx).2.1
          · exact Or.inl (wl_tr (wl_1 ((hF a c).mpr ⟨hc, ca, cc⟩)) q)
      · exact Or.inr q
  -- from a node other than v, to v: by a neighbour
  have toV : ∀ u, u ≠ v → wlq E u v → ∃ c, E v c ∧ c ≠ v ∧ wlq F c u := fun u hu h => by
    obtain ⟨j, hj⟩ := wl_sym hsE h
    rcases tail j v u hu hj with q | q
    · obtain ⟨i, hi⟩ := q
      cases i with
      | zero => exact absurd (show v = u from hi).symm hu
      | succ i =>
        obtain ⟨x, hx, -⟩ := hi
        exact absurd rfl ((hF v x).mp hx).2.1
    · exact q
  constructor
  · intro h
    refine Classical.byContradiction fun no => ?_
    have one : ∀ a b, E v a → E v b → a ≠ v → b ≠ v → wlq F a b := fun a b h1 h2 h3 h4 => Classical.byContradiction fun z => no ⟨a, b, h1, h2, h3, h4, z⟩
    -- nodes apart from v keep their part
    have keep : ∀ u, u ≠ v → ¬ wlq E u v → LST F u → LST E u := fun u hu hne g j hj hw => by
      obtain ⟨i, hi⟩ := hw
      by_cases cj : j = v
      · rw [cj] at hi; exact hne ⟨i, hi⟩
      · rcases tail i u j cj hi with q | ⟨c, c1, c2, c3⟩
        · exact g j hj q
        · exact hne (wl_tr ⟨i, hi⟩ (wl_tr (wl_sym hsE (big _ _ c3)) (wl_sym hsE (wl_1 c1))))
    by_cases nb : ∃ a, E v a ∧ a ≠ v
    · obtain ⟨a, a1, a2⟩ := nb
      obtain ⟨l, l1, l2, l3⟩ := lsp_ex (E := F) a
      have lv : l ≠ v := fun z => by
        rw [z] at l2
        obtain ⟨i, hi⟩ := wl_sym hsF l2
        cases i with
        | zero => exact a2 (show v = a from hi).symm
        | succ i =>
          obtain ⟨x, hx, -⟩ := hi
          exact absurd rfl ((hF v x).mp hx).2.1
      have ln : l < n := by have := (hn v a a1).2; omega
      have lE : wlq E l v := wl_tr (wl_sym hsE (big _ _ l2)) (wl_sym hsE (wl_1 a1))
      -- all that hang together with v, but v, lie in l's part
      have all : ∀ u, u ≠ v → wlq E u v → wlq F l u := fun u hu hw => by
        obtain ⟨c, c1, c2, c3⟩ := toV u hu hw
        exact wl_tr (wl_sym hsF l2) (wl_tr (one a c a1 c1 a2 c2) c3)
      have uni : ∀ u, u ≠ v → LST F u → wlq E u v → u = l := fun u hu g hw => (lst_u hsF l3 g (all u hu hw)).symm
      by_cases c : l < v
      · have hle : cnP (fun u => u ≠ v ∧ LST F u) n ≤ cnP (LST E) n := cnP_le n (fun u _ ⟨hu, g⟩ => by
          by_cases hw : wlq E u v
          · have e := uni u hu g hw
            rw [e]
            intro j hj hj2
            have hjv : j ≠ v := by omega
            exact l3 j hj (all j hjv (wl_tr (wl_sym hsE hj2) lE))
          · exact keep u hu hw g)
        omega
      · have cv : v < l := by omega
        have vL : LST E v := fun j hj hw => by
          have q := all j (by omega) (wl_sym hsE hw)
          exact l3 j (by omega) q
        have e1 := cnP_rm (P := LST E) n hv vL
        have e2 := cnP_rm (P := fun u => u ≠ v ∧ LST F u) n ln ⟨lv, l3⟩
        have hle : cnP (fun u => (u ≠ v ∧ LST F u) ∧ u ≠ l) n ≤ cnP (fun k => LST E k ∧ k ≠ v) n := cnP_le n (fun u _ ⟨⟨hu, g⟩, hl⟩ => by
          by_cases hw : wlq E u v
          · exact absurd (uni u hu g hw) hl
          · exact ⟨keep u hu hw g, hu⟩)
        omega
    · have hle : cnP (fun u => u ≠ v ∧ LST F u) n ≤ cnP (LST E) n := cnP_le n (fun u _ ⟨hu, g⟩ => keep u hu (fun hw => by
          obtain ⟨c, c1, c2, -⟩ := toV u hu hw
          exact nb ⟨c, c1, c2⟩) g)
      omega
  · rintro ⟨a, b, h1, h2, h3, h4, h5⟩
    obtain ⟨la, a1, a2, a3⟩ := lsp_ex (E := F) a
    obtain ⟨lb, b1, b2, b3⟩ := lsp_ex (E := F) b
    have nev : ∀ {c l : Nat}, c ≠ v → wlq F c l → l ≠ v := fun {c l} hc w z => by
      rw [z] at w
      obtain ⟨i, hi⟩ := wl_sym hsF w
      cases i with
      | zero => exact hc (show v = c from hi).symm
      | succ i =>
        obtain ⟨x, hx, -⟩ := hi
        exact absurd rfl ((hF v x).mp hx).2.1
    have lav := nev h3 a2
    have lbv := nev h4 b2
    have ne : la ≠ lb := fun z => h5 (wl_tr a2 (by rw [z]; exact wl_sym hsF b2))
    have an : la < n := by have := (hn v a h1).2; omega
    have bn : lb < n := by have := (hn v b h2).2; omega
    have av : wlq E v la := wl_tr (wl_1 h1) (big _ _ a2)
    have bv : wlq E v lb := wl_tr (wl_1 h2) (big _ _ b2)
    have up : ∀ k, k ≠ v → LST E k → (k ≠ v ∧ LST F k) := fun k hk g => ⟨hk, lst_sub sub g⟩
    by_cases vL : LST E v
    · have na : ¬ LST E la := fun g => lav (lst_u hsE vL g av).symm
      have nb : ¬ LST E lb := fun g => lbv (lst_u hsE vL g bv).symm
      have e1 := cnP_rm (P := LST E) n hv vL
      have e2 := cnP_add (P := fun k => LST E k ∧ k ≠ v) an (fun h => na h.1)
      have lt := cnP_lt (P := fun k => (LST E k ∧ k ≠ v) ∨ k = la) (Q := fun u => u ≠ v ∧ LST F u) n (fun k _ hk => by
        rcases hk with hk | hk
        · exact up k hk.2 hk.1
        · rw [hk]; exact ⟨lav, a3⟩) lb bn ⟨lbv, b3⟩ (fun hk => by
        rcases hk with hk | hk
        · exact nb hk.1
        · exact ne hk.symm)
      omega
    · have sb : ∀ k, k < n → LST E k → (k ≠ v ∧ LST F k) := fun k _ g => up k (fun z => vL (by rw [← z]; exact g)) g
      by_cases c : LST E la
      · have nb : ¬ LST E lb := fun g => ne (lst_u hsE c g (wl_tr (wl_sym hsE av) bv))
        exact cnP_lt n sb lb bn ⟨lbv, b3⟩ nb
      · exact cnP_lt n sb la an ⟨lav, a3⟩ c
end LST
section K327
variable {Z : AmZ} {d : Nat} {ws : va_W} {X : AmX}
theorem k_327m {x0 : Int32} (hd : 2 ≤ d) (hx : x0.toInt ≠ 0) : GC Z d 327 [.int x0] ws 0 0 (fun v u => ∃ z : Int32, v = some (.int z) ∧ u = ws ∧ In z 0 31 ∧ bt x0 z.toNatClampNeg = true ∧ ∀ j : Nat, bt x0 j = true → z.toNatClampNeg ≤ j) X := by
  intro post xp hP hX
  obtain ⟨w, hw, hb, -⟩ := low32 hx
  have ct : ∀ (k : Nat) (y : Int32), 0 ≤ y.toInt → y.toInt ≤ (w : Int) → (∀ j : Nat, (j : Int) < y.toInt → bt x0 j = false) → (w : Int) - y.toInt < (k : Int) → GG Z (d - 1) 327 post (gx xp) (10 + k * 20) 2 (fun j => xlook j [(0, .int x0), (1, .int y)]) [] ws 0 0 := by
    intro k
    induction k with
    | zero => intro y h0 h1 hn hm; omega
    | succ k ih =>
      intro y h0 h1 hn hm
      refine gg_w (M := 10 + k * 20 + 20) (by omega) ?_
      refine g_iload_n 3 (gd rfl) rfl rfl ?_
      refine g_iload_n 4 (gd rfl) rfl rfl ?_
      refine g_calls (As := [.int x0, .int y]) (r := []) 7 (gd rfl) rfl rfl rfl rfl rfl (Nat.le_of_ble_eq_true rfl) (Nat.zero_le _) (Nat.zero_le _) (x_311 (by omega)) (fun v u h => ?_)
      obtain ⟨rfl, h⟩ := h
      have hk : y.toInt = (y.toNatClampNeg : Int) := by
        show y.toInt = ((y.toInt.toNat : Nat) : Int)
        omega
      rcases h with ⟨hh, rfl⟩ | ⟨hh, rfl⟩
      · show GG _ _ _ _ _ _ _ _ [.int (Int32.ofInt 1)] _ _ _
        refine g_if_ne 10 16 (gd rfl) rfl rfl (fun c => ?_) (fun c => ?_)
        · refine g_iload_n 17 (gd rfl) rfl rfl ?_
          refine g_ireturn (gd rfl) rfl rfl (hP _ _ ⟨y, rfl, rfl, ⟨h0, by omega⟩, (has_bit hk (by omega)).mp hh, fun j hj => ?_⟩)
          refine Nat.le_of_not_lt fun c2 => ?_
          rw [hn j (by omega)] at hj
          cases hj
        · exact zn_eq c (in_c 1 rfl) rfl
      · show GG _ _ _ _ _ _ _ _ [.int (Int32.ofInt 0)] _ _ _
        refine g_if_ne 10 16 (gd rfl) rfl rfl (fun c => ?_) (fun c => ?_)
        · exact zn_ne c (in_c 0 rfl) rfl
        · have hne : y.toInt ≠ (w : Int) := fun e => hh ((has_bit e hw).mpr hb)
          refine g_iinc 13 (gd rfl) rfl rfl (Nat.le_of_ble_eq_true rfl) (fun z e => ?_)
          refine g_goto 2 (gd rfl) rfl ?_
          have ez := t_add (a := 0) (b := 31) e ⟨h0, by omega⟩ (in_c 1 rfl) rfl
          have h01 : (Int32.ofInt 1).toInt = 1 := rfl
          refine gg_w (by omega) (gg_f (gf_cons rfl (gf_cons rfl gf_nil)) (ih z (by omega) (by omega) (fun j hj => ?_) (by omega)))
          by_cases c3 : (j : Int) < y.toInt
          · exact hn j c3
          · cases e3 : bt x0 j with
            | false => rfl
            | true => exact absurd ((has_bit (x := x0) (y := y) (k := j) (by omega) (by omega)).mpr e3) hh
  refine g_enter2 (k := 327) (N := 1000) (by omega) rfl (Nat.le_of_ble_eq_true rfl) ?_
  refine g_iconst 0 1 (gd rfl) rfl rfl ?_
  refine g_istore_n 2 (gd rfl) rfl (Nat.le_of_ble_eq_true rfl) ?_
  have h00 : (Int32.ofInt 0).toInt = 0 := rfl
  exact gg_w (by omega) (gg_f (gf_cons rfl (gf_cons rfl gf_nil)) (ct 33 (Int32.ofInt 0) (by omega) (by omega) (fun j hj => absurd hj (by omega)) (by omega)))
end K327
/-! weakParts of the reference -/
def WPP (s : GS) (x n : Int) (u : Nat) : Prop := (u : Int) ≠ n ∧ LST (CLE s 1 x n) u
theorem wp_y {s : GS} {x n : Int} {f : Nat → Int32} {i : Nat} {z : Int32} {c d : Int} (hc : CCQ s 1 x n f) (h : c = (cnP (WPP s x n) i : Int)) (hi : (i : Int) < nmx s) (hx : (i : Int) ≠ n) (hz : z.toNatClampNeg = i) (hm : ∀ j : Nat, bt (f i) j = true → z.toNatClampNeg ≤ j) (hd : d = c + 1) : d = (cnP (WPP s x n) (i + 1) : Int) := by
  have p : WPP s x n i := ⟨hx, fun j hj hw => by have := hm j ((hc i j hi hx).mpr hw); omega⟩
  rw [cnP_y p]
  omega
theorem wp_n {s : GS} {x n : Int} {f : Nat → Int32} {i : Nat} {z : Int32} {c d : Int} (hc : CCQ s 1 x n f) (h : c = (cnP (WPP s x n) i : Int)) (hi : (i : Int) < nmx s) (hx : (i : Int) ≠ n) (hz : z.toNatClampNeg ≠ i) (hb : bt (f i) z.toNatClampNeg = true) (hm : ∀ j : Nat, bt (f i) j = true → z.toNatClampNeg ≤ j) (hd : d = c) : d = (cnP (WPP s x n) (i + 1) : Int) := by
  have q := hm i ((hc i i hi hx).mpr wl_0)
  have p : ¬ WPP s x n i := fun h2 => h2.2 z.toNatClampNeg (by omega) ((hc i _ hi hx).mp hb)
  rw [cnP_n p, hd]
  exact h
theorem wp_x {s : GS} {x n : Int} {i : Nat} {c d : Int} (h : c = (cnP (WPP s x n) i : Int)) (hx : (i : Int) = n) (hd : d = c) : d = (cnP (WPP s x n) (i + 1) : Int) := by
  rw [cnP_n (fun h2 : WPP s x n i => h2.1 hx), hd]
  exact h
def QW (L : FM) : Bool := qI L.1 112 && (qI L.1 113 && (qI L.1 114 && (qF L.2.2.1 109 19 && qF L.2.2.1 109 20)))
theorem wpn_cg {s t : GS} {L : FM} {x n z : Int} (h : z = (cnP (WPP t x n) (t.2.2.1 109 20).toInt.toNat : Int)) (hF : Fr L s t) (hk : QW L = true) : z = (cnP (WPP s x n) (s.2.2.1 109 20).toInt.toNat : Int) := by
  simp only [QW, Bool.and_eq_true] at hk
  obtain ⟨a, b, c, d, e⟩ := hk
  have q : WPP t x n = WPP s x n := by
    funext u
    unfold WPP LST CLE CLA bs
    rw [hF.1 112 a, hF.1 113 b, hF.1 114 c, hF.2.2.1 109 19 d]
  rw [q, hF.2.2.1 109 20 e] at h
  exact h
/-! cuts -/
def CUF (g : GVW) (v : Nat) (a b : Nat) : Prop := PE g 1 a b ∧ a ≠ v ∧ b ≠ v
def CUT (g : GVW) (v : Nat) : Prop := ∃ a b, PE g 1 v a ∧ PE g 1 v b ∧ a ≠ v ∧ b ≠ v ∧ ¬ wlq (CUF g v) a b
theorem pe_s {g : GVW} : ∀ a b, PE g 1 a b → PE g 1 b a := fun a b h => h.elim (fun q => Or.inr ⟨by decide, q⟩) (fun q => Or.inl q.2)
theorem cut_e {g h : GVW} (q : GEW g h) {v : Nat} (k : CUT g v) : CUT h v := by
  unfold CUT CUF PE at k ⊢
  rw [ajg_e q] at k
  exact k
theorem cle_v {s : GS} (hI : Inv s) {v : Nat} : ∀ a b, CLE s 1 (-1) (v : Int) a b ↔ CUF (gvZ s) v a b := by
  intro a b
  have key : CLE s 1 (-1) (v : Int) a b ↔ (CLE s 1 (-1) (-1) a b ∧ a ≠ v ∧ b ≠ v) := by
    constructor
    · rintro ⟨p, hp, hc, he⟩
      have r := arc_n hI hp hc.1
      have r1 := r.1.1.1
      have r2 := r.2.1.1.1
      have c1 : (s.1 113 (bs s + p)).toNatClampNeg = (s.1 113 (bs s + p)).toInt.toNat := rfl
      have c2 : (s.1 114 (bs s + p)).toNatClampNeg = (s.1 114 (bs s + p)).toInt.toNat := rfl
      have n1 := hc.2.2.1
      have n2 := hc.2.2.2
      refine ⟨⟨p, hp, ⟨hc.1, hc.2.1, by omega, by omega⟩, he⟩, ?_⟩
      rcases he with ⟨e1, e2⟩ | ⟨-, e1, e2⟩
      · exact ⟨by omega, by omega⟩
      · exact ⟨by omega, by omega⟩
    · rintro ⟨⟨p, hp, hc, he⟩, ha, hb⟩
      have r := arc_n hI hp hc.1
      have r1 := r.1.1.1
      have r2 := r.2.1.1.1
      have c1 : (s.1 113 (bs s + p)).toNatClampNeg = (s.1 113 (bs s + p)).toInt.toNat := rfl
      have c2 : (s.1 114 (bs s + p)).toNatClampNeg = (s.1 114 (bs s + p)).toInt.toNat := rfl
      refine ⟨p, hp, ⟨hc.1, hc.2.1, ?_, ?_⟩, he⟩
      · rcases he with ⟨e1, e2⟩ | ⟨-, e1, e2⟩ <;> omega
      · rcases he with ⟨e1, e2⟩ | ⟨-, e1, e2⟩ <;> omega
  rw [key, cle_pe hI a b]
  exact Iff.rfl
theorem cut_r {s : GS} (hI : Inv s) {v n : Nat} (hn : (n : Int) = nmx s) (hv : v < n) : cnP (WPP s (-1) (-1)) n < cnP (WPP s (-1) (v : Int)) n ↔ CUT (gvZ s) v := by
  have hE : ∀ a b, CLE s 1 (-1) (-1) a b → a < n ∧ b < n := fun a b ⟨p, hp, hc, he⟩ => by
    have r := arc_n hI hp hc.1
    have n1 := (nat_jn r.1.1 r.1.2).2
    have n2 := (nat_jn r.2.1.1 r.2.1.2).2
    have hn2 : (n : Int) = (s.2.2.1 109 20).toInt := hn
    rcases he with ⟨e1, e2⟩ | ⟨-, e1, e2⟩
    · rw [e1] at n1; rw [e2] at n2
      exact ⟨by omega, by omega⟩
    · rw [e2] at n1; rw [e1] at n2
      exact ⟨by omega, by omega⟩
  have e1 : cnP (WPP s (-1) (-1)) n = cnP (LST (PE (gvZ s) 1)) n := cnP_eq (fun u _ => by
    unfold WPP LST
    constructor
    · intro h j hj hw
      exact h.2 j hj ((wl_iff (cle_pe hI)).mpr hw)
    · intro h
      exact ⟨by omega, fun j hj hw => h j hj ((wl_iff (cle_pe hI)).mp hw)⟩)
  have e2 : cnP (WPP s (-1) (v : Int)) n = cnP (fun u => u ≠ v ∧ LST (CUF (gvZ s) v) u) n := cnP_eq (fun u _ => by
    unfold WPP LST
    constructor
    · intro h
      exact ⟨fun z => h.1 (by rw [z]), fun j hj hw => h.2 j hj ((wl_iff (cle_v hI)).mpr hw)⟩
    · intro h
      exact ⟨fun z => h.1 (by omega), fun j hj hw => h.2 j hj ((wl_iff (cle_v hI)).mp hw)⟩)
  rw [e1, e2]
  exact cn_cut (E := PE (gvZ s) 1) (F := CUF (gvZ s) v) pe_s (fun a b => Iff.rfl) (fun a b h => hE a b ((cle_pe hI a b).mpr h)) hv
/-- the class: beside, together -/
theorem cut_c {g : GVW} {near : Nat → Int32} {v be ng sd on al tg no rs : Int32} (hN : ∀ u w, FEQ near (Int32.ofInt (-1)) u w ↔ (u ≠ w ∧ PE g 1 u w)) (iv : In v 0 31) (e1 : be = near v.toNatClampNeg) (e2 : ng = -be) (e3 : sd = be &&& ng) (e4 : on = Int32.ofInt 1 <<< (v &&& 31)) (e5 : al = on ^^^ Int32.ofInt (-1)) (hf : FLD near sd al tg) (e6 : no = tg ^^^ Int32.ofInt (-1)) (e7 : rs = be &&& no) : rs.toInt ≠ 0 ↔ CUT g v.toNatClampNeg := by
  have v32 : v.toNatClampNeg < 32 := by
    show v.toInt.toNat < 32
    have := iv.2
    omega
  have hb : ∀ w, bt be w = true ↔ (v.toNatClampNeg ≠ w ∧ PE g 1 v.toNatClampNeg w) := fun w => by
    rw [← hN, e1]
    exact ⟨fun q => ⟨v32, q, bt_m1 (bt_lt q)⟩, fun q => q.2.1⟩
  have hal : ∀ w, w < 32 → (bt al w = true ↔ w ≠ v.toNatClampNeg) := fun w hw => by
    rw [bt_not e5 hw, bt_one e4 iv]
    simp
  have hE : ∀ u w, u ≠ v.toNatClampNeg → (FEQ near al u w ↔ (u ≠ w ∧ CUF g v.toNatClampNeg u w)) := fun u w hu => by
    constructor
    · rintro ⟨a, b, c⟩
      have q := (hN u w).mp ⟨a, b, bt_m1 (bt_lt b)⟩
      exact ⟨q.1, q.2, hu, (hal w (bt_lt b)).mp c⟩
    · rintro ⟨a, b, -, c⟩
      have q := (hN u w).mpr ⟨a, b⟩
      exact ⟨q.1, q.2.1, (hal w (bt_lt q.2.1)).mpr c⟩
  have wk : ∀ u w, u ≠ v.toNatClampNeg → (wlq (FEQ near al) u w ↔ wlq (CUF g v.toNatClampNeg) u w) := fun u w hu => by
    constructor
    · rintro ⟨j, hj⟩
      revert u
      induction j with
      | zero => intro u hu hj; rw [show u = w from hj]; exact wl_0
      | succ j ih =>
        intro u hu hj
        obtain ⟨x, hx, hw⟩ := hj
        have q := ((hE u x hu).mp hx).2
        exact wl_tr (wl_1 q) (ih x q.2.2 hw)
    · intro h
      obtain ⟨j, hj⟩ := wl_loop h
      clear h
      revert u
      induction j with
      | zero => intro u hu hj; rw [show u = w from hj]; exact wl_0
      | succ j ih =>
        intro u hu hj
        obtain ⟨x, hx, hw⟩ := hj
        exact wl_tr (wl_1 ((hE u x hu).mpr hx)) (ih x hx.2.2.2 hw)
  have sym : ∀ a b, CUF g v.toNatClampNeg a b → CUF g v.toNatClampNeg b a := fun a b h => ⟨pe_s a b h.1, h.2.2, h.2.1⟩
  have out : rs.toInt ≠ 0 ↔ ∃ b, bt be b = true ∧ bt tg b = false := by
    constructor
    · intro h
      obtain ⟨k, -, hk, -⟩ := low32 h
      have hk : bt rs k = true := hk
      exact ⟨k, bt_and1 e7 hk, bt_andn e6 e7 hk⟩
    · rintro ⟨b, h1, h2⟩
      refine bt_nz (k := b) ?_
      rw [bt_and e7, h1, bt_not e6 (bt_lt h1), h2]
      rfl
  rw [out]
  by_cases z : be.toInt = 0
  · constructor
    · rintro ⟨b, h1, -⟩
      exact absurd z (bt_nz h1)
    · rintro ⟨a, b, h1, -, h3, -⟩
      exact absurd z (bt_nz ((hb a).mpr ⟨fun e => h3 e.symm, h1⟩))
  · obtain ⟨k, k1, k2, k3, -⟩ := low32x z
    have k2 : bt be k = true := k2
    have sd1 : ∀ x, bt sd x = true ↔ x = k := fun x => by
      have e : sd = Int32.ofBitVec (BitVec.twoPow 32 k) := by
        unfold lowB at k3
        rw [e3, e2]; exact k3
      rw [e]
      show (BitVec.twoPow 32 k).getLsbD x = true ↔ _
      rw [BitVec.getLsbD_twoPow]
      simp only [k1, decide_true, Bool.true_and, decide_eq_true_eq]
      exact ⟨Eq.symm, Eq.symm⟩
    have hk := (hb k).mp k2
    have hkv : k ≠ v.toNatClampNeg := fun e => hk.1 e.symm
    have tgk : ∀ w, bt tg w = true ↔ wlq (CUF g v.toNatClampNeg) k w := fun w => by
      rw [hf w, ← wk k w hkv]
      exact ⟨fun ⟨x, h1, h2⟩ => by rw [(sd1 x).mp h1] at h2; exact h2, fun h => ⟨k, (sd1 k).mpr rfl, h⟩⟩
    constructor
    · rintro ⟨b, h1, h2⟩
      have q := (hb b).mp h1
      refine ⟨k, b, hk.2, q.2, hkv, fun e => q.1 e.symm, fun h => ?_⟩
      rw [(tgk b).mpr h] at h2
      cases h2
    · rintro ⟨a, b, h1, h2, h3, h4, h5⟩
      have qa := (hb a).mpr ⟨fun e => h3 e.symm, h1⟩
      have qb := (hb b).mpr ⟨fun e => h4 e.symm, h2⟩
      cases ta : bt tg a with
      | false => exact ⟨a, qa, ta⟩
      | true =>
        cases tb : bt tg b with
        | false => exact ⟨b, qb, tb⟩
        | true => exact absurd (wl_tr (wl_sym sym ((tgk a).mp ta)) ((tgk b).mp tb)) h5
def CUR (s t : GS) (x z : Int32) : Prop := ((t.2.2.1 109 0).toInt = 1 ∧ ¬ (0 ≤ x.toInt ∧ x.toInt < (s.2.2.1 109 20).toInt)) ∨ ((t.2.2.1 109 0).toInt = 0 ∧ (0 ≤ x.toInt ∧ x.toInt < (s.2.2.1 109 20).toInt) ∧ (z.toInt ≠ 0 ↔ CUT (gvZ s) x.toNatClampNeg))
/-! bridges -/
def BRE (g : GVW) (p : Nat) (u w : Nat) : Prop := ∃ q : Nat, q < 160 ∧ q ≠ p ∧ ((ARE g 0 q = (u : Int) ∧ ARE g 1 q = (w : Int)) ∨ (ARE g 0 q = (w : Int) ∧ ARE g 1 q = (u : Int)))
def BRG (g : GVW) (p : Nat) : Prop := ∃ x y : Nat, ARE g 0 p = (x : Int) ∧ ARE g 1 p = (y : Int) ∧ ¬ wlq (BRE g p) x y
theorem bre_s {g : GVW} {p : Nat} : ∀ a b, BRE g p a b → BRE g p b a := fun a b ⟨q, h1, h2, h3⟩ => ⟨q, h1, h2, h3.elim Or.inr Or.inl⟩
theorem bre_pe {g : GVW} {p : Nat} : ∀ a b, BRE g p a b → PE g 1 a b := fun a b ⟨q, h1, h2, h3⟩ => h3.elim (fun h => Or.inl ⟨q, h1, h.1, h.2⟩) (fun h => Or.inr ⟨by decide, q, h1, h.1, h.2⟩)
theorem pe_bre {g : GVW} {p x y : Nat} (hx : ARE g 0 p = (x : Int)) (hy : ARE g 1 p = (y : Int)) : ∀ a b, PE g 1 a b → BRE g p a b ∨ (a = x ∧ b = y) ∨ (a = y ∧ b = x) := fun a b h => by
  rcases h with ⟨q, h1, h2, h3⟩ | ⟨-, q, h1, h2, h3⟩
  · by_cases c : q = p
    · rw [c] at h2 h3
      exact Or.inr (Or.inl ⟨by omega, by omega⟩)
    · exact Or.inl ⟨q, h1, c, Or.inl ⟨h2, h3⟩⟩
  · by_cases c : q = p
    · rw [c] at h2 h3
      exact Or.inr (Or.inr ⟨by omega, by omega⟩)
    · exact Or.inl ⟨q, h1, c, Or.inr ⟨h2, h3⟩⟩
theorem brg_e {g h : GVW} (q : GEW g h) {p : Nat} (hp : p < 160) (k : BRG g p) : BRG h p := by
  obtain ⟨x, y, h1, h2, h3⟩ := k
  have e : BRE h p = BRE g p := by
    funext u w
    refine propext ⟨fun ⟨r, a, b, c⟩ => ⟨r, a, b, by rw [are_e q a, are_e q a]; exact c⟩, fun ⟨r, a, b, c⟩ => ⟨r, a, b, by rw [← are_e q a, ← are_e q a]; exact c⟩⟩
  exact ⟨x, y, by rw [← are_e q hp]; exact h1, by rw [← are_e q hp]; exact h2, by rw [e]; exact h3⟩
/-- the last time at a -/
theorem wl_last {E : Nat → Nat → Prop} {a b : Nat} (hab : a ≠ b) : ∀ (j u : Nat), wkq E j u b → wlq (fun u w => E u w ∧ w ≠ a) u b ∨ ∃ c, E a c ∧ c ≠ a ∧ wlq (fun u w => E u w ∧ w ≠ a) c b := by
  have first : wlq (fun u w => E u w ∧ w ≠ a) a b → ∃ c, E a c ∧ c ≠ a ∧ wlq (fun u w => E u w ∧ w ≠ a) c b := by
    rintro ⟨i, hi⟩
    cases i with
    | zero => exact absurd (show a = b from hi) hab
    | succ i =>
      obtain ⟨c, hc, hw⟩ := hi
      exact ⟨c, hc.1, hc.2, i, hw⟩
  intro j
  induction j with
  | zero => intro u h; rw [show u = b from h]; exact Or.inl wl_0
  | succ j ih =>
    intro u h
    obtain ⟨x, hx, hw⟩ := h
    rcases ih x hw with q | q
    · by_cases c : x = a
      · rw [c] at q; exact Or.inr (first q)
      · exact Or.inl (wl_tr (wl_1 (E := fun u w => E u w ∧ w ≠ a) ⟨hx, c⟩) q)
    · exact Or.inr q
/-- the class's round -/
theorem brg_c {g : GVW} {near : Nat → Int32} {p : Nat} {x y n0 o1 o2 sd o3 al rd : Int32} (hN : ∀ u w, FEQ near (Int32.ofInt (-1)) u w ↔ (u ≠ w ∧ PE g 1 u w)) (ix : In x 0 31) (iy : In y 0 31) (hx : ARE g 0 p = x.toInt) (hy : ARE g 1 p = y.toInt) (hne : x.toInt ≠ y.toInt) (hno : ¬ BRE g p x.toNatClampNeg y.toNatClampNeg) (e1 : n0 = near x.toNatClampNeg) (e2 : o1 = Int32.ofInt 1 <<< (y &&& 31)) (e3 : o2 = o1 ^^^ Int32.ofInt (-1)) (e4 : sd = n0 &&& o2) (e5 : o3 = Int32.ofInt 1 <<< (x &&& 31)) (e6 : al = o3 ^^^ Int32.ofInt (-1)) (hf : FLD near sd al rd) : bt rd y.toNatClampNeg = false ↔ BRG g p := by
  have xc : (x.toNatClampNeg : Int) = x.toInt := by
    show ((x.toInt.toNat : Nat) : Int) = _
    have := ix.1
    omega
  have yc : (y.toNatClampNeg : Int) = y.toInt := by
    show ((y.toInt.toNat : Nat) : Int) = _
    have := iy.1
    omega
  have x32 : x.toNatClampNeg < 32 := by have := ix.2; omega
  have y32 : y.toNatClampNeg < 32 := by have := iy.2; omega
  obtain ⟨X, hX⟩ : ∃ X : Nat, x.toNatClampNeg = X := ⟨_, rfl⟩
  obtain ⟨Y, hY⟩ : ∃ Y : Nat, y.toNatClampNeg = Y := ⟨_, rfl⟩
  rw [hX] at xc x32 hno e1
  rw [hY] at yc y32 hno ⊢
  have hXY : X ≠ Y := by omega
  have hPB := pe_bre (g := g) (p := p) (x := X) (y := Y) (by omega) (by omega)
  have hal : ∀ w, w < 32 → (bt al w = true ↔ w ≠ X) := fun w hw => by
    rw [bt_not e6 hw, bt_one e5 ix, hX]
    simp
  have hsd : ∀ w, bt sd w = true ↔ (X ≠ w ∧ PE g 1 X w ∧ w ≠ Y) := fun w => by
    by_cases hw : w < 32
    · rw [bt_and e4, Bool.and_eq_true, bt_not e3 hw, bt_one e2 iy, hY, e1]
      have q := hN X w
      constructor
      · rintro ⟨a, b⟩
        have r := q.mp ⟨x32, a, bt_m1 hw⟩
        exact ⟨r.1, r.2, by simpa using b⟩
      · rintro ⟨a, b, c⟩
        exact ⟨(q.mpr ⟨a, b⟩).2.1, by simpa using c⟩
    · constructor
      · intro h; exact absurd (bt_lt h) hw
      · rintro ⟨a, b, -⟩
        exact absurd (bt_lt ((hN X w).mpr ⟨a, b⟩).2.1) hw
  have key : bt rd Y = true ↔ wlq (BRE g p) X Y := by
    rw [hf Y]
    constructor
    · rintro ⟨c, hc, j, hj⟩
      obtain ⟨c1, c2, c3⟩ := (hsd c).mp hc
      have go : ∀ (j u : Nat), u ≠ X → wkq (FEQ near al) j u Y → wlq (BRE g p) u Y := by
        intro j
        induction j with
        | zero => intro u hu h; rw [show u = Y from h]; exact wl_0
        | succ j ih =>
          intro u hu h
          obtain ⟨w, hw, h2⟩ := h
          have r := (hN u w).mp ⟨hw.1, hw.2.1, bt_m1 (bt_lt hw.2.1)⟩
          have wX := (hal w (bt_lt hw.2.1)).mp hw.2.2
          rcases hPB u w r.2 with q | ⟨q, -⟩ | ⟨-, q⟩
          · exact wl_tr (wl_1 q) (ih w wX h2)
          · exact absurd q hu
          · exact absurd q wX
      rcases hPB X c c2 with q | ⟨-, q⟩ | ⟨q, -⟩
      · exact wl_tr (wl_1 q) (go j c (fun e => c1 e.symm) hj)
      · exact absurd q c3
      · exact absurd q hXY
    · intro h
      obtain ⟨j, hj⟩ := h
      have st : ∃ c, BRE g p X c ∧ c ≠ X ∧ wlq (fun u w => BRE g p u w ∧ w ≠ X) c Y := by
        rcases wl_last hXY j X hj with q | q
        · obtain ⟨i, hi⟩ := q
          cases i with
          | zero => exact absurd (show X = Y from hi) hXY
          | succ i =>
            obtain ⟨c, hc, hw⟩ := hi
            exact ⟨c, hc.1, hc.2, i, hw⟩
        · exact q
      obtain ⟨c, c1, c2, c3⟩ := st
      refine ⟨c, (hsd c).mpr ⟨fun e => c2 e.symm, bre_pe X c c1, fun e => hno (by rw [← e]; exact c1)⟩, ?_⟩
      refine wl_mono (fun u w q => ?_) (wl_loop c3)
      have r := (hN u w).mpr ⟨q.1, bre_pe u w q.2.1⟩
      exact ⟨r.1, r.2.1, (hal w (bt_lt r.2.1)).mpr q.2.2⟩
  have kf : bt rd Y = false ↔ ¬ wlq (BRE g p) X Y := by
    rw [← key]
    cases bt rd Y <;> simp
  rw [kf]
  constructor
  · intro h
    exact ⟨X, Y, by omega, by omega, h⟩
  · rintro ⟨x', y', h1, h2, h3⟩
    have ex : x' = X := by omega
    have ey : y' = Y := by omega
    rw [ex, ey] at h3
    exact h3
theorem brg_0 {g : GVW} {p x y : Nat} (hx : ARE g 0 p = (x : Int)) (hy : ARE g 1 p = (y : Int)) (h : wlq (BRE g p) x y) : ¬ BRG g p := by
  rintro ⟨x', y', h1, h2, h3⟩
  have ex : x' = x := by omega
  have ey : y' = y := by omega
  rw [ex, ey] at h3
  exact h3 h
end
section
/-! BRIDGES -/
def BHP (g : GVW) (x : Int32) : Prop := In x 0 159 ∧ ARE g 0 x.toNatClampNeg ≠ -1
theorem clx {x : Int32} (h : 0 ≤ x.toInt) : ((x.toNatClampNeg : Nat) : Int) = x.toInt := by
  show ((x.toInt.toNat : Nat) : Int) = _
  omega
theorem bhp_l {g : GVW} {x : Int32} (h : BHP g x) : x.toNatClampNeg < 160 := by
  have a := clx h.1.1
  have b := h.1.2
  omega
theorem bhp_t {g : GVW} {x : Int32} {T : Int} (hq : ∀ p : Nat, p < 160 → (g.2.1 p).toInt ≠ -1 → (p : Int) < T) (h : T ≤ x.toInt) (h0 : 0 ≤ x.toInt) : ¬ BHP g x := by
  intro k
  have l := bhp_l k
  have c := k.2
  rw [are_f l rfl] at c
  have a := hq _ l c
  have b := clx h0
  omega
theorem bhp_n {g : GVW} {x : Int32} (h : (g.2.1 x.toNatClampNeg).toInt = -1) : ¬ BHP g x := fun k => k.2 (are_no h)
theorem bhp_y {g : GVW} {x f : Int32} (h0 : 0 ≤ x.toInt) (h1 : x.toInt ≤ 159) (e : f = g.2.1 x.toNatClampNeg) (hf : f.toInt ≠ -1) : BHP g x := by
  have a := clx h0
  exact ⟨⟨h0, h1⟩, by rw [are_f (by omega) rfl, ← e]; exact hf⟩
theorem bhp_e {g h : GVW} (q : GEW g h) {x : Int32} : BHP g x ↔ BHP h x := by
  constructor
  · intro k
    exact ⟨k.1, by rw [← are_e q (bhp_l k)]; exact k.2⟩
  · intro k
    exact ⟨k.1, by rw [are_e q (bhp_l k)]; exact k.2⟩
theorem brg_iff {g h : GVW} (q : GEW g h) {p : Nat} (hp : p < 160) : BRG g p ↔ BRG h p := by
  have e : BRE h p = BRE g p := by
    funext u w
    refine propext ⟨fun ⟨r, a, b, c⟩ => ⟨r, a, b, by rw [are_e q a, are_e q a]; exact c⟩, fun ⟨r, a, b, c⟩ => ⟨r, a, b, by rw [← are_e q a, ← are_e q a]; exact c⟩⟩
  unfold BRG
  rw [e, are_e q hp, are_e q hp]
theorem ar01 {g : GVW} {p : Nat} {f t : Int32} (hp : p < 160) (hf : f = g.2.1 p) (ht : t = g.2.2.1 p) (h0 : 0 ≤ f.toInt) : ARE g 0 p = f.toInt ∧ ARE g 1 p = t.toInt := ⟨by rw [are_f hp rfl, ← hf], by rw [are_t hp (by rw [← hf]; omega) (by decide), ← ht]⟩
theorem brg_m1 {g : GVW} {p : Nat} (h : (g.2.1 p).toInt = -1) : ¬ BRG g p := by
  rintro ⟨x, y, h1, -⟩
  rw [are_no h] at h1
  omega
theorem brg_lp {g : GVW} {p : Nat} {f t : Int32} (hp : p < 160) (hf : f = g.2.1 p) (ht : t = g.2.2.1 p) (h0 : 0 ≤ f.toInt) (e : f.toInt = t.toInt) : ¬ BRG g p := by
  obtain ⟨a, b⟩ := ar01 hp hf ht h0
  have c := clx h0
  exact brg_0 (x := f.toNatClampNeg) (y := f.toNatClampNeg) (by omega) (by omega) wl_0
theorem brg_par {g : GVW} {p q : Nat} {a b f t : Int32} (hp : p < 160) (hq : q < 160) (hne : q ≠ p) (ha : a = g.2.1 p) (hb : b = g.2.2.1 p) (ia : In a 0 31) (ib : In b 0 31) (hf : f = g.2.1 q) (ht : t = g.2.2.1 q) (h0 : 0 ≤ f.toInt) (e : (f.toInt = a.toInt ∧ t.toInt = b.toInt) ∨ (f.toInt = b.toInt ∧ t.toInt = a.toInt)) : ¬ BRG g p := by
  obtain ⟨a1, a2⟩ := ar01 hp ha hb ia.1
  obtain ⟨f1, f2⟩ := ar01 hq hf ht h0
  have ca := clx ia.1
  have cb := clx ib.1
  refine brg_0 (x := a.toNatClampNeg) (y := b.toNatClampNeg) (by omega) (by omega) (wl_1 ⟨q, hq, hne, ?_⟩)
  rw [f1, f2]
  rcases e with ⟨e1, e2⟩ | ⟨e1, e2⟩
  · exact Or.inl ⟨by omega, by omega⟩
  · exact Or.inr ⟨by omega, by omega⟩
/-- no arc below k beside p that joins a and b -/
def BRN (g : GVW) (p : Nat) (a b : Int) (k : Nat) : Prop := ∀ q : Nat, q < k → q < 160 → q ≠ p → ¬ ((ARE g 0 q = a ∧ ARE g 1 q = b) ∨ (ARE g 0 q = b ∧ ARE g 1 q = a))
section BRN
variable {g : GVW} {p k : Nat} {a b : Int}
theorem brn_0 : BRN g p a b 0 := fun q h => absurd h (Nat.not_lt_zero q)
theorem brn_k (h : BRN g p a b k) (hn : k < 160 → k ≠ p → ¬ ((ARE g 0 k = a ∧ ARE g 1 k = b) ∨ (ARE g 0 k = b ∧ ARE g 1 k = a))) : BRN g p a b (k + 1) := by
  intro q h1 h2 h3
  by_cases c : q = k
  · rw [c] at h2 h3 ⊢
    exact hn h2 h3
  · exact h q (by omega) h2 h3
theorem brn_p (h : BRN g p a b k) (e : k = p) : BRN g p a b (k + 1) := brn_k h (fun _ z => absurd e z)
theorem brn_m (h : BRN g p a b k) {f : Int32} (hf : f = g.2.1 k) (e : f.toInt = -1) (ha : 0 ≤ a) (hb : 0 ≤ b) : BRN g p a b (k + 1) := brn_k h (fun _ _ z => by
  rw [are_no (by rw [← hf]; exact e)] at z
  rcases z with ⟨z, -⟩ | ⟨z, -⟩ <;> omega)
theorem brn_s (h : BRN g p a b k) {f t : Int32} (hf : f = g.2.1 k) (ht : t = g.2.2.1 k) (h0 : 0 ≤ f.toInt) (hn : ¬ ((f.toInt = a ∧ t.toInt = b) ∨ (f.toInt = b ∧ t.toInt = a))) : BRN g p a b (k + 1) := brn_k h (fun hk _ z => by
  obtain ⟨f1, f2⟩ := ar01 hk hf ht h0
  rw [f1, f2] at z
  exact hn z)
end BRN
theorem are_top {g : GVW} {T : Int} {k : Nat} (hq : ∀ p : Nat, p < 160 → (g.2.1 p).toInt ≠ -1 → (p : Int) < T) (hk : T ≤ (k : Int)) : ∀ q, k ≤ q → q < 160 → ARE g 0 q = -1 := by
  intro q h1 h2
  rw [are_f h2 rfl]
  exact Classical.byContradiction fun z => by
    have a := hq q h2 z
    omega
theorem brn_e {g : GVW} {p T : Nat} {x y : Int32} (h : BRN g p x.toInt y.toInt T) (ix : In x 0 31) (iy : In y 0 31) (hq : ∀ q, T ≤ q → q < 160 → ARE g 0 q = -1) : ¬ BRE g p x.toNatClampNeg y.toNatClampNeg := by
  rintro ⟨q, h1, h2, h3⟩
  have x0 := ix.1
  have y0 := iy.1
  rw [clx x0, clx y0] at h3
  by_cases c : q < T
  · exact h q c h1 h2 h3
  · have a := hq q (by omega) h1
    rcases h3 with ⟨z, -⟩ | ⟨z, -⟩ <;> omega
theorem bt_f0 {z : Int32} {b : Bool} (h : z.toInt = if b then 1 else 0) (c : z.toInt = 0) : b = false := by
  cases b
  · rfl
  · rw [c] at h
    exact absurd h (by decide)
theorem bt_t1 {z : Int32} {b : Bool} (h : z.toInt = if b then 1 else 0) (c : z.toInt ≠ 0) : b = true := by
  cases b
  · exact absurd h c
  · rfl
/-! the reference -/
theorem cla_m {s : GS} (hI : Inv s) : ∀ a, a < 160 → ∀ u v : Nat, (ARE (gvZ s) 0 a = (u : Int) ∧ ARE (gvZ s) 1 a = (v : Int)) ↔ (CLA s (-1) (-1) a ∧ (s.1 113 (bs s + a)).toNatClampNeg = u ∧ (s.1 114 (bs s + a)).toNatClampNeg = v) := by
  have k2 : (s.2.2.1 109 19).toInt = 160 * (s.2.2.1 109 18).toInt := hI.2.2.2.2.2.2.2.2.2.1
  have i18 := inv_F hI (z := s.2.2.1 109 18) 0 1 rfl rfl
  have eb : bs s = 160 * (s.2.2.1 109 18).toNatClampNeg := by
    show (s.2.2.1 109 19).toInt.toNat = 160 * (s.2.2.1 109 18).toInt.toNat
    have := i18.1
    omega
  have l18 : (s.2.2.1 109 18).toNatClampNeg ≤ 1 := by
    show (s.2.2.1 109 18).toInt.toNat ≤ 1
    have := i18.2
    omega
  have rg : ∀ a, a < 160 → In (s.1 113 (bs s + a)) 0 31 ∧ In (s.1 114 (bs s + a)) 0 31 := fun a ha => by
    have hl : bs s + a < 480 := by rw [eb]; omega
    exact ⟨hI.1.1 113 _ (Nat.lt_of_lt_of_le hl (Nat.le_of_ble_eq_true rfl)), hI.1.1 114 _ (Nat.lt_of_lt_of_le hl (Nat.le_of_ble_eq_true rfl))⟩
  intro a ha u v
  obtain ⟨⟨r1, r2⟩, r3, r4⟩ := rg a ha
  have c1 : (s.1 113 (bs s + a)).toNatClampNeg = (s.1 113 (bs s + a)).toInt.toNat := rfl
  have c2 : (s.1 114 (bs s + a)).toNatClampNeg = (s.1 114 (bs s + a)).toInt.toNat := rfl
  by_cases c : (s.1 112 (bs s + a)).toInt = 0
  · rw [are_no (tg_no (g := (s.2.2.1 109 18).toNatClampNeg) (x := s.1 112 (bs s + a)) (by rw [eb]) c)]
    constructor
    · intro q
      have := q.1
      omega
    · intro q
      exact absurd c q.1.1
  · have hl : 160 * (s.2.2.1 109 18).toNatClampNeg + a < 480 := by omega
    have ne := tg_ne hI (x := s.1 112 (bs s + a)) (by rw [eb]) c hl
    have f0 : ARE (gvZ s) 0 a = (s.1 113 (bs s + a)).toInt := by
      rw [are_f ha rfl, ← tg_is (x := s.1 112 (bs s + a)) (f := s.1 113 (bs s + a)) (by rw [eb]) c (by rw [eb])]
    have f1 : ARE (gvZ s) 1 a = (s.1 114 (bs s + a)).toInt := by
      rw [are_t ha ne (by decide), eb]
      rfl
    rw [f0, f1]
    constructor
    · rintro ⟨q1, q2⟩
      exact ⟨⟨c, by omega, by omega, by omega⟩, by omega, by omega⟩
    · rintro ⟨-, q1, q2⟩
      exact ⟨by omega, by omega⟩
theorem arz_n {s : GS} (hI : Inv s) {p : Nat} {x : Int32} (e : x = s.1 112 (bs s + p)) (h : x.toInt = 0) : ARE (gvZ s) 0 p = -1 := by
  have k2 : (s.2.2.1 109 19).toInt = 160 * (s.2.2.1 109 18).toInt := hI.2.2.2.2.2.2.2.2.2.1
  have i18 := inv_F hI (z := s.2.2.1 109 18) 0 1 rfl rfl
  have eb : bs s = 160 * (s.2.2.1 109 18).toNatClampNeg := by
    show (s.2.2.1 109 19).toInt.toNat = 160 * (s.2.2.1 109 18).toInt.toNat
    have := i18.1
    omega
  exact are_no (tg_no (g := (s.2.2.1 109 18).toNatClampNeg) (x := x) (by rw [e, eb]) h)
theorem arz_y {s : GS} (hI : Inv s) {p : Nat} (hp : p < 160) {x : Int32} (e : x = s.1 112 (bs s + p)) (h : x.toInt ≠ 0) : ARE (gvZ s) 0 p = ((s.1 113 (bs s + p)).toNatClampNeg : Int) ∧ ARE (gvZ s) 1 p = ((s.1 114 (bs s + p)).toNatClampNeg : Int) := by
  rw [e] at h
  have r := arc_n hI hp h
  have r1 := r.1.1.1
  have r2 := r.2.1.1.1
  exact (cla_m hI p hp _ _).mpr ⟨⟨h, by omega, by omega, by omega⟩, rfl, rfl⟩
theorem cle_br {s : GS} (hI : Inv s) {p : Nat} : ∀ u v, CLE s 1 (p : Int) (-1) u v ↔ BRE (gvZ s) p u v := by
  intro u v
  constructor
  · rintro ⟨a, ha, hc, he⟩
    have hc' : CLA s (-1) (-1) a := ⟨hc.1, by omega, hc.2.2.1, hc.2.2.2⟩
    have hne : a ≠ p := fun z => hc.2.1 (by rw [z])
    rcases he with ⟨e1, e2⟩ | ⟨-, e1, e2⟩
    · exact ⟨a, ha, hne, Or.inl ((cla_m hI a ha u v).mpr ⟨hc', e1, e2⟩)⟩
    · exact ⟨a, ha, hne, Or.inr ((cla_m hI a ha v u).mpr ⟨hc', e2, e1⟩)⟩
  · rintro ⟨a, ha, hne, h | h⟩
    · obtain ⟨q0, q1, q2⟩ := (cla_m hI a ha u v).mp h
      exact ⟨a, ha, ⟨q0.1, by omega, q0.2.2.1, q0.2.2.2⟩, Or.inl ⟨q1, q2⟩⟩
    · obtain ⟨q0, q1, q2⟩ := (cla_m hI a ha v u).mp h
      exact ⟨a, ha, ⟨q0.1, by omega, q0.2.2.1, q0.2.2.2⟩, Or.inr ⟨by decide, q2, q1⟩⟩
theorem brg_r {s : GS} (hI : Inv s) {p n : Nat} (hn : (n : Int) = nmx s) (hp : p < 160) {x : Int32} (e : x = s.1 112 (bs s + p)) (h : x.toInt ≠ 0) : cnP (WPP s (-1) (-1)) n < cnP (WPP s (p : Int) (-1)) n ↔ BRG (gvZ s) p := by
  have e1 : cnP (WPP s (-1) (-1)) n = cnP (LST (PE (gvZ s) 1)) n := cnP_eq (fun u _ => by
    unfold WPP LST
    constructor
    · intro h j hj hw
      exact h.2 j hj ((wl_iff (cle_pe hI)).mpr hw)
    · intro h
      exact ⟨by omega, fun j hj hw => h j hj ((wl_iff (cle_pe hI)).mp hw)⟩)
  have e2 : cnP (WPP s (p : Int) (-1)) n = cnP (LST (BRE (gvZ s) p)) n := cnP_eq (fun u _ => by
    unfold WPP LST
    constructor
    · intro h j hj hw
      exact h.2 j hj ((wl_iff (cle_br hI)).mpr hw)
    · intro h
      exact ⟨by omega, fun j hj hw => h j hj ((wl_iff (cle_br hI)).mp hw)⟩)
  obtain ⟨a1, a2⟩ := arz_y hI hp e h
  rw [e] at h
  have r := arc_n hI hp h
  have n1 := (nat_jn r.1.1 r.1.2).2
  have n2 := (nat_jn r.2.1.1 r.2.1.2).2
  have hn2 : (n : Int) = (s.2.2.1 109 20).toInt := hn
  rw [e1, e2, cn_bridge (x := (s.1 113 (bs s + p)).toNatClampNeg) (y := (s.1 114 (bs s + p)).toNatClampNeg) pe_s bre_s bre_pe (pe_bre a1 a2) (Or.inl ⟨p, hp, a1, a2⟩) (by omega) (by omega)]
  constructor
  · intro h
    exact ⟨_, _, a1, a2, h⟩
  · rintro ⟨x', y', h1, h2, h3⟩
    have ex : x' = (s.1 113 (bs s + p)).toNatClampNeg := by omega
    have ey : y' = (s.1 114 (bs s + p)).toNatClampNeg := by omega
    rw [ex, ey] at h3
    exact h3
def BRR (s t : GS) (x z : Int32) : Prop := ((t.2.2.1 109 0).toInt = 1 ∧ ¬ BHP (gvZ s) x) ∨ ((t.2.2.1 109 0).toInt = 0 ∧ BHP (gvZ s) x ∧ (z.toInt ≠ 0 ↔ BRG (gvZ s) x.toNatClampNeg))
end
section
/-! THE ROWS OF A TIED GRAPH -/
/-- ends of arcs are nodes -/
def NDQ (g : GVW) : Prop := ∀ p : Nat, p < 160 → (g.2.1 p).toInt ≠ -1 → (0 ≤ (g.2.1 p).toInt ∧ (g.2.1 p).toInt < g.2.2.2.2.2.2.1) ∧ (0 ≤ (g.2.2.1 p).toInt ∧ (g.2.2.1 p).toInt < g.2.2.2.2.2.2.1)
abbrev NDC (s : GS) : Prop := NDQ (shC s)
theorem are_ne {g : GVW} {p : Nat} {w : Int} {u : Nat} (h : ARE g w p = (u : Int)) : (g.2.1 p).toInt ≠ -1 := fun z => by
  rw [are_no z] at h
  omega
theorem ndq_a {g : GVW} (h : NDQ g) {p u v : Nat} (hp : p < 160) (hu : ARE g 0 p = (u : Int)) (hv : ARE g 1 p = (v : Int)) : (u : Int) < g.2.2.2.2.2.2.1 ∧ (v : Int) < g.2.2.2.2.2.2.1 := by
  have ne := are_ne hu
  obtain ⟨⟨-, a⟩, -, b⟩ := h p hp ne
  rw [are_f hp rfl] at hu
  rw [are_t hp ne (by decide)] at hv
  exact ⟨by omega, by omega⟩
theorem ndq_z {s : GS} (hI : Inv s) : NDQ (gvZ s) := by
  intro p hp ne
  have th : (s.1 112 (bs s + p)).toInt ≠ 0 := fun z => ne (by
    have m := arz_n hI (p := p) rfl z
    rw [are_f hp rfl] at m
    exact m)
  have r := arc_n hI hp th
  have n1 := (nat_jn r.1.1 r.1.2).2
  have n2 := (nat_jn r.2.1.1 r.2.1.2).2
  obtain ⟨a1, a2⟩ := arz_y hI hp rfl th
  rw [are_f hp rfl] at a1
  rw [are_t hp ne (by decide)] at a2
  have en : (gvZ s).2.2.2.2.2.2.1 = (s.2.2.1 109 20).toInt := by
    have k : s.2.2.1 109 20 = s.1 110 (s.2.2.1 109 18).toNatClampNeg := hI.2.2.2.2.2.2.2.2.2.2
    rw [k]
    rfl
  rw [en]
  exact ⟨⟨by omega, by omega⟩, by omega, by omega⟩
theorem ndq_e {g h : GVW} (q : GEW g h) (k : NDQ h) : NDQ g := by
  intro p hp ne
  have e1 := q.2.1 p hp
  have e2 := (q.2.2.1 p hp ne).1
  have en := q.2.2.2
  rw [e1] at ne
  have r := k p hp ne
  rw [e1, e2, en]
  exact r
theorem cn_inj {F : Nat → Int} {v : Int} {p q : Nat} (hp : F p = v) (hq : F q = v) (e : cn F v p = cn F v q) : p = q := by
  rcases Nat.lt_trichotomy p q with c | c | c
  · have m := cn_mono F v (show p + 1 ≤ q by omega)
    rw [cn_hit hp] at m
    omega
  · exact c
  · have m := cn_mono F v (show q + 1 ≤ p by omega)
    rw [cn_hit hq] at m
    omega
theorem row_k {F : Nat → Int} {T : Nat} {oa os : Nat → Int32} (h160 : T ≤ 160) (hQ : ∀ p, T ≤ p → p < 160 → F p = -1) (hA : ∀ v, v ≤ 32 → (oa v).toInt = pr F T v) (hO : RWS F T os 0) {x a0 a1 : Int32} (i1 : In x 0 31) (h0 : a0 = oa x.toNatClampNeg) (h1 : a1 = oa (x.toInt + 1).toNat) : (∀ j z : Int32, a0.toInt ≤ j.toInt → j.toInt < a1.toInt → z = os j.toNatClampNeg → ∃ p : Nat, p < 160 ∧ F p = x.toInt ∧ cn F x.toInt p = j.toInt - a0.toInt ∧ z.toInt = (p : Int)) ∧ (∀ p, p < 160 → F p = x.toInt → cn F x.toInt p < a1.toInt - a0.toInt) ∧ a0.toInt ≤ a1.toInt ∧ a1.toInt - a0.toInt = cn F x.toInt 160 := by
  obtain ⟨v, hv⟩ : ∃ v : Nat, x.toInt = (v : Int) := ⟨x.toInt.toNat, by have := i1.1; omega⟩
  have e0 : x.toNatClampNeg = v := by show x.toInt.toNat = v; omega
  have e1 : (x.toInt + 1).toNat = v + 1 := by omega
  have hv31 : v ≤ 31 := by have := i1.2; omega
  rw [e0] at h0
  rw [e1] at h1
  have q0 := hA v (by omega)
  have q1 := hA (v + 1) (by omega)
  rw [← h0] at q0
  rw [← h1] at q1
  have e2 : pr F T (v + 1) = pr F T v + cn F (v : Int) T := rfl
  have ct := cn_top (u := (v : Int)) (Int.natCast_nonneg v) hQ (160 - T) (by omega)
  rw [show T + (160 - T) = 160 by omega] at ct
  have c0 := cn_0 F (v : Int) T
  rw [hv]
  refine ⟨fun j z g1 g2 hz => ?_, fun p hp hf => ?_, by omega, by omega⟩
  · obtain ⟨p, a, b, c⟩ := cn_ex (r := j.toInt - a0.toInt) (by omega) (n := T) (F := F) (u := (v : Int)) (by omega)
    have o := hO p v (Nat.zero_le _) a (by omega) b
    have ej : a0.toInt + (j.toInt - a0.toInt) = j.toInt := by omega
    rw [c, ← q0, ej] at o
    have hz2 : z = os j.toInt.toNat := hz
    rw [← hz2] at o
    exact ⟨p, by omega, b, c, o⟩
  · have m := cn_mono F (v : Int) (show p + 1 ≤ 160 by omega)
    rw [cn_hit hf] at m
    omega
theorem row_2_0 {s t : GS} {L : FM} (hI : Inv t) (hF : Fr L s t) (q4 : qI L.1 4 = true) (q5 : qI L.1 5 = true) (q3 : qF L.2.2.1 2 3 = true) (hv : (t.2.2.1 2 4).toInt = (t.2.2.1 2 0).toInt) (hq : TQ s) {x a0 a1 : Int32} (i1 : In x 0 31) (h0 : a0 = t.1 12 x.toNatClampNeg) (h1 : a1 = t.1 12 (x.toInt + 1).toNat) : (∀ j z : Int32, a0.toInt ≤ j.toInt → j.toInt < a1.toInt → z = t.1 13 j.toNatClampNeg → ∃ p : Nat, p < 160 ∧ ARE (gvC s) 0 p = x.toInt ∧ cn (ARE (gvC s) 0) x.toInt p = j.toInt - a0.toInt ∧ z.toInt = (p : Int)) ∧ (∀ p, p < 160 → ARE (gvC s) 0 p = x.toInt → cn (ARE (gvC s) 0) x.toInt p < a1.toInt - a0.toInt) ∧ a0.toInt ≤ a1.toInt ∧ a1.toInt - a0.toInt = cn (ARE (gvC s) 0) x.toInt 160 := by
  have h := tg_2 hI hv
  rw [hF.1 4 q4, hF.1 5 q5, hF.2.2.1 2 3 q3] at h
  have i3 : In (s.2.2.1 2 3) 0 160 := by rw [← hF.2.2.1 2 3 q3]; exact inv_F hI 0 160 rfl rfl
  have i30 := i3.1
  have i31 := i3.2
  have eE : ARE (gvC s) 0 = gF (s.1 4) := by
    funext p
    exact if_pos rfl
  rw [eE]
  exact row_k (by omega) (gf_top (fun p hp hn => by have := hq p hp hn; omega)) (fun v hv => (h.1 v hv).1) h.2.1 i1 h0 h1
theorem row_2_1 {s t : GS} {L : FM} (hI : Inv t) (hF : Fr L s t) (q4 : qI L.1 4 = true) (q5 : qI L.1 5 = true) (q3 : qF L.2.2.1 2 3 = true) (hv : (t.2.2.1 2 4).toInt = (t.2.2.1 2 0).toInt) (hq : TQ s) {x a0 a1 : Int32} (i1 : In x 0 31) (h0 : a0 = t.1 14 x.toNatClampNeg) (h1 : a1 = t.1 14 (x.toInt + 1).toNat) : (∀ j z : Int32, a0.toInt ≤ j.toInt → j.toInt < a1.toInt → z = t.1 15 j.toNatClampNeg → ∃ p : Nat, p < 160 ∧ ARE (gvC s) 1 p = x.toInt ∧ cn (ARE (gvC s) 1) x.toInt p = j.toInt - a0.toInt ∧ z.toInt = (p : Int)) ∧ (∀ p, p < 160 → ARE (gvC s) 1 p = x.toInt → cn (ARE (gvC s) 1) x.toInt p < a1.toInt - a0.toInt) ∧ a0.toInt ≤ a1.toInt ∧ a1.toInt - a0.toInt = cn (ARE (gvC s) 1) x.toInt 160 := by
  have h := tg_2 hI hv
  rw [hF.1 4 q4, hF.1 5 q5, hF.2.2.1 2 3 q3] at h
  have i3 : In (s.2.2.1 2 3) 0 160 := by rw [← hF.2.2.1 2 3 q3]; exact inv_F hI 0 160 rfl rfl
  have i30 := i3.1
  have i31 := i3.2
  have eE : ARE (gvC s) 1 = gG (s.1 4) (s.1 5) := by
    funext p
    exact if_neg (by decide)
  rw [eE]
  exact row_k (by omega) (gg_top (fun p hp hn => by have := hq p hp hn; omega)) (fun v hv => (h.1 v hv).2) h.2.2.1 i1 h0 h1
theorem row_32_0 {s t : GS} {L : FM} (hI : Inv t) (hF : Fr L s t) (q4 : qI L.1 34 = true) (q5 : qI L.1 35 = true) (q3 : qF L.2.2.1 32 3 = true) (hv : (t.2.2.1 32 4).toInt = (t.2.2.1 32 0).toInt) (hq : TQD s) {x a0 a1 : Int32} (i1 : In x 0 31) (h0 : a0 = t.1 42 x.toNatClampNeg) (h1 : a1 = t.1 42 (x.toInt + 1).toNat) : (∀ j z : Int32, a0.toInt ≤ j.toInt → j.toInt < a1.toInt → z = t.1 43 j.toNatClampNeg → ∃ p : Nat, p < 160 ∧ ARE (gvD s) 0 p = x.toInt ∧ cn (ARE (gvD s) 0) x.toInt p = j.toInt - a0.toInt ∧ z.toInt = (p : Int)) ∧ (∀ p, p < 160 → ARE (gvD s) 0 p = x.toInt → cn (ARE (gvD s) 0) x.toInt p < a1.toInt - a0.toInt) ∧ a0.toInt ≤ a1.toInt ∧ a1.toInt - a0.toInt = cn (ARE (gvD s) 0) x.toInt 160 := by
  have h := tg_32 hI hv
  rw [hF.1 34 q4, hF.1 35 q5, hF.2.2.1 32 3 q3] at h
  have i3 : In (s.2.2.1 32 3) 0 160 := by rw [← hF.2.2.1 32 3 q3]; exact inv_F hI 0 160 rfl rfl
  have i30 := i3.1
  have i31 := i3.2
  have eE : ARE (gvD s) 0 = gF (s.1 34) := by
    funext p
    exact if_pos rfl
  rw [eE]
  exact row_k (by omega) (gf_top (fun p hp hn => by have := hq p hp hn; omega)) (fun v hv => (h.1 v hv).1) h.2.1 i1 h0 h1
theorem row_32_1 {s t : GS} {L : FM} (hI : Inv t) (hF : Fr L s t) (q4 : qI L.1 34 = true) (q5 : qI L.1 35 = true) (q3 : qF L.2.2.1 32 3 = true) (hv : (t.2.2.1 32 4).toInt = (t.2.2.1 32 0).toInt) (hq : TQD s) {x a0 a1 : Int32} (i1 : In x 0 31) (h0 : a0 = t.1 44 x.toNatClampNeg) (h1 : a1 = t.1 44 (x.toInt + 1).toNat) : (∀ j z : Int32, a0.toInt ≤ j.toInt → j.toInt < a1.toInt → z = t.1 45 j.toNatClampNeg → ∃ p : Nat, p < 160 ∧ ARE (gvD s) 1 p = x.toInt ∧ cn (ARE (gvD s) 1) x.toInt p = j.toInt - a0.toInt ∧ z.toInt = (p : Int)) ∧ (∀ p, p < 160 → ARE (gvD s) 1 p = x.toInt → cn (ARE (gvD s) 1) x.toInt p < a1.toInt - a0.toInt) ∧ a0.toInt ≤ a1.toInt ∧ a1.toInt - a0.toInt = cn (ARE (gvD s) 1) x.toInt 160 := by
  have h := tg_32 hI hv
  rw [hF.1 34 q4, hF.1 35 q5, hF.2.2.1 32 3 q3] at h
  have i3 : In (s.2.2.1 32 3) 0 160 := by rw [← hF.2.2.1 32 3 q3]; exact inv_F hI 0 160 rfl rfl
  have i30 := i3.1
  have i31 := i3.2
  have eE : ARE (gvD s) 1 = gG (s.1 34) (s.1 35) := by
    funext p
    exact if_neg (by decide)
  rw [eE]
  exact row_k (by omega) (gg_top (fun p hp hn => by have := hq p hp hn; omega)) (fun v hv => (h.1 v hv).2) h.2.2.1 i1 h0 h1
theorem all_a {u z1 z : Int32} (e1 : z1 = Int32.ofInt 1 <<< (u &&& 31)) (e : z = z1 - Int32.ofInt 1) (hu : In u 0 31) (v : Nat) : bt z v = true ↔ (v : Int) < u.toInt := by
  have h1 := hu.2
  constructor
  · intro h
    rw [bt_all e1 e hu (bt_lt h)] at h
    exact of_decide_eq_true h
  · intro h
    rw [bt_all e1 e hu (by omega)]
    exact decide_eq_true h
theorem all_b {n : Int} (hn : n = 32) (v : Nat) : bt (Int32.ofInt (-1)) v = true ↔ (v : Int) < n := by
  rw [hn]
  exact ⟨fun h => by have := bt_lt h; omega, fun h => bt_m1 (by omega)⟩
/-- two nodes that are not the same -/
abbrev TWO (n : Int) (x y : Int32) : Prop := (0 ≤ x.toInt ∧ x.toInt < n) ∧ (0 ≤ y.toInt ∧ y.toInt < n) ∧ x.toInt ≠ y.toInt
end
section
/-! SPANS -/
theorem lmul_t {x y z : Int64} (hz : z = x * y) (h1 : -4000000000000000000 ≤ x.toInt * y.toInt) (h2 : x.toInt * y.toInt ≤ 4000000000000000000) : z.toInt = x.toInt * y.toInt := by
  rw [hz, Int64.toInt_mul]
  exact Int.bmod_eq_of_le (by omega) (by omega)
theorem cnP_top {P : Nat → Prop} : ∀ n : Nat, cnP P n ≤ n
  | 0 => Nat.le_refl _
  | n + 1 => by
    have i := cnP_top (P := P) n
    by_cases c : P n
    · rw [cnP_y c]; omega
    · rw [cnP_n c]; omega
/-- a walk that comes to each node once at most -/
theorem wl_short {E : Nat → Nat → Prop} {n l : Nat} (hl : l < n) (hE : ∀ u w, E u w → u < n ∧ w < n) {v : Nat} (h : wlq E v l) : ∃ j, j ≤ n ∧ wkq E j v l := by
  have mono : ∀ k v, (∃ j, j ≤ k ∧ wkq E j v l) → ∃ j, j ≤ k + 1 ∧ wkq E j v l := fun k v ⟨j, hj, hw⟩ => ⟨j, by omega, hw⟩
  have st : ∀ k, (∀ v, (∃ j, j ≤ k + 1 ∧ wkq E j v l) → ∃ j, j ≤ k ∧ wkq E j v l) → ∀ j v, wkq E j v l → ∃ j, j ≤ k ∧ wkq E j v l := by
    intro k hc j
    induction j with
    | zero => intro v hw; exact ⟨0, Nat.zero_le _, hw⟩
    | succ j ih =>
      intro v hw
      obtain ⟨x, hx, hw⟩ := hw
      obtain ⟨i, hi, hwi⟩ := ih x hw
      exact hc v ⟨i + 1, by omega, x, hx, hwi⟩
  have cnt : ∀ k, (∃ k', k' ≤ k ∧ ∀ v, (∃ j, j ≤ k' + 1 ∧ wkq E j v l) → ∃ j, j ≤ k' ∧ wkq E j v l) ∨ k + 1 ≤ cnP (fun v => ∃ j, j ≤ k ∧ wkq E j v l) n := by
    intro k
    induction k with
    | zero =>
      right
      have q := cnP_lt (P := fun _ => False) (Q := fun v => ∃ j, j ≤ 0 ∧ wkq E j v l) n (fun _ _ z => z.elim) l hl ⟨0, Nat.le_refl _, rfl⟩ id
      omega
    | succ k ih =>
      rcases ih with ⟨k', h1, h2⟩ | ih
      · exact Or.inl ⟨k', by omega, h2⟩
      · by_cases c : ∀ v, (∃ j, j ≤ k + 1 ∧ wkq E j v l) → ∃ j, j ≤ k ∧ wkq E j v l
        · exact Or.inl ⟨k, by omega, c⟩
        · right
          obtain ⟨v, hv⟩ := Classical.not_forall.mp c
          obtain ⟨h1, h2⟩ := Classical.not_imp.mp hv
          have vn : v < n := by
            obtain ⟨j, hj, hw⟩ := h1
            cases j with
            | zero => exact absurd ⟨0, Nat.zero_le _, hw⟩ h2
            | succ j =>
              obtain ⟨x, hx, -⟩ := hw
              exact (hE v x hx).1
          have q := cnP_lt (P := fun v => ∃ j, j ≤ k ∧ wkq E j v l) (Q := fun v => ∃ j, j ≤ k + 1 ∧ wkq E j v l) n (fun v _ z => mono k v z) v vn h1 h2
          omega
  rcases cnt n with ⟨k', hk, hc⟩ | big
  · obtain ⟨j, hj⟩ := h
    obtain ⟨i, hi, hw⟩ := st k' hc j v hj
    exact ⟨i, by omega, hw⟩
  · have t := cnP_top (P := fun v => ∃ j, j ≤ n ∧ wkq E j v l) n
    omega
def SPB (g : GVW) (q p : Nat) : Prop := (g.2.2.2.1 q).toInt < (g.2.2.2.1 p).toInt ∨ ((g.2.2.2.1 q).toInt = (g.2.2.2.1 p).toInt ∧ q < p)
/-- joints below k that come before p -/
def SPA (g : GVW) (p k u w : Nat) : Prop := k < 160 ∧ SPB g k p ∧ u ≠ w ∧ ((ARE g 0 k = (u : Int) ∧ ARE g 1 k = (w : Int)) ∨ (ARE g 0 k = (w : Int) ∧ ARE g 1 k = (u : Int)))
def SPK (g : GVW) (p k u w : Nat) : Prop := ∃ q : Nat, q < k ∧ SPA g p q u w
def SPN (g : GVW) (p : Nat) : Prop := ∃ x y : Nat, ARE g 0 p = (x : Int) ∧ ARE g 1 p = (y : Int) ∧ ¬ wlq (SPK g p 160) x y
section SPN
variable {g h : GVW} {p k : Nat}
theorem spa_s {u w : Nat} (h : SPA g p k u w) : SPA g p k w u := ⟨h.1, h.2.1, fun z => h.2.2.1 z.symm, h.2.2.2.elim Or.inr Or.inl⟩
theorem spk_sy : ∀ u w, SPK g p k u w → SPK g p k w u := fun _ _ ⟨q, a, b⟩ => ⟨q, a, spa_s b⟩
theorem spk_s {u w : Nat} : SPK g p (k + 1) u w ↔ (SPK g p k u w ∨ SPA g p k u w) := by
  constructor
  · rintro ⟨q, a, b⟩
    by_cases c : q = k
    · rw [c] at b; exact Or.inr b
    · exact Or.inl ⟨q, by omega, b⟩
  · rintro (⟨q, a, b⟩ | b)
    · exact ⟨q, by omega, b⟩
    · exact ⟨k, by omega, b⟩
theorem spa_e (q : GEW g h) (hp : p < 160) (hpp : (g.2.1 p).toInt ≠ -1) {u w : Nat} : SPA g p k u w ↔ SPA h p k u w := by
  have ww : ∀ j, j < 160 → (g.2.1 j).toInt ≠ -1 → g.2.2.2.1 j = h.2.2.2.1 j := fun j hj c => (q.2.2.1 j hj c).2.1
  constructor
  · rintro ⟨a, b, c, d⟩
    have ne : (g.2.1 k).toInt ≠ -1 := d.elim (fun e => are_ne e.1) (fun e => are_ne e.1)
    refine ⟨a, ?_, c, by rw [← are_e q a, ← are_e q a]; exact d⟩
    unfold SPB at b ⊢
    rw [← ww k a ne, ← ww p hp hpp]
    exact b
  · rintro ⟨a, b, c, d⟩
    rw [← are_e q a, ← are_e q a] at d
    have ne : (g.2.1 k).toInt ≠ -1 := d.elim (fun e => are_ne e.1) (fun e => are_ne e.1)
    refine ⟨a, ?_, c, d⟩
    unfold SPB at b ⊢
    rw [ww k a ne, ww p hp hpp]
    exact b
theorem spk_e (q : GEW g h) (hp : p < 160) (hpp : (g.2.1 p).toInt ≠ -1) : ∀ u w, SPK g p k u w ↔ SPK h p k u w := fun u w => ⟨fun ⟨r, a, b⟩ => ⟨r, a, (spa_e q hp hpp).mp b⟩, fun ⟨r, a, b⟩ => ⟨r, a, (spa_e q hp hpp).mpr b⟩⟩
theorem spn_iff (q : GEW g h) (hp : p < 160) : SPN g p ↔ SPN h p := by
  constructor
  · rintro ⟨x, y, h1, h2, h3⟩
    exact ⟨x, y, by rw [← are_e q hp]; exact h1, by rw [← are_e q hp]; exact h2, fun z => h3 ((wl_iff (spk_e q hp (are_ne h1))).mpr z)⟩
  · rintro ⟨x, y, h1, h2, h3⟩
    rw [← are_e q hp] at h1 h2
    exact ⟨x, y, h1, h2, fun z => h3 ((wl_iff (spk_e q hp (are_ne h1))).mp z)⟩
theorem spn_0 {x y : Nat} (hx : ARE g 0 p = (x : Int)) (hy : ARE g 1 p = (y : Int)) (h : wlq (SPK g p 160) x y) : ¬ SPN g p := by
  rintro ⟨x', y', h1, h2, h3⟩
  have ex : x' = x := by omega
  have ey : y' = y := by omega
  rw [ex, ey] at h3
  exact h3 h
theorem spn_m1 (h : (g.2.1 p).toInt = -1) : ¬ SPN g p := by
  rintro ⟨x, y, h1, -⟩
  exact are_ne h1 h
theorem spn_lp {f t : Int32} (hp : p < 160) (hf : f = g.2.1 p) (ht : t = g.2.2.1 p) (h0 : 0 ≤ f.toInt) (e : f.toInt = t.toInt) : ¬ SPN g p := by
  obtain ⟨a, b⟩ := ar01 hp hf ht h0
  have c := clx h0
  exact spn_0 (x := f.toNatClampNeg) (y := f.toNatClampNeg) (by omega) (by omega) wl_0
/-! the class -/
def SPH (g : GVW) (p k : Nat) (f : Nat → Int32) : Prop := ∀ u w : Nat, u < 32 → (bt (f u) w = true ↔ SPK g p k u w)
theorem sph_0 {f : Nat → Int32} (hz : ∀ u, u < 32 → f u = Int32.ofInt 0) : SPH g p 0 f := fun u w hu => by
  rw [hz u hu]
  constructor
  · intro z
    rw [show (Int32.ofInt 0) = 0 from rfl, bt_z] at z
    cases z
  · rintro ⟨q, a, -⟩
    exact absurd a (Nat.not_lt_zero q)
theorem sph_n {f : Nat → Int32} (h : SPH g p k f) (hn : ∀ u w, ¬ SPA g p k u w) : SPH g p (k + 1) f := fun u w hu => by
  rw [spk_s]
  exact ⟨fun z => Or.inl ((h u w hu).mp z), fun z => z.elim (h u w hu).mpr (fun z => absurd z (hn u w))⟩
theorem spa_m {x : Int32} (hf : x = g.2.1 k) (e : x.toInt = -1) : ∀ u w, ¬ SPA g p k u w := fun u w h => by
  rw [hf] at e
  exact h.2.2.2.elim (fun z => are_ne z.1 e) (fun z => are_ne z.1 e)
theorem spa_l {f t : Int32} (hf : f = g.2.1 k) (ht : t = g.2.2.1 k) (h0 : 0 ≤ f.toInt) (e : f.toInt = t.toInt) : ∀ u w, ¬ SPA g p k u w := fun u w h => by
  obtain ⟨a, b⟩ := ar01 h.1 hf ht h0
  have d := h.2.2.2
  have c := h.2.2.1
  rw [a, b] at d
  rcases d with ⟨d1, d2⟩ | ⟨d1, d2⟩ <;> omega
theorem spa_b (hb : ¬ SPB g k p) : ∀ u w, ¬ SPA g p k u w := fun u w h => hb h.2.1
theorem spb_i {x y : Int32} {k p : Int32} (hx : x = g.2.2.2.1 k.toNatClampNeg) (hy : y = g.2.2.2.1 p.toNatClampNeg) (k0 : 0 ≤ k.toInt) (p0 : 0 ≤ p.toInt) : SPB g k.toNatClampNeg p.toNatClampNeg ↔ (x.toInt < y.toInt ∨ (x.toInt = y.toInt ∧ k.toInt < p.toInt)) := by
  have a := clx k0
  have b := clx p0
  unfold SPB
  rw [← hx, ← hy]
  constructor
  · rintro (h | ⟨h1, h2⟩)
    · exact Or.inl h
    · exact Or.inr ⟨h1, by omega⟩
  · rintro (h | ⟨h1, h2⟩)
    · exact Or.inl h
    · exact Or.inr ⟨h1, by omega⟩
theorem sph_s {f : Nat → Int32} {a b x1 z1 z2 x2 y3 z3 : Int32} (h : SPH g p k f) (hk : k < 160) (hf : a = g.2.1 k) (ht : b = g.2.2.1 k) (i1 : In a 0 31) (i2 : In b 0 31) (ne : a.toInt ≠ b.toInt) (hb : SPB g k p) (e0 : x1 = f a.toNatClampNeg) (e1 : z1 = Int32.ofInt 1 <<< (b &&& 31)) (e2 : z2 = x1 ||| z1) (e3 : x2 = upd f a.toNatClampNeg z2 b.toNatClampNeg) (e4 : y3 = Int32.ofInt 1 <<< (a &&& 31)) (e5 : z3 = x2 ||| y3) : SPH g p (k + 1) (upd (upd f a.toNatClampNeg z2) b.toNatClampNeg z3) := by
  have row := cq_row (f := f) (u := a.toNatClampNeg) (v := b.toNatClampNeg) (z2 := z2) (z3 := z3) (W := True) (fun j => by rw [bt_set e1 e2 i2, Bool.or_eq_true, decide_eq_true_iff, e0]) (fun j => by rw [bt_or e5, Bool.or_eq_true, bt_one e4 i1, decide_eq_true_iff, e3]; simp)
  intro u w hu
  obtain ⟨a0, a1⟩ := ar01 hk hf ht i1.1
  have c1 := clx i1.1
  have c2 := clx i2.1
  rw [row u w, spk_s, h u w hu]
  unfold SPA
  rw [a0, a1]
  constructor
  · rintro (z | ⟨z1, z2⟩ | ⟨-, z1, z2⟩)
    · exact Or.inl z
    · exact Or.inr ⟨hk, hb, by omega, Or.inl ⟨by omega, by omega⟩⟩
    · exact Or.inr ⟨hk, hb, by omega, Or.inr ⟨by omega, by omega⟩⟩
  · rintro (z | ⟨-, -, z0, ⟨z1, z2⟩ | ⟨z1, z2⟩⟩)
    · exact Or.inl z
    · exact Or.inr (Or.inl ⟨by omega, by omega⟩)
    · exact Or.inr (Or.inr ⟨trivial, by omega, by omega⟩)
theorem spn_c {f : Nat → Int32} {T : Nat} {x y sd rd : Int32} (hs : SPH g p T f) (hq : ∀ q, T ≤ q → q < 160 → ARE g 0 q = -1) (hr : ∀ q, q < 160 → (g.2.1 q).toInt ≤ 31 ∧ (g.2.2.1 q).toInt ≤ 31) (ix : In x 0 31) (iy : In y 0 31) (hx : ARE g 0 p = x.toInt) (hy : ARE g 1 p = y.toInt) (e : sd = Int32.ofInt 1 <<< (x &&& 31)) (hf : FLD f sd (Int32.ofInt (-1)) rd) : bt rd y.toNatClampNeg = false ↔ SPN g p := by
  have hE : ∀ u w, FEQ f (Int32.ofInt (-1)) u w ↔ SPK g p 160 u w := fun u w => by
    constructor
    · rintro ⟨h1, h2, -⟩
      obtain ⟨q, a, b⟩ := (hs u w h1).mp h2
      exact ⟨q, b.1, b⟩
    · rintro ⟨q, a, b⟩
      have qT : q < T := Classical.byContradiction fun z => by
        have m := hq q (by omega) a
        have d := b.2.2.2
        rw [m] at d
        rcases d with ⟨d1, -⟩ | ⟨d1, -⟩ <;> omega
      have u32 : u < 32 := by
        have r := hr q a
        have n1 : (g.2.1 q).toInt ≠ -1 := b.2.2.2.elim (fun z => are_ne z.1) (fun z => are_ne z.1)
        have d := b.2.2.2
        rw [are_f a rfl, are_t a n1 (by decide)] at d
        rcases d with ⟨d1, d2⟩ | ⟨d1, d2⟩ <;> omega
      have k := (hs u w u32).mpr ⟨q, qT, b⟩
      exact ⟨u32, k, bt_m1 (bt_lt k)⟩
  have c1 := clx ix.1
  have c2 := clx iy.1
  have key : bt rd y.toNatClampNeg = true ↔ wlq (SPK g p 160) x.toNatClampNeg y.toNatClampNeg := by rw [fld_1 hf e ix, wl_iff hE]
  constructor
  · intro h
    refine ⟨_, _, by rw [hx, c1], by rw [hy, c2], fun z => ?_⟩
    rw [key.mpr z] at h
    cases h
  · intro h
    cases hb : bt rd y.toNatClampNeg with
    | false => rfl
    | true => exact absurd h (spn_0 (by rw [hx, c1]) (by rw [hy, c2]) (key.mp hb))
end SPN
theorem rg_2 {s : GS} (hI : Inv s) : ∀ q, q < 160 → ((gvC s).2.1 q).toInt ≤ 31 ∧ ((gvC s).2.2.1 q).toInt ≤ 31 := fun q hq => ⟨(hI.1.1 4 q (Nat.lt_of_lt_of_le hq (Nat.le_of_ble_eq_true rfl))).2, (hI.1.1 5 q (Nat.lt_of_lt_of_le hq (Nat.le_of_ble_eq_true rfl))).2⟩
theorem rg_32 {s : GS} (hI : Inv s) : ∀ q, q < 160 → ((gvD s).2.1 q).toInt ≤ 31 ∧ ((gvD s).2.2.1 q).toInt ≤ 31 := fun q hq => ⟨(hI.1.1 34 q (Nat.lt_of_lt_of_le hq (Nat.le_of_ble_eq_true rfl))).2, (hI.1.1 35 q (Nat.lt_of_lt_of_le hq (Nat.le_of_ble_eq_true rfl))).2⟩
/-! the reference -/
theorem orv {w p : Int32} {z9 z13 z14 z16 z17 : Int64} (e9 : z9 = w.toInt64) (e13 : z13 = z9 + Int64.ofInt 1000000) (e14 : z14 = Int64.ofInt 1000 * z13) (e16 : z16 = p.toInt64) (e17 : z17 = z14 + z16) (iw : In w (-1000000) 1000000) (ip : In p 0 159) : z17.toInt = 1000 * (w.toInt + 1000000) + p.toInt := by
  have a := u_i2l e9
  have b := u_i2l e16
  have c1 : (Int64.ofInt 1000000).toInt = 1000000 := rfl
  have c2 : (Int64.ofInt 1000).toInt = 1000 := rfl
  obtain ⟨w1, w2⟩ := iw
  obtain ⟨p1, p2⟩ := ip
  have d := ladd_t e13 (by omega) (by omega)
  have e := lmul_t e14 (by rw [c2]; omega) (by rw [c2]; omega)
  rw [c2] at e
  have f := ladd_t e17 (by omega) (by omega)
  omega
section WKF
variable {E : Nat → Nat → Prop} {g : GVW} {p n k a : Nat} {f : Nat → Int32}
def WK1 (E : Nat → Nat → Prop) (n : Nat) (f : Nat → Int32) : Prop := ∀ v : Nat, v < n → wlq E v (f v).toNatClampNeg
def WK2 (E : Nat → Nat → Prop) (n k : Nat) (f : Nat → Int32) : Prop := ∀ l v j : Nat, LST E l → j ≤ k → v < n → wkq E j v l → (f v).toNatClampNeg = l
def WK3 (E F : Nat → Nat → Prop) (k : Nat) (f : Nat → Int32) : Prop := ∀ l u w j : Nat, LST E l → j ≤ k → F u w → wkq E j w l → (f u).toNatClampNeg = l
/-- labels as they are at the beginning of round k -/
def WKI (g : GVW) (p n k : Nat) (f : Nat → Int32) : Prop := WK1 (SPK g p 160) n f ∧ WK2 (SPK g p 160) n k f
/-- .. and behind the arcs below a -/
def WKJ (g : GVW) (p n k a : Nat) (f : Nat → Int32) : Prop := WKI g p n k f ∧ WK3 (SPK g p 160) (SPK g p a) k f
theorem wki_0 (h : ∀ v : Nat, v < n → (f v).toNatClampNeg = v) : WKI g p n 0 f := ⟨fun v hv => by rw [h v hv]; exact wl_0, fun l v j _ hj hv hw => by
  have e : j = 0 := by omega
  rw [e] at hw
  rw [h v hv]
  exact hw⟩
theorem wkj_0 (h : WKI g p n k f) : WKJ g p n k 0 f := ⟨h, fun l u w j _ _ ⟨q, a, _⟩ => absurd a (Nat.not_lt_zero q)⟩
theorem wkj_n (h : WKJ g p n k a f) (hn : ∀ u w, ¬ SPA g p a u w) : WKJ g p n k (a + 1) f := ⟨h.1, fun l u w j h1 h2 h3 h4 => (spk_s.mp h3).elim (fun z => h.2 l u w j h1 h2 z h4) (fun z => absurd z (hn u w))⟩
theorem wkj_e (h : WKJ g p n k 160 f) (hE : ∀ u w, SPK g p 160 u w → u < n ∧ w < n) : WKI g p n (k + 1) f := ⟨h.1.1, fun l v j h1 h2 h3 h4 => by
  by_cases c : j ≤ k
  · exact h.1.2 l v j h1 c h3 h4
  · have e : j = k + 1 := by omega
    rw [e] at h4
    obtain ⟨x, hx, hw⟩ := h4
    exact h.2 l v x k h1 (Nat.le_refl _) hx hw⟩
theorem wkj_s {x y : Nat} {lo : Int32} (h : WKJ g p n k a f) (ha : SPA g p a x y) (hx : x < n) (hy : y < n) (hlo : lo = f x ∨ lo = f y) (l1 : lo.toInt ≤ (f x).toInt) (l2 : lo.toInt ≤ (f y).toInt) : WKJ g p n k (a + 1) (upd (upd f x lo) y lo) := by
  obtain ⟨⟨k1, k2⟩, k3⟩ := h
  have exy : SPK g p 160 x y := ⟨a, ha.1, ha⟩
  have eyx : SPK g p 160 y x := spk_sy _ _ exy
  have wx : wlq (SPK g p 160) x lo.toNatClampNeg := by
    rcases hlo with e | e
    · rw [e]; exact k1 x hx
    · rw [e]; exact wl_tr (wl_1 exy) (k1 y hy)
  have wy : wlq (SPK g p 160) y lo.toNatClampNeg := wl_tr (wl_1 eyx) wx
  have cl : ∀ z : Int32, z.toNatClampNeg = z.toInt.toNat := fun _ => rfl
  have up : ∀ l, LST (SPK g p 160) l → ∀ v, (v = x ∨ v = y) → wlq (SPK g p 160) v l → (f v).toNatClampNeg = l → lo.toNatClampNeg = l := by
    intro l hl v hv hw he
    have w2 : wlq (SPK g p 160) l lo.toNatClampNeg := by
      rcases hv with e | e
      · rw [e] at hw; exact wl_tr (wl_sym spk_sy hw) wx
      · rw [e] at hw; exact wl_tr (wl_sym spk_sy hw) wy
    have ge : ¬ lo.toNatClampNeg < l := fun z => hl _ z w2
    have le : lo.toNatClampNeg ≤ (f v).toNatClampNeg := by
      rw [cl, cl]
      rcases hv with e | e
      · rw [e]; omega
      · rw [e]; omega
    omega
  have row : ∀ v, (v = x ∨ v = y) → upd (upd f x lo) y lo v = lo := by
    intro v hv
    by_cases c : v = y
    · rw [c, up_e]
    · rw [up_n c]
      rcases hv with e | e
      · rw [e, up_e]
      · exact absurd e c
  have off : ∀ v, ¬ (v = x ∨ v = y) → upd (upd f x lo) y lo v = f v := by
    intro v hv
    rw [up_n (fun z => hv (Or.inr z)), up_n (fun z => hv (Or.inl z))]
  refine ⟨⟨fun v hv => ?_, fun l v j h1 h2 h3 h4 => ?_⟩, fun l u w j h1 h2 h3 h4 => ?_⟩
  · by_cases c : v = x ∨ v = y
    · rw [row v c]
      rcases c with e | e
      · rw [e]; exact wx
      · rw [e]; exact wy
    · rw [off v c]; exact k1 v hv
  · have q := k2 l v j h1 h2 h3 h4
    by_cases c : v = x ∨ v = y
    · rw [row v c]
      exact up l h1 v c ⟨j, h4⟩ q
    · rw [off v c]; exact q
  · rcases spk_s.mp h3 with z | z
    · have q := k3 l u w j h1 h2 z h4
      by_cases c : u = x ∨ u = y
      · rw [row u c]
        obtain ⟨r, r1, r2⟩ := z
        exact up l h1 u c (wl_tr (wl_1 ⟨r, r2.1, r2⟩) ⟨j, h4⟩) q
      · rw [off u c]; exact q
    · have uw : (u = x ∧ w = y) ∨ (u = y ∧ w = x) := by
        have d1 := ha.2.2.2
        have d2 := z.2.2.2
        rcases d1 with ⟨a1, a2⟩ | ⟨a1, a2⟩ <;> rcases d2 with ⟨b1, b2⟩ | ⟨b1, b2⟩
        · exact Or.inl ⟨by omega, by omega⟩
        · exact Or.inr ⟨by omega, by omega⟩
        · exact Or.inr ⟨by omega, by omega⟩
        · exact Or.inl ⟨by omega, by omega⟩
      rcases uw with ⟨e1, e2⟩ | ⟨e1, e2⟩
      · rw [row u (Or.inl e1)]
        rw [e2] at h4
        exact up l h1 y (Or.inr rfl) ⟨j, h4⟩ (k2 l y j h1 h2 hy h4)
      · rw [row u (Or.inr e1)]
        rw [e2] at h4
        exact up l h1 x (Or.inl rfl) ⟨j, h4⟩ (k2 l x j h1 h2 hx h4)
theorem wki_e {x y : Nat} (h : WKI g p n n f) (hE : ∀ u w, SPK g p 160 u w → u < n ∧ w < n) (hx : x < n) (hy : y < n) : (f x).toNatClampNeg = (f y).toNatClampNeg ↔ wlq (SPK g p 160) x y := by
  have lab : ∀ v, v < n → ∃ l, LST (SPK g p 160) l ∧ wlq (SPK g p 160) v l ∧ (f v).toNatClampNeg = l := fun v hv => by
    obtain ⟨l, h1, h2, h3⟩ := lsp_ex (E := SPK g p 160) v
    obtain ⟨j, hj, hw⟩ := wl_short (show l < n by omega) hE h2
    exact ⟨l, h3, h2, h.2 l v j h3 hj hv hw⟩
  obtain ⟨l, a1, a2, a3⟩ := lab x hx
  obtain ⟨m, b1, b2, b3⟩ := lab y hy
  constructor
  · intro e
    have : l = m := by omega
    rw [← this] at b2
    exact wl_tr a2 (wl_sym spk_sy b2)
  · intro w
    have : l = m := lst_u spk_sy a1 b1 (wl_tr (wl_sym spk_sy a2) (wl_tr w b2))
    omega
end WKF
theorem wki_m {g : GVW} {p n : Nat} {f : Nat → Int32} {x y a b : Int32} (h : WKI g p n n f) (hE : ∀ u w, SPK g p 160 u w → u < n ∧ w < n) (hx : x.toNatClampNeg < n) (hy : y.toNatClampNeg < n) (ax : ARE g 0 p = (x.toNatClampNeg : Int)) (ay : ARE g 1 p = (y.toNatClampNeg : Int)) (ea : a = f x.toNatClampNeg) (eb : b = f y.toNatClampNeg) (ia : 0 ≤ a.toInt) (ib : 0 ≤ b.toInt) : a.toInt ≠ b.toInt ↔ SPN g p := by
  have q := wki_e h hE hx hy
  rw [← ea, ← eb] at q
  have ca := clx ia
  have cb := clx ib
  constructor
  · intro ne
    exact ⟨_, _, ax, ay, fun z => ne (by have r := q.mpr z; omega)⟩
  · intro z e
    exact spn_0 ax ay (q.mp (by omega)) z
/-! the reference's arcs -/
theorem spk_n {s : GS} (hI : Inv s) {p n : Nat} (hn : (n : Int) = (s.2.2.1 109 20).toInt) : ∀ u w, SPK (gvZ s) p 160 u w → u < n ∧ w < n := by
  rintro u w ⟨q, a, b⟩
  have th : (s.1 112 (bs s + q)).toInt ≠ 0 := fun z => by
    have m := arz_n hI (p := q) rfl z
    have d := b.2.2.2
    rw [m] at d
    rcases d with ⟨d1, -⟩ | ⟨d1, -⟩ <;> omega
  have r := arc_n hI a th
  have n1 := (nat_jn r.1.1 r.1.2).2
  have n2 := (nat_jn r.2.1.1 r.2.1.2).2
  obtain ⟨a1, a2⟩ := arz_y hI a rfl th
  have d := b.2.2.2
  rw [a1, a2] at d
  rcases d with ⟨d1, d2⟩ | ⟨d1, d2⟩
  · exact ⟨by omega, by omega⟩
  · exact ⟨by omega, by omega⟩
theorem gvz_w {s : GS} (hI : Inv s) {p : Nat} : (gvZ s).2.2.2.1 p = s.1 115 (bs s + p) := by
  have k2 : (s.2.2.1 109 19).toInt = 160 * (s.2.2.1 109 18).toInt := hI.2.2.2.2.2.2.2.2.2.1
  have i18 := inv_F hI (z := s.2.2.1 109 18) 0 1 rfl rfl
  have eb : bs s = 160 * (s.2.2.1 109 18).toNatClampNeg := by
    show (s.2.2.1 109 19).toInt.toNat = 160 * (s.2.2.1 109 18).toInt.toNat
    have := i18.1
    omega
  rw [eb]
  rfl
theorem spb_r {s : GS} (hI : Inv s) {k p x y : Int32} {a b : Int} (k0 : In k 0 159) (p0 : In p 0 159) (hx : x = s.1 115 (bs s + k.toNatClampNeg)) (hy : y = s.1 115 (bs s + p.toNatClampNeg)) (ha : a = 1000 * (x.toInt + 1000000) + k.toInt) (hb : b = 1000 * (y.toInt + 1000000) + p.toInt) : SPB (gvZ s) k.toNatClampNeg p.toNatClampNeg ↔ a < b := by
  rw [spb_i (x := x) (y := y) (by rw [gvz_w hI]; exact hx) (by rw [gvz_w hI]; exact hy) k0.1 p0.1]
  obtain ⟨k1, k2⟩ := k0
  obtain ⟨p1, p2⟩ := p0
  constructor
  · rintro (h | ⟨h1, h2⟩) <;> omega
  · intro h
    omega
def JZ (s : GS) (p : Nat) : Prop := (s.1 112 (bs s + p)).toInt ≠ 0 ∧ (s.1 113 (bs s + p)).toInt ≠ (s.1 114 (bs s + p)).toInt
theorem spa_r {s : GS} (hI : Inv s) {p k : Nat} {f t : Int32} (hk : k < 160) (th : (s.1 112 (bs s + k)).toInt ≠ 0) (hf : f = s.1 113 (bs s + k)) (ht : t = s.1 114 (bs s + k)) (ne : f.toInt ≠ t.toInt) (hb : SPB (gvZ s) k p) : SPA (gvZ s) p k f.toNatClampNeg t.toNatClampNeg := by
  have r := arc_n hI hk th
  obtain ⟨a1, a2⟩ := arz_y hI hk rfl th
  rw [← hf, ← ht] at r
  rw [← hf] at a1
  rw [← ht] at a2
  have c1 := clx r.1.1.1
  have c2 := clx r.2.1.1.1
  exact ⟨hk, hb, by omega, Or.inl ⟨a1, a2⟩⟩
theorem spa_n0 {s : GS} (hI : Inv s) {p k : Nat} {x : Int32} (e : x = s.1 112 (bs s + k)) (h : x.toInt = 0) : ∀ u w, ¬ SPA (gvZ s) p k u w := fun u w z => by
  have m := arz_n hI e h
  have d := z.2.2.2
  rw [m] at d
  rcases d with ⟨d1, -⟩ | ⟨d1, -⟩ <;> omega
theorem spa_n1 {s : GS} (hI : Inv s) {p k : Nat} {f t x : Int32} (e : x = s.1 112 (bs s + k)) (th : x.toInt ≠ 0) (hf : f = s.1 113 (bs s + k)) (ht : t = s.1 114 (bs s + k)) (eq : f.toInt = t.toInt) : ∀ u w, ¬ SPA (gvZ s) p k u w := fun u w z => by
  obtain ⟨a1, a2⟩ := arz_y hI z.1 e th
  have d := z.2.2.2
  have c := z.2.2.1
  rw [a1, a2, ← hf, ← ht] at d
  have c1 : f.toNatClampNeg = f.toInt.toNat := rfl
  have c2 : t.toNatClampNeg = t.toInt.toNat := rfl
  rcases d with ⟨d1, d2⟩ | ⟨d1, d2⟩ <;> omega
theorem wkj_v {g : GVW} {p n k a : Nat} {f : Nat → Int32} {x y u v lo : Int32} (h : WKJ g p n k a f) (ha : SPA g p a x.toNatClampNeg y.toNatClampNeg) (hx : x.toNatClampNeg < n) (hy : y.toNatClampNeg < n) (eu : u = f x.toNatClampNeg) (ev : v = f y.toNatClampNeg) (hlo : lo = u ∨ lo = v) (l1 : lo.toInt ≤ u.toInt) (l2 : lo.toInt ≤ v.toInt) : WKJ g p n k (a + 1) (upd (upd f x.toNatClampNeg lo) y.toNatClampNeg lo) := wkj_s h ha hx hy (hlo.imp (fun e => e.trans eu) (fun e => e.trans ev)) (by rw [← eu]; exact l1) (by rw [← ev]; exact l2)
theorem arn1 {s : GS} (hI : Inv s) {k : Nat} {f : Int32} (hk : k < 160) (th : (s.1 112 (bs s + k)).toInt ≠ 0) (hf : f = s.1 113 (bs s + k)) : f.toNatClampNeg < (s.2.2.1 109 20).toInt.toNat := by
  have r := arc_n hI hk th
  have n1 := (nat_jn r.1.1 r.1.2).2
  rw [← hf] at n1
  omega
theorem arn2 {s : GS} (hI : Inv s) {k : Nat} {f : Int32} (hk : k < 160) (th : (s.1 112 (bs s + k)).toInt ≠ 0) (hf : f = s.1 114 (bs s + k)) : f.toNatClampNeg < (s.2.2.1 109 20).toInt.toNat := by
  have r := arc_n hI hk th
  have n1 := (nat_jn r.2.1.1 r.2.1.2).2
  rw [← hf] at n1
  omega
theorem n20 {s : GS} (hI : Inv s) : (((s.2.2.1 109 20).toInt.toNat : Nat) : Int) = (s.2.2.1 109 20).toInt := by
  have h := inv_F hI (z := s.2.2.1 109 20) 0 32 rfl rfl
  unfold In at h
  omega
def SPR (s t : GS) (x z : Int32) : Prop := ((t.2.2.1 109 0).toInt = 1 ∧ ¬ BHP (gvZ s) x) ∨ ((t.2.2.1 109 0).toInt = 0 ∧ BHP (gvZ s) x ∧ (z.toInt ≠ 0 ↔ SPN (gvZ s) x.toNatClampNeg))
theorem spr_lp {s : GS} (hI : Inv s) {p : Nat} {f t x : Int32} (hp : p < 160) (e : x = s.1 112 (bs s + p)) (th : x.toInt ≠ 0) (hf : f = s.1 113 (bs s + p)) (ht : t = s.1 114 (bs s + p)) (eq : f.toInt = t.toInt) : ¬ SPN (gvZ s) p := by
  obtain ⟨a1, a2⟩ := arz_y hI hp e th
  rw [← hf] at a1
  rw [← ht] at a2
  have c1 : f.toNatClampNeg = f.toInt.toNat := rfl
  have c2 : t.toNatClampNeg = t.toInt.toNat := rfl
  exact spn_0 (x := f.toNatClampNeg) (y := f.toNatClampNeg) a1 (by rw [a2]; omega) wl_0
end
section
/-! bitCount COUNTS THE BITS -/
def P8 (b : Nat) : Nat := PC 15 (PB 51 (PA 85 b))
theorem p8_c : ∀ b : Fin 256, P8 b.val = cbf (fun k => b.val.testBit k) 8 := by decide +kernel
theorem cbf_sp {f : Nat → Bool} (m : Nat) : ∀ n, cbf f (m + n) = cbf f m + cbf (fun k => f (m + k)) n
  | 0 => rfl
  | n + 1 => by
    have i := cbf_sp (f := f) m n
    show cbf f (m + n) + (f (m + n)).toNat = cbf f m + (cbf (fun k => f (m + k)) n + (f (m + n)).toNat)
    omega
theorem byt (n i k : Nat) (hk : k < 8) : ((n / 2 ^ i) % 256).testBit k = n.testBit (i + k) := by
  rw [show (256 : Nat) = 2 ^ 8 from rfl, Nat.testBit_mod_two_pow, ← Nat.shiftRight_eq_div_pow, Nat.testBit_shiftRight]
  simp [hk]
theorem p8_b (n i : Nat) : P8 ((n / 2 ^ i) % 256) = cbf (fun k => n.testBit (i + k)) 8 := by
  rw [p8_c ⟨(n / 2 ^ i) % 256, by omega⟩]
  exact cbf_out (fun k hk => byt n i k hk)
theorem cb_p8 (x : Int32) : cb x = P8 (x.toBitVec.toNat % 256) + P8 (x.toBitVec.toNat / 256 % 256) + P8 (x.toBitVec.toNat / 65536 % 256) + P8 (x.toBitVec.toNat / 16777216) := by
  have hn : x.toBitVec.toNat < 4294967296 := x.toBitVec.isLt
  generalize hx : x.toBitVec.toNat = n at *
  have e : cb x = cbf (fun k => n.testBit k) 32 := by
    unfold cb
    refine cbf_out (fun k _ => ?_)
    rw [← hx]
    exact BitVec.testBit_toNat _
  have s1 : cbf (fun k => n.testBit k) 32 = cbf (fun k => n.testBit k) 8 + cbf (fun k => n.testBit (8 + k)) 24 := cbf_sp (f := fun k => n.testBit k) 8 24
  have s2 : cbf (fun k => n.testBit (8 + k)) 24 = cbf (fun k => n.testBit (8 + k)) 8 + cbf (fun k => n.testBit (8 + (8 + k))) 16 := cbf_sp (f := fun k => n.testBit (8 + k)) 8 16
  have s3 : cbf (fun k => n.testBit (8 + (8 + k))) 16 = cbf (fun k => n.testBit (8 + (8 + k))) 8 + cbf (fun k => n.testBit (8 + (8 + (8 + k)))) 8 := cbf_sp (f := fun k => n.testBit (8 + (8 + k))) 8 8
  have b0 := p8_b n 0
  have b1 := p8_b n 8
  have b2 := p8_b n 16
  have b3 := p8_b n 24
  rw [show n / 2 ^ 0 = n by simp] at b0
  rw [show n / 2 ^ 8 = n / 256 from rfl] at b1
  rw [show n / 2 ^ 16 = n / 65536 from rfl] at b2
  rw [show n / 2 ^ 24 % 256 = n / 16777216 by rw [show n / 2 ^ 24 = n / 16777216 from rfl]; omega] at b3
  have c0 : cbf (fun k => n.testBit (0 + k)) 8 = cbf (fun k => n.testBit k) 8 := cbf_out (fun k _ => by rw [Nat.zero_add])
  have c2 : cbf (fun k => n.testBit (16 + k)) 8 = cbf (fun k => n.testBit (8 + (8 + k))) 8 := cbf_out (fun k _ => by rw [show 16 + k = 8 + (8 + k) by omega])
  have c3 : cbf (fun k => n.testBit (24 + k)) 8 = cbf (fun k => n.testBit (8 + (8 + (8 + k)))) 8 := cbf_out (fun k _ => by rw [show 24 + k = 8 + (8 + (8 + k)) by omega])
  rw [e, b0, b1, b2, b3, c0, c2, c3]
  omega
theorem pop_eq (n : Nat) (hn : n < 4294967296) : PC 252645135 (PB 858993459 (PA 1431655765 n)) = P8 (n % 256) + 256 * (P8 (n / 256 % 256) + 256 * (P8 (n / 65536 % 256) + 256 * P8 (n / 16777216))) ∧ P8 (n % 256) ≤ 8 ∧ P8 (n / 256 % 256) ≤ 8 ∧ P8 (n / 65536 % 256) ≤ 8 ∧ P8 (n / 16777216) ≤ 8 := by
  obtain ⟨b0, b1, b2, b3, h0, h1, h2, h3, g0, g1, g2, g3, hnn⟩ : ∃ b0 b1 b2 b3 : Nat, b0 < 256 ∧ b1 < 256 ∧ b2 < 256 ∧ b3 < 256 ∧ n % 256 = b0 ∧ n / 256 % 256 = b1 ∧ n / 65536 % 256 = b2 ∧ n / 16777216 = b3 ∧ n = 256 * (256 * (256 * b3 + b2) + b1) + b0 := ⟨n % 256, n / 256 % 256, n / 65536 % 256, n / 16777216, by omega, by omega, by omega, by omega, rfl, rfl, rfl, rfl, by omega⟩
  rw [g0, g1, g2, g3, hnn]
  clear hnn g0 g1 g2 g3
  have p0 : PA 85 b0 < 256 := (pb_1 ⟨b0, h0⟩).1
  have q0 : PB 51 (PA 85 b0) ≤ 68 := (pb_1 ⟨b0, h0⟩).2.1
  have r0 : PB 51 (PA 85 b0) % 16 ≤ 4 := (pb_1 ⟨b0, h0⟩).2.2.1
  have s0 : PC 15 (PB 51 (PA 85 b0)) ≤ 8 := (pb_1 ⟨b0, h0⟩).2.2.2
  have p1 : PA 85 b1 < 256 := (pb_1 ⟨b1, h1⟩).1
  have q1 : PB 51 (PA 85 b1) ≤ 68 := (pb_1 ⟨b1, h1⟩).2.1
  have r1 : PB 51 (PA 85 b1) % 16 ≤ 4 := (pb_1 ⟨b1, h1⟩).2.2.1
  have s1 : PC 15 (PB 51 (PA 85 b1)) ≤ 8 := (pb_1 ⟨b1, h1⟩).2.2.2
  have p2 : PA 85 b2 < 256 := (pb_1 ⟨b2, h2⟩).1
  have q2 : PB 51 (PA 85 b2) ≤ 68 := (pb_1 ⟨b2, h2⟩).2.1
  have r2 : PB 51 (PA 85 b2) % 16 ≤ 4 := (pb_1 ⟨b2, h2⟩).2.2.1
  have s2 : PC 15 (PB 51 (PA 85 b2)) ≤ 8 := (pb_1 ⟨b2, h2⟩).2.2.2
  have p3 : PA 85 b3 < 256 := (pb_1 ⟨b3, h3⟩).1
  have q3 : PB 51 (PA 85 b3) ≤ 68 := (pb_1 ⟨b3, h3⟩).2.1
  have r3 : PB 51 (PA 85 b3) % 16 ≤ 4 := (pb_1 ⟨b3, h3⟩).2.2.1
  have s3 : PC 15 (PB 51 (PA 85 b3)) ≤ 8 := (pb_1 ⟨b3, h3⟩).2.2.2
  have a1 : PA 1431655765 (256 * (256 * (256 * b3 + b2) + b1) + b0) = 256 * (256 * (256 * PA 85 b3 + PA 85 b2) + PA 85 b1) + PA 85 b0 := by
    rw [show (1431655765 : Nat) = 256 * 5592405 + 85 from rfl, pa_s _ _ _ h0, show (5592405 : Nat) = 256 * 21845 + 85 from rfl, pa_s _ _ _ h1, show (21845 : Nat) = 256 * 85 + 85 from rfl, pa_s _ _ _ h2]
  have a2 : PB 858993459 (256 * (256 * (256 * PA 85 b3 + PA 85 b2) + PA 85 b1) + PA 85 b0) = 256 * (256 * (256 * PB 51 (PA 85 b3) + PB 51 (PA 85 b2)) + PB 51 (PA 85 b1)) + PB 51 (PA 85 b0) := by
    rw [show (858993459 : Nat) = 256 * 3355443 + 51 from rfl, pb_s _ _ _ p0, show (3355443 : Nat) = 256 * 13107 + 51 from rfl, pb_s _ _ _ p1, show (13107 : Nat) = 256 * 51 + 51 from rfl, pb_s _ _ _ p2]
  refine ⟨?_, s0, s1, s2, s3⟩
  show _ = PC 15 (PB 51 (PA 85 b0)) + 256 * (PC 15 (PB 51 (PA 85 b1)) + 256 * (PC 15 (PB 51 (PA 85 b2)) + 256 * PC 15 (PB 51 (PA 85 b3))))
  have q1' : PB 51 (PA 85 b1) % 16 ≤ 4 := r1
  have q2' : PB 51 (PA 85 b2) % 16 ≤ 4 := r2
  have q3' : PB 51 (PA 85 b3) % 16 ≤ 4 := r3
  rw [a1, a2, show (252645135 : Nat) = 256 * 986895 + 15 from rfl, pc_s _ _ _ q0 (by omega), show (986895 : Nat) = 256 * 3855 + 15 from rfl, pc_s _ _ _ q1 (by omega), show (3855 : Nat) = 256 * 15 + 15 from rfl, pc_s _ _ _ q2 (by omega)]
  omega
theorem bc_cb (x : Int32) : (bc0 x).toInt = (cb x : Int) := by
  rw [cb_p8 x]
  have hn := x.toBitVec.isLt
  have m5 : (Int32.ofInt 1431655765).toBitVec.toNat = 1431655765 := rfl
  have m3 : (Int32.ofInt 858993459).toBitVec.toNat = 858993459 := rfl
  have mf : (Int32.ofInt 252645135).toBitVec.toNat = 252645135 := rfl
  have m6 : (Int32.ofInt 63).toBitVec.toNat = 63 := rfl
  unfold bc0
  generalize e1 : x - ((x.toUInt32 >>> ((Int32.ofInt 1).toUInt32 &&& Int32.toUInt32 31)).toInt32 &&& Int32.ofInt 1431655765) = v1
  generalize e2 : (v1 &&& Int32.ofInt 858993459) + ((v1.toUInt32 >>> ((Int32.ofInt 2).toUInt32 &&& Int32.toUInt32 31)).toInt32 &&& Int32.ofInt 858993459) = v2
  generalize e3 : (v2 + (v2.toUInt32 >>> ((Int32.ofInt 4).toUInt32 &&& Int32.toUInt32 31)).toInt32) &&& Int32.ofInt 252645135 = v3
  generalize e4 : v3 + (v3.toUInt32 >>> ((Int32.ofInt 8).toUInt32 &&& Int32.toUInt32 31)).toInt32 = v4
  generalize e5 : v4 + (v4.toUInt32 >>> ((Int32.ofInt 16).toUInt32 &&& Int32.toUInt32 31)).toInt32 = v5
  have n1 : v1.toBitVec.toNat = PA 1431655765 x.toBitVec.toNat := by
    rw [← e1, sub_n]
    · rw [and_n, (ush_n x).1, m5]; rfl
    · rw [and_n, (ush_n x).1]
      exact Nat.le_trans Nat.and_le_left (Nat.div_le_self _ _)
  have n2 : v2.toBitVec.toNat = PB 858993459 v1.toBitVec.toNat := by
    have l1 : v1.toBitVec.toNat &&& 858993459 ≤ 858993459 := Nat.and_le_right
    have l2 : (v1.toBitVec.toNat / 4) &&& 858993459 ≤ 858993459 := Nat.and_le_right
    rw [← e2, add_n]
    · rw [and_n, and_n, (ush_n v1).2.1, m3]; rfl
    · rw [and_n, and_n, (ush_n v1).2.1, m3]; omega
  have b2 : v2.toBitVec.toNat ≤ 1717986918 := by
    have l1 : v1.toBitVec.toNat &&& 858993459 ≤ 858993459 := Nat.and_le_right
    have l2 : (v1.toBitVec.toNat / 4) &&& 858993459 ≤ 858993459 := Nat.and_le_right
    rw [n2]
    unfold PB
    omega
  have n3 : v3.toBitVec.toNat = PC 252645135 v2.toBitVec.toNat := by
    rw [← e3, and_n, add_n]
    · rw [(ush_n v2).2.2.1, mf]; rfl
    · rw [(ush_n v2).2.2.1]; omega
  obtain ⟨he, ha, hb, hc, hd⟩ := pop_eq x.toBitVec.toNat (by omega)
  generalize P8 (x.toBitVec.toNat % 256) = a at *
  generalize P8 (x.toBitVec.toNat / 256 % 256) = b at *
  generalize P8 (x.toBitVec.toNat / 65536 % 256) = c at *
  generalize P8 (x.toBitVec.toNat / 16777216) = d at *
  rw [← n1, ← n2, ← n3] at he
  have n4 : v4.toBitVec.toNat = v3.toBitVec.toNat + v3.toBitVec.toNat / 256 := by
    rw [← e4, add_n]
    · rw [(ush_n v3).2.2.2.1]
    · rw [(ush_n v3).2.2.2.1]; omega
  have n5 : v5.toBitVec.toNat = v4.toBitVec.toNat + v4.toBitVec.toNat / 65536 := by
    rw [← e5, add_n]
    · rw [(ush_n v4).2.2.2.2]
    · rw [(ush_n v4).2.2.2.2]; omega
  have n6 : (v5 &&& Int32.ofInt 63).toBitVec.toNat = v5.toBitVec.toNat % 64 := by
    rw [and_n, m6]
    exact Nat.and_two_pow_sub_one_eq_mod _ 6
  have h4 : v4.toBitVec.toNat = (a + b) + 256 * (b + c) + 65536 * (c + d) + 16777216 * d := by
    rw [n4, he]
    omega
  have h5 : v5.toBitVec.toNat = (a + b + c + d) + 64 * (4 * (b + c + d) + 1024 * (c + d) + 262144 * d) := by
    have hq : (a + b + 256 * (b + c) + 65536 * (c + d) + 16777216 * d) / 65536 = c + d + 256 * d := by
      rw [show a + b + 256 * (b + c) + 65536 * (c + d) + 16777216 * d = (a + b + 256 * (b + c)) + 65536 * (c + d + 256 * d) by omega, Nat.add_mul_div_left _ _ (by decide), Nat.div_eq_of_lt (by omega)]
      omega
    rw [n5, h4, hq]
    omega
  have hz : (v5 &&& Int32.ofInt 63).toBitVec.toNat = a + b + c + d := by
    rw [n6, h5, Nat.add_mul_mod_self_left]
    exact Nat.mod_eq_of_lt (by omega)
  have e : (v5 &&& Int32.ofInt 63).toInt = ((v5 &&& Int32.ofInt 63).toBitVec.toNat : Int) := BitVec.toInt_eq_toNat_of_lt (by omega)
  rw [e, hz]
theorem f_414 {Z : AmZ} {A : Nat → Nat} {s : GS} {ex : va_W} {d : Nat} {X : AmX} {x0 : Int32} (hd : 1 ≤ d) (_ : Inv s) : GC Z d 414 [.int x0] (WW Z A s ++ ex) 0 0 (fun v u => ∃ z : Int32, v = some (.int z) ∧ u = WW Z A s ++ ex ∧ In z 0 32 ∧ z.toInt = (cb x0 : Int)) X := by
  intro post xp hP hX
  exact x_414 hd post xp (fun v u h => hP v u ⟨_, h.1, h.2, bc_le _, bc_cb _⟩) hX
end
section
/-! SUMS -/
def sm (f : Nat → Int) : Nat → Int
  | 0 => 0
  | n + 1 => sm f n + f n
section SM
variable {f h : Nat → Int}
theorem sm_s {n : Nat} : sm f (n + 1) = sm f n + f n := rfl
theorem sm_eq : ∀ n : Nat, (∀ k, k < n → f k = h k) → sm f n = sm h n
  | 0, _ => rfl
  | n + 1, e => by rw [sm_s, sm_s, sm_eq n (fun k hk => e k (by omega)), e n (by omega)]
theorem sm_0 : ∀ n : Nat, (∀ k, k < n → f k = 0) → sm f n = 0
  | 0, _ => rfl
  | n + 1, e => by rw [sm_s, sm_0 n (fun k hk => e k (by omega)), e n (by omega)]; rfl
theorem sm_add : ∀ n : Nat, sm (fun k => f k + h k) n = sm f n + sm h n
  | 0 => rfl
  | n + 1 => by
    rw [sm_s, sm_s, sm_s, sm_add n]
    omega
theorem sm_one {u : Nat} {d : Int} : ∀ n : Nat, u < n → (∀ k, k < n → k ≠ u → h k = f k) → h u = f u + d → sm h n = sm f n + d
  | 0, hu, _, _ => absurd hu (Nat.not_lt_zero u)
  | n + 1, hu, e, eu => by
    rw [sm_s, sm_s]
    by_cases c : u = n
    · subst c
      rw [sm_eq (f := h) (h := f) u (fun k hk => e k (by omega) (by omega)), eu]
      omega
    · rw [sm_one n (by omega) (fun k hk hne => e k (by omega) hne) eu, e n (by omega) (fun z => c z.symm)]
      omega
theorem sm_le {B : Int} : ∀ n : Nat, (∀ k, k < n → 0 ≤ f k ∧ f k ≤ B) → 0 ≤ sm f n ∧ sm f n ≤ (n : Int) * B
  | 0, _ => ⟨Int.le_refl _, by simp [sm]⟩
  | n + 1, e => by
    obtain ⟨i1, i2⟩ := sm_le n (fun k hk => e k (by omega))
    obtain ⟨e1, e2⟩ := e n (by omega)
    rw [sm_s]
    have q : ((n + 1 : Nat) : Int) * B = (n : Int) * B + B := by
      rw [show ((n + 1 : Nat) : Int) = (n : Int) + 1 from rfl, Int.add_mul, Int.one_mul]
    rw [q]
    omega
end SM
/-- all pairs are twice the pairs u < v -/
theorem sm_sym {a : Nat → Nat → Int} (hs : ∀ u v, a u v = a v u) (h0 : ∀ u, a u u = 0) : ∀ n : Nat, sm (fun u => sm (a u) n) n = 2 * sm (fun u => sm (fun v => if u < v then a u v else 0) n) n
  | 0 => rfl
  | n + 1 => by
    have i := sm_sym hs h0 n
    have e1 : sm (fun u => sm (a u) (n + 1)) n = sm (fun u => sm (a u) n) n + sm (fun u => a u n) n := by
      rw [← sm_add]
      rfl
    have e2 : sm (fun u => sm (fun v => if u < v then a u v else 0) (n + 1)) n = sm (fun u => sm (fun v => if u < v then a u v else 0) n) n + sm (fun u => a u n) n := by
      rw [← sm_add]
      refine sm_eq n (fun u hu => ?_)
      rw [sm_s, if_pos hu]
    have e3 : sm (fun v => if n < v then a n v else 0) (n + 1) = 0 := sm_0 (n + 1) (fun k hk => if_neg (by omega))
    have e4 : sm (a n) n = sm (fun u => a u n) n := sm_eq n (fun u _ => hs n u)
    have e5 : sm (a n) (n + 1) = sm (a n) n + a n n := rfl
    show sm (fun u => sm (a u) (n + 1)) n + sm (a n) (n + 1) = 2 * (sm (fun u => sm (fun v => if u < v then a u v else 0) (n + 1)) n + sm (fun v => if n < v then a n v else 0) (n + 1))
    rw [e1, e2, e3, e5, e4, h0 n]
    omega
/-! NEIGHBOURS -/
def NBR (g : GVW) (u w : Nat) : Prop := u ≠ w ∧ PE g 1 u w
theorem nbr_s {g : GVW} {u w : Nat} (h : NBR g u w) : NBR g w u := ⟨fun z => h.1 z.symm, pe_s u w h.2⟩
theorem nbr_e {g h : GVW} (q : GEW g h) : NBR g = NBR h := by
  funext u w
  unfold NBR PE
  rw [ajg_e q]
/-- how many neighbours two nodes share -/
noncomputable def CMN (g : GVW) (u v : Nat) : Nat := cnP (fun w => NBR g u w ∧ NBR g v w) 32
theorem cmn_s {g : GVW} {u v : Nat} : CMN g u v = CMN g v u := cnP_eq (fun k _ => ⟨fun h => ⟨h.2, h.1⟩, fun h => ⟨h.2, h.1⟩⟩)
theorem cmn_le {g : GVW} {u v : Nat} : CMN g u v ≤ 32 := cnP_top 32
theorem cbf_cnP {f : Nat → Bool} : ∀ n : Nat, cbf f n = cnP (fun k => f k = true) n
  | 0 => rfl
  | n + 1 => by
    have i := cbf_cnP (f := f) n
    show cbf f n + (f n).toNat = _
    cases e : f n with
    | true => rw [cnP_y (P := fun k => f k = true) e, i]; rfl
    | false => rw [cnP_n (P := fun k => f k = true) (by rw [e]; decide), i]; rfl
theorem cb_cmn {g : GVW} {x y z : Int32} {u v : Nat} (hx : ∀ w, bt x w = true ↔ NBR g u w) (hy : ∀ w, bt y w = true ↔ NBR g v w) (e : z = x &&& y) : cb z = CMN g u v := by
  unfold cb
  rw [cbf_cnP]
  refine cnP_eq (fun k _ => ?_)
  rw [bt_and e, Bool.and_eq_true, hx k, hy k]
noncomputable def TRW (g : GVW) (u v : Nat) : Int := @ite Int (NBR g u v) (Classical.propDecidable _) (CMN g u v : Int) 0
theorem trw_y {g : GVW} {u v : Nat} (h : NBR g u v) : TRW g u v = (CMN g u v : Int) := if_pos h
theorem trw_n {g : GVW} {u v : Nat} (h : ¬ NBR g u v) : TRW g u v = 0 := if_neg h
theorem trw_s {g : GVW} (u v : Nat) : TRW g u v = TRW g v u := by
  by_cases c : NBR g u v
  · rw [trw_y c, trw_y (nbr_s c), cmn_s]
  · rw [trw_n c, trw_n (fun z => c (nbr_s z))]
theorem trw_0 {g : GVW} (u : Nat) : TRW g u u = 0 := trw_n (fun z => z.1 rfl)
theorem trw_b {g : GVW} {u v : Nat} : 0 ≤ TRW g u v ∧ TRW g u v ≤ 32 := by
  by_cases c : NBR g u v
  · rw [trw_y c]
    have := cmn_le (g := g) (u := u) (v := v)
    exact ⟨by omega, by omega⟩
  · rw [trw_n c]
    exact ⟨by omega, by omega⟩
noncomputable def SQW (g : GVW) (u v : Nat) : Int := (CMN g u v : Int) * ((CMN g u v : Int) - 1) / 2
/-- triangles, three times -/
noncomputable def TRI (g : GVW) (n : Nat) : Int := sm (fun u => sm (fun v => if u < v then TRW g u v else 0) n) n
/-- squares, twice -/
noncomputable def SQR (g : GVW) (n : Nat) : Int := sm (fun u => sm (fun v => if u < v then SQW g u v else 0) n) n
/-- what is told of figures -/
def FGS (g : GVW) (w z : Int) : Prop := z = (if w = 0 then TRI g g.2.2.2.2.2.2.1.toNat / 3 else SQR g g.2.2.2.2.2.2.1.toNat / 2)
theorem fgs_u {g h : GVW} (q : GEW g h) {w y z : Int} (h1 : FGS g w y) (h2 : FGS h w z) : y = z := by
  have e1 : TRW g = TRW h := by
    funext u v
    unfold TRW CMN
    rw [nbr_e q]
  have e2 : SQW g = SQW h := by
    funext u v
    unfold SQW CMN
    rw [nbr_e q]
  unfold FGS TRI SQR at h1 h2
  rw [h1, h2, e1, e2, q.2.2.2]
/-! the class's triangles -/
noncomputable def TR1 (g : GVW) (u : Nat) : Int := sm (TRW g u) 32
noncomputable def TRR (g : GVW) (u : Nat) (r : Int32) (v : Nat) : Int := if bt r v = true then 0 else TRW g u v
theorem tr1_b {g : GVW} {u : Nat} : 0 ≤ TR1 g u ∧ TR1 g u ≤ 1024 := by
  have q := sm_le (B := 32) (f := TRW g u) 32 (fun k _ => trw_b)
  exact ⟨q.1, q.2⟩
theorem trr_b {g : GVW} {u : Nat} {r : Int32} : 0 ≤ sm (TRR g u r) 32 ∧ sm (TRR g u r) 32 ≤ 1024 := by
  have q := sm_le (B := 32) (f := TRR g u r) 32 (fun k _ => by
    unfold TRR
    split
    · exact ⟨by omega, by omega⟩
    · exact trw_b)
  exact ⟨q.1, q.2⟩
theorem trr_0 {g : GVW} {u : Nat} {r : Int32} (h : ∀ w, bt r w = true ↔ NBR g u w) : sm (TRR g u r) 32 = 0 := sm_0 32 (fun k _ => by
  unfold TRR
  split
  · rfl
  · rename_i c
    exact trw_n (fun z => c ((h k).mpr z)))
theorem trr_e {g : GVW} {u : Nat} {r : Int32} (h : r.toInt = 0) : sm (TRR g u r) 32 = TR1 g u := sm_eq 32 (fun k _ => by
  unfold TRR
  split
  · rename_i c
    exact absurd h (bt_nz c)
  · rfl)
theorem trr_s {g : GVW} {u : Nat} {r r2 z k : Int32} (hk : bt r k.toNatClampNeg = true) (hl : lowB r k.toNatClampNeg) (e1 : z = r - Int32.ofInt 1) (e2 : r2 = r &&& z) (hn : NBR g u k.toNatClampNeg) : sm (TRR g u r2) 32 = sm (TRR g u r) 32 + (CMN g u k.toNatClampNeg : Int) := by
  refine sm_one (u := k.toNatClampNeg) 32 (bt_lt hk) (fun j _ hne => ?_) ?_
  · unfold TRR
    rw [lowB_clr hl e1 e2]
    simp [hne]
  · unfold TRR
    rw [lowB_clr hl e1 e2, if_pos hk]
    simp [trw_y hn]
/-- the sum behind u nodes, and in the midst of one -/
def TRJ (g : GVW) (u : Nat) (c : Int64) : Prop := c.toInt = sm (TR1 g) u
def TRK (g : GVW) (u : Nat) (r : Int32) (c : Int64) : Prop := c.toInt = sm (TR1 g) u + sm (TRR g u r) 32 ∧ ∀ w, bt r w = true → NBR g u w
theorem trk_0 {g : GVW} {u : Nat} {r : Int32} {c : Int64} (h : TRJ g u c) (hr : ∀ w, bt r w = true ↔ NBR g u w) : TRK g u r c := ⟨by rw [trr_0 hr, h]; omega, fun w q => (hr w).mp q⟩
theorem trk_e {g : GVW} {u : Nat} {r : Int32} {c : Int64} (h : TRK g u r c) (hr : r.toInt = 0) : TRJ g (u + 1) c := by
  unfold TRJ
  rw [sm_s, h.1, trr_e hr]
theorem trk_s {g : GVW} {u : Nat} {r r2 z k x y m b : Int32} {c d e : Int64} (h : TRK g u r c) (u32 : u < 32) (hk : bt r k.toNatClampNeg = true) (hl : lowB r k.toNatClampNeg) (e1 : z = r - Int32.ofInt 1) (e2 : r2 = r &&& z) (hx : ∀ w, bt x w = true ↔ NBR g u w) (hy : ∀ w, bt y w = true ↔ NBR g k.toNatClampNeg w) (em : m = x &&& y) (hb : b.toInt = (cb m : Int)) (ed : d = b.toInt64) (ee : e = c + d) : TRK g u r2 e := by
  have n := h.2 _ hk
  refine ⟨?_, fun w q => h.2 w (bt_and1 e2 q)⟩
  have s := trr_s hk hl e1 e2 n
  have b1 := sm_le (B := 1024) (f := TR1 g) u (fun k _ => tr1_b)
  have b2 := trr_b (g := g) (u := u) (r := r)
  have b3 := cmn_le (g := g) (u := u) (v := k.toNatClampNeg)
  have q := u_i2l ed
  rw [hb, cb_cmn hx hy em] at q
  have h1 := h.1
  have t := ladd_t ee (by omega) (by omega)
  rw [t, h1, q, s]
  omega
theorem tri_c {g : GVW} {n : Nat} {c z : Int64} (h : TRJ g n c) (n32 : n ≤ 32) (hn : ∀ u w, NBR g u w → w < n) (e : z.toInt = c.toInt / 6) : z.toInt = TRI g n / 3 := by
  have s : sm (TR1 g) n = sm (fun u => sm (TRW g u) n) n := sm_eq n (fun u _ => by
    have go : ∀ k, n ≤ k → sm (TRW g u) k = sm (TRW g u) n := by
      intro k hk
      induction k with
      | zero => rw [show n = 0 by omega]
      | succ k ih =>
        by_cases c : n = k + 1
        · rw [c]
        · rw [sm_s, ih (by omega), trw_n (fun q => by have := hn u k q; omega)]
          omega
    exact go 32 n32)
  have t := sm_sym (a := TRW g) trw_s trw_0 n
  have h1 : c.toInt = sm (TR1 g) n := h
  rw [e, h1, s, t]
  show 2 * TRI g n / 6 = TRI g n / 3
  omega
/-! pairs u < v, one by one -/
noncomputable def PRS (a : Nat → Nat → Int) (n u v : Nat) : Int := sm (fun u => sm (fun v => if u < v then a u v else 0) n) u + sm (fun w => if u < w then a u w else 0) v
theorem prs_0 {a : Nat → Nat → Int} {n u : Nat} : PRS a n u (u + 1) = sm (fun u => sm (fun v => if u < v then a u v else 0) n) u := by
  unfold PRS
  rw [sm_0 (f := fun w => if u < w then a u w else 0) (u + 1) (fun k hk => if_neg (by omega))]
  omega
theorem prs_s {a : Nat → Nat → Int} {n u v : Nat} (h : u < v) : PRS a n u (v + 1) = PRS a n u v + a u v := by
  unfold PRS
  rw [sm_s, if_pos h]
  omega
theorem prs_e {a : Nat → Nat → Int} {n u : Nat} : PRS a n u n = sm (fun u => sm (fun v => if u < v then a u v else 0) n) (u + 1) := by
  unfold PRS
  rw [sm_s]
theorem prs_b {a : Nat → Nat → Int} {n u v : Nat} (ha : ∀ x y, 0 ≤ a x y ∧ a x y ≤ 1000) (hn : n ≤ 32) (hu : u ≤ 32) (hv : v ≤ 33) : 0 ≤ PRS a n u v ∧ PRS a n u v ≤ 2000000 := by
  have i : ∀ x k, k ≤ 33 → 0 ≤ sm (fun w => if x < w then a x w else 0) k ∧ sm (fun w => if x < w then a x w else 0) k ≤ 33000 := fun x k hk => by
    have q := sm_le (B := 1000) (f := fun w => if x < w then a x w else 0) k (fun w _ => by
      split
      · exact ha x w
      · exact ⟨by omega, by omega⟩)
    exact ⟨q.1, by omega⟩
  have q := sm_le (B := 33000) (f := fun u => sm (fun v => if u < v then a u v else 0) n) u (fun x _ => i x n (by omega))
  have r := i u v hv
  unfold PRS
  omega
theorem sqw_b {g : GVW} (u v : Nat) : 0 ≤ SQW g u v ∧ SQW g u v ≤ 1000 := by
  have b3 := cmn_le (g := g) (u := u) (v := v)
  unfold SQW
  generalize CMN g u v = c at *
  have : ∀ c : Fin 33, 0 ≤ (c.val : Int) * ((c.val : Int) - 1) / 2 ∧ (c.val : Int) * ((c.val : Int) - 1) / 2 ≤ 1000 := by decide
  exact this ⟨c, by omega⟩
theorem trw_b2 {g : GVW} (u v : Nat) : 0 ≤ TRW g u v ∧ TRW g u v ≤ 1000 := by
  have q := trw_b (g := g) (u := u) (v := v)
  exact ⟨q.1, by omega⟩
theorem ltd_6 {x z : Int64} (e : z = x / Int64.ofInt 6) (h : 0 ≤ x.toInt) : z.toInt = x.toInt / 6 := by
  rw [e, Int64.toInt_div]
  have c : (Int64.ofInt 6).toInt = 6 := rfl
  rw [c, Int.tdiv_eq_ediv_of_nonneg h]
  have b := (l_rng x).2
  exact Int.bmod_eq_of_le (by omega) (by omega)
theorem ltd_3 {x z : Int64} (e : z = x / Int64.ofInt 3) (h : 0 ≤ x.toInt) : z.toInt = x.toInt / 3 := by
  rw [e, Int64.toInt_div]
  have c : (Int64.ofInt 3).toInt = 3 := rfl
  rw [c, Int.tdiv_eq_ediv_of_nonneg h]
  have b := (l_rng x).2
  exact Int.bmod_eq_of_le (by omega) (by omega)
theorem ltd_2 {x z : Int64} (e : z = x / Int64.ofInt 2) (h : 0 ≤ x.toInt) : z.toInt = x.toInt / 2 := by
  rw [e, Int64.toInt_div]
  have c : (Int64.ofInt 2).toInt = 2 := rfl
  rw [c, Int.tdiv_eq_ediv_of_nonneg h]
  have b := (l_rng x).2
  exact Int.bmod_eq_of_le (by omega) (by omega)
end
section
/-! NEIGHBOURS ON BOTH SIDES -/
theorem nbr_r {g : GVW} {near : Nat → Int32} (h : ∀ u w, FEQ near (Int32.ofInt (-1)) u w ↔ (u ≠ w ∧ PE g 1 u w)) {u : Nat} (hu : u < 32) {x : Int32} (e : x = near u) : ∀ w, bt x w = true ↔ NBR g u w := fun w => by
  rw [e]
  exact ⟨fun q => (h u w).mp ⟨hu, q, bt_m1 (bt_lt q)⟩, fun q => ((h u w).mpr q).2.1⟩
theorem nbr_n {g : GVW} (hN : NDQ g) {u w : Nat} (h : NBR g u w) : (u : Int) < g.2.2.2.2.2.2.1 ∧ (w : Int) < g.2.2.2.2.2.2.1 := by
  rcases h.2 with ⟨p, a, b, c⟩ | ⟨-, p, a, b, c⟩
  · exact ndq_a hN a b c
  · exact ⟨(ndq_a hN a b c).2, (ndq_a hN a b c).1⟩
def JNA (g : GVW) (q u w : Nat) : Prop := q < 160 ∧ u ≠ w ∧ ((ARE g 0 q = (u : Int) ∧ ARE g 1 q = (w : Int)) ∨ (ARE g 0 q = (w : Int) ∧ ARE g 1 q = (u : Int)))
def JNK (g : GVW) (k u w : Nat) : Prop := ∃ q : Nat, q < k ∧ JNA g q u w
theorem jnk_s {g : GVW} {k u w : Nat} : JNK g (k + 1) u w ↔ (JNK g k u w ∨ JNA g k u w) := by
  constructor
  · rintro ⟨q, a, b⟩
    by_cases c : q = k
    · rw [c] at b; exact Or.inr b
    · exact Or.inl ⟨q, by omega, b⟩
  · rintro (⟨q, a, b⟩ | b)
    · exact ⟨q, by omega, b⟩
    · exact ⟨k, by omega, b⟩
theorem jnk_e {g : GVW} {u w : Nat} : JNK g 160 u w ↔ NBR g u w := by
  constructor
  · rintro ⟨q, a, b, c, d⟩
    exact ⟨c, d.elim (fun e => Or.inl ⟨q, a, e.1, e.2⟩) (fun e => Or.inr ⟨by decide, q, a, e.1, e.2⟩)⟩
  · rintro ⟨c, ⟨q, a, b, d⟩ | ⟨-, q, a, b, d⟩⟩
    · exact ⟨q, a, a, c, Or.inl ⟨b, d⟩⟩
    · exact ⟨q, a, a, c, Or.inr ⟨b, d⟩⟩
def BSK (g : GVW) (n : Int) (k : Nat) (f : Nat → Int32) : Prop := ∀ u w : Nat, (u : Int) < n → (bt (f u) w = true ↔ JNK g k u w)
theorem bsk_0 {g : GVW} {n : Int} {f : Nat → Int32} (hz : ∀ u : Nat, (u : Int) < n → f u = Int32.ofInt 0) : BSK g n 0 f := fun u w hu => by
  rw [hz u hu]
  constructor
  · intro z
    rw [show (Int32.ofInt 0) = 0 from rfl, bt_z] at z
    cases z
  · rintro ⟨q, a, -⟩
    exact absurd a (Nat.not_lt_zero q)
theorem bsk_n {g : GVW} {n : Int} {k : Nat} {f : Nat → Int32} (h : BSK g n k f) (hn : ∀ u w, ¬ JNA g k u w) : BSK g n (k + 1) f := fun u w hu => by
  rw [jnk_s]
  exact ⟨fun z => Or.inl ((h u w hu).mp z), fun z => z.elim (h u w hu).mpr (fun z => absurd z (hn u w))⟩
theorem bsk_s {s : GS} (hI : Inv s) {n : Int} {k : Nat} {f : Nat → Int32} {x a b x1 z1 z2 x2 y3 z3 : Int32} (h : BSK (gvZ s) n k f) (hk : k < 160) (ex : x = s.1 112 (bs s + k)) (hx : x.toInt ≠ 0) (hf : a = s.1 113 (bs s + k)) (ht : b = s.1 114 (bs s + k)) (i1 : In a 0 31) (i2 : In b 0 31) (ne : a.toInt ≠ b.toInt) (e0 : x1 = f a.toNatClampNeg) (e1 : z1 = Int32.ofInt 1 <<< (b &&& 31)) (e2 : z2 = x1 ||| z1) (e3 : x2 = upd f a.toNatClampNeg z2 b.toNatClampNeg) (e4 : y3 = Int32.ofInt 1 <<< (a &&& 31)) (e5 : z3 = x2 ||| y3) : BSK (gvZ s) n (k + 1) (upd (upd f a.toNatClampNeg z2) b.toNatClampNeg z3) := by
  have row := cq_row (f := f) (u := a.toNatClampNeg) (v := b.toNatClampNeg) (z2 := z2) (z3 := z3) (W := True) (fun j => by rw [bt_set e1 e2 i2, Bool.or_eq_true, decide_eq_true_iff, e0]) (fun j => by rw [bt_or e5, Bool.or_eq_true, bt_one e4 i1, decide_eq_true_iff, e3]; simp)
  obtain ⟨a0, a1⟩ := arz_y hI hk ex hx
  rw [← hf] at a0
  rw [← ht] at a1
  have c1 := clx i1.1
  have c2 := clx i2.1
  intro u w hu
  rw [row u w, jnk_s, h u w hu]
  unfold JNA
  rw [a0, a1]
  constructor
  · rintro (z | ⟨z1, z2⟩ | ⟨-, z1, z2⟩)
    · exact Or.inl z
    · exact Or.inr ⟨hk, by omega, Or.inl ⟨by omega, by omega⟩⟩
    · exact Or.inr ⟨hk, by omega, Or.inr ⟨by omega, by omega⟩⟩
  · rintro (z | ⟨-, z0, ⟨z1, z2⟩ | ⟨z1, z2⟩⟩)
    · exact Or.inl z
    · exact Or.inr (Or.inl ⟨by omega, by omega⟩)
    · exact Or.inr (Or.inr ⟨trivial, by omega, by omega⟩)
theorem jna_0 {s : GS} (hI : Inv s) {k : Nat} {x : Int32} (e : x = s.1 112 (bs s + k)) (h : x.toInt = 0) : ∀ u w, ¬ JNA (gvZ s) k u w := fun u w z => by
  have m := arz_n hI e h
  have d := z.2.2
  rw [m] at d
  rcases d with ⟨d1, -⟩ | ⟨d1, -⟩ <;> omega
theorem jna_1 {s : GS} (hI : Inv s) {k : Nat} {f t x : Int32} (e : x = s.1 112 (bs s + k)) (th : x.toInt ≠ 0) (hf : f = s.1 113 (bs s + k)) (ht : t = s.1 114 (bs s + k)) (eq : f.toInt = t.toInt) : ∀ u w, ¬ JNA (gvZ s) k u w := fun u w z => by
  obtain ⟨a1, a2⟩ := arz_y hI z.1 e th
  have d := z.2.2
  have c := z.2.1
  rw [a1, a2, ← hf, ← ht] at d
  have c1 : f.toNatClampNeg = f.toInt.toNat := rfl
  have c2 : t.toNatClampNeg = t.toInt.toNat := rfl
  rcases d with ⟨d1, d2⟩ | ⟨d1, d2⟩ <;> omega
/-- the reference's rows of neighbours -/
def BFR (g : GVW) (n : Int) (f : Nat → Int32) : Prop := ∀ u w : Nat, (u : Int) < n → (bt (f u) w = true ↔ NBR g u w)
theorem bfr_e {g : GVW} {n : Int} {f : Nat → Int32} (h : BSK g n 160 f) : BFR g n f := fun u w hu => (h u w hu).trans jnk_e
/-! FIGURES -/
theorem sq0 : ∀ k : Fin 33, ((Int32.ofInt (k.val : Int) * (Int32.ofInt (k.val : Int) - Int32.ofInt 1)) / Int32.ofInt 2).toInt = (k.val : Int) * ((k.val : Int) - 1) / 2 := by decide +kernel
theorem sqL : ∀ k : Fin 33, ((Int64.ofInt (k.val : Int) * (Int64.ofInt (k.val : Int) - Int64.ofInt 1)) / Int64.ofInt 2).toInt = (k.val : Int) * ((k.val : Int) - 1) / 2 := by decide +kernel
theorem sqv {c d m q : Int32} {k : Nat} (hk : k ≤ 32) (ec : c.toInt = (k : Int)) (e1 : d = c - Int32.ofInt 1) (e2 : m = c * d) (e3 : q = m / Int32.ofInt 2) : q.toInt = (k : Int) * ((k : Int) - 1) / 2 := by
  have e : c = Int32.ofInt (k : Int) := by rw [← ec, Int32.ofInt_toInt]
  rw [e3, e2, e1, e]
  exact sq0 ⟨k, by omega⟩
theorem sqx {c d m q : Int64} {k : Nat} (hk : k ≤ 32) (ec : c.toInt = (k : Int)) (e1 : d = c - Int64.ofInt 1) (e2 : m = c * d) (e3 : q = m / Int64.ofInt 2) : q.toInt = (k : Int) * ((k : Int) - 1) / 2 := by
  have e : c = Int64.ofInt (k : Int) := by rw [← ec, Int64.ofInt_toInt]
  rw [e3, e2, e1, e]
  exact sqL ⟨k, by omega⟩
def PRJ (a : Nat → Nat → Int) (n u : Nat) (c : Int64) : Prop := c.toInt = sm (fun u => sm (fun v => if u < v then a u v else 0) n) u
def PRK (a : Nat → Nat → Int) (n u v : Nat) (c : Int64) : Prop := c.toInt = PRS a n u v
theorem prj_0 {a : Nat → Nat → Int} {n : Nat} : PRJ a n 0 (Int64.ofInt 0) := rfl
theorem prk_0 {a : Nat → Nat → Int} {n u : Nat} {c : Int64} (h : PRJ a n u c) : PRK a n u (u + 1) c := by
  unfold PRK
  rw [prs_0]
  exact h
theorem prk_e {a : Nat → Nat → Int} {n u : Nat} {c : Int64} (h : PRK a n u n c) : PRJ a n (u + 1) c := by
  unfold PRJ
  rw [← prs_e]
  exact h
theorem prk_s {a : Nat → Nat → Int} {n u v : Nat} {c d e : Int64} (ha : ∀ x y, 0 ≤ a x y ∧ a x y ≤ 1000) (h : PRK a n u v c) (hn : n ≤ 32) (hu : u ≤ 32) (hv : v ≤ 32) (huv : u < v) (ed : d.toInt = a u v) (ee : e = c + d) : PRK a n u (v + 1) e := by
  have b := prs_b (a := a) (n := n) (u := u) (v := v) ha hn hu (by omega)
  have q := ha u v
  have h1 : c.toInt = PRS a n u v := h
  have t := ladd_t ee (by omega) (by omega)
  unfold PRK
  rw [prs_s huv, t, h1, ed]
theorem prj_b {a : Nat → Nat → Int} {n : Nat} {c : Int64} (ha : ∀ x y, 0 ≤ a x y ∧ a x y ≤ 1000) (h : PRJ a n n c) (hn : n ≤ 32) : 0 ≤ c.toInt := by
  have h1 : c.toInt = _ := h
  rw [h1]
  refine (sm_le (B := 33000) n (fun x _ => ?_)).1
  have q := sm_le (B := 1000) (f := fun w => if x < w then a x w else 0) n (fun w _ => by
    split
    · exact ha x w
    · exact ⟨by omega, by omega⟩)
  exact ⟨q.1, by omega⟩
theorem trj_b {g : GVW} {u : Nat} {c : Int64} (h : TRJ g u c) : 0 ≤ c.toInt := by
  have h1 : c.toInt = _ := h
  rw [h1]
  exact (sm_le (B := 1024) u (fun k _ => tr1_b)).1
noncomputable def FGW (g : GVW) (w : Int) (u v : Nat) : Int := if w = 0 then TRW g u v else SQW g u v
theorem fgw_b {g : GVW} {w : Int} (u v : Nat) : 0 ≤ FGW g w u v ∧ FGW g w u v ≤ 1000 := by
  unfold FGW
  split
  · exact trw_b2 u v
  · exact sqw_b u v
theorem fgw_1 {g : GVW} {w : Int} {u v : Nat} (h : w = 1) : FGW g w u v = SQW g u v := if_neg (by omega)
theorem fgw_0 {g : GVW} {w : Int} {u v : Nat} (h : w ≠ 1) (h0 : w = 0 ∨ w = 1) : FGW g w u v = TRW g u v := if_pos (by omega)
theorem fgs_0 {g : GVW} {n : Nat} {w z : Int} (hn : n = g.2.2.2.2.2.2.1.toNat) (hw : w = 0) (h : z = TRI g n / 3) : FGS g w z := by
  unfold FGS
  rw [if_pos hw, ← hn]
  exact h
theorem fgs_1 {g : GVW} {n : Nat} {w z : Int} (hn : n = g.2.2.2.2.2.2.1.toNat) (hw : w ≠ 0) (h : z = SQR g n / 2) : FGS g w z := by
  unfold FGS
  rw [if_neg hw, ← hn]
  exact h
theorem prj_t {g : GVW} {n : Nat} {w : Int} {c : Int64} (h : PRJ (FGW g w) n n c) (hw : w = 0) : c.toInt = TRI g n := by
  have h1 : c.toInt = _ := h
  rw [h1, show FGW g w = TRW g from (by funext u v; exact if_pos hw)]
  rfl
theorem prj_q {g : GVW} {n : Nat} {w : Int} {c : Int64} (h : PRJ (FGW g w) n n c) (hw : w ≠ 0) : c.toInt = SQR g n := by
  have h1 : c.toInt = _ := h
  rw [h1, show FGW g w = SQW g from (by funext u v; exact if_neg hw)]
  rfl
theorem gvz_n {s : GS} (hI : Inv s) : (gvZ s).2.2.2.2.2.2.1 = (s.2.2.1 109 20).toInt := by
  have k : s.2.2.1 109 20 = s.1 110 (s.2.2.1 109 18).toNatClampNeg := hI.2.2.2.2.2.2.2.2.2.2
  rw [k]
  rfl
def QZ (L : FM) : Bool := qI L.1 110 && (qI L.1 111 && (qI L.1 112 && (qI L.1 113 && (qI L.1 114 && (qI L.1 115 && (qI L.1 116 && (qI L.1 117 && (qF L.2.2.1 109 9 && qF L.2.2.1 109 18))))))))
theorem gvz_cg {s t : GS} {F : FM} (hF : Fr F s t) (hk : QZ F = true) : gvZ t = gvZ s := by
  simp only [QZ, Bool.and_eq_true] at hk
  obtain ⟨q0, q1, q2, q3, q4, q5, q6, q7, q8, q9⟩ := hk
  unfold gvZ gvG
  rw [hF.1 110 q0, hF.1 111 q1, hF.1 112 q2, hF.1 113 q3, hF.1 114 q4, hF.1 115 q5, hF.1 116 q6, hF.1 117 q7, hF.2.2.1 109 9 q8, hF.2.2.1 109 18 q9]
def FIR (s t : GS) (x : Int32) (z : Int64) : Prop := ((t.2.2.1 109 0).toInt = 1 ∧ ¬ In x 0 1) ∨ ((t.2.2.1 109 0).toInt = 0 ∧ In x 0 1 ∧ FGS (gvZ s) x.toInt z.toInt)
end
section
/-! ROOTED TREES -/
def upz (f : Nat → Int) (i : Nat) (x : Int) : Nat → Int := fun j => if j = i then x else f j
theorem upz_e {f : Nat → Int} {i : Nat} {x : Int} : upz f i x i = x := if_pos rfl
theorem upz_n {f : Nat → Int} {i j : Nat} {x : Int} (h : j ≠ i) : upz f i x j = f j := if_neg h
/-- the first m of a row, -1 behind them -/
def czm (m : Nat) (f : Nat → Int32) : Nat → Int := fun v => if v < m then (f v).toInt else -1
theorem czm_e {m v : Nat} {f : Nat → Int32} (h : v < m) : czm m f v = (f v).toInt := if_pos h
theorem czm_u {m i : Nat} {f : Nat → Int32} {x : Int32} (h : i < m) : czm m (upd f i x) = upz (czm m f) i x.toInt := by
  funext j
  by_cases c : j = i
  · rw [c, upz_e, czm_e h, up_e]
  · rw [upz_n c]
    by_cases d : j < m
    · rw [czm_e d, czm_e d, up_n c]
    · show (if j < m then _ else _) = (if j < m then _ else _)
      rw [if_neg d, if_neg d]
theorem czm_m {m : Nat} {f : Nat → Int32} (h : ∀ v, v < m → (f v).toInt = -1) : czm m f = fun _ => -1 := by
  funext j
  show (if j < m then _ else _) = _
  by_cases d : j < m
  · rw [if_pos d, h j d]
  · rw [if_neg d]
def itr {α : Type} (f : α → α) : Nat → α → α
  | 0, a => a
  | n + 1, a => f (itr f n a)
theorem itr_fx {α : Type} {f : α → α} {b : α} (h : f b = b) : ∀ n : Nat, itr f n b = b
  | 0 => rfl
  | n + 1 => by
    show f (itr f n b) = b
    rw [itr_fx h n, h]
theorem itr_ad {α : Type} {f : α → α} {a : α} (n : Nat) : ∀ m : Nat, itr f (n + m) a = itr f m (itr f n a)
  | 0 => rfl
  | m + 1 => by
    show f (itr f (n + m) a) = f (itr f m (itr f n a))
    rw [itr_ad n m]
def LIM {α : Type} (f : α → α) (a b : α) : Prop := ∃ n, itr f n a = b ∧ f b = b
theorem lim_u {α : Type} {f : α → α} {a b c : α} (h : LIM f a b) (k : LIM f a c) : b = c := by
  obtain ⟨n, h1, h2⟩ := h
  obtain ⟨m, k1, k2⟩ := k
  rcases Nat.le_total n m with q | q
  · obtain ⟨d, e⟩ := Nat.le.dest q
    rw [← e, itr_ad, h1, itr_fx h2] at k1
    exact k1
  · obtain ⟨d, e⟩ := Nat.le.dest q
    rw [← e, itr_ad, k1, itr_fx k2] at h1
    exact h1.symm
def wst (nx : Nat → Nat) (r v : Nat) (a : (Nat → Int) × Nat) : (Nat → Int) × Nat := if a.2 ≠ r ∧ a.1 a.2 = -1 then (upz a.1 a.2 (v : Int), nx a.2) else a
def mst (nx : Nat → Nat) (c : Int) (a : (Nat → Int) × Nat) : (Nat → Int) × Nat := if a.1 a.2 = -1 then (upz a.1 a.2 c, nx a.2) else a
def VST (nx : Nat → Nat) (r v : Nat) (V R : Nat → Int) (c : Int) (V' R' : Nat → Int) (c' : Int) : Prop := ∃ x : Nat, LIM (wst nx r v) (V, v) (V', x) ∧ ((x ≠ r ∧ V' x = (v : Int) ∧ R x = -1 ∧ (∃ y, LIM (mst nx c) (R, x) (R', y)) ∧ c' = c + 1) ∨ (¬ (x ≠ r ∧ V' x = (v : Int) ∧ R x = -1) ∧ R' = R ∧ c' = c))
def RVS (nx : Nat → Nat) (r : Nat) : Nat → (Nat → Int) → (Nat → Int) → Int → Prop
  | 0, V, R, c => V = (fun _ => -1) ∧ R = (fun _ => -1) ∧ c = 0
  | v + 1, V, R, c => ∃ V0 R0 c0, RVS nx r v V0 R0 c0 ∧ VST nx r v V0 R0 c0 V R c
section TRW
variable {nx : Nat → Nat} {m r v x : Nat} {c : Int} {V R : Nat → Int}
theorem wst_y {a : (Nat → Int) × Nat} (h1 : a.2 ≠ r) (h2 : a.1 a.2 = -1) : wst nx r v a = (upz a.1 a.2 (v : Int), nx a.2) := if_pos ⟨h1, h2⟩
theorem wst_n {a : (Nat → Int) × Nat} (h : ¬ (a.2 ≠ r ∧ a.1 a.2 = -1)) : wst nx r v a = a := if_neg h
theorem mst_y {a : (Nat → Int) × Nat} (h2 : a.1 a.2 = -1) : mst nx c a = (upz a.1 a.2 c, nx a.2) := if_pos h2
theorem mst_n {a : (Nat → Int) × Nat} (h : ¬ a.1 a.2 = -1) : mst nx c a = a := if_neg h
theorem vst_u {a b a' b' : Nat → Int} {d d' : Int} (h : VST nx r v V R c a b d) (k : VST nx r v V R c a' b' d') : a = a' ∧ b = b' ∧ d = d' := by
  obtain ⟨x, h1, h2⟩ := h
  obtain ⟨y, k1, k2⟩ := k
  have e := lim_u h1 k1
  have e1 : a = a' := congrArg Prod.fst e
  have e2 : x = y := congrArg Prod.snd e
  subst e1
  subst e2
  rcases h2 with ⟨p1, p2, p3, ⟨z, p4⟩, p5⟩ | ⟨p1, p2, p3⟩
  · rcases k2 with ⟨q1, q2, q3, ⟨w, q4⟩, q5⟩ | ⟨q1, q2, q3⟩
    · have e3 : b = b' := congrArg Prod.fst (lim_u p4 q4)
      exact ⟨rfl, e3, by rw [p5, q5]⟩
    · exact absurd ⟨p1, p2, p3⟩ q1
  · rcases k2 with ⟨q1, q2, q3, q4, q5⟩ | ⟨q1, q2, q3⟩
    · exact absurd ⟨q1, q2, q3⟩ p1
    · exact ⟨rfl, by rw [p2, q2], by rw [p3, q3]⟩
theorem rvs_u : ∀ (v : Nat) {a b a' b' : Nat → Int} {d d' : Int}, RVS nx r v a b d → RVS nx r v a' b' d' → a = a' ∧ b = b' ∧ d = d' := by
  intro v
  induction v with
  | zero =>
    intro a b a' b' d d' h k
    obtain ⟨h1, h2, h3⟩ := h
    obtain ⟨k1, k2, k3⟩ := k
    exact ⟨by rw [h1, k1], by rw [h2, k2], by rw [h3, k3]⟩
  | succ v ih =>
    intro a b a' b' d d' h k
    obtain ⟨V0, R0, c0, h1, h2⟩ := h
    obtain ⟨V1, R1, c1, k1, k2⟩ := k
    obtain ⟨e1, e2, e3⟩ := ih h1 k1
    subst e1
    subst e2
    subst e3
    exact vst_u h2 k2
/-! a walk under way (WA), a ring's naming under way (WB) -/
def WA (nx : Nat → Nat) (r v : Nat) (c : Int) (V R : Nat → Int) (x : Nat) : Prop := ∃ V0 n, RVS nx r v V0 R c ∧ itr (wst nx r v) n (V0, v) = (V, x)
def WB (nx : Nat → Nat) (r v : Nat) (c : Int) (V R : Nat → Int) (x : Nat) : Prop := ∃ V0 R0 x0 n, RVS nx r v V0 R0 c ∧ LIM (wst nx r v) (V0, v) (V, x0) ∧ (x0 ≠ r ∧ V x0 = (v : Int) ∧ R0 x0 = -1) ∧ itr (mst nx c) n (R0, x0) = (R, x)
theorem wa_0 (h : RVS nx r v V R c) : WA nx r v c V R v := ⟨V, 0, h, rfl⟩
theorem wa_s (h : WA nx r v c V R x) (h1 : x ≠ r) (h2 : V x = -1) : WA nx r v c (upz V x (v : Int)) R (nx x) := by
  obtain ⟨V0, n, a, b⟩ := h
  refine ⟨V0, n + 1, a, ?_⟩
  show wst nx r v (itr (wst nx r v) n (V0, v)) = _
  rw [b]
  exact wst_y (a := (V, x)) h1 h2
theorem wa_l (h : WA nx r v c V R x) (hs : x = r ∨ V x ≠ -1) : ∃ V0, RVS nx r v V0 R c ∧ LIM (wst nx r v) (V0, v) (V, x) := by
  obtain ⟨V0, n, a, b⟩ := h
  refine ⟨V0, a, n, b, wst_n (a := (V, x)) (fun z => ?_)⟩
  rcases hs with e | e
  · exact z.1 e
  · exact e z.2
theorem wa_e (h : WA nx r v c V R x) (hs : x = r ∨ V x ≠ -1) (hn : ¬ (x ≠ r ∧ V x = (v : Int) ∧ R x = -1)) : RVS nx r (v + 1) V R c := by
  obtain ⟨V0, a, b⟩ := wa_l h hs
  exact ⟨V0, R, c, a, x, b, Or.inr ⟨hn, rfl, rfl⟩⟩
theorem wb_0 (h : WA nx r v c V R x) (hs : x = r ∨ V x ≠ -1) (hy : x ≠ r ∧ V x = (v : Int) ∧ R x = -1) : WB nx r v c V R x := by
  obtain ⟨V0, a, b⟩ := wa_l h hs
  exact ⟨V0, R, x, 0, a, b, hy, rfl⟩
theorem wb_s (h : WB nx r v c V R x) (h2 : R x = -1) : WB nx r v c V (upz R x c) (nx x) := by
  obtain ⟨V0, R0, x0, n, a, b, d, e⟩ := h
  refine ⟨V0, R0, x0, n + 1, a, b, d, ?_⟩
  show mst nx c (itr (mst nx c) n (R0, x0)) = _
  rw [e]
  exact mst_y (a := (R, x)) h2
theorem wb_e (h : WB nx r v c V R x) (h2 : R x ≠ -1) : RVS nx r (v + 1) V R (c + 1) := by
  obtain ⟨V0, R0, x0, n, a, b, ⟨d1, d2, d3⟩, e⟩ := h
  exact ⟨V0, R0, c, a, x0, b, Or.inl ⟨d1, d2, d3, ⟨x, n, e, mst_n (a := (R, x)) h2⟩, rfl⟩⟩
/-! what holds of them -/
def HN (nx : Nat → Nat) (m r : Nat) : Prop := ∀ u, u < m → u ≠ r → nx u < m ∧ nx u ≠ u
def WIV (nx : Nat → Nat) (m r v : Nat) (V0 : Nat → Int) (a : (Nat → Int) × Nat) : Prop := a.2 < m ∧ (∀ u, a.1 u = (v : Int) → u ≠ r ∧ u < m ∧ (a.1 (nx u) = (v : Int) ∨ nx u = a.2)) ∧ (∀ u, V0 u ≠ -1 → a.1 u = V0 u) ∧ (∀ u, a.1 u ≠ -1 → V0 u ≠ -1 ∨ a.1 u = (v : Int))
theorem wiv {V0 : Nat → Int} (hn : HN nx m r) (hv : v < m) (h0 : ∀ u, V0 u ≠ (v : Int)) : ∀ n, WIV nx m r v V0 (itr (wst nx r v) n (V0, v)) := by
  intro n
  induction n with
  | zero => exact ⟨hv, fun u hu => absurd hu (h0 u), fun u _ => rfl, fun u hu => Or.inl hu⟩
  | succ n ih =>
    show WIV nx m r v V0 (wst nx r v (itr (wst nx r v) n (V0, v)))
    revert ih
    generalize itr (wst nx r v) n (V0, v) = a
    intro ih
    obtain ⟨g, w⟩ := a
    obtain ⟨i1, i2, i3, i4⟩ := ih
    by_cases cc : w ≠ r ∧ g w = -1
    · obtain ⟨c1, c2⟩ := cc
      rw [wst_y (a := (g, w)) c1 c2]
      refine ⟨(hn w i1 c1).1, fun u hu => ?_, fun u hu => ?_, fun u hu => ?_⟩
      · by_cases e : u = w
        · rw [e]
          exact ⟨c1, i1, Or.inr rfl⟩
        · have hu2 : g u = (v : Int) := by
            have h9 : upz g w (v : Int) u = (v : Int) := hu
            rw [upz_n e] at h9
            exact h9
          obtain ⟨j1, j2, j3⟩ := i2 u hu2
          refine ⟨j1, j2, Or.inl ?_⟩
          show upz g w (v : Int) (nx u) = (v : Int)
          by_cases e2 : nx u = w
          · rw [e2, upz_e]
          · rw [upz_n e2]
            exact j3.elim id (fun z => absurd z e2)
      · show upz g w (v : Int) u = V0 u
        by_cases e : u = w
        · exfalso
          have h9 : g u = V0 u := i3 u hu
          rw [e] at h9 hu
          rw [c2] at h9
          exact hu h9.symm
        · rw [upz_n e]
          exact i3 u hu
      · have h9 : upz g w (v : Int) u ≠ -1 := hu
        show V0 u ≠ -1 ∨ upz g w (v : Int) u = (v : Int)
        by_cases e : u = w
        · rw [e, upz_e]
          exact Or.inr rfl
        · rw [upz_n e] at h9 ⊢
          exact i4 u h9
    · rw [wst_n (a := (g, w)) cc]
      exact ⟨i1, i2, i3, i4⟩
/-- the nodes of a walk that ends on itself -/
theorem wiv_e {V0 : Nat → Int} (hn : HN nx m r) (hv : v < m) (h0 : ∀ u, V0 u ≠ (v : Int)) (hl : LIM (wst nx r v) (V0, v) (V, x)) (hx : V x = (v : Int)) : (∀ u, V u = (v : Int) → u ≠ r ∧ u < m ∧ V (nx u) = (v : Int)) ∧ (∀ u, V0 u ≠ -1 → V u = V0 u) := by
  obtain ⟨n, a, -⟩ := hl
  have h := wiv hn hv h0 n
  rw [a] at h
  obtain ⟨h1, h2, h3, h4⟩ := h
  refine ⟨fun u hu => ?_, h3⟩
  obtain ⟨j1, j2, j3⟩ := h2 u hu
  refine ⟨j1, j2, ?_⟩
  rcases j3 with j3 | j3
  · exact j3
  · have j4 : nx u = x := j3
    rw [j4]
    exact hx
theorem mrk {R0 : Nat → Int} {x0 : Nat} (hc : ∀ u, V u = (v : Int) → V (nx u) = (v : Int)) (hx : V x0 = (v : Int)) : ∀ n, V (itr (mst nx c) n (R0, x0)).2 = (v : Int) ∧ ∀ u, (itr (mst nx c) n (R0, x0)).1 u ≠ -1 → R0 u ≠ -1 ∨ V u = (v : Int) := by
  intro n
  induction n with
  | zero => exact ⟨hx, fun u hu => Or.inl hu⟩
  | succ n ih =>
    show V (mst nx c (itr (mst nx c) n (R0, x0))).2 = (v : Int) ∧ ∀ u, (mst nx c (itr (mst nx c) n (R0, x0))).1 u ≠ -1 → R0 u ≠ -1 ∨ V u = (v : Int)
    revert ih
    generalize itr (mst nx c) n (R0, x0) = a
    intro ih
    obtain ⟨g, w⟩ := a
    obtain ⟨i1, i2⟩ := ih
    by_cases cc : g w = -1
    · rw [mst_y (a := (g, w)) cc]
      refine ⟨hc w i1, fun u hu => ?_⟩
      have h9 : upz g w c u ≠ -1 := hu
      by_cases e : u = w
      · rw [e]
        exact Or.inr i1
      · rw [upz_n e] at h9
        exact i2 u h9
    · rw [mst_n (a := (g, w)) cc]
      exact ⟨i1, i2⟩
def c1z (f : Nat → Int) : Nat → Nat
  | 0 => 0
  | n + 1 => c1z f n + (if f n = -1 then 1 else 0)
theorem c1z_s {f : Nat → Int} {n : Nat} : c1z f (n + 1) = c1z f n + (if f n = -1 then 1 else 0) := rfl
theorem c1z_cg {f g : Nat → Int} : ∀ n : Nat, (∀ k, k < n → g k = f k) → c1z g n = c1z f n := by
  intro n
  induction n with
  | zero => intro _; rfl
  | succ n ih =>
    intro h
    rw [c1z_s, c1z_s, ih (fun k hk => h k (by omega)), h n (by omega)]
theorem c1z_up {f : Nat → Int} {j : Nat} {y : Int} (hj : f j = -1) (hy : y ≠ -1) : ∀ n : Nat, j < n → c1z (upz f j y) n + 1 = c1z f n := by
  intro n
  induction n with
  | zero => intro h; omega
  | succ n ih =>
    intro h
    by_cases e : j = n
    · subst e
      have s1 : c1z (upz f j y) (j + 1) = c1z f j + 0 := by rw [c1z_s, c1z_cg (f := f) (g := upz f j y) j (fun k hk => upz_n (by omega)), upz_e, if_neg hy]
      have s2 : c1z f (j + 1) = c1z f j + 1 := by rw [c1z_s, if_pos hj]
      omega
    · have := ih (by omega)
      have s1 : c1z (upz f j y) (n + 1) = c1z (upz f j y) n + (if f n = -1 then 1 else 0) := by rw [c1z_s, upz_n (fun z => e z.symm)]
      have s2 : c1z f (n + 1) = c1z f n + (if f n = -1 then 1 else 0) := c1z_s
      rw [s1, s2]
      omega
theorem c1z_m : ∀ n : Nat, c1z (fun _ => -1) n = n := by
  intro n
  induction n with
  | zero => rfl
  | succ n ih => rw [c1z_s, ih, if_pos rfl]
theorem c1z_i {f : Nat → Int} (y : Int) (hy : y ≠ -1) (j : Nat) : ∀ n : Nat, c1z (upz f j y) n ≤ c1z f n := by
  intro n
  by_cases hn : j < n
  · by_cases e : f j = -1
    · have := c1z_up e hy n hn
      omega
    · refine Nat.le_of_eq ?_
      induction n with
      | zero => rfl
      | succ n ih =>
        by_cases q : j = n
        · subst q
          rw [c1z_s, c1z_s, upz_e, if_neg hy, if_neg e, c1z_cg (f := f) (g := upz f j y) j (fun k hk => upz_n (by omega))]
        · rw [c1z_s, c1z_s, upz_n (fun z => q z.symm), ih (by omega)]
  · exact Nat.le_of_eq (c1z_cg (f := f) (g := upz f j y) n (fun k hk => upz_n (by omega)))
theorem mst_i (hc : c ≠ -1) (a : (Nat → Int) × Nat) : c1z (mst nx c a).1 m ≤ c1z a.1 m := by
  by_cases cc : a.1 a.2 = -1
  · rw [mst_y cc]
    exact c1z_i c hc _ m
  · rw [mst_n cc]
    exact Nat.le_refl _
theorem mst_it (hc : c ≠ -1) (a : (Nat → Int) × Nat) : ∀ n : Nat, c1z (itr (mst nx c) n a).1 m ≤ c1z a.1 m
  | 0 => Nat.le_refl _
  | n + 1 => by
    show c1z (mst nx c (itr (mst nx c) n a)).1 m ≤ c1z a.1 m
    exact Nat.le_trans (mst_i hc _) (mst_it hc a n)
theorem mst_f {g : Nat → Int} {w : Nat} (hc : c ≠ -1) (h : g w = -1) : ¬ mst nx c (g, w) = (g, w) := fun z => by
  rw [mst_y (a := (g, w)) h] at z
  have z1 : upz g w c = g := congrArg Prod.fst z
  have z2 := congrFun z1 w
  rw [upz_e, h] at z2
  exact hc z2
/-- a ring that is named takes two at least -/
theorem mrk_2 {R0 R1 : Nat → Int} {x0 y0 : Nat} (hc : c ≠ -1) (hl : LIM (mst nx c) (R0, x0) (R1, y0)) (h1 : R0 x0 = -1) (h2 : R0 (nx x0) = -1) (hn : nx x0 ≠ x0) (m1 : x0 < m) (m2 : nx x0 < m) : c1z R1 m + 2 ≤ c1z R0 m := by
  obtain ⟨n, a, b⟩ := hl
  have s1 : itr (mst nx c) 1 (R0, x0) = (upz R0 x0 c, nx x0) := mst_y (a := (R0, x0)) h1
  have h3 : upz R0 x0 c (nx x0) = -1 := by rw [upz_n hn]; exact h2
  have s2 : itr (mst nx c) 2 (R0, x0) = (upz (upz R0 x0 c) (nx x0) c, nx (nx x0)) := by
    show mst nx c (itr (mst nx c) 1 (R0, x0)) = _
    rw [s1]
    exact mst_y (a := (upz R0 x0 c, nx x0)) h3
  have k1 := c1z_up h1 hc m m1
  have k2 := c1z_up h3 hc m m2
  rcases Nat.lt_or_ge n 2 with q | q
  · exfalso
    rcases (show n = 0 ∨ n = 1 by omega) with e | e
    · rw [e] at a
      have a2 : (R0, x0) = (R1, y0) := a
      rw [← a2] at b
      exact mst_f hc h1 b
    · rw [e, s1] at a
      rw [← a] at b
      exact mst_f hc h3 b
  · obtain ⟨d, e⟩ := Nat.le.dest q
    rw [← e, itr_ad, s2] at a
    have k3 := mst_it (nx := nx) (m := m) hc (upz (upz R0 x0 c) (nx x0) c, nx (nx x0)) d
    rw [a] at k3
    have k4 : c1z R1 m ≤ c1z (upz (upz R0 x0 c) (nx x0) c) m := k3
    omega
def RIV (m v : Nat) (V R : Nat → Int) (c : Int) : Prop := (∀ u, R u ≠ -1 → V u ≠ -1) ∧ (∀ u, V u ≠ -1 → 0 ≤ V u ∧ V u < (v : Int)) ∧ 0 ≤ c ∧ c + (c1z R m : Int) + (if c = 0 then 0 else 1) ≤ (m : Int) ∧ (c = 0 → R = fun _ => -1)
theorem riv (hn : HN nx m r) : ∀ (v : Nat) {V R : Nat → Int} {c : Int}, v ≤ m → RVS nx r v V R c → RIV m v V R c := by
  intro v
  induction v with
  | zero =>
    intro V R c hv h
    obtain ⟨h1, h2, h3⟩ := h
    rw [h1, h2, h3]
    refine ⟨fun u hu => absurd rfl hu, fun u hu => absurd rfl hu, Int.le_refl _, ?_, fun _ => rfl⟩
    rw [c1z_m, if_pos rfl]
    omega
  | succ v ih =>
    intro V R c hv h
    obtain ⟨V0, R0, c0, h1, x, hl, h2⟩ := h
    obtain ⟨i1, i2, i3, i4, i5⟩ := ih (by omega) h1
    have h0 : ∀ u, V0 u ≠ (v : Int) := fun u e => by
      have k := i2 u (by omega)
      omega
    obtain ⟨n, a, -⟩ := id hl
    have w := wiv hn (show v < m by omega) h0 n
    rw [a] at w
    obtain ⟨w1, w2, w3, w4⟩ := w
    have v2 : ∀ u, V u ≠ -1 → 0 ≤ V u ∧ V u < ((v + 1 : Nat) : Int) := fun u hu => by
      rcases w4 u hu with e | e
      · have e2 : V u = V0 u := w3 u e
        have k := i2 u e
        rw [e2]
        omega
      · have e2 : V u = (v : Int) := e
        omega
    rcases h2 with ⟨p1, p2, p3, ⟨y, p4⟩, p5⟩ | ⟨p1, p2, p3⟩
    · obtain ⟨q1, q2⟩ := wiv_e hn (show v < m by omega) h0 hl p2
      have hx := q1 x p2
      have hnx := q1 (nx x) hx.2.2
      have r2 : R0 (nx x) = -1 := Classical.byContradiction fun z => by
        have k1 := i1 _ z
        have k2 := q2 _ k1
        rw [hx.2.2] at k2
        exact h0 _ k2.symm
      have hc : c0 ≠ -1 := by omega
      have k := mrk_2 (m := m) hc p4 p3 r2 (hn x hx.2.1 p1).2 hx.2.1 hnx.2.1
      obtain ⟨n2, a2, -⟩ := p4
      have mk := (mrk (c := c0) (R0 := R0) (fun u hu => (q1 u hu).2.2) p2 n2).2
      rw [a2] at mk
      refine ⟨fun u hu => ?_, v2, by omega, ?_, fun e => by omega⟩
      · rcases mk u hu with e | e
        · have k1 := i1 u e
          rw [q2 u k1]
          exact k1
        · rw [e]
          omega
      · rw [p5, if_neg (by omega)]
        have i6 : c0 + (c1z R0 m : Int) ≤ (m : Int) := by
          by_cases z : c0 = 0
          · rw [if_pos z] at i4; omega
          · rw [if_neg z] at i4; omega
        omega
    · rw [p2, p3]
      refine ⟨fun u hu => ?_, v2, i3, i4, i5⟩
      have k1 := i1 u hu
      have e2 : V u = V0 u := w3 u k1
      rw [e2]
      exact k1
theorem wb_v (hn : HN nx m r) (hv : v < m) (h : WB nx r v c V R x) : V x = (v : Int) ∧ x ≠ r ∧ x < m := by
  obtain ⟨V0, R0, x0, n, a, b, ⟨d1, d2, d3⟩, e⟩ := h
  obtain ⟨i1, i2, i3, i4, i5⟩ := riv hn v (Nat.le_of_lt hv) a
  have h0 : ∀ u, V0 u ≠ (v : Int) := fun u z => by
    have k := i2 u (by omega)
    omega
  obtain ⟨q1, q2⟩ := wiv_e hn hv h0 b d2
  have mk := (mrk (c := c) (R0 := R0) (fun u hu => (q1 u hu).2.2) d2 n).1
  rw [e] at mk
  have mk2 : V x = (v : Int) := mk
  exact ⟨mk2, (q1 x mk2).1, (q1 x mk2).2.1⟩
theorem wa_m (hn : HN nx m r) (hv : v < m) (h : WA nx r v c V R x) : x < m ∧ (∀ u, R u ≠ -1 → V u ≠ -1) := by
  obtain ⟨V0, n, a, b⟩ := h
  obtain ⟨i1, i2, i3, i4, i5⟩ := riv hn v (Nat.le_of_lt hv) a
  have h0 : ∀ u, V0 u ≠ (v : Int) := fun u z => by
    have k := i2 u (by omega)
    omega
  have w := wiv hn hv h0 n
  rw [b] at w
  refine ⟨w.1, fun u hu => ?_⟩
  have k := i1 u hu
  have e2 : V u = V0 u := w.2.2.1 u k
  rw [e2]
  exact k
/-! the others -/
def oth (R : Nat → Int) (c : Int) : Nat → (Nat → Int) × Int
  | 0 => (R, c)
  | v + 1 => if (oth R c v).1 v = -1 then (upz (oth R c v).1 v (oth R c v).2, (oth R c v).2 + 1) else oth R c v
theorem oth_s : oth R c (v + 1) = if (oth R c v).1 v = -1 then (upz (oth R c v).1 v (oth R c v).2, (oth R c v).2 + 1) else oth R c v := rfl
theorem oth_y (h : (oth R c v).1 v = -1) : oth R c (v + 1) = (upz (oth R c v).1 v (oth R c v).2, (oth R c v).2 + 1) := if_pos h
theorem oth_n (h : ¬ (oth R c v).1 v = -1) : oth R c (v + 1) = oth R c v := if_neg h
theorem oth_h : ∀ n u : Nat, n ≤ u → (oth R c n).1 u = R u := by
  intro n
  induction n with
  | zero => intro u _; rfl
  | succ n ih =>
    intro u hu
    by_cases z : (oth R c n).1 n = -1
    · rw [oth_y z]
      show upz (oth R c n).1 n (oth R c n).2 u = R u
      rw [upz_n (by omega), ih u (by omega)]
    · rw [oth_n z, ih u (by omega)]
theorem oth_c : ∀ n : Nat, (oth R c n).2 = c + (c1z R n : Int) := by
  intro n
  induction n with
  | zero => show c = c + ((0 : Nat) : Int); omega
  | succ n ih =>
    rw [c1z_s]
    by_cases z : (oth R c n).1 n = -1
    · rw [oth_y z]
      rw [oth_h n n (Nat.le_refl _)] at z
      rw [if_pos z]
      show (oth R c n).2 + 1 = _
      rw [ih]
      omega
    · rw [oth_n z]
      rw [oth_h n n (Nat.le_refl _)] at z
      rw [if_neg z, ih]
      omega
theorem oth_1 (hn : HN nx m r) (h : RVS nx r m V R c) : (c = 0 → (oth R c m).2 = (m : Int)) ∧ (c ≠ 0 → (oth R c m).2 < (m : Int)) := by
  obtain ⟨i1, i2, i3, i4, i5⟩ := riv hn m (Nat.le_refl _) h
  rw [oth_c]
  refine ⟨fun z => ?_, fun z => ?_⟩
  · rw [i5 z, c1z_m]
    omega
  · rw [if_neg z] at i4
    omega
end TRW
/-! the cheapest arc into v of the first k -/
def tbi (T H : Nat → Int32) (P : Nat → Int64) (v : Nat) : Nat → Int
  | 0 => -1
  | k + 1 => if (H k).toInt.toNat = v ∧ (T k).toInt ≠ (H k).toInt ∧ (tbi T H P v k < 0 ∨ (P k).toInt < (P (tbi T H P v k).toNat).toInt) then (k : Int) else tbi T H P v k
def NXF (T H : Nat → Int32) (P : Nat → Int64) (k v : Nat) : Nat := if tbi T H P v k < 0 then 0 else (T (tbi T H P v k).toNat).toInt.toNat
def LSV (T H : Nat → Int32) (P : Nat → Int64) (k r v : Nat) : Int64 := if v = r then Int64.ofInt 0 else if tbi T H P v k < 0 then Int64.ofInt 0 else P (tbi T H P v k).toNat
def sma (f : Nat → Int64) (a : Int64) : Nat → Int64
  | 0 => a
  | v + 1 => sma f a v + f v
def SHE (k : Nat) (T H : Nat → Int32) (P : Nat → Int64) (R : Nat → Int) (l : Nat → Int64) (T' H' : Nat → Int32) (P' : Nat → Int64) : Prop := ∀ e, e < k → (T' e).toInt = R (T e).toInt.toNat ∧ (H' e).toInt = R (H e).toInt.toNat ∧ P' e = (if (T e).toInt ≠ (H e).toInt then P e - l (H e).toInt.toNat else P e)
def AGR (k : Nat) (T H : Nat → Int32) (P : Nat → Int64) (T' H' : Nat → Int32) (P' : Nat → Int64) : Prop := ∀ e, e < k → (T e).toInt = (T' e).toInt ∧ (H e).toInt = (H' e).toInt ∧ P e = P' e
def TRQ : Nat → Nat → Nat → Nat → (Nat → Int32) → (Nat → Int32) → (Nat → Int64) → Int64 → Int64 → Prop
  | 0, _, _, _, _, _, _, _, _ => False
  | n + 1, m, r, k, T, H, P, a, z => (z = Int64.ofInt 9000000000000000 ∧ ∃ v, v < m ∧ v ≠ r ∧ tbi T H P v k < 0) ∨ ((∀ v, v < m → v ≠ r → 0 ≤ tbi T H P v k) ∧ ∃ V R c, RVS (NXF T H P k) r m V R c ∧ ((c = 0 ∧ z = sma (LSV T H P k r) a m) ∨ (c ≠ 0 ∧ ∃ T' H' P', SHE k T H P (oth R c m).1 (LSV T H P k r) T' H' P' ∧ TRQ n (oth R c m).2.toNat ((oth R c m).1 r).toNat k T' H' P' (sma (LSV T H P k r) a m) z)))
section TRT
variable {T H T2 H2 : Nat → Int32} {P P2 : Nat → Int64} {m r k v : Nat} {a z : Int64}
theorem tbi_s : tbi T H P v (k + 1) = if (H k).toInt.toNat = v ∧ (T k).toInt ≠ (H k).toInt ∧ (tbi T H P v k < 0 ∨ (P k).toInt < (P (tbi T H P v k).toNat).toInt) then (k : Int) else tbi T H P v k := rfl
theorem tbi_y (h : (H k).toInt.toNat = v ∧ (T k).toInt ≠ (H k).toInt ∧ (tbi T H P v k < 0 ∨ (P k).toInt < (P (tbi T H P v k).toNat).toInt)) : tbi T H P v (k + 1) = (k : Int) := if_pos h
theorem tbi_n (h : ¬ ((H k).toInt.toNat = v ∧ (T k).toInt ≠ (H k).toInt ∧ (tbi T H P v k < 0 ∨ (P k).toInt < (P (tbi T H P v k).toNat).toInt))) : tbi T H P v (k + 1) = tbi T H P v k := if_neg h
theorem tbi_l : ∀ k : Nat, -1 ≤ tbi T H P v k ∧ tbi T H P v k < (k : Int) := by
  intro k
  induction k with
  | zero => exact ⟨Int.le_refl _, by show (-1 : Int) < ((0 : Nat) : Int); decide⟩
  | succ k ih =>
    by_cases q : (H k).toInt.toNat = v ∧ (T k).toInt ≠ (H k).toInt ∧ (tbi T H P v k < 0 ∨ (P k).toInt < (P (tbi T H P v k).toNat).toInt)
    · rw [tbi_y q]
      exact ⟨by omega, by omega⟩
    · rw [tbi_n q]
      exact ⟨ih.1, by omega⟩
/-- it goes into v, and from elsewhere -/
theorem tbi_h : ∀ k : Nat, 0 ≤ tbi T H P v k → (H (tbi T H P v k).toNat).toInt.toNat = v ∧ (T (tbi T H P v k).toNat).toInt ≠ (H (tbi T H P v k).toNat).toInt := by
  intro k
  induction k with
  | zero => intro h; exact absurd h (by show ¬ (0 : Int) ≤ -1; decide)
  | succ k ih =>
    intro h
    by_cases q : (H k).toInt.toNat = v ∧ (T k).toInt ≠ (H k).toInt ∧ (tbi T H P v k < 0 ∨ (P k).toInt < (P (tbi T H P v k).toNat).toInt)
    · rw [tbi_y q]
      exact ⟨q.1, q.2.1⟩
    · rw [tbi_n q] at h ⊢
      exact ih h
theorem tbi_cg (h : AGR k T H P T2 H2 P2) : ∀ j : Nat, j ≤ k → tbi T H P v j = tbi T2 H2 P2 v j := by
  intro j
  induction j with
  | zero => intro _; rfl
  | succ j ih =>
    intro hj
    have e := ih (by omega)
    obtain ⟨a1, a2, a3⟩ := h j (by omega)
    have l := tbi_l (T := T) (H := H) (P := P) (v := v) j
    have pp : ¬ tbi T H P v j < 0 → P (tbi T H P v j).toNat = P2 (tbi T H P v j).toNat := fun q => (h (tbi T H P v j).toNat (by omega)).2.2
    have ic : ((H j).toInt.toNat = v ∧ (T j).toInt ≠ (H j).toInt ∧ (tbi T H P v j < 0 ∨ (P j).toInt < (P (tbi T H P v j).toNat).toInt)) ↔ ((H2 j).toInt.toNat = v ∧ (T2 j).toInt ≠ (H2 j).toInt ∧ (tbi T2 H2 P2 v j < 0 ∨ (P2 j).toInt < (P2 (tbi T2 H2 P2 v j).toNat).toInt)) := by
      rw [← e, ← a1, ← a2, ← a3]
      constructor
      · rintro ⟨b1, b2, b3⟩
        refine ⟨b1, b2, ?_⟩
        by_cases q : tbi T H P v j < 0
        · exact Or.inl q
        · rw [← pp q]
          exact b3
      · rintro ⟨b1, b2, b3⟩
        refine ⟨b1, b2, ?_⟩
        by_cases q : tbi T H P v j < 0
        · exact Or.inl q
        · rw [pp q]
          exact b3
    by_cases c : (H j).toInt.toNat = v ∧ (T j).toInt ≠ (H j).toInt ∧ (tbi T H P v j < 0 ∨ (P j).toInt < (P (tbi T H P v j).toNat).toInt)
    · rw [tbi_y c, tbi_y (ic.mp c)]
    · rw [tbi_n c, tbi_n (fun z => c (ic.mpr z)), e]
theorem nxf_cg (h : AGR k T H P T2 H2 P2) : NXF T H P k = NXF T2 H2 P2 k := by
  funext v
  unfold NXF
  rw [← tbi_cg h k (Nat.le_refl _)]
  by_cases q : tbi T H P v k < 0
  · rw [if_pos q, if_pos q]
  · have l := tbi_l (T := T) (H := H) (P := P) (v := v) k
    rw [if_neg q, if_neg q, (h (tbi T H P v k).toNat (by omega)).1]
theorem lsv_cg (h : AGR k T H P T2 H2 P2) : LSV T H P k r = LSV T2 H2 P2 k r := by
  funext v
  unfold LSV
  rw [← tbi_cg h k (Nat.le_refl _)]
  by_cases q : tbi T H P v k < 0
  · rw [if_pos q, if_pos q]
  · have l := tbi_l (T := T) (H := H) (P := P) (v := v) k
    rw [if_neg q, if_neg q, (h (tbi T H P v k).toNat (by omega)).2.2]
theorem she_ag {R : Nat → Int} {l : Nat → Int64} {T3 H3 T4 H4 : Nat → Int32} {P3 P4 : Nat → Int64} (h : AGR k T H P T2 H2 P2) (h1 : SHE k T H P R l T3 H3 P3) (h2 : SHE k T2 H2 P2 R l T4 H4 P4) : AGR k T3 H3 P3 T4 H4 P4 := by
  intro e he
  obtain ⟨a1, a2, a3⟩ := h e he
  obtain ⟨b1, b2, b3⟩ := h1 e he
  obtain ⟨c1, c2, c3⟩ := h2 e he
  rw [b1, b2, b3, c1, c2, c3, a1, a2, a3]
  exact ⟨rfl, rfl, rfl⟩
theorem trq_u : ∀ (n n2 : Nat) {m r : Nat} {T H T2 H2 : Nat → Int32} {P P2 : Nat → Int64} {a z z2 : Int64}, AGR k T H P T2 H2 P2 → TRQ n m r k T H P a z → TRQ n2 m r k T2 H2 P2 a z2 → z = z2 := by
  intro n
  induction n with
  | zero => intro n2 m r T H T2 H2 P P2 a z z2 _ h; exact False.elim h
  | succ n ih =>
    intro n2 m r T H T2 H2 P P2 a z z2 g h h2
    cases n2 with
    | zero => exact False.elim h2
    | succ n2 =>
      have e1 : ∀ v, tbi T2 H2 P2 v k = tbi T H P v k := fun v => (tbi_cg g k (Nat.le_refl _)).symm
      have e2 := nxf_cg g
      have e3 := lsv_cg (r := r) g
      rcases h with ⟨h, v, v1, v2, v3⟩ | ⟨h, V, R, c, k1, k2⟩
      · rcases h2 with ⟨h2, -⟩ | ⟨h2, -⟩
        · rw [h, h2]
        · have q := h2 v v1 v2
          rw [e1] at q
          omega
      · rcases h2 with ⟨h2, v, v1, v2, v3⟩ | ⟨h2, V2, R2, c2, l1, l2⟩
        · have q := h v v1 v2
          rw [e1] at v3
          omega
        · rw [← e2] at l1
          rw [← e3] at l2
          obtain ⟨u1, u2, u3⟩ := rvs_u m k1 l1
          subst u2
          subst u3
          rcases k2 with ⟨k2, k3⟩ | ⟨k2, T3, H3, P3, k3, k4⟩
          · rcases l2 with ⟨l2, l3⟩ | ⟨l2, -⟩
            · rw [k3, l3]
            · exact absurd k2 l2
          · rcases l2 with ⟨l2, l3⟩ | ⟨l2, T4, H4, P4, l3, l4⟩
            · exact absurd l2 k2
            · exact ih n2 (she_ag g k3 l3) k4 l4
/-- one node is left -/
theorem trq_1 (hr : r = 0) : TRQ 1 1 r k T H P a a := by
  rw [hr]
  show _ ∨ _
  refine Or.inr ⟨fun v h1 h2 => absurd h1 (by omega), (fun _ => -1), (fun _ => -1), 0, ⟨(fun _ => -1), (fun _ => -1), 0, ⟨rfl, rfl, rfl⟩, 0, ⟨0, rfl, wst_n (a := ((fun _ => -1), 0)) (fun z => z.1 rfl)⟩, Or.inr ⟨fun z => z.1 rfl, rfl, rfl⟩⟩, Or.inl ⟨rfl, ?_⟩⟩
  show a = a + LSV T H P k 0 0
  have e : LSV T H P k 0 0 = Int64.ofInt 0 := if_pos rfl
  rw [e, show (Int64.ofInt 0) = 0 from rfl, Int64.add_zero]
end TRT
/-! the arcs that tie two nodes, in the order of their places -/
def EDJ (g : GVW) (p : Nat) : Prop := (g.2.1 p).toInt ≠ -1 ∧ (g.2.1 p).toInt ≠ (g.2.2.1 p).toInt
def EDG (g : GVW) (T H : Nat → Int32) (P : Nat → Int64) : Nat → Nat → Prop
  | 0, k => k = 0
  | p + 1, k => (¬ EDJ g p ∧ EDG g T H P p k) ∨ (EDJ g p ∧ ∃ j, k = j + 1 ∧ EDG g T H P p j ∧ (T j).toInt = (g.2.1 p).toInt ∧ (H j).toInt = (g.2.2.1 p).toInt ∧ P j = (g.2.2.2.1 p).toInt64)
section EDG
variable {g h : GVW} {T H T2 H2 : Nat → Int32} {P P2 : Nat → Int64}
theorem edg_u : ∀ (p : Nat) {k k2 : Nat}, EDG g T H P p k → EDG g T2 H2 P2 p k2 → k = k2 ∧ AGR k T H P T2 H2 P2 := by
  intro p
  induction p with
  | zero =>
    intro k k2 a b
    have a1 : k = 0 := a
    have b1 : k2 = 0 := b
    rw [a1, b1]
    exact ⟨rfl, fun e he => absurd he (Nat.not_lt_zero e)⟩
  | succ p ih =>
    intro k k2 a b
    rcases a with ⟨a1, a2⟩ | ⟨a1, j, e, a2, a3, a4, a5⟩
    · rcases b with ⟨b1, b2⟩ | ⟨b1, -⟩
      · exact ih a2 b2
      · exact absurd b1 a1
    · rcases b with ⟨b1, b2⟩ | ⟨b1, j2, e2, b2, b3, b4, b5⟩
      · exact absurd a1 b1
      · obtain ⟨q1, q2⟩ := ih a2 b2
        refine ⟨by omega, fun i hi => ?_⟩
        by_cases c : i = j
        · rw [c]
          have q3 : j2 = j := by omega
          rw [q3] at b3 b4 b5
          exact ⟨by rw [a3, b3], by rw [a4, b4], by rw [a5, b5]⟩
        · exact q2 i (by omega)
theorem edg_cg : ∀ (p : Nat) {k : Nat}, (∀ i, i < k → T2 i = T i ∧ H2 i = H i ∧ P2 i = P i) → EDG g T H P p k → EDG g T2 H2 P2 p k := by
  intro p
  induction p with
  | zero => intro k _ a; exact a
  | succ p ih =>
    intro k c a
    rcases a with ⟨a1, a2⟩ | ⟨a1, j, e, a2, a3, a4, a5⟩
    · exact Or.inl ⟨a1, ih c a2⟩
    · obtain ⟨c1, c2, c3⟩ := c j (by omega)
      exact Or.inr ⟨a1, j, e, ih (fun i hi => c i (by omega)) a2, by rw [c1]; exact a3, by rw [c2]; exact a4, by rw [c3]; exact a5⟩
theorem edg_n {p k : Nat} (hn : ¬ EDJ g p) (h : EDG g T H P p k) : EDG g T H P (p + 1) k := Or.inl ⟨hn, h⟩
theorem edg_y {p k : Nat} {x y : Int32} {w : Int64} (hj : EDJ g p) (h : EDG g T H P p k) (hx : x.toInt = (g.2.1 p).toInt) (hy : y.toInt = (g.2.2.1 p).toInt) (hw : w = (g.2.2.2.1 p).toInt64) (h1 : T2 = upd T k x) (h2 : H2 = upd H k y) (h3 : ∀ i, P2 i = if i = k then w else P i) : EDG g T2 H2 P2 (p + 1) (k + 1) := by
  refine Or.inr ⟨hj, k, rfl, edg_cg p (fun i hi => ?_) h, ?_, ?_, ?_⟩
  · have ne : i ≠ k := by omega
    rw [h1, h2, h3 i, up_n ne, up_n ne, if_neg ne]
    exact ⟨rfl, rfl, rfl⟩
  · rw [h1, up_e]; exact hx
  · rw [h2, up_e]; exact hy
  · rw [h3 k, if_pos rfl]; exact hw
theorem edg_t {p k : Nat} (hq : ∀ i, p ≤ i → i < 160 → (g.2.1 i).toInt = -1) (h : EDG g T H P p k) : ∀ n : Nat, p + n ≤ 160 → EDG g T H P (p + n) k := by
  intro n
  induction n with
  | zero => intro _; exact h
  | succ n ih =>
    intro hn
    exact edg_n (fun z => z.1 (hq (p + n) (by omega) (by omega))) (ih (by omega))
theorem edj_e (q : GEW g h) {p : Nat} (hp : p < 160) : EDJ g p ↔ EDJ h p := by
  have e1 := q.2.1 p hp
  unfold EDJ
  rw [← e1]
  constructor
  · rintro ⟨a, b⟩
    have e2 := (q.2.2.1 p hp a).1
    rw [← e2]
    exact ⟨a, b⟩
  · rintro ⟨a, b⟩
    have e2 := (q.2.2.1 p hp a).1
    rw [← e2] at b
    exact ⟨a, b⟩
theorem edg_e (q : GEW g h) : ∀ (p : Nat) {k : Nat}, p ≤ 160 → EDG g T H P p k → EDG h T H P p k := by
  intro p
  induction p with
  | zero => intro k _ a; exact a
  | succ p ih =>
    intro k hp a
    rcases a with ⟨a1, a2⟩ | ⟨a1, j, e, a2, a3, a4, a5⟩
    · exact Or.inl ⟨fun z => a1 ((edj_e q (by omega)).mpr z), ih (by omega) a2⟩
    · have e1 := q.2.1 p (by omega)
      obtain ⟨e2, e3, -⟩ := q.2.2.1 p (by omega) a1.1
      exact Or.inr ⟨(edj_e q (by omega)).mp a1, j, e, ih (by omega) a2, by rw [← e1]; exact a3, by rw [← e2]; exact a4, by rw [← e3]; exact a5⟩
/-- the least tree from r -/
def TRS (g : GVW) (r : Nat) (z : Int) : Prop := ∃ (n k : Nat) (T H : Nat → Int32) (P : Nat → Int64) (y : Int64), EDG g T H P 160 k ∧ TRQ n g.2.2.2.2.2.2.1.toNat r k T H P (Int64.ofInt 0) y ∧ y.toInt = z
theorem trs_u {r : Nat} {z z2 : Int} (q : GEW g h) (a : TRS g r z) (b : TRS h r z2) : z = z2 := by
  obtain ⟨n, k, T, H, P, y, a1, a2, a3⟩ := a
  obtain ⟨n2, k2, T2, H2, P2, y2, b1, b2, b3⟩ := b
  obtain ⟨e, ag⟩ := edg_u 160 (edg_e q 160 (Nat.le_refl _) a1) b1
  subst e
  rw [← q.2.2.2] at b2
  have := trq_u n n2 ag a2 b2
  rw [← a3, ← b3, this]
/-- what is left to do: whatever comes of it is the answer -/
def TCT (g : GVW) (root m r k : Nat) (T H : Nat → Int32) (P : Nat → Int64) (a : Int64) : Prop := ∀ z : Int64, (∃ n, TRQ n m r k T H P a z) → TRS g root z.toInt
theorem tct_0 {root k m : Nat} (h : EDG g T H P 160 k) (hm : m = g.2.2.2.2.2.2.1.toNat) : TCT g root m root k T H P (Int64.ofInt 0) := fun z ⟨n, hz⟩ => ⟨n, k, T, H, P, z, h, by rw [← hm]; exact hz, rfl⟩
theorem tct_no {root m r k v : Nat} {a : Int64} (h : TCT g root m r k T H P a) (h1 : v < m) (h2 : v ≠ r) (h3 : tbi T H P v k < 0) : TRS g root (Int64.ofInt 9000000000000000).toInt := h _ ⟨1, Or.inl ⟨rfl, v, h1, h2, h3⟩⟩
theorem tct_e {root m r k : Nat} {a : Int64} {V R : Nat → Int} {c : Int} (h : TCT g root m r k T H P a) (hb : ∀ v, v < m → v ≠ r → 0 ≤ tbi T H P v k) (hv : RVS (NXF T H P k) r m V R c) (hc : c = 0) : TRS g root (sma (LSV T H P k r) a m).toInt := h _ ⟨1, Or.inr ⟨hb, V, R, c, hv, Or.inl ⟨hc, rfl⟩⟩⟩
theorem tct_1 {root m r k : Nat} {a : Int64} (h : TCT g root m r k T H P a) (hm : m = 1) (hr : r = 0) : TRS g root a.toInt := h _ ⟨1, by rw [hm]; exact trq_1 hr⟩
theorem tct_s {root m r k : Nat} {a : Int64} {V R : Nat → Int} {c : Int} {m2 r2 : Nat} (h : TCT g root m r k T H P a) (hb : ∀ v, v < m → v ≠ r → 0 ≤ tbi T H P v k) (hv : RVS (NXF T H P k) r m V R c) (hc : c ≠ 0) (hs : SHE k T H P (oth R c m).1 (LSV T H P k r) T2 H2 P2) (hm : m2 = (oth R c m).2.toNat) (hr : r2 = ((oth R c m).1 r).toNat) : TCT g root m2 r2 k T2 H2 P2 (sma (LSV T H P k r) a m) := fun z ⟨n, hz⟩ => h z ⟨n + 1, Or.inr ⟨hb, V, R, c, hv, Or.inr ⟨hc, T2, H2, P2, hs, by rw [← hm, ← hr]; exact hz⟩⟩⟩
end EDG
theorem nxf_n {T H : Nat → Int32} {P : Nat → Int64} {m r k : Nat} (hb : ∀ v, v < m → v ≠ r → 0 ≤ tbi T H P v k) (ha : ∀ e, e < k → (0 ≤ (T e).toInt ∧ (T e).toInt < (m : Int)) ∧ 0 ≤ (H e).toInt) : HN (NXF T H P k) m r := by
  intro u hu hr
  have q := hb u hu hr
  have l := tbi_l (T := T) (H := H) (P := P) (v := u) k
  have e : NXF T H P k u = (T (tbi T H P u k).toNat).toInt.toNat := if_neg (by omega)
  obtain ⟨t1, t2⟩ := tbi_h (T := T) (H := H) (P := P) (v := u) k q
  obtain ⟨⟨a1, a2⟩, a3⟩ := ha (tbi T H P u k).toNat (by omega)
  rw [e]
  exact ⟨by omega, by omega⟩
/-! the rows of a state: next ones by N -/
def RNX (N : Nat → Int) (m r : Nat) (nx : Nat → Nat) : Prop := HN nx m r ∧ ∀ u, u < m → u ≠ r → N u = (nx u : Int)
def RVC (N : Nat → Int) (V R : Nat → Int32) (m r v : Nat) (c : Int) : Prop := ∀ nx, RNX N m r nx → RVS nx r v (czm m V) (czm m R) c
def WAC (N : Nat → Int) (V R : Nat → Int32) (m r v : Nat) (c : Int) (x : Int32) : Prop := ∀ nx, RNX N m r nx → WA nx r v c (czm m V) (czm m R) x.toNatClampNeg
def WBC (N : Nat → Int) (V R : Nat → Int32) (m r v : Nat) (c : Int) (x : Int32) : Prop := ∀ nx, RNX N m r nx → WB nx r v c (czm m V) (czm m R) x.toNatClampNeg
def WCC (N : Nat → Int) (V : Nat → Int32) (m r : Nat) (i : Int) : Prop := ∀ nx, RNX N m r nx → i + (c1m V m : Int) ≤ (m : Int)
section RVC
variable {N : Nat → Int} {V R : Nat → Int32} {m r v : Nat} {c i : Int} {x : Int32}
theorem rvc_0 (hV : ∀ u, u < m → (V u).toInt = -1) (hR : ∀ u, u < m → (R u).toInt = -1) : RVC N V R m r 0 0 := fun nx _ => ⟨czm_m hV, czm_m hR, rfl⟩
theorem wac_0 (h : RVC N V R m r x.toNatClampNeg c) : WAC N V R m r x.toNatClampNeg c x := fun nx hn => wa_0 (h nx hn)
theorem wcc_0 : WCC N V m r 0 := fun _ _ => by
  have := c1m_le (w := V) m
  omega
theorem wac_s {y w z : Int32} (h : WAC N V R m r v c x) (hv : v < m) (ey : y.toInt = (v : Int)) (h1 : x.toNatClampNeg ≠ r) (hz : z = V x.toNatClampNeg) (h2 : z.toInt = -1) (hw : w.toInt = N x.toNatClampNeg) : WAC N (upd V x.toNatClampNeg y) R m r v c w := fun nx hn => by
  have k := h nx hn
  have xm := (wa_m hn.1 hv k).1
  have e := hn.2 _ xm h1
  have q := wa_s k h1 (by rw [czm_e xm, ← hz]; exact h2)
  rw [czm_u xm, ey]
  have ew : w.toNatClampNeg = nx x.toNatClampNeg := by
    show w.toInt.toNat = _
    omega
  rw [ew]
  exact q
theorem wcc_s {y z : Int32} (h : WAC N V R m r v c x) (k : WCC N V m r i) (hv : v < m) (hy : y.toInt ≠ -1) (hz : z = V x.toNatClampNeg) (h2 : z.toInt = -1) : WCC N (upd V x.toNatClampNeg y) m r (i + 1) := fun nx hn => by
  have a := h nx hn
  have b := k nx hn
  have xm := (wa_m hn.1 hv a).1
  have u := c1m_up (w := V) (j := x.toNatClampNeg) (x := y) (by rw [← hz]; exact h2) hy xm
  omega
/-- a counter that has run out: nothing of the kind -/
theorem wcc_x {P : Prop} (k : WCC N V m r i) (hi : (m : Int) < i) : ∀ nx, RNX N m r nx → P := fun nx hn => by
  have b := k nx hn
  omega
theorem wac_e (h : WAC N V R m r v c x) (hv : v < m) (hs : x.toNatClampNeg = r ∨ (V x.toNatClampNeg).toInt ≠ -1) (hn : x.toNatClampNeg = r ∨ (V x.toNatClampNeg).toInt ≠ (v : Int) ∨ (R x.toNatClampNeg).toInt ≠ -1) : RVC N V R m r (v + 1) c := fun nx hx => by
  have k := h nx hx
  have xm := (wa_m hx.1 hv k).1
  refine wa_e k ?_ (fun z => ?_)
  · rw [czm_e xm]
    exact hs
  · rw [czm_e xm, czm_e xm] at z
    rcases hn with e | e | e
    · exact z.1 e
    · exact e z.2.1
    · exact e z.2.2
theorem wbc_0 (h : WAC N V R m r v c x) (hv : v < m) (hs : x.toNatClampNeg = r ∨ (V x.toNatClampNeg).toInt ≠ -1) (h1 : x.toNatClampNeg ≠ r) (h2 : (V x.toNatClampNeg).toInt = (v : Int)) (h3 : (R x.toNatClampNeg).toInt = -1) : WBC N V R m r v c x := fun nx hx => by
  have k := h nx hx
  have xm := (wa_m hx.1 hv k).1
  refine wb_0 k ?_ ⟨h1, ?_, ?_⟩
  · rw [czm_e xm]
    exact hs
  · rw [czm_e xm]
    exact h2
  · rw [czm_e xm]
    exact h3
theorem wbc_s {y w z : Int32} (h : WBC N V R m r v c x) (hv : v < m) (ey : y.toInt = c) (hz : z = R x.toNatClampNeg) (h2 : z.toInt = -1) (hw : w.toInt = N x.toNatClampNeg) : WBC N V (upd R x.toNatClampNeg y) m r v c w := fun nx hn => by
  have k := h nx hn
  obtain ⟨x1, x2, x3⟩ := wb_v hn.1 hv k
  have e := hn.2 _ x3 x2
  have q := wb_s k (by rw [czm_e x3, ← hz]; exact h2)
  rw [czm_u x3, ey]
  have ew : w.toNatClampNeg = nx x.toNatClampNeg := by
    show w.toInt.toNat = _
    omega
  rw [ew]
  exact q
theorem wcb_s {y z : Int32} (h : WBC N V R m r v c x) (k : WCC N R m r i) (hv : v < m) (hy : y.toInt ≠ -1) (hz : z = R x.toNatClampNeg) (h2 : z.toInt = -1) : WCC N (upd R x.toNatClampNeg y) m r (i + 1) := fun nx hn => by
  have a := h nx hn
  have b := k nx hn
  have x3 := (wb_v hn.1 hv a).2.2
  have u := c1m_up (w := R) (j := x.toNatClampNeg) (x := y) (by rw [← hz]; exact h2) hy x3
  omega
theorem wbc_e {z : Int32} (h : WBC N V R m r v c x) (hv : v < m) (hz : z = R x.toNatClampNeg) (h2 : z.toInt ≠ -1) : RVC N V R m r (v + 1) (c + 1) := fun nx hn => by
  have k := h nx hn
  have x3 := (wb_v hn.1 hv k).2.2
  exact wb_e k (by rw [czm_e x3, ← hz]; exact h2)
theorem wbc_A (h : WBC N V R m r v c x) (k : WCC N R m r i) (hv : v < m) (hi : (m : Int) ≤ i) : RVC N V R m r (v + 1) (c + 1) := fun nx hn => by
  have a := h nx hn
  have b := k nx hn
  have x3 := (wb_v hn.1 hv a).2.2
  refine wb_e a (fun z => ?_)
  rw [czm_e x3] at z
  have u := c1m_pos z x3
  omega
/-- what the walk's node is -/
theorem wac_q (h : WAC N V R m r v c x) (hv : v < m) {nx : Nat → Nat} (hn : RNX N m r nx) : x.toNatClampNeg < m ∧ ((R x.toNatClampNeg).toInt ≠ -1 → (V x.toNatClampNeg).toInt ≠ -1) := by
  obtain ⟨a, b⟩ := wa_m hn.1 hv (h nx hn)
  refine ⟨a, fun z => ?_⟩
  have q := b x.toNatClampNeg
  rw [czm_e a, czm_e a] at q
  exact q z
theorem otc_y {f : Nat → Int32} {Q : Nat → Int} {y z : Int32} (h1 : czm m f = (oth Q c v).1) (h2 : y.toInt = (oth Q c v).2) (hv : v < m) (hz : (f v).toInt = -1) (e : z.toInt = y.toInt + 1) : czm m (upd f v y) = (oth Q c (v + 1)).1 ∧ z.toInt = (oth Q c (v + 1)).2 := by
  have q : (oth Q c v).1 v = -1 := by
    rw [← h1, czm_e hv]
    exact hz
  rw [oth_y q, czm_u hv, h1, e, h2]
  exact ⟨rfl, rfl⟩
theorem otc_n {f : Nat → Int32} {Q : Nat → Int} {y : Int32} (h1 : czm m f = (oth Q c v).1) (h2 : y.toInt = (oth Q c v).2) (hv : v < m) (hz : (f v).toInt ≠ -1) : czm m f = (oth Q c (v + 1)).1 ∧ y.toInt = (oth Q c (v + 1)).2 := by
  have q : ¬ (oth Q c v).1 v = -1 := by
    rw [← h1, czm_e hv]
    exact hz
  rw [oth_n q]
  exact ⟨h1, h2⟩
end RVC
theorem tsL_q {s : GS} {q j i : Nat} {v : Int64} : (sL s q j v).2.1 q i = if i = j then v else s.2.1 q i := by
  show (if q = q then vp_updL (s.2.1 q) j v else s.2.1 q) i = _
  rw [if_pos rfl]
  rfl
theorem edj_y {g : GVW} {p : Nat} {x y : Int32} (hx : x = g.2.1 p) (hy : y = g.2.2.1 p) (h1 : x.toInt ≠ -1) (h2 : x.toInt ≠ y.toInt) : EDJ g p := by
  unfold EDJ
  rw [← hx, ← hy]
  exact ⟨h1, h2⟩
theorem edj_m {g : GVW} {p : Nat} {x : Int32} (hx : x = g.2.1 p) (h1 : x.toInt = -1) : ¬ EDJ g p := fun z => z.1 (by rw [← hx]; exact h1)
theorem edj_l {g : GVW} {p : Nat} {x y : Int32} (hx : x = g.2.1 p) (hy : y = g.2.2.1 p) (h2 : x.toInt = y.toInt) : ¬ EDJ g p := fun z => z.2 (by rw [← hx, ← hy]; exact h2)
theorem edg_q {g : GVW} {T H : Nat → Int32} {P : Nat → Int64} {p k : Nat} {T0 : Int} (hT : ∀ i : Nat, i < 160 → (g.2.1 i).toInt ≠ -1 → (i : Int) < T0) (h : EDG g T H P p k) (hp : T0 ≤ (p : Int)) (h6 : p ≤ 160) : EDG g T H P 160 k := by
  have q := edg_t (fun i h1 h2 => Classical.byContradiction fun z => by
    have := hT i h2 z
    omega) h (160 - p) (by omega)
  rw [show p + (160 - p) = 160 by omega] at q
  exact q
/-! the class: the cheapest arcs -/
def CHP (T H : Nat → Int32) (P : Nat → Int64) (e : Nat) (L : Nat → Int64) (B : Nat → Int32) : Prop := ∀ v : Nat, v < 32 → (tbi T H P v e < 0 → (L v).toInt = 9223372036854775807) ∧ (0 ≤ tbi T H P v e → L v = P (tbi T H P v e).toNat ∧ B v = T (tbi T H P v e).toNat)
def CHR (T H : Nat → Int32) (P : Nat → Int64) (k r : Nat) (L : Nat → Int64) (B : Nat → Int32) : Prop := (L r = Int64.ofInt 0) ∧ ∀ v : Nat, v < 32 → v ≠ r → (tbi T H P v k < 0 → (L v).toInt = 9223372036854775807) ∧ (0 ≤ tbi T H P v k → L v = P (tbi T H P v k).toNat ∧ B v = T (tbi T H P v k).toNat)
section CHP
variable {T H B B2 : Nat → Int32} {P L L2 : Nat → Int64} {e k r : Nat}
theorem chp_0 (h : ∀ i, i < 32 → L i = Int64.ofInt 9223372036854775807) : CHP T H P 0 L B := fun v hv => ⟨fun _ => by rw [h v hv]; rfl, fun z => absurd z (by show ¬ (0 : Int) ≤ -1; decide)⟩
theorem chp_y {x y : Int32} {w l : Int64} (h : CHP T H P e L B) (hx : x = T e) (hy : y = H e) (hw : w = P e) (hl : l = L y.toNatClampNeg) (ne : x.toInt ≠ y.toInt) (lt : w.toInt < l.toInt) (hL : ∀ i, L2 i = if i = y.toNatClampNeg then w else L i) (hB : B2 = upd B y.toNatClampNeg x) : CHP T H P (e + 1) L2 B2 := by
  intro v hv
  have en : y.toNatClampNeg = (H e).toInt.toNat := by rw [← hy]; rfl
  by_cases c : (H e).toInt.toNat = v
  · have q : (H e).toInt.toNat = v ∧ (T e).toInt ≠ (H e).toInt ∧ (tbi T H P v e < 0 ∨ (P e).toInt < (P (tbi T H P v e).toNat).toInt) := by
      refine ⟨c, by rw [← hx, ← hy]; exact ne, ?_⟩
      by_cases z : tbi T H P v e < 0
      · exact Or.inl z
      · have d := ((h v hv).2 (by omega)).1
        rw [en, c, d] at hl
        rw [← hw, ← hl]
        exact Or.inr lt
    rw [tbi_y q]
    refine ⟨fun z => by omega, fun _ => ?_⟩
    rw [Int.toNat_natCast, hL v, hB, en, c, if_pos rfl, up_e]
    exact ⟨hw, hx⟩
  · rw [tbi_n (fun z => c z.1), hL v, hB, en, if_neg (fun z => c z.symm), up_n (fun z => c z.symm)]
    exact h v hv
theorem chp_l {x y : Int32} (h : CHP T H P e L B) (hx : x = T e) (hy : y = H e) (eq : x.toInt = y.toInt) : CHP T H P (e + 1) L B := by
  intro v hv
  rw [tbi_n (fun z => z.2.1 (by rw [← hx, ← hy]; exact eq))]
  exact h v hv
theorem chp_n {y : Int32} {w l : Int64} (h : CHP T H P e L B) (hy : y = H e) (y32 : y.toInt ≤ 31) (hw : w = P e) (hl : l = L y.toNatClampNeg) (ge : l.toInt ≤ w.toInt) (hf : (P e).toInt < 9223372036854775807) : CHP T H P (e + 1) L B := by
  intro v hv
  have en : y.toNatClampNeg = (H e).toInt.toNat := by rw [← hy]; rfl
  have q : ¬ ((H e).toInt.toNat = v ∧ (T e).toInt ≠ (H e).toInt ∧ (tbi T H P v e < 0 ∨ (P e).toInt < (P (tbi T H P v e).toNat).toInt)) := by
    rintro ⟨c, -, d⟩
    rw [en, c] at hl
    rw [← hw] at hf d
    rcases d with d | d
    · have k := (h v hv).1 d
      rw [← hl] at k
      omega
    · by_cases z : tbi T H P v e < 0
      · have k := (h v hv).1 z
        rw [← hl] at k
        omega
      · have k := ((h v hv).2 (by omega)).1
        rw [← k, ← hl] at d
        omega
  rw [tbi_n q]
  exact h v hv
theorem chr_0 (h : CHP T H P k L B) (hL : ∀ i, L2 i = if i = r then Int64.ofInt 0 else L i) : CHR T H P k r L2 B := by
  refine ⟨by rw [hL r, if_pos rfl], fun v hv hr => ?_⟩
  rw [hL v, if_neg hr]
  exact h v hv
end CHP
def TKB (s t : GS) (m r : Nat) : Prop := (∀ v, v < m → v ≠ r → 0 ≤ tbi (s.1 77) (s.1 78) (s.2.1 79) v (s.2.2.1 76 0).toNatClampNeg) ∧ (∀ v, v < m → t.2.1 80 v = LSV (s.1 77) (s.1 78) (s.2.1 79) (s.2.2.1 76 0).toNatClampNeg r v) ∧ (∀ v, v < m → v ≠ r → (t.1 81 v).toInt = (NXF (s.1 77) (s.1 78) (s.2.1 79) (s.2.2.1 76 0).toNatClampNeg v : Int))
def TKN0 (s : GS) (m r : Nat) : Prop := ∃ v, v < m ∧ v ≠ r ∧ tbi (s.1 77) (s.1 78) (s.2.1 79) v (s.2.2.1 76 0).toNatClampNeg < 0
section TKB
variable {s t : GS} {m r : Nat}
theorem tkb_y (hI : Inv s) (h : CHR (s.1 77) (s.1 78) (s.2.1 79) (s.2.2.1 76 0).toNatClampNeg r (t.2.1 80) (t.1 81)) (hm : m ≤ 32) (hf : ∀ v : Nat, v < m → (t.2.1 80 v).toInt ≠ 9223372036854775807) : TKB s t m r := by
  have b : ∀ v, v < m → v ≠ r → 0 ≤ tbi (s.1 77) (s.1 78) (s.2.1 79) v (s.2.2.1 76 0).toNatClampNeg := fun v hv hr => Classical.byContradiction fun z => hf v hv ((h.2 v (by omega) hr).1 (by omega))
  refine ⟨b, fun v hv => ?_, fun v hv hr => ?_⟩
  · by_cases e : v = r
    · rw [e, h.1]
      exact (if_pos rfl).symm
    · have q := b v hv e
      rw [((h.2 v (by omega) e).2 q).1]
      unfold LSV
      rw [if_neg e, if_neg (by omega)]
  · have q := b v hv hr
    have l := tbi_l (T := s.1 77) (H := s.1 78) (P := s.2.1 79) (v := v) (s.2.2.1 76 0).toNatClampNeg
    have a := inv_F hI (z := s.2.2.1 76 0) 0 160 rfl rfl
    have a2 := a.2
    have k : (s.2.2.1 76 0).toNatClampNeg = (s.2.2.1 76 0).toInt.toNat := rfl
    have i0 := (hI.1.1 77 (tbi (s.1 77) (s.1 78) (s.2.1 79) v (s.2.2.1 76 0).toNatClampNeg).toNat (Nat.lt_of_lt_of_le (show _ < 160 by omega) (Nat.le_of_ble_eq_true rfl))).1
    have i1 : 0 ≤ (s.1 77 (tbi (s.1 77) (s.1 78) (s.2.1 79) v (s.2.2.1 76 0).toNatClampNeg).toNat).toInt := i0
    rw [((h.2 v (by omega) hr).2 q).2]
    have e : NXF (s.1 77) (s.1 78) (s.2.1 79) (s.2.2.1 76 0).toNatClampNeg v = (s.1 77 (tbi (s.1 77) (s.1 78) (s.2.1 79) v (s.2.2.1 76 0).toNatClampNeg).toNat).toInt.toNat := if_neg (by omega)
    rw [e]
    omega
theorem tkb_n {v : Nat} (h : CHR (s.1 77) (s.1 78) (s.2.1 79) (s.2.2.1 76 0).toNatClampNeg r (t.2.1 80) (t.1 81)) (hv : v < m) (hm : m ≤ 32) (hz : (t.2.1 80 v).toInt = 9223372036854775807) (hf : ∀ e : Nat, (e : Int) < (s.2.2.1 76 0).toInt → (s.2.1 79 e).toInt < 9223372036854775807) : TKN0 s m r := by
  have hr : v ≠ r := fun e => by
    rw [e, h.1] at hz
    exact absurd hz (by decide)
  refine ⟨v, hv, hr, Classical.byContradiction fun z => ?_⟩
  have l := tbi_l (T := s.1 77) (H := s.1 78) (P := s.2.1 79) (v := v) (s.2.2.1 76 0).toNatClampNeg
  have k : (s.2.2.1 76 0).toNatClampNeg = (s.2.2.1 76 0).toInt.toNat := rfl
  have q := ((h.2 v (by omega) hr).2 (by omega)).1
  have f := hf (tbi (s.1 77) (s.1 78) (s.2.1 79) v (s.2.2.1 76 0).toNatClampNeg).toNat (by omega)
  rw [q] at hz
  omega
end TKB
/-- the first e arcs have new prices -/
def SHQP (s t : GS) (e : Nat) : Prop := (∀ i : Nat, i < e → t.2.1 79 i = (if (s.1 77 i).toInt ≠ (s.1 78 i).toInt then s.2.1 79 i - s.2.1 80 (s.1 78 i).toNatClampNeg else s.2.1 79 i)) ∧ ∀ i : Nat, e ≤ i → t.2.1 79 i = s.2.1 79 i
theorem shqp_0 {s : GS} : SHQP s s 0 := ⟨fun i h => absurd h (Nat.not_lt_zero i), fun i _ => rfl⟩
theorem shqp_y {s t u : GS} {e : Nat} {x y : Int32} {w l z : Int64} (h : SHQP s t e) (hx : x = s.1 77 e) (hy : y = s.1 78 e) (ne : x.toInt ≠ y.toInt) (hw : w = t.2.1 79 e) (hl : l = s.2.1 80 y.toNatClampNeg) (hz : z = w - l) (hu : ∀ i, u.2.1 79 i = if i = e then z else t.2.1 79 i) : SHQP s u (e + 1) := by
  refine ⟨fun i hi => ?_, fun i hi => ?_⟩
  · rw [hu i]
    by_cases c : i = e
    · rw [if_pos c, c, ← hx, ← hy, if_pos ne, hz, hw, hl, h.2 e (Nat.le_refl _)]
    · rw [if_neg c]
      exact h.1 i (by omega)
  · rw [hu i, if_neg (by omega)]
    exact h.2 i (by omega)
theorem shqp_n {s t u : GS} {e : Nat} {x y : Int32} (h : SHQP s t e) (hx : x = s.1 77 e) (hy : y = s.1 78 e) (eq : x.toInt = y.toInt) (hu : u.2.1 79 = t.2.1 79) : SHQP s u (e + 1) := by
  refine ⟨fun i hi => ?_, fun i hi => ?_⟩
  · rw [hu]
    by_cases c : i = e
    · rw [c, ← hx, ← hy, if_neg (fun z => z eq), h.2 e (Nat.le_refl _)]
    · exact h.1 i (by omega)
  · rw [hu]
    exact h.2 i (by omega)
theorem she_of {s t : GS} {e m : Nat} {l : Nat → Int64} (h1 : SHR s t e) (h2 : SHQP s t e) (he : (s.2.2.1 76 0).toInt ≤ (e : Int)) (ha : AE s (m : Int)) (hl : ∀ v, v < m → s.2.1 80 v = l v) : SHE (s.2.2.1 76 0).toNatClampNeg (s.1 77) (s.1 78) (s.2.1 79) (czm m (s.1 83)) l (t.1 77) (t.1 78) (t.2.1 79) := by
  intro i hi
  have k : (s.2.2.1 76 0).toNatClampNeg = (s.2.2.1 76 0).toInt.toNat := rfl
  obtain ⟨⟨a1, a2⟩, a3, a4⟩ := ha i (by omega)
  obtain ⟨b1, b2⟩ := h1.1 i (by omega)
  have b3 := h2.1 i (by omega)
  have t1 : (s.1 77 i).toInt.toNat < m := by omega
  have t2 : (s.1 78 i).toInt.toNat < m := by omega
  rw [czm_e t1, czm_e t2, b1, b2, b3, ← hl _ t2]
  exact ⟨rfl, rfl, rfl⟩
def bbd : Nat → Int
  | 0 => 1000000
  | n + 1 => 2 * bbd n
theorem bbd_p : ∀ n : Nat, 0 ≤ bbd n := by
  intro n
  induction n with
  | zero => show (0 : Int) ≤ 1000000; decide
  | succ n ih => show 0 ≤ 2 * bbd n; omega
theorem bbd_m {n : Nat} : ∀ k : Nat, bbd n ≤ bbd (n + k) := by
  intro k
  induction k with
  | zero => exact Int.le_refl _
  | succ k ih =>
    have p := bbd_p (n + k)
    show bbd n ≤ 2 * bbd (n + k)
    omega
theorem bbd_32 {n : Nat} (h : n ≤ 32) : bbd n ≤ 4294967296000000 := by
  have q := bbd_m (n := n) (32 - n)
  rw [show n + (32 - n) = 32 by omega] at q
  exact Int.le_trans q (by decide)
def PBD (s : GS) (B : Int) : Prop := ∀ e : Nat, (e : Int) < (s.2.2.1 76 0).toInt → -B ≤ (s.2.1 79 e).toInt ∧ (s.2.1 79 e).toInt ≤ B
theorem pbd_s {s t : GS} {B : Int} {r : Nat} {R : Nat → Int} (h : PBD s B) (h0 : 0 ≤ B) (hB : B ≤ 4294967296000000) (ht : t.2.2.1 76 0 = s.2.2.1 76 0) (hs : SHE (s.2.2.1 76 0).toNatClampNeg (s.1 77) (s.1 78) (s.2.1 79) R (LSV (s.1 77) (s.1 78) (s.2.1 79) (s.2.2.1 76 0).toNatClampNeg r) (t.1 77) (t.1 78) (t.2.1 79)) : PBD t (2 * B) := by
  intro e he
  rw [ht] at he
  have k : (s.2.2.1 76 0).toNatClampNeg = (s.2.2.1 76 0).toInt.toNat := rfl
  obtain ⟨b1, b2⟩ := h e he
  have q := (hs e (by omega)).2.2
  have lv : ∀ v, -B ≤ (LSV (s.1 77) (s.1 78) (s.2.1 79) (s.2.2.1 76 0).toNatClampNeg r v).toInt ∧ (LSV (s.1 77) (s.1 78) (s.2.1 79) (s.2.2.1 76 0).toNatClampNeg r v).toInt ≤ B := by
    intro v
    have z0 : (Int64.ofInt 0).toInt = 0 := rfl
    unfold LSV
    by_cases c : v = r
    · rw [if_pos c, z0]
      exact ⟨by omega, h0⟩
    · rw [if_neg c]
      by_cases d : tbi (s.1 77) (s.1 78) (s.2.1 79) v (s.2.2.1 76 0).toNatClampNeg < 0
      · rw [if_pos d, z0]
        exact ⟨by omega, h0⟩
      · rw [if_neg d]
        have l := tbi_l (T := s.1 77) (H := s.1 78) (P := s.2.1 79) (v := v) (s.2.2.1 76 0).toNatClampNeg
        exact h _ (by omega)
  by_cases c : (s.1 77 e).toInt ≠ (s.1 78 e).toInt
  · rw [if_pos c] at q
    obtain ⟨l1, l2⟩ := lv (s.1 78 e).toInt.toNat
    have w := lsub_t q (by omega) (by omega)
    rw [w]
    exact ⟨by omega, by omega⟩
  · rw [if_neg c] at q
    rw [q]
    exact ⟨by omega, by omega⟩
theorem rnx_c {s t : GS} {m r : Nat} (h : TKB s t m r) (ha : AE s (m : Int)) : RNX (fun u => (t.1 81 u).toInt) m r (NXF (s.1 77) (s.1 78) (s.2.1 79) (s.2.2.1 76 0).toNatClampNeg) := by
  have k : (s.2.2.1 76 0).toNatClampNeg = (s.2.2.1 76 0).toInt.toNat := rfl
  exact ⟨nxf_n h.1 (fun e he => ⟨(ha e (by omega)).1, (ha e (by omega)).2.1⟩), h.2.2⟩
/-! the reference -/
theorem up_eqm {f : Nat → Int32} {k w : Nat} {b : Int32} (h : k ≠ w → (f k).toInt = -1) (hb : b.toInt = -1) : (upd f w b k).toInt = -1 := by
  by_cases c : k = w
  · rw [c, up_e]; exact hb
  · rw [up_n c]; exact h c
def RV1 (R V : Nat → Int32) (m : Int) : Prop := ∀ k : Nat, (k : Int) < m → -1 ≤ (R k).toInt ∧ -1 ≤ (V k).toInt
theorem rv1_R {R V : Nat → Int32} {m : Int} {j : Nat} {b : Int32} (h : RV1 R V m) (hb : -1 ≤ b.toInt) : RV1 (upd R j b) V m := fun k hk => by
  refine ⟨?_, (h k hk).2⟩
  by_cases c : k = j
  · rw [c, up_e]; exact hb
  · rw [up_n c]; exact (h k hk).1
theorem rv1_V {R V : Nat → Int32} {m : Int} {j : Nat} {b : Int32} (h : RV1 R V m) (hb : -1 ≤ b.toInt) : RV1 R (upd V j b) m := fun k hk => by
  refine ⟨(h k hk).1, ?_⟩
  by_cases c : k = j
  · rw [c, up_e]; exact hb
  · rw [up_n c]; exact (h k hk).2
def BIN (T H : Nat → Int32) (P : Nat → Int64) (m : Nat) (f : Nat → Int32) (e : Nat) : Prop := ∀ v, v < m → (f v).toInt = tbi T H P v e
theorem bin_y {T H f : Nat → Int32} {P : Nat → Int64} {m e : Nat} {x y w : Int32} (h : BIN T H P m f e) (hx : x = T e) (hy : y = H e) (ne : x.toInt ≠ y.toInt) (ym : y.toNatClampNeg < m) (hq : (f y.toNatClampNeg).toInt < 0 ∨ (P e).toInt < (P (f y.toNatClampNeg).toInt.toNat).toInt) (hw : w.toInt = (e : Int)) : BIN T H P m (upd f y.toNatClampNeg w) (e + 1) := by
  intro v hv
  have en : y.toNatClampNeg = (H e).toInt.toNat := by rw [← hy]; rfl
  rw [h _ ym] at hq
  by_cases c : v = y.toNatClampNeg
  · rw [c, up_e, tbi_y ⟨en.symm, by rw [← hx, ← hy]; exact ne, hq⟩]
    exact hw
  · rw [up_n c, tbi_n (fun z => c (by rw [en]; exact z.1.symm))]
    exact h v hv
theorem bin_k {T H f : Nat → Int32} {P : Nat → Int64} {m e : Nat} {x y z : Int32} (h : BIN T H P m f e) (hx : x = T e) (hy : y = H e) (ym : y.toNatClampNeg < m) (hn : x.toInt = y.toInt ∨ (0 ≤ (f y.toNatClampNeg).toInt ∧ (P (f y.toNatClampNeg).toInt.toNat).toInt ≤ (P e).toInt)) (hz : z = f y.toNatClampNeg) : BIN T H P m (upd f y.toNatClampNeg z) (e + 1) := by
  intro v hv
  have en : y.toNatClampNeg = (H e).toInt.toNat := by rw [← hy]; rfl
  have e1 : upd f y.toNatClampNeg z v = f v := by
    by_cases c : v = y.toNatClampNeg
    · rw [c, up_e]; exact hz
    · rw [up_n c]
  have e2 : ¬ ((H e).toInt.toNat = v ∧ (T e).toInt ≠ (H e).toInt ∧ (tbi T H P v e < 0 ∨ (P e).toInt < (P (tbi T H P v e).toNat).toInt)) := by
    rintro ⟨q1, q2, q3⟩
    rcases hn with hn | ⟨hn, hm⟩
    · rw [hx, hy] at hn
      exact q2 hn
    · rw [h _ ym, en, q1] at hn hm
      rcases q3 with q3 | q3 <;> omega
  rw [e1, h v hv, tbi_n e2]
theorem lsv_r {T H : Nat → Int32} {P : Nat → Int64} {k r v : Nat} (h : v = r) : LSV T H P k r v = Int64.ofInt 0 := if_pos h
theorem lsv_b {T H : Nat → Int32} {P : Nat → Int64} {k r v : Nat} {z : Int64} {b : Int32} (hn : v ≠ r) (hb : b.toInt = tbi T H P v k) (h0 : 0 ≤ b.toInt) (hz : z = P b.toNatClampNeg) : z = LSV T H P k r v := by
  unfold LSV
  rw [if_neg hn, if_neg (by omega), ← hb]
  exact hz
theorem rnx_z {t : GS} {T H : Nat → Int32} {P : Nat → Int64} {k m r : Nat} (hT : t.1 153 = T) (hb : ∀ v, v < m → (t.1 157 v).toInt = tbi T H P v k) (hg : ∀ v, v < m → v ≠ r → 0 ≤ tbi T H P v k) (ha : ∀ e, e < k → (0 ≤ (T e).toInt ∧ (T e).toInt < (m : Int)) ∧ 0 ≤ (H e).toInt) : RNX (fun u => ((nx t u : Nat) : Int)) m r (NXF T H P k) := by
  refine ⟨nxf_n hg ha, fun u hu hr => ?_⟩
  have e : NXF T H P k u = (T (tbi T H P u k).toNat).toInt.toNat := if_neg (by have := hg u hu hr; omega)
  rw [e]
  show (((t.1 153 (t.1 157 u).toInt.toNat).toInt.toNat : Nat) : Int) = _
  rw [hT, hb u hu]
def SHX (T H : Nat → Int32) (P : Nat → Int64) (R : Nat → Int) (l : Nat → Int64) (T' H' : Nat → Int32) (P' : Nat → Int64) (e : Nat) : Prop := SHE e T H P R l T' H' P' ∧ ∀ i, e ≤ i → T' i = T i ∧ H' i = H i ∧ P' i = P i
theorem shx_0 {T H T' H' : Nat → Int32} {P P' : Nat → Int64} {R : Nat → Int} {l : Nat → Int64} (h1 : T' = T) (h2 : H' = H) (h3 : P' = P) : SHX T H P R l T' H' P' 0 := ⟨fun i h => absurd h (Nat.not_lt_zero i), fun i _ => by rw [h1, h2, h3]; exact ⟨rfl, rfl, rfl⟩⟩
theorem shrx_s {T H T1 H1 T2 H2 : Nat → Int32} {P P1 P2 : Nat → Int64} {R : Nat → Int} {l : Nat → Int64} {e : Nat} {x y a b : Int32} {w z : Int64} (h : SHX T H P R l T1 H1 P1 e) (hx : x = T1 e) (hy : y = H1 e) (hw : w = P1 e) (ha : a.toInt = R x.toInt.toNat) (hb : b.toInt = R y.toInt.toNat) (hz : z = if x.toInt ≠ y.toInt then w - l y.toInt.toNat else w) (h1 : T2 = upd T1 e a) (h2 : H2 = upd H1 e b) (h3 : ∀ i, P2 i = if i = e then z else P1 i) : SHX T H P R l T2 H2 P2 (e + 1) := by
  obtain ⟨k1, k2⟩ := h
  obtain ⟨t1, t2, t3⟩ := k2 e (Nat.le_refl _)
  refine ⟨fun i hi => ?_, fun i hi => ?_⟩
  · rw [h1, h2, h3 i]
    by_cases c : i = e
    · rw [c, up_e, up_e, if_pos rfl, ha, hb, hz, hx, hy, hw, t1, t2, t3]
      exact ⟨rfl, rfl, rfl⟩
    · rw [up_n c, up_n c, if_neg c]
      exact k1 i (by omega)
  · have c : i ≠ e := by omega
    rw [h1, h2, h3 i, up_n c, up_n c, if_neg c]
    exact k2 i (by omega)
theorem sub0 {x : Int64} : x - Int64.ofInt 0 = x := Int64.sub_zero x
theorem gvz_ft {s : GS} (hI : Inv s) {p : Nat} (hp : p < 160) (h : (s.1 112 (bs s + p)).toInt ≠ 0) : (gvZ s).2.1 p = s.1 113 (bs s + p) ∧ (gvZ s).2.2.1 p = s.1 114 (bs s + p) := by
  have k2 : (s.2.2.1 109 19).toInt = 160 * (s.2.2.1 109 18).toInt := hI.2.2.2.2.2.2.2.2.2.1
  have i18 := inv_F hI (z := s.2.2.1 109 18) 0 1 rfl rfl
  have eb : bs s = 160 * (s.2.2.1 109 18).toNatClampNeg := by
    show (s.2.2.1 109 19).toInt.toNat = 160 * (s.2.2.1 109 18).toInt.toNat
    have := i18.1
    omega
  have a := (arz_y hI hp rfl h).1
  rw [are_f hp rfl] at a
  have c := clx (arc_n hI hp h).1.1.1
  refine ⟨i_eq.mpr (by omega), ?_⟩
  rw [eb]
  rfl
theorem edz_n {s : GS} (hI : Inv s) {p : Nat} (hp : p < 160) {x : Int32} (e : x = s.1 112 (bs s + p)) (h : x.toInt = 0) : ¬ EDJ (gvZ s) p := fun z => z.1 (by
  have a := arz_n hI e h
  rw [are_f hp rfl] at a
  exact a)
def TRE (s t : GS) (x : Int32) (z : Int64) : Prop := ((t.2.2.1 109 0).toInt = 1 ∧ ¬ (0 ≤ x.toInt ∧ x.toInt < (s.2.2.1 109 20).toInt)) ∨ ((t.2.2.1 109 0).toInt = 0 ∧ (0 ≤ x.toInt ∧ x.toInt < (s.2.2.1 109 20).toInt) ∧ TRS (gvZ s) x.toNatClampNeg z.toInt)
/-- prices of the first arcs -/
theorem edg_b1 {g : GVW} {T H : Nat → Int32} {P : Nat → Int64} (hw : ∀ p, p < 160 → -1000000 ≤ (g.2.2.2.1 p).toInt ∧ (g.2.2.2.1 p).toInt ≤ 1000000) : ∀ (p : Nat) {k : Nat}, p ≤ 160 → EDG g T H P p k → ∀ e, e < k → -1000000 ≤ (P e).toInt ∧ (P e).toInt ≤ 1000000 := by
  intro p
  induction p with
  | zero =>
    intro k _ h e he
    have h1 : k = 0 := h
    omega
  | succ p ih =>
    intro k hp h e he
    rcases h with ⟨-, h⟩ | ⟨-, j, q, h, -, -, h5⟩
    · exact ih (by omega) h e he
    · by_cases c : e = j
      · rw [c, u_i2l h5]
        exact hw p (by omega)
      · exact ih (by omega) h e (by omega)
theorem edg_b_2 {s t : GS} (hI : Inv s) (h : EDG (gvC s) (t.1 77) (t.1 78) (t.2.1 79) 160 (t.2.2.1 76 0).toNatClampNeg) : PBD t (bbd 0) := by
  intro e he
  have k : (t.2.2.1 76 0).toNatClampNeg = (t.2.2.1 76 0).toInt.toNat := rfl
  exact edg_b1 (g := gvC s) (fun p hp => (hI.1.1 6 p (Nat.lt_of_lt_of_le hp (Nat.le_of_ble_eq_true rfl)))) 160 (Nat.le_refl _) h e (by omega)
theorem edg_b_32 {s t : GS} (hI : Inv s) (h : EDG (gvD s) (t.1 77) (t.1 78) (t.2.1 79) 160 (t.2.2.1 76 0).toNatClampNeg) : PBD t (bbd 0) := by
  intro e he
  have k : (t.2.2.1 76 0).toNatClampNeg = (t.2.2.1 76 0).toInt.toNat := rfl
  exact edg_b1 (g := gvD s) (fun p hp => (hI.1.1 36 p (Nat.lt_of_lt_of_le hp (Nat.le_of_ble_eq_true rfl)))) 160 (Nat.le_refl _) h e (by omega)
end
