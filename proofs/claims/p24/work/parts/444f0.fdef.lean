/-! GRAPHS AS THEY ARE SEEN, AND WHAT CHANGES DO TO THEM -/
/-- labels, from, to, weight, room, kind; how many nodes, which version -/
abbrev GVW : Type := (Nat → Int32) × (Nat → Int32) × (Nat → Int32) × (Nat → Int32) × (Nat → Int32) × (Nat → Int32) × Int × Int
def gvC (s : GS) : GVW := (s.1 3, s.1 4, s.1 5, s.1 6, s.1 7, s.1 8, (s.2.2.1 2 1).toInt, (s.2.2.1 2 0).toInt)
theorem gvC_mk {t : GS} {a b c d e f : Nat → Int32} {n v : Int} (h1 : t.1 3 = a) (h2 : t.1 4 = b) (h3 : t.1 5 = c) (h4 : t.1 6 = d) (h5 : t.1 7 = e) (h6 : t.1 8 = f) (h7 : (t.2.2.1 2 1).toInt = n) (h8 : (t.2.2.1 2 0).toInt = v) : gvC t = (a, b, c, d, e, f, n, v) := by
  unfold gvC
  rw [h1, h2, h3, h4, h5, h6, h7, h8]
def gqN (g : GVW) (p : Nat) (l : Int32) : GVW := (upd g.1 p l, g.2.1, g.2.2.1, g.2.2.2.1, g.2.2.2.2.1, g.2.2.2.2.2.1, g.2.2.2.2.2.2.1 + 1, g.2.2.2.2.2.2.2 + 1)
def gqA (g : GVW) (p : Nat) (a b w r k : Int32) : GVW := (g.1, upd g.2.1 p a, upd g.2.2.1 p b, upd g.2.2.2.1 p w, upd g.2.2.2.2.1 p r, upd g.2.2.2.2.2.1 p k, g.2.2.2.2.2.2.1, g.2.2.2.2.2.2.2 + 1)
def gqD (g : GVW) (p : Nat) : GVW := (g.1, upd g.2.1 p (Int32.ofInt (-1)), g.2.2.1, g.2.2.2.1, g.2.2.2.2.1, g.2.2.2.2.2.1, g.2.2.2.2.2.2.1, g.2.2.2.2.2.2.2 + 1)
def gqW (g : GVW) (p : Nat) (w v : Int32) : GVW := (g.1, g.2.1, g.2.2.1, (if w.toInt = 0 then upd g.2.2.2.1 p v else g.2.2.2.1), (if w.toInt = 1 then upd g.2.2.2.2.1 p v else g.2.2.2.2.1), (if w.toInt ≠ 0 ∧ w.toInt ≠ 1 then upd g.2.2.2.2.2.1 p v else g.2.2.2.2.2.1), g.2.2.2.2.2.2.1, g.2.2.2.2.2.2.2 + 1)
def gqL (g : GVW) (p : Nat) (l : Int32) : GVW := (upd g.1 p l, g.2.1, g.2.2.1, g.2.2.2.1, g.2.2.2.2.1, g.2.2.2.2.2.1, g.2.2.2.2.2.2.1, g.2.2.2.2.2.2.2 + 1)
def gqP (g : GVW) (d : Int) (p : Nat) (a b : Int32) : GVW := if d = 0 then gqN g p a else if d = 2 then gqD g p else if d = 3 then gqW g p a b else gqL g p a
/-- the row k of the log r, carried out -/
def gqR (g : GVW) (r : Nat → Int32) (k : Nat) : GVW := if (r (7 * k)).toInt = 1 then gqA g (r (7 * k + 1)).toNatClampNeg (r (7 * k + 2)) (r (7 * k + 3)) (r (7 * k + 4)) (r (7 * k + 5)) (r (7 * k + 6)) else gqP g (r (7 * k)).toInt (r (7 * k + 1)).toNatClampNeg (r (7 * k + 2)) (r (7 * k + 3))
theorem gqP_0 {g : GVW} {d : Int} {p : Nat} {a b : Int32} (h : d = 0) : gqP g d p a b = gqN g p a := if_pos h
theorem gqP_2 {g : GVW} {d : Int} {p : Nat} {a b : Int32} (h : d = 2) : gqP g d p a b = gqD g p := by
  unfold gqP
  rw [if_neg (by omega), if_pos h]
theorem gqP_3 {g : GVW} {d : Int} {p : Nat} {a b : Int32} (h : d = 3) : gqP g d p a b = gqW g p a b := by
  unfold gqP
  rw [if_neg (by omega), if_neg (by omega), if_pos h]
theorem gqP_4 {g : GVW} {d : Int} {p : Nat} {a b : Int32} (h : d = 4) : gqP g d p a b = gqL g p a := by
  unfold gqP
  rw [if_neg (by omega), if_neg (by omega), if_neg (by omega)]
theorem gqR_1 {g : GVW} {r : Nat → Int32} {k : Nat} (h : (r (7 * k)).toInt = 1) : gqR g r k = gqA g (r (7 * k + 1)).toNatClampNeg (r (7 * k + 2)) (r (7 * k + 3)) (r (7 * k + 4)) (r (7 * k + 5)) (r (7 * k + 6)) := if_pos h
theorem gqR_n {g : GVW} {r : Nat → Int32} {k : Nat} (h : (r (7 * k)).toInt ≠ 1) : gqR g r k = gqP g (r (7 * k)).toInt (r (7 * k + 1)).toNatClampNeg (r (7 * k + 2)) (r (7 * k + 3)) := if_neg h
theorem gqR_0 {g : GVW} {r : Nat → Int32} {k : Nat} (h : (r (7 * k)).toInt = 0) : gqR g r k = gqN g (r (7 * k + 1)).toNatClampNeg (r (7 * k + 2)) := by rw [gqR_n (by omega), gqP_0 h]
theorem gqR_2 {g : GVW} {r : Nat → Int32} {k : Nat} (h : (r (7 * k)).toInt = 2) : gqR g r k = gqD g (r (7 * k + 1)).toNatClampNeg := by rw [gqR_n (by omega), gqP_2 h]
theorem gqR_3 {g : GVW} {r : Nat → Int32} {k : Nat} (h : (r (7 * k)).toInt = 3) : gqR g r k = gqW g (r (7 * k + 1)).toNatClampNeg (r (7 * k + 2)) (r (7 * k + 3)) := by rw [gqR_n (by omega), gqP_3 h]
theorem gqR_4 {g : GVW} {r : Nat → Int32} {k : Nat} (h0 : (r (7 * k)).toInt ≠ 0) (h1 : (r (7 * k)).toInt ≠ 1) (h2 : (r (7 * k)).toInt ≠ 2) (h3 : (r (7 * k)).toInt ≠ 3) : gqR g r k = gqL g (r (7 * k + 1)).toNatClampNeg (r (7 * k + 2)) := by
  rw [gqR_n h1]
  unfold gqP
  rw [if_neg h0, if_neg h2, if_neg h3]
/-- which places are taken -/
def ctg (f : Nat → Int32) : Nat → Bool := fun i => decide ((f i).toInt ≠ -1)
/-- whatever is there lies below top -/
def TQ (s : GS) : Prop := ∀ p : Nat, p < 160 → (s.1 4 p).toInt ≠ -1 → (p : Int) < (s.2.2.1 2 3).toInt
theorem tq_up {s t : GS} {p : Nat} {a : Int32} (h : TQ s) (hr : t.1 4 = upd (s.1 4) p a) (h1 : (s.2.2.1 2 3).toInt ≤ (t.2.2.1 2 3).toInt) (h2 : (p : Int) < (t.2.2.1 2 3).toInt) : TQ t := by
  intro q hq hn
  by_cases c : q = p
  · rw [c]; exact h2
  · rw [hr, ug_ne c] at hn
    have := h q hq hn
    omega
theorem tq_dn {s t : GS} {p : Nat} (h : TQ s) (hr : t.1 4 = upd (s.1 4) p (Int32.ofInt (-1))) (h1 : (t.2.2.1 2 3) = (s.2.2.1 2 3)) : TQ t := by
  intro q hq hn
  rw [h1]
  by_cases c : q = p
  · rw [c, hr, ug_at] at hn; exact absurd rfl hn
  · rw [hr, ug_ne c] at hn
    exact h q hq hn
theorem tq_lw {s t : GS} {j : Nat} {z : Int32} (h : TQ s) (hr : t.1 4 = s.1 4) (hz : z = s.1 4 j) (hz1 : z.toInt = -1) (h1 : (t.2.2.1 2 3).toInt = (j : Int)) (h2 : (s.2.2.1 2 3).toInt = (j : Int) + 1) : TQ t := by
  intro q hq hn
  rw [hr] at hn
  have h3 := h q hq hn
  have h4 : q ≠ j := fun c => by rw [c, ← hz] at hn; exact hn hz1
  omega
theorem tq_cg {s t : GS} (h : TQ s) (hr : t.1 4 = s.1 4) (h1 : (t.2.2.1 2 3) = (s.2.2.1 2 3)) : TQ t := by
  intro q hq hn
  rw [hr] at hn
  rw [h1]
  exact h q hq hn
/-- a place with an arc, a node, a value that fits -/
def HAC (s : GS) (x : Int32) : Prop := 0 ≤ x.toInt ∧ x.toInt ≤ 159 ∧ (s.1 4 x.toNatClampNeg).toInt ≠ -1
def HNC (s : GS) (x : Int32) : Prop := 0 ≤ x.toInt ∧ x.toInt < (s.2.2.1 2 1).toInt
def GVL (w v : Int32) : Prop := (w.toInt = 0 ∧ In v (-1000000) 1000000) ∨ (w.toInt = 1 ∧ In v 0 1000000) ∨ (w.toInt = 2 ∧ In v 0 25)
/-- throws that say why -/
noncomputable def gEx (Z : AmZ) (A : Nat → Nat) (ex : va_W) (L : FM) (s : GS) (P Q : Prop) : AmX := fun e u => ((e = am_IA ∧ P) ∨ (e = am_IS ∧ Q)) ∧ ∃ t, Inv t ∧ Fr L s t ∧ u = WW Z A t ++ ex
/-- a new row of the log -/
theorem nt_v {w : Nat → Int32} {k : Nat} {d x a b : Int32} : (upd (upd (upd (upd w (7 * k) d) (7 * k + 1) x) (7 * k + 2) a) (7 * k + 3) b) (7 * k) = d ∧ (upd (upd (upd (upd w (7 * k) d) (7 * k + 1) x) (7 * k + 2) a) (7 * k + 3) b) (7 * k + 1) = x ∧ (upd (upd (upd (upd w (7 * k) d) (7 * k + 1) x) (7 * k + 2) a) (7 * k + 3) b) (7 * k + 2) = a ∧ (upd (upd (upd (upd w (7 * k) d) (7 * k + 1) x) (7 * k + 2) a) (7 * k + 3) b) (7 * k + 3) = b := by
  refine ⟨?_, ?_, ?_, ug_at⟩
  · rw [ug_ne (by omega), ug_ne (by omega), ug_ne (by omega), ug_at]
  · rw [ug_ne (by omega), ug_ne (by omega), ug_at]
  · rw [ug_ne (by omega), ug_at]
theorem ar_v {w : Nat → Int32} {k : Nat} {d x f t g r c : Int32} {u : Nat → Int32} (h : u = upd (upd (upd (upd (upd (upd (upd w (7 * k) d) (7 * k + 1) x) (7 * k + 2) f) (7 * k + 3) t) (7 * k + 4) g) (7 * k + 5) r) (7 * k + 6) c) : u (7 * k) = d ∧ u (7 * k + 1) = x ∧ u (7 * k + 2) = f ∧ u (7 * k + 3) = t ∧ u (7 * k + 4) = g ∧ u (7 * k + 5) = r ∧ u (7 * k + 6) = c := by
  subst h
  refine ⟨?_, ?_, ?_, ?_, ?_, ?_, ug_at⟩
  · rw [ug_ne (by omega), ug_ne (by omega), ug_ne (by omega), ug_ne (by omega), ug_ne (by omega), ug_ne (by omega), ug_at]
  · rw [ug_ne (by omega), ug_ne (by omega), ug_ne (by omega), ug_ne (by omega), ug_ne (by omega), ug_at]
  · rw [ug_ne (by omega), ug_ne (by omega), ug_ne (by omega), ug_ne (by omega), ug_at]
  · rw [ug_ne (by omega), ug_ne (by omega), ug_ne (by omega), ug_at]
  · rw [ug_ne (by omega), ug_ne (by omega), ug_at]
  · rw [ug_ne (by omega), ug_at]
theorem gqR_nt {g : GVW} {r : Nat → Int32} {k : Nat} {d x a b : Int32} (hd : d.toInt ≠ 1) (h : r (7 * k) = d ∧ r (7 * k + 1) = x ∧ r (7 * k + 2) = a ∧ r (7 * k + 3) = b) : gqR g r k = gqP g d.toInt x.toNatClampNeg a b := by
  rw [gqR_n (by rw [h.1]; exact hd), h.1, h.2.1, h.2.2.1, h.2.2.2]
theorem gvC_cg {s t : GS} {L : FM} (h : Fr L s t) (hq : (qI L.1 3 && qI L.1 4 && qI L.1 5 && qI L.1 6 && qI L.1 7 && qI L.1 8 && qF L.2.2.1 2 1 && qF L.2.2.1 2 0) = true) : gvC t = gvC s := by
  simp only [Bool.and_eq_true] at hq
  obtain ⟨⟨⟨⟨⟨⟨⟨q1, q2⟩, q3⟩, q4⟩, q5⟩, q6⟩, q7⟩, q8⟩ := hq
  unfold gvC
  rw [h.1 3 q1, h.1 4 q2, h.1 5 q3, h.1 6 q4, h.1 7 q5, h.1 8 q6, h.2.2.1 2 1 q7, h.2.2.1 2 0 q8]
theorem tq_fr {s t : GS} {L : FM} (hT : TQ s) (h : Fr L s t) (hq : (qI L.1 4 && qF L.2.2.1 2 3) = true) : TQ t := by
  rw [Bool.and_eq_true] at hq
  exact tq_cg hT (h.1 4 hq.1) (h.2.2.1 2 3 hq.2)
/-! the reference's -/
/-- what the change k of the reference's log does to its graph g, row by row -/
def RP (s t : GS) (k g : Nat) : Prop :=
  ((s.1 118 k).toInt = 0 → t.1 111 = upd (s.1 111) (32 * g + (s.1 110 g).toNatClampNeg) (s.1 119 k) ∧ t.1 112 = s.1 112 ∧ t.1 113 = s.1 113 ∧ t.1 114 = s.1 114 ∧ t.1 115 = s.1 115 ∧ t.1 116 = s.1 116 ∧ t.1 117 = s.1 117) ∧
  ((s.1 118 k).toInt = 1 → t.1 111 = s.1 111 ∧ (∃ v : Int32, v.toInt ≠ 0 ∧ t.1 112 = upd (s.1 112) (160 * g + (s.1 119 k).toNatClampNeg) (v)) ∧ t.1 113 = upd (s.1 113) (160 * g + (s.1 119 k).toNatClampNeg) (s.1 120 k) ∧ t.1 114 = upd (s.1 114) (160 * g + (s.1 119 k).toNatClampNeg) (s.1 121 k) ∧ t.1 115 = upd (s.1 115) (160 * g + (s.1 119 k).toNatClampNeg) (s.1 122 k) ∧ t.1 116 = upd (s.1 116) (160 * g + (s.1 119 k).toNatClampNeg) (s.1 123 k) ∧ t.1 117 = upd (s.1 117) (160 * g + (s.1 119 k).toNatClampNeg) (s.1 124 k)) ∧
  ((s.1 118 k).toInt = 2 → t.1 111 = s.1 111 ∧ (∃ v : Int32, v.toInt = 0 ∧ t.1 112 = upd (s.1 112) (160 * g + (s.1 119 k).toNatClampNeg) (v)) ∧ t.1 113 = s.1 113 ∧ t.1 114 = s.1 114 ∧ t.1 115 = s.1 115 ∧ t.1 116 = s.1 116 ∧ t.1 117 = s.1 117) ∧
  ((s.1 118 k).toInt = 3 → t.1 111 = s.1 111 ∧ t.1 112 = s.1 112 ∧ t.1 113 = s.1 113 ∧ t.1 114 = s.1 114 ∧ t.1 115 = (if (s.1 120 k).toInt = 0 then upd (s.1 115) (160 * g + (s.1 119 k).toNatClampNeg) (s.1 121 k) else s.1 115) ∧ t.1 116 = (if (s.1 120 k).toInt = 1 then upd (s.1 116) (160 * g + (s.1 119 k).toNatClampNeg) (s.1 121 k) else s.1 116) ∧ t.1 117 = (if (s.1 120 k).toInt ≠ 0 ∧ (s.1 120 k).toInt ≠ 1 then upd (s.1 117) (160 * g + (s.1 119 k).toNatClampNeg) (s.1 121 k) else s.1 117)) ∧
  ((s.1 118 k).toInt = 4 → t.1 111 = upd (s.1 111) (32 * g + (s.1 119 k).toNatClampNeg) (s.1 120 k) ∧ t.1 112 = s.1 112 ∧ t.1 113 = s.1 113 ∧ t.1 114 = s.1 114 ∧ t.1 115 = s.1 115 ∧ t.1 116 = s.1 116 ∧ t.1 117 = s.1 117)
section RP
variable {s t : GS} {k g j : Nat}
theorem rp_0 {v : Int32} (h0 : (s.1 118 k).toInt = 0) (hj : j = 32 * g + (s.1 110 g).toNatClampNeg) (hv : v = s.1 119 k) (h1 : t.1 111 = upd (s.1 111) j v) (h2 : t.1 112 = s.1 112) (h3 : t.1 113 = s.1 113) (h4 : t.1 114 = s.1 114) (h5 : t.1 115 = s.1 115) (h6 : t.1 116 = s.1 116) (h7 : t.1 117 = s.1 117) : RP s t k g := by
  subst hj hv
  exact ⟨fun _ => ⟨h1, h2, h3, h4, h5, h6, h7⟩, fun h => absurd h (by omega), fun h => absurd h (by omega), fun h => absurd h (by omega), fun h => absurd h (by omega)⟩
theorem rp_1 {v b c d e f : Int32} (h0 : (s.1 118 k).toInt = 1) (hj : j = 160 * g + (s.1 119 k).toNatClampNeg) (hv : v.toInt ≠ 0) (hb : b = s.1 120 k) (hc : c = s.1 121 k) (hd : d = s.1 122 k) (he : e = s.1 123 k) (hf : f = s.1 124 k) (h1 : t.1 111 = s.1 111) (h2 : t.1 112 = upd (s.1 112) j v) (h3 : t.1 113 = upd (s.1 113) j b) (h4 : t.1 114 = upd (s.1 114) j c) (h5 : t.1 115 = upd (s.1 115) j d) (h6 : t.1 116 = upd (s.1 116) j e) (h7 : t.1 117 = upd (s.1 117) j f) : RP s t k g := by
  subst hj hb hc hd he hf
  exact ⟨fun h => absurd h (by omega), fun _ => ⟨h1, ⟨v, hv, h2⟩, h3, h4, h5, h6, h7⟩, fun h => absurd h (by omega), fun h => absurd h (by omega), fun h => absurd h (by omega)⟩
theorem rp_2 {v : Int32} (h0 : (s.1 118 k).toInt = 2) (hj : j = 160 * g + (s.1 119 k).toNatClampNeg) (hv : v.toInt = 0) (h1 : t.1 111 = s.1 111) (h2 : t.1 112 = upd (s.1 112) j v) (h3 : t.1 113 = s.1 113) (h4 : t.1 114 = s.1 114) (h5 : t.1 115 = s.1 115) (h6 : t.1 116 = s.1 116) (h7 : t.1 117 = s.1 117) : RP s t k g := by
  subst hj
  exact ⟨fun h => absurd h (by omega), fun h => absurd h (by omega), fun _ => ⟨h1, ⟨v, hv, h2⟩, h3, h4, h5, h6, h7⟩, fun h => absurd h (by omega), fun h => absurd h (by omega)⟩
theorem rp_3 (h0 : (s.1 118 k).toInt = 3) (h1 : t.1 111 = s.1 111) (h2 : t.1 112 = s.1 112) (h3 : t.1 113 = s.1 113) (h4 : t.1 114 = s.1 114) (h5 : t.1 115 = (if (s.1 120 k).toInt = 0 then upd (s.1 115) (160 * g + (s.1 119 k).toNatClampNeg) (s.1 121 k) else s.1 115)) (h6 : t.1 116 = (if (s.1 120 k).toInt = 1 then upd (s.1 116) (160 * g + (s.1 119 k).toNatClampNeg) (s.1 121 k) else s.1 116)) (h7 : t.1 117 = (if (s.1 120 k).toInt ≠ 0 ∧ (s.1 120 k).toInt ≠ 1 then upd (s.1 117) (160 * g + (s.1 119 k).toNatClampNeg) (s.1 121 k) else s.1 117)) : RP s t k g :=
  ⟨fun h => absurd h (by omega), fun h => absurd h (by omega), fun h => absurd h (by omega), fun _ => ⟨h1, h2, h3, h4, h5, h6, h7⟩, fun h => absurd h (by omega)⟩
theorem rp_4 {v : Int32} (h0 : (s.1 118 k).toInt = 4) (hj : j = 32 * g + (s.1 119 k).toNatClampNeg) (hv : v = s.1 120 k) (h1 : t.1 111 = upd (s.1 111) j v) (h2 : t.1 112 = s.1 112) (h3 : t.1 113 = s.1 113) (h4 : t.1 114 = s.1 114) (h5 : t.1 115 = s.1 115) (h6 : t.1 116 = s.1 116) (h7 : t.1 117 = s.1 117) : RP s t k g := by
  subst hj hv
  exact ⟨fun h => absurd h (by omega), fun h => absurd h (by omega), fun h => absurd h (by omega), fun h => absurd h (by omega), fun _ => ⟨h1, h2, h3, h4, h5, h6, h7⟩⟩
end RP
/-- from, where an arc is there -/
def thf (th fr : Nat → Int32) : Nat → Int32 := fun p => if (th p).toInt = 0 then Int32.ofInt (-1) else fr p
theorem thf_up {th fr : Nat → Int32} {p : Nat} {v a : Int32} (hv : v.toInt ≠ 0) : thf (upd th p v) (upd fr p a) = upd (thf th fr) p a := by
  funext q
  unfold thf
  by_cases c : q = p
  · subst c
    rw [ug_at, ug_at, ug_at, if_neg hv]
  · rw [ug_ne c, ug_ne c, ug_ne c]
theorem thf_dn {th fr : Nat → Int32} {p : Nat} {v : Int32} (hv : v.toInt = 0) : thf (upd th p v) fr = upd (thf th fr) p (Int32.ofInt (-1)) := by
  funext q
  unfold thf
  by_cases c : q = p
  · subst c
    rw [ug_at, ug_at, if_pos hv]
  · rw [ug_ne c, ug_ne c]
def gvR (s : GS) : GVW := (s.1 111, thf (s.1 112) (s.1 113), s.1 114, s.1 115, s.1 116, s.1 117, (s.1 110 0).toInt, (s.2.2.1 109 9).toInt)
def MKP (s t : GS) (w a b c d e f : Int32) : Prop := (w.toInt = 0 → gvR t = gqN (gvR s) (s.1 110 0).toNatClampNeg a) ∧ (w.toInt = 1 → gvR t = gqA (gvR s) a.toNatClampNeg b c d e f) ∧ (w.toInt = 2 → gvR t = gqD (gvR s) a.toNatClampNeg) ∧ (w.toInt = 3 → gvR t = gqW (gvR s) a.toNatClampNeg b c) ∧ (w.toInt = 4 → gvR t = gqL (gvR s) a.toNatClampNeg b)
theorem gvR_mk {t : GS} {a b c d e f : Nat → Int32} {n v : Int} (h1 : t.1 111 = a) (h2 : thf (t.1 112) (t.1 113) = b) (h3 : t.1 114 = c) (h4 : t.1 115 = d) (h5 : t.1 116 = e) (h6 : t.1 117 = f) (h7 : (t.1 110 0).toInt = n) (h8 : (t.2.2.1 109 9).toInt = v) : gvR t = (a, b, c, d, e, f, n, v) := by
  unfold gvR
  rw [h1, h2, h3, h4, h5, h6, h7, h8]
theorem mkp_i {s u v t : GS} {ch : Nat} {w a b c d e f : Int32} (hm : PMK s t w.toInt a.toNatClampNeg) (hp : RP u v ch 0) (w1 : u.1 118 ch = w) (w2 : u.1 119 ch = a) (w3 : u.1 120 ch = b) (w4 : u.1 121 ch = c) (w5 : u.1 122 ch = d) (w6 : u.1 123 ch = e) (w7 : u.1 124 ch = f) (r0 : u.1 110 = s.1 110) (r1 : u.1 111 = s.1 111) (r2 : u.1 112 = s.1 112) (r3 : u.1 113 = s.1 113) (r4 : u.1 114 = s.1 114) (r5 : u.1 115 = s.1 115) (r6 : u.1 116 = s.1 116) (r7 : u.1 117 = s.1 117) (ht : t.1 = v.1) (hc : (t.2.2.1 109 9).toInt = (s.2.2.1 109 9).toInt + 1) : MKP s t w a b c d e f := by
  unfold RP at hp
  rw [w1, w2, w3, w4, w5, w6, w7, r0, r1, r2, r3, r4, r5, r6, r7, ← ht] at hp
  obtain ⟨p0, p1, p2, p3, p4⟩ := hp
  simp only [Nat.mul_zero, Nat.zero_add] at p0 p1 p2 p3 p4
  refine ⟨fun h => ?_, fun h => ?_, fun h => ?_, fun h => ?_, fun h => ?_⟩
  · obtain ⟨g1, g2, g3, g4, g5, g6, g7⟩ := p0 h
    exact gvR_mk g1 (by rw [g2, g3]; rfl) g4 g5 g6 g7 (hm.1 h) hc
  · obtain ⟨g1, ⟨x, hx, g2⟩, g3, g4, g5, g6, g7⟩ := p1 h
    exact gvR_mk g1 (by rw [g2, g3]; exact thf_up hx) g4 g5 g6 g7 (hm.2.1 (by omega)) hc
  · obtain ⟨g1, ⟨x, hx, g2⟩, g3, g4, g5, g6, g7⟩ := p2 h
    exact gvR_mk g1 (by rw [g2, g3]; exact thf_dn hx) g4 g5 g6 g7 (hm.2.1 (by omega)) hc
  · obtain ⟨g1, g2, g3, g4, g5, g6, g7⟩ := p3 h
    exact gvR_mk g1 (by rw [g2, g3]; rfl) g4 g5 g6 g7 (hm.2.1 (by omega)) hc
  · obtain ⟨g1, g2, g3, g4, g5, g6, g7⟩ := p4 h
    exact gvR_mk g1 (by rw [g2, g3]; rfl) g4 g5 g6 g7 (hm.2.1 (by omega)) hc
theorem gvR_cg {s t : GS} {L : FM} (h : Fr L s t) (hq : (qI L.1 110 && qI L.1 111 && qI L.1 112 && qI L.1 113 && qI L.1 114 && qI L.1 115 && qI L.1 116 && qI L.1 117 && qF L.2.2.1 109 9) = true) : gvR t = gvR s := by
  simp only [Bool.and_eq_true] at hq
  obtain ⟨⟨⟨⟨⟨⟨⟨⟨q0, q1⟩, q2⟩, q3⟩, q4⟩, q5⟩, q6⟩, q7⟩, q8⟩ := hq
  unfold gvR
  rw [h.1 110 q0, h.1 111 q1, h.1 112 q2, h.1 113 q3, h.1 114 q4, h.1 115 q5, h.1 116 q6, h.1 117 q7, h.2.2.1 109 9 q8]
/-- a place with an arc, a node of the reference -/
def HAR (s : GS) (x : Int32) : Prop := 0 ≤ x.toInt ∧ x.toInt ≤ 159 ∧ (s.1 112 x.toNatClampNeg).toInt ≠ 0
def HNR (s : GS) (x : Int32) : Prop := 0 ≤ x.toInt ∧ x.toInt < (s.1 110 0).toInt
/-- code and answer of a call that may be refused: P the arguments are good, Q the time is -/
def CDR (s t : GS) (P Q R : Prop) : Prop := ((t.2.2.1 109 0).toInt = 1 ∧ ¬ P ∧ gvR t = gvR s) ∨ ((t.2.2.1 109 0).toInt = 2 ∧ P ∧ ¬ Q ∧ gvR t = gvR s) ∨ ((t.2.2.1 109 0).toInt = 0 ∧ P ∧ Q ∧ R)
