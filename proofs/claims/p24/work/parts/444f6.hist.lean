/-! WHAT CAN BE SEEN OF A GRAPH; HISTORY -/
/-- alike as far as can be seen: labels of nodes, values of arcs -/
def GEV (g h : GVW) : Prop := (∀ i : Nat, (i : Int) < g.2.2.2.2.2.2.1 → g.1 i = h.1 i) ∧ (∀ i, i < 160 → g.2.1 i = h.2.1 i) ∧ (∀ i, i < 160 → (g.2.1 i).toInt ≠ -1 → g.2.2.1 i = h.2.2.1 i ∧ g.2.2.2.1 i = h.2.2.2.1 i ∧ g.2.2.2.2.1 i = h.2.2.2.2.1 i ∧ g.2.2.2.2.2.1 i = h.2.2.2.2.2.1 i) ∧ g.2.2.2.2.2.2.1 = h.2.2.2.2.2.2.1 ∧ g.2.2.2.2.2.2.2 = h.2.2.2.2.2.2.2
section GEV
variable {g h k : GVW}
theorem gev_q (q : GEQ g h) (hn : g.2.2.2.2.2.2.1 ≤ 32) : GEV g h := by
  obtain ⟨q1, q2, q3, q4, q5, q6, q7, q8⟩ := q
  exact ⟨fun i hi => q1 i (by omega), q2, fun i hi _ => ⟨q3 i hi, q4 i hi, q5 i hi, q6 i hi⟩, q7, q8⟩
theorem gev_r : GEV g g := ⟨fun _ _ => rfl, fun _ _ => rfl, fun _ _ _ => ⟨rfl, rfl, rfl, rfl⟩, rfl, rfl⟩
theorem gev_s (q : GEV g h) : GEV h g := by
  obtain ⟨q1, q2, q3, q4, q5⟩ := q
  refine ⟨fun i hi => (q1 i (by omega)).symm, fun i hi => (q2 i hi).symm, fun i hi hn => ?_, q4.symm, q5.symm⟩
  obtain ⟨a, b, c, d⟩ := q3 i hi (by rw [q2 i hi]; exact hn)
  exact ⟨a.symm, b.symm, c.symm, d.symm⟩
theorem gev_t (q : GEV g h) (r : GEV h k) : GEV g k := by
  obtain ⟨q1, q2, q3, q4, q5⟩ := q
  obtain ⟨r1, r2, r3, r4, r5⟩ := r
  refine ⟨fun i hi => (q1 i hi).trans (r1 i (by omega)), fun i hi => (q2 i hi).trans (r2 i hi), fun i hi hn => ?_, q4.trans r4, q5.trans r5⟩
  obtain ⟨a, b, c, d⟩ := q3 i hi hn
  obtain ⟨a2, b2, c2, d2⟩ := r3 i hi (by rw [← q2 i hi]; exact hn)
  exact ⟨a.trans a2, b.trans b2, c.trans c2, d.trans d2⟩
theorem upd_v {f f2 : Nat → Int32} {p i : Nat} {x : Int32} (h : i ≠ p → f i = f2 i) : upd f p x i = upd f2 p x i := by
  by_cases c : i = p
  · rw [c, ug_at, ug_at]
  · rw [ug_ne c, ug_ne c]; exact h c
theorem gev_N {p : Nat} {l : Int32} (q : GEV g h) (hp : (p : Int) = g.2.2.2.2.2.2.1) : GEV (gqN g p l) (gqN h p l) := by
  obtain ⟨q1, q2, q3, q4, q5⟩ := q
  refine ⟨fun i hi => upd_v (fun c => q1 i ?_), q2, q3, by show g.2.2.2.2.2.2.1 + 1 = h.2.2.2.2.2.2.1 + 1; rw [q4], by show g.2.2.2.2.2.2.2 + 1 = h.2.2.2.2.2.2.2 + 1; rw [q5]⟩
  have hi2 : (i : Int) < g.2.2.2.2.2.2.1 + 1 := hi
  omega
theorem gev_A {p : Nat} {a b w r c : Int32} (q : GEV g h) : GEV (gqA g p a b w r c) (gqA h p a b w r c) := by
  obtain ⟨q1, q2, q3, q4, q5⟩ := q
  refine ⟨q1, fun i hi => upd_v (fun _ => q2 i hi), fun i hi hn => ?_, q4, by show g.2.2.2.2.2.2.2 + 1 = h.2.2.2.2.2.2.2 + 1; rw [q5]⟩
  have key : i ≠ p → g.2.2.1 i = h.2.2.1 i ∧ g.2.2.2.1 i = h.2.2.2.1 i ∧ g.2.2.2.2.1 i = h.2.2.2.2.1 i ∧ g.2.2.2.2.2.1 i = h.2.2.2.2.2.1 i := fun e => q3 i hi (by
    have hn2 : (upd g.2.1 p a i).toInt ≠ -1 := hn
    rw [ug_ne e] at hn2
    exact hn2)
  exact ⟨upd_v (fun e => (key e).1), upd_v (fun e => (key e).2.1), upd_v (fun e => (key e).2.2.1), upd_v (fun e => (key e).2.2.2)⟩
theorem gev_D {p : Nat} (q : GEV g h) : GEV (gqD g p) (gqD h p) := by
  obtain ⟨q1, q2, q3, q4, q5⟩ := q
  refine ⟨q1, fun i hi => upd_v (fun _ => q2 i hi), fun i hi hn => ?_, q4, by show g.2.2.2.2.2.2.2 + 1 = h.2.2.2.2.2.2.2 + 1; rw [q5]⟩
  have hn2 : (upd g.2.1 p (Int32.ofInt (-1)) i).toInt ≠ -1 := hn
  by_cases e : i = p
  · rw [e, ug_at] at hn2; exact absurd rfl hn2
  · rw [ug_ne e] at hn2
    exact q3 i hi hn2
theorem ite_v {f f2 g2 h2 : Nat → Int32} {i : Nat} {P : Prop} [Decidable P] (h1 : f i = g2 i) (h3 : f2 i = h2 i) : (if P then f else f2) i = (if P then g2 else h2) i := by
  by_cases c : P
  · rw [if_pos c, if_pos c]; exact h1
  · rw [if_neg c, if_neg c]; exact h3
theorem gev_W {p : Nat} {w v : Int32} (q : GEV g h) : GEV (gqW g p w v) (gqW h p w v) := by
  obtain ⟨q1, q2, q3, q4, q5⟩ := q
  refine ⟨q1, q2, fun i hi hn => ?_, q4, by show g.2.2.2.2.2.2.2 + 1 = h.2.2.2.2.2.2.2 + 1; rw [q5]⟩
  obtain ⟨a, b, c, d⟩ := q3 i hi hn
  exact ⟨a, ite_v (upd_v (fun _ => b)) b, ite_v (upd_v (fun _ => c)) c, ite_v (upd_v (fun _ => d)) d⟩
theorem gev_L {p : Nat} {l : Int32} (q : GEV g h) : GEV (gqL g p l) (gqL h p l) := by
  obtain ⟨q1, q2, q3, q4, q5⟩ := q
  exact ⟨fun i hi => upd_v (fun _ => q1 i hi), q2, q3, q4, by show g.2.2.2.2.2.2.2 + 1 = h.2.2.2.2.2.2.2 + 1; rw [q5]⟩
/-- the class's row k -/
theorem gev_R {r : Nat → Int32} {k : Nat} (q : GEV g h) (hp : (r (7 * k)).toInt = 0 → ((r (7 * k + 1)).toNatClampNeg : Int) = g.2.2.2.2.2.2.1) : GEV (gqR g r k) (gqR h r k) := by
  unfold gqR gqP
  split
  · exact gev_A q
  · split
    · rename_i c; exact gev_N q (hp c)
    · split
      · exact gev_D q
      · split
        · exact gev_W q
        · exact gev_L q
end GEV
/-- the reference's row k -/
def gqT (g : GVW) (s : GS) (k : Nat) : GVW := if (s.1 118 k).toInt = 0 then gqN g g.2.2.2.2.2.2.1.toNat (s.1 119 k) else if (s.1 118 k).toInt = 1 then gqA g (s.1 119 k).toNatClampNeg (s.1 120 k) (s.1 121 k) (s.1 122 k) (s.1 123 k) (s.1 124 k) else if (s.1 118 k).toInt = 2 then gqD g (s.1 119 k).toNatClampNeg else if (s.1 118 k).toInt = 3 then gqW g (s.1 119 k).toNatClampNeg (s.1 120 k) (s.1 121 k) else gqL g (s.1 119 k).toNatClampNeg (s.1 120 k)
theorem gev_T {g h : GVW} {s : GS} {k : Nat} (q : GEV g h) (h0 : 0 ≤ g.2.2.2.2.2.2.1) : GEV (gqT g s k) (gqT h s k) := by
  unfold gqT
  rw [← q.2.2.2.1]
  split
  · exact gev_N q (by omega)
  · split
    · exact gev_A q
    · split
      · exact gev_D q
      · split
        · exact gev_W q
        · exact gev_L q
/-- the shown graphs: the class's (cell 32), the reference's graph 1 -/
def gvD (s : GS) : GVW := (s.1 33, s.1 34, s.1 35, s.1 36, s.1 37, s.1 38, (s.2.2.1 32 1).toInt, (s.2.2.1 32 0).toInt)
def gv1 (s : GS) (v : Int) : GVW := (fun i => s.1 111 (32 + i), fun i => thf (s.1 112) (s.1 113) (160 + i), fun i => s.1 114 (160 + i), fun i => s.1 115 (160 + i), fun i => s.1 116 (160 + i), fun i => s.1 117 (160 + i), (s.1 110 1).toInt, v)
/-- a graph with nothing in it -/
def GE0 (g : GVW) : Prop := (∀ i, i < 160 → (g.2.1 i).toInt = -1) ∧ g.2.2.2.2.2.2.1 = 0 ∧ g.2.2.2.2.2.2.2 = 0
theorem ge0_e {g h : GVW} (a : GE0 g) (b : GE0 h) : GEV g h := by
  obtain ⟨a1, a2, a3⟩ := a
  obtain ⟨b1, b2, b3⟩ := b
  exact ⟨fun i hi => by rw [a2] at hi; omega, fun i hi => i_eq.mpr (by rw [a1 i hi, b1 i hi]), fun i hi hn => absurd (a1 i hi) hn, by rw [a2, b2], by rw [a3, b3]⟩
/-- the history: H k the graph of version k -/
def HIS (s : GS) (H : Nat → GVW) : Prop := GE0 (H 0) ∧ ∀ k : Nat, (k : Int) < (s.2.2.1 2 0).toInt → GEV (H (k + 1)) (gqR (H k) (s.1 30) k) ∧ ((s.1 30 (7 * k)).toInt = 0 → ((s.1 30 (7 * k + 1)).toNatClampNeg : Int) = (H k).2.2.2.2.2.2.1) ∧ GEV (H (k + 1)) (gqT (H k) s k) ∧ 0 ≤ (H k).2.2.2.2.2.2.1
/-- what is shown is some version of it -/
def SHW (s : GS) (H : Nat → GVW) : Prop := GEV (gvD s) (H (s.2.2.1 32 0).toInt.toNat) ∧ 0 ≤ (s.2.2.1 32 0).toInt ∧ (s.2.2.1 32 0).toInt ≤ (s.2.2.1 2 0).toInt ∧ s.2.2.1 0 2 = s.2.2.1 109 17 ∧ (0 ≤ (s.2.2.1 109 17).toInt → s.2.2.1 0 2 = s.2.2.1 32 0 ∧ GEV (gv1 s (s.2.2.1 109 17).toInt) (H (s.2.2.1 109 17).toInt.toNat))
theorem gvD_mk {t : GS} {a b c d e f : Nat → Int32} {n v : Int} (h1 : t.1 33 = a) (h2 : t.1 34 = b) (h3 : t.1 35 = c) (h4 : t.1 36 = d) (h5 : t.1 37 = e) (h6 : t.1 38 = f) (h7 : (t.2.2.1 32 1).toInt = n) (h8 : (t.2.2.1 32 0).toInt = v) : gvD t = (a, b, c, d, e, f, n, v) := by
  unfold gvD
  rw [h1, h2, h3, h4, h5, h6, h7, h8]
/-- the class's shown graph is version v of the history, if it was some -/
def SHD (s t : GS) (v : Nat) : Prop := ∀ H, HIS s H → GEV (gvD s) (H (s.2.2.1 32 0).toInt.toNat) → GEV (gvD t) (H v)
theorem shq_r {s : GS} {v : Nat} (h : v = (s.2.2.1 32 0).toInt.toNat) : SHD s s v := by
  intro H _ g
  rw [h]; exact g
theorem shq_0 {s t : GS} {v : Nat} (h : GE0 (gvD t)) (hv : v = 0) : SHD s t v := by
  intro H g _
  rw [hv]; exact ge0_e h g.1
theorem shq_s {s u t : GS} {k v : Nat} (h : SHD s u k) (hk : (u.2.2.1 32 0).toInt.toNat = k) (hv : v = k + 1) (h30 : u.1 30 = s.1 30) (hl : (k : Int) < (s.2.2.1 2 0).toInt) (hg : gvD t = gqR (gvD u) (u.1 30) (u.2.2.1 32 0).toInt.toNat) : SHD s t v := by
  intro H g q
  have a := h H g q
  obtain ⟨b1, b2, -, -⟩ := g.2 k hl
  rw [hg, hk, h30, hv]
  exact gev_t (gev_R a (fun z => by rw [b2 z]; exact a.2.2.2.1.symm)) (gev_s b1)
/-! frames -/
theorem gqT_cg {s t : GS} {g : GVW} {k : Nat} (h0 : t.1 118 = s.1 118) (h1 : t.1 119 = s.1 119) (h2 : t.1 120 = s.1 120) (h3 : t.1 121 = s.1 121) (h4 : t.1 122 = s.1 122) (h5 : t.1 123 = s.1 123) (h6 : t.1 124 = s.1 124) : gqT g t k = gqT g s k := by
  unfold gqT
  rw [h0, h1, h2, h3, h4, h5, h6]
theorem his_fr {s t : GS} {L : FM} {H : Nat → GVW} (h : HIS s H) (hF : Fr L s t) (hq : (qI L.1 30 && (qI L.1 118 && qI L.1 119 && qI L.1 120 && qI L.1 121 && qI L.1 122 && qI L.1 123 && qI L.1 124) && qF L.2.2.1 2 0) = true) : HIS t H := by
  simp only [Bool.and_eq_true] at hq
  obtain ⟨⟨q0, ⟨⟨⟨⟨⟨q1, q2⟩, q3⟩, q4⟩, q5⟩, q6⟩, q7⟩, q8⟩ := hq
  refine ⟨h.1, fun k hk => ?_⟩
  rw [hF.2.2.1 2 0 q8] at hk
  obtain ⟨a, b, c, d⟩ := h.2 k hk
  rw [hF.1 30 q0, gqT_cg (hF.1 118 q1) (hF.1 119 q2) (hF.1 120 q3) (hF.1 121 q4) (hF.1 122 q5) (hF.1 123 q6) (hF.1 124 q7)]
  exact ⟨a, b, c, d⟩
theorem gvD_fr {s t : GS} {L : FM} (hF : Fr L s t) (hq : (qI L.1 33 && qI L.1 34 && qI L.1 35 && qI L.1 36 && qI L.1 37 && qI L.1 38 && qF L.2.2.1 32 1 && qF L.2.2.1 32 0) = true) : gvD t = gvD s := by
  simp only [Bool.and_eq_true] at hq
  obtain ⟨⟨⟨⟨⟨⟨⟨q1, q2⟩, q3⟩, q4⟩, q5⟩, q6⟩, q7⟩, q8⟩ := hq
  unfold gvD
  rw [hF.1 33 q1, hF.1 34 q2, hF.1 35 q3, hF.1 36 q4, hF.1 37 q5, hF.1 38 q6, hF.2.2.1 32 1 q7, hF.2.2.1 32 0 q8]
theorem shd_fr {s u t : GS} {L : FM} {v : Nat} (h : SHD u t v) (hF : Fr L s u) (hq : (qI L.1 30 && (qI L.1 118 && qI L.1 119 && qI L.1 120 && qI L.1 121 && qI L.1 122 && qI L.1 123 && qI L.1 124) && qF L.2.2.1 2 0) = true) (hq2 : (qI L.1 33 && qI L.1 34 && qI L.1 35 && qI L.1 36 && qI L.1 37 && qI L.1 38 && qF L.2.2.1 32 1 && qF L.2.2.1 32 0) = true) : SHD s t v := by
  intro H g q
  refine h H (his_fr g hF hq) ?_
  have e : (u.2.2.1 32 0) = s.2.2.1 32 0 := by
    simp only [Bool.and_eq_true] at hq2
    exact hF.2.2.1 32 0 hq2.2
  rw [gvD_fr hF hq2, e]
  exact q
/-- view of the class -/
def VWD (s t : GS) (x : Int32) : Prop := t.2.2.1 0 2 = x ∧ (x.toInt < 0 → gvD t = gvD s) ∧ (0 ≤ x.toInt → SHD s t x.toInt.toNat ∧ t.2.2.1 32 0 = x)
/-! view of the reference -/
def G1Q (s t : GS) (v : Int) : Prop := ∀ H, HIS s H → (s.2.2.1 109 9).toInt = (s.2.2.1 2 0).toInt → GEV (gv1 t v) (H v.toNat)
theorem g1q_0 {s t : GS} {v : Int} (hn : (t.1 110 1).toInt = 0) (ht : ∀ j : Nat, j < 160 → (t.1 112 (160 + j)).toInt = 0) (hv : v = 0) : G1Q s t v := by
  intro H g _
  rw [hv]
  refine ge0_e ⟨fun i hi => ?_, hn, rfl⟩ g.1
  show (thf (t.1 112) (t.1 113) (160 + i)).toInt = -1
  unfold thf
  rw [if_pos (ht i hi)]
  rfl
theorem upd_sh {f : Nat → Int32} {c p : Nat} {x : Int32} : (fun i => upd f (c + p) x (c + i)) = upd (fun i => f (c + i)) p x := by
  funext i
  by_cases e : i = p
  · rw [e, ug_at]; exact ug_at.symm
  · rw [ug_ne e]; exact ug_ne (by omega)
theorem ite_sh {f g : Nat → Int32} {P : Prop} [Decidable P] {c : Nat} : (fun i => (if P then f else g) (c + i)) = (if P then (fun i => f (c + i)) else (fun i => g (c + i))) := by
  by_cases h : P
  · rw [if_pos h, if_pos h]
  · rw [if_neg h, if_neg h]
theorem thf_sh {th fr : Nat → Int32} {c : Nat} : (fun i => thf th fr (c + i)) = thf (fun i => th (c + i)) (fun i => fr (c + i)) := rfl
theorem gv1_rp {u t : GS} {k : Nat} {v : Int} (hR : Rng u) (hk : k < 4000) (ha : AQ u k 1) (hp : AP u t k 1) (hr : RP u t k 1) : gv1 t (v + 1) = gqT (gv1 u v) u k := by
  have w := hR.1 118 k (Nat.lt_of_lt_of_le hk (Nat.le_of_ble_eq_true rfl))
  have w1 : (rI 118).1 = 0 := rfl
  have w2 : (rI 118).2 = 4 := rfl
  unfold In at w
  rw [w1, w2] at w
  have hn := hp.1
  have hm := ha.2.1
  have ez : (cz (u.1 118) (k + 1) : Int) = (cz (u.1 118) k : Int) + (if (u.1 118 k).toInt = 0 then 1 else 0) := by
    show ((cz (u.1 118) k + (if (u.1 118 k).toInt = 0 then 1 else 0) : Nat) : Int) = _
    by_cases c : (u.1 118 k).toInt = 0
    · rw [if_pos c, if_pos c]; rfl
    · rw [if_neg c, if_neg c]; rfl
  rw [ez, ← hm] at hn
  obtain ⟨r0, r1, r2, r3, r4⟩ := hr
  unfold gqT gv1
  have c : (u.1 118 k).toInt = 0 ∨ (u.1 118 k).toInt = 1 ∨ (u.1 118 k).toInt = 2 ∨ (u.1 118 k).toInt = 3 ∨ (u.1 118 k).toInt = 4 := by omega
  rcases c with c | c | c | c | c
  · obtain ⟨a1, a2, a3, a4, a5, a6, a7⟩ := r0 c
    rw [if_pos c] at hn ⊢
    rw [a1, a2, a3, a4, a5, a6, a7, hn, Nat.mul_one, upd_sh]
    rfl
  · obtain ⟨a1, ⟨x, hx, a2⟩, a3, a4, a5, a6, a7⟩ := r1 c
    rw [if_neg (by omega), Int.add_zero] at hn
    rw [if_neg (by omega), if_pos c, a1, a2, a3, a4, a5, a6, a7, hn, Nat.mul_one, thf_sh, upd_sh, upd_sh, thf_up hx, upd_sh, upd_sh, upd_sh, upd_sh]
    rfl
  · obtain ⟨a1, ⟨x, hx, a2⟩, a3, a4, a5, a6, a7⟩ := r2 c
    rw [if_neg (by omega), Int.add_zero] at hn
    rw [if_neg (by omega), if_neg (by omega), if_pos c, a1, a2, a3, a4, a5, a6, a7, hn, Nat.mul_one, thf_sh, upd_sh, thf_dn hx]
    rfl
  · obtain ⟨a1, a2, a3, a4, a5, a6, a7⟩ := r3 c
    rw [if_neg (by omega), Int.add_zero] at hn
    rw [if_neg (by omega), if_neg (by omega), if_neg (by omega), if_pos c, a1, a2, a3, a4, a5, a6, a7, hn, Nat.mul_one, ite_sh, ite_sh, ite_sh, upd_sh, upd_sh, upd_sh]
    rfl
  · obtain ⟨a1, a2, a3, a4, a5, a6, a7⟩ := r4 c
    rw [if_neg (by omega), Int.add_zero] at hn
    rw [if_neg (by omega), if_neg (by omega), if_neg (by omega), if_neg (by omega), a1, a2, a3, a4, a5, a6, a7, hn, Nat.mul_one, upd_sh]
    rfl
theorem g1q_s {s u t : GS} {k : Nat} {v w : Int} (h : G1Q s u v) (hg : gv1 t (v + 1) = gqT (gv1 u v) u k) (hv : v.toNat = k) (h0 : 0 ≤ v) (hw : w = v + 1) (hl : v < (s.2.2.1 109 9).toInt) (n0 : 0 ≤ (u.1 110 1).toInt) (r0 : u.1 118 = s.1 118) (r1 : u.1 119 = s.1 119) (r2 : u.1 120 = s.1 120) (r3 : u.1 121 = s.1 121) (r4 : u.1 122 = s.1 122) (r5 : u.1 123 = s.1 123) (r6 : u.1 124 = s.1 124) : G1Q s t w := by
  intro H g e
  have a := h H g e
  rw [hv] at a
  obtain ⟨-, -, b, -⟩ := g.2 k (by omega)
  rw [hw, hg, show (v + 1).toNat = k + 1 from by omega]
  refine gev_t (gev_T a n0) ?_
  rw [gqT_cg r0 r1 r2 r3 r4 r5 r6]
  exact gev_s b
theorem g1q_f {s u t : GS} {x y : Int} (e : x = y) (hr : t.1 = u.1) (h : G1Q s u y) : G1Q s t x := by
  intro H g q
  have a := h H g q
  rw [e]
  unfold gv1 at a ⊢
  rw [hr]
  exact a
def VW1 (s t : GS) (x : Int32) : Prop := ((t.2.2.1 109 0).toInt = 0 → t.2.2.1 109 17 = x ∧ (0 ≤ x.toInt → G1Q s t x.toInt)) ∧ ((t.2.2.1 109 0).toInt ≠ 0 → t.1 = s.1 ∧ t.2.2.1 109 17 = s.2.2.1 109 17)
/-! a new row of the logs -/
def LGX (s t : GS) (w a b c d e f : Int32) : Prop := (t.2.2.1 109 9 = s.2.2.1 109 9 ∧ t.1 118 = s.1 118 ∧ t.1 119 = s.1 119 ∧ t.1 120 = s.1 120 ∧ t.1 121 = s.1 121 ∧ t.1 122 = s.1 122 ∧ t.1 123 = s.1 123 ∧ t.1 124 = s.1 124) ∨ (t.1 118 = upd (s.1 118) (s.2.2.1 109 9).toNatClampNeg w ∧ t.1 119 = upd (s.1 119) (s.2.2.1 109 9).toNatClampNeg a ∧ t.1 120 = upd (s.1 120) (s.2.2.1 109 9).toNatClampNeg b ∧ t.1 121 = upd (s.1 121) (s.2.2.1 109 9).toNatClampNeg c ∧ t.1 122 = upd (s.1 122) (s.2.2.1 109 9).toNatClampNeg d ∧ t.1 123 = upd (s.1 123) (s.2.2.1 109 9).toNatClampNeg e ∧ t.1 124 = upd (s.1 124) (s.2.2.1 109 9).toNatClampNeg f)
/-- older rows stay -/
def LGO (s t : GS) : Prop := ∀ k, k < (s.2.2.1 109 9).toNatClampNeg → t.1 118 k = s.1 118 k ∧ t.1 119 k = s.1 119 k ∧ t.1 120 k = s.1 120 k ∧ t.1 121 k = s.1 121 k ∧ t.1 122 k = s.1 122 k ∧ t.1 123 k = s.1 123 k ∧ t.1 124 k = s.1 124 k
theorem lgx_o {s t : GS} {w a b c d e f : Int32} (h : LGX s t w a b c d e f) : LGO s t := by
  intro k hk
  rcases h with ⟨-, h0, h1, h2, h3, h4, h5, h6⟩ | ⟨h0, h1, h2, h3, h4, h5, h6⟩
  · rw [h0, h1, h2, h3, h4, h5, h6]
    exact ⟨rfl, rfl, rfl, rfl, rfl, rfl, rfl⟩
  · rw [h0, h1, h2, h3, h4, h5, h6]
    have n : k ≠ (s.2.2.1 109 9).toNatClampNeg := by omega
    exact ⟨ug_ne n, ug_ne n, ug_ne n, ug_ne n, ug_ne n, ug_ne n, ug_ne n⟩
theorem gqT_o {s t : GS} {g : GVW} {k : Nat} (h : LGO s t) (hk : k < (s.2.2.1 109 9).toNatClampNeg) : gqT g t k = gqT g s k := by
  obtain ⟨h0, h1, h2, h3, h4, h5, h6⟩ := h k hk
  unfold gqT
  rw [h0, h1, h2, h3, h4, h5, h6]
theorem lgx_t {s t : GS} {w a b c d e f : Int32} {g : GVW} (h : LGX s t w a b c d e f) (hv : t.2.2.1 109 9 ≠ s.2.2.1 109 9) : gqT g t (s.2.2.1 109 9).toNatClampNeg = (if w.toInt = 0 then gqN g g.2.2.2.2.2.2.1.toNat a else if w.toInt = 1 then gqA g a.toNatClampNeg b c d e f else if w.toInt = 2 then gqD g a.toNatClampNeg else if w.toInt = 3 then gqW g a.toNatClampNeg b c else gqL g a.toNatClampNeg b) := by
  rcases h with h | ⟨h0, h1, h2, h3, h4, h5, h6⟩
  · exact absurd h.1 hv
  · unfold gqT
    rw [h0, h1, h2, h3, h4, h5, h6]
    simp only [ug_at]
/-- what one change of the class writes into the log -/
def LGC (s t : GS) : Prop := (∀ k : Nat, (k : Int) < 7 * (s.2.2.1 2 0).toInt → t.1 30 k = s.1 30 k) ∧ gvC t = gqR (gvC s) (t.1 30) (s.2.2.1 2 0).toInt.toNat ∧ ((t.1 30 (7 * (s.2.2.1 2 0).toInt.toNat)).toInt = 0 → ((t.1 30 (7 * (s.2.2.1 2 0).toInt.toNat + 1)).toNatClampNeg : Int) = (s.2.2.1 2 1).toInt)
theorem gqR_p {r q : Nat → Int32} {g : GVW} {k : Nat} {n : Int} (h : ∀ j : Nat, (j : Int) < 7 * n → r j = q j) (hk : (k : Int) < n) : gqR g r k = gqR g q k ∧ r (7 * k) = q (7 * k) ∧ r (7 * k + 1) = q (7 * k + 1) := by
  unfold gqR
  rw [h (7 * k) (by omega), h (7 * k + 1) (by omega), h (7 * k + 2) (by omega), h (7 * k + 3) (by omega), h (7 * k + 4) (by omega), h (7 * k + 5) (by omega), h (7 * k + 6) (by omega)]
  exact ⟨rfl, rfl, rfl⟩
/-- one change on both sides: the history goes on -/
theorem his_x {s t u : GS} {H : Nat → GVW} (h : HIS s H) (hl : GEV (H (s.2.2.1 2 0).toInt.toNat) (gvC s)) (h0 : 0 ≤ (s.2.2.1 2 0).toInt) (n0 : 0 ≤ (s.2.2.1 2 1).toInt) (hC : LGC s t) (hv : (t.2.2.1 2 0).toInt = (s.2.2.1 2 0).toInt + 1) (u30 : u.1 30 = t.1 30) (uv : u.2.2.1 2 0 = t.2.2.1 2 0) (hc9 : (s.2.2.1 109 9).toInt = (s.2.2.1 2 0).toInt) (hO : LGO s u) (hg : GEV (gvC t) (gqT (gvC s) u (s.2.2.1 109 9).toNatClampNeg)) : HIS u (fun k => if k ≤ (s.2.2.1 2 0).toInt.toNat then H k else gvC t) := by
  have ech : (s.2.2.1 109 9).toNatClampNeg = (s.2.2.1 2 0).toInt.toNat := congrArg Int.toNat hc9
  refine ⟨by show GE0 (if 0 ≤ _ then H 0 else _); rw [if_pos (Nat.zero_le _)]; exact h.1, fun k hk => ?_⟩
  rw [uv, hv] at hk
  show GEV (if k + 1 ≤ _ then H (k + 1) else gvC t) (gqR (if k ≤ _ then H k else gvC t) (u.1 30) k) ∧ (_ → _ = (if k ≤ _ then H k else gvC t).2.2.2.2.2.2.1) ∧ GEV (if k + 1 ≤ _ then H (k + 1) else gvC t) (gqT (if k ≤ _ then H k else gvC t) u k) ∧ 0 ≤ (if k ≤ _ then H k else gvC t).2.2.2.2.2.2.1
  rw [if_pos (show k ≤ (s.2.2.1 2 0).toInt.toNat by omega), u30]
  by_cases c : k + 1 ≤ (s.2.2.1 2 0).toInt.toNat
  · rw [if_pos c]
    obtain ⟨a, b, d, e⟩ := h.2 k (by omega)
    obtain ⟨p1, p2, p3⟩ := gqR_p (g := H k) (k := k) hC.1 (by omega)
    rw [p1, p2, p3, gqT_o hO (by omega)]
    exact ⟨a, b, d, e⟩
  · rw [if_neg c]
    have ek : k = (s.2.2.1 2 0).toInt.toNat := by omega
    subst ek
    have hl2 := gev_s hl
    refine ⟨?_, fun z => ?_, ?_, by rw [hl.2.2.2.1]; exact n0⟩
    · have q := gev_R (r := t.1 30) (k := (s.2.2.1 2 0).toInt.toNat) hl2 (fun z => hC.2.2 z)
      rw [← hC.2.1] at q
      exact q
    · rw [hC.2.2 z, hl.2.2.2.1]; rfl
    · have q := gev_T (s := u) (k := (s.2.2.1 109 9).toNatClampNeg) hl2 n0
      rw [ech] at hg q
      exact gev_t hg q
/-! what is shown -/
def shC (s : GS) : GVW := if (s.2.2.1 0 2).toInt = -1 then gvC s else gvD s
theorem shC_n {s : GS} (h : (s.2.2.1 0 2).toInt = -1) : shC s = gvC s := if_pos h
theorem shC_d {s : GS} (h : (s.2.2.1 0 2).toInt ≠ -1) : shC s = gvD s := if_neg h
/-- the reference's graph g, as it is seen -/
def gvG (s : GS) (g : Nat) : GVW := (fun i => s.1 111 (32 * g + i), fun i => thf (s.1 112) (s.1 113) (160 * g + i), fun i => s.1 114 (160 * g + i), fun i => s.1 115 (160 * g + i), fun i => s.1 116 (160 * g + i), fun i => s.1 117 (160 * g + i), (s.1 110 g).toInt, (s.2.2.1 109 9).toInt)
/-- g is the graph that is looked at -/
def GSE (s : GS) : Prop := (s.2.2.1 109 18).toInt = (if (s.2.2.1 109 17).toInt < 0 then 0 else 1)
theorem gse_i {s : GS} {a b : Int32} (h1 : a = s.2.2.1 109 18) (h2 : b = s.2.2.1 109 17) (h : (b.toInt < 0 ∧ a.toInt = 0) ∨ (0 ≤ b.toInt ∧ a.toInt = 1)) : GSE s := by
  unfold GSE
  rw [← h1, ← h2]
  rcases h with ⟨x, y⟩ | ⟨x, y⟩
  · rw [if_pos x]; exact y
  · rw [if_neg (by omega)]; exact y
theorem gse_fr {s t : GS} {L : FM} (h : GSE s) (hF : Fr L s t) (hq : (qF L.2.2.1 109 18 && qF L.2.2.1 109 17) = true) : GSE t := by
  rw [Bool.and_eq_true] at hq
  unfold GSE
  rw [hF.2.2.1 109 18 hq.1, hF.2.2.1 109 17 hq.2]
  exact h
/-- labelOf of the reference -/
def LBR (s t : GS) (x z : Int32) : Prop := ((t.2.2.1 109 0).toInt = 1 ∧ ¬ (0 ≤ x.toInt ∧ x.toInt < (s.2.2.1 109 20).toInt)) ∨ ((t.2.2.1 109 0).toInt = 0 ∧ (0 ≤ x.toInt ∧ x.toInt < (s.2.2.1 109 20).toInt) ∧ z = s.1 111 (32 * (s.2.2.1 109 18).toNatClampNeg + x.toNatClampNeg))
/-! load of the reference: its log -/
theorem geq_T {g h : GVW} {s : GS} {k : Nat} (q : GEQ g h) : GEQ (gqT g s k) (gqT h s k) := by
  unfold gqT
  rw [← q.2.2.2.2.2.2.1]
  split
  · exact geq_N q
  · split
    · exact geq_A q
    · split
      · exact geq_D q
      · split
        · exact geq_W q
        · exact geq_L q
def L28 (s t : GS) : Prop := (t.1 118 = s.1 118 ∧ t.1 119 = s.1 119 ∧ t.1 120 = s.1 120 ∧ t.1 121 = s.1 121 ∧ t.1 122 = s.1 122 ∧ t.1 123 = s.1 123 ∧ t.1 124 = s.1 124) ∧ t.2.2.1 109 9 = s.2.2.1 109 9 ∧ (GSE s → GSE t)
theorem l28_fr {s u t : GS} {L : FM} (h : L28 s u) (hF : Fr L u t) (hq : (qI L.1 118 && qI L.1 119 && qI L.1 120 && qI L.1 121 && qI L.1 122 && qI L.1 123 && qI L.1 124 && qF L.2.2.1 109 9 && (qF L.2.2.1 109 18 && qF L.2.2.1 109 17)) = true) : L28 s t := by
  simp only [Bool.and_eq_true] at hq
  obtain ⟨⟨⟨⟨⟨⟨⟨⟨q0, q1⟩, q2⟩, q3⟩, q4⟩, q5⟩, q6⟩, q7⟩, q8, q9⟩ := hq
  obtain ⟨⟨a0, a1, a2, a3, a4, a5, a6⟩, a7, a8⟩ := h
  refine ⟨⟨(hF.1 118 q0).trans a0, (hF.1 119 q1).trans a1, (hF.1 120 q2).trans a2, (hF.1 121 q3).trans a3, (hF.1 122 q4).trans a4, (hF.1 123 q5).trans a5, (hF.1 124 q6).trans a6⟩, (hF.2.2.1 109 9 q7).trans a7, fun g => ?_⟩
  have b := a8 g
  unfold GSE at b ⊢
  rw [hF.2.2.1 109 18 q8, hF.2.2.1 109 17 q9]
  exact b
theorem l28_r {s : GS} : L28 s s := ⟨⟨rfl, rfl, rfl, rfl, rfl, rfl, rfl⟩, rfl, id⟩
theorem lgo_tr {s u t : GS} (h : LGO s u) (g : LGO u t) (hc : (s.2.2.1 109 9).toNatClampNeg ≤ (u.2.2.1 109 9).toNatClampNeg) : LGO s t := by
  intro k hk
  obtain ⟨a0, a1, a2, a3, a4, a5, a6⟩ := h k hk
  obtain ⟨b0, b1, b2, b3, b4, b5, b6⟩ := g k (by omega)
  exact ⟨b0.trans a0, b1.trans a1, b2.trans a2, b3.trans a3, b4.trans a4, b5.trans a5, b6.trans a6⟩
def LDL (s t : GS) (k : Nat) : Prop := LGO s t ∧ (t.2.2.1 109 9).toInt = (s.2.2.1 109 9).toInt + (k : Int) ∧ (∀ j, j < k → GEQ (gqT (opF (gvR s) (t.1 127) (t.1 128) j) t ((s.2.2.1 109 9).toNatClampNeg + j)) (opF (gvR s) (t.1 127) (t.1 128) (j + 1))) ∧ (GSE s → GSE t)
theorem ldl_0 {s t : GS} (h : L28 s t) : LDL s t 0 := by
  obtain ⟨⟨a0, a1, a2, a3, a4, a5, a6⟩, a7, a8⟩ := h
  refine ⟨fun k _ => ?_, by rw [a7]; exact (Int.add_zero _).symm, fun j hj => absurd hj (Nat.not_lt_zero _), a8⟩
  rw [a0, a1, a2, a3, a4, a5, a6]
  exact ⟨rfl, rfl, rfl, rfl, rfl, rfl, rfl⟩
theorem ldl_s {s u t : GS} {k : Nat} {w a b c d e f : Int32} (h : LDL s u k) (h3 : LD3 s u k) (h4 : LD3 s t (k + 1)) (h0 : 0 ≤ (s.2.2.1 109 9).toInt) (hv : (t.2.2.1 109 9).toInt = (u.2.2.1 109 9).toInt + 1) (hx : LGX u t w a b c d e f) (hT : gvR t = (if w.toInt = 0 then gqN (gvR u) (gvR u).2.2.2.2.2.2.1.toNat a else if w.toInt = 1 then gqA (gvR u) a.toNatClampNeg b c d e f else if w.toInt = 2 then gqD (gvR u) a.toNatClampNeg else if w.toInt = 3 then gqW (gvR u) a.toNatClampNeg b c else gqL (gvR u) a.toNatClampNeg b)) (r7 : t.1 127 = u.1 127) (r8 : t.1 128 = u.1 128) (hg : GSE t) : LDL s t (k + 1) := by
  obtain ⟨b1, b2, b3, -⟩ := h
  have hne : t.2.2.1 109 9 ≠ u.2.2.1 109 9 := fun z => by rw [z] at hv; omega
  have hO := lgx_o hx
  have ec : (u.2.2.1 109 9).toNatClampNeg = (s.2.2.1 109 9).toNatClampNeg + k := by
    show (u.2.2.1 109 9).toInt.toNat = (s.2.2.1 109 9).toInt.toNat + k
    omega
  refine ⟨lgo_tr b1 hO (by omega), by rw [hv, b2]; omega, fun j hj => ?_, fun _ => hg⟩
  rw [r7, r8]
  by_cases q : j = k
  · rw [q, ← ec]
    have e := lgx_t (g := gvR u) hx hne
    rw [← hT] at e
    have x1 : GEQ (gqT (gvR u) t (u.2.2.1 109 9).toNatClampNeg) (gqT (opF (gvR s) (u.1 127) (u.1 128) k) t (u.2.2.1 109 9).toNatClampNeg) := geq_T h3.2.2.2.1
    rw [e] at x1
    have x2 := h4.2.2.2.1
    rw [r7, r8] at x2
    exact geq_t (geq_s x1) x2
  · rw [gqT_o hO (by omega)]
    exact b3 j (by omega)
/-- each of the commands is one of the text's -/
def LDB (s t : GS) : Prop := ∀ j, j ≤ (t.2.2.1 109 32).toNatClampNeg → ∃ a, LRN (s.1 125) (s.2.2.1 109 22).toInt.toNat (gvR s) j a (opF (gvR s) (t.1 127) (t.1 128) j)
theorem ldb_cg {s u t : GS} (h : LDB s u) (h7 : t.1 127 = u.1 127) (h8 : t.1 128 = u.1 128) (hm : t.2.2.1 109 32 = u.2.2.1 109 32) : LDB s t := by
  unfold LDB
  rw [h7, h8, hm]
  exact h
theorem ldb_0 {s t : GS} (hm : t.2.2.1 109 32 = Int32.ofInt 0) : LDB s t := by
  intro j hj
  have e : (t.2.2.1 109 32).toNatClampNeg = 0 := by rw [hm]; rfl
  have e2 : j = 0 := by omega
  subst e2
  exact ⟨0, rfl, rfl⟩
theorem ldb_cmd {s u t : GS} {a : Nat} (h : LDB s u) (hU : LD1 s u) (h0 : (u.2.2.1 109 23).toInt = 0) (ht : (u.2.2.1 109 28).toInt ≠ 0) (hR : RCM u t) (hIu : 0 ≤ (u.2.2.1 109 32).toInt) (u125 : u.1 125 = s.1 125) (u22 : u.2.2.1 109 22 = s.2.2.1 109 22) (z : (t.2.2.1 109 23).toInt = 0) (hD : LDG s t a) : LDB s t := by
  obtain ⟨-, g2, -⟩ := hU
  obtain ⟨a0, -, k, v, hk, hv⟩ := g2 h0
  have ek := ntv_z hk hv
  unfold RCM at hR
  rw [u125, u22] at hR
  obtain ⟨m1, c, V, m2, m3, m4, m5, m6, m7⟩ := (hR a0 k v hk hv (by omega)).1 z
  intro j hj
  by_cases q : j = (t.2.2.1 109 32).toNatClampNeg
  · rw [q]; exact ⟨a, hD.1⟩
  · have em : (t.2.2.1 109 32).toNatClampNeg = (u.2.2.1 109 32).toNatClampNeg + 1 := by
      show (t.2.2.1 109 32).toInt.toNat = (u.2.2.1 109 32).toInt.toNat + 1
      omega
    have eo : opF (gvR s) (t.1 127) (t.1 128) j = opF (gvR s) (u.1 127) (u.1 128) j := opF_cg j (fun i hi => m5 i (by omega)) (fun i hi => m6 i (by omega))
    rw [eo]
    exact h j (by omega)
/-- what load of the reference does to its log -/
def LDO (s t : GS) (z : Int32) : Prop := (z.toInt ≠ -4 → LDL s t z.toNatClampNeg ∧ LDB s t ∧ (t.2.2.1 109 32).toNatClampNeg = z.toNatClampNeg) ∧ (z.toInt = -4 → L28 s t)
/-! the class's log: one change, a text of changes -/
section LGC
variable {s t u : GS} {x y z w v : Int32} {p : Nat}
theorem lgc_n (hp : (∀ k : Nat, (k : Int) < 7 * (s.2.2.1 2 0).toInt → t.1 30 k = s.1 30 k)) (hg : gvC t = gqN (gvC s) (s.2.2.1 2 1).toNatClampNeg x) (hr : t.1 30 (7 * (s.2.2.1 2 0).toInt.toNat) = (Int32.ofInt 0) ∧ t.1 30 (7 * (s.2.2.1 2 0).toInt.toNat + 1) = (s.2.2.1 2 1) ∧ t.1 30 (7 * (s.2.2.1 2 0).toInt.toNat + 2) = x ∧ t.1 30 (7 * (s.2.2.1 2 0).toInt.toNat + 3) = y) (n0 : 0 ≤ (s.2.2.1 2 1).toInt) : LGC s t := by
  refine ⟨hp, ?_, fun _ => ?_⟩
  · rw [gqR_0 (by rw [hr.1]; rfl), hr.2.1, hr.2.2.1]; exact hg
  · rw [hr.2.1]
    show (((s.2.2.1 2 1).toInt.toNat : Nat) : Int) = _
    omega
theorem lgc_a {a b c d e : Int32} (hp : (∀ k : Nat, (k : Int) < 7 * (s.2.2.1 2 0).toInt → t.1 30 k = s.1 30 k)) (hg : gvC t = gqA (gvC s) x.toNatClampNeg a b c d e) (hr : t.1 30 (7 * (s.2.2.1 2 0).toInt.toNat) = (Int32.ofInt 1) ∧ t.1 30 (7 * (s.2.2.1 2 0).toInt.toNat + 1) = x ∧ t.1 30 (7 * (s.2.2.1 2 0).toInt.toNat + 2) = a ∧ t.1 30 (7 * (s.2.2.1 2 0).toInt.toNat + 3) = b ∧ t.1 30 (7 * (s.2.2.1 2 0).toInt.toNat + 4) = c ∧ t.1 30 (7 * (s.2.2.1 2 0).toInt.toNat + 5) = d ∧ t.1 30 (7 * (s.2.2.1 2 0).toInt.toNat + 6) = e) : LGC s t := by
  refine ⟨hp, ?_, fun q => by rw [hr.1] at q; exact absurd q (by decide)⟩
  rw [gqR_1 (by rw [hr.1]; rfl), hr.2.1, hr.2.2.1, hr.2.2.2.1, hr.2.2.2.2.1, hr.2.2.2.2.2.1, hr.2.2.2.2.2.2]; exact hg
theorem lgc_d (hp : (∀ k : Nat, (k : Int) < 7 * (s.2.2.1 2 0).toInt → t.1 30 k = s.1 30 k)) (hg : gvC t = gqD (gvC s) x.toNatClampNeg) (hr : t.1 30 (7 * (s.2.2.1 2 0).toInt.toNat) = (Int32.ofInt 2) ∧ t.1 30 (7 * (s.2.2.1 2 0).toInt.toNat + 1) = x ∧ t.1 30 (7 * (s.2.2.1 2 0).toInt.toNat + 2) = y ∧ t.1 30 (7 * (s.2.2.1 2 0).toInt.toNat + 3) = z) : LGC s t := by
  refine ⟨hp, ?_, fun q => by rw [hr.1] at q; exact absurd q (by decide)⟩
  rw [gqR_2 (by rw [hr.1]; rfl), hr.2.1]; exact hg
theorem lgc_w (hp : (∀ k : Nat, (k : Int) < 7 * (s.2.2.1 2 0).toInt → t.1 30 k = s.1 30 k)) (hg : gvC t = gqW (gvC s) x.toNatClampNeg w v) (hr : t.1 30 (7 * (s.2.2.1 2 0).toInt.toNat) = (Int32.ofInt 3) ∧ t.1 30 (7 * (s.2.2.1 2 0).toInt.toNat + 1) = x ∧ t.1 30 (7 * (s.2.2.1 2 0).toInt.toNat + 2) = w ∧ t.1 30 (7 * (s.2.2.1 2 0).toInt.toNat + 3) = v) : LGC s t := by
  refine ⟨hp, ?_, fun q => by rw [hr.1] at q; exact absurd q (by decide)⟩
  rw [gqR_3 (by rw [hr.1]; rfl), hr.2.1, hr.2.2.1, hr.2.2.2]; exact hg
theorem lgc_l (hp : (∀ k : Nat, (k : Int) < 7 * (s.2.2.1 2 0).toInt → t.1 30 k = s.1 30 k)) (hg : gvC t = gqL (gvC s) x.toNatClampNeg w) (hr : t.1 30 (7 * (s.2.2.1 2 0).toInt.toNat) = (Int32.ofInt 4) ∧ t.1 30 (7 * (s.2.2.1 2 0).toInt.toNat + 1) = x ∧ t.1 30 (7 * (s.2.2.1 2 0).toInt.toNat + 2) = w ∧ t.1 30 (7 * (s.2.2.1 2 0).toInt.toNat + 3) = v) : LGC s t := by
  refine ⟨hp, ?_, fun q => by rw [hr.1] at q; exact absurd q (by decide)⟩
  rw [gqR_4 (by rw [hr.1]; decide) (by rw [hr.1]; decide) (by rw [hr.1]; decide) (by rw [hr.1]; decide), hr.2.1, hr.2.2.1]; exact hg
theorem lgc_fr {L : FM} (h : LGC u t) (hF : Fr L s u) (hq : (qI L.1 30 && (qI L.1 3 && qI L.1 4 && qI L.1 5 && qI L.1 6 && qI L.1 7 && qI L.1 8 && qF L.2.2.1 2 1 && qF L.2.2.1 2 0)) = true) : LGC s t := by
  rw [Bool.and_eq_true] at hq
  have e := gvC_cg hF hq.2
  have e0 : u.2.2.1 2 0 = s.2.2.1 2 0 := by have q := hq.2; simp only [Bool.and_eq_true] at q; exact hF.2.2.1 2 0 q.2
  have e1 : u.2.2.1 2 1 = s.2.2.1 2 1 := by have q := hq.2; simp only [Bool.and_eq_true] at q; exact hF.2.2.1 2 1 q.1.2
  unfold LGC at h ⊢
  rw [e, e0, e1, hF.1 30 hq.1] at h
  exact h
theorem gqR_v {g : GVW} {r : Nat → Int32} {k : Nat} : (gqR g r k).2.2.2.2.2.2.2 = g.2.2.2.2.2.2.2 + 1 := by
  unfold gqR gqP
  split
  · rfl
  · split
    · rfl
    · split
      · rfl
      · split
        · rfl
        · rfl
theorem lgc_v (h : LGC s t) : (t.2.2.1 2 0).toInt = (s.2.2.1 2 0).toInt + 1 := by
  have e : (gvC t).2.2.2.2.2.2.2 = _ := congrArg (fun g : GVW => g.2.2.2.2.2.2.2) h.2.1
  rw [gqR_v] at e
  exact e
end LGC
def LGS (s t : GS) (k : Nat) : Prop := ∃ G : Nat → GVW, (∀ j, j ≤ k → ∃ a, LRN (s.1 47) (s.2.2.1 46 1).toInt.toNat (gvC s) j a (G j)) ∧ G k = gvC t ∧ (∀ k : Nat, (k : Int) < 7 * (s.2.2.1 2 0).toInt → t.1 30 k = s.1 30 k) ∧ (t.2.2.1 2 0).toInt = (s.2.2.1 2 0).toInt + (k : Int) ∧ ∀ j, j < k → gqR (G j) (t.1 30) ((s.2.2.1 2 0).toInt.toNat + j) = G (j + 1) ∧ ((t.1 30 (7 * ((s.2.2.1 2 0).toInt.toNat + j))).toInt = 0 → ((t.1 30 (7 * ((s.2.2.1 2 0).toInt.toNat + j) + 1)).toNatClampNeg : Int) = (G j).2.2.2.2.2.2.1)
theorem lgs_0 {s t : GS} (hg : gvC t = gvC s) (h30 : t.1 30 = s.1 30) : LGS s t 0 := by
  refine ⟨fun _ => gvC s, fun j hj => ⟨0, ?_⟩, hg.symm, fun k _ => by rw [h30], ?_, fun j hj => absurd hj (Nat.not_lt_zero _)⟩
  · have e : j = 0 := by omega
    rw [e]; exact ⟨rfl, rfl⟩
  · have e : (gvC t).2.2.2.2.2.2.2 = (gvC s).2.2.2.2.2.2.2 := by rw [hg]
    have e2 : (t.2.2.1 2 0).toInt = (s.2.2.1 2 0).toInt := e
    rw [e2]; exact (Int.add_zero _).symm
theorem lgs_s {s u t : GS} {k m : Nat} (h : LGS s u k) (hm : m = k + 1) (hC : LGC u t) (h0 : 0 ≤ (s.2.2.1 2 0).toInt) (hl : ∃ a, LRN (s.1 47) (s.2.2.1 46 1).toInt.toNat (gvC s) m a (gvC t)) : LGS s t m := by
  subst hm
  obtain ⟨G, a1, a2, a3, a4, a5⟩ := h
  have hv := lgc_v hC
  have ek : (u.2.2.1 2 0).toInt.toNat = (s.2.2.1 2 0).toInt.toNat + k := by omega
  refine ⟨fun j => if j ≤ k then G j else gvC t, fun j hj => ?_, by show (if k + 1 ≤ k then _ else _) = _; rw [if_neg (by omega)], fun j hj => ?_, by rw [hv, a4]; omega, fun j hj => ?_⟩
  · show ∃ a, LRN (s.1 47) (s.2.2.1 46 1).toInt.toNat (gvC s) j a (if j ≤ k then G j else gvC t)
    by_cases c : j ≤ k
    · rw [if_pos c]; exact a1 j c
    · rw [if_neg c, show j = k + 1 by omega]; exact hl
  · rw [hC.1 j (by omega)]; exact a3 j hj
  · show gqR (if j ≤ k then G j else gvC t) (t.1 30) ((s.2.2.1 2 0).toInt.toNat + j) = (if j + 1 ≤ k then G (j + 1) else gvC t) ∧ (_ → _ = (if j ≤ k then G j else gvC t).2.2.2.2.2.2.1)
    rw [if_pos (show j ≤ k by omega)]
    by_cases c : j + 1 ≤ k
    · rw [if_pos c]
      obtain ⟨p1, p2, p3⟩ := gqR_p (g := G j) (k := (s.2.2.1 2 0).toInt.toNat + j) hC.1 (by omega)
      rw [p1, p2, p3]
      exact a5 j (by omega)
    · have ej : j = k := by omega
      rw [if_neg c, ej, a2, ← ek]
      exact ⟨hC.2.1.symm, fun z => hC.2.2 z⟩
/-- what load of the class does to its log -/
def LCO (s t : GS) (z : Int32) : Prop := (z.toInt ≠ -4 → LGS s t z.toInt.toNat) ∧ (z.toInt = -4 → (∀ k : Nat, (k : Int) < 7 * (s.2.2.1 2 0).toInt → t.1 30 k = s.1 30 k))
