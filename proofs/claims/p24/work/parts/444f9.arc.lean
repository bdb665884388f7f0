/-! THE K-TH ARC OF A NODE -/
def ARE (g : GVW) (w : Int) (p : Nat) : Int := if w = 0 then gF g.2.1 p else gG g.2.1 g.2.2.1 p
def ARS (E : Nat → Int) (v k z : Int) : Prop := (∃ p : Nat, p < 160 ∧ E p = v ∧ cn E v p = k ∧ z = (p : Int)) ∨ (cn E v 160 ≤ k ∧ z = -1)
theorem are_no {g : GVW} {w : Int} {p : Nat} (h : (g.2.1 p).toInt = -1) : ARE g w p = -1 := by
  unfold ARE gF gG
  split
  · split
    · exact h
    · rfl
  · rw [if_neg (fun z => z.2 h)]
theorem are_f {g : GVW} {w : Int} {p : Nat} (hp : p < 160) (hw : w = 0) : ARE g w p = (g.2.1 p).toInt := by
  unfold ARE gF
  rw [if_pos hw, if_pos hp]
theorem are_t {g : GVW} {w : Int} {p : Nat} (hp : p < 160) (h : (g.2.1 p).toInt ≠ -1) (hw : w ≠ 0) : ARE g w p = (g.2.2.1 p).toInt := by
  unfold ARE gG
  rw [if_neg hw, if_pos ⟨hp, h⟩]
theorem are_e {g h : GVW} (q : GEW g h) {w : Int} {j : Nat} (hj : j < 160) : ARE g w j = ARE h w j := by
  have e := q.2.1 j hj
  by_cases c : (g.2.1 j).toInt = -1
  · rw [are_no c, are_no (by rw [← e]; exact c)]
  · by_cases z : w = 0
    · rw [are_f hj z, are_f hj z, e]
    · rw [are_t hj c z, are_t hj (by rw [← e]; exact c) z, (q.2.2.1 j hj c).1]
theorem cn_eq {E F : Nat → Int} {v : Int} : ∀ n : Nat, (∀ j, j < n → E j = F j) → cn E v n = cn F v n
  | 0, _ => rfl
  | n + 1, h => by
    have i := cn_eq (v := v) n (fun j hj => h j (by omega))
    by_cases c : E n = v
    · rw [cn_hit c, cn_hit ((h n (by omega)).symm.trans c), i]
    · rw [cn_miss c, cn_miss (fun z => c ((h n (by omega)).trans z)), i]
theorem ars_u {E F : Nat → Int} {v k z z2 : Int} (he : ∀ j, j < 160 → E j = F j) (h1 : ARS E v k z) (h2 : ARS F v k z2) : z = z2 := by
  have ce : ∀ n, n ≤ 160 → cn E v n = cn F v n := fun n hn => cn_eq n (fun j hj => he j (by omega))
  rcases h1 with ⟨p, a1, a2, a3, a4⟩ | ⟨a1, a2⟩ <;> rcases h2 with ⟨q, b1, b2, b3, b4⟩ | ⟨b1, b2⟩
  · have b2' : E q = v := (he q b1).trans b2
    rw [← ce q (by omega)] at b3
    rcases Nat.lt_trichotomy p q with c | c | c
    · have m := cn_mono E v (show p + 1 ≤ q by omega)
      rw [cn_hit a2] at m; omega
    · omega
    · have m := cn_mono E v (show q + 1 ≤ p by omega)
      rw [cn_hit b2'] at m; omega
  · have m := cn_mono E v (show p + 1 ≤ 160 by omega)
    rw [cn_hit a2] at m
    rw [← ce 160 (Nat.le_refl _)] at b1
    omega
  · have b2' : E q = v := (he q b1).trans b2
    have m := cn_mono E v (show q + 1 ≤ 160 by omega)
    rw [cn_hit b2'] at m
    rw [← ce q (by omega)] at b3
    omega
  · omega
theorem cn_top {F : Nat → Int} {u : Int} {T : Nat} (hu : 0 ≤ u) (hQ : ∀ p, T ≤ p → p < 160 → F p = -1) : ∀ k : Nat, T + k ≤ 160 → cn F u (T + k) = cn F u T
  | 0, _ => rfl
  | k + 1, h => by
    have e : F (T + k) ≠ u := by rw [hQ _ (by omega) (by omega)]; omega
    show cn F u (T + k + 1) = _
    rw [cn_miss e]
    exact cn_top hu hQ k (by omega)
theorem ars_k {F : Nat → Int} {T : Nat} {oa os : Nat → Int32} (h160 : T ≤ 160) (hQ : ∀ p, T ≤ p → p < 160 → F p = -1) (hA : ∀ v, v ≤ 32 → (oa v).toInt = pr F T v) (hO : RWS F T os 0) {x1 x3 a0 a1 : Int32} (i1 : In x1 0 31) (k0 : 0 ≤ x3.toInt) (h0 : a0 = oa x1.toNatClampNeg) (h1 : a1 = oa (x1.toInt + 1).toNat) : (a1.toInt - a0.toInt ≤ x3.toInt → ARS F x1.toInt x3.toInt (-1)) ∧ (x3.toInt < a1.toInt - a0.toInt → ∀ z : Int32, z = os (a0.toInt + x3.toInt).toNat → ARS F x1.toInt x3.toInt z.toInt) := by
  obtain ⟨v, hv⟩ : ∃ v : Nat, x1.toInt = (v : Int) := ⟨x1.toInt.toNat, by have := i1.1; omega⟩
  have e0 : x1.toNatClampNeg = v := by show x1.toInt.toNat = v; omega
  have e1 : (x1.toInt + 1).toNat = v + 1 := by omega
  have hv31 : v ≤ 31 := by have := i1.2; omega
  rw [e0] at h0
  rw [e1] at h1
  have q0 := hA v (by omega)
  have q1 := hA (v + 1) (by omega)
  rw [← h0] at q0
  rw [← h1] at q1
  have e2 : pr F T (v + 1) = pr F T v + cn F (v : Int) T := rfl
  have ct := cn_top (u := (v : Int)) (Int.natCast_nonneg v) hQ (160 - T) (by omega)
  rw [show T + (160 - T) = 160 by omega] at ct
  rw [hv]
  refine ⟨fun h => Or.inr ⟨by omega, rfl⟩, fun h z hz => ?_⟩
  obtain ⟨p, a, b, c⟩ := cn_ex k0 (n := T) (F := F) (u := (v : Int)) (by omega)
  have o := hO p v (Nat.zero_le _) a (by omega) b
  rw [c, ← q0, ← hz] at o
  exact Or.inl ⟨p, by omega, b, c, o⟩
theorem gf_top {fr : Nat → Int32} {T : Nat} (hq : ∀ p, p < 160 → (fr p).toInt ≠ -1 → (p : Int) < (T : Int)) : ∀ p, T ≤ p → p < 160 → gF fr p = -1 := by
  intro p h1 h2
  unfold gF
  rw [if_pos h2]
  exact Classical.byContradiction fun hn => by have := hq p h2 hn; omega
theorem gg_top {fr tt : Nat → Int32} {T : Nat} (hq : ∀ p, p < 160 → (fr p).toInt ≠ -1 → (p : Int) < (T : Int)) : ∀ p, T ≤ p → p < 160 → gG fr tt p = -1 := by
  intro p h1 h2
  unfold gG
  exact if_neg (fun z => by have := hq p h2 z.2; omega)
/-- the rows of the graph in cell 2, when it is tied -/
theorem tg_2 {t : GS} (hI : Inv t) (hv : (t.2.2.1 2 4).toInt = (t.2.2.1 2 0).toInt) : TG (t.1 4) (t.1 5) (t.1 9) (t.1 10) (t.1 11) (t.1 12) (t.1 13) (t.1 14) (t.1 15) (t.2.2.1 2 3).toInt.toNat := by
  have h := hI.2.1
  unfold KG at h
  rw [mI_at rfl, mI_at rfl, mI_at rfl, mI_at rfl, mI_at rfl, mI_at rfl, mI_at rfl, mI_at rfl, mI_at rfl, mF_at rfl, mF_at rfl, mF_at rfl] at h
  exact h.2 hv
theorem ars_2_0 {s t : GS} {L : FM} (hI : Inv t) (hF : Fr L s t) (q4 : qI L.1 4 = true) (q5 : qI L.1 5 = true) (q3 : qF L.2.2.1 2 3 = true) (hv : (t.2.2.1 2 4).toInt = (t.2.2.1 2 0).toInt) (hq : TQ s) {x1 x3 a0 a1 : Int32} (i1 : In x1 0 31) (k0 : 0 ≤ x3.toInt) (h0 : a0 = t.1 12 x1.toNatClampNeg) (h1 : a1 = t.1 12 (x1.toInt + 1).toNat) : (a1.toInt - a0.toInt ≤ x3.toInt → ARS (ARE (gvC s) 0) x1.toInt x3.toInt (-1)) ∧ (x3.toInt < a1.toInt - a0.toInt → ∀ z : Int32, z = t.1 13 (a0.toInt + x3.toInt).toNat → ARS (ARE (gvC s) 0) x1.toInt x3.toInt z.toInt) := by
  have h := tg_2 hI hv
  rw [hF.1 4 q4, hF.1 5 q5, hF.2.2.1 2 3 q3] at h
  have i3 : In (s.2.2.1 2 3) 0 160 := by rw [← hF.2.2.1 2 3 q3]; exact inv_F hI 0 160 rfl rfl
  have i30 := i3.1
  have i31 := i3.2
  have eE : ARE (gvC s) 0 = gF (s.1 4) := by
    funext p
    exact if_pos rfl
  rw [eE]
  exact ars_k (by omega) (gf_top (fun p hp hn => by have := hq p hp hn; omega)) (fun v hv => (h.1 v hv).1) h.2.1 i1 k0 h0 h1
theorem ars_2_1 {s t : GS} {L : FM} (hI : Inv t) (hF : Fr L s t) (q4 : qI L.1 4 = true) (q5 : qI L.1 5 = true) (q3 : qF L.2.2.1 2 3 = true) (hv : (t.2.2.1 2 4).toInt = (t.2.2.1 2 0).toInt) (hq : TQ s) {x1 x3 a0 a1 : Int32} (i1 : In x1 0 31) (k0 : 0 ≤ x3.toInt) (h0 : a0 = t.1 14 x1.toNatClampNeg) (h1 : a1 = t.1 14 (x1.toInt + 1).toNat) : (a1.toInt - a0.toInt ≤ x3.toInt → ARS (ARE (gvC s) 1) x1.toInt x3.toInt (-1)) ∧ (x3.toInt < a1.toInt - a0.toInt → ∀ z : Int32, z = t.1 15 (a0.toInt + x3.toInt).toNat → ARS (ARE (gvC s) 1) x1.toInt x3.toInt z.toInt) := by
  have h := tg_2 hI hv
  rw [hF.1 4 q4, hF.1 5 q5, hF.2.2.1 2 3 q3] at h
  have i3 : In (s.2.2.1 2 3) 0 160 := by rw [← hF.2.2.1 2 3 q3]; exact inv_F hI 0 160 rfl rfl
  have i30 := i3.1
  have i31 := i3.2
  have eE : ARE (gvC s) 1 = gG (s.1 4) (s.1 5) := by
    funext p
    exact if_neg (by decide)
  rw [eE]
  exact ars_k (by omega) (gg_top (fun p hp hn => by have := hq p hp hn; omega)) (fun v hv => (h.1 v hv).2) h.2.2.1 i1 k0 h0 h1
/-- the rows of the graph in cell 32, when it is tied -/
theorem tg_32 {t : GS} (hI : Inv t) (hv : (t.2.2.1 32 4).toInt = (t.2.2.1 32 0).toInt) : TG (t.1 34) (t.1 35) (t.1 39) (t.1 40) (t.1 41) (t.1 42) (t.1 43) (t.1 44) (t.1 45) (t.2.2.1 32 3).toInt.toNat := by
  have h := hI.2.2.1
  unfold KG at h
  rw [mI_at rfl, mI_at rfl, mI_at rfl, mI_at rfl, mI_at rfl, mI_at rfl, mI_at rfl, mI_at rfl, mI_at rfl, mF_at rfl, mF_at rfl, mF_at rfl] at h
  exact h.2 hv
theorem ars_32_0 {s t : GS} {L : FM} (hI : Inv t) (hF : Fr L s t) (q4 : qI L.1 34 = true) (q5 : qI L.1 35 = true) (q3 : qF L.2.2.1 32 3 = true) (hv : (t.2.2.1 32 4).toInt = (t.2.2.1 32 0).toInt) (hq : TQD s) {x1 x3 a0 a1 : Int32} (i1 : In x1 0 31) (k0 : 0 ≤ x3.toInt) (h0 : a0 = t.1 42 x1.toNatClampNeg) (h1 : a1 = t.1 42 (x1.toInt + 1).toNat) : (a1.toInt - a0.toInt ≤ x3.toInt → ARS (ARE (gvD s) 0) x1.toInt x3.toInt (-1)) ∧ (x3.toInt < a1.toInt - a0.toInt → ∀ z : Int32, z = t.1 43 (a0.toInt + x3.toInt).toNat → ARS (ARE (gvD s) 0) x1.toInt x3.toInt z.toInt) := by
  have h := tg_32 hI hv
  rw [hF.1 34 q4, hF.1 35 q5, hF.2.2.1 32 3 q3] at h
  have i3 : In (s.2.2.1 32 3) 0 160 := by rw [← hF.2.2.1 32 3 q3]; exact inv_F hI 0 160 rfl rfl
  have i30 := i3.1
  have i31 := i3.2
  have eE : ARE (gvD s) 0 = gF (s.1 34) := by
    funext p
    exact if_pos rfl
  rw [eE]
  exact ars_k (by omega) (gf_top (fun p hp hn => by have := hq p hp hn; omega)) (fun v hv => (h.1 v hv).1) h.2.1 i1 k0 h0 h1
theorem ars_32_1 {s t : GS} {L : FM} (hI : Inv t) (hF : Fr L s t) (q4 : qI L.1 34 = true) (q5 : qI L.1 35 = true) (q3 : qF L.2.2.1 32 3 = true) (hv : (t.2.2.1 32 4).toInt = (t.2.2.1 32 0).toInt) (hq : TQD s) {x1 x3 a0 a1 : Int32} (i1 : In x1 0 31) (k0 : 0 ≤ x3.toInt) (h0 : a0 = t.1 44 x1.toNatClampNeg) (h1 : a1 = t.1 44 (x1.toInt + 1).toNat) : (a1.toInt - a0.toInt ≤ x3.toInt → ARS (ARE (gvD s) 1) x1.toInt x3.toInt (-1)) ∧ (x3.toInt < a1.toInt - a0.toInt → ∀ z : Int32, z = t.1 45 (a0.toInt + x3.toInt).toNat → ARS (ARE (gvD s) 1) x1.toInt x3.toInt z.toInt) := by
  have h := tg_32 hI hv
  rw [hF.1 34 q4, hF.1 35 q5, hF.2.2.1 32 3 q3] at h
  have i3 : In (s.2.2.1 32 3) 0 160 := by rw [← hF.2.2.1 32 3 q3]; exact inv_F hI 0 160 rfl rfl
  have i30 := i3.1
  have i31 := i3.2
  have eE : ARE (gvD s) 1 = gG (s.1 34) (s.1 35) := by
    funext p
    exact if_neg (by decide)
  rw [eE]
  exact ars_k (by omega) (gg_top (fun p hp hn => by have := hq p hp hn; omega)) (fun v hv => (h.1 v hv).2) h.2.2.1 i1 k0 h0 h1
def ARR (s t : GS) (x y k z : Int32) : Prop := ((t.2.2.1 109 0).toInt = 1 ∧ ¬ (0 ≤ x.toInt ∧ x.toInt < (s.2.2.1 109 20).toInt ∧ In y 0 1 ∧ 0 ≤ k.toInt)) ∨ ((t.2.2.1 109 0).toInt = 0 ∧ (0 ≤ x.toInt ∧ x.toInt < (s.2.2.1 109 20).toInt ∧ In y 0 1 ∧ 0 ≤ k.toInt) ∧ ARS (ARE (gvG s (s.2.2.1 109 18).toNatClampNeg) y.toInt) x.toInt k.toInt z.toInt)
theorem ar_miss {E : Nat → Int} {v c : Int} {p : Nat} (h : c = cn E v p) (hE : E p ≠ v) : c = cn E v (p + 1) := by rw [cn_miss hE]; exact h
theorem ar_hit {E : Nat → Int} {v c d : Int} {p : Nat} (h : c = cn E v p) (hE : E p = v) (hd : d = c + 1) : d = cn E v (p + 1) := by rw [cn_hit hE, ← h]; exact hd
