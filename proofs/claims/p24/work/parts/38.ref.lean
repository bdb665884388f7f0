/-! the reference's log and graphs -/
theorem cz_out {w v : Nat → Int32} {n : Nat} (h : ∀ k, k < n → v k = w k) : cz v n = cz w n := by
  induction n with
  | zero => rfl
  | succ n ih =>
    show cz v n + _ = cz w n + _
    rw [ih (fun k hk => h k (by omega)), h n (by omega)]
theorem cz_mono {w : Nat → Int32} {n m : Nat} (h : n ≤ m) : cz w n ≤ cz w m := by
  induction m with
  | zero =>
    obtain rfl : n = 0 := by omega
    exact Nat.le_refl _
  | succ m ih =>
    by_cases e : n = m + 1
    · rw [e]; exact Nat.le_refl _
    · have h1 := ih (by omega)
      show cz w n ≤ cz w m + (if (w m).toInt = 0 then 1 else 0)
      omega
/-- row k may be applied to graph g -/
def AQ (s : GS) (k g : Nat) : Prop := RW (s.1 118) (s.1 119) (s.1 120) (s.1 121) k ∧ (s.1 110 g).toInt = (cz (s.1 118) k : Int) ∧ ((s.1 118 k).toInt = 0 → (s.1 110 g).toInt ≤ 31) ∧ (s.1 110 g).toInt ≤ 32
/-- what applying row k to graph g does -/
def AP (s t : GS) (k g : Nat) : Prop := (t.1 110 g).toInt = (cz (s.1 118) (k + 1) : Int) ∧ (∀ j, j ≠ g → t.1 110 j = s.1 110 j) ∧ (KE (s.1 112) (s.1 113) (s.1 114) (s.1 110) g → KE (t.1 112) (t.1 113) (t.1 114) (t.1 110) g) ∧ ∀ i : Nat, (i < 160 * g ∨ 160 * g + 160 ≤ i) → t.1 112 i = s.1 112 i ∧ t.1 113 i = s.1 113 i ∧ t.1 114 i = s.1 114 i
section REF
variable {s t : GS} {k g : Nat} {x y z v : Int32} {a b : Int}
theorem aq_n (h : AQ s k g) (hk : (s.1 118 k).toInt = 0) : In (s.1 110 g) 0 31 := ⟨by rw [h.2.1]; omega, h.2.2.1 hk⟩
theorem cz_s0 (hk : (s.1 118 k).toInt = 0) : cz (s.1 118) (k + 1) = cz (s.1 118) k + 1 := by
  show cz (s.1 118) k + (if (s.1 118 k).toInt = 0 then 1 else 0) = _
  rw [if_pos hk]
theorem cz_s1 (hk : (s.1 118 k).toInt ≠ 0) : cz (s.1 118) (k + 1) = cz (s.1 118) k := by
  show cz (s.1 118) k + (if (s.1 118 k).toInt = 0 then 1 else 0) = _
  rw [if_neg hk, Nat.add_zero]
theorem ap_same (h : AQ s k g) (hk : (s.1 118 k).toInt ≠ 0) (e0 : t.1 110 = s.1 110) (e2 : t.1 112 = s.1 112) (e3 : t.1 113 = s.1 113) (e4 : t.1 114 = s.1 114) : AP s t k g := by
  unfold AP
  rw [e0, e2, e3, e4, cz_s1 hk]
  exact ⟨h.2.1, fun _ _ => rfl, fun h => h, fun _ _ => ⟨rfl, rfl, rfl⟩⟩
theorem ap_node (h : AQ s k g) (hk : (s.1 118 k).toInt = 0) (e0 : t.1 110 = upd (s.1 110) g v) (hv : v.toInt = (s.1 110 g).toInt + 1) (e2 : t.1 112 = s.1 112) (e3 : t.1 113 = s.1 113) (e4 : t.1 114 = s.1 114) : AP s t k g := by
  have hg : (upd (s.1 110) g v) g = v := by unfold upd; rw [if_pos rfl]
  unfold AP
  rw [e0, e2, e3, e4, cz_s0 hk, hg]
  refine ⟨by rw [hv, h.2.1]; omega, fun j hj => by unfold upd; rw [if_neg hj], fun hE a ha h1 => ?_, fun _ _ => ⟨rfl, rfl, rfl⟩⟩
  rw [hg]
  obtain ⟨p1, p2⟩ := hE a ha h1
  omega
theorem ap_take {i : Nat} (h : AQ s k g) (hk : (s.1 118 k).toInt ≠ 0) (e0 : t.1 110 = s.1 110) (e2 : t.1 112 = upd (s.1 112) i v) (hv : v.toInt = 0) (hi : 160 * g ≤ i ∧ i < 160 * g + 160) (e3 : t.1 113 = s.1 113) (e4 : t.1 114 = s.1 114) : AP s t k g := by
  unfold AP
  rw [e0, e2, e3, e4, cz_s1 hk]
  refine ⟨h.2.1, fun _ _ => rfl, fun hE a ha h1 => ?_, fun j hj => ⟨by unfold upd; rw [if_neg (by omega)], rfl, rfl⟩⟩
  unfold upd at h1
  by_cases e : 160 * g + a = i
  · rw [if_pos e] at h1; exact absurd hv h1
  · rw [if_neg e] at h1; exact hE a ha h1
theorem ap_arc {i : Nat} {b c d : Int32} (h : AQ s k g) (hk : (s.1 118 k).toInt = 1) (e0 : t.1 110 = s.1 110) (e2 : t.1 112 = upd (s.1 112) i b) (hi : 160 * g ≤ i ∧ i < 160 * g + 160) (e3 : t.1 113 = upd (s.1 113) i c) (e4 : t.1 114 = upd (s.1 114) i d) (hc : c = s.1 120 k) (hd : d = s.1 121 k) : AP s t k g := by
  obtain ⟨r1, r2, r3⟩ := h.1.2.1 hk
  unfold AP
  rw [e0, e2, e3, e4, cz_s1 (by omega)]
  refine ⟨h.2.1, fun _ _ => rfl, fun hE a ha h1 => ?_, fun j hj => ⟨by unfold upd; rw [if_neg (by omega)], by unfold upd; rw [if_neg (by omega)], by unfold upd; rw [if_neg (by omega)]⟩⟩
  unfold upd at h1 ⊢
  by_cases e : 160 * g + a = i
  · rw [if_pos e, if_pos e, hc, hd, h.2.1]; exact ⟨r1, r3⟩
  · rw [if_neg e] at h1; rw [if_neg e, if_neg e]; exact hE a ha h1
/-- what a change must be, of the newest graph -/
def MK (s : GS) (w a b c : Int32) : Prop := (w.toInt = 0 → a.toInt ≤ 25 ∧ (s.1 110 0).toInt ≤ 31) ∧ (w.toInt = 1 → b.toInt < (s.1 110 0).toInt ∧ 0 ≤ c.toInt ∧ c.toInt < (s.1 110 0).toInt) ∧ (w.toInt = 3 → b.toInt = 1 → 0 ≤ c.toInt) ∧ (w.toInt = 3 → b.toInt ≠ 0 → b.toInt ≠ 1 → 0 ≤ c.toInt ∧ c.toInt ≤ 25) ∧ (w.toInt = 4 → a.toInt < (s.1 110 0).toInt ∧ b.toInt ≤ 25)
/-- the row written, the rest as it was -/
theorem mk_aq {w a b c n : Int32} (hI : Inv s) (q : MK s w a b c) (hn : n = s.2.2.1 109 9) (h0 : t.1 110 = s.1 110) (hw : t.1 118 = upd (s.1 118) n.toNatClampNeg w) (ha : t.1 119 = upd (s.1 119) n.toNatClampNeg a) (hb : t.1 120 = upd (s.1 120) n.toNatClampNeg b) (hc : t.1 121 = upd (s.1 121) n.toNatClampNeg c) : AQ t n.toNatClampNeg 0 := by
  have hk := hI.2.2.2.2
  unfold KR at hk
  rw [mI_at rfl, mI_at rfl, mI_at rfl, mI_at rfl, mI_at rfl, mF_at rfl, ← hn] at hk
  obtain ⟨-, k2, ⟨k3, -⟩, -⟩ := hk
  have cw : cz (t.1 118) n.toNatClampNeg = cz (s.1 118) n.toNatClampNeg := cz_out (fun j hj => by rw [hw]; unfold upd; rw [if_neg (by omega)])
  have w1 : t.1 118 n.toNatClampNeg = w := by rw [hw]; unfold upd; rw [if_pos rfl]
  have a1 : t.1 119 n.toNatClampNeg = a := by rw [ha]; unfold upd; rw [if_pos rfl]
  have b1 : t.1 120 n.toNatClampNeg = b := by rw [hb]; unfold upd; rw [if_pos rfl]
  have c1 : t.1 121 n.toNatClampNeg = c := by rw [hc]; unfold upd; rw [if_pos rfl]
  have k2 : (s.1 110 0).toInt = (cz (s.1 118) n.toNatClampNeg : Int) := k2
  unfold AQ RW
  rw [w1, a1, b1, c1, cw, h0, ← k2]
  obtain ⟨q0, q1, q2, q3, q4⟩ := q
  exact ⟨⟨fun h => (q0 h).1, q1, q2, q3, q4⟩, rfl, fun h => (q0 h).2, k3.2⟩
/-- after a change -/
theorem mk_kr {u r : GS} {w a b c n m : Int32} (hI : Inv s) (hn : n = s.2.2.1 109 9) (hn4 : In n 0 3999) (hq : AQ t n.toNatClampNeg 0) (h0 : t.1 110 = s.1 110) (h2 : t.1 112 = s.1 112) (h3 : t.1 113 = s.1 113) (h4 : t.1 114 = s.1 114) (hw : t.1 118 = upd (s.1 118) n.toNatClampNeg w) (ha : t.1 119 = upd (s.1 119) n.toNatClampNeg a) (hb : t.1 120 = upd (s.1 120) n.toNatClampNeg b) (hc : t.1 121 = upd (s.1 121) n.toNatClampNeg c)
    (hp : AP t u n.toNatClampNeg 0) (u8 : u.1 118 = t.1 118) (u9 : u.1 119 = t.1 119) (u0 : u.1 120 = t.1 120) (u1 : u.1 121 = t.1 121) (r0 : r.1 = u.1) (rm : m = r.2.2.1 109 9) (hm : m.toInt = n.toInt + 1) (rl : (r.2.2.1 109 19).toInt = 160 * (r.2.2.1 109 18).toInt ∧ r.2.2.1 109 20 = r.1 110 (r.2.2.1 109 18).toNatClampNeg) : KR (mI r) (mF r) := by
  have hk := hI.2.2.2.2
  unfold KR at hk ⊢
  rw [mI_at rfl, mI_at rfl, mI_at rfl, mI_at rfl, mI_at rfl, mI_at rfl, mI_at rfl, mI_at rfl, mF_at rfl, mF_at rfl, mF_at rfl, mF_at rfl] at hk ⊢
  rw [← hn] at hk
  rw [← rm, r0]
  obtain ⟨k1, k2, ⟨k3, k4⟩, k5, k6, -⟩ := hk
  obtain ⟨p1, p2, p3, p4⟩ := hp
  obtain ⟨n1, n2⟩ := hn4
  have en : (n.toNatClampNeg : Int) = n.toInt := by show ((n.toInt.toNat : Nat) : Int) = n.toInt; omega
  have em : m.toInt.toNat = n.toNatClampNeg + 1 := by omega
  have cw : cz (t.1 118) n.toNatClampNeg = cz (s.1 118) n.toNatClampNeg := cz_out (fun j hj => by rw [hw]; unfold upd; rw [if_neg (by omega)])
  have hle : cz (t.1 118) (n.toNatClampNeg + 1) ≤ 32 := by
    show cz (t.1 118) n.toNatClampNeg + (if (t.1 118 n.toNatClampNeg).toInt = 0 then 1 else 0) ≤ 32
    by_cases e : (t.1 118 n.toNatClampNeg).toInt = 0
    · rw [if_pos e]
      have := hq.2.2.1 e
      have := hq.2.1
      omega
    · rw [if_neg e]
      have := hq.2.1
      have := hq.2.2.2
      omega
  refine ⟨fun j hj => ?_, ?_, ⟨?_, ?_⟩, p3 (by rw [h0, h2, h3, h4]; exact k5), ?_, rl.1, by rw [← r0]; exact rl.2⟩
  · rw [u8, u9, u0, u1]
    by_cases e : j = n.toNatClampNeg
    · rw [e]; exact hq.1
    · have hj2 := k1 j (by omega)
      have cj : cz (t.1 118) j = cz (s.1 118) j := cz_out (fun i hi => by rw [hw]; unfold upd; rw [if_neg (by omega)])
      unfold RW at hj2 ⊢
      rw [cj, hw, ha, hb, hc]
      unfold upd
      rw [if_neg e, if_neg e, if_neg e, if_neg e]
      exact hj2
  · rw [em, u8]; exact p1
  · exact ⟨by rw [p1]; omega, by rw [p1]; omega⟩
  · rw [p2 1 (by decide), h0]; exact k4
  · intro i hi h1
    obtain ⟨x1, x2, x3⟩ := p4 (160 * 1 + i) (Or.inr (by omega))
    rw [x1, h2] at h1
    rw [x2, x3, p2 1 (by decide), h0, h3, h4]
    exact k6 i hi h1
theorem kr_row (hI : Inv s) (hk : (k : Int) < (s.2.2.1 109 9).toInt) : RW (s.1 118) (s.1 119) (s.1 120) (s.1 121) k := by
  have h := hI.2.2.2.2.1 k
  rw [mI_at rfl, mI_at rfl, mI_at rfl, mI_at rfl, mF_at rfl] at h
  exact h hk
theorem kr_cz (hI : Inv s) (hk : (k : Int) ≤ (s.2.2.1 109 9).toInt) : (cz (s.1 118) k : Int) ≤ (s.1 110 0).toInt ∧ (s.1 110 0).toInt ≤ 32 := by
  have h := hI.2.2.2.2.2
  rw [mI_at rfl, mI_at rfl, mF_at rfl] at h
  have h1 := cz_mono (w := s.1 118) (show k ≤ (s.2.2.1 109 9).toInt.toNat by omega)
  exact ⟨by rw [h.1]; omega, h.2.1.1.2⟩
/-- while a version is made anew -/
theorem vw_aq {x : Int32} (hI : Inv s) (hx : In x 0 3999) (hc : x.toInt < (s.2.2.1 109 9).toInt) (e8 : t.1 118 = s.1 118) (e9 : t.1 119 = s.1 119) (e0 : t.1 120 = s.1 120) (e1 : t.1 121 = s.1 121) (hn : (t.1 110 1).toInt = (cz (s.1 118) x.toInt.toNat : Int)) : AQ t x.toNatClampNeg 1 := by
  obtain ⟨x1, x2⟩ := hx
  have hx : x.toNatClampNeg = x.toInt.toNat := rfl
  have a1 := kr_row hI (k := x.toNatClampNeg) (by omega)
  have a2 := kr_cz hI (k := x.toNatClampNeg) (by omega)
  have a3 := kr_cz hI (k := x.toNatClampNeg + 1) (by omega)
  unfold AQ
  rw [e8, e9, e0, e1, hn, hx]
  rw [hx] at a1 a2 a3
  refine ⟨a1, rfl, fun h => ?_, by omega⟩
  rw [cz_s0 h] at a3
  omega
theorem vw_kr {r : GS} {x : Int32} (hI : Inv s) (hx : In x 0 4000) (hc : x.toInt ≤ (s.2.2.1 109 9).toInt) (r8 : r.1 118 = s.1 118) (r9 : r.1 119 = s.1 119) (r0 : r.1 120 = s.1 120) (r1 : r.1 121 = s.1 121) (rc : r.2.2.1 109 9 = s.2.2.1 109 9) (hn : r.1 110 0 = s.1 110 0) (hn1 : (r.1 110 1).toInt = (cz (s.1 118) x.toInt.toNat : Int)) (hlow : ∀ i, i < 160 → r.1 112 i = s.1 112 i ∧ r.1 113 i = s.1 113 i ∧ r.1 114 i = s.1 114 i) (h1 : KE (r.1 112) (r.1 113) (r.1 114) (r.1 110) 1) (rl : (r.2.2.1 109 19).toInt = 160 * (r.2.2.1 109 18).toInt ∧ r.2.2.1 109 20 = r.1 110 (r.2.2.1 109 18).toNatClampNeg) : KR (mI r) (mF r) := by
  have hk := hI.2.2.2.2
  unfold KR at hk ⊢
  rw [mI_at rfl, mI_at rfl, mI_at rfl, mI_at rfl, mI_at rfl, mI_at rfl, mI_at rfl, mI_at rfl, mF_at rfl, mF_at rfl, mF_at rfl, mF_at rfl] at hk ⊢
  obtain ⟨k1, k2, ⟨k3, k4⟩, k5, k6, -⟩ := hk
  obtain ⟨x1, x2⟩ := hx
  have a2 := kr_cz hI (k := x.toInt.toNat) (by omega)
  rw [r8, r9, r0, r1, rc, hn]
  refine ⟨k1, k2, ⟨k3, ⟨by rw [hn1]; omega, by rw [hn1]; omega⟩⟩, fun i hi h => ?_, h1, rl⟩
  obtain ⟨l1, l2, l3⟩ := hlow (160 * 0 + i) (by omega)
  rw [l1] at h
  rw [l2, l3, hn]
  exact k5 i hi h
theorem kr_nn (hI : Inv s) : In (s.1 110 0) 0 32 ∧ In (s.1 110 1) 0 32 := by
  have hk := hI.2.2.2.2.2.2.1
  rw [mI_at rfl] at hk
  exact hk
theorem mk_nn {u : GS} (hI : Inv s) (hq : AQ t k 0) (hp : AP t u k 0) (h0 : t.1 110 = s.1 110) : In (u.1 110 0) 0 32 ∧ In (u.1 110 1) 0 32 := by
  refine ⟨?_, by rw [hp.2.1 1 (by decide), h0]; exact (kr_nn hI).2⟩
  have h1 := hq.2.1
  have h3 := hq.2.2.2
  have h4 := hp.1
  by_cases e : (t.1 118 k).toInt = 0
  · rw [cz_s0 e] at h4
    have := hq.2.2.1 e
    exact ⟨by omega, by omega⟩
  · rw [cz_s1 e] at h4
    exact ⟨by omega, by omega⟩
theorem vw_nn {x : Int32} (hI : Inv s) (hx : 0 ≤ x.toInt) (hc : x.toInt ≤ (s.2.2.1 109 9).toInt) (h0 : t.1 110 0 = s.1 110 0) (h1 : (t.1 110 1).toInt = (cz (s.1 118) x.toInt.toNat : Int)) : In (t.1 110 0) 0 32 ∧ In (t.1 110 1) 0 32 := by
  have a2 := kr_cz hI (k := x.toInt.toNat) (by omega)
  exact ⟨by rw [h0]; exact (kr_nn hI).1, ⟨by omega, by omega⟩⟩
theorem lk_kr {r : GS} (hI : Inv s) (r0 : r.1 = s.1) (rc : r.2.2.1 109 9 = s.2.2.1 109 9) (rl : (r.2.2.1 109 19).toInt = 160 * (r.2.2.1 109 18).toInt ∧ r.2.2.1 109 20 = r.1 110 (r.2.2.1 109 18).toNatClampNeg) : KR (mI r) (mF r) := by
  have hk := hI.2.2.2.2
  unfold KR at hk ⊢
  rw [mI_at rfl, mI_at rfl, mI_at rfl, mI_at rfl, mI_at rfl, mI_at rfl, mI_at rfl, mI_at rfl, mF_at rfl, mF_at rfl, mF_at rfl, mF_at rfl] at hk ⊢
  rw [rc, r0]
  obtain ⟨k1, k2, k3, k4, k5, -⟩ := hk
  exact ⟨k1, k2, k3, k4, k5, rl.1, by rw [← r0]; exact rl.2⟩
def kkok (L : FM) : Bool := krok L && ksok L && qG1 L 2 && qG2 L 2 && qG3 L 2 && qG4 L 2 && qG5 L 2 && qG1 L 32 && qG2 L 32 && qG3 L 32 && qG4 L 32 && qG5 L 32
theorem kk_all {L : FM} (h : KK (mI s) (mF s)) (hF : Fr L s t) (hk : kkok L = true) : KK (mI t) (mF t) := by
  unfold kkok at hk
  simp only [Bool.and_eq_true] at hk
  obtain ⟨⟨⟨⟨⟨⟨⟨⟨⟨⟨⟨a0, a1⟩, b1⟩, b2⟩, b3⟩, b4⟩, b5⟩, c1⟩, c2⟩, c3⟩, c4⟩, c5⟩ := hk
  exact ⟨kk_g h.1 hF b1 b2 b3 b4 b5, kk_g h.2.1 hF c1 c2 c3 c4 c5, kk_s h.2.2.1 hF a1, kk_r h.2.2.2 hF a0⟩
/-- the third graph, on trial: what is known speaks of the first two -/
theorem inv_n2 (h : Inv s) {j : Nat} (hj : 2 ≤ j) : Inv (sI s 110 j v) := by
  have hF : Fr ([110], [], [], []) s (sI s 110 j v) := fr_sI rfl fr_rf
  have hr : KR (mI (sI s 110 j v)) (mF (sI s 110 j v)) := by
    have hk := h.2.2.2.2
    have hg := h.1.2.1 109 18
    have hg : In (s.2.2.1 109 18) 0 1 := hg
    unfold KR KE at hk ⊢
    rw [mI_at rfl, mI_at rfl, mI_at rfl, mI_at rfl, mI_at rfl, mI_at rfl, mI_at rfl, mI_at rfl, mF_at rfl, mF_at rfl, mF_at rfl, mF_at rfl] at hk ⊢
    have e : ∀ i, i < 2 → (sI s 110 j v).1 110 i = s.1 110 i := fun i hi => by rw [sI_q]; unfold upd; rw [if_neg (by omega)]
    have eg : (s.2.2.1 109 18).toNatClampNeg < 2 := by
      show (s.2.2.1 109 18).toInt.toNat < 2
      obtain ⟨g1, g2⟩ := hg
      omega
    have e3 : (sI s 110 j v).1 110 ((sI s 110 j v).2.2.1 109 18).toNatClampNeg = s.1 110 (s.2.2.1 109 18).toNatClampNeg := e _ eg
    rw [e 0 (by decide), e 1 (by decide), e3]
    exact hk
  exact ⟨rng_sI h.1 rfl (i_rng v), kk_g h.2.1 hF rfl rfl rfl rfl rfl, kk_g h.2.2.1 hF rfl rfl rfl rfl rfl, kk_s h.2.2.2.1 hF rfl, hr⟩
theorem inv_t3 (h : Inv s) {j : Nat} (hj : 320 ≤ j) (hv : In v 0 1) : Inv (sI s 112 j v) := by
  have hF : Fr ([112], [], [], []) s (sI s 112 j v) := fr_sI rfl fr_rf
  have hr : KR (mI (sI s 112 j v)) (mF (sI s 112 j v)) := by
    have hk := h.2.2.2.2
    unfold KR KE at hk ⊢
    rw [mI_at rfl, mI_at rfl, mI_at rfl, mI_at rfl, mI_at rfl, mI_at rfl, mI_at rfl, mI_at rfl, mF_at rfl, mF_at rfl, mF_at rfl, mF_at rfl] at hk ⊢
    have e : ∀ i, i < 320 → (sI s 112 j v).1 112 i = s.1 112 i := fun i hi => by rw [sI_q]; unfold upd; rw [if_neg (by omega)]
    obtain ⟨k1, k2, k3, k4, k5, k6⟩ := hk
    refine ⟨k1, k2, k3, fun a ha h1 => ?_, fun a ha h1 => ?_, k6⟩
    · rw [e _ (by omega)] at h1; exact k4 a ha h1
    · rw [e _ (by omega)] at h1; exact k5 a ha h1
  exact ⟨rng_sI h.1 rfl hv, kk_g h.2.1 hF rfl rfl rfl rfl rfl, kk_g h.2.2.1 hF rfl rfl rfl rfl rfl, kk_s h.2.2.2.1 hF rfl, hr⟩
/-- an arc that is there: its ends are nodes of the graph that is looked at -/
theorem ke_n (hI : Inv s) {i : Nat} (h1 : (s.2.2.1 109 19).toInt ≤ (i : Int)) (h2 : (i : Int) < (s.2.2.1 109 19).toInt + 160) (ht : (s.1 112 i).toInt ≠ 0) : (s.1 113 i).toInt < (s.2.2.1 109 20).toInt ∧ (s.1 114 i).toInt < (s.2.2.1 109 20).toInt := by
  have hk := hI.2.2.2.2
  have hg := hI.1.2.1 109 18
  have hg : In (s.2.2.1 109 18) 0 1 := hg
  unfold KR KE at hk
  rw [mI_at rfl, mI_at rfl, mI_at rfl, mI_at rfl, mI_at rfl, mI_at rfl, mI_at rfl, mI_at rfl, mF_at rfl, mF_at rfl, mF_at rfl, mF_at rfl] at hk
  obtain ⟨-, -, -, k4, k5, k6, k7⟩ := hk
  obtain ⟨g1, g2⟩ := hg
  rw [k7]
  by_cases e : (s.2.2.1 109 18).toInt = 0
  · have e2 : (s.2.2.1 109 18).toNatClampNeg = 0 := by show (s.2.2.1 109 18).toInt.toNat = 0; omega
    rw [e2]
    have h := k4 i (by omega)
    rw [show 160 * 0 + i = i by omega] at h
    exact h ht
  · have e2 : (s.2.2.1 109 18).toNatClampNeg = 1 := by show (s.2.2.1 109 18).toInt.toNat = 1; omega
    rw [e2]
    have h := k5 (i - 160) (by omega)
    rw [show 160 * 1 + (i - 160) = i by omega] at h
    exact h ht
/-- of nodes in groups: how many are in one of the first -/
def cgr (f : Nat → Int32) (k : Int) : Nat := cbf (fun v => decide (0 ≤ (f v).toInt ∧ (f v).toInt < k)) 32
theorem cgr_s {f : Nat → Int32} {x y : Int32} (h0 : 0 ≤ x.toInt) (hy : y.toInt = x.toInt + 1) (hv : ∃ v : Nat, v < 32 ∧ f v = x) (h : x.toInt ≤ (cgr f x.toInt : Int)) : y.toInt ≤ (cgr f y.toInt : Int) := by
  obtain ⟨v, v1, v2⟩ := hv
  have h1 := cbf_clr (f := fun w => decide (0 ≤ (f w).toInt ∧ (f w).toInt < y.toInt)) (g := fun w => decide (0 ≤ (f w).toInt ∧ (f w).toInt < y.toInt) && !(decide (w = v))) (u := v) (by simp [v2]; omega) (by simp) v1 (fun w _ hne => by simp [hne])
  have h2 : cgr f x.toInt ≤ cbf (fun w => decide (0 ≤ (f w).toInt ∧ (f w).toInt < y.toInt) && !(decide (w = v))) 32 := cbf_mono fun w _ hw => by
    have hw := of_decide_eq_true hw
    have hne : w ≠ v := fun e => by rw [e, v2] at hw; omega
    simp [hne]
    omega
  have h3 : cgr f y.toInt = cbf (fun w => decide (0 ≤ (f w).toInt ∧ (f w).toInt < y.toInt)) 32 := rfl
  omega
theorem cgr_le (f : Nat → Int32) (k : Int) : cgr f k ≤ 32 := cbf_le _ 32
end REF
