/-! COMMANDS AS THE REFERENCE READS THEM -/
theorem shk {c : Int} {k : Int} (hc : cmI c) (h0 : 0 ≤ k) (hk : k ≤ (cmA c : Int)) : cmK c (k.toNat + 1) = (if c = 13 then (if k = 0 then 1 else 3) else if c = 0 then (if k < 4 then 2 else if k = 4 then 1 else 3) else if c = 19 then (if k < 1 then 2 else 3) else (if k < 2 then 2 else 3)) := by
  obtain ⟨j, rfl⟩ : ∃ j : Nat, k = (j : Int) := ⟨k.toNat, by omega⟩
  have e : ((j : Int)).toNat = j := Int.toNat_natCast j
  rw [e]
  rcases hc with h | h | h | h
  · rw [h] at hk ⊢
    have hj : j < 2 := by have : (cmA 13 : Int) = 1 := rfl; omega
    exact (by decide : ∀ j, j < 2 → cmK 13 (j + 1) = (if (13 : Int) = 13 then (if (j : Int) = 0 then 1 else 3) else if (13 : Int) = 0 then (if (j : Int) < 4 then 2 else if (j : Int) = 4 then 1 else 3) else if (13 : Int) = 19 then (if (j : Int) < 1 then 2 else 3) else (if (j : Int) < 2 then 2 else 3))) j hj
  · rw [h] at hk ⊢
    have hj : j < 6 := by have : (cmA 0 : Int) = 5 := rfl; omega
    exact (by decide : ∀ j, j < 6 → cmK 0 (j + 1) = (if (0 : Int) = 13 then (if (j : Int) = 0 then 1 else 3) else if (0 : Int) = 0 then (if (j : Int) < 4 then 2 else if (j : Int) = 4 then 1 else 3) else if (0 : Int) = 19 then (if (j : Int) < 1 then 2 else 3) else (if (j : Int) < 2 then 2 else 3))) j hj
  · rw [h] at hk ⊢
    have hj : j < 2 := by have : (cmA 19 : Int) = 1 := rfl; omega
    exact (by decide : ∀ j, j < 2 → cmK 19 (j + 1) = (if (19 : Int) = 13 then (if (j : Int) = 0 then 1 else 3) else if (19 : Int) = 0 then (if (j : Int) < 4 then 2 else if (j : Int) = 4 then 1 else 3) else if (19 : Int) = 19 then (if (j : Int) < 1 then 2 else 3) else (if (j : Int) < 2 then 2 else 3))) j hj
  · rw [h] at hk ⊢
    have hj : j < 3 := by have : (cmA 22 : Int) = 2 := rfl; omega
    exact (by decide : ∀ j, j < 3 → cmK 22 (j + 1) = (if (22 : Int) = 13 then (if (j : Int) = 0 then 1 else 3) else if (22 : Int) = 0 then (if (j : Int) < 4 then 2 else if (j : Int) = 4 then 1 else 3) else if (22 : Int) = 19 then (if (j : Int) < 1 then 2 else 3) else (if (j : Int) < 2 then 2 else 3))) j hj
theorem cmK_r {c : Int} {i : Nat} : 1 ≤ cmK c i ∧ cmK c i ≤ 3 ∧ (i ≤ cmA c → cmK c i ≠ 3) ∧ (i = cmA c + 1 → cmK c i = 3) := by
  unfold cmK
  by_cases h : i = cmA c + 1
  · rw [if_pos h]; exact ⟨by decide, by decide, fun h2 => by omega, fun _ => rfl⟩
  · rw [if_neg h]
    by_cases g : (c = 13 ∧ i = 1) ∨ (c = 0 ∧ i = 5)
    · rw [if_pos g]; exact ⟨by decide, by decide, fun _ => by decide, fun h2 => absurd h2 h⟩
    · rw [if_neg g]; exact ⟨by decide, by decide, fun _ => by decide, fun h2 => absurd h2 h⟩
def C4 (x : Int) : Prop := x = 110 ∨ x = 97 ∨ x = 116 ∨ x = 119
theorem c4_i {x : Int} (h : C4 x) : cmI (x - 97) := by
  rcases h with h | h | h | h
  · exact Or.inl (by omega)
  · exact Or.inr (Or.inl (by omega))
  · exact Or.inr (Or.inr (Or.inl (by omega)))
  · exact Or.inr (Or.inr (Or.inr (by omega)))
/-- what a call answers says whether P; what shape says -/
def YNQ (r : Int) (P : Prop) : Prop := (r ≠ 0 → P) ∧ (r = 0 → ¬ P)
def SHK (c k r : Int) : Prop := cmI c → k ≤ (cmA c : Int) → r = cmK c (k.toNat + 1)
/-- i things of the command c have been read -/
def CST (T : Nat → Int32) (n a : Nat) (c : Int) (i : Nat) (W : Nat → Int) (e : Nat) : Prop := (∀ j, j < i → ∃ q f, TSQ T n a (j + 1) q f (cmK c (j + 1)) (W j)) ∧ ∃ p k v, TSQ T n a i p e k v
/-- and the semicolon -/
def CSE (T : Nat → Int32) (n a : Nat) (c : Int) (W : Nat → Int) (e : Nat) : Prop := (∀ j, j < cmA c → ∃ q f, TSQ T n a (j + 1) q f (cmK c (j + 1)) (W j)) ∧ ∃ q v, TSQ T n a (cmA c + 1) q e 3 v
section CS
variable {T : Nat → Int32} {n a e p e2 : Nat} {c k v : Int} {i : Nat} {W : Nat → Int}
theorem cst_0 {p0 : Nat} (h : TSQ T n a 0 p0 e 1 c) : CST T n a c 0 W e := ⟨fun j hj => absurd hj (Nat.not_lt_zero _), p0, 1, c, h⟩
theorem cs_bad {p0 e0 : Nat} (hc : cmI c) (h0 : TSQ T n a 0 p0 e0 1 c) (hi : i ≤ cmA c) (h : CST T n a c i W e) (ht : TKN T n e p e2 k v) (hk : k ≠ cmK c (i + 1)) : CMX T n a (cmF k) p := by
  obtain ⟨h1, p1, k1, v1, h2⟩ := h
  exact Or.inr ⟨c, p0, e0, hc, h0, i, hi, fun j hj => by
    obtain ⟨q, f, h3⟩ := h1 j hj
    exact ⟨q, f, _, h3⟩, e2, k, v, ⟨p1, e, k1, v1, h2, ht⟩, hk, rfl⟩
theorem cs_more {W2 : Nat → Int} (h : CST T n a c i W e) (ht : TKN T n e p e2 k v) (hk : k = cmK c (i + 1)) (hW : ∀ j, j < i → W2 j = W j) (hv : W2 i = v) : CST T n a c (i + 1) W2 e2 := by
  obtain ⟨h1, p1, k1, v1, h2⟩ := h
  have hn : TSQ T n a (i + 1) p e2 k v := ⟨p1, e, k1, v1, h2, ht⟩
  refine ⟨fun j hj => ?_, p, k, v, hn⟩
  by_cases g : j = i
  · rw [g, hv, ← hk]; exact ⟨_, _, hn⟩
  · rw [hW j (by omega)]; exact h1 j (by omega)
theorem cs_end (hi : i = cmA c) (h : CST T n a c i W e) (ht : TKN T n e p e2 k v) (hk : k = 3) : CSE T n a c W e2 := by
  obtain ⟨h1, p1, k1, v1, h2⟩ := h
  rw [hi] at h1 h2
  refine ⟨h1, p, v, p1, e, k1, v1, h2, ?_⟩
  rw [← hk]; exact ht
theorem cst_cg {W2 : Nat → Int} (h : CST T n a c i W e) (hW : ∀ j, j < i → W2 j = W j) : CST T n a c i W2 e := ⟨fun j hj => by rw [hW j hj]; exact h.1 j hj, h.2⟩
theorem cse_cg {W2 : Nat → Int} (h : CSE T n a c W e) (hW : ∀ j, j < cmA c → W2 j = W j) : CSE T n a c W2 e := ⟨fun j hj => by rw [hW j hj]; exact h.1 j hj, h.2⟩
theorem cs_cmp {p0 e0 : Nat} (hc : cmI c) (h0 : TSQ T n a 0 p0 e0 1 c) (h : CSE T n a c W e) : CMP T n a p0 c W e := ⟨hc, ⟨e0, h0⟩, h.1, h.2⟩
end CS
/-- which kind the reference's token has, by its fields -/
def NTV (s : GS) (k v : Int) : Prop := (k = 0 → (s.2.2.1 109 28).toInt = 0) ∧ (k = 1 → (s.2.2.1 109 28).toInt = 1 ∧ (s.2.2.1 109 30).toInt = v + 97) ∧ (k = 2 → (s.2.2.1 109 28).toInt = 2 ∧ (s.2.2.2.1 109 31).toInt = v) ∧ (k = 3 → (s.2.2.1 109 28).toInt = 3 ∧ (s.2.2.1 109 30).toInt = 59) ∧ k ≠ 4 ∧ k ≠ 5
theorem ntk_f {s t : GS} {k v : Int} (h : NTK s t k v) (h0 : (s.2.2.1 109 23).toInt = 0) : ((t.2.2.1 109 23).toInt ≠ 0 → (t.2.2.1 109 23).toInt = cmF k ∧ (t.2.2.1 109 24).toInt = (t.2.2.1 109 29).toInt ∧ 4 ≤ k) ∧ ((t.2.2.1 109 23).toInt = 0 → NTV t k v) := by
  obtain ⟨n0, n1, n2, n3, n4, n5, n6⟩ := h
  by_cases k4 : k = 4
  · have b := (n4 k4).2.2.1 h0
    have e : cmF k = 1 := by rw [k4]; rfl
    exact ⟨fun _ => ⟨by rw [b.1, e], b.2, by omega⟩, fun z => by rw [b.1] at z; exact absurd z (by decide)⟩
  · by_cases k5 : k = 5
    · have b := (n5 k5).2.1 h0
      have e : cmF k = 3 := by rw [k5]; rfl
      exact ⟨fun _ => ⟨by rw [b.1, e], b.2, by omega⟩, fun z => by rw [b.1] at z; exact absurd z (by decide)⟩
    · have f := n6 k4 k5
      exact ⟨fun z => by rw [f.1] at z; exact absurd h0 z, fun _ => ⟨n0, n1, n2, n3, k4, k5⟩⟩
theorem ntv_t {s : GS} {k v : Int} (h : NTV s k v) (h0 : 0 ≤ k) (h5 : k ≤ 5) : (s.2.2.1 109 28).toInt = k := by
  obtain ⟨n0, n1, n2, n3, n4, n5⟩ := h
  by_cases a : k = 0
  · rw [n0 a, a]
  · by_cases b : k = 1
    · rw [(n1 b).1, b]
    · by_cases c : k = 2
      · rw [(n2 c).1, c]
      · rw [(n3 (by omega)).1]; omega
theorem tkn_v2 {T : Nat → Int32} {n a p e : Nat} {k v : Int} (h : TKN T n a p e k v) (hk : k = 2) : -9999999 ≤ v ∧ v ≤ 9999999 := by
  rcases h.2 with ⟨h1, h2, h3⟩ | ⟨h1, h2, h3, h4, h5⟩ | ⟨q, h1, h2, h3⟩ | ⟨h1, h2, h3, h4, h5⟩ | ⟨h1, h2, h3, h4, h5, h6⟩
  · omega
  · omega
  · rcases h3 with ⟨a1, a2, a3⟩ | ⟨a1, a2⟩
    · obtain ⟨g1, g2, g3, g4⟩ := h2
      have b := tkN_7 a1 (fun i x y => g3 i x (by omega))
      by_cases c : q = p
      · rw [if_pos c] at a3; omega
      · rw [if_neg c] at a3; omega
    · omega
  · omega
  · omega
theorem l2i_v {x : Int64} {z : Int32} (e : z = x.toInt32) (h : -9999999 ≤ x.toInt ∧ x.toInt ≤ 9999999) : z.toInt = x.toInt := by
  rw [e, Int64.toInt_toInt32]
  exact Int.bmod_eq_of_le (by omega) (by omega)
/-- the copy that the reference tries commands on is like g -/
def SIM (s : GS) (g : GVW) : Prop := (s.1 110 2).toInt = g.2.2.2.2.2.2.1 ∧ (∀ i, i < 160 → thg s 320 i = ctg g.2.1 i) ∧ (s.2.2.1 109 9).toInt + (s.2.2.1 109 32).toInt = g.2.2.2.2.2.2.2
section SIM
variable {s t : GS} {g : GVW} {c : Int} {m : Nat} {V : Nat → Int}
theorem sim_t (h : SIM s g) {x : Int32} (h0 : 0 ≤ x.toInt) (h1 : x.toInt ≤ 159) : (thg s 320 x.toNatClampNeg = true) ↔ (g.2.1 x.toInt.toNat).toInt ≠ -1 := by
  have e := h.2.1 x.toNatClampNeg (by show x.toInt.toNat < 160; omega)
  rw [e]
  unfold ctg
  exact decide_eq_true_iff
theorem sim_f (h : SIM s g) : fpl (thg s 320) = fpl (ctg g.2.1) := fpl_cg h.2.1
/-- what the reference tries is what can be done -/
theorem don_dk (h : SIM s g) (hv : g.2.2.2.2.2.2.2 ≤ 3999) (hc : cmI c) (hV : ∀ j, j < cmA c → V j = (s.1 128 (m + j)).toInt) (hd : DON s (c + 97) m) : dkC g c V := by
  obtain ⟨d1, d2, d3, d4⟩ := hd
  rcases hc with e | e | e | e
  · refine dk_13 e hv ?_
    rw [← h.1]
    exact d1 (by omega)
  · have hA : cmA c = 5 := by rw [e]; rfl
    rw [hA] at hV
    obtain ⟨a1, a2, a3, a4, a5⟩ := d2 (by omega)
    unfold nq at a2 a3 a4 a5
    refine dk_0 e hv ?_
    rw [hV 0 (by omega), hV 1 (by omega), hV 2 (by omega), hV 3 (by omega), ← h.1, ← sim_f h]
    exact ⟨⟨a2.1, by have := a2.2; simp only [Nat.add_zero] at *; omega⟩, ⟨a3.1, by have := a3.2; omega⟩, a4, a5, a1⟩
  · have hA : cmA c = 1 := by rw [e]; rfl
    rw [hA] at hV
    obtain ⟨a1, a2⟩ := d3 (Or.inl (by omega))
    unfold nq at a1
    refine dk_19 e hv ?_
    rw [hV 0 (by omega)]
    exact ⟨a1.1, a1.2, (sim_t h a1.1 a1.2).mp a2⟩
  · have hA : cmA c = 2 := by rw [e]; rfl
    rw [hA] at hV
    obtain ⟨a1, a2⟩ := d3 (Or.inr (by omega))
    have a3 := d4 (by omega)
    unfold nq at a1 a3
    refine dk_22 e hv ?_ ?_
    · rw [hV 0 (by omega)]
      exact ⟨a1.1, a1.2, (sim_t h a1.1 a1.2).mp a2⟩
    · rw [hV 1 (by omega)]
      exact a3
theorem dk_don (h : SIM s g) (hc : cmI c) (hV : ∀ j, j < cmA c → V j = (s.1 128 (m + j)).toInt) (hd : dkC g c V) : DON s (c + 97) m := by
  obtain ⟨-, d2, d3, d4, d5⟩ := hd
  rcases hc with e | e | e | e
  · refine don_110 (by omega) ?_
    rw [h.1]
    exact d2 e
  · have hA : cmA c = 5 := by rw [e]; rfl
    rw [hA] at hV
    have a := d3 e
    rw [hV 0 (by omega), hV 1 (by omega), hV 2 (by omega), hV 3 (by omega), ← h.1, ← sim_f h] at a
    obtain ⟨a1, a2, a3, a4, a5⟩ := a
    refine don_97 (by omega) ⟨a5, ?_, ?_, a3, a4⟩
    · unfold nq
      have q1 := a1.1
      have q2 := a1.2
      simp only [Nat.add_zero] at q1 q2
      exact ⟨q1, by omega⟩
    · unfold nq
      have q1 := a2.1
      have q2 := a2.2
      exact ⟨q1, by omega⟩
  · have hA : cmA c = 1 := by rw [e]; rfl
    rw [hA] at hV
    have a := d4 e
    rw [hV 0 (by omega)] at a
    exact don_116 (by omega) ⟨⟨a.1, a.2.1⟩, (sim_t h a.1 a.2.1).mpr a.2.2⟩
  · have hA : cmA c = 2 := by rw [e]; rfl
    rw [hA] at hV
    have a := d5 e
    rw [hV 0 (by omega), hV 1 (by omega)] at a
    exact don_119 (by omega) ⟨⟨a.1.1, a.1.2.1⟩, (sim_t h a.1.1 a.1.2.1).mpr a.1.2.2⟩ a.2
theorem ctg_u {f : Nat → Int32} {p : Nat} {x : Int32} {b : Nat → Bool} (h : ∀ i, i < 160 → b i = ctg f i) : ∀ i, i < 160 → ubq b p (decide (x.toInt ≠ -1)) i = ctg (upd f p x) i := by
  intro i hi
  unfold ubq ctg
  by_cases e : i = p
  · rw [if_pos e, e, ug_at]
  · rw [if_neg e, ug_ne e]
    exact h i hi
/-- and does to its copy -/
theorem sdn_sim (h : SIM s g) (hc : cmI c) (hV : ∀ j, j < cmA c → V j = (s.1 128 (m + j)).toInt) (hd : DON s (c + 97) m) (hs : SDN s t (c + 97) m) (hk : (t.2.2.1 109 9).toInt + (t.2.2.1 109 32).toInt = (s.2.2.1 109 9).toInt + (s.2.2.1 109 32).toInt + 1) : SIM t (opC g c V) := by
  obtain ⟨s1, s2, s3, s4⟩ := hs
  obtain ⟨h1, h2, h3⟩ := h
  unfold opC
  rcases hc with e | e | e | e
  · rw [if_pos e]
    obtain ⟨a1, a2, a3⟩ := s1 (by omega)
    exact ⟨by rw [a1, h1]; rfl, fun i hi => by rw [a3]; exact h2 i hi, by rw [hk, h3]; rfl⟩
  · have hA : cmA c = 5 := by rw [e]; rfl
    rw [hA] at hV
    rw [if_neg (by omega), if_pos e]
    obtain ⟨a1, a2, a3, -, -, -, a7⟩ := s2 (by omega)
    have x0 : (Int32.ofInt (V 0)).toInt ≠ -1 := by
      rw [hV 0 (by omega), Int32.ofInt_toInt]
      have := a3.1
      simp only [Nat.add_zero]
      omega
    refine ⟨by rw [a1, h1]; rfl, fun i hi => ?_, by rw [hk, h3]; rfl⟩
    rw [a7, sim_f ⟨h1, h2, h3⟩]
    have u := ctg_u (p := fpl (ctg g.2.1)) (x := Int32.ofInt (V 0)) h2 i hi
    rw [decide_eq_true x0] at u
    exact u
  · have hA : cmA c = 1 := by rw [e]; rfl
    rw [hA] at hV
    rw [if_neg (by omega), if_neg (by omega), if_pos e]
    obtain ⟨a1, a2, a3⟩ := s3 (by omega)
    refine ⟨by rw [a1, h1]; rfl, fun i hi => ?_, by rw [hk, h3]; rfl⟩
    rw [a3]
    have u := ctg_u (p := (s.1 128 m).toNatClampNeg) (x := Int32.ofInt (-1)) h2 i hi
    rw [show decide ((Int32.ofInt (-1)).toInt ≠ -1) = false from rfl] at u
    rw [hV 0 (by omega)]
    exact u
  · have hA : cmA c = 2 := by rw [e]; rfl
    rw [hA] at hV
    rw [if_neg (by omega), if_neg (by omega), if_neg (by omega)]
    obtain ⟨a1, -, -, a4⟩ := s4 (by omega) (by omega) (by omega)
    exact ⟨by rw [a1, h1]; rfl, fun i hi => by rw [a4]; exact h2 i hi, by rw [hk, h3]; rfl⟩
end SIM
/-! command of the reference: its loop, its end -/
def HQ5 (s t : GS) (c : Int) (k m : Int32) (e : Nat) : Prop := (t.2.2.1 109 23).toInt = 0 → m.toInt ≠ 0 → k.toInt ≤ (cmA c : Int) ∧ ∀ a : Nat, TKN (s.1 125) (s.2.2.1 109 22).toInt.toNat a (s.2.2.1 109 29).toInt.toNat (s.2.2.1 109 27).toInt.toNat 1 c → CST (s.1 125) (s.2.2.1 109 22).toInt.toNat a c k.toInt.toNat (fun j => (t.1 128 (5 * (s.2.2.1 109 32).toNatClampNeg + j)).toInt) e
def HQ6 (s t : GS) (c : Int) (m : Int32) (e : Nat) : Prop := (t.2.2.1 109 23).toInt = 0 → m.toInt = 0 → ∀ a : Nat, TKN (s.1 125) (s.2.2.1 109 22).toInt.toNat a (s.2.2.1 109 29).toInt.toNat (s.2.2.1 109 27).toInt.toNat 1 c → CSE (s.1 125) (s.2.2.1 109 22).toInt.toNat a c (fun j => (t.1 128 (5 * (s.2.2.1 109 32).toNatClampNeg + j)).toInt) e
def HQ7 (s t : GS) (c : Int) : Prop := (t.2.2.1 109 23).toInt ≠ 0 → 0 ≤ (t.2.2.1 109 24).toInt ∧ ∀ a : Nat, TKN (s.1 125) (s.2.2.1 109 22).toInt.toNat a (s.2.2.1 109 29).toInt.toNat (s.2.2.1 109 27).toInt.toNat 1 c → CMX (s.1 125) (s.2.2.1 109 22).toInt.toNat a (t.2.2.1 109 23).toInt (t.2.2.1 109 24).toInt.toNat
/-- what command does, from a place a whose token has been read -/
def RCM (s t : GS) : Prop := ∀ (a : Nat) (k v : Int), TKN (s.1 125) (s.2.2.1 109 22).toInt.toNat a (s.2.2.1 109 29).toInt.toNat (s.2.2.1 109 27).toInt.toNat k v → NTV s k v → k ≠ 0 →
  ((t.2.2.1 109 23).toInt = 0 → (t.2.2.1 109 32).toInt = (s.2.2.1 109 32).toInt + 1 ∧ ∃ c V, CMP (s.1 125) (s.2.2.1 109 22).toInt.toNat a (s.2.2.1 109 29).toInt.toNat c V (t.2.2.1 109 27).toInt.toNat ∧ (t.1 127 (s.2.2.1 109 32).toNatClampNeg).toInt = c + 97 ∧ (∀ i, i < cmA c → (t.1 128 (5 * (s.2.2.1 109 32).toNatClampNeg + i)).toInt = V i) ∧ (∀ j, j < (s.2.2.1 109 32).toNatClampNeg → t.1 127 j = s.1 127 j) ∧ (∀ j, j < 5 * (s.2.2.1 109 32).toNatClampNeg → t.1 128 j = s.1 128 j) ∧ ∀ g, SIM s g → dkC g c V ∧ SIM t (opC g c V)) ∧
  ((t.2.2.1 109 23).toInt ≠ 0 → 0 ≤ (t.2.2.1 109 24).toInt ∧ (CMX (s.1 125) (s.2.2.1 109 22).toInt.toNat a (t.2.2.1 109 23).toInt (t.2.2.1 109 24).toInt.toNat ∨ ∃ c V e, CMP (s.1 125) (s.2.2.1 109 22).toInt.toNat a (t.2.2.1 109 24).toInt.toNat c V e ∧ (∀ g, SIM s g → ¬ dkC g c V) ∧ (t.2.2.1 109 23).toInt = 4))
section RCM
variable {s t : GS} {c : Int} {W : Nat → Int} {e : Nat}
theorem rcm_in {a : Nat} {k v : Int} (h : TKN (s.1 125) (s.2.2.1 109 22).toInt.toNat a (s.2.2.1 109 29).toInt.toNat (s.2.2.1 109 27).toInt.toNat k v) (hn : NTV s k v) (h1 : (s.2.2.1 109 28).toInt = 1) (h2 : (s.2.2.1 109 30).toInt = c + 97) : TKN (s.1 125) (s.2.2.1 109 22).toInt.toNat a (s.2.2.1 109 29).toInt.toNat (s.2.2.1 109 27).toInt.toNat 1 c := by
  have r := tkn_e h
  have ek := ntv_t hn r.2.2.2.2.1 r.2.2.2.2.2
  rw [h1] at ek
  have ev := (hn.2.1 ek.symm).2
  rw [h2] at ev
  have e1 : v = c := by omega
  rw [← e1, ek]
  exact h
theorem rcm_48 (p48 : FBL s t 2 (s.2.2.1 109 29).toInt) (h0 : (s.2.2.1 109 23).toInt = 0) (hp : 0 ≤ (s.2.2.1 109 29).toInt) (hn : ¬ ((s.2.2.1 109 28).toInt = 1 ∧ C4 (s.2.2.1 109 30).toInt)) : RCM s t := by
  intro a k v h hv hk
  have b := p48.1 h0
  have r := tkn_e h
  have ek := ntv_t hv r.2.2.2.2.1 r.2.2.2.2.2
  refine ⟨fun z => by rw [b.1] at z; exact absurd z (by decide), fun _ => ⟨by rw [b.2]; exact hp, Or.inl ?_⟩⟩
  rw [b.1, b.2]
  refine Or.inl ⟨_, k, v, h, hk, fun z => hn ?_, ?_⟩
  · refine ⟨by rw [ek]; exact z.1, ?_⟩
    have ev := (hv.2.1 z.1).2
    rw [ev]
    rcases z.2 with q | q | q | q
    · exact Or.inl (by omega)
    · exact Or.inr (Or.inl (by omega))
    · exact Or.inr (Or.inr (Or.inl (by omega)))
    · exact Or.inr (Or.inr (Or.inr (by omega)))
  · unfold cmF
    rw [if_neg hv.2.2.2.2.1, if_neg hv.2.2.2.2.2]
theorem rcm_x (h1 : (s.2.2.1 109 28).toInt = 1) (h2 : (s.2.2.1 109 30).toInt = c + 97) (h7 : HQ7 s t c) (hf : (t.2.2.1 109 23).toInt ≠ 0) : RCM s t := by
  intro a k v h hv hk
  exact ⟨fun z => absurd z hf, fun z => ⟨(h7 z).1, Or.inl ((h7 z).2 a (rcm_in h hv h1 h2))⟩⟩
theorem rcm_4 (h1 : (s.2.2.1 109 28).toInt = 1) (h2 : (s.2.2.1 109 30).toInt = c + 97) (hc : cmI c) (hE : ∀ a : Nat, TKN (s.1 125) (s.2.2.1 109 22).toInt.toNat a (s.2.2.1 109 29).toInt.toNat (s.2.2.1 109 27).toInt.toNat 1 c → CSE (s.1 125) (s.2.2.1 109 22).toInt.toNat a c W e) (hn : ∀ g, SIM s g → ¬ dkC g c W) (hf : (t.2.2.1 109 23).toInt = 4) (hp : (t.2.2.1 109 24).toInt = (s.2.2.1 109 29).toInt) (h0 : 0 ≤ (s.2.2.1 109 29).toInt) : RCM s t := by
  intro a k v h hv hk
  have hi := rcm_in h hv h1 h2
  refine ⟨fun z => by rw [hf] at z; exact absurd z (by decide), fun _ => ⟨by rw [hp]; exact h0, Or.inr ⟨c, W, e, ?_, hn, hf⟩⟩⟩
  rw [hp]
  exact cs_cmp hc hi (hE a hi)
theorem rcm_0 (h1 : (s.2.2.1 109 28).toInt = 1) (h2 : (s.2.2.1 109 30).toInt = c + 97) (hc : cmI c) (hE : ∀ a : Nat, TKN (s.1 125) (s.2.2.1 109 22).toInt.toNat a (s.2.2.1 109 29).toInt.toNat (s.2.2.1 109 27).toInt.toNat 1 c → CSE (s.1 125) (s.2.2.1 109 22).toInt.toNat a c W e) (hf : (t.2.2.1 109 23).toInt = 0) (hm : (t.2.2.1 109 32).toInt = (s.2.2.1 109 32).toInt + 1) (he : (t.2.2.1 109 27).toInt.toNat = e) (hw : (t.1 127 (s.2.2.1 109 32).toNatClampNeg).toInt = c + 97) (hV : ∀ i, i < cmA c → (t.1 128 (5 * (s.2.2.1 109 32).toNatClampNeg + i)).toInt = W i) (k7 : ∀ j, j < (s.2.2.1 109 32).toNatClampNeg → t.1 127 j = s.1 127 j) (k8 : ∀ j, j < 5 * (s.2.2.1 109 32).toNatClampNeg → t.1 128 j = s.1 128 j) (hs : ∀ g, SIM s g → dkC g c W ∧ SIM t (opC g c W)) : RCM s t := by
  intro a k v h hv hk
  have hi := rcm_in h hv h1 h2
  refine ⟨fun _ => ⟨hm, c, W, ?_, hw, hV, k7, k8, hs⟩, fun z => absurd hf z⟩
  rw [he]
  exact cs_cmp hc hi (hE a hi)
theorem sim_cg {g : GVW} (h : SIM s g) (h0 : t.1 110 = s.1 110) (h2 : t.1 112 = s.1 112) (h9 : t.2.2.1 109 9 = s.2.2.1 109 9) (hm : t.2.2.1 109 32 = s.2.2.1 109 32) : SIM t g := by
  have eg : thg t 320 = thg s 320 := by unfold thg; rw [h2]
  unfold SIM
  rw [h0, eg, h9, hm]
  exact h
theorem c97 {y : Int32} {z : Int32} (h : y = z) : z.toInt = y.toInt - 97 + 97 := by rw [h]; omega
/-- not done -/
theorem rcm_n {sc : GS} {y y1 y4 w w27 : Int32} {m : Nat} (h3 : C4 y.toInt ∧ y = s.2.2.1 109 30 ∧ (s.2.2.1 109 28).toInt = 1 ∧ y1 = s.2.2.1 109 29) (h4 : sc.1 110 = s.1 110 ∧ sc.1 112 = s.1 112 ∧ sc.1 127 = s.1 127 ∧ (∀ j, j < 5 * (s.2.2.1 109 32).toNatClampNeg → sc.1 128 j = s.1 128 j) ∧ sc.2.2.1 109 32 = s.2.2.1 109 32) (h6 : HQ6 s sc (y.toInt - 97) y4 w27.toInt.toNat) (hf0 : (sc.2.2.1 109 23).toInt = 0) (hm0 : y4.toInt = 0) (h9 : sc.2.2.1 109 9 = s.2.2.1 109 9) (hw : w = sc.2.2.1 109 32) (hm : m = 5 * w.toNatClampNeg) (hn : ¬ DON (sI sc 127 w.toNatClampNeg y) y.toInt m ∨ 4000 ≤ (s.2.2.1 109 9).toInt + (s.2.2.1 109 32).toInt) (hf : (t.2.2.1 109 23).toInt = 4) (hp : (t.2.2.1 109 24).toInt = y1.toInt) (h0 : 0 ≤ y1.toInt) : RCM s t := by
  have ew : w.toNatClampNeg = (s.2.2.1 109 32).toNatClampNeg := by rw [hw, h4.2.2.2.2]
  refine rcm_4 h3.2.2.1 (c97 h3.2.1) (c4_i h3.1) (h6 hf0 hm0) ?_ hf (by rw [hp, h3.2.2.2]) (by rw [← h3.2.2.2]; exact h0)
  intro g hg hd
  rcases hn with hn | hn
  · apply hn
    have q := dk_don (s := sI sc 127 w.toNatClampNeg y) (m := m) (sim_cg hg ((sI_p rfl).trans h4.1) ((sI_p rfl).trans h4.2.1) h9 h4.2.2.2.2) (c4_i h3.1) (fun j _ => by rw [sI_p rfl, hm, ew]) hd
    rw [Int.sub_add_cancel] at q
    exact q
  · have a := hd.1
    have b := hg.2.2
    omega
/-- done -/
theorem rcm_d {sc x : GS} {y y1 y4 w w27 z : Int32} {m : Nat} (h3 : C4 y.toInt ∧ y = s.2.2.1 109 30 ∧ (s.2.2.1 109 28).toInt = 1 ∧ y1 = s.2.2.1 109 29) (h4 : sc.1 110 = s.1 110 ∧ sc.1 112 = s.1 112 ∧ sc.1 127 = s.1 127 ∧ (∀ j, j < 5 * (s.2.2.1 109 32).toNatClampNeg → sc.1 128 j = s.1 128 j) ∧ sc.2.2.1 109 32 = s.2.2.1 109 32) (h6 : HQ6 s sc (y.toInt - 97) y4 w27.toInt.toNat) (hf0 : (sc.2.2.1 109 23).toInt = 0) (hm0 : y4.toInt = 0) (h9 : sc.2.2.1 109 9 = s.2.2.1 109 9) (hw : w = sc.2.2.1 109 32) (hm : m = 5 * w.toNatClampNeg) (hd : DON (sI sc 127 w.toNatClampNeg y) y.toInt m) (hS : SDN (sI sc 127 w.toNatClampNeg y) x y.toInt m) (hlt : (s.2.2.1 109 9).toInt + (s.2.2.1 109 32).toInt < 4000) (h27 : w27 = sc.2.2.1 109 27) (hz : z.toInt = w.toInt + 1)
    (x9 : x.2.2.1 109 9 = sc.2.2.1 109 9) (x23 : x.2.2.1 109 23 = sc.2.2.1 109 23) (x27 : x.2.2.1 109 27 = sc.2.2.1 109 27) (x127 : x.1 127 = (sI sc 127 w.toNatClampNeg y).1 127) (x128 : x.1 128 = (sI sc 127 w.toNatClampNeg y).1 128) : RCM s (sF x 109 32 z) := by
  have ew : w.toNatClampNeg = (s.2.2.1 109 32).toNatClampNeg := by rw [hw, h4.2.2.2.2]
  have e8 : (sF x 109 32 z).1 128 = sc.1 128 := x128.trans (sI_p rfl)
  have e7 : (sF x 109 32 z).1 127 = upd (s.1 127) (s.2.2.1 109 32).toNatClampNeg y := by
    show x.1 127 = _
    rw [x127, sI_q, h4.2.2.1, ew]
  have e32 : (sF x 109 32 z).2.2.1 109 32 = z := sF_get.symm
  have hz2 : z.toInt = (s.2.2.1 109 32).toInt + 1 := by rw [hz, hw, h4.2.2.2.2]
  refine rcm_0 h3.2.2.1 (c97 h3.2.1) (c4_i h3.1) (h6 hf0 hm0) ?_ ?_ ?_ ?_ ?_ ?_ ?_ ?_
  · show (x.2.2.1 109 23).toInt = 0
    rw [x23]; exact hf0
  · rw [e32]; exact hz2
  · show (x.2.2.1 109 27).toInt.toNat = _
    rw [x27, h27]
  · rw [e7, ug_at]; omega
  · intro i _; rw [e8]
  · intro j hj; rw [e7, ug_ne (by omega)]
  · intro j hj; rw [e8]; exact h4.2.2.2.1 j hj
  · intro g hg
    have hu : SIM (sI sc 127 w.toNatClampNeg y) g := sim_cg hg ((sI_p rfl).trans h4.1) ((sI_p rfl).trans h4.2.1) h9 h4.2.2.2.2
    have hV : ∀ j, j < cmA (y.toInt - 97) → (sc.1 128 (5 * (s.2.2.1 109 32).toNatClampNeg + j)).toInt = ((sI sc 127 w.toNatClampNeg y).1 128 (m + j)).toInt := fun j _ => by rw [sI_p rfl, hm, ew]
    have b := hg.2.2
    refine ⟨don_dk hu (by omega) (c4_i h3.1) hV (by rw [Int.sub_add_cancel]; exact hd), ?_⟩
    refine sdn_sim (t := sF x 109 32 z) hu (c4_i h3.1) hV (by rw [Int.sub_add_cancel]; exact hd) (by rw [Int.sub_add_cancel]; exact hS) ?_
    rw [e32]
    show (x.2.2.1 109 9).toInt + z.toInt = (sc.2.2.1 109 9).toInt + (sc.2.2.1 109 32).toInt + 1
    rw [x9, hz, hw]
    omega
theorem g0_tr {u : GS} (h : G0S s t) (g : G0S t u) : G0S s u := ⟨g.1.trans h.1, fun i hi => (g.2 i hi).trans (h.2 i hi)⟩
theorem g0_cg (h0 : t.1 110 = s.1 110) (h2 : t.1 112 = s.1 112) : G0S s t := ⟨by rw [h0], fun i _ => by rw [h2]⟩
end RCM
