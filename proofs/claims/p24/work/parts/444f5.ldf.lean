/-! LOAD OF THE REFERENCE: WHAT IT DOES TO ITS GRAPH -/
def NVQ (N : Nat → Int32) (k : Nat) : Nat → Int := fun i => (N (5 * k + i)).toInt
/-- the commands in the rows W, N, carried out one after the other -/
def opF (g0 : GVW) (W N : Nat → Int32) : Nat → GVW
  | 0 => g0
  | k + 1 => opC (opF g0 W N k) ((W k).toInt - 97) (NVQ N k)
theorem opC_5 {g : GVW} {c : Int} {V W : Nat → Int} (h : ∀ i, i < 5 → V i = W i) : opC g c V = opC g c W := by
  unfold opC
  rw [h 0 (by omega), h 1 (by omega), h 2 (by omega), h 3 (by omega), h 4 (by omega)]
theorem opC_v {g : GVW} {c : Int} {V W : Nat → Int} (hc : cmI c) (hV : ∀ i, i < cmA c → V i = W i) : opC g c V = opC g c W := by
  unfold opC
  rcases hc with e | e | e | e
  · have hA : cmA c = 1 := by rw [e]; rfl
    rw [hA] at hV
    rw [if_pos e, if_pos e, hV 0 (by omega)]
  · have hA : cmA c = 5 := by rw [e]; rfl
    rw [hA] at hV
    rw [if_neg (by omega), if_pos e, if_neg (by omega), if_pos e, hV 0 (by omega), hV 1 (by omega), hV 2 (by omega), hV 3 (by omega), hV 4 (by omega)]
  · have hA : cmA c = 1 := by rw [e]; rfl
    rw [hA] at hV
    rw [if_neg (by omega), if_neg (by omega), if_pos e, if_neg (by omega), if_neg (by omega), if_pos e, hV 0 (by omega)]
  · have hA : cmA c = 2 := by rw [e]; rfl
    rw [hA] at hV
    rw [if_neg (by omega), if_neg (by omega), if_neg (by omega), if_neg (by omega), if_neg (by omega), if_neg (by omega), hV 0 (by omega), hV 1 (by omega)]
theorem opF_cg {g0 : GVW} {W V N M : Nat → Int32} : ∀ k, (∀ j, j < k → W j = V j) → (∀ j, j < 5 * k → N j = M j) → opF g0 W N k = opF g0 V M k
  | 0, _, _ => rfl
  | k + 1, h1, h2 => by
    show opC (opF g0 W N k) ((W k).toInt - 97) (NVQ N k) = opC (opF g0 V M k) ((V k).toInt - 97) (NVQ M k)
    rw [opF_cg k (fun j hj => h1 j (by omega)) (fun j hj => h2 j (by omega)), h1 k (by omega)]
    exact opC_5 (fun i hi => by unfold NVQ; rw [h2 (5 * k + i) (by omega)])
def LDG (s t : GS) (a : Nat) : Prop := LRN (s.1 125) (s.2.2.1 109 22).toInt.toNat (gvR s) (t.2.2.1 109 32).toNatClampNeg a (opF (gvR s) (t.1 127) (t.1 128) (t.2.2.1 109 32).toNatClampNeg) ∧ SIM t (opF (gvR s) (t.1 127) (t.1 128) (t.2.2.1 109 32).toNatClampNeg) ∧ ∀ j, j < (t.2.2.1 109 32).toNatClampNeg → cmI ((t.1 127 j).toInt - 97)
def LDX (s t : GS) : Prop := 0 ≤ (t.2.2.1 109 24).toInt ∧ ∃ (k a : Nat) (g1 : GVW), LRN (s.1 125) (s.2.2.1 109 22).toInt.toNat (gvR s) k a g1 ∧ (CMX (s.1 125) (s.2.2.1 109 22).toInt.toNat a (t.2.2.1 109 23).toInt (t.2.2.1 109 24).toInt.toNat ∨ ∃ c V e, CMP (s.1 125) (s.2.2.1 109 22).toInt.toNat a (t.2.2.1 109 24).toInt.toNat c V e ∧ ¬ dkC g1 c V ∧ (t.2.2.1 109 23).toInt = 4)
def LD1 (s t : GS) : Prop := GEQ (gvR t) (gvR s) ∧ ((t.2.2.1 109 23).toInt = 0 → ∃ a, LDG s t a ∧ ∃ k v, TKN (s.1 125) (s.2.2.1 109 22).toInt.toNat a (t.2.2.1 109 29).toInt.toNat (t.2.2.1 109 27).toInt.toNat k v ∧ NTV t k v) ∧ ((t.2.2.1 109 23).toInt ≠ 0 → LDX s t)
/-- the second half: k commands are done -/
def LD3 (s t : GS) (k : Nat) : Prop := (t.2.2.1 109 23).toInt = 0 ∧ (∃ a, LRN (s.1 125) (s.2.2.1 109 22).toInt.toNat (gvR s) (t.2.2.1 109 32).toNatClampNeg a (opF (gvR s) (t.1 127) (t.1 128) (t.2.2.1 109 32).toNatClampNeg) ∧ CME (s.1 125) (s.2.2.1 109 22).toInt.toNat a) ∧ (∀ j, j < (t.2.2.1 109 32).toNatClampNeg → cmI ((t.1 127 j).toInt - 97)) ∧ GEQ (gvR t) (opF (gvR s) (t.1 127) (t.1 128) k) ∧ k ≤ (t.2.2.1 109 32).toNatClampNeg
section LDF
variable {s u t : GS}
theorem r113 (hI : Inv s) {i : Nat} (hi : i < 160) : (s.1 113 i).toInt ≠ -1 := by
  have h := (hI.1.1 113 i (Nat.lt_of_lt_of_le hi (Nat.le_of_ble_eq_true rfl))).1
  have e : (rI 113).1 = 0 := rfl
  omega
theorem geq_0 {L : FM} (h : Fr L s t) (hq : (qI L.1 111 && qI L.1 113 && qI L.1 114 && qI L.1 115 && qI L.1 116 && qI L.1 117 && qF L.2.2.1 109 9) = true) (g : G0S s t) : GEQ (gvR t) (gvR s) := by
  simp only [Bool.and_eq_true] at hq
  obtain ⟨⟨⟨⟨⟨⟨q1, q3⟩, q4⟩, q5⟩, q6⟩, q7⟩, q8⟩ := hq
  refine ⟨fun i _ => ?_, fun i hi => ?_, fun i _ => ?_, fun i _ => ?_, fun i _ => ?_, fun i _ => ?_, ?_, ?_⟩
  · show t.1 111 i = s.1 111 i; rw [h.1 111 q1]
  · show thf (t.1 112) (t.1 113) i = thf (s.1 112) (s.1 113) i
    unfold thf
    rw [g.2 i hi, h.1 113 q3]
  · show t.1 114 i = s.1 114 i; rw [h.1 114 q4]
  · show t.1 115 i = s.1 115 i; rw [h.1 115 q5]
  · show t.1 116 i = s.1 116 i; rw [h.1 116 q6]
  · show t.1 117 i = s.1 117 i; rw [h.1 117 q7]
  · show (t.1 110 0).toInt = (s.1 110 0).toInt; rw [g.1]
  · show (t.2.2.1 109 9).toInt = (s.2.2.1 109 9).toInt; rw [h.2.2.1 109 9 q8]
theorem ctg_thf (h : ∀ i, i < 160 → (s.1 113 i).toInt ≠ -1) {i : Nat} (hi : i < 160) : ctg (thf (s.1 112) (s.1 113)) i = decide ((s.1 112 i).toInt ≠ 0) := by
  unfold ctg thf
  by_cases c : (s.1 112 i).toInt = 0
  · rw [if_pos c]
    rw [show decide ((Int32.ofInt (-1)).toInt ≠ -1) = false from rfl]
    exact (decide_eq_false (fun z => z c)).symm
  · rw [if_neg c]
    exact (decide_eq_true (h i hi)).trans (decide_eq_true c).symm
theorem ldg_0 (hI : Inv s) (h1 : t.1 110 2 = s.1 110 0) (h3 : ∀ i : Nat, i < 160 → t.1 112 (320 + i) = s.1 112 i ∧ t.1 112 i = s.1 112 i) (h9 : t.2.2.1 109 9 = s.2.2.1 109 9) (hm : t.2.2.1 109 32 = Int32.ofInt 0) (h27 : t.2.2.1 109 27 = Int32.ofInt 0) : LDG s t (t.2.2.1 109 27).toInt.toNat := by
  have ec : (t.2.2.1 109 32).toNatClampNeg = 0 := by rw [hm]; rfl
  unfold LDG
  rw [ec, h27]
  refine ⟨⟨rfl, rfl⟩, ⟨by rw [h1]; rfl, fun i hi => ?_, ?_⟩, fun j hj => absurd hj (Nat.not_lt_zero _)⟩
  · show thg t 320 i = ctg (thf (s.1 112) (s.1 113)) i
    rw [ctg_thf (fun i hi => r113 hI hi) hi]
    unfold thg
    rw [(h3 i hi).1]
  · show (t.2.2.1 109 9).toInt + (t.2.2.1 109 32).toInt = (s.2.2.1 109 9).toInt
    rw [h9, hm]
    exact Int.add_zero _
theorem ldg_cg {a : Nat} (h : LDG s u a) (h0 : t.1 110 = u.1 110) (h2 : t.1 112 = u.1 112) (h7 : t.1 127 = u.1 127) (h8 : t.1 128 = u.1 128) (h9 : t.2.2.1 109 9 = u.2.2.1 109 9) (hm : t.2.2.1 109 32 = u.2.2.1 109 32) : LDG s t a := by
  obtain ⟨a1, a2, a3⟩ := h
  have a4 := sim_cg a2 h0 h2 h9 hm
  unfold LDG
  rw [h7, h8, hm]
  exact ⟨a1, a4, a3⟩
/-- a token is read -/
theorem ld_tok (hI : Inv t) (hG : GEQ (gvR u) (gvR s)) (hD : LDG s u (u.2.2.1 109 27).toInt.toNat) (h0 : (u.2.2.1 109 23).toInt = 0) (hp : ∃ k v, TKN (u.1 125) (u.2.2.1 109 22).toInt.toNat (u.2.2.1 109 27).toInt.toNat (t.2.2.1 109 29).toInt.toNat (t.2.2.1 109 27).toInt.toNat k v ∧ NTK u t k v) (u125 : u.1 125 = s.1 125) (u22 : u.2.2.1 109 22 = s.2.2.1 109 22) (hg : gvR t = gvR u) (r0 : t.1 110 = u.1 110) (r2 : t.1 112 = u.1 112) (r7 : t.1 127 = u.1 127) (r8 : t.1 128 = u.1 128) (r9 : t.2.2.1 109 9 = u.2.2.1 109 9) (rm : t.2.2.1 109 32 = u.2.2.1 109 32) : LD1 s t := by
  obtain ⟨k, v, h, hn⟩ := hp
  rw [u125, u22] at h
  have hf := ntk_f hn h0
  have hDt := ldg_cg hD r0 r2 r7 r8 r9 rm
  refine ⟨by rw [hg]; exact hG, fun z => ⟨_, hDt, k, v, h, hf.2 z⟩, fun z => ?_⟩
  obtain ⟨f1, f2, f3⟩ := hf.1 z
  have h9 := inv_F hI (z := t.2.2.1 109 29) 0 1000 rfl rfl
  unfold In at h9
  refine ⟨by rw [f2]; omega, _, _, _, hDt.1, Or.inl ?_⟩
  rw [f1, f2]
  exact Or.inl ⟨_, k, v, h, by omega, fun q => by omega, rfl⟩
theorem ntv_z {k v : Int} {a p e n : Nat} {T : Nat → Int32} (h : TKN T n a p e k v) (hn : NTV t k v) : (t.2.2.1 109 28).toInt = k := by
  have r := tkn_e h
  exact ntv_t hn r.2.2.2.2.1 r.2.2.2.2.2
/-- a command is read and tried -/
theorem ld_cmd (hU : LD1 s u) (h0 : (u.2.2.1 109 23).toInt = 0) (ht : (u.2.2.1 109 28).toInt ≠ 0) (hR : RCM u t) (hT : GEQ (gvR t) (gvR u)) (hIu : 0 ≤ (u.2.2.1 109 32).toInt) (u125 : u.1 125 = s.1 125) (u22 : u.2.2.1 109 22 = s.2.2.1 109 22) : GEQ (gvR t) (gvR s) ∧ ((t.2.2.1 109 23).toInt = 0 → LDG s t (t.2.2.1 109 27).toInt.toNat) ∧ ((t.2.2.1 109 23).toInt ≠ 0 → LDX s t) := by
  obtain ⟨g1, g2, -⟩ := hU
  obtain ⟨a, ⟨d1, d2, d3⟩, k, v, hk, hv⟩ := g2 h0
  have ek := ntv_z hk hv
  unfold RCM at hR
  rw [u125, u22] at hR
  obtain ⟨r1, r2⟩ := hR a k v hk hv (by omega)
  refine ⟨geq_t hT g1, fun z => ?_, fun z => ?_⟩
  · obtain ⟨m1, c, V, m2, m3, m4, m5, m6, m7⟩ := r1 z
    obtain ⟨m8, m9⟩ := m7 _ d2
    have em : (t.2.2.1 109 32).toNatClampNeg = (u.2.2.1 109 32).toNatClampNeg + 1 := by
      show (t.2.2.1 109 32).toInt.toNat = (u.2.2.1 109 32).toInt.toNat + 1
      omega
    have eo : opF (gvR s) (t.1 127) (t.1 128) (u.2.2.1 109 32).toNatClampNeg = opF (gvR s) (u.1 127) (u.1 128) (u.2.2.1 109 32).toNatClampNeg := opF_cg _ m5 m6
    have ec : (t.1 127 (u.2.2.1 109 32).toNatClampNeg).toInt - 97 = c := by omega
    have en : opF (gvR s) (t.1 127) (t.1 128) (t.2.2.1 109 32).toNatClampNeg = opC (opF (gvR s) (u.1 127) (u.1 128) (u.2.2.1 109 32).toNatClampNeg) c V := by
      rw [em]
      show opC (opF (gvR s) (t.1 127) (t.1 128) (u.2.2.1 109 32).toNatClampNeg) ((t.1 127 (u.2.2.1 109 32).toNatClampNeg).toInt - 97) (NVQ (t.1 128) (u.2.2.1 109 32).toNatClampNeg) = _
      rw [eo, ec]
      exact opC_v m2.1 (fun i hi => m4 i hi)
    unfold LDG
    rw [en, em]
    refine ⟨⟨a, _, _, c, V, d1, m2, m8, rfl⟩, m9, fun j hj => ?_⟩
    by_cases q : j = (u.2.2.1 109 32).toNatClampNeg
    · rw [q, ec]; exact m2.1
    · rw [m5 j (by omega)]; exact d3 j (by omega)
  · obtain ⟨x1, x2⟩ := r2 z
    refine ⟨x1, _, a, _, d1, ?_⟩
    rcases x2 with x2 | ⟨c, V, e, y1, y2, y3⟩
    · exact Or.inl x2
    · exact Or.inr ⟨c, V, e, y1, y2 _ d2, y3⟩
theorem ld3_0 (h : LD1 s t) (h0 : (t.2.2.1 109 23).toInt = 0) (ht : (t.2.2.1 109 28).toInt = 0) : LD3 s t 0 := by
  obtain ⟨g1, g2, -⟩ := h
  obtain ⟨a, ⟨d1, d2, d3⟩, k, v, hk, hv⟩ := g2 h0
  have ek := ntv_z hk hv
  rw [ht] at ek
  rw [← ek] at hk
  exact ⟨h0, ⟨a, d1, _, _, v, hk⟩, d3, g1, Nat.zero_le _⟩
theorem ld3_s {k : Nat} (h : LD3 s u k) (hk : k < (u.2.2.1 109 32).toNatClampNeg) (hg : gvR t = opC (gvR u) ((u.1 127 k).toInt - 97) (NVQ (u.1 128) k)) (r7 : t.1 127 = u.1 127) (r8 : t.1 128 = u.1 128) (rm : t.2.2.1 109 32 = u.2.2.1 109 32) (rf : t.2.2.1 109 23 = u.2.2.1 109 23) : LD3 s t (k + 1) := by
  obtain ⟨a0, a1, a2, a3, -⟩ := h
  unfold LD3
  rw [r7, r8, rm, rf, hg]
  exact ⟨a0, a1, a2, opC_e a3 (a2 k hk) (fun _ _ => rfl), hk⟩
theorem ld3_e {k : Nat} {z f p : Int} (h : LD3 s t k) (hk : (t.2.2.1 109 32).toNatClampNeg ≤ k) (hz : z = (((t.2.2.1 109 32).toNatClampNeg : Nat) : Int)) (hf : f = (t.2.2.1 109 23).toInt) : LOT (s.1 125) (s.2.2.1 109 22).toInt.toNat (gvR s) z f p (gvR t) := by
  obtain ⟨a0, ⟨a, a1, a5⟩, a2, a3, a4⟩ := h
  have e : k = (t.2.2.1 109 32).toNatClampNeg := by omega
  rw [e] at a3
  exact Or.inl ⟨_, a, _, a1, a5, hz, by rw [hf]; exact a0, a3⟩
theorem ld1_x {z : Int} (h : LD1 s t) (h0 : (t.2.2.1 109 23).toInt ≠ 0) (hz : z = -4) : LOT (s.1 125) (s.2.2.1 109 22).toInt.toNat (gvR s) z (t.2.2.1 109 23).toInt (t.2.2.1 109 24).toInt (gvR t) := by
  obtain ⟨g1, -, g2⟩ := h
  obtain ⟨x0, k, a, g, x1, x2⟩ := g2 h0
  exact Or.inr ⟨k, a, _, g, x1, x2, hz, by omega, g1⟩
/-- each kind -/
theorem oR_n {c : Int} {V : Nat → Int} {x : Int32} (h : c = 13) (h0 : V 0 = x.toInt) : opC (gvR s) c V = gqN (gvR s) (s.1 110 0).toNatClampNeg x := by
  unfold opC
  rw [if_pos h, h0, Int32.ofInt_toInt]
  rfl
theorem oR_a {c : Int} {V : Nat → Int} {p : Nat} {x0 x1 x2 x3 x4 : Int32} (hI : Inv s) (h : c = 0) (hp : p = fpl (thg s 0)) (h0 : V 0 = x0.toInt) (h1 : V 1 = x1.toInt) (h2 : V 2 = x2.toInt) (h3 : V 3 = x3.toInt) (h4 : V 4 = x4.toInt) : opC (gvR s) c V = gqA (gvR s) p x0 x1 x2 x3 x4 := by
  unfold opC
  have e : fpl (ctg (gvR s).2.1) = p := by
    rw [hp]
    refine fpl_cg (fun i hi => ?_)
    show ctg (thf (s.1 112) (s.1 113)) i = thg s 0 i
    rw [ctg_thf (fun i hi => r113 hI hi) hi]
    unfold thg
    rw [Nat.zero_add]
  rw [if_neg (by omega), if_pos h, h0, h1, h2, h3, h4, e, Int32.ofInt_toInt, Int32.ofInt_toInt, Int32.ofInt_toInt, Int32.ofInt_toInt, Int32.ofInt_toInt]
theorem oR_t {c : Int} {V : Nat → Int} {x : Int32} (h : c = 19) (h0 : V 0 = x.toInt) : opC (gvR s) c V = gqD (gvR s) x.toNatClampNeg := by
  unfold opC
  rw [if_neg (by omega), if_neg (by omega), if_pos h, h0]
  rfl
theorem oR_w {c : Int} {V : Nat → Int} {x y : Int32} (h13 : c ≠ 13) (h00 : c ≠ 0) (h19 : c ≠ 19) (h0 : V 0 = x.toInt) (h1 : V 1 = y.toInt) : opC (gvR s) c V = gqW (gvR s) x.toNatClampNeg (Int32.ofInt 0) y := by
  unfold opC
  rw [if_neg h13, if_neg h00, if_neg h19, h0, h1, Int32.ofInt_toInt]
  rfl
theorem upd_lo {f : Nat → Int32} {p i m : Nat} {x : Int32} (hi : i < m) (hp : m ≤ p) : upd f p x i = f i := ug_ne (by omega)
theorem geq_110 {g : GVW} {j : Nat} {v : Int32} (hj : j ≠ 0) (h : GEQ (gvR u) g) : GEQ (gvR (sI u 110 j v)) g := by
  obtain ⟨q1, q2, q3, q4, q5, q6, q7, q8⟩ := h
  refine ⟨q1, q2, q3, q4, q5, q6, ?_, q8⟩
  show ((sI u 110 j v).1 110 0).toInt = _
  rw [sI_q, ug_ne (fun e => hj e.symm)]
  exact q7
theorem geq_112 {g : GVW} {j : Nat} {v : Int32} (hj : 160 ≤ j) (h : GEQ (gvR u) g) : GEQ (gvR (sI u 112 j v)) g := by
  obtain ⟨q1, q2, q3, q4, q5, q6, q7, q8⟩ := h
  refine ⟨q1, fun i hi => ?_, q3, q4, q5, q6, q7, q8⟩
  have e := q2 i hi
  rw [← e]
  show thf ((sI u 112 j v).1 112) (u.1 113) i = thf (u.1 112) (u.1 113) i
  unfold thf
  rw [sI_q, upd_lo hi hj]
theorem geq_rp {k : Nat} (hR : Rng u) (hk : k < 4000) (hp : AP u t k 1) (hr : RP u t k 1) (h9 : t.2.2.1 109 9 = u.2.2.1 109 9) : GEQ (gvR t) (gvR u) := by
  have w := hR.1 118 k (Nat.lt_of_lt_of_le hk (Nat.le_of_ble_eq_true rfl))
  have w1 : (rI 118).1 = 0 := rfl
  have w2 : (rI 118).2 = 4 := rfl
  unfold In at w
  rw [w1, w2] at w
  have e0 : t.1 110 0 = u.1 110 0 := hp.2.1 0 (by decide)
  obtain ⟨r0, r1, r2, r3, r4⟩ := hr
  have H : (∀ i, i < 32 → t.1 111 i = u.1 111 i) ∧ (∀ i, i < 160 → t.1 112 i = u.1 112 i) ∧ (∀ i, i < 160 → t.1 113 i = u.1 113 i) ∧ (∀ i, i < 160 → t.1 114 i = u.1 114 i) ∧ (∀ i, i < 160 → t.1 115 i = u.1 115 i) ∧ (∀ i, i < 160 → t.1 116 i = u.1 116 i) ∧ (∀ i, i < 160 → t.1 117 i = u.1 117 i) := by
    have c : (u.1 118 k).toInt = 0 ∨ (u.1 118 k).toInt = 1 ∨ (u.1 118 k).toInt = 2 ∨ (u.1 118 k).toInt = 3 ∨ (u.1 118 k).toInt = 4 := by omega
    rcases c with c | c | c | c | c
    · obtain ⟨a1, a2, a3, a4, a5, a6, a7⟩ := r0 c
      rw [a1, a2, a3, a4, a5, a6, a7]
      exact ⟨fun i hi => upd_lo hi (by omega), fun _ _ => rfl, fun _ _ => rfl, fun _ _ => rfl, fun _ _ => rfl, fun _ _ => rfl, fun _ _ => rfl⟩
    · obtain ⟨a1, ⟨v, -, a2⟩, a3, a4, a5, a6, a7⟩ := r1 c
      rw [a1, a2, a3, a4, a5, a6, a7]
      exact ⟨fun _ _ => rfl, fun i hi => upd_lo hi (by omega), fun i hi => upd_lo hi (by omega), fun i hi => upd_lo hi (by omega), fun i hi => upd_lo hi (by omega), fun i hi => upd_lo hi (by omega), fun i hi => upd_lo hi (by omega)⟩
    · obtain ⟨a1, ⟨v, -, a2⟩, a3, a4, a5, a6, a7⟩ := r2 c
      rw [a1, a2, a3, a4, a5, a6, a7]
      exact ⟨fun _ _ => rfl, fun i hi => upd_lo hi (by omega), fun _ _ => rfl, fun _ _ => rfl, fun _ _ => rfl, fun _ _ => rfl, fun _ _ => rfl⟩
    · obtain ⟨a1, a2, a3, a4, a5, a6, a7⟩ := r3 c
      rw [a1, a2, a3, a4, a5, a6, a7]
      refine ⟨fun _ _ => rfl, fun _ _ => rfl, fun _ _ => rfl, fun _ _ => rfl, fun i hi => ?_, fun i hi => ?_, fun i hi => ?_⟩
      · split
        · exact upd_lo hi (by omega)
        · rfl
      · split
        · exact upd_lo hi (by omega)
        · rfl
      · split
        · exact upd_lo hi (by omega)
        · rfl
    · obtain ⟨a1, a2, a3, a4, a5, a6, a7⟩ := r4 c
      rw [a1, a2, a3, a4, a5, a6, a7]
      exact ⟨fun i hi => upd_lo hi (by omega), fun _ _ => rfl, fun _ _ => rfl, fun _ _ => rfl, fun _ _ => rfl, fun _ _ => rfl, fun _ _ => rfl⟩
  obtain ⟨b1, b2, b3, b4, b5, b6, b7⟩ := H
  refine ⟨b1, fun i hi => ?_, b4, b5, b6, b7, ?_, ?_⟩
  · show thf (t.1 112) (t.1 113) i = thf (u.1 112) (u.1 113) i
    unfold thf
    rw [b2 i hi, b3 i hi]
  · show (t.1 110 0).toInt = (u.1 110 0).toInt; rw [e0]
  · show (t.2.2.1 109 9).toInt = (u.2.2.1 109 9).toInt; rw [h9]
/-- what view answers -/
def VWQ (s t : GS) (x z : Int32) : Prop := ((t.2.2.1 109 0).toInt = 1 ∧ ¬ (-1 ≤ x.toInt ∧ x.toInt ≤ (s.2.2.1 109 9).toInt)) ∨ ((t.2.2.1 109 0).toInt = 0 ∧ (-1 ≤ x.toInt ∧ x.toInt ≤ (s.2.2.1 109 9).toInt) ∧ z = (if x.toInt < 0 then s.2.2.1 109 9 else x))
theorem fpl_R (hI : Inv s) : fpl (ctg (gvR s).2.1) = fpl (thg s 0) := by
  refine fpl_cg (fun i hi => ?_)
  show ctg (thf (s.1 112) (s.1 113)) i = thg s 0 i
  rw [ctg_thf (fun i hi => r113 hI hi) hi]
  unfold thg
  rw [Nat.zero_add]
end LDF
