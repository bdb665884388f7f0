/-! LOAD OF THE REFERENCE: what commands do, and that making them does the same -/
def fpx (b : Nat → Bool) : Nat → Nat → Nat
  | 0, i => i
  | k + 1, i => if b i = false then i else fpx b k (i + 1)
/-- the first free place, or 160 -/
def fpl (b : Nat → Bool) : Nat := fpx b 160 0
theorem fpx_eq {b : Nat → Bool} {r : Nat} (h1 : ∀ i, i < r → b i = true) : ∀ k i, i ≤ r → r ≤ i + k → (r < i + k → b r = false) → fpx b k i = r := by
  intro k
  induction k with
  | zero => intro i hi hr _; show i = r; omega
  | succ k ih =>
    intro i hi hr h2
    show (if b i = false then i else fpx b k (i + 1)) = r
    by_cases c : i = r
    · by_cases c2 : b i = false
      · rw [if_pos c2]; exact c
      · exfalso; apply c2; rw [c]; exact h2 (by omega)
    · rw [if_neg (by rw [h1 i (by omega)]; decide)]
      exact ih (i + 1) (by omega) (by omega) (fun q => h2 (by omega))
theorem fpl_eq {b : Nat → Bool} {r : Nat} (hr : r ≤ 160) (h1 : ∀ i, i < r → b i = true) (h2 : r < 160 → b r = false) : fpl b = r := fpx_eq h1 160 0 (by omega) (by omega) (fun q => h2 (by omega))
theorem fpx_cg {a b : Nat → Bool} (h : ∀ j, j < 160 → a j = b j) : ∀ k i, i + k ≤ 160 → fpx a k i = fpx b k i := by
  intro k
  induction k with
  | zero => intro i _; rfl
  | succ k ih =>
    intro i hi
    show (if a i = false then i else fpx a k (i + 1)) = (if b i = false then i else fpx b k (i + 1))
    rw [h i (by omega), ih (i + 1) (by omega)]
theorem fpl_cg {a b : Nat → Bool} (h : ∀ j, j < 160 → a j = b j) : fpl a = fpl b := fpx_cg h 160 0 (by omega)
def ubq (b : Nat → Bool) (p : Nat) (v : Bool) : Nat → Bool := fun i => if i = p then v else b i
def thg (s : GS) (g : Nat) : Nat → Bool := fun i => decide ((s.1 112 (g + i)).toInt ≠ 0)
def nq (x : Int32) (lo hi : Int) : Prop := lo ≤ x.toInt ∧ x.toInt ≤ hi
def G0S (s t : GS) : Prop := t.1 110 0 = s.1 110 0 ∧ ∀ i : Nat, i < 160 → t.1 112 i = s.1 112 i
def SDN (s t : GS) (c : Int) (m : Nat) : Prop :=
  (c = 110 → (t.1 110 2).toInt = (s.1 110 2).toInt + 1 ∧ (t.1 110 2).toInt ≤ 32 ∧ thg t 320 = thg s 320) ∧
  (c = 97 → t.1 110 2 = s.1 110 2 ∧ fpl (thg s 320) < 160 ∧ nq (s.1 128 m) 0 ((s.1 110 2).toInt - 1) ∧ nq (s.1 128 (m + 1)) 0 ((s.1 110 2).toInt - 1) ∧ nq (s.1 128 (m + 2)) (-1000000) 1000000 ∧ nq (s.1 128 (m + 3)) 0 1000000 ∧ thg t 320 = ubq (thg s 320) (fpl (thg s 320)) true) ∧
  (c = 116 → t.1 110 2 = s.1 110 2 ∧ nq (s.1 128 m) 0 159 ∧ thg t 320 = ubq (thg s 320) (s.1 128 m).toNatClampNeg false) ∧
  (c ≠ 110 → c ≠ 97 → c ≠ 116 → t.1 110 2 = s.1 110 2 ∧ nq (s.1 128 m) 0 159 ∧ nq (s.1 128 (m + 1)) (-1000000) 1000000 ∧ thg t 320 = thg s 320)
def DNE (s t : GS) (c : Int) (m : Nat) (R : Int) : Prop := G0S s t ∧ (R ≠ 0 → SDN s t c m)
theorem g0_rf {s : GS} : G0S s s := ⟨rfl, fun _ _ => rfl⟩
theorem dne_no {s t : GS} {c R : Int} {m : Nat} (h : t = s) (hR : R = 0) : DNE s t c m R := by
  rw [h]
  exact ⟨g0_rf, fun z => absurd hR z⟩
theorem g0_t {s t : GS} {i : Nat} {v : Int32} (h1 : t.1 112 = upd (s.1 112) i v) (h0 : t.1 110 = s.1 110) (hi : 320 ≤ i) : G0S s t := by
  refine ⟨by rw [h0], fun j hj => ?_⟩
  rw [h1]; unfold upd; rw [if_neg (by omega)]
theorem thg_u {s t : GS} {i p : Nat} {v : Int32} (h1 : t.1 112 = upd (s.1 112) i v) (hi : i = 320 + p) : thg t 320 = ubq (thg s 320) p (decide (v.toInt ≠ 0)) := by
  funext j
  unfold thg ubq
  rw [h1]
  unfold upd
  by_cases c : j = p
  · rw [if_pos (by omega), if_pos c]
  · rw [if_neg (by omega), if_neg c]
theorem dne_n {s : GS} {m : Nat} {x z : Int32} {c R : Int} (hc : c = 110) (hx : x = s.1 110 2) (hz : z.toInt = x.toInt + 1) (hR : R ≠ 0 → z.toInt ≤ 32) : DNE s (sI s 110 2 z) c m R := by
  have e : (sI s 110 2 z).1 110 = upd (s.1 110) 2 z := by simp [sI]
  have e2 : (sI s 110 2 z).1 112 = s.1 112 := by simp [sI]
  have e3 : (sI s 110 2 z).1 110 2 = z := by rw [e]; unfold upd; rw [if_pos rfl]
  refine ⟨⟨?_, fun j _ => by rw [e2]⟩, fun q => ⟨fun _ => ⟨?_, ?_, ?_⟩, fun q2 => by omega, fun q2 => by omega, fun q2 => absurd hc q2⟩⟩
  · rw [e]; unfold upd; rw [if_neg (by decide)]
  · rw [e3, hz, hx]
  · rw [e3]; exact hR q
  · unfold thg; rw [e2]
theorem nar_b {x : Int32} (h : In x 0 1) : vp_nar .boolean x = x := by
  rcases in01 h with e | e <;> rw [e] <;> rfl
theorem apt_bool : decide ((vp_nar .boolean (Int32.ofInt 1)).toInt ≠ 0) = true ∧ decide ((vp_nar .boolean (Int32.ofInt 0)).toInt ≠ 0) = false := ⟨rfl, rfl⟩
theorem dne_a {s : GS} {m p i : Nat} {c R : Int} (hc : c = 97) (hp : p = fpl (thg s 320)) (hp2 : p < 160) (hi : i = 320 + p) (h0 : nq (s.1 128 m) 0 ((s.1 110 2).toInt - 1)) (h1 : nq (s.1 128 (m + 1)) 0 ((s.1 110 2).toInt - 1)) (h2 : nq (s.1 128 (m + 2)) (-1000000) 1000000) (h3 : nq (s.1 128 (m + 3)) 0 1000000) : DNE s (sI s 112 i (vp_nar .boolean (Int32.ofInt 1))) c m R := by
  have e2 : (sI s 112 i (vp_nar .boolean (Int32.ofInt 1))).1 112 = upd (s.1 112) i (vp_nar .boolean (Int32.ofInt 1)) := sI_q
  have e0 : (sI s 112 i (vp_nar .boolean (Int32.ofInt 1))).1 110 = s.1 110 := sI_p rfl
  refine ⟨g0_t e2 e0 (by omega), fun _ => ⟨fun q => by omega, fun _ => ⟨by rw [e0], by rw [← hp]; exact hp2, h0, h1, h2, h3, ?_⟩, fun q => by omega, fun _ q => absurd hc q⟩⟩
  rw [thg_u e2 hi, apt_bool.1, ← hp]
theorem dne_t {s : GS} {m i : Nat} {c R : Int} (hc : c = 116) (h0 : nq (s.1 128 m) 0 159) (hi : i = 320 + (s.1 128 m).toNatClampNeg) : DNE s (sI s 112 i (vp_nar .boolean (Int32.ofInt 0))) c m R := by
  have e2 : (sI s 112 i (vp_nar .boolean (Int32.ofInt 0))).1 112 = upd (s.1 112) i (vp_nar .boolean (Int32.ofInt 0)) := sI_q
  have e0 : (sI s 112 i (vp_nar .boolean (Int32.ofInt 0))).1 110 = s.1 110 := sI_p rfl
  refine ⟨g0_t e2 e0 (by omega), fun _ => ⟨fun q => by omega, fun q => by omega, fun _ => ⟨by rw [e0], h0, ?_⟩, fun _ _ q => absurd hc q⟩⟩
  rw [thg_u e2 hi, apt_bool.2]
theorem dne_d {s : GS} {m : Nat} {c R : Int} (h1 : c ≠ 110) (h2 : c ≠ 97) (h3 : c ≠ 116) (h4 : nq (s.1 128 m) 0 159) (h5 : nq (s.1 128 (m + 1)) (-1000000) 1000000) : DNE s s c m R :=
  ⟨g0_rf, fun _ => ⟨fun q => absurd q h1, fun q => absurd q h2, fun q => absurd q h3, fun _ _ _ => ⟨rfl, h4, h5, rfl⟩⟩⟩
theorem t_s97 {y z : Int32} (e : z = y - Int32.ofInt 97) (h1 : 97 ≤ y.toInt) (h2 : y.toInt ≤ 122) : z.toInt = y.toInt - 97 := by
  rw [e, Int32.toInt_sub, show (Int32.ofInt 97).toInt = 97 from rfl]
  exact Int.bmod_eq_of_le (by omega) (by omega)
def SHP (c k r : Int) : Prop := (c = 110 → (k = 0 → r = 1) ∧ (k ≠ 0 → r = 3)) ∧ (c = 97 → (k < 4 → r = 2) ∧ (k = 4 → r = 1) ∧ (4 < k → r = 3)) ∧ (c ≠ 110 → c ≠ 97 → r ≠ 1 ∧ (2 ≤ k → r = 3) ∧ (k = 0 → r = 2))
/-- commands, one after the other -/
def simN (n : Int) (W : Nat → Int32) : Nat → Int
  | 0 => n
  | k + 1 => simN n W k + (if (W k).toInt = 110 then 1 else 0)
def simT (b : Nat → Bool) (W N : Nat → Int32) : Nat → Nat → Bool
  | 0 => b
  | k + 1 => if (W k).toInt = 97 then ubq (simT b W N k) (fpl (simT b W N k)) true else if (W k).toInt = 116 then ubq (simT b W N k) (N (5 * k)).toNatClampNeg false else simT b W N k
theorem simN_cg {n : Int} {W V : Nat → Int32} : ∀ k, (∀ j, j < k → W j = V j) → simN n W k = simN n V k := by
  intro k
  induction k with
  | zero => intro _; rfl
  | succ k ih =>
    intro h
    show simN n W k + _ = simN n V k + _
    rw [ih (fun j hj => h j (by omega)), h k (by omega)]
theorem simT_cg {b : Nat → Bool} {W V N M : Nat → Int32} : ∀ k, (∀ j, j < k → W j = V j) → (∀ j, j < 5 * k → N j = M j) → simT b W N k = simT b V M k := by
  intro k
  induction k with
  | zero => intro _ _; rfl
  | succ k ih =>
    intro h h2
    have e := ih (fun j hj => h j (by omega)) (fun j hj => h2 j (by omega))
    show (if (W k).toInt = 97 then _ else if (W k).toInt = 116 then _ else _) = (if (V k).toInt = 97 then _ else if (V k).toInt = 116 then _ else _)
    rw [e, h k (by omega), h2 (5 * k) (by omega)]
/-- command j is right where it stands -/
def RCQ (b : Nat → Bool) (n : Int) (W N : Nat → Int32) (j : Nat) : Prop :=
  ((W j).toInt = 110 → nq (N (5 * j)) 0 25 ∧ simN n W j ≤ 31) ∧
  ((W j).toInt = 97 → fpl (simT b W N j) < 160 ∧ nq (N (5 * j)) 0 (simN n W j - 1) ∧ nq (N (5 * j + 1)) 0 (simN n W j - 1) ∧ nq (N (5 * j + 2)) (-1000000) 1000000 ∧ nq (N (5 * j + 3)) 0 1000000 ∧ nq (N (5 * j + 4)) 0 25) ∧
  ((W j).toInt = 116 → nq (N (5 * j)) 0 159) ∧
  ((W j).toInt ≠ 110 → (W j).toInt ≠ 97 → (W j).toInt ≠ 116 → nq (N (5 * j)) 0 159 ∧ nq (N (5 * j + 1)) (-1000000) 1000000)
theorem rcq_cg {b : Nat → Bool} {n : Int} {W V N M : Nat → Int32} {k : Nat} (h : RCQ b n V M k) (h1 : ∀ j, j < k + 1 → W j = V j) (h2 : ∀ j, j < 5 * k + 5 → N j = M j) : RCQ b n W N k := by
  have e1 := simN_cg (n := n) (W := W) (V := V) k (fun j hj => h1 j (by omega))
  have e2 := simT_cg (b := b) (W := W) (V := V) (N := N) (M := M) k (fun j hj => h1 j (by omega)) (fun j hj => h2 j (by omega))
  unfold RCQ
  rw [e1, e2, h1 k (by omega), h2 (5 * k) (by omega), h2 (5 * k + 1) (by omega), h2 (5 * k + 2) (by omega), h2 (5 * k + 3) (by omega), h2 (5 * k + 4) (by omega)]
  exact h
def thz (t : GS) : Nat → Bool := fun i => if i < 160 then decide ((t.1 112 i).toInt ≠ 0) else false
theorem thz_g {s t : GS} (h : G0S s t) : thz t = thz s := by
  funext i
  unfold thz
  by_cases c : i < 160
  · rw [if_pos c, if_pos c, h.2 i c]
  · rw [if_neg c, if_neg c]
def LDQ (t : GS) (c : Nat) : Prop := (∀ j, j < c → RCQ (thz t) (t.1 110 0).toInt (t.1 127) (t.1 128) j) ∧ (t.1 110 2).toInt = simN (t.1 110 0).toInt (t.1 127) c ∧ ∀ i, i < 160 → thg t 320 i = simT (thz t) (t.1 127) (t.1 128) c i
theorem ldq_0 {s t : GS} (h1 : t.1 110 2 = s.1 110 0) (h2 : t.1 110 0 = s.1 110 0) (h3 : ∀ i : Nat, i < 160 → t.1 112 (320 + i) = s.1 112 i ∧ t.1 112 i = s.1 112 i) : LDQ t 0 := by
  refine ⟨fun j hj => absurd hj (Nat.not_lt_zero _), by show (t.1 110 2).toInt = (t.1 110 0).toInt; rw [h1, h2], fun i hi => ?_⟩
  show thg t 320 i = thz t i
  unfold thg thz
  rw [if_pos hi, (h3 i hi).1, (h3 i hi).2]
theorem ldq_cg {s t : GS} {c : Nat} (h : LDQ s c) (h0 : t.1 110 = s.1 110) (h2 : t.1 112 = s.1 112) (h7 : ∀ j, j < c → t.1 127 j = s.1 127 j) (h8 : ∀ j, j < 5 * c → t.1 128 j = s.1 128 j) : LDQ t c := by
  have ez : thz t = thz s := by unfold thz; rw [h2]
  have eg : thg t 320 = thg s 320 := by unfold thg; rw [h2]
  obtain ⟨a1, a2, a3⟩ := h
  refine ⟨fun j hj => ?_, ?_, fun i hi => ?_⟩
  · rw [ez, h0]
    exact rcq_cg (a1 j hj) (fun k hk => h7 k (by omega)) (fun k hk => h8 k (by omega))
  · rw [h0, simN_cg c (V := s.1 127) h7]; exact a2
  · rw [ez, eg, simT_cg c h7 h8]; exact a3 i hi
theorem ldq_s {s t : GS} {c : Nat} {cc R : Int} (h : LDQ s c) (hw : (s.1 127 c).toInt = cc) (hd : DNE s t cc (5 * c) R) (hR : R ≠ 0) (e7 : t.1 127 = s.1 127) (e8 : t.1 128 = s.1 128) (l1 : cc = 110 → nq (s.1 128 (5 * c)) 0 25) (l2 : cc = 97 → nq (s.1 128 (5 * c + 4)) 0 25) : LDQ t (c + 1) := by
  obtain ⟨a1, a2, a3⟩ := h
  obtain ⟨g, sd⟩ := hd
  obtain ⟨d1, d2, d3, d4⟩ := sd hR
  have ez := thz_g g
  have ef := fpl_cg a3
  refine ⟨fun j hj => ?_, ?_, fun i hi => ?_⟩
  · rw [ez, g.1, e7, e8]
    by_cases k : j = c
    · rw [k]
      refine ⟨fun q => ?_, fun q => ?_, fun q => ?_, fun q1 q2 q3 => ?_⟩
      · rw [hw] at q
        have := d1 q
        exact ⟨l1 q, by omega⟩
      · rw [hw] at q
        obtain ⟨-, p2, p3, p4, p5, p6, -⟩ := d2 q
        rw [ef] at p2
        rw [a2] at p3 p4
        exact ⟨p2, p3, p4, p5, p6, l2 q⟩
      · rw [hw] at q
        exact (d3 q).2.1
      · rw [hw] at q1 q2 q3
        have p := d4 q1 q2 q3
        exact ⟨p.2.1, p.2.2.1⟩
    · exact a1 j (by omega)
  · rw [g.1, e7]
    show _ = simN (s.1 110 0).toInt (s.1 127) c + (if (s.1 127 c).toInt = 110 then 1 else 0)
    rw [hw, ← a2]
    by_cases k1 : cc = 110
    · rw [if_pos k1]; exact (d1 k1).1
    · rw [if_neg k1]
      have e : t.1 110 2 = s.1 110 2 := by
        by_cases k2 : cc = 97
        · exact (d2 k2).1
        · by_cases k3 : cc = 116
          · exact (d3 k3).1
          · exact (d4 k1 k2 k3).1
      rw [e]; omega
  · rw [ez, e7, e8]
    show thg t 320 i = (if (s.1 127 c).toInt = 97 then ubq (simT (thz s) (s.1 127) (s.1 128) c) (fpl (simT (thz s) (s.1 127) (s.1 128) c)) true else if (s.1 127 c).toInt = 116 then ubq (simT (thz s) (s.1 127) (s.1 128) c) (s.1 128 (5 * c)).toNatClampNeg false else simT (thz s) (s.1 127) (s.1 128) c) i
    rw [hw]
    by_cases k2 : cc = 97
    · rw [if_pos k2, (d2 k2).2.2.2.2.2.2, ← ef]
      unfold ubq
      rw [a3 i hi]
    · rw [if_neg k2]
      by_cases k3 : cc = 116
      · rw [if_pos k3, (d3 k3).2.2]
        unfold ubq
        rw [a3 i hi]
      · rw [if_neg k3]
        by_cases k1 : cc = 110
        · rw [(d1 k1).2.2]; exact a3 i hi
        · rw [(d4 k1 k2 k3).2.2.2]; exact a3 i hi
theorem simN_b {b : Nat → Bool} {n : Int} {W N : Nat → Int32} {c : Nat} (h : ∀ j, j < c → RCQ b n W N j) (h0 : 0 ≤ n) (h1 : n ≤ 32) : ∀ k, k ≤ c → 0 ≤ simN n W k ∧ simN n W k ≤ 32 := by
  intro k
  induction k with
  | zero => intro _; exact ⟨h0, h1⟩
  | succ k ih =>
    intro hk
    have q := ih (by omega)
    have r := (h k (by omega)).1
    show 0 ≤ simN n W k + (if (W k).toInt = 110 then 1 else 0) ∧ simN n W k + (if (W k).toInt = 110 then 1 else 0) ≤ 32
    by_cases e : (W k).toInt = 110
    · rw [if_pos e]
      have := (r e).2
      constructor <;> omega
    · rw [if_neg e]; constructor <;> omega
theorem inv_n0 {s : GS} (hI : Inv s) : 0 ≤ (s.1 110 0).toInt ∧ (s.1 110 0).toInt ≤ 32 := hI.2.2.2.2.2.2.1.1
theorem ldq_n {s : GS} {c : Nat} (hI : Inv s) (h : LDQ s c) : 0 ≤ (s.1 110 2).toInt ∧ (s.1 110 2).toInt ≤ 32 := by
  have q := simN_b h.1 (inv_n0 hI).1 (inv_n0 hI).2 c (Nat.le_refl _)
  rw [h.2.1]; exact q
/-- what apply and make do to the arcs that are there -/
def APT (s t : GS) (k g : Nat) : Prop := ((s.1 118 k).toInt = 1 → ∃ v : Int32, v.toInt ≠ 0 ∧ t.1 112 = upd (s.1 112) (160 * g + (s.1 119 k).toNatClampNeg) v) ∧ ((s.1 118 k).toInt = 2 → ∃ v : Int32, v.toInt = 0 ∧ t.1 112 = upd (s.1 112) (160 * g + (s.1 119 k).toNatClampNeg) v) ∧ ((s.1 118 k).toInt ≠ 1 → (s.1 118 k).toInt ≠ 2 → t.1 112 = s.1 112)
theorem apt_1 {s t : GS} {k g i : Nat} {v : Int32} (hk : (s.1 118 k).toInt = 1) (e : t.1 112 = upd (s.1 112) i v) (hi : i = 160 * g + (s.1 119 k).toNatClampNeg) (hv : v.toInt ≠ 0) : APT s t k g := ⟨fun _ => ⟨v, hv, by rw [← hi]; exact e⟩, fun q => by omega, fun q => absurd hk q⟩
theorem apt_2 {s t : GS} {k g i : Nat} {v : Int32} (hk : (s.1 118 k).toInt = 2) (e : t.1 112 = upd (s.1 112) i v) (hi : i = 160 * g + (s.1 119 k).toNatClampNeg) (hv : v.toInt = 0) : APT s t k g := ⟨fun q => by omega, fun _ => ⟨v, hv, by rw [← hi]; exact e⟩, fun _ q => absurd hk q⟩
theorem apt_3 {s t : GS} {k g : Nat} (h1 : (s.1 118 k).toInt ≠ 1) (h2 : (s.1 118 k).toInt ≠ 2) (e : t.1 112 = s.1 112) : APT s t k g := ⟨fun q => absurd q h1, fun q => absurd q h2, fun _ _ => e⟩
def PMK (s t : GS) (w : Int) (a : Nat) : Prop := (w = 0 → (t.1 110 0).toInt = (s.1 110 0).toInt + 1) ∧ (w ≠ 0 → (t.1 110 0).toInt = (s.1 110 0).toInt) ∧ (w = 1 → thg t 0 = ubq (thg s 0) a true) ∧ (w = 2 → thg t 0 = ubq (thg s 0) a false) ∧ (w ≠ 1 → w ≠ 2 → thg t 0 = thg s 0)
theorem thg_0 {s t : GS} {a : Nat} {v : Int32} {b : Bool} (e : t.1 112 = upd (s.1 112) (160 * 0 + a) v) (hv : decide (v.toInt ≠ 0) = b) : thg t 0 = ubq (thg s 0) a b := by
  funext j
  unfold thg ubq
  rw [e]
  unfold upd
  by_cases c : j = a
  · rw [if_pos (by omega), if_pos c]; exact hv
  · rw [if_neg (by omega), if_neg c]
theorem pmk_i {s t u r : GS} {k : Nat} {w a : Int32} (hq : AQ t k 0) (hp : AP t u k 0) (ha : APT t u k 0) (h0 : t.1 110 = s.1 110) (h2 : t.1 112 = s.1 112) (h8 : t.1 118 = upd (s.1 118) k w) (h9 : t.1 119 = upd (s.1 119) k a) (r0 : r.1 = u.1) : PMK s r w.toInt a.toNatClampNeg := by
  have h8 : t.1 118 k = w := by rw [h8, up_e]
  have h9 : t.1 119 k = a := by rw [h9, up_e]
  have n1 := hp.1
  have n0 := hq.2.1
  rw [h0] at n0
  obtain ⟨p1, p2, p3⟩ := ha
  rw [h8] at p1 p2 p3
  rw [h9] at p1 p2
  have eg : thg r 0 = thg u 0 := by unfold thg; rw [r0]
  have es : thg t 0 = thg s 0 := by unfold thg; rw [h2]
  refine ⟨fun q => ?_, fun q => ?_, fun q => ?_, fun q => ?_, fun q1 q2 => ?_⟩
  · rw [r0, n1, cz_s0 (by rw [h8]; exact q), n0]; omega
  · rw [r0, n1, cz_s1 (by rw [h8]; exact q), n0]
  · obtain ⟨v, hv, e⟩ := p1 q
    rw [eg, ← es]; exact thg_0 e (decide_eq_true hv)
  · obtain ⟨v, hv, e⟩ := p2 q
    rw [eg, ← es]; exact thg_0 e (decide_eq_false (fun z => z hv))
  · rw [eg, ← es]; unfold thg; rw [p3 q1 q2]
/-- the second loop of load: after k of c commands -/
def LDK (t : GS) (c k : Nat) : Prop := ∃ (b : Nat → Bool) (n : Int), (∀ j, j < c → RCQ b n (t.1 127) (t.1 128) j) ∧ (t.1 110 0).toInt = simN n (t.1 127) k ∧ ∀ i, i < 160 → thg t 0 i = simT b (t.1 127) (t.1 128) k i
theorem ldk_0 {t : GS} {c : Nat} (h : LDQ t c) : LDK t c 0 := by
  refine ⟨thz t, (t.1 110 0).toInt, h.1, rfl, fun i hi => ?_⟩
  show thg t 0 i = thz t i
  unfold thg thz
  rw [if_pos hi, Nat.zero_add]
theorem ldk_r {t : GS} {c k : Nat} (h : LDK t c k) (hk : k < c) : ((t.1 127 k).toInt = 110 → nq (t.1 128 (5 * k)) 0 25 ∧ (t.1 110 0).toInt ≤ 31) ∧ ((t.1 127 k).toInt = 97 → fpl (thg t 0) < 160 ∧ nq (t.1 128 (5 * k)) 0 ((t.1 110 0).toInt - 1) ∧ nq (t.1 128 (5 * k + 1)) 0 ((t.1 110 0).toInt - 1) ∧ nq (t.1 128 (5 * k + 2)) (-1000000) 1000000 ∧ nq (t.1 128 (5 * k + 3)) 0 1000000 ∧ nq (t.1 128 (5 * k + 4)) 0 25) ∧ ((t.1 127 k).toInt = 116 → nq (t.1 128 (5 * k)) 0 159) ∧ ((t.1 127 k).toInt ≠ 110 → (t.1 127 k).toInt ≠ 97 → (t.1 127 k).toInt ≠ 116 → nq (t.1 128 (5 * k)) 0 159 ∧ nq (t.1 128 (5 * k + 1)) (-1000000) 1000000) := by
  obtain ⟨b, n, h1, h2, h3⟩ := h
  have q := h1 k hk
  unfold RCQ at q
  rw [← h2, ← fpl_cg h3] at q
  exact q
theorem ldk_s {s t : GS} {c k : Nat} {w : Int} {a : Nat} (h : LDK s c k) (hp : PMK s t w a) (e7 : t.1 127 = s.1 127) (e8 : t.1 128 = s.1 128) (hw : ((s.1 127 k).toInt = 110 → w = 0) ∧ ((s.1 127 k).toInt = 97 → w = 1 ∧ a = fpl (thg s 0)) ∧ ((s.1 127 k).toInt = 116 → w = 2 ∧ a = (s.1 128 (5 * k)).toNatClampNeg) ∧ ((s.1 127 k).toInt ≠ 110 → (s.1 127 k).toInt ≠ 97 → (s.1 127 k).toInt ≠ 116 → w = 3)) : LDK t c (k + 1) := by
  obtain ⟨b, n, h1, h2, h3⟩ := h
  obtain ⟨p0, p1, p2, p3, p4⟩ := hp
  obtain ⟨w0, w1, w2, w3⟩ := hw
  refine ⟨b, n, by rw [e7, e8]; exact h1, ?_, fun i hi => ?_⟩
  · rw [e7]
    show _ = simN n (s.1 127) k + (if (s.1 127 k).toInt = 110 then 1 else 0)
    rw [← h2]
    by_cases c1 : (s.1 127 k).toInt = 110
    · rw [if_pos c1]; exact p0 (w0 c1)
    · rw [if_neg c1]
      have hne : w ≠ 0 := by
        by_cases c2 : (s.1 127 k).toInt = 97
        · have := (w1 c2).1; omega
        · by_cases c3 : (s.1 127 k).toInt = 116
          · have := (w2 c3).1; omega
          · have := w3 c1 c2 c3; omega
      rw [p1 hne]; omega
  · rw [e7, e8]
    show thg t 0 i = (if (s.1 127 k).toInt = 97 then ubq (simT b (s.1 127) (s.1 128) k) (fpl (simT b (s.1 127) (s.1 128) k)) true else if (s.1 127 k).toInt = 116 then ubq (simT b (s.1 127) (s.1 128) k) (s.1 128 (5 * k)).toNatClampNeg false else simT b (s.1 127) (s.1 128) k) i
    by_cases c2 : (s.1 127 k).toInt = 97
    · rw [if_pos c2, p2 (w1 c2).1, (w1 c2).2, fpl_cg h3]
      unfold ubq
      rw [h3 i hi]
    · rw [if_neg c2]
      by_cases c3 : (s.1 127 k).toInt = 116
      · rw [if_pos c3, p3 (w2 c3).1, (w2 c3).2]
        unfold ubq
        rw [h3 i hi]
      · rw [if_neg c3]
        have hne : w ≠ 1 ∧ w ≠ 2 := by
          by_cases c1 : (s.1 127 k).toInt = 110
          · have := w0 c1; omega
          · have := w3 c1 c2 c3; omega
        rw [p4 hne.1 hne.2]; exact h3 i hi
