/-! A ROW IS WRITTEN INTO THE LOG -/
theorem gc_w {Z : AmZ} {d k mc ms : Nat} {as : List Value} {ws : va_W} {P P' : AmR} {X : AmX} (h : GC Z d k as ws mc ms P X) (hp : ∀ v u, P v u → P' v u) : GC Z d k as ws mc ms P' X := fun post xp hP hX => h post xp (fun v u q => hP v u (hp v u q)) hX
theorem k_130_1p {Z : AmZ} {A : Nat → Nat} {s : GS} {ex : va_W} {d : Nat} {X : AmX} {u_2_0 : Int32} (hd : 5 ≤ d) (hI : Inv s) (e_2_0 : u_2_0 = s.2.2.1 2 0) (r_2_0 : In u_2_0 0 3999) : GC Z d 130 [.ref (A 1)] (WW Z A s ++ ex) (lc s) (lsl s) (fun v u => ∃ a : Nat, ∃ t : GS, Inv t ∧ Fr ([30], [], [(30, 0)], []) s t ∧ (7 * (s.2.2.1 2 0).toInt + 7 ≤ (t.2.2.1 30 0).toInt) ∧ ∃ z : Int32, v = some (.int z) ∧ u = WW Z (ax A 30 a) t ++ ex ∧ In z 0 27993 ∧ (z.toInt = 7 * (s.2.2.1 2 0).toInt) ∧ (∀ k : Nat, (k : Int) < (s.2.2.1 30 0).toInt → t.1 30 k = s.1 30 k) ∧ ((t.2.2.1 30 0).toInt = nln s)) X :=
  gc_w (k_130_1 hd hI e_2_0 r_2_0) (fun v u ⟨a, t, h1, h2, z, h3, h4, h5, h6, h7, h8⟩ => ⟨a, t, h1, h2, by rw [h8]; exact (nln_b (inv_F hI 448 28000 (q := 30) (j := 0) rfl rfl) (by rw [← e_2_0]; exact r_2_0)).2.2, z, h3, h4, h5, h6, h7, h8⟩)
/-- a row of four, as note writes it -/
def RWN (c : Nat) (d x a b : Int32) : Prop :=
  if d.toInt = 0 then x.toInt = (c : Int) ∧ (c : Int) ≤ 31 ∧ In a 0 25
  else if d.toInt = 1 then False
  else if d.toInt = 2 then In x 0 159
  else if d.toInt = 3 then In x 0 159 ∧ (a.toInt = 0 → In b (-1000000) 1000000) ∧ (a.toInt = 1 → In b 0 1000000) ∧ (a.toInt ≠ 0 → a.toInt ≠ 1 → In b 0 25)
  else In x 0 31 ∧ In a 0 25
theorem ug_at {w : Nat → Int32} {j : Nat} {x : Int32} : upd w j x j = x := by unfold upd; rw [if_pos rfl]
theorem ug_ne {w : Nat → Int32} {i j : Nat} {x : Int32} (h : i ≠ j) : upd w j x i = w i := by unfold upd; rw [if_neg h]
theorem nt_pre {w : Nat → Int32} {k i : Nat} {d x a b : Int32} (h : i < 7 * k) : (upd (upd (upd (upd w (7 * k) d) (7 * k + 1) x) (7 * k + 2) a) (7 * k + 3) b) i = w i := by
  rw [ug_ne (by omega), ug_ne (by omega), ug_ne (by omega), ug_ne (by omega)]
theorem ar_pre {w : Nat → Int32} {k i : Nat} {x f t g r c : Int32} (h : i < 7 * k) : (upd (upd (upd (upd (upd (upd (upd w (7 * k) (Int32.ofInt 1)) (7 * k + 1) x) (7 * k + 2) f) (7 * k + 3) t) (7 * k + 4) g) (7 * k + 5) r) (7 * k + 6) c) i = w i := by
  rw [ug_ne (by omega), ug_ne (by omega), ug_ne (by omega), ug_ne (by omega), ug_ne (by omega), ug_ne (by omega), ug_ne (by omega)]
theorem nt_rw {w : Nat → Int32} {k : Nat} {d x a b : Int32} (h : RWN (cz7 w k) d x a b) : RW7 (upd (upd (upd (upd w (7 * k) d) (7 * k + 1) x) (7 * k + 2) a) (7 * k + 3) b) k := by
  have e0 : (upd (upd (upd (upd w (7 * k) d) (7 * k + 1) x) (7 * k + 2) a) (7 * k + 3) b) (7 * k) = d := by rw [ug_ne (by omega), ug_ne (by omega), ug_ne (by omega), ug_at]
  have e1 : (upd (upd (upd (upd w (7 * k) d) (7 * k + 1) x) (7 * k + 2) a) (7 * k + 3) b) (7 * k + 1) = x := by rw [ug_ne (by omega), ug_ne (by omega), ug_at]
  have e2 : (upd (upd (upd (upd w (7 * k) d) (7 * k + 1) x) (7 * k + 2) a) (7 * k + 3) b) (7 * k + 2) = a := by rw [ug_ne (by omega), ug_at]
  have e3 : (upd (upd (upd (upd w (7 * k) d) (7 * k + 1) x) (7 * k + 2) a) (7 * k + 3) b) (7 * k + 3) = b := by rw [ug_at]
  have ec : cz7 (upd (upd (upd (upd w (7 * k) d) (7 * k + 1) x) (7 * k + 2) a) (7 * k + 3) b) k = cz7 w k := cz7_cg (fun i hi => nt_pre hi)
  unfold RW7
  unfold RWN at h
  rw [e0, e1, e2, e3, ec]
  by_cases h0 : d.toInt = 0
  · rw [if_pos h0] at h ⊢; exact h
  · rw [if_neg h0] at h ⊢
    by_cases h1 : d.toInt = 1
    · rw [if_pos h1] at h; exact h.elim
    · rw [if_neg h1] at h ⊢; exact h
theorem ar_rw {w : Nat → Int32} {k : Nat} {x f t g r c : Int32} (hx : In x 0 159) (hf : 0 ≤ f.toInt ∧ f.toInt < (cz7 w k : Int)) (ht : 0 ≤ t.toInt ∧ t.toInt < (cz7 w k : Int)) (hg : In g (-1000000) 1000000) (hr : In r 0 1000000) (hc : In c 0 25) : RW7 (upd (upd (upd (upd (upd (upd (upd w (7 * k) (Int32.ofInt 1)) (7 * k + 1) x) (7 * k + 2) f) (7 * k + 3) t) (7 * k + 4) g) (7 * k + 5) r) (7 * k + 6) c) k := by
  have e0 : (upd (upd (upd (upd (upd (upd (upd w (7 * k) (Int32.ofInt 1)) (7 * k + 1) x) (7 * k + 2) f) (7 * k + 3) t) (7 * k + 4) g) (7 * k + 5) r) (7 * k + 6) c) (7 * k) = Int32.ofInt 1 := by rw [ug_ne (by omega), ug_ne (by omega), ug_ne (by omega), ug_ne (by omega), ug_ne (by omega), ug_ne (by omega), ug_at]
  have e1 : (upd (upd (upd (upd (upd (upd (upd w (7 * k) (Int32.ofInt 1)) (7 * k + 1) x) (7 * k + 2) f) (7 * k + 3) t) (7 * k + 4) g) (7 * k + 5) r) (7 * k + 6) c) (7 * k + 1) = x := by rw [ug_ne (by omega), ug_ne (by omega), ug_ne (by omega), ug_ne (by omega), ug_ne (by omega), ug_at]
  have e2 : (upd (upd (upd (upd (upd (upd (upd w (7 * k) (Int32.ofInt 1)) (7 * k + 1) x) (7 * k + 2) f) (7 * k + 3) t) (7 * k + 4) g) (7 * k + 5) r) (7 * k + 6) c) (7 * k + 2) = f := by rw [ug_ne (by omega), ug_ne (by omega), ug_ne (by omega), ug_ne (by omega), ug_at]
  have e3 : (upd (upd (upd (upd (upd (upd (upd w (7 * k) (Int32.ofInt 1)) (7 * k + 1) x) (7 * k + 2) f) (7 * k + 3) t) (7 * k + 4) g) (7 * k + 5) r) (7 * k + 6) c) (7 * k + 3) = t := by rw [ug_ne (by omega), ug_ne (by omega), ug_ne (by omega), ug_at]
  have e4 : (upd (upd (upd (upd (upd (upd (upd w (7 * k) (Int32.ofInt 1)) (7 * k + 1) x) (7 * k + 2) f) (7 * k + 3) t) (7 * k + 4) g) (7 * k + 5) r) (7 * k + 6) c) (7 * k + 4) = g := by rw [ug_ne (by omega), ug_ne (by omega), ug_at]
  have e5 : (upd (upd (upd (upd (upd (upd (upd w (7 * k) (Int32.ofInt 1)) (7 * k + 1) x) (7 * k + 2) f) (7 * k + 3) t) (7 * k + 4) g) (7 * k + 5) r) (7 * k + 6) c) (7 * k + 5) = r := by rw [ug_ne (by omega), ug_at]
  have e6 : (upd (upd (upd (upd (upd (upd (upd w (7 * k) (Int32.ofInt 1)) (7 * k + 1) x) (7 * k + 2) f) (7 * k + 3) t) (7 * k + 4) g) (7 * k + 5) r) (7 * k + 6) c) (7 * k + 6) = c := by rw [ug_at]
  have ec : cz7 (upd (upd (upd (upd (upd (upd (upd w (7 * k) (Int32.ofInt 1)) (7 * k + 1) x) (7 * k + 2) f) (7 * k + 3) t) (7 * k + 4) g) (7 * k + 5) r) (7 * k + 6) c) k = cz7 w k := cz7_cg (fun i hi => ar_pre hi)
  unfold RW7
  rw [e0, e1, e2, e3, e4, e5, e6, ec, if_neg (by decide), if_pos (by decide)]
  exact ⟨hx, hf, ht, hg, hr, hc⟩
theorem kv_cg {s t : GS} {b : Nat} (h : KV s b) (hv : t.2.2.1 b 0 = s.2.2.1 b 0) (hn : t.2.2.1 b 1 = s.2.2.1 b 1) (h1 : t.1 (b + 2) = s.1 (b + 2)) (h2 : t.1 (b + 3) = s.1 (b + 3)) (hp : ∀ k : Nat, (k : Int) < 7 * (s.2.2.1 b 0).toInt → t.1 30 k = s.1 30 k) : KV t b := by
  unfold KV
  rw [hv, hn, h1, h2, cz7_cg (w := s.1 30) (w2 := t.1 30) (fun k hk => hp k (by omega))]
  exact h
/-- a row more: t before it is carried out, u behind it -/
theorem kl_row {s t u : GS} (hK : KL s) (hv : In (s.2.2.1 2 0) 0 3999) (hp : ∀ k : Nat, (k : Int) < 7 * (s.2.2.1 2 0).toInt → t.1 30 k = s.1 30 k) (hr : RW7 (t.1 30) (s.2.2.1 2 0).toInt.toNat) (hl : 7 * (s.2.2.1 2 0).toInt + 7 ≤ (t.2.2.1 30 0).toInt) (hu : u.1 30 = t.1 30) (hlu : u.2.2.1 30 0 = t.2.2.1 30 0) (hvu : (u.2.2.1 2 0).toInt = (s.2.2.1 2 0).toInt + 1) (v32 : u.2.2.1 32 0 = s.2.2.1 32 0) (n32 : u.2.2.1 32 1 = s.2.2.1 32 1) (f32 : u.1 34 = s.1 34) (t32 : u.1 35 = s.1 35) (hkv : KV u 2) : KL u := by
  obtain ⟨k1, k2, k3, k4, k5⟩ := hK
  obtain ⟨v1, v2⟩ := hv
  refine ⟨fun k hk => ?_, by rw [hlu]; omega, by rw [v32]; omega, hkv, ?_⟩
  · rw [hu]
    by_cases e : (k : Int) < (s.2.2.1 2 0).toInt
    · exact rw7_cg (fun i hi => hp i (by omega)) (k1 k e)
    · have : k = (s.2.2.1 2 0).toInt.toNat := by omega
      rw [this]
      exact hr
  · exact kv_cg k5 v32 n32 f32 t32 (fun k hk => by rw [hu]; exact hp k (by omega))
/-- what leaves log and graphs as they are -/
def klok (L : FM) : Bool := qI L.1 30 && qI L.1 4 && qI L.1 5 && qI L.1 34 && qI L.1 35 && qF L.2.2.1 30 0 && qF L.2.2.1 2 0 && qF L.2.2.1 2 1 && qF L.2.2.1 32 0 && qF L.2.2.1 32 1
theorem kl_fr {s t : GS} {L : FM} (h : KL s) (hF : Fr L s t) (hk : klok L = true) : KL t := by
  unfold klok at hk
  simp only [Bool.and_eq_true] at hk
  obtain ⟨⟨⟨⟨⟨⟨⟨⟨⟨a1, a2⟩, a3⟩, a4⟩, a5⟩, b1⟩, b2⟩, b3⟩, b4⟩, b5⟩ := hk
  unfold KL KV at h ⊢
  rw [hF.1 30 a1, show (2 + 2) = 4 from rfl, show (2 + 3) = 5 from rfl, show (32 + 2) = 34 from rfl, show (32 + 3) = 35 from rfl, hF.1 4 a2, hF.1 5 a3, hF.1 34 a4, hF.1 35 a5, hF.2.2.1 30 0 b1, hF.2.2.1 2 0 b2, hF.2.2.1 2 1 b3, hF.2.2.1 32 0 b4, hF.2.2.1 32 1 b5]
  exact h
/-- how much room is left for the log to grow -/
def lgS (s : GS) : Nat := (2 * (28000 - (s.2.2.1 30 0).toInt) + (if (s.2.2.1 30 0).toInt < 28000 then 28000 else 0)).toNat
def lgC (s : GS) : Nat := ((28000 - (s.2.2.1 30 0).toInt + 6) / 7).toNat
theorem lgC_le {s : GS} (hl : In (s.2.2.1 30 0) 448 28000) : lgC s ≤ 3940 := by
  obtain ⟨l1, l2⟩ := hl
  unfold lgC
  omega
theorem lgS_le {s : GS} (hl : In (s.2.2.1 30 0) 448 28000) : lgS s ≤ 83110 := by
  obtain ⟨l1, l2⟩ := hl
  unfold lgS
  split <;> omega
theorem lg_cg {s t : GS} (h : t.2.2.1 30 0 = s.2.2.1 30 0) : lgC t = lgC s ∧ lgS t = lgS s := by
  unfold lgC lgS
  rw [h]
  exact ⟨rfl, rfl⟩
theorem lg_lc {s : GS} (hl : In (s.2.2.1 30 0) 448 28000) : lc s ≤ lgC s ∧ lsl s ≤ lgS s := by
  obtain ⟨l1, l2⟩ := hl
  unfold lc lsl nln lgC lgS
  by_cases h : (s.2.2.1 30 0).toInt < 7 * (s.2.2.1 2 0).toInt + 7 ∧ (s.2.2.1 2 0).toInt ≤ 3999
  · rw [if_pos h, if_pos h, if_pos h.1, if_pos (show (s.2.2.1 30 0).toInt < 28000 by omega)]
    omega
  · rw [if_neg h, if_neg h]
    exact ⟨Nat.zero_le _, Nat.zero_le _⟩
theorem lgt_st {s t : GS} (hl : In (s.2.2.1 30 0) 448 28000) (hv : (s.2.2.1 2 0).toInt ≤ 3999) (h7 : 7 * (s.2.2.1 2 0).toInt ≤ (s.2.2.1 30 0).toInt) (ht : (t.2.2.1 30 0).toInt = nln s) : lgC t + lc s ≤ lgC s ∧ lgS t + lsl s ≤ lgS s := by
  obtain ⟨l1, l2⟩ := hl
  by_cases h : (s.2.2.1 30 0).toInt < 7 * (s.2.2.1 2 0).toInt + 7
  · have e1 : lc s = 1 := by unfold lc; rw [if_pos ⟨h, hv⟩]
    have e2 : lsl s = (nln s).toNat := by unfold lsl; rw [if_pos ⟨h, hv⟩]
    have e3 : nln s = min (2 * (s.2.2.1 30 0).toInt) 28000 := by unfold nln; rw [if_pos h]; omega
    rw [e1, e2]
    unfold lgC lgS
    rw [ht, e3]
    refine ⟨by omega, ?_⟩
    rw [if_pos (show (s.2.2.1 30 0).toInt < 28000 by omega)]
    split <;> omega
  · have e1 : lc s = 0 := by unfold lc; rw [if_neg (fun z => h z.1)]
    have e2 : lsl s = 0 := by unfold lsl; rw [if_neg (fun z => h z.1)]
    have e3 : nln s = (s.2.2.1 30 0).toInt := by unfold nln; rw [if_neg h]
    rw [e1, e2]
    unfold lgC lgS
    rw [ht, e3]
    exact ⟨Nat.le_refl _, Nat.le_refl _⟩
def ksok2 (L : FM) : Bool := qI L.1 30 && qI L.1 4 && qI L.1 5 && qF L.2.2.1 30 0 && qF L.2.2.1 2 0 && qF L.2.2.1 2 1
/-- the shown graph is another -/
theorem kl_sh {s t : GS} {L : FM} (h : KL s) (hF : Fr L s t) (hk : ksok2 L = true) (hv : (t.2.2.1 32 0).toInt ≤ (s.2.2.1 2 0).toInt) (hkv : KV t 32) : KL t := by
  unfold ksok2 at hk
  simp only [Bool.and_eq_true] at hk
  obtain ⟨⟨⟨⟨⟨a1, a2⟩, a3⟩, b1⟩, b2⟩, b3⟩ := hk
  obtain ⟨k1, k2, k3, k4, k5⟩ := h
  refine ⟨?_, ?_, ?_, kv_cg k4 (hF.2.2.1 2 0 b2) (hF.2.2.1 2 1 b3) (hF.1 4 a2) (hF.1 5 a3) (fun k _ => by rw [hF.1 30 a1]), hkv⟩
  · rw [hF.1 30 a1, hF.2.2.1 2 0 b2]; exact k1
  · rw [hF.2.2.1 2 0 b2, hF.2.2.1 30 0 b1]; exact k2
  · rw [hF.2.2.1 2 0 b2]; exact hv
/-- the newest graph is again what it was at s; t: what came between -/
theorem kl_bk {s u : GS} (h : KL s) (hp : ∀ k : Nat, (k : Int) < 7 * (s.2.2.1 2 0).toInt → u.1 30 k = s.1 30 k) (hl : 7 * (s.2.2.1 2 0).toInt ≤ (u.2.2.1 30 0).toInt) (v2 : u.2.2.1 2 0 = s.2.2.1 2 0) (n2 : u.2.2.1 2 1 = s.2.2.1 2 1) (f2 : KN (u.1 4) (u.1 5) (s.2.2.1 2 1)) (v32 : u.2.2.1 32 0 = s.2.2.1 32 0) (n32 : u.2.2.1 32 1 = s.2.2.1 32 1) (f32 : u.1 34 = s.1 34) (t32 : u.1 35 = s.1 35) : KL u := by
  obtain ⟨k1, k2, k3, k4, k5⟩ := h
  refine ⟨fun k hk => ?_, by rw [v2]; exact hl, by rw [v2, v32]; exact k3, ⟨?_, ?_⟩, kv_cg k5 v32 n32 f32 t32 (fun k hk => hp k (by omega))⟩
  · rw [v2] at hk
    exact rw7_cg (fun i hi => hp i (by omega)) (k1 k hk)
  · rw [n2, v2, cz7_cg (w := s.1 30) (w2 := u.1 30) (fun k hk => hp k (by omega))]
    exact k4.1
  · rw [n2]; exact f2
theorem cp_get {f g : Nat → Int32} {p n : Nat} (h : p < n) : va_cpy f g (Int32.ofInt 0).toNatClampNeg (Int32.ofInt 0).toNatClampNeg n p = f p := by
  have e : (Int32.ofInt 0).toNatClampNeg = 0 := rfl
  unfold va_cpy
  rw [e, if_pos ⟨Nat.zero_le p, by omega⟩, Nat.zero_add, Nat.sub_zero]
theorem kn_cp {f t f2 t2 : Nat → Int32} {n : Int32} (h : KN f t n) (h1 : ∀ p, p < 160 → f2 p = f p) (h2 : ∀ p, p < 160 → t2 p = t p) : KN f2 t2 n := by
  intro p hp
  rw [h1 p hp, h2 p hp]
  exact h p hp
