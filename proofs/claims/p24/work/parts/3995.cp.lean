/-! THE CLASS'S PARSER: its draft in postfix -/
def CDL (s : GS) : Nat := (s.2.2.1 102 4).toInt.toNat
/-- what a piece of the parser adds: so many values -/
def PCV (s t : GS) (k : Nat) : Prop := CDL s ≤ CDL t ∧ (∀ i, i < CDL s → t.1 104 i = s.1 104 i) ∧ ∀ a e, a ≤ CDL s → ht (fun i => hc (s.1 104 i)) a (CDL s - a) = some e → ht (fun i => hc (t.1 104 i)) a (CDL t - a) = some (e + k)
theorem pv_rf {s : GS} : PCV s s 0 := ⟨Nat.le_refl _, fun _ _ => rfl, fun _ _ _ h => h⟩
theorem pv_tr {s t u : GS} {j k : Nat} (h : PCV s t j) (h2 : PCV t u k) : PCV s u (j + k) := by
  refine ⟨Nat.le_trans h.1 h2.1, fun i hi => (h2.2.1 i (Nat.lt_of_lt_of_le hi h.1)).trans (h.2.1 i hi), fun a e ha he => ?_⟩
  have h3 := h2.2.2 a (e + j) (Nat.le_trans ha h.1) (h.2.2 a e ha he)
  rw [h3, Nat.add_assoc]
theorem pv_sm {s t : GS} (h1 : t.1 104 = s.1 104) (h2 : t.2.2.1 102 4 = s.2.2.1 102 4) : PCV s t 0 := by
  have e : CDL t = CDL s := by unfold CDL; rw [h2]
  refine ⟨by omega, fun i _ => by rw [h1], fun a x ha he => ?_⟩
  rw [e, h1]
  exact he
/-- one code more -/
theorem pv_st {s t u : GS} {c : Int32} {j k : Nat} (h : PCV s t j) (h0 : 0 ≤ (t.2.2.1 102 4).toInt) (hu : u.1 104 = upd (t.1 104) (t.2.2.1 102 4).toNatClampNeg c) (hl : (u.2.2.1 102 4).toInt = (t.2.2.1 102 4).toInt + 1) (hh : ∀ e, hc c (e + j) = some (e + k)) : PCV s u k := by
  have e : CDL u = CDL t + 1 := by unfold CDL; omega
  have en : (t.2.2.1 102 4).toNatClampNeg = CDL t := rfl
  rw [en] at hu
  have h1 := h.1
  refine ⟨by omega, fun i hi => ?_, fun a x ha he => ?_⟩
  · rw [hu]
    unfold upd
    rw [if_neg (by omega)]
    exact h.2.1 i hi
  · have h3 := h.2.2 a x ha he
    rw [e, show CDL t + 1 - a = (CDL t - a) + 1 by omega]
    show (ht _ a (CDL t - a)).bind (hc (u.1 104 (a + (CDL t - a)))) = _
    rw [show a + (CDL t - a) = CDL t by omega, hu]
    have e1 : upd (t.1 104) (CDL t) c (CDL t) = c := by unfold upd; rw [if_pos rfl]
    rw [e1]
    have e3 : ht (fun i => hc (upd (t.1 104) (CDL t) c i)) a (CDL t - a) = ht (fun i => hc (t.1 104 i)) a (CDL t - a) := by
      refine ht_cg fun i h4 h5 => ?_
      show hc (upd (t.1 104) (CDL t) c i) = hc (t.1 104 i)
      unfold upd
      rw [if_neg (by omega)]
    rw [e3, h3]
    exact hh x
theorem hc_a {c : Int32} (h : c.toInt ≤ 1000008) (e : Nat) : hc c (e + 0) = some (e + 1) := by
  unfold hc
  by_cases h1 : c.toInt < 1000000
  · rw [if_pos h1]
  · rw [if_neg h1, if_pos (by omega), if_pos h]
theorem hc_n {c : Int32} (h : c.toInt = 1000226) (e : Nat) : hc c (e + 1) = some (e + 1) := by
  unfold hc
  rw [if_neg (by omega), if_neg (by omega), if_pos h, if_pos (by omega)]
theorem hc_b {c : Int32} (h : 1000100 ≤ c.toInt) (h2 : c.toInt ≠ 1000226) (e : Nat) : hc c (e + 2) = some (e + 1) := by
  unfold hc
  rw [if_neg (by omega), if_neg (by omega), if_neg h2, if_pos (by omega)]; rfl
/-- a token that is read: where it lies, how great a number is -/
def TKA (s : GS) : Prop := (s.2.2.1 46 3).toInt = 0 ∨ (s.2.2.1 46 4).toInt + 1 ≤ (s.2.2.1 46 2).toInt
def TKV (s : GS) : Prop := (s.2.2.1 46 3).toInt = 2 → (s.2.2.1 46 5).toInt ≤ 999999
def TK (s : GS) : Prop := TKA s ∧ TKV s
theorem tk_fr {s t : GS} {L : FM} (hF : Fr L s t) (hk : (qF L.2.2.1 46 2 && qF L.2.2.1 46 3 && qF L.2.2.1 46 4 && qF L.2.2.1 46 5) = true) (h : TK s) : TK t := by
  simp only [Bool.and_eq_true] at hk
  unfold TK TKA TKV at h ⊢
  rw [hF.2.2.1 46 2 hk.1.1.1, hF.2.2.1 46 3 hk.1.1.2, hF.2.2.1 46 4 hk.1.2, hF.2.2.1 46 5 hk.2]
  exact h
theorem tka_1 {s : GS} {x y z : Int32} (h : TK s) (ex : x = s.2.2.1 46 3) (ey : y = s.2.2.1 46 4) (ez : z = s.2.2.1 46 2) (hx : x.toInt ≠ 0) : y.toInt + 1 ≤ z.toInt := by
  rcases h.1 with h | h
  · rw [← ex] at h; exact absurd h hx
  · rw [← ey, ← ez] at h; exact h
theorem tkv_1 {s : GS} {x y : Int32} (h : TK s) (ex : x = s.2.2.1 46 3) (ey : y = s.2.2.1 46 5) (hx : x.toInt = 2) : y.toInt ≤ 999999 := by
  have h2 := h.2
  unfold TKV at h2
  rw [← ex, ← ey] at h2
  exact h2 hx
/-- a number's digits -/
theorem dg_st {a d : Int} {n : Int} (hn : 0 ≤ n) (h0 : 0 ≤ a) (h : a < (10 : Int) ^ n.toNat) (hd : 0 ≤ d ∧ d ≤ 9) : 0 ≤ a * 10 + d ∧ a * 10 + d < (10 : Int) ^ (n + 1).toNat := by
  rw [show (n + 1).toNat = n.toNat + 1 by omega, Int.pow_succ]
  generalize (10 : Int) ^ n.toNat = p at h ⊢
  omega
theorem p10_pos : ∀ n : Nat, 0 < (10 : Int) ^ n := by
  intro n
  induction n with
  | zero => decide
  | succ n ih => rw [Int.pow_succ]; omega
theorem p10_le {a : Nat} : ∀ c : Nat, (10 : Int) ^ a ≤ (10 : Int) ^ (a + c) := by
  intro c
  induction c with
  | zero => exact Int.le_refl _
  | succ c ih =>
    rw [← Nat.add_assoc, Int.pow_succ]
    have := p10_pos (a + c)
    omega
theorem dg_le {a n m : Int} (hn : 0 ≤ n) (hm : n ≤ m) (h : a < (10 : Int) ^ n.toNat) : a < (10 : Int) ^ m.toNat := by
  refine Int.lt_of_lt_of_le h ?_
  have h2 := p10_le (a := n.toNat) (m.toNat - n.toNat)
  rw [show n.toNat + (m.toNat - n.toNat) = m.toNat by omega] at h2
  exact h2
theorem dg_6 {a n : Int} (hn : 0 ≤ n) (hm : n ≤ 6) (h : a < (10 : Int) ^ n.toNat) : a ≤ 999999 := by
  have h2 := dg_le hn hm h
  have e : (10 : Int) ^ (6 : Int).toNat = 1000000 := by decide
  rw [e] at h2
  omega
theorem dg_7 {a n : Int} (hn : 0 ≤ n) (hm : n ≤ 7) (h : a < (10 : Int) ^ n.toNat) : a ≤ 9999999 := by
  have h2 := dg_le hn hm h
  have e : (10 : Int) ^ (7 : Int).toNat = 10000000 := by decide
  rw [e] at h2
  omega
/-- the program that is taken over -/
theorem kc_ad {s1 s2 : GS} {x y : Int32} {c : Nat → Int32} (p1 : ht (fun i => hc (s1.1 104 i)) 0 (CDL s1) = some 1) (p2 : PCV s1 s2 1) (hx : x.toInt.toNat = CDL s1) (hy : y.toInt.toNat = CDL s2) (hcp : ∀ k : Nat, k < CDL s2 → c k = s2.1 104 k) : KC c x y := by
  have h1 := p2.1
  unfold KC
  have ex : x.toNatClampNeg = CDL s1 := hx
  have ey : y.toNatClampNeg = CDL s2 := hy
  rw [ex, ey]
  have e1 : ht (fun i => hc (c i)) 0 (CDL s1) = ht (fun i => hc (s1.1 104 i)) 0 (CDL s1) := ht_cg fun i _ h3 => by
    show hc (c i) = hc (s1.1 104 i)
    rw [hcp i (by omega), p2.2.1 i (by omega)]
  have e2 : ht (fun i => hc (c i)) (CDL s1) (CDL s2 - CDL s1) = ht (fun i => hc (s2.1 104 i)) (CDL s1) (CDL s2 - CDL s1) := ht_cg fun i _ h3 => by
    show hc (c i) = hc (s2.1 104 i)
    rw [hcp i (by omega)]
  have e3 := p2.2.2 (CDL s1) 0 (Nat.le_refl _) (by rw [Nat.sub_self]; rfl)
  rw [e1, p1, e2, e3]
  exact ⟨rfl, rfl⟩
def kcok (L : FM) : Bool := krok L && qI L.1 134 && qI L.1 184 && qI L.1 185 && qI L.1 186 && qG1 L 2 && qG2 L 2 && qG3 L 2 && qG4 L 2 && qG5 L 2 && qG1 L 32 && qG2 L 32 && qG3 L 32 && qG4 L 32 && qG5 L 32
theorem kk_cp {s t : GS} {L : FM} (h : KK (mI s) (mF s)) (hF : Fr L s t) (hk : kcok L = true) (hp : KC (t.1 103) (t.2.2.1 102 1) (t.2.2.1 102 2)) : KK (mI t) (mF t) := by
  unfold kcok at hk
  simp only [Bool.and_eq_true] at hk
  obtain ⟨⟨⟨⟨⟨⟨⟨⟨⟨⟨⟨⟨⟨⟨a0, a1⟩, a2⟩, a3⟩, a4⟩, b1⟩, b2⟩, b3⟩, b4⟩, b5⟩, c1⟩, c2⟩, c3⟩, c4⟩, c5⟩ := hk
  refine ⟨kk_g h.1 hF b1 b2 b3 b4 b5, kk_g h.2.1 hF c1 c2 c3 c4 c5, ⟨?_, ?_, ?_⟩, kk_r h.2.2.2 hF a0⟩
  · rw [fr_mI hF a1]; exact h.2.2.1.1
  · rw [fr_mI hF a2, fr_mI hF a3, fr_mI hF a4]; exact h.2.2.1.2.1
  · rw [mI_at rfl, mF_at rfl, mF_at rfl]; exact hp
