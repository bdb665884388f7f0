/-! PROGRAMS IN POSTFIX: how many values lie on the pile -/
theorem ht_cg {st st2 : Nat → Nat → Option Nat} {a : Nat} : ∀ {n : Nat}, (∀ i, a ≤ i → i < a + n → st i = st2 i) → ht st a n = ht st2 a n := by
  intro n
  induction n with
  | zero => intro _; rfl
  | succ n ih =>
    intro h
    show (ht st a n).bind (st (a + n)) = (ht st2 a n).bind (st2 (a + n))
    rw [ih (fun i h1 h2 => h i h1 (by omega)), h (a + n) (by omega) (by omega)]
theorem ht_le {st : Nat → Nat → Option Nat} (hst : ∀ i h k, st i h = some k → k ≤ h + 1) {a : Nat} : ∀ {n k : Nat}, ht st a n = some k → k ≤ n := by
  intro n
  induction n with
  | zero =>
    intro k h
    have h2 : (some 0 : Option Nat) = some k := h
    cases h2
    exact Nat.le_refl _
  | succ n ih =>
    intro k h
    have h2 : (ht st a n).bind (st (a + n)) = some k := h
    cases e : ht st a n with
    | none => rw [e] at h2; cases h2
    | some j =>
      rw [e] at h2
      have h3 : st (a + n) j = some k := h2
      have := hst _ _ _ h3
      have := ih e
      omega
theorem ht_pre {st : Nat → Nat → Option Nat} {a n : Nat} : ∀ {m : Nat}, (ht st a m).isSome = true → n ≤ m → (ht st a n).isSome = true := by
  intro m
  induction m with
  | zero => intro h hn; have : n = 0 := by omega
            subst this; exact h
  | succ m ih =>
    intro h hn
    by_cases e : n = m + 1
    · subst e; exact h
    · refine ih ?_ (by omega)
      have h2 : ((ht st a m).bind (st (a + m))).isSome = true := h
      cases e : ht st a m with
      | none => rw [e] at h2; cases h2
      | some j => rfl
theorem ht_next {st : Nat → Nat → Option Nat} {a n m k : Nat} (h : ht st a n = some k) (hm : (ht st a m).isSome = true) (hn : n < m) : ∃ j, st (a + n) k = some j ∧ ht st a (n + 1) = some j := by
  have h1 := ht_pre hm (show n + 1 ≤ m by omega)
  have e : ht st a (n + 1) = st (a + n) k := by
    show (ht st a n).bind (st (a + n)) = _
    rw [h]; rfl
  rw [e] at h1
  obtain ⟨j, hj⟩ := Option.isSome_iff_exists.mp h1
  exact ⟨j, hj, by rw [e]; exact hj⟩
theorem hs_0 {w v : Int32} {h k : Nat} (e : hs w v h = some k) (hw : w.toInt < 2) : k = h + 1 ∧ (w.toInt ≠ 0 → 0 ≤ v.toInt ∧ v.toInt ≤ 8) := by
  unfold hs at e
  by_cases h0 : w.toInt = 0
  · rw [if_pos h0] at e; cases e; exact ⟨rfl, fun q => absurd h0 q⟩
  · rw [if_neg h0] at e
    by_cases h1 : w.toInt = 1
    · rw [if_pos h1] at e
      by_cases hv : 0 ≤ v.toInt ∧ v.toInt ≤ 8
      · rw [if_pos hv] at e; cases e; exact ⟨rfl, fun _ => hv⟩
      · rw [if_neg hv] at e; cases e
    · rw [if_neg h1, if_neg (by omega), if_neg (by omega)] at e; cases e
theorem hs_2 {w v : Int32} {h k : Nat} (e : hs w v h = some k) (hw : w.toInt = 2) : 1 ≤ h ∧ k = h := by
  unfold hs at e
  rw [if_neg (by omega), if_neg (by omega), if_pos hw] at e
  by_cases h1 : 1 ≤ h
  · rw [if_pos h1] at e; cases e; exact ⟨h1, rfl⟩
  · rw [if_neg h1] at e; cases e
theorem hs_3 {w v : Int32} {h k : Nat} (e : hs w v h = some k) (hw : 2 ≤ w.toInt) (h2 : w.toInt ≠ 2) : 2 ≤ h ∧ k = h - 1 := by
  unfold hs at e
  rw [if_neg (by omega), if_neg (by omega), if_neg h2, if_pos (by omega)] at e
  by_cases h1 : 2 ≤ h
  · rw [if_pos h1] at e; cases e; exact ⟨h1, rfl⟩
  · rw [if_neg h1] at e; cases e
theorem hs_le {w v : Int32} (h k : Nat) (e : hs w v h = some k) : k ≤ h + 1 := by
  by_cases h0 : w.toInt < 2
  · have := hs_0 e h0; omega
  · by_cases h1 : w.toInt = 2
    · have := hs_2 e h1; omega
    · have := hs_3 e (by omega) h1; omega
theorem hc_0 {c : Int32} {h k : Nat} (e : hc c h = some k) (hw : c.toInt < 1000100) : k = h + 1 ∧ (1000000 ≤ c.toInt → c.toInt ≤ 1000008) := by
  unfold hc at e
  by_cases h0 : c.toInt < 1000000
  · rw [if_pos h0] at e; cases e; exact ⟨rfl, fun q => by omega⟩
  · rw [if_neg h0, if_pos hw] at e
    by_cases h1 : c.toInt ≤ 1000008
    · rw [if_pos h1] at e; cases e; exact ⟨rfl, fun _ => h1⟩
    · rw [if_neg h1] at e; cases e
theorem hc_2 {c : Int32} {h k : Nat} (e : hc c h = some k) (hw : c.toInt = 1000226) : 1 ≤ h ∧ k = h := by
  unfold hc at e
  rw [if_neg (by omega), if_neg (by omega), if_pos hw] at e
  by_cases h1 : 1 ≤ h
  · rw [if_pos h1] at e; cases e; exact ⟨h1, rfl⟩
  · rw [if_neg h1] at e; cases e
theorem hc_3 {c : Int32} {h k : Nat} (e : hc c h = some k) (hw : 1000100 ≤ c.toInt) (h2 : c.toInt ≠ 1000226) : 2 ≤ h ∧ k = h - 1 := by
  unfold hc at e
  rw [if_neg (by omega), if_neg (by omega), if_neg h2] at e
  by_cases h1 : 2 ≤ h
  · rw [if_pos h1] at e; cases e; exact ⟨h1, rfl⟩
  · rw [if_neg h1] at e; cases e
theorem hc_le {c : Int32} (h k : Nat) (e : hc c h = some k) : k ≤ h + 1 := by
  by_cases h0 : c.toInt < 1000100
  · have := hc_0 e h0; omega
  · by_cases h1 : c.toInt = 1000226
    · have := hc_2 e h1; omega
    · have := hc_3 e (by omega) h1; omega
/-- where workOut begins -/
def wa (s : GS) (x : Int32) : Nat := if x.toInt = 0 then 0 else (s.1 186 1).toNatClampNeg
def WS (s : GS) (x i k : Int32) : Prop := 0 ≤ k.toInt ∧ 0 ≤ i.toInt ∧ wa s x ≤ i.toInt.toNat ∧ ht (fun i => hs (s.1 184 i) (s.1 185 i)) (wa s x) (i.toInt.toNat - wa s x) = some k.toInt.toNat
theorem ws_0 {s : GS} {x i k : Int32} (hk : k.toInt = 0) (hi : 0 ≤ i.toInt) (h : wa s x = i.toInt.toNat) : WS s x i k := by
  refine ⟨by omega, hi, by omega, ?_⟩
  rw [h, Nat.sub_self, hk]
  rfl
theorem ws_le {s : GS} {x i k : Int32} (h : WS s x i k) : k.toInt ≤ i.toInt := by
  obtain ⟨h1, h2, h3, h4⟩ := h
  have := ht_le (fun i h k e => hs_le h k e) h4
  omega
theorem ws_ok {s : GS} {x i k z y e : Int32} (hI : Inv s) (hx : In x 0 1) (h : WS s x i k) (hz : z = s.1 184 i.toNatClampNeg) (hy : y.toInt = x.toInt + 1) (he : e = s.1 186 y.toNatClampNeg) (hlt : i.toInt < e.toInt) : ∃ j, hs z (s.1 185 i.toNatClampNeg) k.toInt.toNat = some j ∧ ∀ c d : Int32, c.toInt = i.toInt + 1 → d.toInt = (j : Int) → WS s x c d := by
  obtain ⟨h1, h2, h3, h4⟩ := h
  obtain ⟨x1, x2⟩ := hx
  have hp := hI.2.2.2.1.2.1
  rw [mI_at rfl, mI_at rfl, mI_at rfl] at hp
  have hm : (ht (fun i => hs (s.1 184 i) (s.1 185 i)) (wa s x) (e.toInt.toNat - wa s x)).isSome = true := by
    unfold wa
    by_cases e0 : x.toInt = 0
    · rw [if_pos e0]
      have ey : y.toNatClampNeg = 1 := by show y.toInt.toNat = 1; omega
      rw [he, ey]
      exact hp.1
    · rw [if_neg e0]
      have ey : y.toNatClampNeg = 2 := by show y.toInt.toNat = 2; omega
      rw [he, ey]
      exact hp.2
  obtain ⟨j, j1, j2⟩ := ht_next h4 hm (by omega)
  have ea : wa s x + (i.toInt.toNat - wa s x) = i.toNatClampNeg := by show _ = i.toInt.toNat; omega
  rw [ea] at j1
  refine ⟨j, by rw [hz]; exact j1, fun c d hc hd => ⟨by omega, by omega, by omega, ?_⟩⟩
  rw [show c.toInt.toNat - wa s x = i.toInt.toNat - wa s x + 1 by omega, j2, hd]
  rfl
/-- the class's compute: from a to b of its rows -/
def CS (s : GS) (a i k : Int32) : Prop := 0 ≤ k.toInt ∧ 0 ≤ i.toInt ∧ a.toInt ≤ i.toInt ∧ 0 ≤ a.toInt ∧ ht (fun i => hc (s.1 103 i)) a.toNatClampNeg (i.toInt.toNat - a.toNatClampNeg) = some k.toInt.toNat
theorem cs_0 {s : GS} {a k : Int32} (hk : k.toInt = 0) (ha : 0 ≤ a.toInt) : CS s a a k := by
  refine ⟨by omega, ha, by omega, ha, ?_⟩
  rw [show a.toInt.toNat - a.toNatClampNeg = 0 from Nat.sub_self _, hk]
  rfl
theorem cs_le {s : GS} {a i k : Int32} (h : CS s a i k) : k.toInt ≤ i.toInt := by
  obtain ⟨h1, h2, h3, h5, h4⟩ := h
  have := ht_le (fun i h k e => hc_le h k e) h4
  omega
theorem cs_ok {s : GS} {a b i k z : Int32} (hK : (ht (fun i => hc (s.1 103 i)) a.toNatClampNeg (b.toNatClampNeg - a.toNatClampNeg)).isSome = true) (h : CS s a i k) (hz : z = s.1 103 i.toNatClampNeg) (hlt : i.toInt < b.toInt) : ∃ j, hc z k.toInt.toNat = some j ∧ ∀ c d : Int32, c.toInt = i.toInt + 1 → d.toInt = (j : Int) → CS s a c d := by
  obtain ⟨h1, h2, h3, h5, h4⟩ := h
  have ha : a.toNatClampNeg = a.toInt.toNat := rfl
  have hb : b.toNatClampNeg = b.toInt.toNat := rfl
  obtain ⟨j, j1, j2⟩ := ht_next h4 hK (by omega)
  have ea : a.toNatClampNeg + (i.toInt.toNat - a.toNatClampNeg) = i.toNatClampNeg := by show _ = i.toInt.toNat; omega
  rw [ea] at j1
  refine ⟨j, by rw [hz]; exact j1, fun c d hc hd => ⟨by omega, by omega, by omega, h5, ?_⟩⟩
  rw [show c.toInt.toNat - a.toNatClampNeg = i.toInt.toNat - a.toNatClampNeg + 1 by omega, j2, hd]
  rfl
theorem kc_1 {s : GS} {a b : Int32} (hI : Inv s) (ha : a.toInt = 0) (hb : b = s.2.2.1 102 1) : (ht (fun i => hc (s.1 103 i)) a.toNatClampNeg (b.toNatClampNeg - a.toNatClampNeg)).isSome = true := by
  have hp := hI.2.2.2.1.2.2.1
  rw [mI_at rfl, mF_at rfl] at hp
  have e : a.toNatClampNeg = 0 := by show a.toInt.toNat = 0; omega
  rw [e, hb]
  exact hp
theorem kc_2 {s : GS} {a b : Int32} (hI : Inv s) (ha : a = s.2.2.1 102 1) (hb : b = s.2.2.1 102 2) : (ht (fun i => hc (s.1 103 i)) a.toNatClampNeg (b.toNatClampNeg - a.toNatClampNeg)).isSome = true := by
  have hp := hI.2.2.2.1.2.2.2
  rw [mI_at rfl, mF_at rfl, mF_at rfl] at hp
  rw [ha, hb]
  exact hp
/-- how many of the first signs that wait stand between two values -/
def cB (w : Nat → Int32) : Nat → Nat
  | 0 => 0
  | n + 1 => cB w n + (if (w n).toInt = 2 ∨ (w n).toInt = 40 then 0 else 1)
theorem cB_cg {w w2 : Nat → Int32} : ∀ {n : Nat}, (∀ k, k < n → w2 k = w k) → cB w2 n = cB w n := by
  intro n
  induction n with
  | zero => intro _; rfl
  | succ n ih =>
    intro h
    show cB w2 n + _ = cB w n + _
    rw [ih (fun k hk => h k (by omega)), h n (by omega)]
/-- the draft of a program: unless a fault is told, its rows from a on lay so many values -/
def PS (s : GS) (a w : Nat) : Prop := (s.2.2.1 109 23).toInt = 0 → a ≤ (s.2.2.1 109 109).toNatClampNeg ∧ ht (fun i => hs (s.1 187 i) (s.1 188 i)) a ((s.2.2.1 109 109).toNatClampNeg - a) = some (cB (s.1 190) (s.2.2.1 109 111).toNatClampNeg + w)
def PQ (s t : GS) : Prop := (s.2.2.1 109 109).toInt ≤ (t.2.2.1 109 109).toInt ∧ ∀ k : Nat, (k : Int) < (s.2.2.1 109 109).toInt → t.1 187 k = s.1 187 k ∧ t.1 188 k = s.1 188 k
def PR (s t : GS) (w w2 : Nat) : Prop := PQ s t ∧ ∀ a, PS s a w → PS t a w2
theorem pr_rf {s : GS} {w : Nat} : PR s s w w := ⟨⟨Int.le_refl _, fun _ _ => ⟨rfl, rfl⟩⟩, fun _ h => h⟩
theorem pr_tr {s t u : GS} {a b c : Nat} (h : PR s t a b) (h2 : PR t u b c) : PR s u a c := by
  refine ⟨⟨Int.le_trans h.1.1 h2.1.1, fun k hk => ?_⟩, fun x hx => h2.2 x (h.2 x hx)⟩
  have e1 := h.1.2 k hk
  have e2 := h2.1.2 k (Int.lt_of_lt_of_le hk h.1.1)
  exact ⟨e2.1.trans e1.1, e2.2.trans e1.2⟩
/-- a row is added -/
theorem pr_step {s t : GS} {n : Nat} {x v : Int32} {w w2 : Nat} (hq : t.1 187 = upd (s.1 187) n x) (hv : t.1 188 = upd (s.1 188) n v) (hn : n = (s.2.2.1 109 109).toNatClampNeg) (h0 : 0 ≤ (s.2.2.1 109 109).toInt) (hs1 : (t.2.2.1 109 109).toInt = (s.2.2.1 109 109).toInt + 1) (hf : (t.2.2.1 109 23).toInt = 0 → (s.2.2.1 109 23).toInt = 0 ∧ hs x v (cB (s.1 190) (s.2.2.1 109 111).toNatClampNeg + w) = some (cB (t.1 190) (t.2.2.1 109 111).toNatClampNeg + w2)) : PR s t w w2 := by
  have hn2 : n = (s.2.2.1 109 109).toInt.toNat := hn
  have ht2 : (t.2.2.1 109 109).toNatClampNeg = n + 1 := by show (t.2.2.1 109 109).toInt.toNat = n + 1; omega
  refine ⟨⟨by omega, fun k hk => ?_⟩, fun a h ft => ?_⟩
  · rw [hq, hv]
    unfold upd
    rw [if_neg (by omega), if_neg (by omega)]
    exact ⟨rfl, rfl⟩
  · obtain ⟨fs, hh⟩ := hf ft
    obtain ⟨ha, he⟩ := h fs
    rw [← hn] at ha he
    rw [ht2]
    refine ⟨by omega, ?_⟩
    rw [show n + 1 - a = (n - a) + 1 by omega]
    show (ht _ a (n - a)).bind (hs (t.1 187 (a + (n - a))) (t.1 188 (a + (n - a)))) = _
    rw [hq, hv, show a + (n - a) = n by omega]
    have e1 : upd (s.1 187) n x n = x := by unfold upd; rw [if_pos rfl]
    have e2 : upd (s.1 188) n v n = v := by unfold upd; rw [if_pos rfl]
    rw [e1, e2]
    have e3 : ht (fun i => hs (upd (s.1 187) n x i) (upd (s.1 188) n v i)) a (n - a) = ht (fun i => hs (s.1 187 i) (s.1 188 i)) a (n - a) := by
      refine ht_cg fun i h1 h2 => ?_
      show hs (upd (s.1 187) n x i) (upd (s.1 188) n v i) = hs (s.1 187 i) (s.1 188 i)
      unfold upd
      rw [if_neg (by omega), if_neg (by omega)]
    rw [e3, he]
    exact hh
/-- none is added -/
theorem pr_same {s t : GS} {w w2 : Nat} (hq : t.1 187 = s.1 187) (hv : t.1 188 = s.1 188) (hs1 : t.2.2.1 109 109 = s.2.2.1 109 109) (hf : (t.2.2.1 109 23).toInt = 0 → (s.2.2.1 109 23).toInt = 0 ∧ cB (s.1 190) (s.2.2.1 109 111).toNatClampNeg + w = cB (t.1 190) (t.2.2.1 109 111).toNatClampNeg + w2) : PR s t w w2 := by
  refine ⟨⟨by rw [hs1]; exact Int.le_refl _, fun k hk => by rw [hq, hv]; exact ⟨rfl, rfl⟩⟩, fun a h ft => ?_⟩
  obtain ⟨fs, hh⟩ := hf ft
  rw [hq, hv, hs1, ← hh]
  exact h fs
theorem hs_b {x v : Int32} {h : Nat} (hx : 2 < x.toInt) (h2 : 2 ≤ h) : hs x v h = some (h - 1) := by
  unfold hs
  rw [if_neg (by omega), if_neg (by omega), if_neg (by omega), if_pos hx, if_pos h2]
/-- a sign between two values leaves the row of those that wait -/
theorem cB_b {w : Nat → Int32} {n : Nat} {x : Int32} (hx : x = w n) (h2 : x.toInt ≠ 2) (h4 : x.toInt ≠ 40) : cB w (n + 1) = cB w n + 1 := by
  show cB w n + (if (w n).toInt = 2 ∨ (w n).toInt = 40 then 0 else 1) = _
  rw [← hx, if_neg (by omega)]
theorem cB_u {w : Nat → Int32} {n : Nat} {x : Int32} (hx : x = w n) (h2 : x.toInt = 2 ∨ x.toInt = 40) : cB w (n + 1) = cB w n := by
  show cB w n + (if (w n).toInt = 2 ∨ (w n).toInt = 40 then 0 else 1) = _
  rw [← hx, if_pos h2]; rfl
/-- settle: one more -/
theorem pr_set {s t : GS} {n : Nat} {x v b : Int32} (hq : t.1 187 = upd (s.1 187) n x) (hv : t.1 188 = upd (s.1 188) n v) (hn : n = (s.2.2.1 109 109).toNatClampNeg) (h0 : 0 ≤ (s.2.2.1 109 109).toInt) (hs1 : (t.2.2.1 109 109).toInt = (s.2.2.1 109 109).toInt + 1) (hff : t.2.2.1 109 23 = s.2.2.1 109 23) (hw : t.1 190 = s.1 190) (hb : (t.2.2.1 109 111).toInt = b.toInt) (hb1 : b.toInt + 1 = (s.2.2.1 109 111).toInt) (hb0 : 0 ≤ b.toInt) (hx : x = s.1 190 b.toNatClampNeg) (h : (2 < x.toInt ∧ x.toInt ≠ 40) ∨ (x.toInt = 2 ∧ True)) : PR s t 1 1 := by
  have e1 : (s.2.2.1 109 111).toNatClampNeg = b.toNatClampNeg + 1 := by show (s.2.2.1 109 111).toInt.toNat = b.toInt.toNat + 1; omega
  have e2 : (t.2.2.1 109 111).toNatClampNeg = b.toNatClampNeg := by show (t.2.2.1 109 111).toInt.toNat = b.toInt.toNat; rw [hb]
  refine pr_step hq hv hn h0 hs1 (fun ft => ⟨by rw [← hff]; exact ft, ?_⟩)
  rw [e1, e2, hw]
  cases h with
  | inl h => rw [cB_b hx (by omega) h.2, hs_b h.1 (by omega)]; rfl
  | inr h =>
    rw [cB_u hx (Or.inl h.1)]
    unfold hs
    rw [if_neg (by omega), if_neg (by omega), if_pos h.1, if_pos (by omega)]
/-- a value is added -/
theorem pr_val {s t : GS} {n : Nat} {x v : Int32} (hq : t.1 187 = upd (s.1 187) n x) (hv : t.1 188 = upd (s.1 188) n v) (hn : n = (s.2.2.1 109 109).toNatClampNeg) (h0 : 0 ≤ (s.2.2.1 109 109).toInt) (hs1 : (t.2.2.1 109 109).toInt = (s.2.2.1 109 109).toInt + 1) (hff : t.2.2.1 109 23 = s.2.2.1 109 23) (hw : t.1 190 = s.1 190) (hb : t.2.2.1 109 111 = s.2.2.1 109 111) (hx : (s.2.2.1 109 23).toInt = 0 → x.toInt = 0 ∨ (x.toInt = 1 ∧ 0 ≤ v.toInt ∧ v.toInt ≤ 8)) : PR s t 0 1 := by
  refine pr_step hq hv hn h0 hs1 (fun ft => ?_)
  rw [hff] at ft
  refine ⟨ft, ?_⟩
  rw [hw, hb]
  unfold hs
  cases hx ft with
  | inl h => rw [if_pos h]
  | inr h => rw [if_neg (by omega), if_pos h.1, if_pos h.2]
/-- a sign is held -/
theorem pr_hold {s t : GS} {x : Int32} {w w2 : Nat} (hq : t.1 187 = s.1 187) (hv : t.1 188 = s.1 188) (hs1 : t.2.2.1 109 109 = s.2.2.1 109 109) (hff : t.2.2.1 109 23 = s.2.2.1 109 23) (hw : t.1 190 = upd (s.1 190) (s.2.2.1 109 111).toNatClampNeg x) (hb : (t.2.2.1 109 111).toInt = (s.2.2.1 109 111).toInt + 1) (hb0 : 0 ≤ (s.2.2.1 109 111).toInt) (h : ((x.toInt = 2 ∨ x.toInt = 40) ∧ w = w2) ∨ ((x.toInt ≠ 2 ∧ x.toInt ≠ 40) ∧ w = w2 + 1)) : PR s t w w2 := by
  refine pr_same hq hv hs1 (fun ft => ⟨by rw [← hff]; exact ft, ?_⟩)
  have e2 : (t.2.2.1 109 111).toNatClampNeg = (s.2.2.1 109 111).toNatClampNeg + 1 := by show (t.2.2.1 109 111).toInt.toNat = (s.2.2.1 109 111).toInt.toNat + 1; omega
  rw [e2, hw]
  have e3 : x = upd (s.1 190) (s.2.2.1 109 111).toNatClampNeg x (s.2.2.1 109 111).toNatClampNeg := by unfold upd; rw [if_pos rfl]
  have e4 : cB (upd (s.1 190) (s.2.2.1 109 111).toNatClampNeg x) (s.2.2.1 109 111).toNatClampNeg = cB (s.1 190) (s.2.2.1 109 111).toNatClampNeg := by
    refine cB_cg fun k hk => ?_
    unfold upd
    rw [if_neg (by omega)]
  cases h with
  | inl h => rw [cB_u e3 h.1, e4, h.2]
  | inr h => rw [cB_b e3 h.1.1 h.1.2, e4, h.2]; omega
/-- a bracket leaves -/
theorem pr_drop {s t : GS} {x b : Int32} {w : Nat} (hq : t.1 187 = s.1 187) (hv : t.1 188 = s.1 188) (hs1 : t.2.2.1 109 109 = s.2.2.1 109 109) (hff : t.2.2.1 109 23 = s.2.2.1 109 23) (hw : t.1 190 = s.1 190) (hb : (t.2.2.1 109 111).toInt = b.toInt) (hb1 : b.toInt + 1 = (s.2.2.1 109 111).toInt) (hb0 : 0 ≤ b.toInt) (hx : x = s.1 190 b.toNatClampNeg) (h : x.toInt = 2 ∨ x.toInt = 40) : PR s t w w := by
  have e1 : (s.2.2.1 109 111).toNatClampNeg = b.toNatClampNeg + 1 := by show (s.2.2.1 109 111).toInt.toNat = b.toInt.toNat + 1; omega
  have e2 : (t.2.2.1 109 111).toNatClampNeg = b.toNatClampNeg := by show (t.2.2.1 109 111).toInt.toNat = b.toInt.toNat; rw [hb]
  refine pr_same hq hv hs1 (fun ft => ⟨by rw [← hff]; exact ft, ?_⟩)
  rw [e1, e2, hw, cB_u hx h]
/-- a fault is told -/
theorem pr_flt {s t : GS} {w w2 : Nat} (hq : t.1 187 = s.1 187) (hv : t.1 188 = s.1 188) (hs1 : t.2.2.1 109 109 = s.2.2.1 109 109) (hf : (t.2.2.1 109 23).toInt ≠ 0) : PR s t w w2 := pr_same hq hv hs1 (fun ft => absurd ft hf)
/-- a word is read -/
theorem pr_nx {s t : GS} {w : Nat} (hq : t.1 187 = s.1 187) (hv : t.1 188 = s.1 188) (hs1 : t.2.2.1 109 109 = s.2.2.1 109 109) (hw : t.1 190 = s.1 190) (hb : t.2.2.1 109 111 = s.2.2.1 109 111) (hf : (s.2.2.1 109 23).toInt = 0) : PR s t w w := pr_same hq hv hs1 (fun _ => ⟨hf, by rw [hw, hb]⟩)
theorem pe_0 {s t : GS} (hF : Fr ([], [], [(109, 111), (109, 112)], []) s t) (h : (t.2.2.1 109 111).toInt = 0) : PQ s t ∧ PS t (s.2.2.1 109 109).toNatClampNeg 0 := by
  have e1 := hF.2.2.1 109 109 rfl
  have e2 := hF.1 187 rfl
  have e3 := hF.1 188 rfl
  refine ⟨⟨by rw [e1]; exact Int.le_refl _, fun k _ => by rw [e2, e3]; exact ⟨rfl, rfl⟩⟩, fun _ => ⟨by rw [e1]; exact Nat.le_refl _, ?_⟩⟩
  have e4 : (t.2.2.1 109 111).toNatClampNeg = 0 := by show (t.2.2.1 109 111).toInt.toNat = 0; rw [h]; rfl
  rw [e1, Nat.sub_self, e4]
  rfl
theorem pe_tr {s t u : GS} {a w w2 : Nat} (h : PQ s t ∧ PS t a w) (hr : PR t u w w2) : PQ s u ∧ PS u a w2 := by
  refine ⟨⟨Int.le_trans h.1.1 hr.1.1, fun k hk => ?_⟩, hr.2 a h.2⟩
  have e1 := h.1.2 k hk
  have e2 := hr.1.2 k (Int.lt_of_lt_of_le hk h.1.1)
  exact ⟨e2.1.trans e1.1, e2.2.trans e1.2⟩
theorem pr_fst {s t : GS} {w w2 : Nat} (h : PQ s t) (hf : (t.2.2.1 109 23).toInt ≠ 0) : PR s t w w2 := ⟨h, fun _ _ ft => absurd ft hf⟩
/-- the draft's two parts, before they are taken over -/
def QQ (s : GS) : Prop := 0 ≤ (s.1 189 1).toInt ∧ (s.1 189 1).toInt ≤ (s.2.2.1 109 109).toInt ∧ s.1 189 2 = s.2.2.1 109 109 ∧ (ht (fun i => hs (s.1 187 i) (s.1 188 i)) 0 (s.1 189 1).toNatClampNeg).isSome = true ∧ (ht (fun i => hs (s.1 187 i) (s.1 188 i)) (s.1 189 1).toNatClampNeg ((s.2.2.1 109 109).toNatClampNeg - (s.1 189 1).toNatClampNeg)).isSome = true
theorem qq_0 {s0 s1 s2 : GS} {a b : Int32} (k1 : (s1.2.2.1 109 23).toInt = 0 → (ht (fun i => hs (s1.1 187 i) (s1.1 188 i)) (s0.2.2.1 109 109).toNatClampNeg ((s1.2.2.1 109 109).toNatClampNeg - (s0.2.2.1 109 109).toNatClampNeg)).isSome = true) (h0 : (s0.2.2.1 109 109).toInt = 0) (f1 : (s1.2.2.1 109 23).toInt = 0) (ha : a = s1.2.2.1 109 109) (ha0 : 0 ≤ a.toInt) (pq : PQ (sI s1 189 (Int32.ofInt 1).toNatClampNeg a) s2) (k2 : (s2.2.2.1 109 23).toInt = 0 → (ht (fun i => hs (s2.1 187 i) (s2.1 188 i)) ((sI s1 189 (Int32.ofInt 1).toNatClampNeg a).2.2.1 109 109).toNatClampNeg ((s2.2.2.1 109 109).toNatClampNeg - ((sI s1 189 (Int32.ofInt 1).toNatClampNeg a).2.2.1 109 109).toNatClampNeg)).isSome = true) (f2 : (s2.2.2.1 109 23).toInt = 0) (hF : s2.1 189 = (sI s1 189 (Int32.ofInt 1).toNatClampNeg a).1 189) (hb : b = s2.2.2.1 109 109) : QQ (sI s2 189 (Int32.ofInt 2).toNatClampNeg b) := by
  have n1 : (Int32.ofInt 1).toNatClampNeg = 1 := rfl
  have n2 : (Int32.ofInt 2).toNatClampNeg = 2 := rfl
  have z0 : (s0.2.2.1 109 109).toNatClampNeg = 0 := by show (s0.2.2.1 109 109).toInt.toNat = 0; rw [h0]; rfl
  have r1 := k1 f1
  have r2 : (ht (fun i => hs (s2.1 187 i) (s2.1 188 i)) (s1.2.2.1 109 109).toNatClampNeg ((s2.2.2.1 109 109).toNatClampNeg - (s1.2.2.1 109 109).toNatClampNeg)).isSome = true := k2 f2
  rw [z0, Nat.sub_zero, ← ha] at r1
  rw [← ha] at r2
  have e1 : (sI s2 189 (Int32.ofInt 2).toNatClampNeg b).1 189 1 = a := by
    rw [sI_q, n2, hF, sI_q, n1]
    unfold upd
    rw [if_neg (by decide), if_pos rfl]
  have e2 : (sI s2 189 (Int32.ofInt 2).toNatClampNeg b).1 189 2 = b := by
    rw [sI_q, n2]
    unfold upd
    rw [if_pos rfl]
  have e3 : (sI s2 189 (Int32.ofInt 2).toNatClampNeg b).1 187 = s2.1 187 := sI_p rfl
  have e4 : (sI s2 189 (Int32.ofInt 2).toNatClampNeg b).1 188 = s2.1 188 := sI_p rfl
  have p1 : a.toInt ≤ (s2.2.2.1 109 109).toInt := by rw [ha]; exact pq.1
  unfold QQ
  rw [e1, e2, e3, e4]
  refine ⟨ha0, p1, hb, ?_, r2⟩
  have q1 : (sI s1 189 (Int32.ofInt 1).toNatClampNeg a).1 187 = s1.1 187 := sI_p rfl
  have q2 : (sI s1 189 (Int32.ofInt 1).toNatClampNeg a).1 188 = s1.1 188 := sI_p rfl
  have q3 : ht (fun i => hs (s2.1 187 i) (s2.1 188 i)) 0 a.toNatClampNeg = ht (fun i => hs (s1.1 187 i) (s1.1 188 i)) 0 a.toNatClampNeg := by
    refine ht_cg fun i _ h2 => ?_
    have h3 : (i : Int) < (s1.2.2.1 109 109).toInt := by
      rw [← ha]
      have : i < a.toInt.toNat := by
        have h4 : i < 0 + a.toInt.toNat := h2
        omega
      omega
    have h5 := pq.2 i h3
    show hs (s2.1 187 i) (s2.1 188 i) = hs (s1.1 187 i) (s1.1 188 i)
    rw [h5.1, h5.2, q1, q2]
  rw [q3]
  exact r1
theorem qq_s {s : GS} {n m : Nat} {z v : Int32} (h : QQ s) : QQ (sI (sI s 184 n z) 185 m v) := by
  have e1 : (sI (sI s 184 n z) 185 m v).1 187 = s.1 187 := by rw [sI_p rfl, sI_p rfl]
  have e2 : (sI (sI s 184 n z) 185 m v).1 188 = s.1 188 := by rw [sI_p rfl, sI_p rfl]
  have e3 : (sI (sI s 184 n z) 185 m v).1 189 = s.1 189 := by rw [sI_p rfl, sI_p rfl]
  unfold QQ at h ⊢
  rw [e1, e2, e3]
  exact h
theorem cpy_s {s : GS} {y z v w : Int32} (h : ∀ k : Nat, (k : Int) < y.toInt → s.1 184 k = s.1 187 k ∧ s.1 185 k = s.1 188 k) (e1 : z = s.1 187 y.toNatClampNeg) (e2 : v = (sI s 184 y.toNatClampNeg z).1 188 y.toNatClampNeg) (hy : 0 ≤ y.toInt) (hw : w.toInt = y.toInt + 1) : ∀ k : Nat, (k : Int) < w.toInt → (sI (sI s 184 y.toNatClampNeg z) 185 y.toNatClampNeg v).1 184 k = (sI (sI s 184 y.toNatClampNeg z) 185 y.toNatClampNeg v).1 187 k ∧ (sI (sI s 184 y.toNatClampNeg z) 185 y.toNatClampNeg v).1 185 k = (sI (sI s 184 y.toNatClampNeg z) 185 y.toNatClampNeg v).1 188 k := by
  intro k hk
  have q1 : (sI (sI s 184 y.toNatClampNeg z) 185 y.toNatClampNeg v).1 187 = s.1 187 := by rw [sI_p rfl, sI_p rfl]
  have q2 : (sI (sI s 184 y.toNatClampNeg z) 185 y.toNatClampNeg v).1 188 = s.1 188 := by rw [sI_p rfl, sI_p rfl]
  have q3 : (sI (sI s 184 y.toNatClampNeg z) 185 y.toNatClampNeg v).1 184 = upd (s.1 184) y.toNatClampNeg z := by rw [sI_p rfl, sI_q]
  have q4 : (sI (sI s 184 y.toNatClampNeg z) 185 y.toNatClampNeg v).1 185 = upd (s.1 185) y.toNatClampNeg v := by rw [sI_q, sI_p rfl]
  rw [sI_p rfl] at e2
  rw [q1, q2, q3, q4]
  unfold upd
  have ny : y.toNatClampNeg = y.toInt.toNat := rfl
  by_cases c : k = y.toNatClampNeg
  · rw [if_pos c, if_pos c, c]
    exact ⟨e1, e2⟩
  · rw [if_neg c, if_neg c]
    exact h k (by omega)
theorem fin_kp {s : GS} {y z v n : Int32} (hc : ∀ k : Nat, (k : Int) < y.toInt → s.1 184 k = s.1 187 k ∧ s.1 185 k = s.1 188 k) (hq : QQ s) (hn : n = s.2.2.1 109 109) (hy : n.toInt ≤ y.toInt) (e1 : z = s.1 189 (Int32.ofInt 1).toNatClampNeg) (e2 : v = (sI s 186 (Int32.ofInt 1).toNatClampNeg z).1 189 (Int32.ofInt 2).toNatClampNeg) : KP ((sI (sI s 186 (Int32.ofInt 1).toNatClampNeg z) 186 (Int32.ofInt 2).toNatClampNeg v).1 184) ((sI (sI s 186 (Int32.ofInt 1).toNatClampNeg z) 186 (Int32.ofInt 2).toNatClampNeg v).1 185) ((sI (sI s 186 (Int32.ofInt 1).toNatClampNeg z) 186 (Int32.ofInt 2).toNatClampNeg v).1 186) := by
  have n1 : (Int32.ofInt 1).toNatClampNeg = 1 := rfl
  have n2 : (Int32.ofInt 2).toNatClampNeg = 2 := rfl
  have q1 : (sI (sI s 186 (Int32.ofInt 1).toNatClampNeg z) 186 (Int32.ofInt 2).toNatClampNeg v).1 184 = s.1 184 := by rw [sI_p rfl, sI_p rfl]
  have q2 : (sI (sI s 186 (Int32.ofInt 1).toNatClampNeg z) 186 (Int32.ofInt 2).toNatClampNeg v).1 185 = s.1 185 := by rw [sI_p rfl, sI_p rfl]
  have q3 : (sI (sI s 186 (Int32.ofInt 1).toNatClampNeg z) 186 (Int32.ofInt 2).toNatClampNeg v).1 186 = upd (upd (s.1 186) 1 z) 2 v := by rw [sI_q, sI_q, n1, n2]
  rw [sI_p rfl, n2] at e2
  rw [n1] at e1
  obtain ⟨h1, h2, h3, h4, h5⟩ := hq
  rw [q1, q2, q3]
  unfold KP
  have u1 : upd (upd (s.1 186) 1 z) 2 v 1 = s.1 189 1 := by unfold upd; rw [if_neg (by decide), if_pos rfl, e1]
  have u2 : upd (upd (s.1 186) 1 z) 2 v 2 = s.2.2.1 109 109 := by unfold upd; rw [if_pos rfl, e2, h3]
  rw [u1, u2]
  have m1 : (s.1 189 1).toNatClampNeg = (s.1 189 1).toInt.toNat := rfl
  have m2 : (s.2.2.1 109 109).toNatClampNeg = (s.2.2.1 109 109).toInt.toNat := rfl
  rw [hn] at hy
  refine ⟨?_, ?_⟩
  · rw [← h4]
    refine congrArg Option.isSome (ht_cg fun i _ hi => ?_)
    have := hc i (by omega)
    show hs (s.1 184 i) (s.1 185 i) = hs (s.1 187 i) (s.1 188 i)
    rw [this.1, this.2]
  · rw [← h5]
    refine congrArg Option.isSome (ht_cg fun i _ hi => ?_)
    have := hc i (by omega)
    show hs (s.1 184 i) (s.1 185 i) = hs (s.1 187 i) (s.1 188 i)
    rw [this.1, this.2]
def kgok (L : FM) : Bool := krok L && qI L.1 134 && qI L.1 103 && qF L.2.2.1 102 1 && qF L.2.2.1 102 2 && qG1 L 2 && qG2 L 2 && qG3 L 2 && qG4 L 2 && qG5 L 2 && qG1 L 32 && qG2 L 32 && qG3 L 32 && qG4 L 32 && qG5 L 32
theorem kk_prog {s t : GS} {L : FM} (h : KK (mI s) (mF s)) (hF : Fr L s t) (hk : kgok L = true) (hp : KP (t.1 184) (t.1 185) (t.1 186)) : KK (mI t) (mF t) := by
  unfold kgok at hk
  simp only [Bool.and_eq_true] at hk
  obtain ⟨⟨⟨⟨⟨⟨⟨⟨⟨⟨⟨⟨⟨⟨a0, a1⟩, a2⟩, a3⟩, a4⟩, b1⟩, b2⟩, b3⟩, b4⟩, b5⟩, c1⟩, c2⟩, c3⟩, c4⟩, c5⟩ := hk
  refine ⟨kk_g h.1 hF b1 b2 b3 b4 b5, kk_g h.2.1 hF c1 c2 c3 c4 c5, ⟨?_, ?_, ?_⟩, kk_r h.2.2.2 hF a0⟩
  · rw [fr_mI hF a1]; exact h.2.2.1.1
  · rw [mI_at rfl, mI_at rfl, mI_at rfl]; exact hp
  · rw [fr_mI hF a2, fr_mF hF a3, fr_mF hF a4]; exact h.2.2.1.2.2
