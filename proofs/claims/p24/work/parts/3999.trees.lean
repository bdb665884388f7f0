/-! ROOTED TREES OF THE CLASS -/
/-- how many of the first n are -1 -/
def c1m (w : Nat → Int32) : Nat → Nat
  | 0 => 0
  | n + 1 => c1m w n + (if (w n).toInt = -1 then 1 else 0)
theorem c1m_le {w : Nat → Int32} : ∀ n, c1m w n ≤ n := by
  intro n
  induction n with
  | zero => exact Nat.le_refl _
  | succ n ih =>
    show c1m w n + _ ≤ n + 1
    split <;> omega
theorem c1m_cg {w w2 : Nat → Int32} : ∀ {n : Nat}, (∀ k, k < n → w2 k = w k) → c1m w2 n = c1m w n := by
  intro n
  induction n with
  | zero => intro _; rfl
  | succ n ih =>
    intro h
    show c1m w2 n + _ = c1m w n + _
    rw [ih (fun k hk => h k (by omega)), h n (by omega)]
theorem c1m_up {w : Nat → Int32} {j : Nat} {x : Int32} (hj : (w j).toInt = -1) (hx : x.toInt ≠ -1) : ∀ {n : Nat}, j < n → c1m (upd w j x) n + 1 = c1m w n := by
  intro n
  induction n with
  | zero => intro h; omega
  | succ n ih =>
    intro h
    show c1m (upd w j x) n + (if (upd w j x n).toInt = -1 then 1 else 0) + 1 = c1m w n + (if (w n).toInt = -1 then 1 else 0)
    by_cases e : j = n
    · subst e
      rw [ug_at, if_neg hx, if_pos hj, c1m_cg (w := w) (fun k hk => ug_ne (by omega))]
    · rw [ug_ne (fun z => e z.symm)]
      have := ih (by omega)
      split <;> omega
theorem c1m_pos {w : Nat → Int32} {j n : Nat} (h : (w j).toInt = -1) (hj : j < n) : 1 ≤ c1m w n := by
  have := c1m_up (w := w) (x := 0) h (by decide) hj
  omega
theorem sI_r {s : GS} {p q j : Nat} {x : Int32} (h : Nat.beq q p = false) : (sI s p j x).1 q = s.1 q := by
  show (if q = p then _ else s.1 q) = _
  rw [if_neg (Nat.ne_of_beq_eq_false h)]
/-- the arcs' ends are below n -/
def AE (s : GS) (n : Int) : Prop := ∀ e : Nat, (e : Int) < (s.2.2.1 76 0).toInt → ((0 ≤ (s.1 77 e).toInt ∧ (s.1 77 e).toInt < n) ∧ 0 ≤ (s.1 78 e).toInt ∧ (s.1 78 e).toInt < n)
theorem ae_0 {s : GS} {n : Int} (h : (s.2.2.1 76 0).toInt = 0) : AE s n := fun e he => by omega
theorem ae_add {s t : GS} {a x y : Int32} {n : Int} (h : AE s n) (ha : a = s.2.2.1 76 0) (h0 : 0 ≤ a.toInt) (ht : t.1 77 = upd (s.1 77) a.toNatClampNeg x) (hh : t.1 78 = upd (s.1 78) a.toNatClampNeg y) (hc : (t.2.2.1 76 0).toInt = a.toInt + 1) (hx : 0 ≤ x.toInt ∧ x.toInt < n) (hy : 0 ≤ y.toInt ∧ y.toInt < n) : AE t n := by
  intro e he
  have en : a.toNatClampNeg = a.toInt.toNat := rfl
  rw [ht, hh]
  by_cases q : e = a.toNatClampNeg
  · rw [q, ug_at, ug_at]; exact ⟨hx, hy⟩
  · rw [ug_ne q, ug_ne q]; exact h e (by rw [← ha]; omega)
theorem ae_fr {s t : GS} {L : FM} {n : Int} (h : AE s n) (hF : Fr L s t) (hk : (qI L.1 77 && qI L.1 78 && qF L.2.2.1 76 0) = true) : AE t n := by
  simp only [Bool.and_eq_true] at hk
  unfold AE
  rw [hF.1 77 hk.1.1, hF.1 78 hk.1.2, hF.2.2.1 76 0 hk.2]
  exact h
/-- names of rings: below m; of the first n all have one -/
def RN (s : GS) (n m : Int) : Prop := ∀ v : Nat, v < 32 → (s.1 83 v).toInt < m ∧ ((v : Int) < n → 0 ≤ (s.1 83 v).toInt)
/-- the first e arcs have new ends -/
def SHR (s t : GS) (e : Nat) : Prop := (∀ i : Nat, i < e → t.1 77 i = s.1 83 (s.1 77 i).toNatClampNeg ∧ t.1 78 i = s.1 83 (s.1 78 i).toNatClampNeg) ∧ ∀ i : Nat, e ≤ i → t.1 77 i = s.1 77 i ∧ t.1 78 i = s.1 78 i
theorem shr_0 {s : GS} : SHR s s 0 := ⟨fun i h => absurd h (Nat.not_lt_zero i), fun i _ => ⟨rfl, rfl⟩⟩
theorem shr_s {s t u : GS} {e : Nat} {x y : Int32} (h : SHR s t e) (h1 : u.1 77 = upd (t.1 77) e x) (h2 : u.1 78 = upd (t.1 78) e y) (hx : x = s.1 83 (s.1 77 e).toNatClampNeg) (hy : y = s.1 83 (s.1 78 e).toNatClampNeg) : SHR s u (e + 1) := by
  refine ⟨fun i hi => ?_, fun i hi => ?_⟩
  · rw [h1, h2]
    by_cases q : i = e
    · rw [q, ug_at, ug_at]; exact ⟨hx, hy⟩
    · rw [ug_ne q, ug_ne q]; exact h.1 i (by omega)
  · rw [h1, h2, ug_ne (by omega), ug_ne (by omega)]; exact h.2 i (by omega)
theorem shr_ae {s t : GS} {n m : Int} {e : Nat} (h : SHR s t e) (ha : AE s n) (hn : n ≤ 32) (hr : RN s n m) (he : (s.2.2.1 76 0).toInt ≤ (e : Int)) (hc : t.2.2.1 76 0 = s.2.2.1 76 0) : AE t m := by
  intro i hi
  rw [hc] at hi
  obtain ⟨⟨a1, a2⟩, a3, a4⟩ := ha i hi
  obtain ⟨e1, e2⟩ := h.1 i (by omega)
  have k1 : (s.1 77 i).toNatClampNeg = (s.1 77 i).toInt.toNat := rfl
  have k2 : (s.1 78 i).toNatClampNeg = (s.1 78 i).toInt.toNat := rfl
  have r1 := hr (s.1 77 i).toNatClampNeg (by omega)
  have r2 := hr (s.1 78 i).toNatClampNeg (by omega)
  rw [e1, e2]
  exact ⟨⟨r1.2 (by omega), r1.1⟩, r2.2 (by omega), r2.1⟩
