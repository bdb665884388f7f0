/-! THE QUEUE OF fits: each place comes into it once -/
def cM (f : Nat → Int32) : Nat → Nat
  | 0 => 0
  | n + 1 => cM f n + (if (f n).toInt < 0 then 1 else 0)
theorem cM_le (f : Nat → Int32) : ∀ n, cM f n ≤ n := by
  intro n
  induction n with
  | zero => exact Nat.le_refl _
  | succ n ih =>
    show cM f n + (if (f n).toInt < 0 then 1 else 0) ≤ n + 1
    split <;> omega
theorem cM_up {f : Nat → Int32} {y : Nat} {v : Int32} (h1 : (f y).toInt < 0) (h2 : 0 ≤ v.toInt) : ∀ n, cM (upd f y v) n + (if y < n then 1 else 0) = cM f n := by
  intro n
  induction n with
  | zero => rw [if_neg (by omega)]; rfl
  | succ n ih =>
    show cM (upd f y v) n + (if (upd f y v n).toInt < 0 then 1 else 0) + (if y < n + 1 then 1 else 0) = cM f n + (if (f n).toInt < 0 then 1 else 0)
    by_cases c : n = y
    · have e : upd f y v n = v := by unfold upd; rw [if_pos c]
      rw [e, if_neg (by omega), if_pos (by omega), c, if_pos h1]
      rw [c, if_neg (by omega)] at ih
      omega
    · have e : upd f y v n = f n := by unfold upd; rw [if_neg c]
      rw [e]
      by_cases d : y < n
      · rw [if_pos d] at ih
        rw [if_pos (show y < n + 1 by omega)]
        omega
      · rw [if_neg d] at ih
        rw [if_neg (show ¬ y < n + 1 by omega)]
        omega
def QI (s : GS) (n : Int) : Prop := 0 ≤ n ∧ n + (cM (s.1 183) 2000 : Int) ≤ 2000 ∧ ∀ i : Nat, (i : Int) < n → 0 ≤ (s.1 183 (s.1 132 i).toNatClampNeg).toInt ∧ (s.1 183 (s.1 132 i).toNatClampNeg).toInt ≤ i
theorem qi_0 (s : GS) : QI s 0 := by
  have := cM_le (s.1 183) 2000
  exact ⟨Int.le_refl _, by omega, fun i h => by omega⟩
theorem qi_le {s : GS} {n : Int} (h : QI s n) : n ≤ 2000 := by
  have := h.2.1
  omega
theorem qi_push {s t : GS} {y v : Int32} {n a b : Int} {m : Nat} (h : QI s n) (hm : (m : Int) = n) (hq : t.1 132 = upd (s.1 132) m y) (hc : t.1 183 = upd (s.1 183) y.toNatClampNeg v) (hy : In y a b) (hb : decide (b < 2000) = true) (h1 : (s.1 183 y.toNatClampNeg).toInt < 0) (h2 : 0 ≤ v.toInt) (h3 : v.toInt ≤ n) : QI t (n + 1) := by
  have hb := of_decide_eq_true hb
  obtain ⟨p1, p2, p3⟩ := h
  have hu := cM_up h1 h2 2000
  have hy2 := hy.2
  rw [if_pos (show y.toNatClampNeg < 2000 by show y.toInt.toNat < 2000; omega)] at hu
  refine ⟨by omega, by rw [hc]; omega, fun i hi => ?_⟩
  rw [hq, hc]
  by_cases c : i = m
  · have e : upd (s.1 132) m y i = y := by unfold upd; rw [if_pos c]
    rw [e]
    have e2 : upd (s.1 183) y.toNatClampNeg v y.toNatClampNeg = v := by unfold upd; rw [if_pos rfl]
    rw [e2]
    exact ⟨h2, by omega⟩
  · have e : upd (s.1 132) m y i = s.1 132 i := by unfold upd; rw [if_neg c]
    rw [e]
    have p4 := p3 i (by omega)
    by_cases d : (s.1 132 i).toNatClampNeg = y.toNatClampNeg
    · rw [d] at p4
      omega
    · have e2 : upd (s.1 183) y.toNatClampNeg v (s.1 132 i).toNatClampNeg = s.1 183 (s.1 132 i).toNatClampNeg := by unfold upd; rw [if_neg d]
      rw [e2]
      exact p4
theorem qi_eq {s t : GS} {n : Int} (h : QI s n) (hq : t.1 132 = s.1 132) (hc : t.1 183 = s.1 183) : QI t n := by
  unfold QI at h ⊢
  rw [hq, hc]
  exact h
