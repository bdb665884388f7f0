/-! RINGS OF THE REFERENCE'S TREE -/
def nx (s : GS) (w : Nat) : Nat := (s.1 153 (s.1 157 w).toNatClampNeg).toNatClampNeg
def TP (s : GS) (m t : Int) : Prop := ∀ v : Nat, (v : Int) < m → (v : Int) ≠ t → 0 ≤ (s.1 157 v).toInt ∧ (s.1 153 (s.1 157 v).toNatClampNeg).toInt < m
def VC (s : GS) (V : Nat → Int32) (m t v u : Int) : Prop := ∀ w : Nat, (w : Int) < m → (V w).toInt = v → (w : Int) ≠ t ∧ ((V (nx s w)).toInt = v ∨ (nx s w : Int) = u)
def VD (s : GS) (V : Nat → Int32) (m t v : Int) : Prop := ∀ w : Nat, (w : Int) < m → (V w).toInt = v → (w : Int) ≠ t ∧ (V (nx s w)).toInt = v
theorem vc_0 {s : GS} {V : Nat → Int32} {m t v u : Int} (h : ∀ k : Nat, (k : Int) < m → (V k).toInt < v) : VC s V m t v u := by
  intro w hw e
  have := h w hw
  omega
theorem vc_s {s : GS} {V : Nat → Int32} {m t v z : Int} {y b : Int32} (h : VC s V m t v y.toInt) (hy : 0 ≤ y.toInt) (ht : y.toInt ≠ t) (hb : b.toInt = v) (hz : z = (nx s y.toNatClampNeg : Int)) : VC s (upd V y.toNatClampNeg b) m t v z := by
  intro w hw e
  have ny : y.toNatClampNeg = y.toInt.toNat := rfl
  have up : ∀ k, (V k).toInt = v → (upd V y.toNatClampNeg b k).toInt = v := by
    intro k hk
    unfold upd
    split
    · exact hb
    · exact hk
  have upy : (upd V y.toNatClampNeg b y.toNatClampNeg).toInt = v := by unfold upd; rw [if_pos rfl]; exact hb
  by_cases c : w = y.toNatClampNeg
  · refine ⟨by omega, Or.inr ?_⟩
    rw [c, hz]
  · have e2 : upd V y.toNatClampNeg b w = V w := by unfold upd; rw [if_neg c]
    rw [e2] at e
    obtain ⟨h1, h2⟩ := h w hw e
    refine ⟨h1, Or.inl ?_⟩
    rcases h2 with h2 | h2
    · exact up _ h2
    · have e3 : nx s w = y.toNatClampNeg := by omega
      rw [e3]; exact upy
theorem vc_e {s : GS} {V : Nat → Int32} {m t v : Int} {u : Int32} (h : VC s V m t v u.toInt) (hu : 0 ≤ u.toInt) (hv : (V u.toNatClampNeg).toInt = v) : VD s V m t v := by
  intro w hw e
  obtain ⟨h1, h2⟩ := h w hw e
  refine ⟨h1, ?_⟩
  rcases h2 with h2 | h2
  · exact h2
  · have nu : u.toNatClampNeg = u.toInt.toNat := rfl
    have e3 : nx s w = u.toNatClampNeg := by omega
    rw [e3]; exact hv
theorem tp_u {s t : GS} {m a : Int} {y b f : Int32} (h : TP s m a) (h1 : y.toInt < m) (h2 : y.toInt ≠ a) (hy : 0 ≤ y.toInt) (hb : b = t.1 157 y.toNatClampNeg) (ht : t.1 157 = s.1 157) : 0 ≤ b.toInt ∧ (f = t.1 153 b.toNatClampNeg → t.1 153 = s.1 153 → f.toInt < m ∧ (0 ≤ f.toInt → f.toInt = (nx s y.toNatClampNeg : Int))) := by
  have ny : y.toNatClampNeg = y.toInt.toNat := rfl
  have h3 := h y.toNatClampNeg (by omega) (by omega)
  rw [ht] at hb
  rw [← hb] at h3
  refine ⟨h3.1, fun hf hs => ?_⟩
  rw [hs] at hf
  rw [← hf] at h3
  refine ⟨h3.2, fun h0 => ?_⟩
  unfold nx
  rw [← hb, ← hf]
  show f.toInt = ((f.toInt.toNat : Nat) : Int)
  omega
theorem up_lt {f : Nat → Int32} {k w : Nat} {b : Int32} {m : Int} (h : k ≠ w → (f k).toInt < m) (hb : b.toInt < m) : (upd f w b k).toInt < m := by
  unfold upd
  by_cases c : k = w
  · rw [if_pos c]; exact hb
  · rw [if_neg c]; exact h c
theorem up_cm {f : Nat → Int32} {y b : Int32} {n : Nat} (h1 : (f y.toNatClampNeg).toInt < 0) (h2 : 0 ≤ b.toInt) (hn : y.toNatClampNeg < n) : cM (upd f y.toNatClampNeg b) n + 1 = cM f n := by
  have := cM_up h1 h2 n
  rw [if_pos hn] at this
  exact this
def EE (s : GS) (n m : Int) : Prop := ∀ e : Nat, (e : Int) < n → (s.1 153 e).toInt < m ∧ (s.1 154 e).toInt < m
theorem ee_0 {s : GS} {n m : Int} (h : n ≤ 0) : EE s n m := fun e he => by omega
theorem ee_cg {s t : GS} {n m : Int} (h : EE s n m) (h1 : t.1 153 = s.1 153) (h2 : t.1 154 = s.1 154) : EE t n m := by
  unfold EE at h ⊢
  rw [h1, h2]
  exact h
theorem ee_s {s t : GS} {n n2 m : Int} {y z w : Int32} (h : EE s n m) (h1 : t.1 153 = upd (s.1 153) y.toNatClampNeg z) (h2 : t.1 154 = upd (s.1 154) y.toNatClampNeg w) (hy : 0 ≤ y.toInt) (hn : y.toInt = n) (hz : z.toInt < m) (hw : w.toInt < m) (h3 : n2 = n + 1) : EE t n2 m := by
  intro e he
  have ny : y.toNatClampNeg = y.toInt.toNat := rfl
  rw [h1, h2]
  exact ⟨up_lt (fun c => (h e (by omega)).1) hz, up_lt (fun c => (h e (by omega)).2) hw⟩
