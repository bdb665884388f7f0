-- ---- branches
section XB
variable {σ : Nat → Int32} {E : XE}
theorem xiv_ok (hE : xer σ E) {n : Int32} : ∀ {x : XI}, xir σ n x → (xiv E x).1 ≤ n.toInt ∧ n.toInt ≤ (xiv E x).2
  | .inl c, h => by rw [(h : n = c)]; exact ⟨Int.le_refl _, Int.le_refl _⟩
  | .inr (.inr r), h => h
  | .inr (.inl k), h => by
    rw [(h : n = σ k)]
    show ((E[k]?).getD (-2147483648, 2147483647)).1 ≤ _ ∧ _ ≤ ((E[k]?).getD (-2147483648, 2147483647)).2
    cases hk : E[k]? with
    | none => exact xir_top σ (σ k)
    | some r => exact hE.1 k r hk
theorem xP_int (o : Nat) (x y : Int32) : xP o x y ↔ (match o with
  | 0 => x.toInt = y.toInt
  | 1 => ¬ x.toInt = y.toInt
  | 2 => x.toInt < y.toInt
  | 3 => y.toInt ≤ x.toInt
  | 4 => y.toInt < x.toInt
  | _ => x.toInt ≤ y.toInt) := by
  match o with
  | 0 => exact Int32.toInt_inj.symm
  | 1 => exact not_congr Int32.toInt_inj.symm
  | 2 => exact Int32.lt_iff_toInt_lt
  | 3 => exact Int32.le_iff_toInt_le
  | 4 => exact Int32.lt_iff_toInt_lt
  | o + 5 => exact Int32.le_iff_toInt_le
theorem xlt_ok {a c : Int × Int} {t : Bool} {n k : Int} (h : xlt a c = some t) (h1 : a.1 ≤ n) (h2 : n ≤ a.2) (h3 : c.1 ≤ k) (h4 : k ≤ c.2) : t = true ↔ n < k := by
  unfold xlt at h
  cases hb : decide (a.2 < c.1) with
  | true => rw [hb] at h; cases h; have := of_decide_eq_true hb; exact ⟨fun _ => by omega, fun _ => rfl⟩
  | false =>
    rw [hb] at h
    simp only [cond] at h
    cases hd : decide (c.2 ≤ a.1) with
    | true => rw [hd] at h; cases h; have := of_decide_eq_true hd; exact ⟨fun z => (by cases z), fun z => absurd z (by omega)⟩
    | false => rw [hd] at h; cases h
theorem xeq_ok {a c : Int × Int} {t : Bool} {n k : Int} (h : xeq a c = some t) (h1 : a.1 ≤ n) (h2 : n ≤ a.2) (h3 : c.1 ≤ k) (h4 : k ≤ c.2) : t = true ↔ n = k := by
  unfold xeq at h
  cases hb : decide (a.1 = a.2 ∧ c.1 = c.2 ∧ a.1 = c.1) with
  | true => rw [hb] at h; cases h; have := of_decide_eq_true hb; exact ⟨fun _ => by omega, fun _ => rfl⟩
  | false =>
    rw [hb] at h
    simp only [cond] at h
    cases hd : decide (a.2 < c.1 ∨ c.2 < a.1) with
    | true => rw [hd] at h; cases h; have := of_decide_eq_true hd; exact ⟨fun z => (by cases z), fun z => absurd z (by omega)⟩
    | false => rw [hd] at h; cases h
theorem xmapnot {o : Option Bool} {t : Bool} (h : o.map not = some t) : o = some (!t) := by
  cases o with
  | none => cases h
  | some u => cases h; rw [Bool.not_not]
theorem xdec_ok {o : Nat} {a c : Int × Int} {t : Bool} {n k : Int32} (h : xdec o a c = some t) (h1 : a.1 ≤ n.toInt ∧ n.toInt ≤ a.2) (h3 : c.1 ≤ k.toInt ∧ k.toInt ≤ c.2) : t = true ↔ xP o n k := by
  rw [xP_int]
  match o, h with
  | 0, h => exact xeq_ok h h1.1 h1.2 h3.1 h3.2
  | 1, h =>
    have := xeq_ok (xmapnot h) h1.1 h1.2 h3.1 h3.2
    show t = true ↔ ¬ n.toInt = k.toInt
    rw [← this]; cases t <;> decide
  | 2, h => exact xlt_ok h h1.1 h1.2 h3.1 h3.2
  | 3, h =>
    have := xlt_ok (xmapnot h) h1.1 h1.2 h3.1 h3.2
    show t = true ↔ k.toInt ≤ n.toInt
    rw [← Int.not_lt, ← this]; cases t <;> decide
  | 4, h => exact xlt_ok h h3.1 h3.2 h1.1 h1.2
  | o + 5, h =>
    have := xlt_ok (xmapnot (h : (xlt c a).map not = some t)) h3.1 h3.2 h1.1 h1.2
    show t = true ↔ n.toInt ≤ k.toInt
    rw [← Int.not_lt, ← this]; cases t <;> decide
theorem xcut_ok {o : Nat} {t : Bool} {r : Int × Int} {n k : Int32} (h : t = true ↔ xP o n k) (h1 : r.1 ≤ n.toInt ∧ n.toInt ≤ r.2) : (xcut o t r k.toInt).1 ≤ n.toInt ∧ n.toInt ≤ (xcut o t r k.toInt).2 := by
  rw [xP_int] at h
  match o, t, h with
  | 0, false, _ => exact h1
  | 1, true, _ => exact h1
  | 0, true, h =>
    have h : true = true ↔ n.toInt = k.toInt := h
    show k.toInt ≤ n.toInt ∧ n.toInt ≤ k.toInt
    have h2 := h.mp rfl
    omega
  | 1, false, h =>
    have h : false = true ↔ ¬ n.toInt = k.toInt := h
    show k.toInt ≤ n.toInt ∧ n.toInt ≤ k.toInt
    have h2 : ¬ (¬ n.toInt = k.toInt) := fun z => by cases h.mpr z
    omega
  | 2, false, h =>
    have h : false = true ↔ n.toInt < k.toInt := h
    show k.toInt ≤ n.toInt ∧ n.toInt ≤ r.2
    have h2 : ¬ (n.toInt < k.toInt) := fun z => by cases h.mpr z
    omega
  | 2, true, h =>
    have h : true = true ↔ n.toInt < k.toInt := h
    show r.1 ≤ n.toInt ∧ n.toInt ≤ k.toInt - 1
    have h2 := h.mp rfl
    omega
  | 3, false, h =>
    have h : false = true ↔ k.toInt ≤ n.toInt := h
    show r.1 ≤ n.toInt ∧ n.toInt ≤ k.toInt - 1
    have h2 : ¬ (k.toInt ≤ n.toInt) := fun z => by cases h.mpr z
    omega
  | 3, true, h =>
    have h : true = true ↔ k.toInt ≤ n.toInt := h
    show k.toInt ≤ n.toInt ∧ n.toInt ≤ r.2
    have h2 := h.mp rfl
    omega
  | 4, false, h =>
    have h : false = true ↔ k.toInt < n.toInt := h
    show r.1 ≤ n.toInt ∧ n.toInt ≤ k.toInt
    have h2 : ¬ (k.toInt < n.toInt) := fun z => by cases h.mpr z
    omega
  | 4, true, h =>
    have h : true = true ↔ k.toInt < n.toInt := h
    show k.toInt + 1 ≤ n.toInt ∧ n.toInt ≤ r.2
    have h2 := h.mp rfl
    omega
  | 5, false, h =>
    have h : false = true ↔ n.toInt ≤ k.toInt := h
    show k.toInt + 1 ≤ n.toInt ∧ n.toInt ≤ r.2
    have h2 : ¬ (n.toInt ≤ k.toInt) := fun z => by cases h.mpr z
    omega
  | 5, true, h =>
    have h : true = true ↔ n.toInt ≤ k.toInt := h
    show r.1 ≤ n.toInt ∧ n.toInt ≤ k.toInt
    have h2 := h.mp rfl
    omega
  | o + 6, true, _ => exact h1
  | o + 6, false, _ => exact h1
theorem xer_set (hE : xer σ E) {k : Nat} {r : Int × Int} (h : r.1 ≤ (σ k).toInt ∧ (σ k).toInt ≤ r.2) : xer σ (E.set k r) := by
  refine ⟨fun i q hi => ?_, hE.2⟩
  rw [List.getElem?_set] at hi
  split at hi
  · rename_i hik
    subst hik
    split at hi
    · cases hi; exact h
    · cases hi
  · exact hE.1 i q hi
theorem xP_mir (o : Nat) (n k : Int32) : xP o n k ↔ xP (xmir o) k n := by
  match o with
  | 0 => exact eq_comm
  | 1 => exact not_congr eq_comm
  | 2 => exact Iff.rfl
  | 3 => exact Iff.rfl
  | 4 => exact Iff.rfl
  | o + 5 => exact Iff.rfl
theorem xref_ok (hE : xer σ E) {o : Nat} {t : Bool} {n k : Int32} : ∀ {x y : XI}, xir σ n x → xir σ k y → (t = true ↔ xP o n k) → xer σ (xref E o t x y)
  | .inr (.inl j), .inl c, hx, hy, h => by
    have hx : n = σ j := hx
    have hy : k = c := hy
    show xer σ (match E[j]? with
      | some r => E.set j (xcut o t r c.toInt)
      | none => E)
    cases hj : E[j]? with
    | none => exact hE
    | some r =>
      have h1 := hE.1 j r hj
      rw [← hx] at h1
      have h2 := xcut_ok h h1
      rw [hx, hy] at h2
      exact xer_set hE h2
  | .inl c, .inr (.inl j), hx, hy, h => by
    have hx : n = c := hx
    have hy : k = σ j := hy
    show xer σ (match E[j]? with
      | some r => E.set j (xcut (xmir o) t r c.toInt)
      | none => E)
    cases hj : E[j]? with
    | none => exact hE
    | some r =>
      have h1 := hE.1 j r hj
      rw [← hy] at h1
      have h2 := xcut_ok (h.trans (xP_mir o n k)) h1
      rw [hy, hx] at h2
      exact xer_set hE h2
  | .inl _, .inl _, _, _, _ => hE
  | .inl _, .inr (.inr _), _, _, _ => hE
  | .inr (.inr _), .inl _, _, _, _ => hE
  | .inr (.inr _), .inr _, _, _, _ => hE
  | .inr (.inl _), .inr _, _, _, _ => hE
theorem xbr_ok (hE : xer σ E) (o : Nat) {n k : Int32} {x y : XI} (hx : xir σ n x) (hy : xir σ k y) : ∃ q ∈ xbr E o x y, (q.1 = true ↔ xP o n k) ∧ xer σ q.2 := by
  unfold xbr
  cases hd : xdec o (xiv E x) (xiv E y) with
  | some t => exact ⟨(t, E), List.mem_cons_self, xdec_ok hd (xiv_ok hE hx) (xiv_ok hE hy), hE⟩
  | none =>
    rcases Classical.em (xP o n k) with z | z
    · exact ⟨(true, xref E o true x y), List.mem_cons_self, iff_of_true rfl z, xref_ok hE hx hy (iff_of_true rfl z)⟩
    · exact ⟨(false, xref E o false x y), List.mem_cons_of_mem _ List.mem_cons_self, iff_of_false Bool.false_ne_true z, xref_ok hE hx hy (iff_of_false Bool.false_ne_true z)⟩
theorem lg_cmp_cases (x y : Int64) : (x.toInt < y.toInt ∧ lg_cmp x y = -1) ∨ (x.toInt = y.toInt ∧ lg_cmp x y = 0) ∨ (y.toInt < x.toInt ∧ lg_cmp x y = 1) := by
  unfold lg_cmp
  simp only [gt_iff_lt, Int64.lt_iff_toInt_lt, ← Int64.toInt_inj]
  split
  · rename_i h; exact Or.inr (Or.inr ⟨h, rfl⟩)
  · split
    · rename_i h; exact Or.inr (Or.inl ⟨h, rfl⟩)
    · exact Or.inl ⟨by omega, rfl⟩
theorem xcmp_r (x y : Int64) : xir σ (lg_cmp x y) (xrg (-1) 1) := by
  show (-1 : Int) ≤ (lg_cmp x y).toInt ∧ (lg_cmp x y).toInt ≤ 1
  rcases lg_cmp_cases x y with ⟨-, h⟩ | ⟨-, h⟩ | ⟨-, h⟩ <;> rw [h] <;> decide
theorem xsg_cases (a c : Int) : (a < c ∧ xsg a c = -1) ∨ (a = c ∧ xsg a c = 0) ∨ (c < a ∧ xsg a c = 1) := by
  unfold xsg
  cases hb : decide (a < c) with
  | true => exact Or.inl ⟨of_decide_eq_true hb, rfl⟩
  | false =>
    have hb := of_decide_eq_false hb
    cases hd : decide (a = c) with
    | true => exact Or.inr (Or.inl ⟨of_decide_eq_true hd, rfl⟩)
    | false =>
      have hd := of_decide_eq_false hd
      exact Or.inr (Or.inr ⟨by omega, rfl⟩)
theorem xcmpB_ok (hE : xer σ E) {c d : Int64} : ∀ {x y : XL}, xLr σ c x → xLr σ d y → ∃ q ∈ xcmpB E x y, xir σ (lg_cmp c d) q.1 ∧ xer σ q.2
  | some (.inl x), some (.inl y), hx, hy => by
    have hx : c = x := hx
    have hy : d = y := hy
    exact ⟨(.inl (lg_cmp x y), E), List.mem_cons_self, by rw [hx, hy]; exact (rfl : lg_cmp x y = lg_cmp x y), hE⟩
  | some (.inr k), some (.inl y), hx, hy => by
    have hx : c = (σ k).toInt64 := hx
    have hy : d = y := hy
    subst hy
    unfold xcmpB
    simp only
    cases hk : E[k]? with
    | none => exact ⟨(xrg (-1) 1, E), List.mem_cons_self, xcmp_r _ _, hE⟩
    | some r =>
      have hr := hE.1 k r hk
      have e : c.toInt = (σ k).toInt := by rw [hx, Int32.toInt_toInt64]
      simp only
      cases hb : decide (d.toInt ≤ r.1 ∨ r.2 ≤ d.toInt) with
      | true =>
        refine ⟨(xrg (xsg r.1 d.toInt) (xsg r.2 d.toInt), E), List.mem_cons_self, ?_, hE⟩
        show xsg r.1 d.toInt ≤ (lg_cmp c d).toInt ∧ (lg_cmp c d).toInt ≤ xsg r.2 d.toInt
        have i1 := xsg_cases r.1 d.toInt
        have i2 := xsg_cases r.2 d.toInt
        rcases lg_cmp_cases c d with ⟨h, h2⟩ | ⟨h, h2⟩ | ⟨h, h2⟩ <;> rw [h2] <;> rw [e] at h
        · rw [show (-1 : Int32).toInt = -1 from rfl]; omega
        · rw [show (0 : Int32).toInt = 0 from rfl]; omega
        · rw [show (1 : Int32).toInt = 1 from rfl]; omega
      | false =>
        have hb := of_decide_eq_false hb
        have q1 : (d.toInt - 1 : Int) < d.toInt := by omega
        rcases lg_cmp_cases c d with ⟨h, h2⟩ | ⟨h, h2⟩ | ⟨h, h2⟩ <;> rw [e] at h
        · have hz : (σ k).toInt ≤ d.toInt - 1 := by omega
          exact ⟨(.inl (-1), E.set k (r.1, d.toInt - 1)), List.mem_cons_self, h2, xer_set hE ⟨hr.1, hz⟩⟩
        · have hz1 : d.toInt ≤ (σ k).toInt := by omega
          have hz2 : (σ k).toInt ≤ d.toInt := by omega
          exact ⟨(.inl 0, E.set k (d.toInt, d.toInt)), List.mem_cons_of_mem _ List.mem_cons_self, h2, xer_set hE ⟨hz1, hz2⟩⟩
        · have hz : d.toInt + 1 ≤ (σ k).toInt := by omega
          exact ⟨(.inl 1, E.set k (d.toInt + 1, r.2)), List.mem_cons_of_mem _ (List.mem_cons_of_mem _ List.mem_cons_self), h2, xer_set hE ⟨hz, hr.2⟩⟩
  | some (.inl y), some (.inr k), hx, hy => by
    have hx : c = y := hx
    have hy : d = (σ k).toInt64 := hy
    subst hx
    unfold xcmpB
    simp only
    cases hk : E[k]? with
    | none => exact ⟨(xrg (-1) 1, E), List.mem_cons_self, xcmp_r _ _, hE⟩
    | some r =>
      have hr := hE.1 k r hk
      have e : d.toInt = (σ k).toInt := by rw [hy, Int32.toInt_toInt64]
      simp only
      rcases lg_cmp_cases c d with ⟨h, h2⟩ | ⟨h, h2⟩ | ⟨h, h2⟩ <;> rw [e] at h
      · have hz0 : c.toInt < r.2 := by omega
        refine ⟨(.inl (-1), E.set k (cond (decide (c.toInt < r.1)) r.1 (c.toInt + 1), r.2)), List.mem_append_right _ (List.mem_append_right _ (by rw [decide_eq_true hz0]; exact List.mem_cons_self)), h2, xer_set hE ⟨?_, hr.2⟩⟩
        cases hb : decide (c.toInt < r.1) with
        | true => exact hr.1
        | false => exact (by omega : c.toInt + 1 ≤ (σ k).toInt)
      · have hz1 : c.toInt ≤ (σ k).toInt := by omega
        have hz2 : (σ k).toInt ≤ c.toInt := by omega
        have hz0 : r.1 ≤ c.toInt ∧ c.toInt ≤ r.2 := by omega
        exact ⟨(.inl 0, E.set k (c.toInt, c.toInt)), List.mem_append_right _ (List.mem_append_left _ (by rw [decide_eq_true hz0]; exact List.mem_cons_self)), h2, xer_set hE ⟨hz1, hz2⟩⟩
      · have hz0 : r.1 < c.toInt := by omega
        refine ⟨(.inl 1, E.set k (r.1, cond (decide (r.2 < c.toInt)) r.2 (c.toInt - 1))), List.mem_append_left _ (by rw [decide_eq_true hz0]; exact List.mem_cons_self), h2, xer_set hE ⟨hr.1, ?_⟩⟩
        cases hb : decide (r.2 < c.toInt) with
        | true => exact hr.2
        | false => exact (by omega : (σ k).toInt ≤ c.toInt - 1)
  | some (.inr k), some (.inr j), hx, hy => by
    have hx : c = (σ k).toInt64 := hx
    have hy : d = (σ j).toInt64 := hy
    unfold xcmpB
    simp only
    cases hb : Nat.beq k j with
    | true =>
      have e := Nat.eq_of_beq_eq_true hb
      subst e
      refine ⟨(.inl 0, E), List.mem_cons_self, ?_, hE⟩
      show lg_cmp c d = 0
      rw [hx, hy]
      rcases lg_cmp_cases (σ k).toInt64 (σ k).toInt64 with ⟨h, -⟩ | ⟨-, h⟩ | ⟨h, -⟩
      · exact absurd h (Int.lt_irrefl _)
      · exact h
      · exact absurd h (Int.lt_irrefl _)
    | false => exact ⟨(xrg (-1) 1, E), List.mem_cons_self, xcmp_r _ _, hE⟩
  | none, _, _, _ => ⟨(xrg (-1) 1, E), List.mem_cons_self, xcmp_r _ _, hE⟩
  | some (.inl _), none, _, _ => ⟨(xrg (-1) 1, E), List.mem_cons_self, xcmp_r _ _, hE⟩
  | some (.inr _), none, _, _ => ⟨(xrg (-1) 1, E), List.mem_cons_self, xcmp_r _ _, hE⟩
theorem xread_ok {b : Nat} {ads : List Nat} (hE : xer σ E) {n : Int32} {N : Nat} {d v : XV} {ms : XA} {x : XI} (hx : xir σ n x) (h : xread E N d ms x = some v) : vp_in n N ∧ ∀ w, xvr σ b ads w (xget d ms n.toNatClampNeg) → xvr σ b ads w v := by
  replace h : xread2 d ms (xidx E N x) = some v := h
  cases hi : xidx E N x with
  | none => rw [hi] at h; cases h
  | some o =>
    rw [hi] at h
    cases o with
    | some j =>
      have h : xget d ms j = v := Option.some.inj h
      subst h
      match x, hx, hi with
      | .inl c, hx, hi =>
        obtain ⟨h1, h2⟩ := xcond (hi : cond (decide (0 ≤ c.toInt ∧ c.toInt < (N : Int))) (some (some c.toNatClampNeg)) none = some (some j))
        have h2 : c.toNatClampNeg = j := Option.some.inj (Option.some.inj h2)
        subst h2
        have hx : n = c := hx
        rw [hx]
        exact ⟨vp_in_iff.mpr (of_decide_eq_true h1), fun w hw => hw⟩
      | .inr c, hx, hi =>
        obtain ⟨h1, h2⟩ := xcond (hi : cond (decide (0 ≤ (xiv E (.inr c)).1 ∧ (xiv E (.inr c)).2 < (N : Int))) (some none) none = some (some j))
        cases (Option.some.inj h2 : (none : Option Nat) = some j)
    | none =>
      match x, hx, hi with
      | .inl c, hx, hi =>
        obtain ⟨h1, h2⟩ := xcond (hi : cond (decide (0 ≤ c.toInt ∧ c.toInt < (N : Int))) (some (some c.toNatClampNeg)) none = some none)
        cases (Option.some.inj h2 : some c.toNatClampNeg = none)
      | .inr c, hx, hi =>
        obtain ⟨h1, -⟩ := xcond (hi : cond (decide (0 ≤ (xiv E (.inr c)).1 ∧ (xiv E (.inr c)).2 < (N : Int))) (some none) none = some none)
        have h2 := of_decide_eq_true h1
        have h3 := xiv_ok hE hx
        match ms, h with
        | .inl u, h =>
          have h : d = v := Option.some.inj h
          subst h
          exact ⟨vp_in_iff.mpr ⟨by omega, by omega⟩, fun w hw => hw⟩
        | .inr u, h => cases (h : (none : Option XV) = some v)
end XB
theorem xin_lt {n : Int32} {N : Nat} (h : vp_in n N) : n.toNatClampNeg < N := Nat.not_le.mp fun q => h (Or.inr q)
theorem xpos {c : Int32} (h : 0 ≤ c.toInt) : ¬ c < 0 := fun z => by
  have := Int32.lt_iff_toInt_lt.mp z
  rw [show (0 : Int32).toInt = 0 from rfl] at this
  omega
theorem xtgt_ok {pc t : Nat} {o : Int} (h : xtgt pc o = some t) : 0 ≤ (pc : Int) + o ∧ t = ((pc : Int) + o).toNat := by
  obtain ⟨h1, h2⟩ := xcond h
  exact ⟨of_decide_eq_true h1, (Option.some.inj h2).symm⟩
section XO
variable {L n : Nat} {ss : List XS} {m pc : Nat} {l : List (Nat × XV)} {st r : List XV} {C S : Nat} {fs : List XF} {h : XHp} {E : XE}
variable {Z : AmZ} {σ : Nat → Int32} {b : Nat} {xs : Nat → Int32} {ws : va_W} {lv : List (Nat × Value)} {vs : List Value} {cfs : List XG}
theorem xjmp1 {o : Nat} {off : Int} {x y : XI} {x1 y1 : Int32} {P : Prop} (hx : xjump m pc l r C S fs h off (xbr E o x y) = some ss) (G : ∀ s' ∈ ss, XGood n s') (hxs : XX L xs σ) (hE : xer σ E) (hx1 : xir σ x1 x) (hy1 : xir σ y1 y) (hH : xhr σ b Z ws h) (hl : xlr σ b (xads ws) lv l) (hs : xsr σ b (xads ws) vs r) (hf : xfr σ b (xads ws) n cfs fs)
    (k : 0 ≤ (pc : Int) + off → (xP o x1 y1 → XR L Z b xs m cfs n ((pc : Int) + off).toNat lv vs ws C S) → (¬ xP o x1 y1 → XR L Z b xs m cfs n (pc + 3) lv vs ws C S) → P) : P := by
  unfold xjump at hx
  cases ht : xtgt pc off with
  | none => simp only [ht] at hx; cases hx
  | some t =>
    simp only [ht] at hx
    cases hx
    obtain ⟨h0, rfl⟩ := xtgt_ok ht
    obtain ⟨q, hq, h1, h2⟩ := xbr_ok hE o hx1 hy1
    have g0 : XGood n ((m, cond q.1 ((pc : Int) + off).toNat (pc + 3), l, r, C, S, 0) :: fs, h, q.2) := G _ (List.mem_map.mpr ⟨q, hq, rfl⟩)
    have g := xg g0 hxs h2 hH hl hs hf
    refine k h0 (fun z => ?_) (fun z => ?_)
    · rw [h1.mpr z] at g; exact g
    · have : q.1 = false := by
        cases hq1 : q.1 with
        | false => rfl
        | true => exact absurd (h1.mp hq1) z
      rw [this] at g; exact g
theorem xsw1_ok {df lo hi v : Int} {os : Array Int} {t : Nat} {P : Nat → Prop} (hx : xsw1 pc df lo hi os v = some t) (hk : P t) : (∀ o, ¬ v < lo → ¬ hi < v → os[(v - lo).toNat]? = some o → 0 ≤ (pc : Int) + o ∧ P ((pc : Int) + o).toNat) ∧ (¬ v < lo → ¬ hi < v → (os[(v - lo).toNat]?).isSome = true) ∧ ((v < lo ∨ hi < v) → 0 ≤ (pc : Int) + df ∧ P ((pc : Int) + df).toNat) := by
  unfold xsw1 at hx
  cases hb : decide (v < lo ∨ hi < v) with
  | true =>
    rw [hb] at hx
    obtain ⟨h0, rfl⟩ := xtgt_ok (hx : xtgt pc df = some t)
    have hb := of_decide_eq_true hb
    exact ⟨fun o z1 z2 => absurd hb (by omega), fun z1 z2 => absurd hb (by omega), fun _ => ⟨h0, hk⟩⟩
  | false =>
    rw [hb] at hx
    have hb := of_decide_eq_false hb
    cases ho : os[(v - lo).toNat]? with
    | none => simp only [ho] at hx; cases hx
    | some o =>
      simp only [ho] at hx
      obtain ⟨h0, rfl⟩ := xtgt_ok (hx : xtgt pc o = some t)
      exact ⟨fun o2 _ _ z => by cases z; exact ⟨h0, hk⟩, fun _ _ => rfl, fun z => absurd z hb⟩
theorem xswitch_ok {df lo hi : Int} {os : Array Int} {x : XI} {x1 : Int32} (hx : xswitch m pc l r C S fs h E df lo hi os x = some ss) (G : ∀ s' ∈ ss, XGood n s') (hxs : XX L xs σ) (hE : xer σ E) (hx1 : xir σ x1 x) (hH : xhr σ b Z ws h) (hl : xlr σ b (xads ws) lv l) (hs : xsr σ b (xads ws) vs r) (hf : xfr σ b (xads ws) n cfs fs) :
    ∃ x r, Value.int x1 :: vs = Value.int x :: r ∧ (∀ o, ¬ x.toInt < lo → ¬ hi < x.toInt → os[(x.toInt - lo).toNat]? = some o → 0 ≤ (pc : Int) + o ∧ XR L Z b xs m cfs n ((pc : Int) + o).toNat lv r ws C S) ∧ (¬ x.toInt < lo → ¬ hi < x.toInt → (os[(x.toInt - lo).toNat]?).isSome = true) ∧ ((x.toInt < lo ∨ hi < x.toInt) → 0 ≤ (pc : Int) + df ∧ XR L Z b xs m cfs n ((pc : Int) + df).toNat lv r ws C S) := by
  refine ⟨x1, vs, rfl, ?_⟩
  obtain ⟨hb, hx⟩ := xcond hx
  have hr := xiv_ok hE hx1
  have e : x1.toInt = (xiv E x).1 := by
    have h1 := of_decide_eq_true hb
    have h2 := hr.1
    have h3 := hr.2
    omega
  cases ht : xsw1 pc df lo hi os (xiv E x).1 with
  | none => rw [ht] at hx; cases hx
  | some t =>
    rw [ht] at hx
    have hss : [((m, t, l, r, C, S, 0) :: fs, h, E)] = ss := Option.some.inj hx
    subst hss
    rw [← e] at ht
    exact xsw1_ok (P := fun t => XR L Z b xs m cfs n t lv vs ws C S) ht (xg (G _ List.mem_cons_self) hxs hE hH hl hs hf)
end XO
-- ---- calls, returns, throws
theorem xHof_mono (m : Nat) (X : AmX) : ∀ K K' : AmK, (∀ pc lv st ws C S, K pc lv st ws C S → K' pc lv st ws C S) → ∀ pc lv C S E u, xHof m X K pc lv C S E u → xHof m X K' pc lv C S E u := by
  intro K K' hK pc lv C S E u h
  unfold xHof at h ⊢
  revert h
  generalize xk m = k
  intro h
  match k, h with
  | 0, h => exact h
  | 1, h => exact am_hx_mono K K' hK pc lv C S E u h
  | k + 2, h => exact h.elim
theorem xcw_mono (Z : AmZ) (m : Nat) : ∀ y as ws mc ms post post' xp xp', (∀ v u, post v u → post' v u) → (∀ E u, xp E u → xp' E u) → (if m = 0 then am_wpW Z am_leaf 1300 else am_no) y as ws mc ms post xp → (if m = 0 then am_wpW Z am_leaf 1300 else am_no) y as ws mc ms post' xp' := by
  intro y as ws mc ms post post' xp xp' h1 h2 h
  split at h
  · rename_i hm
    rw [if_pos hm]
    exact am_wpW_mono am_leaf_mono 1300 y as ws mc ms post post' xp xp' h1 h2 h
  · exact h.elim
theorem XRun_mono {L : Nat} {Z : AmZ} {b : Nat} {xs : Nat → Int32} {m r : Nat} {ret : AmR} {X : AmX} {n n' : Nat} (hn : n ≤ n') {pc : Nat} {lv : List (Nat × Value)} {st : List Value} {ws : va_W} {C S : Nat} (h : XRun L Z b xs m r ret X n pc lv st ws C S) : XRun L Z b xs m r ret X n' pc lv st ws C S :=
  am_run_mono (fun _ _ z => z) (am_wp_mono am_leaf_mono _) (xcw_mono Z m) (xHof_mono m X) n n' hn pc lv st ws C S h
section XJ
variable {L n : Nat} {ss : List XS} {m pc : Nat} {l : List (Nat × XV)} {st r : List XV} {C S : Nat} {fs : List XF} {h : XHp} {E : XE}
variable {Z : AmZ} {σ : Nat → Int32} {b : Nat} {xs : Nat → Int32} {ws : va_W} {lv : List (Nat × Value)} {vs vr : List Value} {cfs : List XG}
/-- what the tables say of a method k -/
theorem xm_w {k : Nat} (h0 : 0 < k) (hk : k < xm_n) : xn k ≤ 45 ∧ plainFor (xy k) = true ∧ (xy k).cls = xcls (xo k) ∧ ((xy k).cls ≠ "java/lang/invoke/MethodHandle" ∧ (xy k).cls ≠ "java/lang/invoke/VarHandle") ∧ (xk k = 0 → Cond.code (xy k) (xc k) (xn k) (xr k) ∈ am_T) ∧ (¬ xk k = 0 → Cond.codeWith (xy k) (xc k) (xn k) (xr k) (xh k) ∈ am_T) ∧ (xsta k = 1 → Cond.static (xy k) ∈ am_T) ∧ (¬ xsta k = 1 → Cond.instanceMethod (xy k) ∈ am_T) ∧ Cond.initialized (xy k).cls ∈ am_T ∧ (xsta k = 0 → xin k = false → Cond.selects (xy k).cls (xy k) (xy k) ∈ am_T) ∧ xin k = decide ((xy k).name = "<init>") := by
  have hc := xmp_all h0 hk
  have hi := xin_all hk
  have hcode := xmc_all h0 hk
  unfold xm_pl at hc
  simp only [Bool.and_eq_true, decide_eq_true_eq] at hc
  obtain ⟨⟨⟨⟨c1, c2⟩, c3⟩, c4⟩, c5⟩ := hc
  have hmem : k ∈ List.range' 1 439 := List.mem_range'_1.mpr ⟨h0, hk⟩
  obtain ⟨g1, hg1⟩ := xm_any (List.all_eq_true.mp xm_in1 k hmem)
  have w1 := xps_T (xps_ok xm_ok1 _ hg1)
  unfold xm_w1 at w1
  obtain ⟨g3, hg3⟩ := xm_any (List.all_eq_true.mp xm_in3 (xo k) (List.mem_range.mpr (xo_w hk)))
  have w3 : Cond.initialized (xcls (xo k)) ∈ am_T := xps_T (xps_ok xm_ok3 _ hg3)
  refine ⟨c1, c2, c3, ⟨c4, c5⟩, fun z => ?_, fun z => ?_, fun z => ?_, fun z => ?_, by rw [c3]; exact w3, fun z z2 => ?_, hi⟩
  · rw [if_pos z] at hcode; exact hcode
  · rw [if_neg z] at hcode; exact hcode
  · rw [if_pos z] at w1; exact w1
  · rw [if_neg z] at w1; exact w1
  · have h2 := List.all_eq_true.mp xm_in2 k hmem
    rw [z, z2] at h2
    obtain ⟨g2, hg2⟩ := xm_any (l := xm_2) (m := k) (by simpa using h2)
    exact xps_T (xps_ok xm_ok2 _ hg2)
theorem xl_w {i k nn p w : Nat} (hm : m < xm_n) (hx : xlD (xo m) i = some (k, nn, p, w)) (hk : k < 1000) : k < xm_n ∧ (parseMethodDescriptor (xy k).desc).map (fun d => d.parameters.length) = some nn ∧ (w = 0 → Cond.methodLink (xcls (xo m)) i (xy k) ∈ am_T) ∧ (¬ w = 0 → Cond.methodLinkNest (xcls (xo m)) i (xy k) "GraphHouse" ∈ lw_tbl) := by
  have hmem := xlD_mem (xo_w hm) hx
  obtain ⟨h1, h2⟩ := xps_ok (xl_all (xo_w hm)) _ hmem
  have hn := of_decide_eq_true (List.all_eq_true.mp (xl_nall (xo_w hm)) _ hmem)
  have hk2 : k < xm_n := by
    rcases hn with z | z
    · exact z
    · exact absurd (show 1000 ≤ k from z) (Nat.not_le.mpr hk)
  unfold xl_ck at h2
  unfold xl_wd at h1 h2
  simp only at h1 h2
  rw [if_neg (by omega), if_neg (by omega), if_neg (by omega), if_neg (by omega)] at h1 h2
  simp only [Bool.and_eq_true, Bool.or_eq_true, decide_eq_true_eq] at h2
  have hd : (parseMethodDescriptor (xy k).desc).map (fun d => d.parameters.length) = some nn := by
    rcases h2.2 with z | z
    · exact absurd (show 1000 ≤ k from z) (Nat.not_le.mpr hk)
    · exact z
  by_cases hw : w = 0
  · rw [if_pos hw] at h1 h2
    refine ⟨hk2, hd, fun _ => xps_T ⟨h1, ?_⟩, fun z => absurd hw z⟩
    rcases h2.1 with z | z
    · exact z
    · rw [hw] at z; cases z
  · rw [if_neg hw] at h1
    exact ⟨hk2, hd, fun z => absurd z hw, fun _ => h1⟩
theorem xl_s {i k nn p w : Nat} {y : MethodName} (hm : m < xm_n) (hx : xlD (xo m) i = some (k, nn, p, w)) (hk : (k = 1000 ∧ y = (objectInit : MethodName)) ∨ (k = 1001 ∧ y = (arraycopyName : MethodName)) ∨ (k = 1002 ∧ y = yX11_allow) ∨ (k = 1003 ∧ y = yX11_ready)) : Cond.methodLink (xcls (xo m)) i y ∈ am_T := by
  obtain ⟨h1, -⟩ := xps_ok (xl_all (xo_w hm)) _ (xlD_mem (xo_w hm) hx)
  unfold xl_wd at h1
  simp only at h1
  rcases hk with ⟨rfl, rfl⟩ | ⟨rfl, rfl⟩ | ⟨rfl, rfl⟩ | ⟨rfl, rfl⟩
  · rw [if_pos rfl] at h1; exact xps_T ⟨h1, rfl⟩
  · rw [if_neg (by decide), if_pos rfl] at h1; exact xps_T ⟨h1, rfl⟩
  · rw [if_neg (by decide), if_neg (by decide), if_pos rfl] at h1; exact xps_T ⟨h1, rfl⟩
  · rw [if_neg (by decide), if_neg (by decide), if_neg (by decide), if_pos rfl] at h1; exact xps_T ⟨h1, rfl⟩
theorem xcall_ok {k f : Nat} {as : List XV} {av : List Value} (hx : xcall m pc l r as C S fs h E k f = some ss) (G : ∀ s' ∈ ss, XGood n s') (hxs : XX L xs σ) (hE : xer σ E) (hH : xhr σ b Z ws h) (hl : xlr σ b (xads ws) lv l) (hr : xsr σ b (xads ws) vr r) (ha : xsr σ b (xads ws) av as) (hf : xfr σ b (xads ws) n cfs fs) :
    (xbud k).1 ≤ C ∧ (xbud k).2 ≤ S ∧ (vr.map fun v => v.category).sum ≤ 8 ∧ (lg_sl av).length ≤ xn k ∧ cfs.length ≤ 1000 ∧ XR L Z b xs k ((m, pc, lv, vr, C - (xbud k).1, S - (xbud k).2, n, f) :: cfs) n 0 (lv_args 0 av) [] ws (xbud k).1 (xbud k).2 := by
  obtain ⟨hb, hx⟩ := xcond hx
  simp only [Bool.and_eq_true] at hb
  obtain ⟨⟨⟨⟨b1, b2⟩, b3⟩, b4⟩, b5⟩ := hb
  cases hx
  refine ⟨Nat.le_of_ble_eq_true b1, Nat.le_of_ble_eq_true b2, by rw [xsr_cat hr]; exact Nat.le_of_ble_eq_true b3, by rw [xsr_sl ha]; exact Nat.le_of_ble_eq_true b4, by rw [xfr_len hf]; exact Nat.le_of_ble_eq_true b5, ?_⟩
  exact xg (G _ List.mem_cons_self) hxs hE hH (xlr_args ha 0) trivial ⟨rfl, rfl, rfl, rfl, rfl, Nat.le_refl n, hl, hr, hf⟩
/-- an ordinary callee -/
theorem xwp {k f : Nat} {av : List Value} {C' S' mc ms : Nat} (h0 : 0 < k) (hk : k < xm_n) (hk0 : xk k = 0) (hlen : (lg_sl av).length ≤ xn k) (hd : cfs.length ≤ 1000) (g : XR L Z b xs k ((m, pc, lv, vr, C', S', n, f) :: cfs) n 0 (lv_args 0 av) [] ws mc ms) :
    am_wp Z am_leaf (1300 - cfs.length) (xy k) av ws mc ms (fun v u => XR L Z b xs m cfs n (pc + 3) lv (v.toList ++ vr) u C' S') (fun E u => f = 0 ∧ xHof m (xCC L Z b xs cfs).2 (XR L Z b xs m cfs n) pc lv C' S' E u) := by
  obtain ⟨c1, c2, c3, -, c5, -, -, -, -, -, c11⟩ := xm_w h0 hk
  obtain ⟨d, hd2⟩ : ∃ d, 1300 - cfs.length = d + 1 := ⟨1299 - cfs.length, by omega⟩
  have hd3 : 1300 - (cfs.length + 1) = d := by omega
  rw [hd2]
  refine Or.inr ⟨xc k, xn k, xr k, n, c5 hk0, c1, hlen, c2, ?_⟩
  unfold XR XRun at g
  rw [if_neg (Nat.pos_iff_ne_zero.mp h0), if_neg (Nat.pos_iff_ne_zero.mp h0)] at g
  have eH : xHof k (xCC L Z b xs ((m, pc, lv, vr, C', S', n, f) :: cfs)).2 = fun _ _ _ _ _ => (xCC L Z b xs ((m, pc, lv, vr, C', S', n, f) :: cfs)).2 := by
    unfold xHof
    simp only [hk0]
  rw [eH, ← c3, c11, List.length_cons, hd3] at g
  exact g
end XJ
