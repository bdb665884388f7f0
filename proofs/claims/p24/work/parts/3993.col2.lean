/-! COLOURING OF THE REFERENCE: the search -/
def Tn (t : GS) (d : Nat) : Nat := (t.1 144 d).toNatClampNeg
def Cq (t : GS) (x : Nat) : Int := (t.1 142 x).toInt
def Bq (t : GS) (d : Nat) : Int := (t.1 143 d).toInt
def Sg (t : GS) (x : Nat) : Int := if (x : Int) < (t.2.2.1 109 20).toInt then (t.1 141 x).toInt else -1
def Pq (t : GS) (x : Nat) : Prop := bt (t.2.2.1 109 53) x = true
def CJQ (t : GS) (k : Int) (D d : Nat) : Prop := CJ (adjq t) (Sg t) k (Pq t) (Cq t) (Tn t) (t.1 145) (Bq t) (t.1 146) D d
/-- where the search stands: depths 0 to D -/
def PCI (t : GS) (k : Int) (D : Nat) : Prop :=
  (∀ d, d ≤ D → Pq t (Tn t d)) ∧
  (∀ d e, d < e → e ≤ D → Tn t d ≠ Tn t e) ∧
  (∀ d, d < D → 0 ≤ Cq t (Tn t d) ∧ Cq t (Tn t d) < k ∧ Cq t (Tn t d) < Bq t (d + 1) ∧ Bq t d ≤ Bq t (d + 1)) ∧
  (0 ≤ Bq t 0 ∧ ∀ u, 0 ≤ Sg t u → Sg t u < Bq t 0) ∧
  (∀ x, Pq t x → (∀ d, d ≤ D → x ≠ Tn t d) → Cq t x < 0) ∧
  (∀ x : Nat, (x : Int) < (t.2.2.1 109 20).toInt → ¬ Pq t x → Cq t x = Sg t x) ∧
  (∀ d, d < D → ∀ u, adjq t (Tn t d) u → (0 ≤ Sg t u → Cq t (Tn t d) ≠ Sg t u) ∧ ∀ e, e < d → u = Tn t e → Cq t (Tn t d) ≠ Cq t u) ∧
  (∀ d, d ≤ D → ∀ c : Nat, bt (t.1 145 d) c = true → (c : Int) < k ∧ (c : Int) ≤ Bq t d ∧ ∀ u, adjq t (Tn t d) u → (0 ≤ Sg t u → Sg t u ≠ (c : Int)) ∧ ∀ e, e < d → u = Tn t e → Cq t u ≠ (c : Int)) ∧
  (∀ d, d ≤ D → ∀ x, bt (t.1 146 d) x = true → ∃ j, j < d ∧ x = Tn t j) ∧
  (∀ d, d ≤ D → CJQ t k D d)
theorem PCI.i1 {t : GS} {k : Int} {D : Nat} (h : PCI t k D) : ∀ d, d ≤ D → Pq t (Tn t d) := h.1
theorem PCI.i2 {t : GS} {k : Int} {D : Nat} (h : PCI t k D) : ∀ d e, d < e → e ≤ D → Tn t d ≠ Tn t e := h.2.1
theorem PCI.i3 {t : GS} {k : Int} {D : Nat} (h : PCI t k D) : ∀ d, d < D → 0 ≤ Cq t (Tn t d) ∧ Cq t (Tn t d) < k ∧ Cq t (Tn t d) < Bq t (d + 1) ∧ Bq t d ≤ Bq t (d + 1) := h.2.2.1
theorem PCI.i4 {t : GS} {k : Int} {D : Nat} (h : PCI t k D) : 0 ≤ Bq t 0 ∧ ∀ u, 0 ≤ Sg t u → Sg t u < Bq t 0 := h.2.2.2.1
theorem PCI.i5 {t : GS} {k : Int} {D : Nat} (h : PCI t k D) : ∀ x, Pq t x → (∀ d, d ≤ D → x ≠ Tn t d) → Cq t x < 0 := h.2.2.2.2.1
theorem PCI.i6 {t : GS} {k : Int} {D : Nat} (h : PCI t k D) : ∀ x : Nat, (x : Int) < (t.2.2.1 109 20).toInt → ¬ Pq t x → Cq t x = Sg t x := h.2.2.2.2.2.1
theorem PCI.i7 {t : GS} {k : Int} {D : Nat} (h : PCI t k D) : ∀ d, d < D → ∀ u, adjq t (Tn t d) u → (0 ≤ Sg t u → Cq t (Tn t d) ≠ Sg t u) ∧ ∀ e, e < d → u = Tn t e → Cq t (Tn t d) ≠ Cq t u := h.2.2.2.2.2.2.1
theorem PCI.i8 {t : GS} {k : Int} {D : Nat} (h : PCI t k D) : ∀ d, d ≤ D → ∀ c : Nat, bt (t.1 145 d) c = true → (c : Int) < k ∧ (c : Int) ≤ Bq t d ∧ ∀ u, adjq t (Tn t d) u → (0 ≤ Sg t u → Sg t u ≠ (c : Int)) ∧ ∀ e, e < d → u = Tn t e → Cq t u ≠ (c : Int) := h.2.2.2.2.2.2.2.1
theorem PCI.i9 {t : GS} {k : Int} {D : Nat} (h : PCI t k D) : ∀ d, d ≤ D → ∀ x, bt (t.1 146 d) x = true → ∃ j, j < d ∧ x = Tn t j := h.2.2.2.2.2.2.2.2.1
theorem PCI.i10 {t : GS} {k : Int} {D : Nat} (h : PCI t k D) : ∀ d, d ≤ D → CJQ t k D d := h.2.2.2.2.2.2.2.2.2
theorem pc_mono {t : GS} {k : Int} {D : Nat} (h : PCI t k D) : ∀ e, e ≤ D → ∀ d, d ≤ e → Bq t d ≤ Bq t e := by
  intro e
  induction e with
  | zero => intro _ d hd; rw [show d = 0 by omega]; exact Int.le_refl _
  | succ e ih =>
    intro he d hd
    by_cases c : d = e + 1
    · rw [c]; exact Int.le_refl _
    · have a := ih (by omega) d (by omega)
      have b := (h.i3 e (by omega)).2.2.2
      omega
/-- nothing is left at D: no colouring agrees with its reasons -/
theorem pc_no {t : GS} {k : Int} {D : Nat} (h : PCI t k D) (hL : ∀ c, bt (t.1 145 D) c = false) : ∀ χ, Sol (adjq t) (Sg t) k (Pq t) χ → ¬ (∀ x, bt (t.1 146 D) x = true → χ x = Cq t x) := by
  have m := pc_mono h D (Nat.le_refl _)
  refine cj_no (h.i10 D (Nat.le_refl _)) hL (h.i1 D (Nat.le_refl _)) ?_ (fun u hu => ?_) (fun x hx => ?_)
  · have := m 0 (Nat.zero_le _)
    have := h.i4.1
    omega
  · have := m 0 (Nat.zero_le _)
    have := h.i4.2 u hu
    omega
  · obtain ⟨j, hj, e⟩ := h.i9 D (Nat.le_refl _) x hx
    have a := (h.i3 j hj).2.2.1
    have b := m (j + 1) (by omega)
    rw [e]
    omega
/-- all of the part is coloured: a colouring -/
theorem pc_yes {t : GS} {k : Int} {D c : Nat} (h : PCI t k D) (hc : bt (t.1 145 D) c = true) (hsym : ∀ a b, adjq t a b → adjq t b a) (hirr : ∀ a, ¬ adjq t a a) (hall : ∀ x, Pq t x → ∃ d, d ≤ D ∧ x = Tn t d) : Ext (adjq t) (Sg t) k (Pq t) := by
  obtain ⟨c1, c2, c3⟩ := h.i8 D (Nat.le_refl _) c hc
  have hne : ∀ d, d < D → Tn t d ≠ Tn t D := fun d hd => h.i2 d D hd (Nat.le_refl _)
  have ev : (fun x => if x = Tn t D then (c : Int) else Cq t x) (Tn t D) = (c : Int) := if_pos rfl
  have en : ∀ d, d < D → (fun x => if x = Tn t D then (c : Int) else Cq t x) (Tn t d) = Cq t (Tn t d) := fun d hd => if_neg (hne d hd)
  have pr : ∀ d e, d ≤ D → e < d → adjq t (Tn t d) (Tn t e) → (fun x => if x = Tn t D then (c : Int) else Cq t x) (Tn t e) ≠ (fun x => if x = Tn t D then (c : Int) else Cq t x) (Tn t d) := by
    intro d e hd he ha
    rw [en e (by omega)]
    by_cases k1 : d = D
    · rw [k1] at ha he ⊢
      rw [ev]
      exact (c3 _ ha).2 e he rfl
    · rw [en d (by omega)]
      exact fun q => (h.i7 d (by omega) _ ha).2 e he rfl q.symm
  refine ⟨fun x => if x = Tn t D then (c : Int) else Cq t x, fun v hv => ?_, fun v hv u hu => ⟨fun hT => ?_, fun hs => ?_⟩⟩
  · obtain ⟨d, hd, e⟩ := hall v hv
    rw [e]
    by_cases k1 : d = D
    · rw [k1, ev]; constructor <;> omega
    · rw [en d (by omega)]
      have := h.i3 d (by omega)
      exact ⟨this.1, this.2.1⟩
  · obtain ⟨d, hd, e⟩ := hall v hv
    obtain ⟨f, hf, e2⟩ := hall u hT
    rw [e, e2] at hu ⊢
    by_cases k1 : f < d
    · exact pr d f hd k1 hu
    · by_cases k2 : d < f
      · exact fun q => pr f d hf k2 (hsym _ _ hu) q.symm
      · rw [show f = d by omega] at hu
        exact absurd hu (hirr _)
  · obtain ⟨d, hd, e⟩ := hall v hv
    rw [e] at hu ⊢
    by_cases k1 : d = D
    · rw [k1] at hu ⊢
      rw [ev]
      exact fun q => (c3 u hu).1 hs q.symm
    · rw [en d (by omega)]
      exact (h.i7 d (by omega) u hu).1 hs
/-- back to depth j -/
theorem pc_pop {t t2 : GS} {k : Int} {D j : Nat} {bars : Int32} (h : PCI t k D) (hj : j < D) (hno : ∀ χ, Sol (adjq t) (Sg t) k (Pq t) χ → ¬ (∀ x, bt bars x = true → χ x = Cq t x)) (hb : ∀ x, bt bars x = true → ∃ i, i ≤ j ∧ x = Tn t i)
    (e1 : t2.1 144 = t.1 144) (e2 : t2.1 143 = t.1 143) (e3 : t2.1 145 = t.1 145) (e4 : t2.1 141 = t.1 141) (e5 : t2.1 138 = t.1 138) (e6 : t2.2.2.1 = t.2.2.1) (hC : ∀ x, (∀ d, j ≤ d → d ≤ D → x ≠ Tn t d) → t2.1 142 x = t.1 142 x) (hC2 : ∀ d, j < d → d ≤ D → Cq t2 (Tn t d) < 0)
    (hY : ∀ d, d < j → t2.1 146 d = t.1 146 d) (hYj : ∀ x, (bt (t2.1 146 j) x = true ↔ (bt (t.1 146 j) x = true ∨ (bt bars x = true ∧ x ≠ Tn t j)))) : PCI t2 k j := by
  have tn : Tn t2 = Tn t := by funext d; unfold Tn; rw [e1]
  have bq : Bq t2 = Bq t := by funext d; unfold Bq; rw [e2]
  have sg : Sg t2 = Sg t := by funext x; unfold Sg; rw [e4, e6]
  have pq : Pq t2 = Pq t := by funext x; unfold Pq; rw [e6]
  have ad : adjq t2 = adjq t := by funext a b; unfold adjq; rw [e5, e6]
  have ce : ∀ e, e < j → Cq t2 (Tn t e) = Cq t (Tn t e) := by
    intro e he
    unfold Cq
    rw [hC _ (fun d h1 h2 => h.i2 e d (by omega) h2)]
  have yj : ∀ d, d ≤ j → ∀ x, bt (t2.1 146 d) x = true → ∃ i, i < d ∧ x = Tn t i := by
    intro d hd x hx
    by_cases c : d = j
    · rw [c] at hx ⊢
      rcases (hYj x).mp hx with q | ⟨q, q2⟩
      · exact h.i9 j (by omega) x q
      · obtain ⟨i, i1, i2⟩ := hb x q
        refine ⟨i, ?_, i2⟩
        by_cases c2 : i = j
        · rw [c2] at i2; exact absurd i2 q2
        · omega
    · rw [hY d (by omega)] at hx
      exact h.i9 d (by omega) x hx
  have cy : ∀ d, d ≤ j → ∀ x, bt (t2.1 146 d) x = true → Cq t2 x = Cq t x := by
    intro d hd x hx
    obtain ⟨i, i1, i2⟩ := yj d hd x hx
    rw [i2]; exact ce i (by omega)
  refine ⟨?_, ?_, ?_, ?_, ?_, ?_, ?_, ?_, ?_, ?_⟩
  · rw [tn, pq]; exact fun d hd => h.i1 d (by omega)
  · rw [tn]; exact fun d e h1 h2 => h.i2 d e h1 (by omega)
  · rw [tn, bq]
    intro d hd
    rw [ce d hd]
    exact h.i3 d (by omega)
  · rw [bq, sg]; exact h.i4
  · rw [pq, tn]
    intro x hx hq
    by_cases c : ∃ d, j < d ∧ d ≤ D ∧ x = Tn t d
    · obtain ⟨d, d1, d2, d3⟩ := c
      rw [d3]; exact hC2 d d1 d2
    · have hx2 : ∀ d, d ≤ D → x ≠ Tn t d := by
        intro d hd e
        by_cases c2 : d ≤ j
        · exact hq d c2 e
        · exact c ⟨d, by omega, hd, e⟩
      unfold Cq
      rw [hC x (fun d _ h2 => hx2 d h2)]
      exact h.i5 x hx hx2
  · rw [pq, sg, e6]
    intro x hx hq
    have a := h.i6 x hx hq
    unfold Cq at a ⊢
    rw [hC x (fun d _ h2 e => hq (by rw [e]; exact h.i1 d h2))]
    exact a
  · rw [tn, ad, sg]
    intro d hd u hu
    rw [ce d hd]
    refine ⟨(h.i7 d (by omega) u hu).1, fun e he e2 => ?_⟩
    rw [e2, ce e (by omega), ← e2]
    exact (h.i7 d (by omega) u hu).2 e he e2
  · rw [tn, ad, sg, bq, e3]
    intro d hd c hc
    obtain ⟨a1, a2, a3⟩ := h.i8 d (by omega) c hc
    refine ⟨a1, a2, fun u hu => ⟨(a3 u hu).1, fun e he e2 => ?_⟩⟩
    rw [e2, ce e (by omega), ← e2]
    exact (a3 u hu).2 e he e2
  · rw [tn]; exact yj
  · intro d hd
    unfold CJQ
    rw [tn, ad, sg, bq, e3, pq]
    by_cases c : d = j
    · rw [c]
      exact cj_pop (h.i10 j (by omega)) hj hno (cy j (Nat.le_refl _)) (fun x hx => (hYj x).mpr (Or.inl hx)) (fun x hx hn => (hYj x).mpr (Or.inr ⟨hx, hn⟩))
    · refine cj_cg (h.i10 d (by omega)) (fun x hx => ?_) rfl rfl rfl (hY d (by omega)) (fun _ => ⟨by omega, ce d (by omega)⟩)
      obtain ⟨i, i1, i2⟩ := h.i9 d (by omega) x hx
      rw [i2]; exact ce i (by omega)
/-- one depth more -/
theorem pc_push {t t2 : GS} {k : Int} {D c x : Nat} (h : PCI t k D) (hc : bt (t.1 145 D) c = true) (hSP : ∀ y, Pq t y → (y : Int) < (t.2.2.1 109 20).toInt ∧ Sg t y < 0) (hBn : ∀ a b, adjq t a b → (b : Int) < (t.2.2.1 109 20).toInt) (hx : x = Tn t2 (D + 1)) (hxP : Pq t x) (hxD : ∀ d, d ≤ D → x ≠ Tn t d)
    (e1 : ∀ d, d ≤ D → t2.1 144 d = t.1 144 d) (e2 : ∀ d, d ≤ D → t2.1 143 d = t.1 143 d) (hB1 : Bq t D ≤ Bq t2 (D + 1)) (hB2 : (c : Int) < Bq t2 (D + 1)) (e3 : ∀ d, d < D → t2.1 145 d = t.1 145 d) (hLD : ∀ y, (bt (t2.1 145 D) y = true ↔ (bt (t.1 145 D) y = true ∧ y ≠ c))) (hLn : ∀ y : Nat, (bt (t2.1 145 (D + 1)) y = true ↔ ((y : Int) < k ∧ (y : Int) ≤ Bq t2 (D + 1) ∧ ¬ BRQ t2 x y)))
    (e4 : t2.1 141 = t.1 141) (e5 : t2.1 138 = t.1 138) (e6 : t2.2.2.1 = t.2.2.1) (hC : ∀ y, y ≠ Tn t D → t2.1 142 y = t.1 142 y) (hCD : Cq t2 (Tn t D) = (c : Int)) (hY : ∀ d, d ≤ D → t2.1 146 d = t.1 146 d) (hY1 : ∀ y, bt (t2.1 146 (D + 1)) y = true → ∃ j, j < D + 1 ∧ y = Tn t2 j) (hY2 : ∀ j, j < D + 1 → bt (t2.1 138 x) (Tn t2 j) = true → bt (t2.1 146 (D + 1)) (Tn t2 j) = true) : PCI t2 k (D + 1) := by
  have tn : ∀ d, d ≤ D → Tn t2 d = Tn t d := by intro d hd; unfold Tn; rw [e1 d hd]
  have bq : ∀ d, d ≤ D → Bq t2 d = Bq t d := by intro d hd; unfold Bq; rw [e2 d hd]
  have sg : Sg t2 = Sg t := by funext x; unfold Sg; rw [e4, e6]
  have pq : Pq t2 = Pq t := by funext x; unfold Pq; rw [e6]
  have ad : adjq t2 = adjq t := by funext a b; unfold adjq; rw [e5, e6]
  have co : ∀ y, y ≠ Tn t D → Cq t2 y = Cq t y := by intro y hy; unfold Cq; rw [hC y hy]
  have ce : ∀ e, e < D → Cq t2 (Tn t e) = Cq t (Tn t e) := fun e he => co _ (h.i2 e D he (Nat.le_refl _))
  obtain ⟨c1, c2, c3⟩ := h.i8 D (Nat.le_refl _) c hc
  have x5 : Cq t2 x < 0 := by rw [co x (hxD D (Nat.le_refl _))]; exact h.i5 x hxP hxD
  have j5 : ∀ y, Pq t y → (∀ d, d ≤ D + 1 → y ≠ Tn t2 d) → Cq t2 y < 0 := by
    intro y hy hq
    have hq2 : ∀ d, d ≤ D → y ≠ Tn t d := fun d hd => by rw [← tn d hd]; exact hq d (by omega)
    rw [co y (hq2 D (Nat.le_refl _))]
    exact h.i5 y hy hq2
  have j6 : ∀ y : Nat, (y : Int) < (t.2.2.1 109 20).toInt → ¬ Pq t y → Cq t2 y = Sg t y := by
    intro y hy hq
    rw [co y (fun e => hq (by rw [e]; exact h.i1 D (Nat.le_refl _)))]
    exact h.i6 y hy hq
  have j3 : ∀ d, d ≤ D → 0 ≤ Cq t2 (Tn t d) := by
    intro d hd
    by_cases q : d = D
    · rw [q, hCD]; omega
    · rw [ce d (by omega)]; exact (h.i3 d (by omega)).1
  have brq : ∀ u y : Nat, adjq t x u → 0 ≤ Cq t2 u → Cq t2 u = (y : Int) → BRQ t2 x y := by
    intro u y hu h0 hy
    refine ⟨u, by rw [e6]; exact hBn _ _ hu, by rw [e5]; exact hu.2, h0, ?_⟩
    show (t2.1 142 u).toInt.toNat = y
    unfold Cq at hy
    omega
  refine ⟨?_, ?_, ?_, ?_, ?_, ?_, ?_, ?_, ?_, ?_⟩
  · intro d hd
    rw [pq]
    by_cases q : d = D + 1
    · rw [q, ← hx]; exact hxP
    · rw [tn d (by omega)]; exact h.i1 d (by omega)
  · intro d e h1 h2
    rw [tn d (by omega)]
    by_cases q : e = D + 1
    · rw [q, ← hx]; exact fun z => hxD d (by omega) z.symm
    · rw [tn e (by omega)]; exact h.i2 d e h1 (by omega)
  · intro d hd
    rw [tn d (by omega), bq d (by omega)]
    by_cases q : d = D
    · rw [q, hCD]
      exact ⟨by omega, c1, hB2, hB1⟩
    · rw [ce d (by omega), bq (d + 1) (by omega)]
      exact h.i3 d (by omega)
  · rw [bq 0 (Nat.zero_le _), sg]; exact h.i4
  · rw [pq]; exact j5
  · rw [pq, sg, e6]; exact j6
  · intro d hd u hu
    rw [ad, tn d (by omega)] at hu
    rw [sg, tn d (by omega)]
    by_cases q : d = D
    · rw [q] at hu ⊢
      rw [hCD]
      refine ⟨fun hs z => (c3 u hu).1 hs z.symm, fun e he e9 => ?_⟩
      rw [tn e (by omega)] at e9
      have a := (c3 u hu).2 e he e9
      rw [e9, ce e he, ← e9]
      exact fun z => a z.symm
    · rw [ce d (by omega)]
      refine ⟨(h.i7 d (by omega) u hu).1, fun e he e9 => ?_⟩
      rw [tn e (by omega)] at e9
      have a := (h.i7 d (by omega) u hu).2 e he e9
      rw [e9, ce e (by omega), ← e9]
      exact a
  · intro d hd y hy
    by_cases q : d = D + 1
    · rw [q] at hy ⊢
      rw [ad, sg, ← hx]
      obtain ⟨a1, a2, a3⟩ := (hLn y).mp hy
      refine ⟨a1, a2, fun u hu => ⟨fun hs z => ?_, fun e he e9 z => ?_⟩⟩
      · have nP : ¬ Pq t u := fun w => by have := (hSP u w).2; omega
        have w := j6 u (hBn _ _ hu) nP
        exact a3 (brq u y hu (by omega) (by omega))
      · rw [tn e (by omega)] at e9
        exact a3 (brq u y hu (by rw [e9]; exact j3 e (by omega)) z)
    · rw [ad, sg, tn d (by omega), bq d (by omega)]
      have hy2 : bt (t.1 145 d) y = true := by
        by_cases q2 : d = D
        · rw [q2] at hy ⊢; exact ((hLD y).mp hy).1
        · rw [e3 d (by omega)] at hy; exact hy
      obtain ⟨a1, a2, a3⟩ := h.i8 d (by omega) y hy2
      refine ⟨a1, a2, fun u hu => ⟨(a3 u hu).1, fun e he e9 => ?_⟩⟩
      rw [tn e (by omega)] at e9
      have a := (a3 u hu).2 e he e9
      rw [e9, ce e (by omega), ← e9]
      exact a
  · intro d hd y hy
    by_cases q : d = D + 1
    · rw [q] at hy ⊢; exact hY1 y hy
    · rw [hY d (by omega)] at hy
      obtain ⟨j, j1, j2⟩ := h.i9 d (by omega) y hy
      exact ⟨j, j1, by rw [tn j (by omega)]; exact j2⟩
  · intro d hd
    unfold CJQ
    rw [ad, sg, pq]
    have cy : ∀ d, d ≤ D → ∀ y, bt (t.1 146 d) y = true → Cq t2 y = Cq t y := by
      intro d hd y hy
      obtain ⟨i, i1, i2⟩ := h.i9 d hd y hy
      rw [i2]; exact ce i (by omega)
    by_cases q : d = D + 1
    · rw [q]
      refine cj_new (by rw [← hx]; exact hxP) (fun y y1 y2 y3 => (hLn y).mpr ⟨y1, y2, fun z => ?_⟩) (fun u hu h0 => ?_) (fun u hu h0 hP => ?_)
      · obtain ⟨u, u1, u2, u3, u4⟩ := z
        rw [e6] at u1
        rw [e5] at u2
        refine y3 u ?_ u3 ?_
        · rw [← hx]; exact ⟨(hSP x hxP).1, u2⟩
        · have u5 : (t2.1 142 u).toInt.toNat = y := u4
          unfold Cq
          omega
      · by_cases w : Pq t u
        · exact Or.inr w
        · exact Or.inl (j6 u (hBn _ _ hu) w)
      · have ex : ∃ d, d ≤ D + 1 ∧ u = Tn t2 d := by
          apply Classical.byContradiction
          intro z
          have := j5 u hP (fun d hd e => z ⟨d, hd, e⟩)
          omega
        obtain ⟨d, hd, e⟩ := ex
        by_cases w : d = D + 1
        · rw [w, ← hx] at e
          rw [e] at h0
          omega
        · rw [← hx] at hu
          rw [e] at hu ⊢
          exact hY2 d (by omega) (by rw [e5]; exact hu.2)
    · by_cases q2 : d = D
      · rw [q2]
        have a := cj_take (C2 := Cq t2) (L2 := t2.1 145) (c := c) (h.i10 D (Nat.le_refl _)) (cy D (Nat.le_refl _)) hCD (h.i1 D (Nat.le_refl _)) (fun y hy hb => (hLD y).mpr ⟨hb, hy⟩)
        exact cj_cg a (fun _ _ => rfl) (tn D (Nat.le_refl _)) rfl (bq D (Nat.le_refl _)) (hY D (Nat.le_refl _)) (fun w => ⟨w, rfl⟩)
      · exact cj_cg (h.i10 d (by omega)) (cy d (by omega)) (tn d (by omega)) (e3 d (by omega)) (bq d (by omega)) (hY d (by omega)) (fun w => ⟨by omega, ce d (by omega)⟩)
/-- the first depth -/
theorem pc_0 {t : GS} {k : Int} (hv : Pq t (Tn t 0)) (hL : ∀ y : Nat, (bt (t.1 145 0) y = true ↔ ((y : Int) < k ∧ (y : Int) ≤ Bq t 0 ∧ ¬ BRQ t (Tn t 0) y))) (hY : ∀ x, bt (t.1 146 0) x = true → False) (h4 : 0 ≤ Bq t 0 ∧ ∀ u, 0 ≤ Sg t u → Sg t u < Bq t 0) (hP : ∀ x, Pq t x → Cq t x < 0) (h6 : ∀ x : Nat, (x : Int) < (t.2.2.1 109 20).toInt → ¬ Pq t x → Cq t x = Sg t x) (hSP : ∀ y, Pq t y → (y : Int) < (t.2.2.1 109 20).toInt ∧ Sg t y < 0) (hBn : ∀ a b, adjq t a b → (b : Int) < (t.2.2.1 109 20).toInt) : PCI t k 0 := by
  have d0 : ∀ d, d ≤ 0 → d = 0 := fun d hd => by omega
  refine ⟨fun d hd => by rw [d0 d hd]; exact hv, fun d e h1 h2 => by omega, fun d hd => by omega, h4, fun x hx _ => hP x hx, h6, fun d hd => by omega, fun d hd c hc => ?_, fun d hd x hx => ?_, fun d hd => ?_⟩
  · rw [d0 d hd] at hc ⊢
    obtain ⟨a1, a2, a3⟩ := (hL c).mp hc
    refine ⟨a1, a2, fun u hu => ⟨fun hs z => a3 ?_, fun e he => by omega⟩⟩
    have nP : ¬ Pq t u := fun w => by have := (hSP u w).2; omega
    have w := h6 u (hBn _ _ hu) nP
    unfold Cq at w
    refine ⟨u, hBn _ _ hu, hu.2, by omega, ?_⟩
    show (t.1 142 u).toInt.toNat = c
    omega
  · rw [d0 d hd] at hx
    exact (hY x hx).elim
  · rw [d0 d hd]
    unfold CJQ
    refine cj_new hv (fun y y1 y2 y3 => (hL y).mpr ⟨y1, y2, fun z => ?_⟩) (fun u hu h0 => ?_) (fun u hu h0 q => ?_)
    · obtain ⟨u, u1, u2, u3, u4⟩ := z
      refine y3 u ⟨(hSP _ hv).1, u2⟩ u3 ?_
      have u5 : (t.1 142 u).toInt.toNat = y := u4
      unfold Cq
      omega
    · by_cases w : Pq t u
      · exact Or.inr w
      · exact Or.inl (h6 u (hBn _ _ hu) w)
    · have := hP u q
      omega
/-- no depth to go back to -/
theorem pc_end {t : GS} {k : Int} {bars : Int32} (hno : ∀ χ, Sol (adjq t) (Sg t) k (Pq t) χ → ¬ (∀ x, bt bars x = true → χ x = Cq t x)) (hb : ∀ x, bt bars x = true → False) : ¬ Ext (adjq t) (Sg t) k (Pq t) := by
  intro h
  obtain ⟨χ, hχ⟩ := h
  exact hno χ hχ (fun x hx => (hb x hx).elim)
/-- what falls: colours left, by depth -/
def sV (f : Nat → Int32) : Nat → Nat
  | 0 => 0
  | n + 1 => sV f n + (cb (f n) + 1) * 40 ^ (33 - n)
theorem sV_cg {f g : Nat → Int32} : ∀ n, (∀ d, d < n → g d = f d) → sV g n = sV f n := by
  intro n
  induction n with
  | zero => intro _; rfl
  | succ n ih =>
    intro h
    show sV g n + (cb (g n) + 1) * 40 ^ (33 - n) = sV f n + (cb (f n) + 1) * 40 ^ (33 - n)
    rw [ih (fun d hd => h d (by omega)), h n (by omega)]
theorem sV_le {f : Nat → Int32} : ∀ m n, n ≤ m → sV f n ≤ sV f m := by
  intro m
  induction m with
  | zero => intro n h; rw [show n = 0 by omega]; exact Nat.le_refl _
  | succ m ih =>
    intro n h
    by_cases c : n = m + 1
    · rw [c]; exact Nat.le_refl _
    · exact Nat.le_trans (ih n (by omega)) (Nat.le_add_right _ _)
theorem sV_pop {f : Nat → Int32} {n m : Nat} (h : n < m) : sV f n < sV f m := by
  have a := sV_le (f := f) m (n + 1) h
  have b : 0 < (cb (f n) + 1) * 40 ^ (33 - n) := Nat.mul_pos (Nat.succ_pos _) (Nat.pow_pos (by omega))
  have c : sV f (n + 1) = sV f n + (cb (f n) + 1) * 40 ^ (33 - n) := rfl
  omega
theorem sV_push {f g : Nat → Int32} {n : Nat} (hn : n ≤ 31) (h : ∀ d, d < n → g d = f d) (h1 : cb (g n) + 1 = cb (f n)) : sV g (n + 2) < sV f (n + 1) := by
  have e := sV_cg n h
  have l := cb_le (g (n + 1))
  have p : 40 ^ (33 - n) = 40 ^ (33 - (n + 1)) * 40 := by rw [show 33 - n = (33 - (n + 1)) + 1 by omega, Nat.pow_succ]
  have q : 0 < 40 ^ (33 - (n + 1)) := Nat.pow_pos (by omega)
  show sV g n + (cb (g n) + 1) * 40 ^ (33 - n) + (cb (g (n + 1)) + 1) * 40 ^ (33 - (n + 1)) < sV f n + (cb (f n) + 1) * 40 ^ (33 - n)
  rw [e, ← h1, p]
  generalize 40 ^ (33 - (n + 1)) = w at q ⊢
  have m1 : (cb (g (n + 1)) + 1) * w ≤ 33 * w := Nat.mul_le_mul_right _ (by omega)
  have m2 : (cb (g n) + 1 + 1) * (w * 40) = (cb (g n) + 1) * (w * 40) + w * 40 := by rw [Nat.add_mul, Nat.one_mul]
  omega
/-- different nodes below 32 are at most 32 -/
theorem inj32 {f : Nat → Nat} {m : Nat} (h1 : ∀ d e, d < e → e < m → f d ≠ f e) (h2 : ∀ d, d < m → f d < 32) : m ≤ 32 := by
  have key : ∀ j, j ≤ m → j ≤ cq (fun v => dq (∃ d, d < j ∧ v = f d)) 32 := by
    intro j
    induction j with
    | zero => intro _; exact Nat.zero_le _
    | succ j ih =>
      intro hj
      have a := ih (by omega)
      have b := cq_lt (p := fun v => dq (∃ d, d < j ∧ v = f d)) (q := fun v => dq (∃ d, d < j + 1 ∧ v = f d)) (k := f j) 32 (fun i _ hi => by
        obtain ⟨d, d1, d2⟩ := dq_p hi
        exact dq_t ⟨d, by omega, d2⟩) (h2 j (by omega)) (by
        cases hq : dq (∃ d, d < j ∧ f j = f d) with
        | false => rfl
        | true =>
          obtain ⟨d, d1, d2⟩ := dq_p hq
          exact absurd d2.symm (h1 d j d1 (by omega))) (dq_t ⟨j, by omega, rfl⟩)
      omega
  have a := key m (Nat.le_refl _)
  have b := cq_le (fun v => dq (∃ d, d < m ∧ v = f d)) 32
  omega
theorem pc_dep {t : GS} {k : Int} {D : Nat} (h : PCI t k D) : D ≤ 31 := by
  have a := inj32 (f := Tn t) (m := D + 1) (fun d e h1 h2 => h.i2 d e h1 (by omega)) (fun d hd => bt_lt (h.i1 d (by omega)))
  omega
theorem pc_dep2 {t : GS} {k : Int} {D x : Nat} (h : PCI t k D) (hx : Pq t x) (hn : ∀ d, d ≤ D → x ≠ Tn t d) : D ≤ 30 := by
  have a := inj32 (f := fun d => if d = D + 1 then x else Tn t d) (m := D + 2) (fun d e h1 h2 => by
    rw [if_neg (by omega)]
    by_cases c : e = D + 1
    · rw [if_pos c]; exact fun z => hn d (by omega) z.symm
    · rw [if_neg c]; exact h.i2 d e h1 (by omega)) (fun d hd => by
    by_cases c : d = D + 1
    · rw [if_pos c]; exact bt_lt hx
    · rw [if_neg c]; exact bt_lt (h.i1 d (by omega)))
  omega
