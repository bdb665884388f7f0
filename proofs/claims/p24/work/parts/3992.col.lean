/-! COLOURING OF THE REFERENCE -/
noncomputable def dq (p : Prop) : Bool := @decide p (Classical.propDecidable p)
theorem dq_t {p : Prop} (h : p) : dq p = true := @decide_eq_true p (Classical.propDecidable p) h
theorem dq_p {p : Prop} (h : dq p = true) : p := @of_decide_eq_true p (Classical.propDecidable p) h
theorem cbf_up {f : Nat → Bool} : ∀ m n, n ≤ m → cbf f n ≤ cbf f m := by
  intro m
  induction m with
  | zero => intro n h; rw [show n = 0 by omega]; exact Nat.le_refl _
  | succ m ih =>
    intro n h
    by_cases c : n = m + 1
    · rw [c]; exact Nat.le_refl _
    · have q := ih n (by omega)
      show cbf f n ≤ cbf f m + (f m).toNat
      omega
theorem cbf_add {f g : Nat → Bool} {d : Nat} : ∀ n, (∀ c, c < n → g c = true → f c = true ∨ c = d) → cbf g n ≤ cbf f n + (if d < n then 1 else 0) := by
  intro n
  induction n with
  | zero => intro _; exact Nat.zero_le _
  | succ n ih =>
    intro h
    have q := ih (fun c hc => h c (by omega))
    have r := h n (by omega)
    show cbf g n + (g n).toNat ≤ cbf f n + (f n).toNat + (if d < n + 1 then 1 else 0)
    have g1 : (g n).toNat ≤ 1 := by cases g n <;> decide
    by_cases c : n = d
    · rw [if_neg (show ¬ d < n by omega)] at q
      rw [if_pos (show d < n + 1 by omega)]
      omega
    · have e : (if d < n + 1 then 1 else 0) = (if d < n then 1 else (0 : Nat)) := by
        by_cases k : d < n
        · rw [if_pos k, if_pos (by omega)]
        · rw [if_neg k, if_neg (by omega)]
      rw [e]
      by_cases k : g n = true
      · rcases r k with r | r
        · rw [k, r]; omega
        · exact absurd r c
      · have k2 : g n = false := by cases hg : g n with
          | false => rfl
          | true => exact absurd hg k
        rw [k2]
        show cbf g n + 0 ≤ _
        omega
theorem cbf_full {f : Nat → Bool} : ∀ n, (∀ c, c < n → f c = true) → cbf f n = n := by
  intro n
  induction n with
  | zero => intro _; rfl
  | succ n ih =>
    intro h
    show cbf f n + (f n).toNat = n + 1
    rw [ih (fun c hc => h c (by omega)), h n (by omega)]
    rfl
/-- a colour that is free -/
theorem free_c {bars S : Int32} {χ : Nat → Int} {k : Nat} (hk : k ≤ 32) (h : cb bars + cb S < k) : ∃ c : Nat, c < k ∧ bt bars c = false ∧ ∀ u, bt S u = true → χ u ≠ (c : Int) := by
  apply Classical.byContradiction
  intro hn
  have all : ∀ c, c < k → bt bars c = true ∨ ∃ u, u < 32 ∧ bt S u = true ∧ χ u = (c : Int) := by
    intro c hc
    apply Classical.byContradiction
    intro q
    apply hn
    refine ⟨c, hc, ?_, fun u hu e => q (Or.inr ⟨u, bt_lt hu, hu, e⟩)⟩
    cases hb : bt bars c with
    | false => rfl
    | true => exact absurd (Or.inl hb) q
  have step : ∀ m, cbf (fun c => dq (bt bars c = true ∨ ∃ u, u < m ∧ bt S u = true ∧ χ u = (c : Int))) k ≤ cb bars + cbf (bt S) m := by
    intro m
    induction m with
    | zero =>
      have a := cbf_mono (f := fun c => dq (bt bars c = true ∨ ∃ u, u < 0 ∧ bt S u = true ∧ χ u = (c : Int))) (g := bt bars) (n := k) (fun c _ hq => by
        rcases dq_p hq with q | ⟨u, hu, -⟩
        · exact q
        · omega)
      have b := cbf_up (f := bt bars) 32 k hk
      have e : cb bars = cbf (bt bars) 32 := rfl
      omega
    | succ m ih =>
      show _ ≤ cb bars + (cbf (bt S) m + (bt S m).toNat)
      by_cases c : bt S m = true
      · have a := cbf_add (f := fun c => dq (bt bars c = true ∨ ∃ u, u < m ∧ bt S u = true ∧ χ u = (c : Int))) (g := fun c => dq (bt bars c = true ∨ ∃ u, u < m + 1 ∧ bt S u = true ∧ χ u = (c : Int))) (d := (χ m).toNat) k (fun c _ hq => by
          rcases dq_p hq with q | ⟨u, hu, q1, q2⟩
          · exact Or.inl (dq_t (Or.inl q))
          · by_cases e : u = m
            · rw [e] at q2
              exact Or.inr (by omega)
            · exact Or.inl (dq_t (Or.inr ⟨u, by omega, q1, q2⟩)))
        rw [c]
        show _ ≤ cb bars + (cbf (bt S) m + 1)
        have l : (if (χ m).toNat < k then 1 else 0) ≤ 1 := by split <;> omega
        omega
      · have a := cbf_mono (f := fun c => dq (bt bars c = true ∨ ∃ u, u < m + 1 ∧ bt S u = true ∧ χ u = (c : Int))) (g := fun c => dq (bt bars c = true ∨ ∃ u, u < m ∧ bt S u = true ∧ χ u = (c : Int))) (n := k) (fun c' _ hq => by
          rcases dq_p hq with q | ⟨u, hu, q1, q2⟩
          · exact dq_t (Or.inl q)
          · by_cases e : u = m
            · rw [e] at q1; exact absurd q1 c
            · exact dq_t (Or.inr ⟨u, by omega, q1, q2⟩))
        omega
  have f := cbf_full (f := fun c => dq (bt bars c = true ∨ ∃ u, u < 32 ∧ bt S u = true ∧ χ u = (c : Int))) k (fun c hc => dq_t (all c hc))
  have g := step 32
  have e : cb S = cbf (bt S) 32 := rfl
  omega
/-- a colouring of the nodes of T, beside what is settled -/
def Sol (adj : Nat → Nat → Prop) (σ : Nat → Int) (k : Int) (T : Nat → Prop) (χ : Nat → Int) : Prop := (∀ v, T v → 0 ≤ χ v ∧ χ v < k) ∧ ∀ v, T v → ∀ u, adj v u → (T u → χ u ≠ χ v) ∧ (0 ≤ σ u → χ v ≠ σ u)
def Ext (adj : Nat → Nat → Prop) (σ : Nat → Int) (k : Int) (T : Nat → Prop) : Prop := ∃ χ, Sol adj σ k T χ
theorem ext_sub {adj : Nat → Nat → Prop} {σ : Nat → Int} {k : Int} {T U : Nat → Prop} (h : Ext adj σ k T) (hs : ∀ v, U v → T v) : Ext adj σ k U := by
  obtain ⟨χ, h1, h2⟩ := h
  exact ⟨χ, fun v hv => h1 v (hs v hv), fun v hv u hu => ⟨fun hq => (h2 v (hs v hv) u hu).1 (hs u hq), (h2 v (hs v hv) u hu).2⟩⟩
/-- a node with few neighbours can be coloured last -/
theorem ext_peel {adj : Nat → Nat → Prop} {σ : Nat → Int} {k : Nat} {T : Nat → Prop} {v : Nat} {bars S : Int32} (hk : k ≤ 32) (hsym : ∀ a b, adj a b → adj b a) (hirr : ¬ adj v v) (hb : ∀ u, adj v u → 0 ≤ σ u → bt bars (σ u).toNat = true) (hS : ∀ u, adj v u → T u → u ≠ v → bt S u = true) (hc : cb bars + cb S < k) (h : Ext adj σ (k : Int) (fun u => T u ∧ u ≠ v)) : Ext adj σ (k : Int) T := by
  obtain ⟨χ, h1, h2⟩ := h
  obtain ⟨c, c1, c2, c3⟩ := free_c (χ := χ) hk hc
  have ne : ∀ u, u ≠ v → (fun x => if x = v then (c : Int) else χ x) u = χ u := fun u hu => if_neg hu
  have ev : (fun x => if x = v then (c : Int) else χ x) v = (c : Int) := if_pos rfl
  refine ⟨fun x => if x = v then (c : Int) else χ x, fun x hx => ?_, fun x hx u hu => ⟨fun hT => ?_, fun hs => ?_⟩⟩
  · by_cases e : x = v
    · rw [e, ev]; constructor <;> omega
    · rw [ne x e]; exact h1 x ⟨hx, e⟩
  · by_cases e : x = v
    · rw [e] at hu ⊢
      by_cases e2 : u = v
      · rw [e2] at hu; exact absurd hu hirr
      · rw [ev, ne u e2]
        exact c3 u (hS u hu hT e2)
    · by_cases e2 : u = v
      · rw [e2] at hu ⊢
        rw [ev, ne x e]
        exact fun q => c3 x (hS x (hsym _ _ hu) hx e) q.symm
      · rw [ne x e, ne u e2]
        exact (h2 x ⟨hx, e⟩ u hu).1 ⟨hT, e2⟩
  · by_cases e : x = v
    · rw [e] at hu ⊢
      rw [ev]
      intro q
      have b := hb u hu hs
      rw [show (σ u).toNat = c by omega, c2] at b
      cases b
    · rw [ne x e]
      exact (h2 x ⟨hx, e⟩ u hu).2 hs
/-- two sets without an arc between them -/
theorem ext_or {adj : Nat → Nat → Prop} {σ : Nat → Int} {k : Int} {T P : Nat → Prop} (hsym : ∀ a b, adj a b → adj b a) (hcl : ∀ a b, P a → adj a b → T b → P b) (h1 : Ext adj σ k P) (h2 : Ext adj σ k (fun u => T u ∧ ¬ P u)) : Ext adj σ k T := by
  obtain ⟨χ, a1, a2⟩ := h1
  obtain ⟨ψ, b1, b2⟩ := h2
  have yes : ∀ x, P x → (fun x => if dq (P x) = true then χ x else ψ x) x = χ x := fun x hx => if_pos (dq_t hx)
  have no : ∀ x, ¬ P x → (fun x => if dq (P x) = true then χ x else ψ x) x = ψ x := fun x hx => if_neg (fun q => hx (dq_p q))
  refine ⟨fun x => if dq (P x) = true then χ x else ψ x, fun x hx => ?_, fun x hx u hu => ⟨fun hT => ?_, fun hs => ?_⟩⟩
  · by_cases e : P x
    · rw [yes x e]; exact a1 x e
    · rw [no x e]; exact b1 x ⟨hx, e⟩
  · by_cases e : P x
    · have eu := hcl x u e hu hT
      rw [yes x e, yes u eu]
      exact (a2 x e u hu).1 eu
    · have eu : ¬ P u := fun q => e (hcl u x q (hsym _ _ hu) hx)
      rw [no x e, no u eu]
      exact (b2 x ⟨hx, e⟩ u hu).1 ⟨hT, eu⟩
  · by_cases e : P x
    · rw [yes x e]; exact (a2 x e u hu).2 hs
    · rw [no x e]; exact (b2 x ⟨hx, e⟩ u hu).2 hs
/-- two colours that nothing settled bears change places -/
def swq (b c x : Int) : Int := if x = b then c else if x = c then b else x
theorem swq_i {b c x y : Int} (h : swq b c x = swq b c y) : x = y := by
  unfold swq at h
  by_cases h1 : x = b <;> by_cases h2 : y = b <;> by_cases h3 : x = c <;> by_cases h4 : y = c <;> simp only [h1, h2, h3, h4, if_true, if_false] at h <;> omega
theorem sol_sw {adj : Nat → Nat → Prop} {σ : Nat → Int} {k b c : Int} {T : Nat → Prop} {χ : Nat → Int} (h : Sol adj σ k T χ) (hb : 0 ≤ b ∧ b < k) (hc : 0 ≤ c ∧ c < k) (hσ : ∀ u, 0 ≤ σ u → σ u < b ∧ σ u < c) : Sol adj σ k T (fun x => swq b c (χ x)) := by
  refine ⟨fun v hv => ?_, fun v hv u hu => ⟨fun hT q => (h.2 v hv u hu).1 hT (swq_i q), fun hs q => ?_⟩⟩
  · have := h.1 v hv
    show 0 ≤ swq b c (χ v) ∧ swq b c (χ v) < k
    unfold swq
    split
    · exact hc
    · split
      · exact hb
      · exact this
  · have a := (h.2 v hv u hu).2 hs
    have z := hσ u hs
    apply a
    have q2 : swq b c (χ v) = σ u := q
    unfold swq at q2
    by_cases e : χ v = b
    · rw [if_pos e] at q2; omega
    · rw [if_neg e] at q2
      by_cases e2 : χ v = c
      · rw [if_pos e2] at q2; omega
      · rw [if_neg e2] at q2; exact q2
/-- the search: nodes by depth, colours left, how many are in use, why a depth failed -/
def CJ (adj : Nat → Nat → Prop) (σ : Nat → Int) (k : Int) (P : Nat → Prop) (C : Nat → Int) (Tn : Nat → Nat) (L : Nat → Int32) (B : Nat → Int) (Y : Nat → Int32) (D : Nat) (d : Nat) : Prop := ∀ χ, Sol adj σ k P χ → (∀ x, bt (Y d) x = true → χ x = C x) → χ (Tn d) ≤ B d → bt (L d) (χ (Tn d)).toNat = true ∨ (d < D ∧ χ (Tn d) = C (Tn d))
/-- nothing is left: no colouring agrees with the reasons -/
theorem cj_no {adj : Nat → Nat → Prop} {σ : Nat → Int} {k : Int} {P : Nat → Prop} {C : Nat → Int} {Tn : Nat → Nat} {L : Nat → Int32} {B : Nat → Int} {Y : Nat → Int32} {D : Nat} (h : CJ adj σ k P C Tn L B Y D D) (hL : ∀ c, bt (L D) c = false) (hP : P (Tn D)) (hB : 0 ≤ B D) (hσ : ∀ u, 0 ≤ σ u → σ u < B D) (hY : ∀ x, bt (Y D) x = true → C x < B D) : ∀ χ, Sol adj σ k P χ → ¬ (∀ x, bt (Y D) x = true → χ x = C x) := by
  have base : ∀ χ, Sol adj σ k P χ → (∀ x, bt (Y D) x = true → χ x = C x) → ¬ χ (Tn D) ≤ B D := by
    intro χ h1 h2 h3
    rcases h χ h1 h2 h3 with q | q
    · rw [hL] at q; cases q
    · omega
  intro χ h1 h2
  have r := h1.1 _ hP
  have n := base χ h1 h2
  refine base (fun x => swq (B D) (χ (Tn D)) (χ x)) (sol_sw h1 ⟨hB, by omega⟩ r (fun u hu => by have := hσ u hu; constructor <;> omega)) (fun x hx => ?_) ?_
  · show swq (B D) (χ (Tn D)) (χ x) = C x
    have e := h2 x hx
    have l := hY x hx
    unfold swq
    rw [if_neg (by omega), if_neg (by omega)]
    exact e
  · show swq (B D) (χ (Tn D)) (χ (Tn D)) ≤ B D
    unfold swq
    rw [if_neg (by omega), if_pos rfl]
    exact Int.le_refl _
/-- a depth is gone back to: its colour is out, the reasons grow -/
theorem cj_pop {adj : Nat → Nat → Prop} {σ : Nat → Int} {k : Int} {P : Nat → Prop} {C C2 : Nat → Int} {Tn : Nat → Nat} {L : Nat → Int32} {B : Nat → Int} {Y Y2 : Nat → Int32} {bars : Int32} {D j : Nat} (h : CJ adj σ k P C Tn L B Y D j) (hj : j < D) (hno : ∀ χ, Sol adj σ k P χ → ¬ (∀ x, bt bars x = true → χ x = C x)) (hC : ∀ x, bt (Y2 j) x = true → C2 x = C x) (hY1 : ∀ x, bt (Y j) x = true → bt (Y2 j) x = true) (hY2 : ∀ x, bt bars x = true → x ≠ Tn j → bt (Y2 j) x = true) : CJ adj σ k P C2 Tn L B Y2 j j := by
  intro χ h1 h2 h3
  have ag : ∀ x, bt (Y2 j) x = true → χ x = C x := fun x hx => (h2 x hx).trans (hC x hx)
  rcases h χ h1 (fun x hx => ag x (hY1 x hx)) h3 with q | ⟨-, q⟩
  · exact Or.inl q
  · exfalso
    refine hno χ h1 (fun x hx => ?_)
    by_cases e : x = Tn j
    · rw [e]; exact q
    · exact ag x (hY2 x hx e)
/-- a depth that stays as it is -/
theorem cj_cg {adj : Nat → Nat → Prop} {σ : Nat → Int} {k : Int} {P : Nat → Prop} {C C2 : Nat → Int} {Tn Tn2 : Nat → Nat} {L L2 : Nat → Int32} {B B2 : Nat → Int} {Y Y2 : Nat → Int32} {D D2 d : Nat} (h : CJ adj σ k P C Tn L B Y D d) (hC : ∀ x, bt (Y d) x = true → C2 x = C x) (hT : Tn2 d = Tn d) (hL : L2 d = L d) (hB : B2 d = B d) (hY : Y2 d = Y d) (hD : d < D → d < D2 ∧ C2 (Tn d) = C (Tn d)) : CJ adj σ k P C2 Tn2 L2 B2 Y2 D2 d := by
  intro χ h1 h2 h3
  rw [hT, hB] at h3
  rw [hT, hL]
  rw [hY] at h2
  rcases h χ h1 (fun x hx => (h2 x hx).trans (hC x hx)) h3 with q | ⟨q1, q2⟩
  · exact Or.inl q
  · exact Or.inr ⟨(hD q1).1, q2.trans (hD q1).2.symm⟩
/-- a colour is taken from what is left -/
theorem cj_take {adj : Nat → Nat → Prop} {σ : Nat → Int} {k : Int} {P : Nat → Prop} {C C2 : Nat → Int} {Tn : Nat → Nat} {L L2 : Nat → Int32} {B : Nat → Int} {Y : Nat → Int32} {D c : Nat} (h : CJ adj σ k P C Tn L B Y D D) (hC : ∀ x, bt (Y D) x = true → C2 x = C x) (hc : C2 (Tn D) = (c : Int)) (hP : P (Tn D)) (hL : ∀ x, x ≠ c → bt (L D) x = true → bt (L2 D) x = true) : CJ adj σ k P C2 Tn L2 B Y (D + 1) D := by
  intro χ h1 h2 h3
  have r := h1.1 _ hP
  rcases h χ h1 (fun x hx => (h2 x hx).trans (hC x hx)) h3 with q | ⟨q, -⟩
  · by_cases e : (χ (Tn D)).toNat = c
    · exact Or.inr ⟨by omega, by rw [hc]; omega⟩
    · exact Or.inl (hL _ e q)
  · omega
/-- a new depth -/
theorem cj_new {adj : Nat → Nat → Prop} {σ : Nat → Int} {k : Int} {P : Nat → Prop} {C : Nat → Int} {Tn : Nat → Nat} {L : Nat → Int32} {B : Nat → Int} {Y : Nat → Int32} {D d : Nat} (hP : P (Tn d)) (hL : ∀ c : Nat, (c : Int) < k → (c : Int) ≤ B d → (∀ u, adj (Tn d) u → 0 ≤ C u → C u ≠ (c : Int)) → bt (L d) c = true) (hσ : ∀ u, adj (Tn d) u → 0 ≤ C u → C u = σ u ∨ P u) (hY : ∀ u, adj (Tn d) u → 0 ≤ C u → P u → bt (Y d) u = true) : CJ adj σ k P C Tn L B Y D d := by
  intro χ h1 h2 h3
  have r := h1.1 _ hP
  refine Or.inl (hL _ (by omega) (by omega) (fun u hu hc q => ?_))
  have s := h1.2 _ hP u hu
  by_cases e : P u
  · have a := h2 u (hY u hu hc e)
    exact s.1 e (by omega)
  · rcases hσ u hu hc with w | w
    · exact s.2 (by omega) (by omega)
    · exact e w
/-! count, barsOf, tightest -/
theorem cbf_s {f : Nat → Bool} {n : Nat} : ((cbf f (n + 1) : Nat) : Int) = (cbf f n : Int) + (if f n = true then 1 else 0) := by
  show ((cbf f n + (f n).toNat : Nat) : Int) = (cbf f n : Int) + (if f n = true then 1 else 0)
  cases f n with
  | false =>
    rw [if_neg (by decide)]
    show ((cbf f n + 0 : Nat) : Int) = (cbf f n : Int) + 0
    omega
  | true =>
    rw [if_pos rfl]
    show ((cbf f n + 1 : Nat) : Int) = (cbf f n : Int) + 1
    omega
def BAR (s : GS) (x : Nat) (m : Int) (z : Int32) : Prop := ∀ c : Nat, (bt z c = true ↔ ∃ u : Nat, (u : Int) < m ∧ bt (s.1 138 x) u = true ∧ 0 ≤ (s.1 142 u).toInt ∧ (s.1 142 u).toNatClampNeg = c)
theorem bar_0 {s : GS} {x : Nat} : BAR s x 0 (Int32.ofInt 0) := by
  intro c
  rw [show (Int32.ofInt 0) = (0 : Int32) from rfl, bt_z]
  refine ⟨fun h => (by cases h), fun h => ?_⟩
  obtain ⟨u, hu, -⟩ := h
  omega
theorem bar_no {s : GS} {x : Nat} {y w set z : Int32} (h : BAR s x y.toInt set) (hw : w.toInt = y.toInt + 1) (h0 : 0 ≤ y.toInt) (hno : bt (s.1 138 x) y.toNatClampNeg = true → 0 ≤ (s.1 142 y.toNatClampNeg).toInt → False) (ez : z = set ||| Int32.ofInt 0) : BAR s x w.toInt z := by
  intro c
  have ey : y.toNatClampNeg = y.toInt.toNat := rfl
  rw [bt_or ez, show (Int32.ofInt 0) = (0 : Int32) from rfl, bt_z, Bool.or_false, h c]
  constructor
  · intro q
    obtain ⟨u, h1, h2⟩ := q
    exact ⟨u, by omega, h2⟩
  · intro q
    obtain ⟨u, h1, h2, h3, h4⟩ := q
    by_cases e : u = y.toNatClampNeg
    · rw [e] at h2 h3; exact (hno h2 h3).elim
    · exact ⟨u, by omega, h2, h3, h4⟩
theorem bar_yes {s : GS} {x : Nat} {y w set z z1 v : Int32} (h : BAR s x y.toInt set) (hw : w.toInt = y.toInt + 1) (h0 : 0 ≤ y.toInt) (hb : bt (s.1 138 x) y.toNatClampNeg = true) (hv : v = s.1 142 y.toNatClampNeg) (hr : In v 0 31) (e1 : z1 = Int32.ofInt 1 <<< (v &&& 31)) (ez : z = set ||| z1) : BAR s x w.toInt z := by
  intro c
  have ey : y.toNatClampNeg = y.toInt.toNat := rfl
  rw [bt_set e1 ez hr, Bool.or_eq_true, h c]
  constructor
  · intro q
    rcases q with ⟨u, h1, h2⟩ | q
    · exact ⟨u, by omega, h2⟩
    · exact ⟨y.toNatClampNeg, by omega, hb, by rw [← hv]; exact hr.1, by rw [← hv]; exact (of_decide_eq_true q).symm⟩
  · intro q
    obtain ⟨u, h1, h2, h3, h4⟩ := q
    by_cases e : u = y.toNatClampNeg
    · rw [e, ← hv] at h4
      exact Or.inr (decide_eq_true h4.symm)
    · exact Or.inl ⟨u, by omega, h2, h3, h4⟩
def TGT (s : GS) (m : Int) (b : Int32) : Prop := (b.toInt < 0 → ∀ u : Nat, (u : Int) < m → bt (s.2.2.1 109 53) u = true → 0 ≤ (s.1 142 u).toInt) ∧ (0 ≤ b.toInt → b.toInt < m ∧ bt (s.2.2.1 109 53) b.toNatClampNeg = true ∧ (s.1 142 b.toNatClampNeg).toInt < 0)
theorem tgt_0 {s : GS} {b : Int32} (h : b.toInt < 0) : TGT s 0 b := ⟨fun _ u hu => by omega, fun q => by omega⟩
theorem tgt_no {s : GS} {y w b : Int32} (h : TGT s y.toInt b) (hw : w.toInt = y.toInt + 1) (h0 : 0 ≤ y.toInt) (hno : bt (s.2.2.1 109 53) y.toNatClampNeg = true → 0 ≤ (s.1 142 y.toNatClampNeg).toInt) : TGT s w.toInt b := by
  have ey : y.toNatClampNeg = y.toInt.toNat := rfl
  refine ⟨fun q u hu hb => ?_, fun q => ?_⟩
  · by_cases e : u = y.toNatClampNeg
    · rw [e] at hb ⊢; exact hno hb
    · exact h.1 q u (by omega) hb
  · have a := h.2 q
    exact ⟨by omega, a.2⟩
theorem tgt_k {s : GS} {y w b : Int32} (h : TGT s y.toInt b) (hw : w.toInt = y.toInt + 1) (hb : 0 ≤ b.toInt) : TGT s w.toInt b := by
  have a := h.2 hb
  exact ⟨fun q => by omega, fun _ => ⟨by omega, a.2⟩⟩
theorem tgt_c {s : GS} {y w : Int32} (hw : w.toInt = y.toInt + 1) (h0 : 0 ≤ y.toInt) (h1 : bt (s.2.2.1 109 53) y.toNatClampNeg = true) (h2 : (s.1 142 y.toNatClampNeg).toInt < 0) : TGT s w.toInt y := ⟨fun q => by omega, fun _ => ⟨by omega, h1, h2⟩⟩
/-! tough, hanging -/
def adjq (s : GS) (a b : Nat) : Prop := (a : Int) < (s.2.2.1 109 20).toInt ∧ bt (s.1 138 a) b = true
def BSD (s : GS) : Prop := ∀ a b : Nat, (a : Int) < (s.2.2.1 109 20).toInt → bt (s.1 138 a) b = true → (b : Int) < (s.2.2.1 109 20).toInt ∧ bt (s.1 138 b) a = true ∧ a ≠ b
def EXS (s : GS) (k : Int) (T : Nat → Prop) : Prop := Ext (adjq s) (fun x => (s.1 142 x).toInt) k T
def UNC (s : GS) (v : Nat) : Prop := (v : Int) < (s.2.2.1 109 20).toInt ∧ (s.1 142 v).toInt < 0
theorem bsd_sym {s : GS} (h : BSD s) : ∀ a b, adjq s a b → adjq s b a := by
  intro a b q
  have r := h a b q.1 q.2
  exact ⟨r.1, r.2.1⟩
def TOU (s : GS) (k : Int) (set : Int32) : Prop := (∀ v, bt set v = true → UNC s v) ∧ (BSD s → EXS s k (fun v => bt set v = true) → EXS s k (UNC s))
theorem tou_0 {s : GS} {k : Int} {set : Int32} (h : ∀ v : Nat, (bt set v = true ↔ UNC s v)) : TOU s k set := by
  refine ⟨fun v hv => (h v).mp hv, fun _ q => ?_⟩
  have e : (fun v => bt set v = true) = UNC s := by
    funext v
    exact propext (h v)
  rw [← e]; exact q
theorem tou_s {s : GS} {kk v bars cn z76 bs2 S cs z1 z2 set z : Int32} (h : TOU s kk.toInt set) (hk : In kk 0 32) (hv : In v 0 31) (hin : bt set v.toNatClampNeg = true) (hb : BAR s v.toNatClampNeg (s.2.2.1 109 20).toInt bars) (hcol : ∀ u : Nat, u < 32 → (s.1 142 u).toInt ≤ 31) (hcn : cn.toInt = (cb bars : Int)) (h76 : z76.toInt = kk.toInt - cn.toInt) (eb : bs2 = s.1 138 v.toNatClampNeg) (eS : S = bs2 &&& set) (hcs : cs.toInt = (cb S : Int)) (hlt : cs.toInt < z76.toInt) (e1 : z1 = Int32.ofInt 1 <<< (v &&& 31)) (e2 : z2 = z1 ^^^ Int32.ofInt (-1)) (e : z = set &&& z2) : TOU s kk.toInt z := by
  have zc : ∀ u, bt z u = true ↔ (bt set u = true ∧ u ≠ v.toNatClampNeg) := by
    intro u
    constructor
    · intro q
      have hu := bt_lt q
      rw [bt_clr e1 e2 e hv hu] at q
      have q1 := (Bool.and_eq_true _ _).mp q
      refine ⟨q1.1, fun c => ?_⟩
      rw [decide_eq_true c] at q1
      exact absurd q1.2 (by decide)
    · intro q
      have hu := bt_lt q.1
      rw [bt_clr e1 e2 e hv hu, q.1, decide_eq_false q.2]
      rfl
  refine ⟨fun u hu => h.1 u ((zc u).mp hu).1, fun hs q => h.2 hs ?_⟩
  obtain ⟨k1, k2⟩ := hk
  have ek : kk.toInt = ((kk.toInt.toNat : Nat) : Int) := by omega
  have hvu := h.1 _ hin
  have eT : (fun u => bt z u = true) = (fun u => bt set u = true ∧ u ≠ v.toNatClampNeg) := by
    funext u
    exact propext (zc u)
  rw [eT] at q
  unfold EXS at q ⊢
  rw [ek] at q ⊢
  refine ext_peel (T := fun u => bt set u = true) (v := v.toNatClampNeg) (bars := bars) (S := S) (by omega) (bsd_sym hs) (fun c => (hs _ _ c.1 c.2).2.2 rfl) (fun u hu hc => ?_) (fun u hu hT _ => ?_) (by omega) q
  · have r := hs _ _ hu.1 hu.2
    exact (hb _).mpr ⟨u, r.1, hu.2, hc, rfl⟩
  · rw [bt_and eS, eb, hu.2, hT]
    rfl
theorem un_0 {s : GS} : ∀ v : Nat, (bt (Int32.ofInt 0) v = true ↔ ((v : Int) < (Int32.ofInt 0).toInt ∧ (s.1 142 v).toInt < 0)) := by
  intro v
  rw [show (Int32.ofInt 0) = (0 : Int32) from rfl, bt_z]
  refine ⟨fun h => (by cases h), fun h => ?_⟩
  have h1 := h.1
  have h0 : (0 : Int32).toInt = 0 := rfl
  omega
theorem un_n {s : GS} {set y w z : Int32} (h : ∀ v : Nat, (bt set v = true ↔ ((v : Int) < y.toInt ∧ (s.1 142 v).toInt < 0))) (hw : w.toInt = y.toInt + 1) (h0 : 0 ≤ y.toInt) (hc : 0 ≤ (s.1 142 y.toNatClampNeg).toInt) (ez : z = set ||| Int32.ofInt 0) : ∀ v : Nat, (bt z v = true ↔ ((v : Int) < w.toInt ∧ (s.1 142 v).toInt < 0)) := by
  intro v
  have ey : y.toNatClampNeg = y.toInt.toNat := rfl
  rw [bt_or ez, show (Int32.ofInt 0) = (0 : Int32) from rfl, bt_z, Bool.or_false, h v]
  constructor
  · intro q
    exact ⟨by omega, q.2⟩
  · intro q
    refine ⟨?_, q.2⟩
    by_cases e : v = y.toNatClampNeg
    · rw [e] at q; omega
    · omega
theorem un_y {s : GS} {set y w z z1 : Int32} (h : ∀ v : Nat, (bt set v = true ↔ ((v : Int) < y.toInt ∧ (s.1 142 v).toInt < 0))) (hw : w.toInt = y.toInt + 1) (hy : In y 0 31) (hc : (s.1 142 y.toNatClampNeg).toInt < 0) (e1 : z1 = Int32.ofInt 1 <<< (y &&& 31)) (ez : z = set ||| z1) : ∀ v : Nat, (bt z v = true ↔ ((v : Int) < w.toInt ∧ (s.1 142 v).toInt < 0)) := by
  intro v
  have ey : y.toNatClampNeg = y.toInt.toNat := rfl
  have h0 := hy.1
  rw [bt_set e1 ez hy]
  by_cases k : v = y.toNatClampNeg
  · rw [k, decide_eq_true rfl, Bool.or_true]
    exact ⟨fun _ => ⟨by omega, hc⟩, fun _ => rfl⟩
  · rw [decide_eq_false k, Bool.or_false, h v]
    constructor
    · intro q
      exact ⟨by omega, q.2⟩
    · intro q
      exact ⟨by omega, q.2⟩
def BSF (f : Nat → Int32) (n : Int) : Prop := ∀ a b : Nat, (a : Int) < n → bt (f a) b = true → (b : Int) < n ∧ bt (f b) a = true ∧ a ≠ b
theorem bsf_s {f : Nat → Int32} {n : Int} {u v z1 x1 z2 x2 z3 z4 : Int32} (h : BSF f n) (hu : In u 0 31) (hv : In v 0 31) (hun : u.toInt < n) (hvn : v.toInt < n) (hne : u.toInt ≠ v.toInt) (e0 : x1 = f u.toNatClampNeg) (e1 : z1 = Int32.ofInt 1 <<< (v &&& 31)) (e2 : z2 = x1 ||| z1) (e3 : x2 = upd f u.toNatClampNeg z2 v.toNatClampNeg) (e4 : z3 = Int32.ofInt 1 <<< (u &&& 31)) (e5 : z4 = x2 ||| z3) : BSF (upd (upd f u.toNatClampNeg z2) v.toNatClampNeg z4) n := by
  have u32 := nat32 hu
  have v32 := nat32 hv
  have nuv : u.toNatClampNeg ≠ v.toNatClampNeg := by omega
  rw [up_n (fun q => nuv q.symm)] at e3
  have key : ∀ a b : Nat, (bt (upd (upd f u.toNatClampNeg z2) v.toNatClampNeg z4 a) b = true ↔ (bt (f a) b = true ∨ (a = u.toNatClampNeg ∧ b = v.toNatClampNeg) ∨ (a = v.toNatClampNeg ∧ b = u.toNatClampNeg))) := by
    intro a b
    by_cases c1 : a = v.toNatClampNeg
    · rw [c1, up_e, bt_set e4 e5 hu, e3, Bool.or_eq_true]
      constructor
      · intro q
        rcases q with q | q
        · exact Or.inl q
        · exact Or.inr (Or.inr ⟨rfl, of_decide_eq_true q⟩)
      · intro q
        rcases q with q | ⟨q, -⟩ | ⟨-, q⟩
        · exact Or.inl q
        · exact absurd q.symm nuv
        · exact Or.inr (decide_eq_true q)
    · rw [up_n c1]
      by_cases c2 : a = u.toNatClampNeg
      · rw [c2, up_e, bt_set e1 e2 hv, e0, Bool.or_eq_true]
        constructor
        · intro q
          rcases q with q | q
          · exact Or.inl q
          · exact Or.inr (Or.inl ⟨rfl, of_decide_eq_true q⟩)
        · intro q
          rcases q with q | ⟨-, q⟩ | ⟨q, -⟩
          · exact Or.inl q
          · exact Or.inr (decide_eq_true q)
          · exact absurd q nuv
      · rw [up_n c2]
        constructor
        · intro q; exact Or.inl q
        · intro q
          rcases q with q | ⟨q, -⟩ | ⟨q, -⟩
          · exact q
          · exact absurd q c2
          · exact absurd q c1
  intro a b ha hb
  rcases (key a b).mp hb with q | ⟨q1, q2⟩ | ⟨q1, q2⟩
  · have r := h a b ha q
    exact ⟨r.1, (key b a).mpr (Or.inl r.2.1), r.2.2⟩
  · exact ⟨by rw [q2]; omega, (key b a).mpr (Or.inr (Or.inr ⟨q2, q1⟩)), by rw [q1, q2]; exact nuv⟩
  · exact ⟨by rw [q2]; omega, (key b a).mpr (Or.inr (Or.inl ⟨q2, q1⟩)), by rw [q1, q2]; exact fun z => nuv z.symm⟩
/-- what hangs together -/
def HNG (s : GS) (open_ all : Int32) : Prop := ∀ u w : Nat, (u : Int) < (s.2.2.1 109 20).toInt → bt all u = true → bt (s.1 138 u) w = true → bt open_ w = true → bt all w = true
/-! begin -/
theorem lf_i {all bars z46 z47 cap z54 : Int32} {k u most : Int} {Q : Nat → Prop} (hall : ∀ c : Nat, c < 32 → (bt all c = true ↔ (c : Int) < k)) (hcap : ∀ c : Nat, c < 32 → (bt cap c = true ↔ (c : Int) < most)) (hm : ∀ c : Int, c < k → (c < most ↔ c ≤ u)) (hk : k ≤ 32) (hb : ∀ c : Nat, (bt bars c = true ↔ Q c)) (e46 : z46 = bars ^^^ Int32.ofInt (-1)) (e47 : z47 = all &&& z46) (e54 : z54 = z47 &&& cap) : ∀ c : Nat, (bt z54 c = true ↔ ((c : Int) < k ∧ (c : Int) ≤ u ∧ ¬ Q c)) := by
  intro c
  by_cases hc : c < 32
  · rw [bt_and e54, bt_and e47, bt_not e46 hc]
    have a := hall c hc
    have b := hcap c hc
    have d := hb c
    constructor
    · intro q
      have q1 := (Bool.and_eq_true _ _).mp q
      have q2 := (Bool.and_eq_true _ _).mp q1.1
      have k1 := a.mp q2.1
      refine ⟨k1, (hm _ k1).mp (b.mp q1.2), fun z => ?_⟩
      rw [d.mpr z] at q2
      exact absurd q2.2 (by decide)
    · intro q
      have k1 := a.mpr q.1
      have k2 := b.mpr ((hm _ q.1).mpr q.2.1)
      have k3 : bt bars c = false := by
        cases hq : bt bars c with
        | false => rfl
        | true => exact absurd (d.mp hq) q.2.2
      rw [k1, k2, k3]
      rfl
  · constructor
    · intro q; exact absurd (bt_lt q) hc
    · intro q; exfalso; have := q.1; omega
def BRQ (s : GS) (v c : Nat) : Prop := ∃ u : Nat, (u : Int) < (s.2.2.1 109 20).toInt ∧ bt (s.1 138 v) u = true ∧ 0 ≤ (s.1 142 u).toInt ∧ (s.1 142 u).toNatClampNeg = c
theorem al_1 {k z1 z : Int32} (hk : In k 0 31) (e1 : z1 = Int32.ofInt 1 <<< (k &&& 31)) (e : z = z1 - Int32.ofInt 1) : ∀ c : Nat, c < 32 → (bt z c = true ↔ (c : Int) < k.toInt) := by
  intro c hc
  rw [bt_all e1 e hk hc]
  exact ⟨of_decide_eq_true, decide_eq_true⟩
theorem al_2 {k : Int} (hk : 32 ≤ k) : ∀ c : Nat, c < 32 → (bt (Int32.ofInt (-1)) c = true ↔ (c : Int) < k) := by
  intro c hc
  rw [bt_m1 hc]
  exact ⟨fun _ => by omega, fun _ => rfl⟩
def MET (f : Nat → Int32) (m : Int) (w : Int32) : Prop := (∀ x : Nat, bt w x = true → ∃ j : Nat, (j : Int) < m ∧ x = (f j).toNatClampNeg) ∧ ∀ j : Nat, (j : Int) < m → bt w (f j).toNatClampNeg = true
theorem met_0 {f : Nat → Int32} : MET f 0 (Int32.ofInt 0) := by
  refine ⟨fun x h => ?_, fun j h => by omega⟩
  rw [show (Int32.ofInt 0) = (0 : Int32) from rfl, bt_z] at h
  cases h
theorem met_s {f : Nat → Int32} {y w set z z1 v : Int32} (h : MET f y.toInt set) (hw : w.toInt = y.toInt + 1) (h0 : 0 ≤ y.toInt) (hv : v = f y.toNatClampNeg) (hr : In v 0 31) (e1 : z1 = Int32.ofInt 1 <<< (v &&& 31)) (ez : z = set ||| z1) : MET f w.toInt z := by
  have ey : y.toNatClampNeg = y.toInt.toNat := rfl
  refine ⟨fun x q => ?_, fun j hj => ?_⟩
  · rw [bt_set e1 ez hr] at q
    rcases (Bool.or_eq_true _ _).mp q with q | q
    · obtain ⟨j, j1, j2⟩ := h.1 x q
      exact ⟨j, by omega, j2⟩
    · exact ⟨y.toNatClampNeg, by omega, by rw [← hv]; exact of_decide_eq_true q⟩
  · rw [bt_set e1 ez hr]
    by_cases e : j = y.toNatClampNeg
    · rw [e, ← hv, decide_eq_true rfl, Bool.or_true]
    · rw [h.2 j (by omega), Bool.true_or]
def WHY (s : GS) (v : Nat) (d : Int) (w : Int32) : Prop := (∀ x : Nat, bt w x = true → ∃ j : Nat, (j : Int) < d ∧ x = (s.1 144 j).toNatClampNeg) ∧ ∀ j : Nat, (j : Int) < d → bt (s.1 138 v) (s.1 144 j).toNatClampNeg = true → bt w (s.1 144 j).toNatClampNeg = true
theorem why_1 {s : GS} {v : Nat} {d : Int} {w : Int32} (h : MET (s.1 144) d w) : WHY s v d w := ⟨h.1, fun j hj _ => h.2 j hj⟩
theorem why_2 {s : GS} {v : Nat} {d : Int} {w b z : Int32} (h : MET (s.1 144) d w) (hb : b = s.1 138 v) (e : z = w &&& b) : WHY s v d z := by
  refine ⟨fun x q => h.1 x (bt_and1 e q), fun j hj q => ?_⟩
  rw [bt_and e, h.2 j hj, hb, q]
  rfl
