/-! LEAST WAYS BY ROUNDS: how many, ranks below 32, potentials, what a change keeps -/
def cq (p : Nat → Bool) : Nat → Nat
  | 0 => 0
  | n + 1 => cq p n + (if p n = true then 1 else 0)
theorem cq_le (p : Nat → Bool) : ∀ n, cq p n ≤ n := by
  intro n
  induction n with
  | zero => exact Nat.le_refl 0
  | succ n ih =>
    show cq p n + (if p n = true then 1 else 0) ≤ n + 1
    split <;> omega
theorem cq_mono {p q : Nat → Bool} : ∀ n, (∀ i, i < n → p i = true → q i = true) → cq p n ≤ cq q n := by
  intro n
  induction n with
  | zero => intro _; exact Nat.le_refl 0
  | succ n ih =>
    intro h
    have h1 := ih (fun i hi => h i (by omega))
    have h2 := h n (by omega)
    show cq p n + (if p n = true then 1 else 0) ≤ cq q n + (if q n = true then 1 else 0)
    by_cases c : p n = true
    · rw [if_pos c, if_pos (h2 c)]; omega
    · rw [if_neg c]; omega
theorem cq_lt {p q : Nat → Bool} {k : Nat} : ∀ n, (∀ i, i < n → p i = true → q i = true) → k < n → p k = false → q k = true → cq p n + 1 ≤ cq q n := by
  intro n
  induction n with
  | zero => intro _ h; omega
  | succ n ih =>
    intro h hk h1 h2
    show cq p n + (if p n = true then 1 else 0) + 1 ≤ cq q n + (if q n = true then 1 else 0)
    by_cases c : k = n
    · subst c
      have h3 := cq_mono (p := p) (q := q) k (fun i hi => h i (by omega))
      rw [if_neg (by rw [h1]; decide), if_pos h2]; omega
    · have h3 := ih (fun i hi => h i (by omega)) (by omega) h1 h2
      have h4 := h n (by omega)
      by_cases c2 : p n = true
      · rw [if_pos c2, if_pos (h4 c2)]; omega
      · rw [if_neg c2]; omega
theorem rank32 (key : Nat → Nat) : ∃ r : Nat → Nat, (∀ v, v < 32 → r v < 32) ∧ ∀ u v, u < 32 → v < 32 → key u < key v → r u < r v := by
  refine ⟨fun v => cq (fun u => decide (key u < key v)) 32, fun v hv => ?_, fun u v hu hv h => ?_⟩
  · have h := cq_lt (p := fun u => decide (key u < key v)) (q := fun _ => true) (k := v) 32 (fun _ _ _ => rfl) hv (decide_eq_false (Nat.lt_irrefl _)) rfl
    have h2 := cq_le (fun _ => true) 32
    dsimp only
    omega
  · refine cq_lt (k := u) 32 (fun i _ hi => ?_) hu (decide_eq_false (Nat.lt_irrefl _)) (decide_eq_true h)
    exact decide_eq_true (Nat.lt_trans (of_decide_eq_true hi) h)
def smq (f : Nat → Nat) : Nat → Nat
  | 0 => 0
  | n + 1 => smq f n + f n
theorem smq_le {f g : Nat → Nat} : ∀ n, (∀ i, i < n → f i ≤ g i) → smq f n ≤ smq g n := by
  intro n
  induction n with
  | zero => intro _; exact Nat.le_refl 0
  | succ n ih =>
    intro h
    have h1 := ih (fun i hi => h i (by omega))
    have h2 := h n (by omega)
    show smq f n + f n ≤ smq g n + g n
    omega
theorem smq_lt {f g : Nat → Nat} {k : Nat} : ∀ n, (∀ i, i < n → f i ≤ g i) → k < n → f k < g k → smq f n < smq g n := by
  intro n
  induction n with
  | zero => intro _ h; omega
  | succ n ih =>
    intro h hk h1
    have h2 := h n (by omega)
    show smq f n + f n < smq g n + g n
    by_cases c : k = n
    · subst c
      have h3 := smq_le (f := f) (g := g) k (fun i hi => h i (by omega))
      omega
    · have h3 := ih (fun i hi => h i (by omega)) (by omega) h1
      omega
theorem smq_c {f : Nat → Nat} {c : Nat} : ∀ n, (∀ i, i < n → f i ≤ c) → smq f n ≤ c * n := by
  intro n
  induction n with
  | zero => intro _; exact Nat.le_refl 0
  | succ n ih =>
    intro h
    have h1 := ih (fun i hi => h i (by omega))
    have h2 := h n (by omega)
    show smq f n + f n ≤ c * (n + 1)
    rw [Nat.mul_succ]
    omega
/-- arcs of 32 nodes with small weights -/
def RB (R : Nat → Nat → Int → Prop) : Prop := ∀ u v w, R u v w → u < 32 ∧ v < 32 ∧ -1000000 ≤ w ∧ w ≤ 1000000
/-- a potential -/
def FE (R : Nat → Nat → Int → Prop) (pi : Nat → Int) : Prop := ∀ u v w, R u v w → pi v ≤ pi u + w
theorem gapq {pi : Nat → Nat} {v : Nat} (hv : v < 32) (h : 32000000 ≤ pi v) : ∃ j, j < 32 ∧ ∀ u, u < 32 → pi u < 1000000 * j ∨ 1000000 * j + 1000000 ≤ pi u := by
  apply Classical.byContradiction
  intro hn
  have key : ∀ j, j ≤ 32 → j ≤ cq (fun u => decide (pi u < 1000000 * j)) 32 := by
    intro j
    induction j with
    | zero => intro _; exact Nat.zero_le _
    | succ j ih =>
      intro hj
      have h1 := ih (by omega)
      have hx : ∃ u, u < 32 ∧ 1000000 * j ≤ pi u ∧ pi u < 1000000 * j + 1000000 := by
        apply Classical.byContradiction
        intro hq
        apply hn
        refine ⟨j, by omega, fun u hu => ?_⟩
        by_cases c : pi u < 1000000 * j
        · exact Or.inl c
        · refine Or.inr ?_
          by_cases c2 : 1000000 * j + 1000000 ≤ pi u
          · exact c2
          · exact absurd ⟨u, hu, by omega, by omega⟩ hq
      obtain ⟨u, hu, a, b⟩ := hx
      have h2 := cq_lt (p := fun u => decide (pi u < 1000000 * j)) (q := fun u => decide (pi u < 1000000 * (j + 1))) (k := u) 32 (fun i _ hi => decide_eq_true (by have := of_decide_eq_true hi; omega)) hu (decide_eq_false (by omega)) (decide_eq_true (by omega))
      omega
  have h1 := key 32 (Nat.le_refl _)
  have h2 := cq_lt (p := fun u => decide (pi u < 1000000 * 32)) (q := fun _ => true) (k := v) 32 (fun _ _ _ => rfl) hv (decide_eq_false (by omega)) rfl
  have h3 := cq_le (fun _ => true) 32
  omega
theorem squeeze {R : Nat → Nat → Int → Prop} (hR : RB R) : ∀ (K : Nat) (pi : Nat → Nat), smq pi 32 < K → FE R (fun v => (pi v : Int)) → ∃ q : Nat → Nat, (∀ v, v < 32 → q v ≤ 32000000) ∧ FE R (fun v => (q v : Int)) := by
  intro K
  induction K with
  | zero => intro pi hs _; omega
  | succ K ih =>
    intro pi hs hf
    by_cases c : ∃ v, v < 32 ∧ 32000000 ≤ pi v
    · obtain ⟨v, hv, h⟩ := c
      obtain ⟨j, hj, hg⟩ := gapq hv h
      refine ih (fun u => if 1000000 * j + 1000000 ≤ pi u then pi u - 1 else pi u) ?_ ?_
      · have h1 := smq_lt (f := fun u => if 1000000 * j + 1000000 ≤ pi u then pi u - 1 else pi u) (g := pi) (k := v) 32 (fun i _ => by split <;> omega) hv (by rw [if_pos (by omega)]; omega)
        omega
      · intro a b w hr
        have q := hf a b w hr
        obtain ⟨ha, hb, w1, w2⟩ := hR a b w hr
        have ga := hg a ha
        have gb := hg b hb
        dsimp only at q ⊢
        split <;> split <;> omega
    · refine ⟨pi, fun v hv => ?_, hf⟩
      by_cases c2 : 32000000 ≤ pi v
      · exact absurd ⟨v, hv, c2⟩ c
      · omega
theorem squeezeI {R : Nat → Nat → Int → Prop} (hR : RB R) {pi : Nat → Int} (hf : FE R pi) : ∃ q : Nat → Int, (∀ v, v < 32 → 0 ≤ q v ∧ q v ≤ 32000000) ∧ FE R q := by
  have hm : ∀ n : Nat, ∃ c : Int, ∀ v, v < n → c ≤ pi v := by
    intro n
    induction n with
    | zero => exact ⟨0, fun v hv => by omega⟩
    | succ n ih =>
      obtain ⟨c, hc⟩ := ih
      by_cases k : c ≤ pi n
      · refine ⟨c, fun v hv => ?_⟩
        by_cases e : v = n
        · rw [e]; exact k
        · exact hc v (by omega)
      · refine ⟨pi n, fun v hv => ?_⟩
        by_cases e : v = n
        · rw [e]; exact Int.le_refl _
        · have := hc v (by omega)
          omega
  obtain ⟨c, hc⟩ := hm 32
  obtain ⟨q, h1, h2⟩ := squeeze hR (smq (fun v => (pi v - c).toNat) 32 + 1) (fun v => (pi v - c).toNat) (Nat.lt_succ_self _) (by
    intro a b w hr
    have q := hf a b w hr
    obtain ⟨ha, hb, -, -⟩ := hR a b w hr
    have ga := hc a ha
    have gb := hc b hb
    dsimp only
    omega)
  exact ⟨fun v => (q v : Int), fun v hv => by have := h1 v hv; dsimp only; omega, h2⟩
/-- prices that are told -/
def fnp (p : Nat → Int) (v : Nat) : Bool := decide (p v < 9000000000000000)
def ee (pi : Nat → Int) (c : Int) (p : Nat → Int) (v : Nat) : Nat := if p v < 9000000000000000 then (p v - pi v + c).toNat else 100000000
def msr (pi : Nat → Int) (c : Int) (p : Nat → Int) : Nat := smq (ee pi c p) 32
def BI (R : Nat → Nat → Int → Prop) (pi : Nat → Int) (c : Int) (S : Nat → Prop) (p : Nat → Int) (pd : Nat → Nat) (wt : Nat → Int) : Prop :=
  (∀ v, v < 32 → p v < 9000000000000000 → 0 ≤ p v - pi v + c ∧ p v ≤ 1000000 * (cq (fnp p) 32 : Int) - 1000000) ∧
  ∃ τ : Nat → Nat, (∀ v, v < 32 → τ v + msr pi c p ≤ 3200000000) ∧
    ∀ v, v < 32 → p v < 9000000000000000 → ¬ S v → pd v < 32 ∧ R (pd v) v (wt v) ∧ p (pd v) < 9000000000000000 ∧ (p (pd v) + wt v < p v ∨ (p (pd v) + wt v = p v ∧ τ (pd v) < τ v))
def PB2 (pi : Nat → Int) (c : Int) : Prop := (∀ v, v < 32 → 0 ≤ pi v ∧ pi v ≤ 32000000) ∧ 0 ≤ c ∧ c ≤ 32000000
theorem bi_b {R : Nat → Nat → Int → Prop} {pi : Nat → Int} {c : Int} {S : Nat → Prop} {p : Nat → Int} {pd : Nat → Nat} {wt : Nat → Int} (hp : PB2 pi c) (h : BI R pi c S p pd wt) {v : Nat} (hv : v < 32) (hn : p v < 9000000000000000) : -32000000 ≤ p v ∧ p v ≤ 31000000 := by
  have h1 := h.1 v hv hn
  have h2 := hp.1 v hv
  have h3 := cq_le (fnp p) 32
  have h4 := hp.2
  constructor <;> omega
theorem bi_relax {R : Nat → Nat → Int → Prop} {pi : Nat → Int} {c : Int} {S : Nat → Prop} {p p2 : Nat → Int} {pd pd2 : Nat → Nat} {wt wt2 : Nat → Int} {u v : Nat} {w : Int} (hR : RB R) (hf : FE R pi) (hp : PB2 pi c) (h : BI R pi c S p pd wt) (hr : R u v w) (hu : p u < 9000000000000000) (hlt : p u + w < p v)
    (e1 : p2 v = p u + w) (e2 : ∀ x, x < 32 → x ≠ v → p2 x = p x) (e3 : pd2 v = u) (e4 : ∀ x, x < 32 → x ≠ v → pd2 x = pd x) (e5 : wt2 v = w) (e6 : ∀ x, x < 32 → x ≠ v → wt2 x = wt x) : BI R pi c S p2 pd2 wt2 ∧ msr pi c p2 < msr pi c p := by
  obtain ⟨hu32, hv32, w1, w2⟩ := hR u v w hr
  have hfe := hf u v w hr
  have hne : u ≠ v := by
    intro e
    rw [e] at hfe hlt
    omega
  obtain ⟨h1, τ, t1, t2⟩ := h
  have bu := h1 u hu32 hu
  have hc32 := cq_le (fnp p) 32
  have hpv := hp.1 v hv32
  have hcc := hp.2
  have hnew : p2 v < 9000000000000000 := by rw [e1]; omega
  have hsub : ∀ i, i < 32 → fnp p i = true → fnp p2 i = true := by
    intro i hi hq
    by_cases e : i = v
    · rw [e]; exact decide_eq_true hnew
    · unfold fnp at hq ⊢
      rw [e2 i hi e]; exact hq
  have hc1 := cq_mono (p := fnp p) (q := fnp p2) 32 hsub
  have hlow : 0 ≤ p u + w - pi v + c := by omega
  have hms : msr pi c p2 < msr pi c p := by
    refine smq_lt (k := v) 32 (fun i hi => ?_) hv32 ?_
    · by_cases e : i = v
      · rw [e]
        unfold ee
        rw [if_pos hnew, e1]
        split <;> omega
      · unfold ee
        rw [e2 i hi e]
        exact Nat.le_refl _
    · unfold ee
      rw [if_pos hnew, e1]
      split <;> omega
  refine ⟨⟨fun x hx hq => ?_, fun x => if x = v then 3200000000 - msr pi c p2 else τ x, fun x hx => ?_, fun x hx hq hS => ?_⟩, hms⟩
  · by_cases e : x = v
    · rw [e, e1]
      refine ⟨hlow, ?_⟩
      by_cases k : p v < 9000000000000000
      · have := h1 v hv32 k
        omega
      · have := cq_lt (p := fnp p) (q := fnp p2) (k := v) 32 hsub hv32 (decide_eq_false k) (decide_eq_true hnew)
        omega
    · rw [e2 x hx e] at hq ⊢
      have := h1 x hx hq
      omega
  · dsimp only
    have a := t1 v hv32
    have b := t1 x hx
    split <;> omega
  · dsimp only
    by_cases e : x = v
    · rw [e, e3, e5, if_pos rfl, if_neg hne, e2 u hu32 hne, e1]
      have a := t1 u hu32
      exact ⟨hu32, hr, hu, Or.inr ⟨rfl, by omega⟩⟩
    · rw [e2 x hx e] at hq ⊢
      obtain ⟨q1, q2, q3, q4⟩ := t2 x hx hq hS
      rw [e4 x hx e, e6 x hx e, if_neg e]
      by_cases k : pd x = v
      · rw [k] at q2 q3 q4 ⊢
        refine ⟨hv32, q2, hnew, Or.inl ?_⟩
        rw [e1]
        rcases q4 with q4 | q4 <;> omega
      · rw [e2 _ q1 k, if_neg k]
        exact ⟨q1, q2, q3, q4⟩
theorem bi_0 {R : Nat → Nat → Int → Prop} {pi : Nat → Int} {c : Int} {S : Nat → Prop} {p : Nat → Int} {pd : Nat → Nat} {wt : Nat → Int} (hp : PB2 pi c) (h : ∀ v, v < 32 → p v < 9000000000000000 → S v ∧ p v = 0 ∧ pi v ≤ c) : BI R pi c S p pd wt := by
  refine ⟨fun v hv hn => ?_, fun _ => 0, fun v hv => ?_, fun v hv hn hS => absurd (h v hv hn).1 hS⟩
  · have a := h v hv hn
    have b := cq_lt (p := fun _ => false) (q := fnp p) (k := v) 32 (fun i _ hi => by cases hi) hv rfl (decide_eq_true hn)
    constructor <;> omega
  · have a : msr pi c p ≤ 100000000 * 32 := smq_c 32 (fun i hi => by
      unfold ee
      have hq := hp.1 i hi
      have hc := hp.2
      split
      · rename_i k
        have := h i hi k
        omega
      · omega)
    show 0 + msr pi c p ≤ 3200000000
    omega
/-- the ranks of a way back -/
theorem bi_rank {R : Nat → Nat → Int → Prop} {pi : Nat → Int} {c : Int} {S : Nat → Prop} {p : Nat → Int} {pd : Nat → Nat} {wt : Nat → Int} (hf : FE R pi) (h : BI R pi c S p pd wt) : ∃ r : Nat → Nat, (∀ v, v < 32 → r v < 32) ∧ ∀ v, v < 32 → p v < 9000000000000000 → ¬ S v → pd v < 32 ∧ R (pd v) v (wt v) ∧ p (pd v) < 9000000000000000 ∧ r (pd v) < r v ∧ p (pd v) + wt v ≤ p v := by
  obtain ⟨h1, τ, t1, t2⟩ := h
  obtain ⟨r, r1, r2⟩ := rank32 (fun v => (p v - pi v + c).toNat * 4000000000 + τ v)
  refine ⟨r, r1, fun v hv hn hS => ?_⟩
  obtain ⟨q1, q2, q3, q4⟩ := t2 v hv hn hS
  have f := hf _ _ _ q2
  have a := (h1 v hv hn).1
  have b := (h1 _ q1 q3).1
  have ta := t1 v hv
  have tb := t1 _ q1
  refine ⟨q1, q2, q3, r2 _ _ q1 hv ?_, by rcases q4 with q4 | q4 <;> omega⟩
  rcases q4 with q4 | q4
  · have : (p (pd v) - pi (pd v) + c).toNat + 1 ≤ (p v - pi v + c).toNat := by omega
    omega
  · have : (p (pd v) - pi (pd v) + c).toNat ≤ (p v - pi v + c).toNat := by omega
    omega
/-- the potential after the rounds -/
theorem bi_pi {R : Nat → Nat → Int → Prop} {pi : Nat → Int} {c : Int} {p : Nat → Int} (hf : FE R pi) (hcl : ∀ u v w, R u v w → p u < 9000000000000000 → p v ≤ p u + w) (hcb : ∀ u v w, R u v w → p u < 9000000000000000 → p v < 9000000000000000) {g : Nat} : ∃ q : Nat → Int, FE R q ∧ ∀ x, p x < 9000000000000000 → p x - pi x ≤ p g - pi g → q x = p x + c := by
  refine ⟨fun v => pi v + (if p v < 9000000000000000 ∧ p v - pi v ≤ p g - pi g then p v - pi v + c else p g - pi g + c), fun u v w hr => ?_, fun x hx hd => ?_⟩
  · dsimp only
    have f := hf u v w hr
    by_cases cu : p u < 9000000000000000 ∧ p u - pi u ≤ p g - pi g
    · rw [if_pos cu]
      have a := hcl u v w hr cu.1
      have b := hcb u v w hr cu.1
      split
      · omega
      · rename_i k
        have : ¬ p v - pi v ≤ p g - pi g := fun z => k ⟨b, z⟩
        omega
    · rw [if_neg cu]
      split
      · rename_i k
        omega
      · omega
  · dsimp only
    rw [if_pos ⟨hx, hd⟩]
    omega
