/-! Graph.tie: counts, their sums, and the rows by them -/
def cn (F : Nat → Int) (u : Int) : Nat → Int
  | 0 => 0
  | n + 1 => cn F u n + (if F n = u then 1 else 0)
def pr (F : Nat → Int) (n : Nat) : Nat → Int
  | 0 => 0
  | u + 1 => pr F n u + cn F (u : Int) n
theorem cn_0 (F : Nat → Int) (u : Int) (n : Nat) : 0 ≤ cn F u n := by
  induction n with
  | zero => exact Int.le_refl 0
  | succ n ih =>
    show 0 ≤ cn F u n + (if F n = u then 1 else 0)
    split <;> omega
theorem cn_le (F : Nat → Int) (u : Int) (n : Nat) : cn F u n ≤ (n : Int) := by
  induction n with
  | zero => exact Int.le_refl 0
  | succ n ih =>
    show cn F u n + (if F n = u then 1 else 0) ≤ ((n + 1 : Nat) : Int)
    split <;> omega
theorem cn_mono (F : Nat → Int) (u : Int) {m n : Nat} (h : m ≤ n) : cn F u m ≤ cn F u n := by
  induction n with
  | zero =>
    have e : m = 0 := by omega
    rw [e]
    exact Int.le_refl _
  | succ n ih =>
    rcases Nat.lt_or_ge n m with c | c
    · have e : m = n + 1 := by omega
      rw [e]
      exact Int.le_refl _
    · have := ih c
      show cn F u m ≤ cn F u n + (if F n = u then 1 else 0)
      split <;> omega
theorem cn_out (F : Nat → Int) (u : Int) (hF : ∀ j, F j < u) (n : Nat) : cn F u n = 0 := by
  induction n with
  | zero => rfl
  | succ n ih =>
    have := hF n
    show cn F u n + (if F n = u then 1 else 0) = 0
    rw [ih, if_neg (by omega)]
    rfl
theorem pr_s (F : Nat → Int) (n u : Nat) : pr F (n + 1) u = pr F n u + (if 0 ≤ F n ∧ F n < (u : Int) then 1 else 0) := by
  induction u with
  | zero =>
    show (0 : Int) = 0 + _
    rw [if_neg (by omega)]
    rfl
  | succ u ih =>
    show pr F (n + 1) u + (cn F (u : Int) n + (if F n = (u : Int) then 1 else 0)) = (pr F n u + cn F (u : Int) n) + _
    rw [ih]
    by_cases a : F n = (u : Int)
    · rw [if_pos a, if_neg (by omega), if_pos (by omega)]
      omega
    · rw [if_neg a]
      by_cases b : 0 ≤ F n ∧ F n < (u : Int)
      · rw [if_pos b, if_pos (by omega)]
        omega
      · rw [if_neg b, if_neg (by omega)]
        omega
theorem pr_le (F : Nat → Int) (n u : Nat) : pr F n u ≤ (n : Int) := by
  induction n with
  | zero =>
    induction u with
    | zero => exact Int.le_refl 0
    | succ u ih => show pr F 0 u + 0 ≤ _; omega
  | succ n ih =>
    rw [pr_s]
    split <;> omega
theorem pr_0 (F : Nat → Int) (n u : Nat) : 0 ≤ pr F n u := by
  induction u with
  | zero => exact Int.le_refl 0
  | succ u ih =>
    have := cn_0 F (u : Int) n
    show 0 ≤ pr F n u + cn F (u : Int) n
    omega
theorem cn_hit {F : Nat → Int} {u : Int} {n : Nat} (h : F n = u) : cn F u (n + 1) = cn F u n + 1 := by
  show cn F u n + (if F n = u then 1 else 0) = _
  rw [if_pos h]
theorem cn_miss {F : Nat → Int} {u : Int} {n : Nat} (h : F n ≠ u) : cn F u (n + 1) = cn F u n := by
  show cn F u n + (if F n = u then 1 else 0) = _
  rw [if_neg h]
  omega
theorem pr_up (F : Nat → Int) (n : Nat) : ∀ {v w : Nat}, v ≤ w → pr F n v ≤ pr F n w := by
  intro v w h
  induction w with
  | zero =>
    obtain rfl : v = 0 := by omega
    exact Int.le_refl _
  | succ w ih =>
    by_cases e : v = w + 1
    · rw [e]; exact Int.le_refl _
    · have h1 := ih (by omega)
      have h2 := cn_0 F (w : Int) n
      have h3 : pr F n (w + 1) = pr F n w + cn F (w : Int) n := rfl
      omega
theorem pr_at (F : Nat → Int) (n : Nat) (i : Int) (h0 : 0 ≤ i) : ∀ w : Nat, i < pr F n w → ∃ u : Nat, u < w ∧ pr F n u ≤ i ∧ i < pr F n (u + 1) := by
  intro w h
  induction w with
  | zero =>
    have h1 : pr F n 0 = 0 := rfl
    omega
  | succ w ih =>
    by_cases e : i < pr F n w
    · obtain ⟨u, a, b, c⟩ := ih e
      exact ⟨u, by omega, b, c⟩
    · exact ⟨w, by omega, by omega, h⟩
/-- a place that is written, the others stay -/
theorem up_at {f : Nat → Int32} {j k : Nat} {x : Int32} : upd f j x k = if k = j then x else f k := rfl
def fm_107_2 : FM := ([9, 10, 11, 12, 14], [], [], [])
/-- GraphHouse$Graph.tieEnds -/
theorem x_107_2 {Z : AmZ} {A : Nat → Nat} {s : GS} {ex : va_W} {d : Nat} {X : AmX} {x1 : Int32} {x2 : Int32} (hd : 1 ≤ d) (hI : Rng s) (h1 : In x1 0 31) (h2 : In x2 0 31) (g1 : In (s.1 12 x1.toNatClampNeg) 0 159) (g2 : In (s.1 14 x2.toNatClampNeg) 0 159) : GC Z d 107 [.ref (A 2), .int x1, .int x2] (WW Z A s ++ ex) 0 0 (fun v u => ∃ t : GS, Rng t ∧ Fr fm_107_2 s t ∧ v = none ∧ u = WW Z A t ++ ex ∧ t.1 4 = s.1 4 ∧ t.1 5 = s.1 5 ∧ t.2.2.1 = s.2.2.1 ∧ t.1 12 = upd (s.1 12) x1.toNatClampNeg (s.1 12 x1.toNatClampNeg + Int32.ofInt 1) ∧ t.1 14 = upd (s.1 14) x2.toNatClampNeg (s.1 14 x2.toNatClampNeg + Int32.ofInt 1)) X := by
  intro post xp hP hX
  refine g_enter2 (k := 107) (N := 900) (by omega) rfl (Nat.le_of_ble_eq_true rfl) ?_
  refine g_aload_n 1 (gd rfl) rfl rfl ?_
  refine g_getA (q2 := 12) 4 (gd rfl) rfl rfl rfl rfl ?_
  refine g_iload_n 5 (gd rfl) rfl rfl ?_
  refine g_dup2 6 (gd rfl) rfl rfl rfl ?_
  refine g_iaload 7 (gd rfl) rfl (n := 33) rfl (in_ix h1 rfl) (fun z6 e6 => ?_)
  have i6 := (show In z6 0 159 by rw [e6]; exact g1)
  refine g_iconst 1 8 (gd rfl) rfl rfl ?_
  refine g_iadd 9 (gd rfl) rfl (fun z8 e8 => ?_)
  have i8 := in_add 1 160 e8 i6 (in_c 1 rfl) rfl rfl
  refine g_iastore 10 (gd rfl) rfl (n := 33) rfl (in_ix h1 rfl) ?_
  have hI9 := rng_sI (q := 12) (j := x1.toNatClampNeg) hI rfl (in_w 0 160 i8 rfl)
  refine g_aload_n 11 (gd rfl) rfl rfl ?_
  refine g_getA (q2 := 14) 14 (gd rfl) rfl rfl rfl rfl ?_
  refine g_iload_n 15 (gd rfl) rfl rfl ?_
  refine g_dup2 16 (gd rfl) rfl rfl rfl ?_
  refine g_iaload 17 (gd rfl) rfl (n := 33) rfl (in_ix h2 rfl) (fun z16 e16 => ?_)
  have i16 := (show In z16 0 159 by rw [e16]; exact g2)
  refine g_iconst 1 18 (gd rfl) rfl rfl ?_
  refine g_iadd 19 (gd rfl) rfl (fun z18 e18 => ?_)
  have i18 := in_add 1 160 e18 i16 (in_c 1 rfl) rfl rfl
  refine g_iastore 20 (gd rfl) rfl (n := 33) rfl (in_ix h2 rfl) ?_
  have hI19 := rng_sI (q := 14) (j := x2.toNatClampNeg) hI9 rfl (in_w 0 160 i18 rfl)
  refine g_aload_n 21 (gd rfl) rfl rfl ?_
  refine g_getA (q2 := 10) 24 (gd rfl) rfl rfl rfl rfl ?_
  refine g_iload_n 25 (gd rfl) rfl rfl ?_
  refine g_dup2 26 (gd rfl) rfl rfl rfl ?_
  refine g_iaload 27 (gd rfl) rfl (n := 32) rfl (in_ix h1 rfl) (fun z26 e26 => ?_)
  refine g_iconst 1 28 (gd rfl) rfl rfl ?_
  refine g_iload_n 29 (gd rfl) rfl rfl ?_
  refine g_ishl 30 (gd rfl) rfl (fun z29 e29 => ?_)
  refine g_ior 31 (gd rfl) rfl (fun z30 e30 => ?_)
  refine g_iastore 32 (gd rfl) rfl (n := 32) rfl (in_ix h1 rfl) ?_
  have hI31 := rng_sI (q := 10) (j := x1.toNatClampNeg) hI19 rfl (in_w (-2147483648) 2147483647 (i_rng z30) rfl)
  refine g_aload_n 33 (gd rfl) rfl rfl ?_
  refine g_getA (q2 := 11) 36 (gd rfl) rfl rfl rfl rfl ?_
  refine g_iload_n 37 (gd rfl) rfl rfl ?_
  refine g_dup2 38 (gd rfl) rfl rfl rfl ?_
  refine g_iaload 39 (gd rfl) rfl (n := 32) rfl (in_ix h2 rfl) (fun z38 e38 => ?_)
  refine g_iconst 1 40 (gd rfl) rfl rfl ?_
  refine g_iload_n 41 (gd rfl) rfl rfl ?_
  refine g_ishl 42 (gd rfl) rfl (fun z41 e41 => ?_)
  refine g_ior 43 (gd rfl) rfl (fun z42 e42 => ?_)
  refine g_iastore 44 (gd rfl) rfl (n := 32) rfl (in_ix h2 rfl) ?_
  have hI43 := rng_sI (q := 11) (j := x2.toNatClampNeg) hI31 rfl (in_w (-2147483648) 2147483647 (i_rng z42) rfl)
  refine g_iload_n 45 (gd rfl) rfl rfl ?_
  refine g_iload_n 46 (gd rfl) rfl rfl ?_
  refine g_cmp_eq 49 73 (gd rfl) rfl rfl (fun c46 => ?_) (fun c46 => ?_)
  · skip
    exact g_return (gd rfl) rfl (hP _ _ ⟨(sI (sI (sI (sI s 12 x1.toNatClampNeg z8) 14 x2.toNatClampNeg z18) 10 x1.toNatClampNeg z30) 11 x2.toNatClampNeg z42), hI43, (fr_sI rfl (fr_sI rfl (fr_sI rfl (fr_sI rfl fr_rf)))), rfl, rfl, rfl, rfl, rfl, by rw [← e6, ← e8]; rfl, by rw [← (show z16 = s.1 14 x2.toNatClampNeg from e16), ← e18]; rfl⟩)
  · skip
    refine g_aload_n 50 (gd rfl) rfl rfl ?_
    refine g_getA (q2 := 9) 53 (gd rfl) rfl rfl rfl rfl ?_
    refine g_iload_n 54 (gd rfl) rfl rfl ?_
    refine g_dup2 55 (gd rfl) rfl rfl rfl ?_
    refine g_iaload 56 (gd rfl) rfl (n := 32) rfl (in_ix h1 rfl) (fun z55 e55 => ?_)
    refine g_iconst 1 57 (gd rfl) rfl rfl ?_
    refine g_iload_n 58 (gd rfl) rfl rfl ?_
    refine g_ishl 59 (gd rfl) rfl (fun z58 e58 => ?_)
    refine g_ior 60 (gd rfl) rfl (fun z59 e59 => ?_)
    refine g_iastore 61 (gd rfl) rfl (n := 32) rfl (in_ix h1 rfl) ?_
    have hI60 := rng_sI (q := 9) (j := x1.toNatClampNeg) hI43 rfl (in_w (-2147483648) 2147483647 (i_rng z59) rfl)
    refine g_aload_n 62 (gd rfl) rfl rfl ?_
    refine g_getA (q2 := 9) 65 (gd rfl) rfl rfl rfl rfl ?_
    refine g_iload_n 66 (gd rfl) rfl rfl ?_
    refine g_dup2 67 (gd rfl) rfl rfl rfl ?_
    refine g_iaload 68 (gd rfl) rfl (n := 32) rfl (in_ix h2 rfl) (fun z67 e67 => ?_)
    refine g_iconst 1 69 (gd rfl) rfl rfl ?_
    refine g_iload_n 70 (gd rfl) rfl rfl ?_
    refine g_ishl 71 (gd rfl) rfl (fun z70 e70 => ?_)
    refine g_ior 72 (gd rfl) rfl (fun z71 e71 => ?_)
    refine g_iastore 73 (gd rfl) rfl (n := 32) rfl (in_ix h2 rfl) ?_
    have hI72 := rng_sI (q := 9) (j := x2.toNatClampNeg) hI60 rfl (in_w (-2147483648) 2147483647 (i_rng z71) rfl)
    exact g_return (gd rfl) rfl (hP _ _ ⟨(sI (sI (sI (sI (sI (sI s 12 x1.toNatClampNeg z8) 14 x2.toNatClampNeg z18) 10 x1.toNatClampNeg z30) 11 x2.toNatClampNeg z42) 9 x1.toNatClampNeg z59) 9 x2.toNatClampNeg z71), hI72, (fr_sI rfl (fr_sI rfl (fr_sI rfl (fr_sI rfl (fr_sI rfl (fr_sI rfl fr_rf)))))), rfl, rfl, rfl, rfl, rfl, by rw [← e6, ← e8]; rfl, by rw [← (show z16 = s.1 14 x2.toNatClampNeg from e16), ← e18]; rfl⟩)
def fm_107_32 : FM := ([39, 40, 41, 42, 44], [], [], [])
/-- GraphHouse$Graph.tieEnds -/
theorem x_107_32 {Z : AmZ} {A : Nat → Nat} {s : GS} {ex : va_W} {d : Nat} {X : AmX} {x1 : Int32} {x2 : Int32} (hd : 1 ≤ d) (hI : Rng s) (h1 : In x1 0 31) (h2 : In x2 0 31) (g1 : In (s.1 42 x1.toNatClampNeg) 0 159) (g2 : In (s.1 44 x2.toNatClampNeg) 0 159) : GC Z d 107 [.ref (A 32), .int x1, .int x2] (WW Z A s ++ ex) 0 0 (fun v u => ∃ t : GS, Rng t ∧ Fr fm_107_32 s t ∧ v = none ∧ u = WW Z A t ++ ex ∧ t.1 34 = s.1 34 ∧ t.1 35 = s.1 35 ∧ t.2.2.1 = s.2.2.1 ∧ t.1 42 = upd (s.1 42) x1.toNatClampNeg (s.1 42 x1.toNatClampNeg + Int32.ofInt 1) ∧ t.1 44 = upd (s.1 44) x2.toNatClampNeg (s.1 44 x2.toNatClampNeg + Int32.ofInt 1)) X := by
  intro post xp hP hX
  refine g_enter2 (k := 107) (N := 900) (by omega) rfl (Nat.le_of_ble_eq_true rfl) ?_
  refine g_aload_n 1 (gd rfl) rfl rfl ?_
  refine g_getA (q2 := 42) 4 (gd rfl) rfl rfl rfl rfl ?_
  refine g_iload_n 5 (gd rfl) rfl rfl ?_
  refine g_dup2 6 (gd rfl) rfl rfl rfl ?_
  refine g_iaload 7 (gd rfl) rfl (n := 33) rfl (in_ix h1 rfl) (fun z6 e6 => ?_)
  have i6 := (show In z6 0 159 by rw [e6]; exact g1)
  refine g_iconst 1 8 (gd rfl) rfl rfl ?_
  refine g_iadd 9 (gd rfl) rfl (fun z8 e8 => ?_)
  have i8 := in_add 1 160 e8 i6 (in_c 1 rfl) rfl rfl
  refine g_iastore 10 (gd rfl) rfl (n := 33) rfl (in_ix h1 rfl) ?_
  have hI9 := rng_sI (q := 42) (j := x1.toNatClampNeg) hI rfl (in_w 0 160 i8 rfl)
  refine g_aload_n 11 (gd rfl) rfl rfl ?_
  refine g_getA (q2 := 44) 14 (gd rfl) rfl rfl rfl rfl ?_
  refine g_iload_n 15 (gd rfl) rfl rfl ?_
  refine g_dup2 16 (gd rfl) rfl rfl rfl ?_
  refine g_iaload 17 (gd rfl) rfl (n := 33) rfl (in_ix h2 rfl) (fun z16 e16 => ?_)
  have i16 := (show In z16 0 159 by rw [e16]; exact g2)
  refine g_iconst 1 18 (gd rfl) rfl rfl ?_
  refine g_iadd 19 (gd rfl) rfl (fun z18 e18 => ?_)
  have i18 := in_add 1 160 e18 i16 (in_c 1 rfl) rfl rfl
  refine g_iastore 20 (gd rfl) rfl (n := 33) rfl (in_ix h2 rfl) ?_
  have hI19 := rng_sI (q := 44) (j := x2.toNatClampNeg) hI9 rfl (in_w 0 160 i18 rfl)
  refine g_aload_n 21 (gd rfl) rfl rfl ?_
  refine g_getA (q2 := 40) 24 (gd rfl) rfl rfl rfl rfl ?_
  refine g_iload_n 25 (gd rfl) rfl rfl ?_
  refine g_dup2 26 (gd rfl) rfl rfl rfl ?_
  refine g_iaload 27 (gd rfl) rfl (n := 32) rfl (in_ix h1 rfl) (fun z26 e26 => ?_)
  refine g_iconst 1 28 (gd rfl) rfl rfl ?_
  refine g_iload_n 29 (gd rfl) rfl rfl ?_
  refine g_ishl 30 (gd rfl) rfl (fun z29 e29 => ?_)
  refine g_ior 31 (gd rfl) rfl (fun z30 e30 => ?_)
  refine g_iastore 32 (gd rfl) rfl (n := 32) rfl (in_ix h1 rfl) ?_
  have hI31 := rng_sI (q := 40) (j := x1.toNatClampNeg) hI19 rfl (in_w (-2147483648) 2147483647 (i_rng z30) rfl)
  refine g_aload_n 33 (gd rfl) rfl rfl ?_
  refine g_getA (q2 := 41) 36 (gd rfl) rfl rfl rfl rfl ?_
  refine g_iload_n 37 (gd rfl) rfl rfl ?_
  refine g_dup2 38 (gd rfl) rfl rfl rfl ?_
  refine g_iaload 39 (gd rfl) rfl (n := 32) rfl (in_ix h2 rfl) (fun z38 e38 => ?_)
  refine g_iconst 1 40 (gd rfl) rfl rfl ?_
  refine g_iload_n 41 (gd rfl) rfl rfl ?_
  refine g_ishl 42 (gd rfl) rfl (fun z41 e41 => ?_)
  refine g_ior 43 (gd rfl) rfl (fun z42 e42 => ?_)
  refine g_iastore 44 (gd rfl) rfl (n := 32) rfl (in_ix h2 rfl) ?_
  have hI43 := rng_sI (q := 41) (j := x2.toNatClampNeg) hI31 rfl (in_w (-2147483648) 2147483647 (i_rng z42) rfl)
  refine g_iload_n 45 (gd rfl) rfl rfl ?_
  refine g_iload_n 46 (gd rfl) rfl rfl ?_
  refine g_cmp_eq 49 73 (gd rfl) rfl rfl (fun c46 => ?_) (fun c46 => ?_)
  · skip
    exact g_return (gd rfl) rfl (hP _ _ ⟨(sI (sI (sI (sI s 42 x1.toNatClampNeg z8) 44 x2.toNatClampNeg z18) 40 x1.toNatClampNeg z30) 41 x2.toNatClampNeg z42), hI43, (fr_sI rfl (fr_sI rfl (fr_sI rfl (fr_sI rfl fr_rf)))), rfl, rfl, rfl, rfl, rfl, by rw [← e6, ← e8]; rfl, by rw [← (show z16 = s.1 44 x2.toNatClampNeg from e16), ← e18]; rfl⟩)
  · skip
    refine g_aload_n 50 (gd rfl) rfl rfl ?_
    refine g_getA (q2 := 39) 53 (gd rfl) rfl rfl rfl rfl ?_
    refine g_iload_n 54 (gd rfl) rfl rfl ?_
    refine g_dup2 55 (gd rfl) rfl rfl rfl ?_
    refine g_iaload 56 (gd rfl) rfl (n := 32) rfl (in_ix h1 rfl) (fun z55 e55 => ?_)
    refine g_iconst 1 57 (gd rfl) rfl rfl ?_
    refine g_iload_n 58 (gd rfl) rfl rfl ?_
    refine g_ishl 59 (gd rfl) rfl (fun z58 e58 => ?_)
    refine g_ior 60 (gd rfl) rfl (fun z59 e59 => ?_)
    refine g_iastore 61 (gd rfl) rfl (n := 32) rfl (in_ix h1 rfl) ?_
    have hI60 := rng_sI (q := 39) (j := x1.toNatClampNeg) hI43 rfl (in_w (-2147483648) 2147483647 (i_rng z59) rfl)
    refine g_aload_n 62 (gd rfl) rfl rfl ?_
    refine g_getA (q2 := 39) 65 (gd rfl) rfl rfl rfl rfl ?_
    refine g_iload_n 66 (gd rfl) rfl rfl ?_
    refine g_dup2 67 (gd rfl) rfl rfl rfl ?_
    refine g_iaload 68 (gd rfl) rfl (n := 32) rfl (in_ix h2 rfl) (fun z67 e67 => ?_)
    refine g_iconst 1 69 (gd rfl) rfl rfl ?_
    refine g_iload_n 70 (gd rfl) rfl rfl ?_
    refine g_ishl 71 (gd rfl) rfl (fun z70 e70 => ?_)
    refine g_ior 72 (gd rfl) rfl (fun z71 e71 => ?_)
    refine g_iastore 73 (gd rfl) rfl (n := 32) rfl (in_ix h2 rfl) ?_
    have hI72 := rng_sI (q := 39) (j := x2.toNatClampNeg) hI60 rfl (in_w (-2147483648) 2147483647 (i_rng z71) rfl)
    exact g_return (gd rfl) rfl (hP _ _ ⟨(sI (sI (sI (sI (sI (sI s 42 x1.toNatClampNeg z8) 44 x2.toNatClampNeg z18) 40 x1.toNatClampNeg z30) 41 x2.toNatClampNeg z42) 39 x1.toNatClampNeg z59) 39 x2.toNatClampNeg z71), hI72, (fr_sI rfl (fr_sI rfl (fr_sI rfl (fr_sI rfl (fr_sI rfl (fr_sI rfl fr_rf)))))), rfl, rfl, rfl, rfl, rfl, by rw [← e6, ← e8]; rfl, by rw [← (show z16 = s.1 44 x2.toNatClampNeg from e16), ← e18]; rfl⟩)
def gF (f4 : Nat → Int32) (j : Nat) : Int := if j < 160 then (f4 j).toInt else -1
def gG (f4 f5 : Nat → Int32) (j : Nat) : Int := if j < 160 ∧ (f4 j).toInt ≠ -1 then (f5 j).toInt else -1
def fm_106_2 : FM := ([9, 10, 11, 12, 13, 14, 15], [], [(2, 4)], [])
theorem kk_t2 {s t : GS} (h : KK (mI s) (mF s)) (hF : Fr fm_106_2 s t) (hv : t.2.2.1 2 4 = t.2.2.1 2 0) (hT : TG (t.1 4) (t.1 14) (t.1 15)) : KK (mI t) (mF t) := by
  have hg : KG 2 (mI t) (mF t) := by
    refine ⟨?_, fun _ => ?_⟩
    · rw [mF_at rfl, mF_at rfl, hv]
      exact Int.le_refl _
    · rw [mI_at rfl, mI_at rfl, mI_at rfl]
      exact hT
  exact ⟨hg, kk_g h.2.1 hF rfl rfl rfl rfl rfl, kk_s h.2.2.1 hF rfl, kk_r h.2.2.2 hF rfl⟩
/-- GraphHouse$Graph.tie -/
theorem k_106_2 {Z : AmZ} {A : Nat → Nat} {s : GS} {ex : va_W} {d : Nat} {X : AmX} (hd : 3 ≤ d) (hI : Inv s) : GC Z d 106 [.ref (A 2)] (WW Z A s ++ ex) 0 0 (fun v u => ∃ t : GS, Inv t ∧ Fr fm_106_2 s t ∧ (t.2.2.1 2 4).toInt = (t.2.2.1 2 0).toInt ∧ v = none ∧ u = WW Z A t ++ ex) X := by
  intro post xp hP hX
  have hm1 : (Int32.ofInt (-1)).toInt = -1 := rfl
  have h01 : (Int32.ofInt 1).toInt = 1 := rfl
  have h00 : (Int32.ofInt 0).toInt = 0 := rfl
  have hz0 := inv_F hI (q := 2) (j := 3) 0 160 rfl rfl
  obtain ⟨T, hT⟩ : ∃ T : Nat, (s.2.2.1 2 3).toInt = (T : Int) := ⟨(s.2.2.1 2 3).toInt.toNat, by obtain ⟨a, b⟩ := hz0; omega⟩
  have hT2 : T ≤ 160 := by obtain ⟨a, b⟩ := hz0; omega
  have r4 : ∀ j, j < 160 → -1 ≤ (s.1 4 j).toInt ∧ (s.1 4 j).toInt ≤ 31 := fun j hj => hI.1.1 4 j hj
  have r5 : ∀ j, j < 160 → 0 ≤ (s.1 5 j).toInt ∧ (s.1 5 j).toInt ≤ 31 := fun j hj => hI.1.1 5 j hj
  have cl : ∀ y : Int32, 0 ≤ y.toInt → (y.toNatClampNeg : Int) = y.toInt := fun y hy => by
    show ((y.toInt.toNat : Nat) : Int) = y.toInt
    omega
  obtain ⟨f4, hf4⟩ : ∃ f, f = s.1 4 := ⟨_, rfl⟩
  obtain ⟨f5, hf5⟩ : ∃ f, f = s.1 5 := ⟨_, rfl⟩
  rw [← hf4] at r4
  rw [← hf5] at r5
  obtain ⟨F, hF⟩ : ∃ F, F = gF f4 := ⟨_, rfl⟩
  obtain ⟨G, hG⟩ : ∃ G, G = gG f4 f5 := ⟨_, rfl⟩
  have aF : ∀ j, j < 160 → F j = (f4 j).toInt := fun j hj => by rw [hF]; unfold gF; rw [if_pos hj]
  have aG : ∀ j, j < 160 → (f4 j).toInt ≠ -1 → G j = (f5 j).toInt := fun j hj h => by rw [hG]; unfold gG; rw [if_pos ⟨hj, h⟩]
  have bG : ∀ j, j < 160 → (f4 j).toInt = -1 → G j = -1 := fun j hj h => by rw [hG]; unfold gG; rw [if_neg (fun z => z.2 h)]
  have lF : ∀ j, F j < 32 := fun j => by
    rw [hF]
    unfold gF
    split
    · have := r4 j (by assumption)
      omega
    · omega
  have lG : ∀ j, G j < 32 := fun j => by
    rw [hG]
    unfold gG
    split
    · rename_i h
      have := r5 j h.1
      omega
    · omega
  have oF : cn F ((32 : Nat) : Int) T = 0 := cn_out F _ lF T
  have oG : cn G ((32 : Nat) : Int) T = 0 := cn_out G _ lG T
  -- the third loop
  have ct157 : ∀ (k : Nat) (t : GS) (y : Int32), Rng t → Fr fm_106_2 s t → t.2.2.1 2 4 = s.2.2.1 2 0 → t.1 4 = f4 → t.1 5 = f5 → -1 ≤ y.toInt → y.toInt < (T : Int) → (∀ u : Nat, u ≤ 32 → (t.1 12 u).toInt = pr F T u + cn F (u : Int) (y.toInt + 1).toNat ∧ (t.1 14 u).toInt = pr G T u + cn G (u : Int) (y.toInt + 1).toNat) → (∀ i : Nat, (∃ u : Nat, u < 32 ∧ (t.1 14 u).toInt ≤ (i : Int) ∧ (i : Int) < pr G T (u + 1)) → 0 ≤ (f4 (t.1 15 i).toNatClampNeg).toInt) → y.toInt + 1 < (k : Int) → GG Z (d - 1) 106 post (gx xp) (10 + k * 100) 157 (fun j => xlook j [(0, .ref (A 2)), (1, .int y)]) [] (WW Z A t ++ ex) 0 0 := by
    intro k
    induction k with
    | zero => intro t y hJ hK hV h4 h5 y0 y1 hu hN hm; omega
    | succ k ih =>
      intro t y hJ hK hV h4 h5 y0 y1 hu hN hm
      refine gg_w (M := 10 + k * 100 + 100) (by omega) ?_
      refine g_iload_n 158 (gd rfl) rfl rfl ?_
      refine g_if_lt 161 241 (gd rfl) rfl rfl (fun c => ?_) (fun c => ?_)
      · have ey : (y.toInt + 1).toNat = 0 := by omega
        rw [ey] at hu
        have hQ : ∀ u : Nat, u ≤ 32 → (t.1 14 u).toInt = pr G T u := fun u hu2 => by
          have h := (hu u hu2).2
          have h0 : cn G (u : Int) 0 = 0 := rfl
          rw [h0] at h
          omega
        have hTG : TG (t.1 4) (t.1 14) (t.1 15) := by
          refine ⟨fun v hv => ?_, fun i hi => ?_⟩
          · rw [hQ v hv, hQ 32 (Nat.le_refl 32)]
            exact pr_up G T hv
          · rw [hQ 32 (Nat.le_refl 32)] at hi
            obtain ⟨u, hu1, hu2, hu3⟩ := pr_at G T (i : Int) (Int.natCast_nonneg i) 32 hi
            rw [h4]
            exact hN i ⟨u, hu1, by rw [hQ u (by omega)]; exact hu2, hu3⟩
        have hV0 : t.2.2.1 2 0 = s.2.2.1 2 0 := hK.2.2.1 2 0 rfl
        have hin : Inv t := ⟨hJ, kk_t2 hI.2 hK (by rw [hV, hV0]) hTG⟩
        exact g_return (gd rfl) rfl (hP _ _ ⟨t, hin, hK, by rw [hV, hV0], rfl, rfl⟩)
      · have iy : In y 0 159 := ⟨c, by omega⟩
        obtain ⟨p, hp⟩ : ∃ p : Nat, y.toInt = (p : Int) := ⟨y.toInt.toNat, by omega⟩
        have hp1 : (y.toInt + 1).toNat = p + 1 := by omega
        have hpc : y.toNatClampNeg = p := by have := cl y c; omega
        have hp2 : p < 160 := by omega
        rw [hp1] at hu
        refine g_aload_n 162 (gd rfl) rfl rfl ?_
        refine g_getA (q2 := 4) 165 (gd rfl) rfl rfl rfl rfl ?_
        refine g_iload_n 166 (gd rfl) rfl rfl ?_
        refine g_iaload 167 (gd rfl) rfl (n := 160) rfl (in_ix iy rfl) (fun z1 e1 => ?_)
        rw [h4, hpc] at e1
        refine g_iconst (-1) 168 (gd rfl) rfl rfl ?_
        refine g_cmp_eq 171 235 (gd rfl) rfl rfl (fun c1 => ?_) (fun c1 => ?_)
        · have hneg : (f4 p).toInt = -1 := by rw [← e1]; exact c1
          have m1 : F p = -1 := by rw [aF p hp2]; exact hneg
          have m2 : G p = -1 := bG p hp2 hneg
          refine g_iinc 238 (gd rfl) rfl rfl (Nat.le_of_ble_eq_true rfl) (fun z e => ?_)
          refine g_goto 157 (gd rfl) rfl ?_
          have ez := t_add e iy (in_c (-1) rfl) rfl
          refine gg_w (by omega) (gg_f (gf_cons rfl (gf_cons rfl gf_nil)) (ih t z hJ hK hV h4 h5 (by omega) (by omega) (fun u hu2 => ?_) hN (by omega)))
          have e9 : (z.toInt + 1).toNat = p := by omega
          have hu3 := hu u hu2
          rw [cn_miss (by omega), cn_miss (by omega)] at hu3
          rw [e9]
          exact hu3
        · have q1 := r4 p hp2
          have iz1 : In z1 0 31 := ⟨by rw [e1]; rw [e1] at c1; omega, by rw [e1]; omega⟩
          obtain ⟨w, hw⟩ : ∃ w : Nat, z1.toInt = (w : Int) := ⟨z1.toInt.toNat, by obtain ⟨a, b⟩ := iz1; omega⟩
          have hwc : z1.toNatClampNeg = w := by have := cl z1 iz1.1; omega
          have hw31 : w ≤ 31 := by obtain ⟨a, b⟩ := iz1; omega
          have hFp : F p = (w : Int) := by rw [aF p hp2, ← e1, hw]
          have hnn : (f4 p).toInt ≠ -1 := by rw [← e1]; rw [hm1] at c1; exact c1
          have q2 := r5 p hp2
          refine g_aload_n 172 (gd rfl) rfl rfl ?_
          refine g_getA (q2 := 12) 175 (gd rfl) rfl rfl rfl rfl ?_
          refine g_aload_n 176 (gd rfl) rfl rfl ?_
          refine g_getA (q2 := 4) 179 (gd rfl) rfl rfl rfl rfl ?_
          refine g_iload_n 180 (gd rfl) rfl rfl ?_
          refine g_iaload 181 (gd rfl) rfl (n := 160) rfl (in_ix iy rfl) (fun z2 e2 => ?_)
          rw [h4, hpc] at e2
          have e2 : z1 = z2 := e1.trans e2.symm
          subst e2
          refine g_dup2 182 (gd rfl) rfl rfl rfl ?_
          refine g_iaload 183 (gd rfl) rfl (n := 33) rfl (in_ix iz1 rfl) (fun z3 e3 => ?_)
          rw [hwc] at e3
          have k3 := (hu w (by omega)).1
          rw [cn_hit hFp, ← e3] at k3
          have p1 := pr_0 F T w
          have p2 := cn_0 F (w : Int) p
          have p3 := pr_le F T (w + 1)
          have p3' : pr F T (w + 1) = pr F T w + cn F (w : Int) T := rfl
          have p4 := cn_mono F (w : Int) (show p + 1 ≤ T by omega)
          rw [cn_hit hFp] at p4
          have iz3 : In z3 1 160 := ⟨by omega, by omega⟩
          refine g_iconst 1 184 (gd rfl) rfl rfl ?_
          refine g_isub 185 (gd rfl) rfl (fun z4 e4 => ?_)
          have t4 := t_sub e4 iz3 (in_c 1 rfl) rfl
          have iz4 := in_sub 0 159 e4 iz3 (in_c 1 rfl) rfl rfl
          refine g_iastore 186 (gd rfl) rfl (n := 33) rfl (in_ix iz1 rfl) ?_
          have hJ1 := rng_sI (q := 12) (j := z1.toNatClampNeg) hJ rfl (in_w 0 160 iz4 rfl)
          refine g_aload_n 187 (gd rfl) rfl rfl ?_
          refine g_getA (q2 := 13) 190 (gd rfl) rfl rfl rfl rfl ?_
          refine g_aload_n 191 (gd rfl) rfl rfl ?_
          refine g_getA (q2 := 12) 194 (gd rfl) rfl rfl rfl rfl ?_
          refine g_aload_n 195 (gd rfl) rfl rfl ?_
          refine g_getA (q2 := 4) 198 (gd rfl) rfl rfl rfl rfl ?_
          refine g_iload_n 199 (gd rfl) rfl rfl ?_
          refine g_iaload 200 (gd rfl) rfl (n := 160) rfl (in_ix iy rfl) (fun z5 e5 => ?_)
          have e5 : z5 = t.1 4 y.toNatClampNeg := e5
          rw [h4, hpc] at e5
          have e5 : z1 = z5 := e1.trans e5.symm
          subst e5
          refine g_iaload 201 (gd rfl) rfl (n := 33) rfl (in_ix iz1 rfl) (fun z6 e6 => ?_)
          have e6 : z4 = z6 := sI_get.trans e6.symm
          subst e6
          refine g_iload_n 202 (gd rfl) rfl rfl ?_
          refine g_iastore 203 (gd rfl) rfl (n := 160) rfl (in_ix iz4 rfl) ?_
          have hJ2 := rng_sI (q := 13) (j := z4.toNatClampNeg) hJ1 rfl iy
          refine g_aload_n 204 (gd rfl) rfl rfl ?_
          refine g_getA (q2 := 14) 207 (gd rfl) rfl rfl rfl rfl ?_
          refine g_aload_n 208 (gd rfl) rfl rfl ?_
          refine g_getA (q2 := 5) 211 (gd rfl) rfl rfl rfl rfl ?_
          refine g_iload_n 212 (gd rfl) rfl rfl ?_
          refine g_iaload 213 (gd rfl) rfl (n := 160) rfl (in_ix iy rfl) (fun z7 e7 => ?_)
          have e7 : z7 = t.1 5 y.toNatClampNeg := e7
          rw [h5, hpc] at e7
          have iz7 : In z7 0 31 := ⟨by rw [e7]; omega, by rw [e7]; omega⟩
          obtain ⟨x, hx⟩ : ∃ x : Nat, z7.toInt = (x : Int) := ⟨z7.toInt.toNat, by obtain ⟨a, b⟩ := iz7; omega⟩
          have hxc : z7.toNatClampNeg = x := by have := cl z7 iz7.1; omega
          have hx31 : x ≤ 31 := by obtain ⟨a, b⟩ := iz7; omega
          have hGp : G p = (x : Int) := by rw [aG p hp2 hnn, ← e7, hx]
          refine g_dup2 214 (gd rfl) rfl rfl rfl ?_
          refine g_iaload 215 (gd rfl) rfl (n := 33) rfl (in_ix iz7 rfl) (fun z8 e8 => ?_)
          have e8 : z8 = t.1 14 z7.toNatClampNeg := e8
          rw [hxc] at e8
          have k8 := (hu x (by omega)).2
          rw [cn_hit hGp, ← e8] at k8
          have s1 := pr_0 G T x
          have s2 := cn_0 G (x : Int) p
          have s3 := pr_le G T (x + 1)
          have s3' : pr G T (x + 1) = pr G T x + cn G (x : Int) T := rfl
          have s4 := cn_mono G (x : Int) (show p + 1 ≤ T by omega)
          rw [cn_hit hGp] at s4
          have iz8 : In z8 1 160 := ⟨by omega, by omega⟩
          refine g_iconst 1 216 (gd rfl) rfl rfl ?_
          refine g_isub 217 (gd rfl) rfl (fun z9 e9 => ?_)
          have t9 := t_sub e9 iz8 (in_c 1 rfl) rfl
          have iz9 := in_sub 0 159 e9 iz8 (in_c 1 rfl) rfl rfl
          refine g_iastore 218 (gd rfl) rfl (n := 33) rfl (in_ix iz7 rfl) ?_
          have hJ3 := rng_sI (q := 14) (j := z7.toNatClampNeg) hJ2 rfl (in_w 0 160 iz9 rfl)
          refine g_aload_n 219 (gd rfl) rfl rfl ?_
          refine g_getA (q2 := 15) 222 (gd rfl) rfl rfl rfl rfl ?_
          refine g_aload_n 223 (gd rfl) rfl rfl ?_
          refine g_getA (q2 := 14) 226 (gd rfl) rfl rfl rfl rfl ?_
          refine g_aload_n 227 (gd rfl) rfl rfl ?_
          refine g_getA (q2 := 5) 230 (gd rfl) rfl rfl rfl rfl ?_
          refine g_iload_n 231 (gd rfl) rfl rfl ?_
          refine g_iaload 232 (gd rfl) rfl (n := 160) rfl (in_ix iy rfl) (fun z10 e10 => ?_)
          have e10 : z10 = t.1 5 y.toNatClampNeg := e10
          rw [h5, hpc] at e10
          have e10 : z7 = z10 := e7.trans e10.symm
          subst e10
          refine g_iaload 233 (gd rfl) rfl (n := 33) rfl (in_ix iz7 rfl) (fun z11 e11 => ?_)
          have e11 : z9 = z11 := sI_get.trans e11.symm
          subst e11
          refine g_iload_n 234 (gd rfl) rfl rfl ?_
          refine g_iastore 235 (gd rfl) rfl (n := 160) rfl (in_ix iz9 rfl) ?_
          have hJ4 := rng_sI (q := 15) (j := z9.toNatClampNeg) hJ3 rfl iy
          have hz9 : (z9.toNatClampNeg : Int) = z9.toInt := cl z9 iz9.1
          have hN2 : ∀ i : Nat, (∃ u : Nat, u < 32 ∧ (upd (t.1 14) z7.toNatClampNeg z9 u).toInt ≤ (i : Int) ∧ (i : Int) < pr G T (u + 1)) → 0 ≤ (f4 (upd (t.1 15) z9.toNatClampNeg y i).toNatClampNeg).toInt := by
            intro i ⟨u, hu1, hu2, hu3⟩
            rw [up_at]
            by_cases b : i = z9.toNatClampNeg
            · rw [if_pos b, hpc, ← e1]
              exact iz1.1
            · rw [if_neg b]
              refine hN i ⟨u, hu1, ?_, hu3⟩
              rw [hxc, up_at] at hu2
              by_cases b2 : u = x
              · rw [if_pos b2] at hu2
                rw [b2, ← e8]
                omega
              · rw [if_neg b2] at hu2
                exact hu2
          refine g_iinc 238 (gd rfl) rfl rfl (Nat.le_of_ble_eq_true rfl) (fun z e => ?_)
          refine g_goto 157 (gd rfl) rfl ?_
          have ez := t_add e iy (in_c (-1) rfl) rfl
          refine gg_w (by omega) (gg_f (gf_cons rfl (gf_cons rfl gf_nil)) (ih _ z hJ4 (fr_sI rfl (fr_sI rfl (fr_sI rfl (fr_sI rfl hK)))) hV h4 h5 (by omega) (by omega) (fun u hu2 => ?_) hN2 (by omega)))
          have e12 : (z.toInt + 1).toNat = p := by omega
          rw [e12]
          have hu3 := hu u hu2
          have g1 : (upd (t.1 12) z1.toNatClampNeg z4 u).toInt = pr F T u + cn F (u : Int) p := by
            rw [hwc, up_at]
            by_cases b : u = w
            · subst b
              rw [if_pos rfl]
              omega
            · rw [if_neg b, hu3.1, cn_miss (by rw [hFp]; omega)]
          have g2 : (upd (t.1 14) z7.toNatClampNeg z9 u).toInt = pr G T u + cn G (u : Int) p := by
            rw [hxc, up_at]
            by_cases b : u = x
            · subst b
              rw [if_pos rfl]
              omega
            · rw [if_neg b, hu3.2, cn_miss (by rw [hGp]; omega)]
          exact ⟨g1, g2⟩
  -- the second loop
  have ct104 : ∀ (k : Nat) (t : GS) (y : Int32), Rng t → Fr fm_106_2 s t → t.2.2.1 2 4 = s.2.2.1 2 0 → t.1 4 = f4 → t.1 5 = f5 → (t.2.2.1 2 3).toInt = (T : Int) → 1 ≤ y.toInt → y.toInt ≤ 33 → (∀ u : Nat, u ≤ 32 → (t.1 12 u).toInt = (if (u : Int) < y.toInt then pr F T (u + 1) else cn F (u : Int) T) ∧ (t.1 14 u).toInt = (if (u : Int) < y.toInt then pr G T (u + 1) else cn G (u : Int) T)) → 33 - y.toInt < (k : Int) → GG Z (d - 1) 106 post (gx xp) (20000 + k * 100) 104 (fun j => xlook j [(0, .ref (A 2)), (1, .int y)]) [] (WW Z A t ++ ex) 0 0 := by
    intro k
    induction k with
    | zero => intro t y hJ hK hV h4 h5 h3 y0 y1 hu hm; omega
    | succ k ih =>
      intro t y hJ hK hV h4 h5 h3 y0 y1 hu hm
      refine gg_w (M := 20000 + k * 100 + 100) (by omega) ?_
      refine g_iload_n 105 (gd rfl) rfl rfl ?_
      refine g_bipush 32 107 (gd rfl) rfl rfl ?_
      have h32 : (Int32.ofInt 32).toInt = 32 := rfl
      refine g_cmp_gt 110 150 (gd rfl) rfl rfl (fun c => ?_) (fun c => ?_)
      · refine g_aload_n 151 (gd rfl) rfl rfl ?_
        refine g_getI 154 (gd rfl) rfl rfl rfl (fun z1 e1 => ?_)
        refine g_iconst 1 155 (gd rfl) rfl rfl ?_
        refine g_isub 156 (gd rfl) rfl (fun z2 e2 => ?_)
        have iz1 : In z1 0 160 := ⟨by rw [e1]; omega, by rw [e1]; omega⟩
        have t2 := t_sub e2 iz1 (in_c 1 rfl) rfl
        rw [e1, h3] at t2
        refine g_istore_n 157 (gd rfl) rfl (Nat.le_of_ble_eq_true rfl) ?_
        have hN0 : ∀ i : Nat, (∃ u : Nat, u < 32 ∧ (t.1 14 u).toInt ≤ (i : Int) ∧ (i : Int) < pr G T (u + 1)) → 0 ≤ (f4 (t.1 15 i).toNatClampNeg).toInt := by
          intro i ⟨u, hu1, hu2, hu3⟩
          have h := (hu u (by omega)).2
          rw [if_pos (by omega)] at h
          omega
        refine gg_w (by omega) (gg_f (gf_cons rfl (gf_cons rfl gf_nil)) (ct157 162 t z2 hJ hK hV h4 h5 (by omega) (by omega) (fun u hu2 => ?_) hN0 (by omega)))
        have e9 : (z2.toInt + 1).toNat = T := by omega
        have hu3 := hu u hu2
        rw [if_pos (by omega), if_pos (by omega)] at hu3
        rw [e9]
        exact hu3
      · obtain ⟨p, hp⟩ : ∃ p : Nat, y.toInt = ((p + 1 : Nat) : Int) := ⟨(y.toInt - 1).toNat, by omega⟩
        have hpc : y.toNatClampNeg = p + 1 := by have := cl y (by omega); omega
        have iy : In y 1 32 := ⟨y0, by omega⟩
        have ku := hu (p + 1) (by omega)
        have kv := hu p (by omega)
        rw [if_neg (by omega), if_neg (by omega)] at ku
        rw [if_pos (by omega), if_pos (by omega)] at kv
        have a1 := cn_0 F ((p + 1 : Nat) : Int) T
        have a2 := pr_0 F T (p + 1)
        have a3 := pr_le F T (p + 1 + 1)
        have a4 : pr F T (p + 1 + 1) = pr F T (p + 1) + cn F ((p + 1 : Nat) : Int) T := rfl
        have b1 := cn_0 G ((p + 1 : Nat) : Int) T
        have b2 := pr_0 G T (p + 1)
        have b3 := pr_le G T (p + 1 + 1)
        have b4 : pr G T (p + 1 + 1) = pr G T (p + 1) + cn G ((p + 1 : Nat) : Int) T := rfl
        refine g_aload_n 111 (gd rfl) rfl rfl ?_
        refine g_getA (q2 := 12) 114 (gd rfl) rfl rfl rfl rfl ?_
        refine g_iload_n 115 (gd rfl) rfl rfl ?_
        refine g_dup2 116 (gd rfl) rfl rfl rfl ?_
        refine g_iaload 117 (gd rfl) rfl (n := 33) rfl (in_ix iy rfl) (fun z1 e1 => ?_)
        rw [hpc] at e1
        refine g_aload_n 118 (gd rfl) rfl rfl ?_
        refine g_getA (q2 := 12) 121 (gd rfl) rfl rfl rfl rfl ?_
        refine g_iload_n 122 (gd rfl) rfl rfl ?_
        refine g_iconst 1 123 (gd rfl) rfl rfl ?_
        refine g_isub 124 (gd rfl) rfl (fun z2 e2 => ?_)
        have t2 := t_sub e2 iy (in_c 1 rfl) rfl
        have iz2 := in_sub 0 31 e2 iy (in_c 1 rfl) rfl rfl
        have hzc : z2.toNatClampNeg = p := by have := cl z2 iz2.1; omega
        refine g_iaload 125 (gd rfl) rfl (n := 33) rfl (in_ix iz2 rfl) (fun z3 e3 => ?_)
        rw [hzc] at e3
        rw [← e1] at ku
        rw [← e3] at kv
        have iz1 : In z1 0 160 := ⟨by omega, by omega⟩
        have iz3 : In z3 0 160 := ⟨by omega, by omega⟩
        refine g_iadd 126 (gd rfl) rfl (fun z4 e4 => ?_)
        have t4 := t_add e4 iz1 iz3 rfl
        have iz4 : In z4 0 160 := ⟨by omega, by omega⟩
        refine g_iastore 127 (gd rfl) rfl (n := 33) rfl (in_ix iy rfl) ?_
        have hJ1 := rng_sI (q := 12) (j := y.toNatClampNeg) hJ rfl iz4
        refine g_aload_n 128 (gd rfl) rfl rfl ?_
        refine g_getA (q2 := 14) 131 (gd rfl) rfl rfl rfl rfl ?_
        refine g_iload_n 132 (gd rfl) rfl rfl ?_
        refine g_dup2 133 (gd rfl) rfl rfl rfl ?_
        refine g_iaload 134 (gd rfl) rfl (n := 33) rfl (in_ix iy rfl) (fun z5 e5 => ?_)
        have e5 : z5 = t.1 14 y.toNatClampNeg := e5
        rw [hpc] at e5
        refine g_aload_n 135 (gd rfl) rfl rfl ?_
        refine g_getA (q2 := 14) 138 (gd rfl) rfl rfl rfl rfl ?_
        refine g_iload_n 139 (gd rfl) rfl rfl ?_
        refine g_iconst 1 140 (gd rfl) rfl rfl ?_
        refine g_isub 141 (gd rfl) rfl (fun z6 e6 => ?_)
        have t6 := t_sub e6 iy (in_c 1 rfl) rfl
        have iz6 := in_sub 0 31 e6 iy (in_c 1 rfl) rfl rfl
        have hzc6 : z6.toNatClampNeg = p := by have := cl z6 iz6.1; omega
        refine g_iaload 142 (gd rfl) rfl (n := 33) rfl (in_ix iz6 rfl) (fun z7 e7 => ?_)
        have e7 : z7 = t.1 14 z6.toNatClampNeg := e7
        rw [hzc6] at e7
        rw [← e5] at ku
        rw [← e7] at kv
        have iz5 : In z5 0 160 := ⟨by omega, by omega⟩
        have iz7 : In z7 0 160 := ⟨by omega, by omega⟩
        refine g_iadd 143 (gd rfl) rfl (fun z8 e8 => ?_)
        have t8 := t_add e8 iz5 iz7 rfl
        have iz8 : In z8 0 160 := ⟨by omega, by omega⟩
        refine g_iastore 144 (gd rfl) rfl (n := 33) rfl (in_ix iy rfl) ?_
        have hJ2 := rng_sI (q := 14) (j := y.toNatClampNeg) hJ1 rfl iz8
        refine g_iinc 147 (gd rfl) rfl rfl (Nat.le_of_ble_eq_true rfl) (fun z e => ?_)
        refine g_goto 104 (gd rfl) rfl ?_
        have ez := t_add e iy (in_c 1 rfl) rfl
        refine gg_w (by omega) (gg_f (gf_cons rfl (gf_cons rfl gf_nil)) (ih _ z hJ2 (fr_sI rfl (fr_sI rfl hK)) hV h4 h5 h3 (by omega) (by omega) (fun u hu2 => ?_) (by omega)))
        have hu3 := hu u hu2
        have g1 : (upd (t.1 12) y.toNatClampNeg z4 u).toInt = (if (u : Int) < z.toInt then pr F T (u + 1) else cn F (u : Int) T) := by
          rw [hpc, up_at]
          by_cases b : u = p + 1
          · subst b
            rw [if_pos rfl, if_pos (by omega)]
            omega
          · rw [if_neg b, hu3.1]
            by_cases b2 : (u : Int) < y.toInt
            · rw [if_pos b2, if_pos (by omega)]
            · rw [if_neg b2, if_neg (by omega)]
        have g2 : (upd (t.1 14) y.toNatClampNeg z8 u).toInt = (if (u : Int) < z.toInt then pr G T (u + 1) else cn G (u : Int) T) := by
          rw [hpc, up_at]
          by_cases b : u = p + 1
          · subst b
            rw [if_pos rfl, if_pos (by omega)]
            omega
          · rw [if_neg b, hu3.2]
            by_cases b2 : (u : Int) < y.toInt
            · rw [if_pos b2, if_pos (by omega)]
            · rw [if_neg b2, if_neg (by omega)]
        exact ⟨g1, g2⟩
  -- the first loop
  have ct62 : ∀ (k : Nat) (t : GS) (y : Int32), Rng t → Fr fm_106_2 s t → t.2.2.1 2 4 = s.2.2.1 2 0 → t.1 4 = f4 → t.1 5 = f5 → (t.2.2.1 2 3).toInt = (T : Int) → 0 ≤ y.toInt → y.toInt ≤ (T : Int) → (∀ u : Nat, u ≤ 32 → (t.1 12 u).toInt = cn F (u : Int) y.toInt.toNat ∧ (t.1 14 u).toInt = cn G (u : Int) y.toInt.toNat) → (T : Int) - y.toInt < (k : Int) → GG Z (d - 1) 106 post (gx xp) (30000 + k * 100) 62 (fun j => xlook j [(0, .ref (A 2)), (1, .int y)]) [] (WW Z A t ++ ex) 0 0 := by
    intro k
    induction k with
    | zero => intro t y hJ hK hV h4 h5 h3 y0 y1 hu hm; omega
    | succ k ih =>
      intro t y hJ hK hV h4 h5 h3 y0 y1 hu hm
      refine gg_w (M := 30000 + k * 100 + 100) (by omega) ?_
      refine g_iload_n 63 (gd rfl) rfl rfl ?_
      refine g_aload_n 64 (gd rfl) rfl rfl ?_
      refine g_getI 67 (gd rfl) rfl rfl rfl (fun z0 e0 => ?_)
      rw [← e0] at h3
      refine g_cmp_ge 70 102 (gd rfl) rfl rfl (fun c => ?_) (fun c => ?_)
      · have ey : y.toInt.toNat = T := by omega
        rw [ey] at hu
        refine g_iconst 1 103 (gd rfl) rfl rfl ?_
        refine g_istore_n 104 (gd rfl) rfl (Nat.le_of_ble_eq_true rfl) ?_
        refine gg_w (by omega) (gg_f (gf_cons rfl (gf_cons rfl gf_nil)) (ct104 33 t (Int32.ofInt 1) hJ hK hV h4 h5 (by rw [← e0]; exact h3) (by omega) (by omega) (fun u hu2 => ?_) (by omega)))
        have hu3 := hu u hu2
        rw [h01]
        by_cases b : (u : Int) < 1
        · have b0 : u = 0 := by omega
          subst b0
          rw [if_pos b, if_pos b]
          have d1 : pr F T (0 + 1) = 0 + cn F ((0 : Nat) : Int) T := rfl
          have d2 : pr G T (0 + 1) = 0 + cn G ((0 : Nat) : Int) T := rfl
          rw [d1, d2]
          exact ⟨by omega, by omega⟩
        · rw [if_neg b, if_neg b]
          exact hu3
      · have iy : In y 0 159 := ⟨y0, by omega⟩
        obtain ⟨p, hp⟩ : ∃ p : Nat, y.toInt = (p : Int) := ⟨y.toInt.toNat, by omega⟩
        have hp1 : y.toInt.toNat = p := by omega
        have hpc : y.toNatClampNeg = p := by have := cl y y0; omega
        have hp2 : p < 160 := by omega
        rw [hp1] at hu
        refine g_aload_n 71 (gd rfl) rfl rfl ?_
        refine g_getA (q2 := 4) 74 (gd rfl) rfl rfl rfl rfl ?_
        refine g_iload_n 75 (gd rfl) rfl rfl ?_
        refine g_iaload 76 (gd rfl) rfl (n := 160) rfl (in_ix iy rfl) (fun z1 e1 => ?_)
        rw [h4, hpc] at e1
        refine g_iconst (-1) 77 (gd rfl) rfl rfl ?_
        refine g_cmp_eq 80 96 (gd rfl) rfl rfl (fun c1 => ?_) (fun c1 => ?_)
        · have hneg : (f4 p).toInt = -1 := by rw [← e1]; exact c1
          have m1 : F p = -1 := by rw [aF p hp2]; exact hneg
          have m2 : G p = -1 := bG p hp2 hneg
          refine g_iinc 99 (gd rfl) rfl rfl (Nat.le_of_ble_eq_true rfl) (fun z e => ?_)
          refine g_goto 62 (gd rfl) rfl ?_
          have ez := t_add e iy (in_c 1 rfl) rfl
          refine gg_w (by omega) (gg_f (gf_cons rfl (gf_cons rfl gf_nil)) (ih t z hJ hK hV h4 h5 (by rw [← e0]; exact h3) (by omega) (by omega) (fun u hu2 => ?_) (by omega)))
          have e9 : z.toInt.toNat = p + 1 := by omega
          have hu3 := hu u hu2
          rw [e9, cn_miss (by omega), cn_miss (by omega)]
          exact hu3
        · have q1 := r4 p hp2
          have q2 := r5 p hp2
          have iz1 : In z1 0 31 := ⟨by rw [e1]; rw [e1] at c1; omega, by rw [e1]; omega⟩
          obtain ⟨w, hw⟩ : ∃ w : Nat, z1.toInt = (w : Int) := ⟨z1.toInt.toNat, by obtain ⟨a, b⟩ := iz1; omega⟩
          have hwc : z1.toNatClampNeg = w := by have := cl z1 iz1.1; omega
          have hw31 : w ≤ 31 := by obtain ⟨a, b⟩ := iz1; omega
          have hFp : F p = (w : Int) := by rw [aF p hp2, ← e1, hw]
          have hnn : (f4 p).toInt ≠ -1 := by rw [← e1]; rw [hm1] at c1; exact c1
          refine g_aload_n 81 (gd rfl) rfl rfl ?_
          refine g_aload_n 82 (gd rfl) rfl rfl ?_
          refine g_getA (q2 := 4) 85 (gd rfl) rfl rfl rfl rfl ?_
          refine g_iload_n 86 (gd rfl) rfl rfl ?_
          refine g_iaload 87 (gd rfl) rfl (n := 160) rfl (in_ix iy rfl) (fun z2 e2 => ?_)
          rw [h4, hpc] at e2
          have e2 : z1 = z2 := e1.trans e2.symm
          subst e2
          refine g_aload_n 88 (gd rfl) rfl rfl ?_
          refine g_getA (q2 := 5) 91 (gd rfl) rfl rfl rfl rfl ?_
          refine g_iload_n 92 (gd rfl) rfl rfl ?_
          refine g_iaload 93 (gd rfl) rfl (n := 160) rfl (in_ix iy rfl) (fun z3 e3 => ?_)
          rw [h5, hpc] at e3
          have iz3 : In z3 0 31 := ⟨by rw [e3]; omega, by rw [e3]; omega⟩
          obtain ⟨x, hx⟩ : ∃ x : Nat, z3.toInt = (x : Int) := ⟨z3.toInt.toNat, by obtain ⟨a, b⟩ := iz3; omega⟩
          have hxc : z3.toNatClampNeg = x := by have := cl z3 iz3.1; omega
          have hx31 : x ≤ 31 := by obtain ⟨a, b⟩ := iz3; omega
          have hGp : G p = (x : Int) := by rw [aG p hp2 hnn, ← e3, hx]
          have a1 := (hu w (by omega)).1
          have a2 := cn_le F (w : Int) p
          have a3 := cn_0 F (w : Int) p
          have b1 := (hu x (by omega)).2
          have b2 := cn_le G (x : Int) p
          have b3 := cn_0 G (x : Int) p
          refine g_callv (X := _) (As := [.int z1, .int z3]) (r := []) (b := A 2) (q := 2) 96 (gd rfl) rfl rfl rfl rfl rfl (ww_o rfl) (Nat.le_of_ble_eq_true rfl) (Nat.zero_le _) (Nat.zero_le _) (x_107_2 (by omega) hJ iz1 iz3 (by rw [hwc]; exact ⟨by omega, by omega⟩) (by rw [hxc]; exact ⟨by omega, by omega⟩)) (fun e u h => h) (fun v u h => ?_)
          obtain ⟨t2, hJ2, uF, rfl, rfl, u4, u5, u3, uo, ui⟩ := h
          show GG _ _ _ _ _ _ _ _ [] _ _ _
          refine g_iinc 99 (gd rfl) rfl rfl (Nat.le_of_ble_eq_true rfl) (fun z e => ?_)
          refine g_goto 62 (gd rfl) rfl ?_
          have ez := t_add e iy (in_c 1 rfl) rfl
          refine gg_w (by omega) (gg_f (gf_cons rfl (gf_cons rfl gf_nil)) (ih t2 z hJ2 (fr_tr rfl hK uF) (by rw [u3]; exact hV) (by rw [u4, h4]) (by rw [u5, h5]) (by rw [u3, ← e0]; exact h3) (by omega) (by omega) (fun u hu2 => ?_) (by omega)))
          have e9 : z.toInt.toNat = p + 1 := by omega
          have hu3 := hu u hu2
          rw [e9, uo, ui, hwc, hxc, up_at, up_at]
          have tw : (t.1 12 w + Int32.ofInt 1).toInt = (t.1 12 w).toInt + 1 := by
            have := t_add (x := t.1 12 w) (y := Int32.ofInt 1) rfl (a := 0) (b := 159) ⟨by omega, by omega⟩ (in_c 1 rfl) rfl
            rw [this, h01]
          have tx : (t.1 14 x + Int32.ofInt 1).toInt = (t.1 14 x).toInt + 1 := by
            have := t_add (x := t.1 14 x) (y := Int32.ofInt 1) rfl (a := 0) (b := 159) ⟨by omega, by omega⟩ (in_c 1 rfl) rfl
            rw [this, h01]
          constructor
          · by_cases b : u = w
            · subst b
              rw [if_pos rfl, tw, cn_hit hFp]
              omega
            · rw [if_neg b, hu3.1, cn_miss (by rw [hFp]; omega)]
          · by_cases b : u = x
            · subst b
              rw [if_pos rfl, tx, cn_hit hGp]
              omega
            · rw [if_neg b, hu3.2, cn_miss (by rw [hGp]; omega)]
  refine g_enter2 (k := 106) (N := 60000) (by omega) rfl (Nat.le_of_ble_eq_true rfl) ?_
  refine g_aload_n 1 (gd rfl) rfl rfl ?_
  refine g_getI 4 (gd rfl) rfl rfl rfl (fun z1 e1 => ?_)
  refine g_aload_n 5 (gd rfl) rfl rfl ?_
  refine g_getI 8 (gd rfl) rfl rfl rfl (fun z2 e2 => ?_)
  have i2 := inv_F hI 0 4000 rfl e2
  refine g_cmp_ne 11 12 (gd rfl) rfl rfl (fun c => ?_) (fun c => ?_)
  · refine g_aload_n 13 (gd rfl) rfl rfl ?_
    refine g_aload_n 14 (gd rfl) rfl rfl ?_
    refine g_getI 17 (gd rfl) rfl rfl rfl (fun z3 e3 => ?_)
    have i3 := inv_F hI 0 4000 rfl e3
    refine g_putI 20 (gd rfl) rfl rfl rfl rfl ?_
    have hI1 := rng_sF (q := 2) (j := 4) hI.1 rfl (in_w (-1) 4000 i3 rfl)
    refine g_aload_n 21 (gd rfl) rfl rfl ?_
    refine g_getA (q2 := 9) 24 (gd rfl) rfl rfl rfl rfl ?_
    refine g_iconst 0 25 (gd rfl) rfl rfl ?_
    refine g_calls (As := [.ref (A 9), .int (Int32.ofInt 0)]) (r := []) 28 (gd rfl) rfl rfl rfl rfl rfl (Nat.le_of_ble_eq_true rfl) (Nat.zero_le _) (Nat.zero_le _) (x_417 (q := 9) (n := 32) (by omega) rfl (by decide)) (fun v u h => ?_)
    obtain ⟨g1, rfl, rfl, hg1⟩ := h
    show GG _ _ _ _ _ _ _ _ [] _ _ _
    have hI2 := rng_sA (q := 9) (g := g1) hI1 (fun i hi => by rw [hg1 i hi]; exact (in_w (-2147483648) 2147483647 (in_c 0 rfl) rfl : In (Int32.ofInt 0) (-2147483648) 2147483647))
    refine g_aload_n 29 (gd rfl) rfl rfl ?_
    refine g_getA (q2 := 10) 32 (gd rfl) rfl rfl rfl rfl ?_
    refine g_iconst 0 33 (gd rfl) rfl rfl ?_
    refine g_calls (As := [.ref (A 10), .int (Int32.ofInt 0)]) (r := []) 36 (gd rfl) rfl rfl rfl rfl rfl (Nat.le_of_ble_eq_true rfl) (Nat.zero_le _) (Nat.zero_le _) (x_417 (q := 10) (n := 32) (by omega) rfl (by decide)) (fun v u h => ?_)
    obtain ⟨g2, rfl, rfl, hg2⟩ := h
    show GG _ _ _ _ _ _ _ _ [] _ _ _
    have hI3 := rng_sA (q := 10) (g := g2) hI2 (fun i hi => by rw [hg2 i hi]; exact (in_w (-2147483648) 2147483647 (in_c 0 rfl) rfl : In (Int32.ofInt 0) (-2147483648) 2147483647))
    refine g_aload_n 37 (gd rfl) rfl rfl ?_
    refine g_getA (q2 := 11) 40 (gd rfl) rfl rfl rfl rfl ?_
    refine g_iconst 0 41 (gd rfl) rfl rfl ?_
    refine g_calls (As := [.ref (A 11), .int (Int32.ofInt 0)]) (r := []) 44 (gd rfl) rfl rfl rfl rfl rfl (Nat.le_of_ble_eq_true rfl) (Nat.zero_le _) (Nat.zero_le _) (x_417 (q := 11) (n := 32) (by omega) rfl (by decide)) (fun v u h => ?_)
    obtain ⟨g3, rfl, rfl, hg3⟩ := h
    show GG _ _ _ _ _ _ _ _ [] _ _ _
    have hI4 := rng_sA (q := 11) (g := g3) hI3 (fun i hi => by rw [hg3 i hi]; exact (in_w (-2147483648) 2147483647 (in_c 0 rfl) rfl : In (Int32.ofInt 0) (-2147483648) 2147483647))
    refine g_aload_n 45 (gd rfl) rfl rfl ?_
    refine g_getA (q2 := 12) 48 (gd rfl) rfl rfl rfl rfl ?_
    refine g_iconst 0 49 (gd rfl) rfl rfl ?_
    refine g_calls (As := [.ref (A 12), .int (Int32.ofInt 0)]) (r := []) 52 (gd rfl) rfl rfl rfl rfl rfl (Nat.le_of_ble_eq_true rfl) (Nat.zero_le _) (Nat.zero_le _) (x_417 (q := 12) (n := 33) (by omega) rfl (by decide)) (fun v u h => ?_)
    obtain ⟨g4, rfl, rfl, hg4⟩ := h
    show GG _ _ _ _ _ _ _ _ [] _ _ _
    have hI5 := rng_sA (q := 12) (g := g4) hI4 (fun i hi => by rw [hg4 i hi]; exact (in_w 0 160 (in_c 0 rfl) rfl : In (Int32.ofInt 0) 0 160))
    refine g_aload_n 53 (gd rfl) rfl rfl ?_
    refine g_getA (q2 := 14) 56 (gd rfl) rfl rfl rfl rfl ?_
    refine g_iconst 0 57 (gd rfl) rfl rfl ?_
    refine g_calls (As := [.ref (A 14), .int (Int32.ofInt 0)]) (r := []) 60 (gd rfl) rfl rfl rfl rfl rfl (Nat.le_of_ble_eq_true rfl) (Nat.zero_le _) (Nat.zero_le _) (x_417 (q := 14) (n := 33) (by omega) rfl (by decide)) (fun v u h => ?_)
    obtain ⟨g5, rfl, rfl, hg5⟩ := h
    show GG _ _ _ _ _ _ _ _ [] _ _ _
    have hI6 := rng_sA (q := 14) (g := g5) hI5 (fun i hi => by rw [hg5 i hi]; exact (in_w 0 160 (in_c 0 rfl) rfl : In (Int32.ofInt 0) 0 160))
    have fz : ∀ (g : Nat → Int32), (∀ j, j < 33 → g j = Int32.ofInt 0) → ∀ u : Nat, u ≤ 32 → (g u).toInt = 0 := fun g hg u hu => by rw [hg u (by omega)]; rfl
    refine g_iconst 0 61 (gd rfl) rfl rfl ?_
    refine g_istore_n 62 (gd rfl) rfl (Nat.le_of_ble_eq_true rfl) ?_
    refine gg_w (by omega) (gg_f (gf_cons rfl (gf_cons rfl gf_nil)) (ct62 161 _ (Int32.ofInt 0) hI6 (fr_sA rfl (fr_sA rfl (fr_sA rfl (fr_sA rfl (fr_sA rfl (fr_sF rfl fr_rf)))))) ((sF_get (s := s) (q := 2) (j := 4) (x := z3)).symm.trans e3) hf4.symm hf5.symm hT (by omega) (by omega) (fun u hu2 => ?_) (by omega)))
    have o1 : (g4 u).toInt = cn F (u : Int) (Int32.ofInt 0).toInt.toNat := fz g4 hg4 u hu2
    have o2 : (g5 u).toInt = cn G (u : Int) (Int32.ofInt 0).toInt.toNat := fz g5 hg5 u hu2
    exact ⟨o1, o2⟩
  · exact g_return (gd rfl) rfl (hP _ _ ⟨s, hI, fr_rf, by rw [← e1, ← e2]; exact c, rfl, rfl⟩)
def fm_106_32 : FM := ([39, 40, 41, 42, 43, 44, 45], [], [(32, 4)], [])
theorem kk_t32 {s t : GS} (h : KK (mI s) (mF s)) (hF : Fr fm_106_32 s t) (hv : t.2.2.1 32 4 = t.2.2.1 32 0) (hT : TG (t.1 34) (t.1 44) (t.1 45)) : KK (mI t) (mF t) := by
  have hg : KG 32 (mI t) (mF t) := by
    refine ⟨?_, fun _ => ?_⟩
    · rw [mF_at rfl, mF_at rfl, hv]
      exact Int.le_refl _
    · rw [mI_at rfl, mI_at rfl, mI_at rfl]
      exact hT
  exact ⟨kk_g h.1 hF rfl rfl rfl rfl rfl, hg, kk_s h.2.2.1 hF rfl, kk_r h.2.2.2 hF rfl⟩
/-- GraphHouse$Graph.tie -/
theorem k_106_32 {Z : AmZ} {A : Nat → Nat} {s : GS} {ex : va_W} {d : Nat} {X : AmX} (hd : 3 ≤ d) (hI : Inv s) : GC Z d 106 [.ref (A 32)] (WW Z A s ++ ex) 0 0 (fun v u => ∃ t : GS, Inv t ∧ Fr fm_106_32 s t ∧ (t.2.2.1 32 4).toInt = (t.2.2.1 32 0).toInt ∧ v = none ∧ u = WW Z A t ++ ex) X := by
  intro post xp hP hX
  have hm1 : (Int32.ofInt (-1)).toInt = -1 := rfl
  have h01 : (Int32.ofInt 1).toInt = 1 := rfl
  have h00 : (Int32.ofInt 0).toInt = 0 := rfl
  have hz0 := inv_F hI (q := 32) (j := 3) 0 160 rfl rfl
  obtain ⟨T, hT⟩ : ∃ T : Nat, (s.2.2.1 32 3).toInt = (T : Int) := ⟨(s.2.2.1 32 3).toInt.toNat, by obtain ⟨a, b⟩ := hz0; omega⟩
  have hT2 : T ≤ 160 := by obtain ⟨a, b⟩ := hz0; omega
  have r4 : ∀ j, j < 160 → -1 ≤ (s.1 34 j).toInt ∧ (s.1 34 j).toInt ≤ 31 := fun j hj => hI.1.1 34 j hj
  have r5 : ∀ j, j < 160 → 0 ≤ (s.1 35 j).toInt ∧ (s.1 35 j).toInt ≤ 31 := fun j hj => hI.1.1 35 j hj
  have cl : ∀ y : Int32, 0 ≤ y.toInt → (y.toNatClampNeg : Int) = y.toInt := fun y hy => by
    show ((y.toInt.toNat : Nat) : Int) = y.toInt
    omega
  obtain ⟨f4, hf4⟩ : ∃ f, f = s.1 34 := ⟨_, rfl⟩
  obtain ⟨f5, hf5⟩ : ∃ f, f = s.1 35 := ⟨_, rfl⟩
  rw [← hf4] at r4
  rw [← hf5] at r5
  obtain ⟨F, hF⟩ : ∃ F, F = gF f4 := ⟨_, rfl⟩
  obtain ⟨G, hG⟩ : ∃ G, G = gG f4 f5 := ⟨_, rfl⟩
  have aF : ∀ j, j < 160 → F j = (f4 j).toInt := fun j hj => by rw [hF]; unfold gF; rw [if_pos hj]
  have aG : ∀ j, j < 160 → (f4 j).toInt ≠ -1 → G j = (f5 j).toInt := fun j hj h => by rw [hG]; unfold gG; rw [if_pos ⟨hj, h⟩]
  have bG : ∀ j, j < 160 → (f4 j).toInt = -1 → G j = -1 := fun j hj h => by rw [hG]; unfold gG; rw [if_neg (fun z => z.2 h)]
  have lF : ∀ j, F j < 32 := fun j => by
    rw [hF]
    unfold gF
    split
    · have := r4 j (by assumption)
      omega
    · omega
  have lG : ∀ j, G j < 32 := fun j => by
    rw [hG]
    unfold gG
    split
    · rename_i h
      have := r5 j h.1
      omega
    · omega
  have oF : cn F ((32 : Nat) : Int) T = 0 := cn_out F _ lF T
  have oG : cn G ((32 : Nat) : Int) T = 0 := cn_out G _ lG T
  -- the third loop
  have ct157 : ∀ (k : Nat) (t : GS) (y : Int32), Rng t → Fr fm_106_32 s t → t.2.2.1 32 4 = s.2.2.1 32 0 → t.1 34 = f4 → t.1 35 = f5 → -1 ≤ y.toInt → y.toInt < (T : Int) → (∀ u : Nat, u ≤ 32 → (t.1 42 u).toInt = pr F T u + cn F (u : Int) (y.toInt + 1).toNat ∧ (t.1 44 u).toInt = pr G T u + cn G (u : Int) (y.toInt + 1).toNat) → (∀ i : Nat, (∃ u : Nat, u < 32 ∧ (t.1 44 u).toInt ≤ (i : Int) ∧ (i : Int) < pr G T (u + 1)) → 0 ≤ (f4 (t.1 45 i).toNatClampNeg).toInt) → y.toInt + 1 < (k : Int) → GG Z (d - 1) 106 post (gx xp) (10 + k * 100) 157 (fun j => xlook j [(0, .ref (A 32)), (1, .int y)]) [] (WW Z A t ++ ex) 0 0 := by
    intro k
    induction k with
    | zero => intro t y hJ hK hV h4 h5 y0 y1 hu hN hm; omega
    | succ k ih =>
      intro t y hJ hK hV h4 h5 y0 y1 hu hN hm
      refine gg_w (M := 10 + k * 100 + 100) (by omega) ?_
      refine g_iload_n 158 (gd rfl) rfl rfl ?_
      refine g_if_lt 161 241 (gd rfl) rfl rfl (fun c => ?_) (fun c => ?_)
      · have ey : (y.toInt + 1).toNat = 0 := by omega
        rw [ey] at hu
        have hQ : ∀ u : Nat, u ≤ 32 → (t.1 44 u).toInt = pr G T u := fun u hu2 => by
          have h := (hu u hu2).2
          have h0 : cn G (u : Int) 0 = 0 := rfl
          rw [h0] at h
          omega
        have hTG : TG (t.1 34) (t.1 44) (t.1 45) := by
          refine ⟨fun v hv => ?_, fun i hi => ?_⟩
          · rw [hQ v hv, hQ 32 (Nat.le_refl 32)]
            exact pr_up G T hv
          · rw [hQ 32 (Nat.le_refl 32)] at hi
            obtain ⟨u, hu1, hu2, hu3⟩ := pr_at G T (i : Int) (Int.natCast_nonneg i) 32 hi
            rw [h4]
            exact hN i ⟨u, hu1, by rw [hQ u (by omega)]; exact hu2, hu3⟩
        have hV0 : t.2.2.1 32 0 = s.2.2.1 32 0 := hK.2.2.1 32 0 rfl
        have hin : Inv t := ⟨hJ, kk_t32 hI.2 hK (by rw [hV, hV0]) hTG⟩
        exact g_return (gd rfl) rfl (hP _ _ ⟨t, hin, hK, by rw [hV, hV0], rfl, rfl⟩)
      · have iy : In y 0 159 := ⟨c, by omega⟩
        obtain ⟨p, hp⟩ : ∃ p : Nat, y.toInt = (p : Int) := ⟨y.toInt.toNat, by omega⟩
        have hp1 : (y.toInt + 1).toNat = p + 1 := by omega
        have hpc : y.toNatClampNeg = p := by have := cl y c; omega
        have hp2 : p < 160 := by omega
        rw [hp1] at hu
        refine g_aload_n 162 (gd rfl) rfl rfl ?_
        refine g_getA (q2 := 34) 165 (gd rfl) rfl rfl rfl rfl ?_
        refine g_iload_n 166 (gd rfl) rfl rfl ?_
        refine g_iaload 167 (gd rfl) rfl (n := 160) rfl (in_ix iy rfl) (fun z1 e1 => ?_)
        rw [h4, hpc] at e1
        refine g_iconst (-1) 168 (gd rfl) rfl rfl ?_
        refine g_cmp_eq 171 235 (gd rfl) rfl rfl (fun c1 => ?_) (fun c1 => ?_)
        · have hneg : (f4 p).toInt = -1 := by rw [← e1]; exact c1
          have m1 : F p = -1 := by rw [aF p hp2]; exact hneg
          have m2 : G p = -1 := bG p hp2 hneg
          refine g_iinc 238 (gd rfl) rfl rfl (Nat.le_of_ble_eq_true rfl) (fun z e => ?_)
          refine g_goto 157 (gd rfl) rfl ?_
          have ez := t_add e iy (in_c (-1) rfl) rfl
          refine gg_w (by omega) (gg_f (gf_cons rfl (gf_cons rfl gf_nil)) (ih t z hJ hK hV h4 h5 (by omega) (by omega) (fun u hu2 => ?_) hN (by omega)))
          have e9 : (z.toInt + 1).toNat = p := by omega
          have hu3 := hu u hu2
          rw [cn_miss (by omega), cn_miss (by omega)] at hu3
          rw [e9]
          exact hu3
        · have q1 := r4 p hp2
          have iz1 : In z1 0 31 := ⟨by rw [e1]; rw [e1] at c1; omega, by rw [e1]; omega⟩
          obtain ⟨w, hw⟩ : ∃ w : Nat, z1.toInt = (w : Int) := ⟨z1.toInt.toNat, by obtain ⟨a, b⟩ := iz1; omega⟩
          have hwc : z1.toNatClampNeg = w := by have := cl z1 iz1.1; omega
          have hw31 : w ≤ 31 := by obtain ⟨a, b⟩ := iz1; omega
          have hFp : F p = (w : Int) := by rw [aF p hp2, ← e1, hw]
          have hnn : (f4 p).toInt ≠ -1 := by rw [← e1]; rw [hm1] at c1; exact c1
          have q2 := r5 p hp2
          refine g_aload_n 172 (gd rfl) rfl rfl ?_
          refine g_getA (q2 := 42) 175 (gd rfl) rfl rfl rfl rfl ?_
          refine g_aload_n 176 (gd rfl) rfl rfl ?_
          refine g_getA (q2 := 34) 179 (gd rfl) rfl rfl rfl rfl ?_
          refine g_iload_n 180 (gd rfl) rfl rfl ?_
          refine g_iaload 181 (gd rfl) rfl (n := 160) rfl (in_ix iy rfl) (fun z2 e2 => ?_)
          rw [h4, hpc] at e2
          have e2 : z1 = z2 := e1.trans e2.symm
          subst e2
          refine g_dup2 182 (gd rfl) rfl rfl rfl ?_
          refine g_iaload 183 (gd rfl) rfl (n := 33) rfl (in_ix iz1 rfl) (fun z3 e3 => ?_)
          rw [hwc] at e3
          have k3 := (hu w (by omega)).1
          rw [cn_hit hFp, ← e3] at k3
          have p1 := pr_0 F T w
          have p2 := cn_0 F (w : Int) p
          have p3 := pr_le F T (w + 1)
          have p3' : pr F T (w + 1) = pr F T w + cn F (w : Int) T := rfl
          have p4 := cn_mono F (w : Int) (show p + 1 ≤ T by omega)
          rw [cn_hit hFp] at p4
          have iz3 : In z3 1 160 := ⟨by omega, by omega⟩
          refine g_iconst 1 184 (gd rfl) rfl rfl ?_
          refine g_isub 185 (gd rfl) rfl (fun z4 e4 => ?_)
          have t4 := t_sub e4 iz3 (in_c 1 rfl) rfl
          have iz4 := in_sub 0 159 e4 iz3 (in_c 1 rfl) rfl rfl
          refine g_iastore 186 (gd rfl) rfl (n := 33) rfl (in_ix iz1 rfl) ?_
          have hJ1 := rng_sI (q := 42) (j := z1.toNatClampNeg) hJ rfl (in_w 0 160 iz4 rfl)
          refine g_aload_n 187 (gd rfl) rfl rfl ?_
          refine g_getA (q2 := 43) 190 (gd rfl) rfl rfl rfl rfl ?_
          refine g_aload_n 191 (gd rfl) rfl rfl ?_
          refine g_getA (q2 := 42) 194 (gd rfl) rfl rfl rfl rfl ?_
          refine g_aload_n 195 (gd rfl) rfl rfl ?_
          refine g_getA (q2 := 34) 198 (gd rfl) rfl rfl rfl rfl ?_
          refine g_iload_n 199 (gd rfl) rfl rfl ?_
          refine g_iaload 200 (gd rfl) rfl (n := 160) rfl (in_ix iy rfl) (fun z5 e5 => ?_)
          have e5 : z5 = t.1 34 y.toNatClampNeg := e5
          rw [h4, hpc] at e5
          have e5 : z1 = z5 := e1.trans e5.symm
          subst e5
          refine g_iaload 201 (gd rfl) rfl (n := 33) rfl (in_ix iz1 rfl) (fun z6 e6 => ?_)
          have e6 : z4 = z6 := sI_get.trans e6.symm
          subst e6
          refine g_iload_n 202 (gd rfl) rfl rfl ?_
          refine g_iastore 203 (gd rfl) rfl (n := 160) rfl (in_ix iz4 rfl) ?_
          have hJ2 := rng_sI (q := 43) (j := z4.toNatClampNeg) hJ1 rfl iy
          refine g_aload_n 204 (gd rfl) rfl rfl ?_
          refine g_getA (q2 := 44) 207 (gd rfl) rfl rfl rfl rfl ?_
          refine g_aload_n 208 (gd rfl) rfl rfl ?_
          refine g_getA (q2 := 35) 211 (gd rfl) rfl rfl rfl rfl ?_
          refine g_iload_n 212 (gd rfl) rfl rfl ?_
          refine g_iaload 213 (gd rfl) rfl (n := 160) rfl (in_ix iy rfl) (fun z7 e7 => ?_)
          have e7 : z7 = t.1 35 y.toNatClampNeg := e7
          rw [h5, hpc] at e7
          have iz7 : In z7 0 31 := ⟨by rw [e7]; omega, by rw [e7]; omega⟩
          obtain ⟨x, hx⟩ : ∃ x : Nat, z7.toInt = (x : Int) := ⟨z7.toInt.toNat, by obtain ⟨a, b⟩ := iz7; omega⟩
          have hxc : z7.toNatClampNeg = x := by have := cl z7 iz7.1; omega
          have hx31 : x ≤ 31 := by obtain ⟨a, b⟩ := iz7; omega
          have hGp : G p = (x : Int) := by rw [aG p hp2 hnn, ← e7, hx]
          refine g_dup2 214 (gd rfl) rfl rfl rfl ?_
          refine g_iaload 215 (gd rfl) rfl (n := 33) rfl (in_ix iz7 rfl) (fun z8 e8 => ?_)
          have e8 : z8 = t.1 44 z7.toNatClampNeg := e8
          rw [hxc] at e8
          have k8 := (hu x (by omega)).2
          rw [cn_hit hGp, ← e8] at k8
          have s1 := pr_0 G T x
          have s2 := cn_0 G (x : Int) p
          have s3 := pr_le G T (x + 1)
          have s3' : pr G T (x + 1) = pr G T x + cn G (x : Int) T := rfl
          have s4 := cn_mono G (x : Int) (show p + 1 ≤ T by omega)
          rw [cn_hit hGp] at s4
          have iz8 : In z8 1 160 := ⟨by omega, by omega⟩
          refine g_iconst 1 216 (gd rfl) rfl rfl ?_
          refine g_isub 217 (gd rfl) rfl (fun z9 e9 => ?_)
          have t9 := t_sub e9 iz8 (in_c 1 rfl) rfl
          have iz9 := in_sub 0 159 e9 iz8 (in_c 1 rfl) rfl rfl
          refine g_iastore 218 (gd rfl) rfl (n := 33) rfl (in_ix iz7 rfl) ?_
          have hJ3 := rng_sI (q := 44) (j := z7.toNatClampNeg) hJ2 rfl (in_w 0 160 iz9 rfl)
          refine g_aload_n 219 (gd rfl) rfl rfl ?_
          refine g_getA (q2 := 45) 222 (gd rfl) rfl rfl rfl rfl ?_
          refine g_aload_n 223 (gd rfl) rfl rfl ?_
          refine g_getA (q2 := 44) 226 (gd rfl) rfl rfl rfl rfl ?_
          refine g_aload_n 227 (gd rfl) rfl rfl ?_
          refine g_getA (q2 := 35) 230 (gd rfl) rfl rfl rfl rfl ?_
          refine g_iload_n 231 (gd rfl) rfl rfl ?_
          refine g_iaload 232 (gd rfl) rfl (n := 160) rfl (in_ix iy rfl) (fun z10 e10 => ?_)
          have e10 : z10 = t.1 35 y.toNatClampNeg := e10
          rw [h5, hpc] at e10
          have e10 : z7 = z10 := e7.trans e10.symm
          subst e10
          refine g_iaload 233 (gd rfl) rfl (n := 33) rfl (in_ix iz7 rfl) (fun z11 e11 => ?_)
          have e11 : z9 = z11 := sI_get.trans e11.symm
          subst e11
          refine g_iload_n 234 (gd rfl) rfl rfl ?_
          refine g_iastore 235 (gd rfl) rfl (n := 160) rfl (in_ix iz9 rfl) ?_
          have hJ4 := rng_sI (q := 45) (j := z9.toNatClampNeg) hJ3 rfl iy
          have hz9 : (z9.toNatClampNeg : Int) = z9.toInt := cl z9 iz9.1
          have hN2 : ∀ i : Nat, (∃ u : Nat, u < 32 ∧ (upd (t.1 44) z7.toNatClampNeg z9 u).toInt ≤ (i : Int) ∧ (i : Int) < pr G T (u + 1)) → 0 ≤ (f4 (upd (t.1 45) z9.toNatClampNeg y i).toNatClampNeg).toInt := by
            intro i ⟨u, hu1, hu2, hu3⟩
            rw [up_at]
            by_cases b : i = z9.toNatClampNeg
            · rw [if_pos b, hpc, ← e1]
              exact iz1.1
            · rw [if_neg b]
              refine hN i ⟨u, hu1, ?_, hu3⟩
              rw [hxc, up_at] at hu2
              by_cases b2 : u = x
              · rw [if_pos b2] at hu2
                rw [b2, ← e8]
                omega
              · rw [if_neg b2] at hu2
                exact hu2
          refine g_iinc 238 (gd rfl) rfl rfl (Nat.le_of_ble_eq_true rfl) (fun z e => ?_)
          refine g_goto 157 (gd rfl) rfl ?_
          have ez := t_add e iy (in_c (-1) rfl) rfl
          refine gg_w (by omega) (gg_f (gf_cons rfl (gf_cons rfl gf_nil)) (ih _ z hJ4 (fr_sI rfl (fr_sI rfl (fr_sI rfl (fr_sI rfl hK)))) hV h4 h5 (by omega) (by omega) (fun u hu2 => ?_) hN2 (by omega)))
          have e12 : (z.toInt + 1).toNat = p := by omega
          rw [e12]
          have hu3 := hu u hu2
          have g1 : (upd (t.1 42) z1.toNatClampNeg z4 u).toInt = pr F T u + cn F (u : Int) p := by
            rw [hwc, up_at]
            by_cases b : u = w
            · subst b
              rw [if_pos rfl]
              omega
            · rw [if_neg b, hu3.1, cn_miss (by rw [hFp]; omega)]
          have g2 : (upd (t.1 44) z7.toNatClampNeg z9 u).toInt = pr G T u + cn G (u : Int) p := by
            rw [hxc, up_at]
            by_cases b : u = x
            · subst b
              rw [if_pos rfl]
              omega
            · rw [if_neg b, hu3.2, cn_miss (by rw [hGp]; omega)]
          exact ⟨g1, g2⟩
  -- the second loop
  have ct104 : ∀ (k : Nat) (t : GS) (y : Int32), Rng t → Fr fm_106_32 s t → t.2.2.1 32 4 = s.2.2.1 32 0 → t.1 34 = f4 → t.1 35 = f5 → (t.2.2.1 32 3).toInt = (T : Int) → 1 ≤ y.toInt → y.toInt ≤ 33 → (∀ u : Nat, u ≤ 32 → (t.1 42 u).toInt = (if (u : Int) < y.toInt then pr F T (u + 1) else cn F (u : Int) T) ∧ (t.1 44 u).toInt = (if (u : Int) < y.toInt then pr G T (u + 1) else cn G (u : Int) T)) → 33 - y.toInt < (k : Int) → GG Z (d - 1) 106 post (gx xp) (20000 + k * 100) 104 (fun j => xlook j [(0, .ref (A 32)), (1, .int y)]) [] (WW Z A t ++ ex) 0 0 := by
    intro k
    induction k with
    | zero => intro t y hJ hK hV h4 h5 h3 y0 y1 hu hm; omega
    | succ k ih =>
      intro t y hJ hK hV h4 h5 h3 y0 y1 hu hm
      refine gg_w (M := 20000 + k * 100 + 100) (by omega) ?_
      refine g_iload_n 105 (gd rfl) rfl rfl ?_
      refine g_bipush 32 107 (gd rfl) rfl rfl ?_
      have h32 : (Int32.ofInt 32).toInt = 32 := rfl
      refine g_cmp_gt 110 150 (gd rfl) rfl rfl (fun c => ?_) (fun c => ?_)
      · refine g_aload_n 151 (gd rfl) rfl rfl ?_
        refine g_getI 154 (gd rfl) rfl rfl rfl (fun z1 e1 => ?_)
        refine g_iconst 1 155 (gd rfl) rfl rfl ?_
        refine g_isub 156 (gd rfl) rfl (fun z2 e2 => ?_)
        have iz1 : In z1 0 160 := ⟨by rw [e1]; omega, by rw [e1]; omega⟩
        have t2 := t_sub e2 iz1 (in_c 1 rfl) rfl
        rw [e1, h3] at t2
        refine g_istore_n 157 (gd rfl) rfl (Nat.le_of_ble_eq_true rfl) ?_
        have hN0 : ∀ i : Nat, (∃ u : Nat, u < 32 ∧ (t.1 44 u).toInt ≤ (i : Int) ∧ (i : Int) < pr G T (u + 1)) → 0 ≤ (f4 (t.1 45 i).toNatClampNeg).toInt := by
          intro i ⟨u, hu1, hu2, hu3⟩
          have h := (hu u (by omega)).2
          rw [if_pos (by omega)] at h
          omega
        refine gg_w (by omega) (gg_f (gf_cons rfl (gf_cons rfl gf_nil)) (ct157 162 t z2 hJ hK hV h4 h5 (by omega) (by omega) (fun u hu2 => ?_) hN0 (by omega)))
        have e9 : (z2.toInt + 1).toNat = T := by omega
        have hu3 := hu u hu2
        rw [if_pos (by omega), if_pos (by omega)] at hu3
        rw [e9]
        exact hu3
      · obtain ⟨p, hp⟩ : ∃ p : Nat, y.toInt = ((p + 1 : Nat) : Int) := ⟨(y.toInt - 1).toNat, by omega⟩
        have hpc : y.toNatClampNeg = p + 1 := by have := cl y (by omega); omega
        have iy : In y 1 32 := ⟨y0, by omega⟩
        have ku := hu (p + 1) (by omega)
        have kv := hu p (by omega)
        rw [if_neg (by omega), if_neg (by omega)] at ku
        rw [if_pos (by omega), if_pos (by omega)] at kv
        have a1 := cn_0 F ((p + 1 : Nat) : Int) T
        have a2 := pr_0 F T (p + 1)
        have a3 := pr_le F T (p + 1 + 1)
        have a4 : pr F T (p + 1 + 1) = pr F T (p + 1) + cn F ((p + 1 : Nat) : Int) T := rfl
        have b1 := cn_0 G ((p + 1 : Nat) : Int) T
        have b2 := pr_0 G T (p + 1)
        have b3 := pr_le G T (p + 1 + 1)
        have b4 : pr G T (p + 1 + 1) = pr G T (p + 1) + cn G ((p + 1 : Nat) : Int) T := rfl
        refine g_aload_n 111 (gd rfl) rfl rfl ?_
        refine g_getA (q2 := 42) 114 (gd rfl) rfl rfl rfl rfl ?_
        refine g_iload_n 115 (gd rfl) rfl rfl ?_
        refine g_dup2 116 (gd rfl) rfl rfl rfl ?_
        refine g_iaload 117 (gd rfl) rfl (n := 33) rfl (in_ix iy rfl) (fun z1 e1 => ?_)
        rw [hpc] at e1
        refine g_aload_n 118 (gd rfl) rfl rfl ?_
        refine g_getA (q2 := 42) 121 (gd rfl) rfl rfl rfl rfl ?_
        refine g_iload_n 122 (gd rfl) rfl rfl ?_
        refine g_iconst 1 123 (gd rfl) rfl rfl ?_
        refine g_isub 124 (gd rfl) rfl (fun z2 e2 => ?_)
        have t2 := t_sub e2 iy (in_c 1 rfl) rfl
        have iz2 := in_sub 0 31 e2 iy (in_c 1 rfl) rfl rfl
        have hzc : z2.toNatClampNeg = p := by have := cl z2 iz2.1; omega
        refine g_iaload 125 (gd rfl) rfl (n := 33) rfl (in_ix iz2 rfl) (fun z3 e3 => ?_)
        rw [hzc] at e3
        rw [← e1] at ku
        rw [← e3] at kv
        have iz1 : In z1 0 160 := ⟨by omega, by omega⟩
        have iz3 : In z3 0 160 := ⟨by omega, by omega⟩
        refine g_iadd 126 (gd rfl) rfl (fun z4 e4 => ?_)
        have t4 := t_add e4 iz1 iz3 rfl
        have iz4 : In z4 0 160 := ⟨by omega, by omega⟩
        refine g_iastore 127 (gd rfl) rfl (n := 33) rfl (in_ix iy rfl) ?_
        have hJ1 := rng_sI (q := 42) (j := y.toNatClampNeg) hJ rfl iz4
        refine g_aload_n 128 (gd rfl) rfl rfl ?_
        refine g_getA (q2 := 44) 131 (gd rfl) rfl rfl rfl rfl ?_
        refine g_iload_n 132 (gd rfl) rfl rfl ?_
        refine g_dup2 133 (gd rfl) rfl rfl rfl ?_
        refine g_iaload 134 (gd rfl) rfl (n := 33) rfl (in_ix iy rfl) (fun z5 e5 => ?_)
        have e5 : z5 = t.1 44 y.toNatClampNeg := e5
        rw [hpc] at e5
        refine g_aload_n 135 (gd rfl) rfl rfl ?_
        refine g_getA (q2 := 44) 138 (gd rfl) rfl rfl rfl rfl ?_
        refine g_iload_n 139 (gd rfl) rfl rfl ?_
        refine g_iconst 1 140 (gd rfl) rfl rfl ?_
        refine g_isub 141 (gd rfl) rfl (fun z6 e6 => ?_)
        have t6 := t_sub e6 iy (in_c 1 rfl) rfl
        have iz6 := in_sub 0 31 e6 iy (in_c 1 rfl) rfl rfl
        have hzc6 : z6.toNatClampNeg = p := by have := cl z6 iz6.1; omega
        refine g_iaload 142 (gd rfl) rfl (n := 33) rfl (in_ix iz6 rfl) (fun z7 e7 => ?_)
        have e7 : z7 = t.1 44 z6.toNatClampNeg := e7
        rw [hzc6] at e7
        rw [← e5] at ku
        rw [← e7] at kv
        have iz5 : In z5 0 160 := ⟨by omega, by omega⟩
        have iz7 : In z7 0 160 := ⟨by omega, by omega⟩
        refine g_iadd 143 (gd rfl) rfl (fun z8 e8 => ?_)
        have t8 := t_add e8 iz5 iz7 rfl
        have iz8 : In z8 0 160 := ⟨by omega, by omega⟩
        refine g_iastore 144 (gd rfl) rfl (n := 33) rfl (in_ix iy rfl) ?_
        have hJ2 := rng_sI (q := 44) (j := y.toNatClampNeg) hJ1 rfl iz8
        refine g_iinc 147 (gd rfl) rfl rfl (Nat.le_of_ble_eq_true rfl) (fun z e => ?_)
        refine g_goto 104 (gd rfl) rfl ?_
        have ez := t_add e iy (in_c 1 rfl) rfl
        refine gg_w (by omega) (gg_f (gf_cons rfl (gf_cons rfl gf_nil)) (ih _ z hJ2 (fr_sI rfl (fr_sI rfl hK)) hV h4 h5 h3 (by omega) (by omega) (fun u hu2 => ?_) (by omega)))
        have hu3 := hu u hu2
        have g1 : (upd (t.1 42) y.toNatClampNeg z4 u).toInt = (if (u : Int) < z.toInt then pr F T (u + 1) else cn F (u : Int) T) := by
          rw [hpc, up_at]
          by_cases b : u = p + 1
          · subst b
            rw [if_pos rfl, if_pos (by omega)]
            omega
          · rw [if_neg b, hu3.1]
            by_cases b2 : (u : Int) < y.toInt
            · rw [if_pos b2, if_pos (by omega)]
            · rw [if_neg b2, if_neg (by omega)]
        have g2 : (upd (t.1 44) y.toNatClampNeg z8 u).toInt = (if (u : Int) < z.toInt then pr G T (u + 1) else cn G (u : Int) T) := by
          rw [hpc, up_at]
          by_cases b : u = p + 1
          · subst b
            rw [if_pos rfl, if_pos (by omega)]
            omega
          · rw [if_neg b, hu3.2]
            by_cases b2 : (u : Int) < y.toInt
            · rw [if_pos b2, if_pos (by omega)]
            · rw [if_neg b2, if_neg (by omega)]
        exact ⟨g1, g2⟩
  -- the first loop
  have ct62 : ∀ (k : Nat) (t : GS) (y : Int32), Rng t → Fr fm_106_32 s t → t.2.2.1 32 4 = s.2.2.1 32 0 → t.1 34 = f4 → t.1 35 = f5 → (t.2.2.1 32 3).toInt = (T : Int) → 0 ≤ y.toInt → y.toInt ≤ (T : Int) → (∀ u : Nat, u ≤ 32 → (t.1 42 u).toInt = cn F (u : Int) y.toInt.toNat ∧ (t.1 44 u).toInt = cn G (u : Int) y.toInt.toNat) → (T : Int) - y.toInt < (k : Int) → GG Z (d - 1) 106 post (gx xp) (30000 + k * 100) 62 (fun j => xlook j [(0, .ref (A 32)), (1, .int y)]) [] (WW Z A t ++ ex) 0 0 := by
    intro k
    induction k with
    | zero => intro t y hJ hK hV h4 h5 h3 y0 y1 hu hm; omega
    | succ k ih =>
      intro t y hJ hK hV h4 h5 h3 y0 y1 hu hm
      refine gg_w (M := 30000 + k * 100 + 100) (by omega) ?_
      refine g_iload_n 63 (gd rfl) rfl rfl ?_
      refine g_aload_n 64 (gd rfl) rfl rfl ?_
      refine g_getI 67 (gd rfl) rfl rfl rfl (fun z0 e0 => ?_)
      rw [← e0] at h3
      refine g_cmp_ge 70 102 (gd rfl) rfl rfl (fun c => ?_) (fun c => ?_)
      · have ey : y.toInt.toNat = T := by omega
        rw [ey] at hu
        refine g_iconst 1 103 (gd rfl) rfl rfl ?_
        refine g_istore_n 104 (gd rfl) rfl (Nat.le_of_ble_eq_true rfl) ?_
        refine gg_w (by omega) (gg_f (gf_cons rfl (gf_cons rfl gf_nil)) (ct104 33 t (Int32.ofInt 1) hJ hK hV h4 h5 (by rw [← e0]; exact h3) (by omega) (by omega) (fun u hu2 => ?_) (by omega)))
        have hu3 := hu u hu2
        rw [h01]
        by_cases b : (u : Int) < 1
        · have b0 : u = 0 := by omega
          subst b0
          rw [if_pos b, if_pos b]
          have d1 : pr F T (0 + 1) = 0 + cn F ((0 : Nat) : Int) T := rfl
          have d2 : pr G T (0 + 1) = 0 + cn G ((0 : Nat) : Int) T := rfl
          rw [d1, d2]
          exact ⟨by omega, by omega⟩
        · rw [if_neg b, if_neg b]
          exact hu3
      · have iy : In y 0 159 := ⟨y0, by omega⟩
        obtain ⟨p, hp⟩ : ∃ p : Nat, y.toInt = (p : Int) := ⟨y.toInt.toNat, by omega⟩
        have hp1 : y.toInt.toNat = p := by omega
        have hpc : y.toNatClampNeg = p := by have := cl y y0; omega
        have hp2 : p < 160 := by omega
        rw [hp1] at hu
        refine g_aload_n 71 (gd rfl) rfl rfl ?_
        refine g_getA (q2 := 34) 74 (gd rfl) rfl rfl rfl rfl ?_
        refine g_iload_n 75 (gd rfl) rfl rfl ?_
        refine g_iaload 76 (gd rfl) rfl (n := 160) rfl (in_ix iy rfl) (fun z1 e1 => ?_)
        rw [h4, hpc] at e1
        refine g_iconst (-1) 77 (gd rfl) rfl rfl ?_
        refine g_cmp_eq 80 96 (gd rfl) rfl rfl (fun c1 => ?_) (fun c1 => ?_)
        · have hneg : (f4 p).toInt = -1 := by rw [← e1]; exact c1
          have m1 : F p = -1 := by rw [aF p hp2]; exact hneg
          have m2 : G p = -1 := bG p hp2 hneg
          refine g_iinc 99 (gd rfl) rfl rfl (Nat.le_of_ble_eq_true rfl) (fun z e => ?_)
          refine g_goto 62 (gd rfl) rfl ?_
          have ez := t_add e iy (in_c 1 rfl) rfl
          refine gg_w (by omega) (gg_f (gf_cons rfl (gf_cons rfl gf_nil)) (ih t z hJ hK hV h4 h5 (by rw [← e0]; exact h3) (by omega) (by omega) (fun u hu2 => ?_) (by omega)))
          have e9 : z.toInt.toNat = p + 1 := by omega
          have hu3 := hu u hu2
          rw [e9, cn_miss (by omega), cn_miss (by omega)]
          exact hu3
        · have q1 := r4 p hp2
          have q2 := r5 p hp2
          have iz1 : In z1 0 31 := ⟨by rw [e1]; rw [e1] at c1; omega, by rw [e1]; omega⟩
          obtain ⟨w, hw⟩ : ∃ w : Nat, z1.toInt = (w : Int) := ⟨z1.toInt.toNat, by obtain ⟨a, b⟩ := iz1; omega⟩
          have hwc : z1.toNatClampNeg = w := by have := cl z1 iz1.1; omega
          have hw31 : w ≤ 31 := by obtain ⟨a, b⟩ := iz1; omega
          have hFp : F p = (w : Int) := by rw [aF p hp2, ← e1, hw]
          have hnn : (f4 p).toInt ≠ -1 := by rw [← e1]; rw [hm1] at c1; exact c1
          refine g_aload_n 81 (gd rfl) rfl rfl ?_
          refine g_aload_n 82 (gd rfl) rfl rfl ?_
          refine g_getA (q2 := 34) 85 (gd rfl) rfl rfl rfl rfl ?_
          refine g_iload_n 86 (gd rfl) rfl rfl ?_
          refine g_iaload 87 (gd rfl) rfl (n := 160) rfl (in_ix iy rfl) (fun z2 e2 => ?_)
          rw [h4, hpc] at e2
          have e2 : z1 = z2 := e1.trans e2.symm
          subst e2
          refine g_aload_n 88 (gd rfl) rfl rfl ?_
          refine g_getA (q2 := 35) 91 (gd rfl) rfl rfl rfl rfl ?_
          refine g_iload_n 92 (gd rfl) rfl rfl ?_
          refine g_iaload 93 (gd rfl) rfl (n := 160) rfl (in_ix iy rfl) (fun z3 e3 => ?_)
          rw [h5, hpc] at e3
          have iz3 : In z3 0 31 := ⟨by rw [e3]; omega, by rw [e3]; omega⟩
          obtain ⟨x, hx⟩ : ∃ x : Nat, z3.toInt = (x : Int) := ⟨z3.toInt.toNat, by obtain ⟨a, b⟩ := iz3; omega⟩
          have hxc : z3.toNatClampNeg = x := by have := cl z3 iz3.1; omega
          have hx31 : x ≤ 31 := by obtain ⟨a, b⟩ := iz3; omega
          have hGp : G p = (x : Int) := by rw [aG p hp2 hnn, ← e3, hx]
          have a1 := (hu w (by omega)).1
          have a2 := cn_le F (w : Int) p
          have a3 := cn_0 F (w : Int) p
          have b1 := (hu x (by omega)).2
          have b2 := cn_le G (x : Int) p
          have b3 := cn_0 G (x : Int) p
          refine g_callv (X := _) (As := [.int z1, .int z3]) (r := []) (b := A 32) (q := 32) 96 (gd rfl) rfl rfl rfl rfl rfl (ww_o rfl) (Nat.le_of_ble_eq_true rfl) (Nat.zero_le _) (Nat.zero_le _) (x_107_32 (by omega) hJ iz1 iz3 (by rw [hwc]; exact ⟨by omega, by omega⟩) (by rw [hxc]; exact ⟨by omega, by omega⟩)) (fun e u h => h) (fun v u h => ?_)
          obtain ⟨t2, hJ2, uF, rfl, rfl, u4, u5, u3, uo, ui⟩ := h
          show GG _ _ _ _ _ _ _ _ [] _ _ _
          refine g_iinc 99 (gd rfl) rfl rfl (Nat.le_of_ble_eq_true rfl) (fun z e => ?_)
          refine g_goto 62 (gd rfl) rfl ?_
          have ez := t_add e iy (in_c 1 rfl) rfl
          refine gg_w (by omega) (gg_f (gf_cons rfl (gf_cons rfl gf_nil)) (ih t2 z hJ2 (fr_tr rfl hK uF) (by rw [u3]; exact hV) (by rw [u4, h4]) (by rw [u5, h5]) (by rw [u3, ← e0]; exact h3) (by omega) (by omega) (fun u hu2 => ?_) (by omega)))
          have e9 : z.toInt.toNat = p + 1 := by omega
          have hu3 := hu u hu2
          rw [e9, uo, ui, hwc, hxc, up_at, up_at]
          have tw : (t.1 42 w + Int32.ofInt 1).toInt = (t.1 42 w).toInt + 1 := by
            have := t_add (x := t.1 42 w) (y := Int32.ofInt 1) rfl (a := 0) (b := 159) ⟨by omega, by omega⟩ (in_c 1 rfl) rfl
            rw [this, h01]
          have tx : (t.1 44 x + Int32.ofInt 1).toInt = (t.1 44 x).toInt + 1 := by
            have := t_add (x := t.1 44 x) (y := Int32.ofInt 1) rfl (a := 0) (b := 159) ⟨by omega, by omega⟩ (in_c 1 rfl) rfl
            rw [this, h01]
          constructor
          · by_cases b : u = w
            · subst b
              rw [if_pos rfl, tw, cn_hit hFp]
              omega
            · rw [if_neg b, hu3.1, cn_miss (by rw [hFp]; omega)]
          · by_cases b : u = x
            · subst b
              rw [if_pos rfl, tx, cn_hit hGp]
              omega
            · rw [if_neg b, hu3.2, cn_miss (by rw [hGp]; omega)]
  refine g_enter2 (k := 106) (N := 60000) (by omega) rfl (Nat.le_of_ble_eq_true rfl) ?_
  refine g_aload_n 1 (gd rfl) rfl rfl ?_
  refine g_getI 4 (gd rfl) rfl rfl rfl (fun z1 e1 => ?_)
  refine g_aload_n 5 (gd rfl) rfl rfl ?_
  refine g_getI 8 (gd rfl) rfl rfl rfl (fun z2 e2 => ?_)
  have i2 := inv_F hI 0 4000 rfl e2
  refine g_cmp_ne 11 12 (gd rfl) rfl rfl (fun c => ?_) (fun c => ?_)
  · refine g_aload_n 13 (gd rfl) rfl rfl ?_
    refine g_aload_n 14 (gd rfl) rfl rfl ?_
    refine g_getI 17 (gd rfl) rfl rfl rfl (fun z3 e3 => ?_)
    have i3 := inv_F hI 0 4000 rfl e3
    refine g_putI 20 (gd rfl) rfl rfl rfl rfl ?_
    have hI1 := rng_sF (q := 32) (j := 4) hI.1 rfl (in_w (-1) 4000 i3 rfl)
    refine g_aload_n 21 (gd rfl) rfl rfl ?_
    refine g_getA (q2 := 39) 24 (gd rfl) rfl rfl rfl rfl ?_
    refine g_iconst 0 25 (gd rfl) rfl rfl ?_
    refine g_calls (As := [.ref (A 39), .int (Int32.ofInt 0)]) (r := []) 28 (gd rfl) rfl rfl rfl rfl rfl (Nat.le_of_ble_eq_true rfl) (Nat.zero_le _) (Nat.zero_le _) (x_417 (q := 39) (n := 32) (by omega) rfl (by decide)) (fun v u h => ?_)
    obtain ⟨g1, rfl, rfl, hg1⟩ := h
    show GG _ _ _ _ _ _ _ _ [] _ _ _
    have hI2 := rng_sA (q := 39) (g := g1) hI1 (fun i hi => by rw [hg1 i hi]; exact (in_w (-2147483648) 2147483647 (in_c 0 rfl) rfl : In (Int32.ofInt 0) (-2147483648) 2147483647))
    refine g_aload_n 29 (gd rfl) rfl rfl ?_
    refine g_getA (q2 := 40) 32 (gd rfl) rfl rfl rfl rfl ?_
    refine g_iconst 0 33 (gd rfl) rfl rfl ?_
    refine g_calls (As := [.ref (A 40), .int (Int32.ofInt 0)]) (r := []) 36 (gd rfl) rfl rfl rfl rfl rfl (Nat.le_of_ble_eq_true rfl) (Nat.zero_le _) (Nat.zero_le _) (x_417 (q := 40) (n := 32) (by omega) rfl (by decide)) (fun v u h => ?_)
    obtain ⟨g2, rfl, rfl, hg2⟩ := h
    show GG _ _ _ _ _ _ _ _ [] _ _ _
    have hI3 := rng_sA (q := 40) (g := g2) hI2 (fun i hi => by rw [hg2 i hi]; exact (in_w (-2147483648) 2147483647 (in_c 0 rfl) rfl : In (Int32.ofInt 0) (-2147483648) 2147483647))
    refine g_aload_n 37 (gd rfl) rfl rfl ?_
    refine g_getA (q2 := 41) 40 (gd rfl) rfl rfl rfl rfl ?_
    refine g_iconst 0 41 (gd rfl) rfl rfl ?_
    refine g_calls (As := [.ref (A 41), .int (Int32.ofInt 0)]) (r := []) 44 (gd rfl) rfl rfl rfl rfl rfl (Nat.le_of_ble_eq_true rfl) (Nat.zero_le _) (Nat.zero_le _) (x_417 (q := 41) (n := 32) (by omega) rfl (by decide)) (fun v u h => ?_)
    obtain ⟨g3, rfl, rfl, hg3⟩ := h
    show GG _ _ _ _ _ _ _ _ [] _ _ _
    have hI4 := rng_sA (q := 41) (g := g3) hI3 (fun i hi => by rw [hg3 i hi]; exact (in_w (-2147483648) 2147483647 (in_c 0 rfl) rfl : In (Int32.ofInt 0) (-2147483648) 2147483647))
    refine g_aload_n 45 (gd rfl) rfl rfl ?_
    refine g_getA (q2 := 42) 48 (gd rfl) rfl rfl rfl rfl ?_
    refine g_iconst 0 49 (gd rfl) rfl rfl ?_
    refine g_calls (As := [.ref (A 42), .int (Int32.ofInt 0)]) (r := []) 52 (gd rfl) rfl rfl rfl rfl rfl (Nat.le_of_ble_eq_true rfl) (Nat.zero_le _) (Nat.zero_le _) (x_417 (q := 42) (n := 33) (by omega) rfl (by decide)) (fun v u h => ?_)
    obtain ⟨g4, rfl, rfl, hg4⟩ := h
    show GG _ _ _ _ _ _ _ _ [] _ _ _
    have hI5 := rng_sA (q := 42) (g := g4) hI4 (fun i hi => by rw [hg4 i hi]; exact (in_w 0 160 (in_c 0 rfl) rfl : In (Int32.ofInt 0) 0 160))
    refine g_aload_n 53 (gd rfl) rfl rfl ?_
    refine g_getA (q2 := 44) 56 (gd rfl) rfl rfl rfl rfl ?_
    refine g_iconst 0 57 (gd rfl) rfl rfl ?_
    refine g_calls (As := [.ref (A 44), .int (Int32.ofInt 0)]) (r := []) 60 (gd rfl) rfl rfl rfl rfl rfl (Nat.le_of_ble_eq_true rfl) (Nat.zero_le _) (Nat.zero_le _) (x_417 (q := 44) (n := 33) (by omega) rfl (by decide)) (fun v u h => ?_)
    obtain ⟨g5, rfl, rfl, hg5⟩ := h
    show GG _ _ _ _ _ _ _ _ [] _ _ _
    have hI6 := rng_sA (q := 44) (g := g5) hI5 (fun i hi => by rw [hg5 i hi]; exact (in_w 0 160 (in_c 0 rfl) rfl : In (Int32.ofInt 0) 0 160))
    have fz : ∀ (g : Nat → Int32), (∀ j, j < 33 → g j = Int32.ofInt 0) → ∀ u : Nat, u ≤ 32 → (g u).toInt = 0 := fun g hg u hu => by rw [hg u (by omega)]; rfl
    refine g_iconst 0 61 (gd rfl) rfl rfl ?_
    refine g_istore_n 62 (gd rfl) rfl (Nat.le_of_ble_eq_true rfl) ?_
    refine gg_w (by omega) (gg_f (gf_cons rfl (gf_cons rfl gf_nil)) (ct62 161 _ (Int32.ofInt 0) hI6 (fr_sA rfl (fr_sA rfl (fr_sA rfl (fr_sA rfl (fr_sA rfl (fr_sF rfl fr_rf)))))) ((sF_get (s := s) (q := 32) (j := 4) (x := z3)).symm.trans e3) hf4.symm hf5.symm hT (by omega) (by omega) (fun u hu2 => ?_) (by omega)))
    have o1 : (g4 u).toInt = cn F (u : Int) (Int32.ofInt 0).toInt.toNat := fz g4 hg4 u hu2
    have o2 : (g5 u).toInt = cn G (u : Int) (Int32.ofInt 0).toInt.toNat := fz g5 hg5 u hu2
    exact ⟨o1, o2⟩
  · exact g_return (gd rfl) rfl (hP _ _ ⟨s, hI, fr_rf, by rw [← e1, ← e2]; exact c, rfl, rfl⟩)
