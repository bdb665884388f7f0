/-! Graph.tie: counts, their sums, and the rows by them -/
def cn (F : Nat → Int) (u : Int) : Nat → Int
  | 0 => 0
  | n + 1 => cn F u n + (if F n = u then 1 else 0)
def pr (F : Nat → Int) (n : Nat) : Nat → Int
  | 0 => 0
  | u + 1 => pr F n u + cn F (u : Int) n
theorem cn_0 (F : Nat → Int) (u : Int) (n : Nat) : 0 ≤ cn F u n := by
  induction n with
  | zero => exact Int.le_refl 0
  | succ n ih =>
    show 0 ≤ cn F u n + (if F n = u then 1 else 0)
    split <;> omega
theorem cn_le (F : Nat → Int) (u : Int) (n : Nat) : cn F u n ≤ (n : Int) := by
  induction n with
  | zero => exact Int.le_refl 0
  | succ n ih =>
    show cn F u n + (if F n = u then 1 else 0) ≤ ((n + 1 : Nat) : Int)
    split <;> omega
theorem cn_mono (F : Nat → Int) (u : Int) {m n : Nat} (h : m ≤ n) : cn F u m ≤ cn F u n := by
  induction n with
  | zero =>
    have e : m = 0 := by omega
    rw [e]
    exact Int.le_refl _
  | succ n ih =>
    rcases Nat.lt_or_ge n m with c | c
    · have e : m = n + 1 := by omega
      rw [e]
      exact Int.le_refl _
    · have := ih c
      show cn F u m ≤ cn F u n + (if F n = u then 1 else 0)
      split <;> omega
theorem cn_out (F : Nat → Int) (u : Int) (hF : ∀ j, F j < u) (n : Nat) : cn F u n = 0 := by
  induction n with
  | zero => rfl
  | succ n ih =>
    have := hF n
    show cn F u n + (if F n = u then 1 else 0) = 0
    rw [ih, if_neg (by omega)]
    rfl
theorem pr_s (F : Nat → Int) (n u : Nat) : pr F (n + 1) u = pr F n u + (if 0 ≤ F n ∧ F n < (u : Int) then 1 else 0) := by
  induction u with
  | zero =>
    show (0 : Int) = 0 + _
    rw [if_neg (by omega)]
    rfl
  | succ u ih =>
    show pr F (n + 1) u + (cn F (u : Int) n + (if F n = (u : Int) then 1 else 0)) = (pr F n u + cn F (u : Int) n) + _
    rw [ih]
    by_cases a : F n = (u : Int)
    · rw [if_pos a, if_neg (by omega), if_pos (by omega)]
      omega
    · rw [if_neg a]
      by_cases b : 0 ≤ F n ∧ F n < (u : Int)
      · rw [if_pos b, if_pos (by omega)]
        omega
      · rw [if_neg b, if_neg (by omega)]
        omega
theorem pr_le (F : Nat → Int) (n u : Nat) : pr F n u ≤ (n : Int) := by
  induction n with
  | zero =>
    induction u with
    | zero => exact Int.le_refl 0
    | succ u ih => show pr F 0 u + 0 ≤ _; omega
  | succ n ih =>
    rw [pr_s]
    split <;> omega
theorem pr_0 (F : Nat → Int) (n u : Nat) : 0 ≤ pr F n u := by
  induction u with
  | zero => exact Int.le_refl 0
  | succ u ih =>
    have := cn_0 F (u : Int) n
    show 0 ≤ pr F n u + cn F (u : Int) n
    omega
theorem cn_hit {F : Nat → Int} {u : Int} {n : Nat} (h : F n = u) : cn F u (n + 1) = cn F u n + 1 := by
  show cn F u n + (if F n = u then 1 else 0) = _
  rw [if_pos h]
theorem cn_miss {F : Nat → Int} {u : Int} {n : Nat} (h : F n ≠ u) : cn F u (n + 1) = cn F u n := by
  show cn F u n + (if F n = u then 1 else 0) = _
  rw [if_neg h]
  omega
/-- a place that is written, the others stay -/
theorem up_at {f : Nat → Int32} {j k : Nat} {x : Int32} : upd f j x k = if k = j then x else f k := rfl
/-- GraphHouse$Graph.tieEnds -/
theorem x_107_2 {Z : AmZ} {A : Nat → Nat} {s : GS} {ex : va_W} {d : Nat} {X : AmX} {x1 : Int32} {x2 : Int32} (hd : 1 ≤ d) (hI : Inv s) (h1 : In x1 0 31) (h2 : In x2 0 31) (g1 : In (s.1 12 x1.toNatClampNeg) 0 159) (g2 : In (s.1 14 x2.toNatClampNeg) 0 159) : GC Z d 107 [.ref (A 2), .int x1, .int x2] (WW Z A s ++ ex) 0 0 (fun v u => ∃ t : GS, Inv t ∧ v = none ∧ u = WW Z A t ++ ex ∧ t.1 4 = s.1 4 ∧ t.1 5 = s.1 5 ∧ t.2.2.1 = s.2.2.1 ∧ t.1 12 = upd (s.1 12) x1.toNatClampNeg (s.1 12 x1.toNatClampNeg + Int32.ofInt 1) ∧ t.1 14 = upd (s.1 14) x2.toNatClampNeg (s.1 14 x2.toNatClampNeg + Int32.ofInt 1)) X := by
  intro post xp hP hX
  refine g_enter2 (k := 107) (N := 900) (by omega) rfl (Nat.le_of_ble_eq_true rfl) ?_
  refine g_aload_n 1 (gd rfl) rfl rfl ?_
  refine g_getA (q2 := 12) 4 (gd rfl) rfl rfl rfl rfl rfl ?_
  refine g_iload_n 5 (gd rfl) rfl rfl ?_
  refine g_dup2 6 (gd rfl) rfl rfl rfl ?_
  refine g_iaload 7 (gd rfl) rfl (n := 33) rfl (in_ix h1 rfl) (fun z1 e2 => ?_)
  have i3 := (show In z1 0 159 by rw [e2]; exact g1)
  refine g_iconst 1 8 (gd rfl) rfl rfl ?_
  refine g_iadd 9 (gd rfl) rfl (fun z4 e5 => ?_)
  have i6 := in_add 1 160 e5 i3 (in_c 1 rfl) rfl rfl
  refine g_iastore 10 (gd rfl) rfl (n := 33) rfl (in_ix h1 rfl) ?_
  have hI7 := inv_sI (q := 12) (j := x1.toNatClampNeg) hI rfl (in_w 0 160 i6 rfl)
  refine g_aload_n 11 (gd rfl) rfl rfl ?_
  refine g_getA (q2 := 14) 14 (gd rfl) rfl rfl rfl rfl rfl ?_
  refine g_iload_n 15 (gd rfl) rfl rfl ?_
  refine g_dup2 16 (gd rfl) rfl rfl rfl ?_
  refine g_iaload 17 (gd rfl) rfl (n := 33) rfl (in_ix h2 rfl) (fun z8 e9 => ?_)
  have i10 := (show In z8 0 159 by rw [e9]; exact g2)
  refine g_iconst 1 18 (gd rfl) rfl rfl ?_
  refine g_iadd 19 (gd rfl) rfl (fun z11 e12 => ?_)
  have i13 := in_add 1 160 e12 i10 (in_c 1 rfl) rfl rfl
  refine g_iastore 20 (gd rfl) rfl (n := 33) rfl (in_ix h2 rfl) ?_
  have hI14 := inv_sI (q := 14) (j := x2.toNatClampNeg) hI7 rfl (in_w 0 160 i13 rfl)
  refine g_aload_n 21 (gd rfl) rfl rfl ?_
  refine g_getA (q2 := 10) 24 (gd rfl) rfl rfl rfl rfl rfl ?_
  refine g_iload_n 25 (gd rfl) rfl rfl ?_
  refine g_dup2 26 (gd rfl) rfl rfl rfl ?_
  refine g_iaload 27 (gd rfl) rfl (n := 32) rfl (in_ix h1 rfl) (fun z15 e16 => ?_)
  refine g_iconst 1 28 (gd rfl) rfl rfl ?_
  refine g_iload_n 29 (gd rfl) rfl rfl ?_
  refine g_ishl 30 (gd rfl) rfl (fun z17 e18 => ?_)
  refine g_ior 31 (gd rfl) rfl (fun z19 e20 => ?_)
  refine g_iastore 32 (gd rfl) rfl (n := 32) rfl (in_ix h1 rfl) ?_
  have hI21 := inv_sI (q := 10) (j := x1.toNatClampNeg) hI14 rfl (in_w (-2147483648) 2147483647 (i_rng z19) rfl)
  refine g_aload_n 33 (gd rfl) rfl rfl ?_
  refine g_getA (q2 := 11) 36 (gd rfl) rfl rfl rfl rfl rfl ?_
  refine g_iload_n 37 (gd rfl) rfl rfl ?_
  refine g_dup2 38 (gd rfl) rfl rfl rfl ?_
  refine g_iaload 39 (gd rfl) rfl (n := 32) rfl (in_ix h2 rfl) (fun z22 e23 => ?_)
  refine g_iconst 1 40 (gd rfl) rfl rfl ?_
  refine g_iload_n 41 (gd rfl) rfl rfl ?_
  refine g_ishl 42 (gd rfl) rfl (fun z24 e25 => ?_)
  refine g_ior 43 (gd rfl) rfl (fun z26 e27 => ?_)
  refine g_iastore 44 (gd rfl) rfl (n := 32) rfl (in_ix h2 rfl) ?_
  have hI28 := inv_sI (q := 11) (j := x2.toNatClampNeg) hI21 rfl (in_w (-2147483648) 2147483647 (i_rng z26) rfl)
  refine g_iload_n 45 (gd rfl) rfl rfl ?_
  refine g_iload_n 46 (gd rfl) rfl rfl ?_
  refine g_cmp_eq 49 73 (gd rfl) rfl rfl (fun c29 => ?_) (fun c29 => ?_)
  · skip
    exact g_return (gd rfl) rfl (hP _ _ ⟨(sI (sI (sI (sI s 12 x1.toNatClampNeg z4) 14 x2.toNatClampNeg z11) 10 x1.toNatClampNeg z19) 11 x2.toNatClampNeg z26), hI28, rfl, rfl, rfl, rfl, rfl, by rw [← e2, ← e5]; rfl, by rw [← (show z8 = s.1 14 x2.toNatClampNeg from e9), ← e12]; rfl⟩)
  · skip
    refine g_aload_n 50 (gd rfl) rfl rfl ?_
    refine g_getA (q2 := 9) 53 (gd rfl) rfl rfl rfl rfl rfl ?_
    refine g_iload_n 54 (gd rfl) rfl rfl ?_
    refine g_dup2 55 (gd rfl) rfl rfl rfl ?_
    refine g_iaload 56 (gd rfl) rfl (n := 32) rfl (in_ix h1 rfl) (fun z30 e31 => ?_)
    refine g_iconst 1 57 (gd rfl) rfl rfl ?_
    refine g_iload_n 58 (gd rfl) rfl rfl ?_
    refine g_ishl 59 (gd rfl) rfl (fun z32 e33 => ?_)
    refine g_ior 60 (gd rfl) rfl (fun z34 e35 => ?_)
    refine g_iastore 61 (gd rfl) rfl (n := 32) rfl (in_ix h1 rfl) ?_
    have hI36 := inv_sI (q := 9) (j := x1.toNatClampNeg) hI28 rfl (in_w (-2147483648) 2147483647 (i_rng z34) rfl)
    refine g_aload_n 62 (gd rfl) rfl rfl ?_
    refine g_getA (q2 := 9) 65 (gd rfl) rfl rfl rfl rfl rfl ?_
    refine g_iload_n 66 (gd rfl) rfl rfl ?_
    refine g_dup2 67 (gd rfl) rfl rfl rfl ?_
    refine g_iaload 68 (gd rfl) rfl (n := 32) rfl (in_ix h2 rfl) (fun z37 e38 => ?_)
    refine g_iconst 1 69 (gd rfl) rfl rfl ?_
    refine g_iload_n 70 (gd rfl) rfl rfl ?_
    refine g_ishl 71 (gd rfl) rfl (fun z39 e40 => ?_)
    refine g_ior 72 (gd rfl) rfl (fun z41 e42 => ?_)
    refine g_iastore 73 (gd rfl) rfl (n := 32) rfl (in_ix h2 rfl) ?_
    have hI43 := inv_sI (q := 9) (j := x2.toNatClampNeg) hI36 rfl (in_w (-2147483648) 2147483647 (i_rng z41) rfl)
    exact g_return (gd rfl) rfl (hP _ _ ⟨(sI (sI (sI (sI (sI (sI s 12 x1.toNatClampNeg z4) 14 x2.toNatClampNeg z11) 10 x1.toNatClampNeg z19) 11 x2.toNatClampNeg z26) 9 x1.toNatClampNeg z34) 9 x2.toNatClampNeg z41), hI43, rfl, rfl, rfl, rfl, rfl, by rw [← e2, ← e5]; rfl, by rw [← (show z8 = s.1 14 x2.toNatClampNeg from e9), ← e12]; rfl⟩)
/-- GraphHouse$Graph.tieEnds -/
theorem x_107_32 {Z : AmZ} {A : Nat → Nat} {s : GS} {ex : va_W} {d : Nat} {X : AmX} {x1 : Int32} {x2 : Int32} (hd : 1 ≤ d) (hI : Inv s) (h1 : In x1 0 31) (h2 : In x2 0 31) (g1 : In (s.1 42 x1.toNatClampNeg) 0 159) (g2 : In (s.1 44 x2.toNatClampNeg) 0 159) : GC Z d 107 [.ref (A 32), .int x1, .int x2] (WW Z A s ++ ex) 0 0 (fun v u => ∃ t : GS, Inv t ∧ v = none ∧ u = WW Z A t ++ ex ∧ t.1 34 = s.1 34 ∧ t.1 35 = s.1 35 ∧ t.2.2.1 = s.2.2.1 ∧ t.1 42 = upd (s.1 42) x1.toNatClampNeg (s.1 42 x1.toNatClampNeg + Int32.ofInt 1) ∧ t.1 44 = upd (s.1 44) x2.toNatClampNeg (s.1 44 x2.toNatClampNeg + Int32.ofInt 1)) X := by
  intro post xp hP hX
  refine g_enter2 (k := 107) (N := 900) (by omega) rfl (Nat.le_of_ble_eq_true rfl) ?_
  refine g_aload_n 1 (gd rfl) rfl rfl ?_
  refine g_getA (q2 := 42) 4 (gd rfl) rfl rfl rfl rfl rfl ?_
  refine g_iload_n 5 (gd rfl) rfl rfl ?_
  refine g_dup2 6 (gd rfl) rfl rfl rfl ?_
  refine g_iaload 7 (gd rfl) rfl (n := 33) rfl (in_ix h1 rfl) (fun z1 e2 => ?_)
  have i3 := (show In z1 0 159 by rw [e2]; exact g1)
  refine g_iconst 1 8 (gd rfl) rfl rfl ?_
  refine g_iadd 9 (gd rfl) rfl (fun z4 e5 => ?_)
  have i6 := in_add 1 160 e5 i3 (in_c 1 rfl) rfl rfl
  refine g_iastore 10 (gd rfl) rfl (n := 33) rfl (in_ix h1 rfl) ?_
  have hI7 := inv_sI (q := 42) (j := x1.toNatClampNeg) hI rfl (in_w 0 160 i6 rfl)
  refine g_aload_n 11 (gd rfl) rfl rfl ?_
  refine g_getA (q2 := 44) 14 (gd rfl) rfl rfl rfl rfl rfl ?_
  refine g_iload_n 15 (gd rfl) rfl rfl ?_
  refine g_dup2 16 (gd rfl) rfl rfl rfl ?_
  refine g_iaload 17 (gd rfl) rfl (n := 33) rfl (in_ix h2 rfl) (fun z8 e9 => ?_)
  have i10 := (show In z8 0 159 by rw [e9]; exact g2)
  refine g_iconst 1 18 (gd rfl) rfl rfl ?_
  refine g_iadd 19 (gd rfl) rfl (fun z11 e12 => ?_)
  have i13 := in_add 1 160 e12 i10 (in_c 1 rfl) rfl rfl
  refine g_iastore 20 (gd rfl) rfl (n := 33) rfl (in_ix h2 rfl) ?_
  have hI14 := inv_sI (q := 44) (j := x2.toNatClampNeg) hI7 rfl (in_w 0 160 i13 rfl)
  refine g_aload_n 21 (gd rfl) rfl rfl ?_
  refine g_getA (q2 := 40) 24 (gd rfl) rfl rfl rfl rfl rfl ?_
  refine g_iload_n 25 (gd rfl) rfl rfl ?_
  refine g_dup2 26 (gd rfl) rfl rfl rfl ?_
  refine g_iaload 27 (gd rfl) rfl (n := 32) rfl (in_ix h1 rfl) (fun z15 e16 => ?_)
  refine g_iconst 1 28 (gd rfl) rfl rfl ?_
  refine g_iload_n 29 (gd rfl) rfl rfl ?_
  refine g_ishl 30 (gd rfl) rfl (fun z17 e18 => ?_)
  refine g_ior 31 (gd rfl) rfl (fun z19 e20 => ?_)
  refine g_iastore 32 (gd rfl) rfl (n := 32) rfl (in_ix h1 rfl) ?_
  have hI21 := inv_sI (q := 40) (j := x1.toNatClampNeg) hI14 rfl (in_w (-2147483648) 2147483647 (i_rng z19) rfl)
  refine g_aload_n 33 (gd rfl) rfl rfl ?_
  refine g_getA (q2 := 41) 36 (gd rfl) rfl rfl rfl rfl rfl ?_
  refine g_iload_n 37 (gd rfl) rfl rfl ?_
  refine g_dup2 38 (gd rfl) rfl rfl rfl ?_
  refine g_iaload 39 (gd rfl) rfl (n := 32) rfl (in_ix h2 rfl) (fun z22 e23 => ?_)
  refine g_iconst 1 40 (gd rfl) rfl rfl ?_
  refine g_iload_n 41 (gd rfl) rfl rfl ?_
  refine g_ishl 42 (gd rfl) rfl (fun z24 e25 => ?_)
  refine g_ior 43 (gd rfl) rfl (fun z26 e27 => ?_)
  refine g_iastore 44 (gd rfl) rfl (n := 32) rfl (in_ix h2 rfl) ?_
  have hI28 := inv_sI (q := 41) (j := x2.toNatClampNeg) hI21 rfl (in_w (-2147483648) 2147483647 (i_rng z26) rfl)
  refine g_iload_n 45 (gd rfl) rfl rfl ?_
  refine g_iload_n 46 (gd rfl) rfl rfl ?_
  refine g_cmp_eq 49 73 (gd rfl) rfl rfl (fun c29 => ?_) (fun c29 => ?_)
  · skip
    exact g_return (gd rfl) rfl (hP _ _ ⟨(sI (sI (sI (sI s 42 x1.toNatClampNeg z4) 44 x2.toNatClampNeg z11) 40 x1.toNatClampNeg z19) 41 x2.toNatClampNeg z26), hI28, rfl, rfl, rfl, rfl, rfl, by rw [← e2, ← e5]; rfl, by rw [← (show z8 = s.1 44 x2.toNatClampNeg from e9), ← e12]; rfl⟩)
  · skip
    refine g_aload_n 50 (gd rfl) rfl rfl ?_
    refine g_getA (q2 := 39) 53 (gd rfl) rfl rfl rfl rfl rfl ?_
    refine g_iload_n 54 (gd rfl) rfl rfl ?_
    refine g_dup2 55 (gd rfl) rfl rfl rfl ?_
    refine g_iaload 56 (gd rfl) rfl (n := 32) rfl (in_ix h1 rfl) (fun z30 e31 => ?_)
    refine g_iconst 1 57 (gd rfl) rfl rfl ?_
    refine g_iload_n 58 (gd rfl) rfl rfl ?_
    refine g_ishl 59 (gd rfl) rfl (fun z32 e33 => ?_)
    refine g_ior 60 (gd rfl) rfl (fun z34 e35 => ?_)
    refine g_iastore 61 (gd rfl) rfl (n := 32) rfl (in_ix h1 rfl) ?_
    have hI36 := inv_sI (q := 39) (j := x1.toNatClampNeg) hI28 rfl (in_w (-2147483648) 2147483647 (i_rng z34) rfl)
    refine g_aload_n 62 (gd rfl) rfl rfl ?_
    refine g_getA (q2 := 39) 65 (gd rfl) rfl rfl rfl rfl rfl ?_
    refine g_iload_n 66 (gd rfl) rfl rfl ?_
    refine g_dup2 67 (gd rfl) rfl rfl rfl ?_
    refine g_iaload 68 (gd rfl) rfl (n := 32) rfl (in_ix h2 rfl) (fun z37 e38 => ?_)
    refine g_iconst 1 69 (gd rfl) rfl rfl ?_
    refine g_iload_n 70 (gd rfl) rfl rfl ?_
    refine g_ishl 71 (gd rfl) rfl (fun z39 e40 => ?_)
    refine g_ior 72 (gd rfl) rfl (fun z41 e42 => ?_)
    refine g_iastore 73 (gd rfl) rfl (n := 32) rfl (in_ix h2 rfl) ?_
    have hI43 := inv_sI (q := 39) (j := x2.toNatClampNeg) hI36 rfl (in_w (-2147483648) 2147483647 (i_rng z41) rfl)
    exact g_return (gd rfl) rfl (hP _ _ ⟨(sI (sI (sI (sI (sI (sI s 42 x1.toNatClampNeg z4) 44 x2.toNatClampNeg z11) 40 x1.toNatClampNeg z19) 41 x2.toNatClampNeg z26) 39 x1.toNatClampNeg z34) 39 x2.toNatClampNeg z41), hI43, rfl, rfl, rfl, rfl, rfl, by rw [← e2, ← e5]; rfl, by rw [← (show z8 = s.1 44 x2.toNatClampNeg from e9), ← e12]; rfl⟩)
