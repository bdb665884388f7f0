/-! methods, by vc.py -/
/-- java/util/Arrays.fill -/
theorem k_416_53 {Z : AmZ} {A : Nat → Nat} {s : GS} {ex : va_W} {d : Nat} {X : AmX} {x1 : Int64} (hd : 1 ≤ d) (hI : Inv s)  : GC Z d 416 [.ref (A 53), .long x1] (WW Z A s ++ ex) 0 0 (fun v u => ∃ t : GS, Inv t ∧ v = none ∧ u = WW Z A t ++ ex) X := by
  intro post xp hP hX
  have ct6 : ∀ (k6 : Nat) (s : GS) (y6_1 : Int64) (y6_3 : Int32) (y6_4 : Int32), Inv s → In y6_3 0 32 → In y6_4 32 32 → 32 - (y6_3).toInt < (k6 : Int) → GG Z (d - 1) 416 post (gx xp) (1 + k6 * 900) 6 (fun j => xlook j [(0, .ref (A 53)), (1, .long y6_1), (3, .int y6_3), (4, .int y6_4)]) [] (WW Z A s ++ ex) 0 0 := by
    intro k6
    induction k6 with
    | zero => intro s y6_1 y6_3 y6_4 hI j6_3 j6_4 mm6; exact m_no mm6 j6_3 rfl
    | succ k6 ih6 =>
      intro s y6_1 y6_3 y6_4 hI j6_3 j6_4 mm6
      refine gg_w (M := 1 + k6 * 900 + 900) (by omega) ?_
      refine g_iload_n 7 (gd rfl) rfl rfl ?_
      refine g_iload 9 (gd rfl) rfl rfl ?_
      refine g_cmp_ge 12 22 (gd rfl) rfl rfl (fun c1 => ?_) (fun c1 => ?_)
      · skip
        have i2 := r_le2 32 32 c1 j6_4 j6_3 rfl
        exact g_return (gd rfl) rfl (hP _ _ ⟨s, hI, rfl, rfl⟩)
      · skip
        have i3 := r_lt1 0 31 c1 j6_3 j6_4 rfl
        refine g_aload_n 13 (gd rfl) rfl rfl ?_
        refine g_iload_n 14 (gd rfl) rfl rfl ?_
        refine g_lload_n 15 (gd rfl) rfl rfl ?_
        refine g_lastore 16 (gd rfl) rfl (n := 32) rfl (in_ix i3 rfl) ?_
        have hI4 := inv_sL (q := 53) (j := y6_3.toNatClampNeg) (x := y6_1) hI
        refine g_iinc 19 (gd rfl) rfl rfl (Nat.le_of_ble_eq_true rfl) (fun z5 e6 => ?_)
        have i7 := in_add 1 32 e6 i3 (in_c 1 rfl) rfl rfl
        refine g_goto 6 (gd rfl) rfl ?_
        exact gg_w (by omega) (gg_f (gf_cons rfl (gf_cons rfl (gf_cons rfl (gf_cons rfl gf_nil)))) (ih6 (sL s 53 y6_3.toNatClampNeg y6_1) y6_1 z5 y6_4 hI4 (in_w 0 32 i7 rfl) (in_w 32 32 j6_4 rfl) (m_up mm6 (t_add e6 i3 (in_c 1 rfl) rfl) (in_w 1 1 (in_c 1 rfl) rfl))))
  refine g_enter2 (k := 416) (N := 30601) (by omega) rfl (Nat.le_of_ble_eq_true rfl) ?_
  refine g_iconst 0 1 (gd rfl) rfl rfl ?_
  refine g_istore_n 2 (gd rfl) rfl (Nat.le_of_ble_eq_true rfl) ?_
  refine g_aload_n 3 (gd rfl) rfl rfl ?_
  refine g_alen (n := 32) (t := 1) 32 4 (gd rfl) rfl rfl (Nat.le_of_ble_eq_true rfl) rfl ?_
  refine g_istore 6 (gd rfl) rfl (Nat.le_of_ble_eq_true rfl) ?_
  exact gg_w (by omega) (gg_f (gf_cons rfl (gf_cons rfl (gf_cons rfl (gf_cons rfl gf_nil)))) (ct6 33 s x1 (Int32.ofInt 0) (Int32.ofInt 32) hI (in_w 0 32 (in_c 0 rfl) rfl) (in_w 32 32 (in_c 32 rfl) rfl) (m_in 33 (in_w 0 32 (in_c 0 rfl) rfl) rfl)))

/-- java/util/Arrays.fill -/
theorem k_416_75 {Z : AmZ} {A : Nat → Nat} {s : GS} {ex : va_W} {d : Nat} {X : AmX} {x1 : Int64} (hd : 1 ≤ d) (hI : Inv s)  : GC Z d 416 [.ref (A 75), .long x1] (WW Z A s ++ ex) 0 0 (fun v u => ∃ t : GS, Inv t ∧ v = none ∧ u = WW Z A t ++ ex) X := by
  intro post xp hP hX
  have ct6 : ∀ (k6 : Nat) (s : GS) (y6_1 : Int64) (y6_3 : Int32) (y6_4 : Int32), Inv s → In y6_3 0 32 → In y6_4 32 32 → 32 - (y6_3).toInt < (k6 : Int) → GG Z (d - 1) 416 post (gx xp) (1 + k6 * 900) 6 (fun j => xlook j [(0, .ref (A 75)), (1, .long y6_1), (3, .int y6_3), (4, .int y6_4)]) [] (WW Z A s ++ ex) 0 0 := by
    intro k6
    induction k6 with
    | zero => intro s y6_1 y6_3 y6_4 hI j6_3 j6_4 mm6; exact m_no mm6 j6_3 rfl
    | succ k6 ih6 =>
      intro s y6_1 y6_3 y6_4 hI j6_3 j6_4 mm6
      refine gg_w (M := 1 + k6 * 900 + 900) (by omega) ?_
      refine g_iload_n 7 (gd rfl) rfl rfl ?_
      refine g_iload 9 (gd rfl) rfl rfl ?_
      refine g_cmp_ge 12 22 (gd rfl) rfl rfl (fun c1 => ?_) (fun c1 => ?_)
      · skip
        have i2 := r_le2 32 32 c1 j6_4 j6_3 rfl
        exact g_return (gd rfl) rfl (hP _ _ ⟨s, hI, rfl, rfl⟩)
      · skip
        have i3 := r_lt1 0 31 c1 j6_3 j6_4 rfl
        refine g_aload_n 13 (gd rfl) rfl rfl ?_
        refine g_iload_n 14 (gd rfl) rfl rfl ?_
        refine g_lload_n 15 (gd rfl) rfl rfl ?_
        refine g_lastore 16 (gd rfl) rfl (n := 32) rfl (in_ix i3 rfl) ?_
        have hI4 := inv_sL (q := 75) (j := y6_3.toNatClampNeg) (x := y6_1) hI
        refine g_iinc 19 (gd rfl) rfl rfl (Nat.le_of_ble_eq_true rfl) (fun z5 e6 => ?_)
        have i7 := in_add 1 32 e6 i3 (in_c 1 rfl) rfl rfl
        refine g_goto 6 (gd rfl) rfl ?_
        exact gg_w (by omega) (gg_f (gf_cons rfl (gf_cons rfl (gf_cons rfl (gf_cons rfl gf_nil)))) (ih6 (sL s 75 y6_3.toNatClampNeg y6_1) y6_1 z5 y6_4 hI4 (in_w 0 32 i7 rfl) (in_w 32 32 j6_4 rfl) (m_up mm6 (t_add e6 i3 (in_c 1 rfl) rfl) (in_w 1 1 (in_c 1 rfl) rfl))))
  refine g_enter2 (k := 416) (N := 30601) (by omega) rfl (Nat.le_of_ble_eq_true rfl) ?_
  refine g_iconst 0 1 (gd rfl) rfl rfl ?_
  refine g_istore_n 2 (gd rfl) rfl (Nat.le_of_ble_eq_true rfl) ?_
  refine g_aload_n 3 (gd rfl) rfl rfl ?_
  refine g_alen (n := 32) (t := 1) 32 4 (gd rfl) rfl rfl (Nat.le_of_ble_eq_true rfl) rfl ?_
  refine g_istore 6 (gd rfl) rfl (Nat.le_of_ble_eq_true rfl) ?_
  exact gg_w (by omega) (gg_f (gf_cons rfl (gf_cons rfl (gf_cons rfl (gf_cons rfl gf_nil)))) (ct6 33 s x1 (Int32.ofInt 0) (Int32.ofInt 32) hI (in_w 0 32 (in_c 0 rfl) rfl) (in_w 32 32 (in_c 32 rfl) rfl) (m_in 33 (in_w 0 32 (in_c 0 rfl) rfl) rfl)))

/-- java/util/Arrays.fill -/
theorem k_416_80 {Z : AmZ} {A : Nat → Nat} {s : GS} {ex : va_W} {d : Nat} {X : AmX} {x1 : Int64} (hd : 1 ≤ d) (hI : Inv s)  : GC Z d 416 [.ref (A 80), .long x1] (WW Z A s ++ ex) 0 0 (fun v u => ∃ t : GS, Inv t ∧ v = none ∧ u = WW Z A t ++ ex) X := by
  intro post xp hP hX
  have ct6 : ∀ (k6 : Nat) (s : GS) (y6_1 : Int64) (y6_3 : Int32) (y6_4 : Int32), Inv s → In y6_3 0 32 → In y6_4 32 32 → 32 - (y6_3).toInt < (k6 : Int) → GG Z (d - 1) 416 post (gx xp) (1 + k6 * 900) 6 (fun j => xlook j [(0, .ref (A 80)), (1, .long y6_1), (3, .int y6_3), (4, .int y6_4)]) [] (WW Z A s ++ ex) 0 0 := by
    intro k6
    induction k6 with
    | zero => intro s y6_1 y6_3 y6_4 hI j6_3 j6_4 mm6; exact m_no mm6 j6_3 rfl
    | succ k6 ih6 =>
      intro s y6_1 y6_3 y6_4 hI j6_3 j6_4 mm6
      refine gg_w (M := 1 + k6 * 900 + 900) (by omega) ?_
      refine g_iload_n 7 (gd rfl) rfl rfl ?_
      refine g_iload 9 (gd rfl) rfl rfl ?_
      refine g_cmp_ge 12 22 (gd rfl) rfl rfl (fun c1 => ?_) (fun c1 => ?_)
      · skip
        have i2 := r_le2 32 32 c1 j6_4 j6_3 rfl
        exact g_return (gd rfl) rfl (hP _ _ ⟨s, hI, rfl, rfl⟩)
      · skip
        have i3 := r_lt1 0 31 c1 j6_3 j6_4 rfl
        refine g_aload_n 13 (gd rfl) rfl rfl ?_
        refine g_iload_n 14 (gd rfl) rfl rfl ?_
        refine g_lload_n 15 (gd rfl) rfl rfl ?_
        refine g_lastore 16 (gd rfl) rfl (n := 32) rfl (in_ix i3 rfl) ?_
        have hI4 := inv_sL (q := 80) (j := y6_3.toNatClampNeg) (x := y6_1) hI
        refine g_iinc 19 (gd rfl) rfl rfl (Nat.le_of_ble_eq_true rfl) (fun z5 e6 => ?_)
        have i7 := in_add 1 32 e6 i3 (in_c 1 rfl) rfl rfl
        refine g_goto 6 (gd rfl) rfl ?_
        exact gg_w (by omega) (gg_f (gf_cons rfl (gf_cons rfl (gf_cons rfl (gf_cons rfl gf_nil)))) (ih6 (sL s 80 y6_3.toNatClampNeg y6_1) y6_1 z5 y6_4 hI4 (in_w 0 32 i7 rfl) (in_w 32 32 j6_4 rfl) (m_up mm6 (t_add e6 i3 (in_c 1 rfl) rfl) (in_w 1 1 (in_c 1 rfl) rfl))))
  refine g_enter2 (k := 416) (N := 30601) (by omega) rfl (Nat.le_of_ble_eq_true rfl) ?_
  refine g_iconst 0 1 (gd rfl) rfl rfl ?_
  refine g_istore_n 2 (gd rfl) rfl (Nat.le_of_ble_eq_true rfl) ?_
  refine g_aload_n 3 (gd rfl) rfl rfl ?_
  refine g_alen (n := 32) (t := 1) 32 4 (gd rfl) rfl rfl (Nat.le_of_ble_eq_true rfl) rfl ?_
  refine g_istore 6 (gd rfl) rfl (Nat.le_of_ble_eq_true rfl) ?_
  exact gg_w (by omega) (gg_f (gf_cons rfl (gf_cons rfl (gf_cons rfl (gf_cons rfl gf_nil)))) (ct6 33 s x1 (Int32.ofInt 0) (Int32.ofInt 32) hI (in_w 0 32 (in_c 0 rfl) rfl) (in_w 32 32 (in_c 32 rfl) rfl) (m_in 33 (in_w 0 32 (in_c 0 rfl) rfl) rfl)))

/-- java/util/Arrays.fill -/
theorem k_416_85 {Z : AmZ} {A : Nat → Nat} {s : GS} {ex : va_W} {d : Nat} {X : AmX} {x1 : Int64} (hd : 1 ≤ d) (hI : Inv s)  : GC Z d 416 [.ref (A 85), .long x1] (WW Z A s ++ ex) 0 0 (fun v u => ∃ t : GS, Inv t ∧ v = none ∧ u = WW Z A t ++ ex) X := by
  intro post xp hP hX
  have ct6 : ∀ (k6 : Nat) (s : GS) (y6_1 : Int64) (y6_3 : Int32) (y6_4 : Int32), Inv s → In y6_3 0 2001 → In y6_4 1024 1024 → 2001 - (y6_3).toInt < (k6 : Int) → GG Z (d - 1) 416 post (gx xp) (1 + k6 * 900) 6 (fun j => xlook j [(0, .ref (A 85)), (1, .long y6_1), (3, .int y6_3), (4, .int y6_4)]) [] (WW Z A s ++ ex) 0 0 := by
    intro k6
    induction k6 with
    | zero => intro s y6_1 y6_3 y6_4 hI j6_3 j6_4 mm6; exact m_no mm6 j6_3 rfl
    | succ k6 ih6 =>
      intro s y6_1 y6_3 y6_4 hI j6_3 j6_4 mm6
      refine gg_w (M := 1 + k6 * 900 + 900) (by omega) ?_
      refine g_iload_n 7 (gd rfl) rfl rfl ?_
      refine g_iload 9 (gd rfl) rfl rfl ?_
      refine g_cmp_ge 12 22 (gd rfl) rfl rfl (fun c1 => ?_) (fun c1 => ?_)
      · skip
        have i2 := r_le2 1024 2001 c1 j6_4 j6_3 rfl
        exact g_return (gd rfl) rfl (hP _ _ ⟨s, hI, rfl, rfl⟩)
      · skip
        have i3 := r_lt1 0 1023 c1 j6_3 j6_4 rfl
        refine g_aload_n 13 (gd rfl) rfl rfl ?_
        refine g_iload_n 14 (gd rfl) rfl rfl ?_
        refine g_lload_n 15 (gd rfl) rfl rfl ?_
        refine g_lastore 16 (gd rfl) rfl (n := 1024) rfl (in_ix i3 rfl) ?_
        have hI4 := inv_sL (q := 85) (j := y6_3.toNatClampNeg) (x := y6_1) hI
        refine g_iinc 19 (gd rfl) rfl rfl (Nat.le_of_ble_eq_true rfl) (fun z5 e6 => ?_)
        have i7 := in_add 1 1024 e6 i3 (in_c 1 rfl) rfl rfl
        refine g_goto 6 (gd rfl) rfl ?_
        exact gg_w (by omega) (gg_f (gf_cons rfl (gf_cons rfl (gf_cons rfl (gf_cons rfl gf_nil)))) (ih6 (sL s 85 y6_3.toNatClampNeg y6_1) y6_1 z5 y6_4 hI4 (in_w 0 2001 i7 rfl) (in_w 1024 1024 j6_4 rfl) (m_up mm6 (t_add e6 i3 (in_c 1 rfl) rfl) (in_w 1 1 (in_c 1 rfl) rfl))))
  refine g_enter2 (k := 416) (N := 1802701) (by omega) rfl (Nat.le_of_ble_eq_true rfl) ?_
  refine g_iconst 0 1 (gd rfl) rfl rfl ?_
  refine g_istore_n 2 (gd rfl) rfl (Nat.le_of_ble_eq_true rfl) ?_
  refine g_aload_n 3 (gd rfl) rfl rfl ?_
  refine g_alen (n := 1024) (t := 1) 1024 4 (gd rfl) rfl rfl (Nat.le_of_ble_eq_true rfl) rfl ?_
  refine g_istore 6 (gd rfl) rfl (Nat.le_of_ble_eq_true rfl) ?_
  exact gg_w (by omega) (gg_f (gf_cons rfl (gf_cons rfl (gf_cons rfl (gf_cons rfl gf_nil)))) (ct6 2002 s x1 (Int32.ofInt 0) (Int32.ofInt 1024) hI (in_w 0 2001 (in_c 0 rfl) rfl) (in_w 1024 1024 (in_c 1024 rfl) rfl) (m_in 2002 (in_w 0 2001 (in_c 0 rfl) rfl) rfl)))

/-- java/util/Arrays.fill -/
theorem k_416_95 {Z : AmZ} {A : Nat → Nat} {s : GS} {ex : va_W} {d : Nat} {X : AmX} {x1 : Int64} (hd : 1 ≤ d) (hI : Inv s)  : GC Z d 416 [.ref (A 95), .long x1] (WW Z A s ++ ex) 0 0 (fun v u => ∃ t : GS, Inv t ∧ v = none ∧ u = WW Z A t ++ ex) X := by
  intro post xp hP hX
  have ct6 : ∀ (k6 : Nat) (s : GS) (y6_1 : Int64) (y6_3 : Int32) (y6_4 : Int32), Inv s → In y6_3 0 120 → In y6_4 61 61 → 120 - (y6_3).toInt < (k6 : Int) → GG Z (d - 1) 416 post (gx xp) (1 + k6 * 900) 6 (fun j => xlook j [(0, .ref (A 95)), (1, .long y6_1), (3, .int y6_3), (4, .int y6_4)]) [] (WW Z A s ++ ex) 0 0 := by
    intro k6
    induction k6 with
    | zero => intro s y6_1 y6_3 y6_4 hI j6_3 j6_4 mm6; exact m_no mm6 j6_3 rfl
    | succ k6 ih6 =>
      intro s y6_1 y6_3 y6_4 hI j6_3 j6_4 mm6
      refine gg_w (M := 1 + k6 * 900 + 900) (by omega) ?_
      refine g_iload_n 7 (gd rfl) rfl rfl ?_
      refine g_iload 9 (gd rfl) rfl rfl ?_
      refine g_cmp_ge 12 22 (gd rfl) rfl rfl (fun c1 => ?_) (fun c1 => ?_)
      · skip
        have i2 := r_le2 61 120 c1 j6_4 j6_3 rfl
        exact g_return (gd rfl) rfl (hP _ _ ⟨s, hI, rfl, rfl⟩)
      · skip
        have i3 := r_lt1 0 60 c1 j6_3 j6_4 rfl
        refine g_aload_n 13 (gd rfl) rfl rfl ?_
        refine g_iload_n 14 (gd rfl) rfl rfl ?_
        refine g_lload_n 15 (gd rfl) rfl rfl ?_
        refine g_lastore 16 (gd rfl) rfl (n := 61) rfl (in_ix i3 rfl) ?_
        have hI4 := inv_sL (q := 95) (j := y6_3.toNatClampNeg) (x := y6_1) hI
        refine g_iinc 19 (gd rfl) rfl rfl (Nat.le_of_ble_eq_true rfl) (fun z5 e6 => ?_)
        have i7 := in_add 1 61 e6 i3 (in_c 1 rfl) rfl rfl
        refine g_goto 6 (gd rfl) rfl ?_
        exact gg_w (by omega) (gg_f (gf_cons rfl (gf_cons rfl (gf_cons rfl (gf_cons rfl gf_nil)))) (ih6 (sL s 95 y6_3.toNatClampNeg y6_1) y6_1 z5 y6_4 hI4 (in_w 0 120 i7 rfl) (in_w 61 61 j6_4 rfl) (m_up mm6 (t_add e6 i3 (in_c 1 rfl) rfl) (in_w 1 1 (in_c 1 rfl) rfl))))
  refine g_enter2 (k := 416) (N := 109801) (by omega) rfl (Nat.le_of_ble_eq_true rfl) ?_
  refine g_iconst 0 1 (gd rfl) rfl rfl ?_
  refine g_istore_n 2 (gd rfl) rfl (Nat.le_of_ble_eq_true rfl) ?_
  refine g_aload_n 3 (gd rfl) rfl rfl ?_
  refine g_alen (n := 61) (t := 1) 61 4 (gd rfl) rfl rfl (Nat.le_of_ble_eq_true rfl) rfl ?_
  refine g_istore 6 (gd rfl) rfl (Nat.le_of_ble_eq_true rfl) ?_
  exact gg_w (by omega) (gg_f (gf_cons rfl (gf_cons rfl (gf_cons rfl (gf_cons rfl gf_nil)))) (ct6 121 s x1 (Int32.ofInt 0) (Int32.ofInt 61) hI (in_w 0 120 (in_c 0 rfl) rfl) (in_w 61 61 (in_c 61 rfl) rfl) (m_in 121 (in_w 0 120 (in_c 0 rfl) rfl) rfl)))

/-- java/util/Arrays.fill -/
theorem k_416_96 {Z : AmZ} {A : Nat → Nat} {s : GS} {ex : va_W} {d : Nat} {X : AmX} {x1 : Int64} (hd : 1 ≤ d) (hI : Inv s)  : GC Z d 416 [.ref (A 96), .long x1] (WW Z A s ++ ex) 0 0 (fun v u => ∃ t : GS, Inv t ∧ v = none ∧ u = WW Z A t ++ ex) X := by
  intro post xp hP hX
  have ct6 : ∀ (k6 : Nat) (s : GS) (y6_1 : Int64) (y6_3 : Int32) (y6_4 : Int32), Inv s → In y6_3 0 31 → In y6_4 26 26 → 31 - (y6_3).toInt < (k6 : Int) → GG Z (d - 1) 416 post (gx xp) (1 + k6 * 900) 6 (fun j => xlook j [(0, .ref (A 96)), (1, .long y6_1), (3, .int y6_3), (4, .int y6_4)]) [] (WW Z A s ++ ex) 0 0 := by
    intro k6
    induction k6 with
    | zero => intro s y6_1 y6_3 y6_4 hI j6_3 j6_4 mm6; exact m_no mm6 j6_3 rfl
    | succ k6 ih6 =>
      intro s y6_1 y6_3 y6_4 hI j6_3 j6_4 mm6
      refine gg_w (M := 1 + k6 * 900 + 900) (by omega) ?_
      refine g_iload_n 7 (gd rfl) rfl rfl ?_
      refine g_iload 9 (gd rfl) rfl rfl ?_
      refine g_cmp_ge 12 22 (gd rfl) rfl rfl (fun c1 => ?_) (fun c1 => ?_)
      · skip
        have i2 := r_le2 26 31 c1 j6_4 j6_3 rfl
        exact g_return (gd rfl) rfl (hP _ _ ⟨s, hI, rfl, rfl⟩)
      · skip
        have i3 := r_lt1 0 25 c1 j6_3 j6_4 rfl
        refine g_aload_n 13 (gd rfl) rfl rfl ?_
        refine g_iload_n 14 (gd rfl) rfl rfl ?_
        refine g_lload_n 15 (gd rfl) rfl rfl ?_
        refine g_lastore 16 (gd rfl) rfl (n := 26) rfl (in_ix i3 rfl) ?_
        have hI4 := inv_sL (q := 96) (j := y6_3.toNatClampNeg) (x := y6_1) hI
        refine g_iinc 19 (gd rfl) rfl rfl (Nat.le_of_ble_eq_true rfl) (fun z5 e6 => ?_)
        have i7 := in_add 1 26 e6 i3 (in_c 1 rfl) rfl rfl
        refine g_goto 6 (gd rfl) rfl ?_
        exact gg_w (by omega) (gg_f (gf_cons rfl (gf_cons rfl (gf_cons rfl (gf_cons rfl gf_nil)))) (ih6 (sL s 96 y6_3.toNatClampNeg y6_1) y6_1 z5 y6_4 hI4 (in_w 0 31 i7 rfl) (in_w 26 26 j6_4 rfl) (m_up mm6 (t_add e6 i3 (in_c 1 rfl) rfl) (in_w 1 1 (in_c 1 rfl) rfl))))
  refine g_enter2 (k := 416) (N := 29701) (by omega) rfl (Nat.le_of_ble_eq_true rfl) ?_
  refine g_iconst 0 1 (gd rfl) rfl rfl ?_
  refine g_istore_n 2 (gd rfl) rfl (Nat.le_of_ble_eq_true rfl) ?_
  refine g_aload_n 3 (gd rfl) rfl rfl ?_
  refine g_alen (n := 26) (t := 1) 26 4 (gd rfl) rfl rfl (Nat.le_of_ble_eq_true rfl) rfl ?_
  refine g_istore 6 (gd rfl) rfl (Nat.le_of_ble_eq_true rfl) ?_
  exact gg_w (by omega) (gg_f (gf_cons rfl (gf_cons rfl (gf_cons rfl (gf_cons rfl gf_nil)))) (ct6 32 s x1 (Int32.ofInt 0) (Int32.ofInt 26) hI (in_w 0 31 (in_c 0 rfl) rfl) (in_w 26 26 (in_c 26 rfl) rfl) (m_in 32 (in_w 0 31 (in_c 0 rfl) rfl) rfl)))

/-- java/util/Arrays.fill -/
theorem k_416_99 {Z : AmZ} {A : Nat → Nat} {s : GS} {ex : va_W} {d : Nat} {X : AmX} {x1 : Int64} (hd : 1 ≤ d) (hI : Inv s)  : GC Z d 416 [.ref (A 99), .long x1] (WW Z A s ++ ex) 0 0 (fun v u => ∃ t : GS, Inv t ∧ v = none ∧ u = WW Z A t ++ ex) X := by
  intro post xp hP hX
  have ct6 : ∀ (k6 : Nat) (s : GS) (y6_1 : Int64) (y6_3 : Int32) (y6_4 : Int32), Inv s → In y6_3 0 32 → In y6_4 32 32 → 32 - (y6_3).toInt < (k6 : Int) → GG Z (d - 1) 416 post (gx xp) (1 + k6 * 900) 6 (fun j => xlook j [(0, .ref (A 99)), (1, .long y6_1), (3, .int y6_3), (4, .int y6_4)]) [] (WW Z A s ++ ex) 0 0 := by
    intro k6
    induction k6 with
    | zero => intro s y6_1 y6_3 y6_4 hI j6_3 j6_4 mm6; exact m_no mm6 j6_3 rfl
    | succ k6 ih6 =>
      intro s y6_1 y6_3 y6_4 hI j6_3 j6_4 mm6
      refine gg_w (M := 1 + k6 * 900 + 900) (by omega) ?_
      refine g_iload_n 7 (gd rfl) rfl rfl ?_
      refine g_iload 9 (gd rfl) rfl rfl ?_
      refine g_cmp_ge 12 22 (gd rfl) rfl rfl (fun c1 => ?_) (fun c1 => ?_)
      · skip
        have i2 := r_le2 32 32 c1 j6_4 j6_3 rfl
        exact g_return (gd rfl) rfl (hP _ _ ⟨s, hI, rfl, rfl⟩)
      · skip
        have i3 := r_lt1 0 31 c1 j6_3 j6_4 rfl
        refine g_aload_n 13 (gd rfl) rfl rfl ?_
        refine g_iload_n 14 (gd rfl) rfl rfl ?_
        refine g_lload_n 15 (gd rfl) rfl rfl ?_
        refine g_lastore 16 (gd rfl) rfl (n := 32) rfl (in_ix i3 rfl) ?_
        have hI4 := inv_sL (q := 99) (j := y6_3.toNatClampNeg) (x := y6_1) hI
        refine g_iinc 19 (gd rfl) rfl rfl (Nat.le_of_ble_eq_true rfl) (fun z5 e6 => ?_)
        have i7 := in_add 1 32 e6 i3 (in_c 1 rfl) rfl rfl
        refine g_goto 6 (gd rfl) rfl ?_
        exact gg_w (by omega) (gg_f (gf_cons rfl (gf_cons rfl (gf_cons rfl (gf_cons rfl gf_nil)))) (ih6 (sL s 99 y6_3.toNatClampNeg y6_1) y6_1 z5 y6_4 hI4 (in_w 0 32 i7 rfl) (in_w 32 32 j6_4 rfl) (m_up mm6 (t_add e6 i3 (in_c 1 rfl) rfl) (in_w 1 1 (in_c 1 rfl) rfl))))
  refine g_enter2 (k := 416) (N := 30601) (by omega) rfl (Nat.le_of_ble_eq_true rfl) ?_
  refine g_iconst 0 1 (gd rfl) rfl rfl ?_
  refine g_istore_n 2 (gd rfl) rfl (Nat.le_of_ble_eq_true rfl) ?_
  refine g_aload_n 3 (gd rfl) rfl rfl ?_
  refine g_alen (n := 32) (t := 1) 32 4 (gd rfl) rfl rfl (Nat.le_of_ble_eq_true rfl) rfl ?_
  refine g_istore 6 (gd rfl) rfl (Nat.le_of_ble_eq_true rfl) ?_
  exact gg_w (by omega) (gg_f (gf_cons rfl (gf_cons rfl (gf_cons rfl (gf_cons rfl gf_nil)))) (ct6 33 s x1 (Int32.ofInt 0) (Int32.ofInt 32) hI (in_w 0 32 (in_c 0 rfl) rfl) (in_w 32 32 (in_c 32 rfl) rfl) (m_in 33 (in_w 0 32 (in_c 0 rfl) rfl) rfl)))

/-- java/util/Arrays.fill -/
theorem k_416_100 {Z : AmZ} {A : Nat → Nat} {s : GS} {ex : va_W} {d : Nat} {X : AmX} {x1 : Int64} (hd : 1 ≤ d) (hI : Inv s)  : GC Z d 416 [.ref (A 100), .long x1] (WW Z A s ++ ex) 0 0 (fun v u => ∃ t : GS, Inv t ∧ v = none ∧ u = WW Z A t ++ ex) X := by
  intro post xp hP hX
  have ct6 : ∀ (k6 : Nat) (s : GS) (y6_1 : Int64) (y6_3 : Int32) (y6_4 : Int32), Inv s → In y6_3 0 32 → In y6_4 32 32 → 32 - (y6_3).toInt < (k6 : Int) → GG Z (d - 1) 416 post (gx xp) (1 + k6 * 900) 6 (fun j => xlook j [(0, .ref (A 100)), (1, .long y6_1), (3, .int y6_3), (4, .int y6_4)]) [] (WW Z A s ++ ex) 0 0 := by
    intro k6
    induction k6 with
    | zero => intro s y6_1 y6_3 y6_4 hI j6_3 j6_4 mm6; exact m_no mm6 j6_3 rfl
    | succ k6 ih6 =>
      intro s y6_1 y6_3 y6_4 hI j6_3 j6_4 mm6
      refine gg_w (M := 1 + k6 * 900 + 900) (by omega) ?_
      refine g_iload_n 7 (gd rfl) rfl rfl ?_
      refine g_iload 9 (gd rfl) rfl rfl ?_
      refine g_cmp_ge 12 22 (gd rfl) rfl rfl (fun c1 => ?_) (fun c1 => ?_)
      · skip
        have i2 := r_le2 32 32 c1 j6_4 j6_3 rfl
        exact g_return (gd rfl) rfl (hP _ _ ⟨s, hI, rfl, rfl⟩)
      · skip
        have i3 := r_lt1 0 31 c1 j6_3 j6_4 rfl
        refine g_aload_n 13 (gd rfl) rfl rfl ?_
        refine g_iload_n 14 (gd rfl) rfl rfl ?_
        refine g_lload_n 15 (gd rfl) rfl rfl ?_
        refine g_lastore 16 (gd rfl) rfl (n := 32) rfl (in_ix i3 rfl) ?_
        have hI4 := inv_sL (q := 100) (j := y6_3.toNatClampNeg) (x := y6_1) hI
        refine g_iinc 19 (gd rfl) rfl rfl (Nat.le_of_ble_eq_true rfl) (fun z5 e6 => ?_)
        have i7 := in_add 1 32 e6 i3 (in_c 1 rfl) rfl rfl
        refine g_goto 6 (gd rfl) rfl ?_
        exact gg_w (by omega) (gg_f (gf_cons rfl (gf_cons rfl (gf_cons rfl (gf_cons rfl gf_nil)))) (ih6 (sL s 100 y6_3.toNatClampNeg y6_1) y6_1 z5 y6_4 hI4 (in_w 0 32 i7 rfl) (in_w 32 32 j6_4 rfl) (m_up mm6 (t_add e6 i3 (in_c 1 rfl) rfl) (in_w 1 1 (in_c 1 rfl) rfl))))
  refine g_enter2 (k := 416) (N := 30601) (by omega) rfl (Nat.le_of_ble_eq_true rfl) ?_
  refine g_iconst 0 1 (gd rfl) rfl rfl ?_
  refine g_istore_n 2 (gd rfl) rfl (Nat.le_of_ble_eq_true rfl) ?_
  refine g_aload_n 3 (gd rfl) rfl rfl ?_
  refine g_alen (n := 32) (t := 1) 32 4 (gd rfl) rfl rfl (Nat.le_of_ble_eq_true rfl) rfl ?_
  refine g_istore 6 (gd rfl) rfl (Nat.le_of_ble_eq_true rfl) ?_
  exact gg_w (by omega) (gg_f (gf_cons rfl (gf_cons rfl (gf_cons rfl (gf_cons rfl gf_nil)))) (ct6 33 s x1 (Int32.ofInt 0) (Int32.ofInt 32) hI (in_w 0 32 (in_c 0 rfl) rfl) (in_w 32 32 (in_c 32 rfl) rfl) (m_in 33 (in_w 0 32 (in_c 0 rfl) rfl) rfl)))

/-- java/util/Arrays.fill -/
theorem k_416_101 {Z : AmZ} {A : Nat → Nat} {s : GS} {ex : va_W} {d : Nat} {X : AmX} {x1 : Int64} (hd : 1 ≤ d) (hI : Inv s)  : GC Z d 416 [.ref (A 101), .long x1] (WW Z A s ++ ex) 0 0 (fun v u => ∃ t : GS, Inv t ∧ v = none ∧ u = WW Z A t ++ ex) X := by
  intro post xp hP hX
  have ct6 : ∀ (k6 : Nat) (s : GS) (y6_1 : Int64) (y6_3 : Int32) (y6_4 : Int32), Inv s → In y6_3 0 32 → In y6_4 32 32 → 32 - (y6_3).toInt < (k6 : Int) → GG Z (d - 1) 416 post (gx xp) (1 + k6 * 900) 6 (fun j => xlook j [(0, .ref (A 101)), (1, .long y6_1), (3, .int y6_3), (4, .int y6_4)]) [] (WW Z A s ++ ex) 0 0 := by
    intro k6
    induction k6 with
    | zero => intro s y6_1 y6_3 y6_4 hI j6_3 j6_4 mm6; exact m_no mm6 j6_3 rfl
    | succ k6 ih6 =>
      intro s y6_1 y6_3 y6_4 hI j6_3 j6_4 mm6
      refine gg_w (M := 1 + k6 * 900 + 900) (by omega) ?_
      refine g_iload_n 7 (gd rfl) rfl rfl ?_
      refine g_iload 9 (gd rfl) rfl rfl ?_
      refine g_cmp_ge 12 22 (gd rfl) rfl rfl (fun c1 => ?_) (fun c1 => ?_)
      · skip
        have i2 := r_le2 32 32 c1 j6_4 j6_3 rfl
        exact g_return (gd rfl) rfl (hP _ _ ⟨s, hI, rfl, rfl⟩)
      · skip
        have i3 := r_lt1 0 31 c1 j6_3 j6_4 rfl
        refine g_aload_n 13 (gd rfl) rfl rfl ?_
        refine g_iload_n 14 (gd rfl) rfl rfl ?_
        refine g_lload_n 15 (gd rfl) rfl rfl ?_
        refine g_lastore 16 (gd rfl) rfl (n := 32) rfl (in_ix i3 rfl) ?_
        have hI4 := inv_sL (q := 101) (j := y6_3.toNatClampNeg) (x := y6_1) hI
        refine g_iinc 19 (gd rfl) rfl rfl (Nat.le_of_ble_eq_true rfl) (fun z5 e6 => ?_)
        have i7 := in_add 1 32 e6 i3 (in_c 1 rfl) rfl rfl
        refine g_goto 6 (gd rfl) rfl ?_
        exact gg_w (by omega) (gg_f (gf_cons rfl (gf_cons rfl (gf_cons rfl (gf_cons rfl gf_nil)))) (ih6 (sL s 101 y6_3.toNatClampNeg y6_1) y6_1 z5 y6_4 hI4 (in_w 0 32 i7 rfl) (in_w 32 32 j6_4 rfl) (m_up mm6 (t_add e6 i3 (in_c 1 rfl) rfl) (in_w 1 1 (in_c 1 rfl) rfl))))
  refine g_enter2 (k := 416) (N := 30601) (by omega) rfl (Nat.le_of_ble_eq_true rfl) ?_
  refine g_iconst 0 1 (gd rfl) rfl rfl ?_
  refine g_istore_n 2 (gd rfl) rfl (Nat.le_of_ble_eq_true rfl) ?_
  refine g_aload_n 3 (gd rfl) rfl rfl ?_
  refine g_alen (n := 32) (t := 1) 32 4 (gd rfl) rfl rfl (Nat.le_of_ble_eq_true rfl) rfl ?_
  refine g_istore 6 (gd rfl) rfl (Nat.le_of_ble_eq_true rfl) ?_
  exact gg_w (by omega) (gg_f (gf_cons rfl (gf_cons rfl (gf_cons rfl (gf_cons rfl gf_nil)))) (ct6 33 s x1 (Int32.ofInt 0) (Int32.ofInt 32) hI (in_w 0 32 (in_c 0 rfl) rfl) (in_w 32 32 (in_c 32 rfl) rfl) (m_in 33 (in_w 0 32 (in_c 0 rfl) rfl) rfl)))

/-- java/util/Arrays.fill -/
theorem k_416_108 {Z : AmZ} {A : Nat → Nat} {s : GS} {ex : va_W} {d : Nat} {X : AmX} {x1 : Int64} (hd : 1 ≤ d) (hI : Inv s)  : GC Z d 416 [.ref (A 108), .long x1] (WW Z A s ++ ex) 0 0 (fun v u => ∃ t : GS, Inv t ∧ v = none ∧ u = WW Z A t ++ ex) X := by
  intro post xp hP hX
  have ct6 : ∀ (k6 : Nat) (s : GS) (y6_1 : Int64) (y6_3 : Int32) (y6_4 : Int32), Inv s → In y6_3 0 32 → In y6_4 32 32 → 32 - (y6_3).toInt < (k6 : Int) → GG Z (d - 1) 416 post (gx xp) (1 + k6 * 900) 6 (fun j => xlook j [(0, .ref (A 108)), (1, .long y6_1), (3, .int y6_3), (4, .int y6_4)]) [] (WW Z A s ++ ex) 0 0 := by
    intro k6
    induction k6 with
    | zero => intro s y6_1 y6_3 y6_4 hI j6_3 j6_4 mm6; exact m_no mm6 j6_3 rfl
    | succ k6 ih6 =>
      intro s y6_1 y6_3 y6_4 hI j6_3 j6_4 mm6
      refine gg_w (M := 1 + k6 * 900 + 900) (by omega) ?_
      refine g_iload_n 7 (gd rfl) rfl rfl ?_
      refine g_iload 9 (gd rfl) rfl rfl ?_
      refine g_cmp_ge 12 22 (gd rfl) rfl rfl (fun c1 => ?_) (fun c1 => ?_)
      · skip
        have i2 := r_le2 32 32 c1 j6_4 j6_3 rfl
        exact g_return (gd rfl) rfl (hP _ _ ⟨s, hI, rfl, rfl⟩)
      · skip
        have i3 := r_lt1 0 31 c1 j6_3 j6_4 rfl
        refine g_aload_n 13 (gd rfl) rfl rfl ?_
        refine g_iload_n 14 (gd rfl) rfl rfl ?_
        refine g_lload_n 15 (gd rfl) rfl rfl ?_
        refine g_lastore 16 (gd rfl) rfl (n := 32) rfl (in_ix i3 rfl) ?_
        have hI4 := inv_sL (q := 108) (j := y6_3.toNatClampNeg) (x := y6_1) hI
        refine g_iinc 19 (gd rfl) rfl rfl (Nat.le_of_ble_eq_true rfl) (fun z5 e6 => ?_)
        have i7 := in_add 1 32 e6 i3 (in_c 1 rfl) rfl rfl
        refine g_goto 6 (gd rfl) rfl ?_
        exact gg_w (by omega) (gg_f (gf_cons rfl (gf_cons rfl (gf_cons rfl (gf_cons rfl gf_nil)))) (ih6 (sL s 108 y6_3.toNatClampNeg y6_1) y6_1 z5 y6_4 hI4 (in_w 0 32 i7 rfl) (in_w 32 32 j6_4 rfl) (m_up mm6 (t_add e6 i3 (in_c 1 rfl) rfl) (in_w 1 1 (in_c 1 rfl) rfl))))
  refine g_enter2 (k := 416) (N := 30601) (by omega) rfl (Nat.le_of_ble_eq_true rfl) ?_
  refine g_iconst 0 1 (gd rfl) rfl rfl ?_
  refine g_istore_n 2 (gd rfl) rfl (Nat.le_of_ble_eq_true rfl) ?_
  refine g_aload_n 3 (gd rfl) rfl rfl ?_
  refine g_alen (n := 32) (t := 1) 32 4 (gd rfl) rfl rfl (Nat.le_of_ble_eq_true rfl) rfl ?_
  refine g_istore 6 (gd rfl) rfl (Nat.le_of_ble_eq_true rfl) ?_
  exact gg_w (by omega) (gg_f (gf_cons rfl (gf_cons rfl (gf_cons rfl (gf_cons rfl gf_nil)))) (ct6 33 s x1 (Int32.ofInt 0) (Int32.ofInt 32) hI (in_w 0 32 (in_c 0 rfl) rfl) (in_w 32 32 (in_c 32 rfl) rfl) (m_in 33 (in_w 0 32 (in_c 0 rfl) rfl) rfl)))

/-- java/util/Arrays.fill -/
theorem k_417_9 {Z : AmZ} {A : Nat → Nat} {s : GS} {ex : va_W} {d : Nat} {X : AmX} {x1 : Int32} (hd : 1 ≤ d) (hI : Inv s) (h1 : In x1 0 0) : GC Z d 417 [.ref (A 9), .int x1] (WW Z A s ++ ex) 0 0 (fun v u => ∃ t : GS, Inv t ∧ v = none ∧ u = WW Z A t ++ ex) X := by
  intro post xp hP hX
  have ct5 : ∀ (k5 : Nat) (s : GS) (y5_1 : Int32) (y5_2 : Int32) (y5_3 : Int32), Inv s → In y5_1 0 0 → In y5_2 0 32 → In y5_3 32 32 → 32 - (y5_2).toInt < (k5 : Int) → GG Z (d - 1) 417 post (gx xp) (1 + k5 * 900) 5 (fun j => xlook j [(0, .ref (A 9)), (1, .int y5_1), (2, .int y5_2), (3, .int y5_3)]) [] (WW Z A s ++ ex) 0 0 := by
    intro k5
    induction k5 with
    | zero => intro s y5_1 y5_2 y5_3 hI j5_1 j5_2 j5_3 mm5; exact m_no mm5 j5_2 rfl
    | succ k5 ih5 =>
      intro s y5_1 y5_2 y5_3 hI j5_1 j5_2 j5_3 mm5
      refine gg_w (M := 1 + k5 * 900 + 900) (by omega) ?_
      refine g_iload_n 6 (gd rfl) rfl rfl ?_
      refine g_iload_n 7 (gd rfl) rfl rfl ?_
      refine g_cmp_ge 10 20 (gd rfl) rfl rfl (fun c1 => ?_) (fun c1 => ?_)
      · skip
        have i2 := r_le2 32 32 c1 j5_3 j5_2 rfl
        exact g_return (gd rfl) rfl (hP _ _ ⟨s, hI, rfl, rfl⟩)
      · skip
        have i3 := r_lt1 0 31 c1 j5_2 j5_3 rfl
        refine g_aload_n 11 (gd rfl) rfl rfl ?_
        refine g_iload_n 12 (gd rfl) rfl rfl ?_
        refine g_iload_n 13 (gd rfl) rfl rfl ?_
        refine g_iastore 14 (gd rfl) rfl (n := 32) rfl (in_ix i3 rfl) ?_
        have hI4 := inv_sI (q := 9) (j := y5_2.toNatClampNeg) hI rfl (in_w (-2147483648) 2147483647 j5_1 rfl)
        refine g_iinc 17 (gd rfl) rfl rfl (Nat.le_of_ble_eq_true rfl) (fun z5 e6 => ?_)
        have i7 := in_add 1 32 e6 i3 (in_c 1 rfl) rfl rfl
        refine g_goto 5 (gd rfl) rfl ?_
        exact gg_w (by omega) (gg_f (gf_cons rfl (gf_cons rfl (gf_cons rfl (gf_cons rfl gf_nil)))) (ih5 (sI s 9 y5_2.toNatClampNeg y5_1) y5_1 z5 y5_3 hI4 (in_w 0 0 j5_1 rfl) (in_w 0 32 i7 rfl) (in_w 32 32 j5_3 rfl) (m_up mm5 (t_add e6 i3 (in_c 1 rfl) rfl) (in_w 1 1 (in_c 1 rfl) rfl))))
  refine g_enter2 (k := 417) (N := 30601) (by omega) rfl (Nat.le_of_ble_eq_true rfl) ?_
  refine g_iconst 0 1 (gd rfl) rfl rfl ?_
  refine g_istore_n 2 (gd rfl) rfl (Nat.le_of_ble_eq_true rfl) ?_
  refine g_aload_n 3 (gd rfl) rfl rfl ?_
  refine g_alen (n := 32) (t := 0) 32 4 (gd rfl) rfl rfl (Nat.le_of_ble_eq_true rfl) rfl ?_
  refine g_istore_n 5 (gd rfl) rfl (Nat.le_of_ble_eq_true rfl) ?_
  exact gg_w (by omega) (gg_f (gf_cons rfl (gf_cons rfl (gf_cons rfl (gf_cons rfl gf_nil)))) (ct5 33 s x1 (Int32.ofInt 0) (Int32.ofInt 32) hI (in_w 0 0 h1 rfl) (in_w 0 32 (in_c 0 rfl) rfl) (in_w 32 32 (in_c 32 rfl) rfl) (m_in 33 (in_w 0 32 (in_c 0 rfl) rfl) rfl)))

/-- java/util/Arrays.fill -/
theorem k_417_10 {Z : AmZ} {A : Nat → Nat} {s : GS} {ex : va_W} {d : Nat} {X : AmX} {x1 : Int32} (hd : 1 ≤ d) (hI : Inv s) (h1 : In x1 0 0) : GC Z d 417 [.ref (A 10), .int x1] (WW Z A s ++ ex) 0 0 (fun v u => ∃ t : GS, Inv t ∧ v = none ∧ u = WW Z A t ++ ex) X := by
  intro post xp hP hX
  have ct5 : ∀ (k5 : Nat) (s : GS) (y5_1 : Int32) (y5_2 : Int32) (y5_3 : Int32), Inv s → In y5_1 0 0 → In y5_2 0 32 → In y5_3 32 32 → 32 - (y5_2).toInt < (k5 : Int) → GG Z (d - 1) 417 post (gx xp) (1 + k5 * 900) 5 (fun j => xlook j [(0, .ref (A 10)), (1, .int y5_1), (2, .int y5_2), (3, .int y5_3)]) [] (WW Z A s ++ ex) 0 0 := by
    intro k5
    induction k5 with
    | zero => intro s y5_1 y5_2 y5_3 hI j5_1 j5_2 j5_3 mm5; exact m_no mm5 j5_2 rfl
    | succ k5 ih5 =>
      intro s y5_1 y5_2 y5_3 hI j5_1 j5_2 j5_3 mm5
      refine gg_w (M := 1 + k5 * 900 + 900) (by omega) ?_
      refine g_iload_n 6 (gd rfl) rfl rfl ?_
      refine g_iload_n 7 (gd rfl) rfl rfl ?_
      refine g_cmp_ge 10 20 (gd rfl) rfl rfl (fun c1 => ?_) (fun c1 => ?_)
      · skip
        have i2 := r_le2 32 32 c1 j5_3 j5_2 rfl
        exact g_return (gd rfl) rfl (hP _ _ ⟨s, hI, rfl, rfl⟩)
      · skip
        have i3 := r_lt1 0 31 c1 j5_2 j5_3 rfl
        refine g_aload_n 11 (gd rfl) rfl rfl ?_
        refine g_iload_n 12 (gd rfl) rfl rfl ?_
        refine g_iload_n 13 (gd rfl) rfl rfl ?_
        refine g_iastore 14 (gd rfl) rfl (n := 32) rfl (in_ix i3 rfl) ?_
        have hI4 := inv_sI (q := 10) (j := y5_2.toNatClampNeg) hI rfl (in_w (-2147483648) 2147483647 j5_1 rfl)
        refine g_iinc 17 (gd rfl) rfl rfl (Nat.le_of_ble_eq_true rfl) (fun z5 e6 => ?_)
        have i7 := in_add 1 32 e6 i3 (in_c 1 rfl) rfl rfl
        refine g_goto 5 (gd rfl) rfl ?_
        exact gg_w (by omega) (gg_f (gf_cons rfl (gf_cons rfl (gf_cons rfl (gf_cons rfl gf_nil)))) (ih5 (sI s 10 y5_2.toNatClampNeg y5_1) y5_1 z5 y5_3 hI4 (in_w 0 0 j5_1 rfl) (in_w 0 32 i7 rfl) (in_w 32 32 j5_3 rfl) (m_up mm5 (t_add e6 i3 (in_c 1 rfl) rfl) (in_w 1 1 (in_c 1 rfl) rfl))))
  refine g_enter2 (k := 417) (N := 30601) (by omega) rfl (Nat.le_of_ble_eq_true rfl) ?_
  refine g_iconst 0 1 (gd rfl) rfl rfl ?_
  refine g_istore_n 2 (gd rfl) rfl (Nat.le_of_ble_eq_true rfl) ?_
  refine g_aload_n 3 (gd rfl) rfl rfl ?_
  refine g_alen (n := 32) (t := 0) 32 4 (gd rfl) rfl rfl (Nat.le_of_ble_eq_true rfl) rfl ?_
  refine g_istore_n 5 (gd rfl) rfl (Nat.le_of_ble_eq_true rfl) ?_
  exact gg_w (by omega) (gg_f (gf_cons rfl (gf_cons rfl (gf_cons rfl (gf_cons rfl gf_nil)))) (ct5 33 s x1 (Int32.ofInt 0) (Int32.ofInt 32) hI (in_w 0 0 h1 rfl) (in_w 0 32 (in_c 0 rfl) rfl) (in_w 32 32 (in_c 32 rfl) rfl) (m_in 33 (in_w 0 32 (in_c 0 rfl) rfl) rfl)))

/-- java/util/Arrays.fill -/
theorem k_417_11 {Z : AmZ} {A : Nat → Nat} {s : GS} {ex : va_W} {d : Nat} {X : AmX} {x1 : Int32} (hd : 1 ≤ d) (hI : Inv s) (h1 : In x1 0 0) : GC Z d 417 [.ref (A 11), .int x1] (WW Z A s ++ ex) 0 0 (fun v u => ∃ t : GS, Inv t ∧ v = none ∧ u = WW Z A t ++ ex) X := by
  intro post xp hP hX
  have ct5 : ∀ (k5 : Nat) (s : GS) (y5_1 : Int32) (y5_2 : Int32) (y5_3 : Int32), Inv s → In y5_1 0 0 → In y5_2 0 32 → In y5_3 32 32 → 32 - (y5_2).toInt < (k5 : Int) → GG Z (d - 1) 417 post (gx xp) (1 + k5 * 900) 5 (fun j => xlook j [(0, .ref (A 11)), (1, .int y5_1), (2, .int y5_2), (3, .int y5_3)]) [] (WW Z A s ++ ex) 0 0 := by
    intro k5
    induction k5 with
    | zero => intro s y5_1 y5_2 y5_3 hI j5_1 j5_2 j5_3 mm5; exact m_no mm5 j5_2 rfl
    | succ k5 ih5 =>
      intro s y5_1 y5_2 y5_3 hI j5_1 j5_2 j5_3 mm5
      refine gg_w (M := 1 + k5 * 900 + 900) (by omega) ?_
      refine g_iload_n 6 (gd rfl) rfl rfl ?_
      refine g_iload_n 7 (gd rfl) rfl rfl ?_
      refine g_cmp_ge 10 20 (gd rfl) rfl rfl (fun c1 => ?_) (fun c1 => ?_)
      · skip
        have i2 := r_le2 32 32 c1 j5_3 j5_2 rfl
        exact g_return (gd rfl) rfl (hP _ _ ⟨s, hI, rfl, rfl⟩)
      · skip
        have i3 := r_lt1 0 31 c1 j5_2 j5_3 rfl
        refine g_aload_n 11 (gd rfl) rfl rfl ?_
        refine g_iload_n 12 (gd rfl) rfl rfl ?_
        refine g_iload_n 13 (gd rfl) rfl rfl ?_
        refine g_iastore 14 (gd rfl) rfl (n := 32) rfl (in_ix i3 rfl) ?_
        have hI4 := inv_sI (q := 11) (j := y5_2.toNatClampNeg) hI rfl (in_w (-2147483648) 2147483647 j5_1 rfl)
        refine g_iinc 17 (gd rfl) rfl rfl (Nat.le_of_ble_eq_true rfl) (fun z5 e6 => ?_)
        have i7 := in_add 1 32 e6 i3 (in_c 1 rfl) rfl rfl
        refine g_goto 5 (gd rfl) rfl ?_
        exact gg_w (by omega) (gg_f (gf_cons rfl (gf_cons rfl (gf_cons rfl (gf_cons rfl gf_nil)))) (ih5 (sI s 11 y5_2.toNatClampNeg y5_1) y5_1 z5 y5_3 hI4 (in_w 0 0 j5_1 rfl) (in_w 0 32 i7 rfl) (in_w 32 32 j5_3 rfl) (m_up mm5 (t_add e6 i3 (in_c 1 rfl) rfl) (in_w 1 1 (in_c 1 rfl) rfl))))
  refine g_enter2 (k := 417) (N := 30601) (by omega) rfl (Nat.le_of_ble_eq_true rfl) ?_
  refine g_iconst 0 1 (gd rfl) rfl rfl ?_
  refine g_istore_n 2 (gd rfl) rfl (Nat.le_of_ble_eq_true rfl) ?_
  refine g_aload_n 3 (gd rfl) rfl rfl ?_
  refine g_alen (n := 32) (t := 0) 32 4 (gd rfl) rfl rfl (Nat.le_of_ble_eq_true rfl) rfl ?_
  refine g_istore_n 5 (gd rfl) rfl (Nat.le_of_ble_eq_true rfl) ?_
  exact gg_w (by omega) (gg_f (gf_cons rfl (gf_cons rfl (gf_cons rfl (gf_cons rfl gf_nil)))) (ct5 33 s x1 (Int32.ofInt 0) (Int32.ofInt 32) hI (in_w 0 0 h1 rfl) (in_w 0 32 (in_c 0 rfl) rfl) (in_w 32 32 (in_c 32 rfl) rfl) (m_in 33 (in_w 0 32 (in_c 0 rfl) rfl) rfl)))

/-- java/util/Arrays.fill -/
theorem k_417_12 {Z : AmZ} {A : Nat → Nat} {s : GS} {ex : va_W} {d : Nat} {X : AmX} {x1 : Int32} (hd : 1 ≤ d) (hI : Inv s) (h1 : In x1 0 0) : GC Z d 417 [.ref (A 12), .int x1] (WW Z A s ++ ex) 0 0 (fun v u => ∃ t : GS, Inv t ∧ v = none ∧ u = WW Z A t ++ ex) X := by
  intro post xp hP hX
  have ct5 : ∀ (k5 : Nat) (s : GS) (y5_1 : Int32) (y5_2 : Int32) (y5_3 : Int32), Inv s → In y5_1 0 0 → In y5_2 0 33 → In y5_3 33 33 → 33 - (y5_2).toInt < (k5 : Int) → GG Z (d - 1) 417 post (gx xp) (1 + k5 * 900) 5 (fun j => xlook j [(0, .ref (A 12)), (1, .int y5_1), (2, .int y5_2), (3, .int y5_3)]) [] (WW Z A s ++ ex) 0 0 := by
    intro k5
    induction k5 with
    | zero => intro s y5_1 y5_2 y5_3 hI j5_1 j5_2 j5_3 mm5; exact m_no mm5 j5_2 rfl
    | succ k5 ih5 =>
      intro s y5_1 y5_2 y5_3 hI j5_1 j5_2 j5_3 mm5
      refine gg_w (M := 1 + k5 * 900 + 900) (by omega) ?_
      refine g_iload_n 6 (gd rfl) rfl rfl ?_
      refine g_iload_n 7 (gd rfl) rfl rfl ?_
      refine g_cmp_ge 10 20 (gd rfl) rfl rfl (fun c1 => ?_) (fun c1 => ?_)
      · skip
        have i2 := r_le2 33 33 c1 j5_3 j5_2 rfl
        exact g_return (gd rfl) rfl (hP _ _ ⟨s, hI, rfl, rfl⟩)
      · skip
        have i3 := r_lt1 0 32 c1 j5_2 j5_3 rfl
        refine g_aload_n 11 (gd rfl) rfl rfl ?_
        refine g_iload_n 12 (gd rfl) rfl rfl ?_
        refine g_iload_n 13 (gd rfl) rfl rfl ?_
        refine g_iastore 14 (gd rfl) rfl (n := 33) rfl (in_ix i3 rfl) ?_
        have hI4 := inv_sI (q := 12) (j := y5_2.toNatClampNeg) hI rfl (in_w 0 160 j5_1 rfl)
        refine g_iinc 17 (gd rfl) rfl rfl (Nat.le_of_ble_eq_true rfl) (fun z5 e6 => ?_)
        have i7 := in_add 1 33 e6 i3 (in_c 1 rfl) rfl rfl
        refine g_goto 5 (gd rfl) rfl ?_
        exact gg_w (by omega) (gg_f (gf_cons rfl (gf_cons rfl (gf_cons rfl (gf_cons rfl gf_nil)))) (ih5 (sI s 12 y5_2.toNatClampNeg y5_1) y5_1 z5 y5_3 hI4 (in_w 0 0 j5_1 rfl) (in_w 0 33 i7 rfl) (in_w 33 33 j5_3 rfl) (m_up mm5 (t_add e6 i3 (in_c 1 rfl) rfl) (in_w 1 1 (in_c 1 rfl) rfl))))
  refine g_enter2 (k := 417) (N := 31501) (by omega) rfl (Nat.le_of_ble_eq_true rfl) ?_
  refine g_iconst 0 1 (gd rfl) rfl rfl ?_
  refine g_istore_n 2 (gd rfl) rfl (Nat.le_of_ble_eq_true rfl) ?_
  refine g_aload_n 3 (gd rfl) rfl rfl ?_
  refine g_alen (n := 33) (t := 0) 33 4 (gd rfl) rfl rfl (Nat.le_of_ble_eq_true rfl) rfl ?_
  refine g_istore_n 5 (gd rfl) rfl (Nat.le_of_ble_eq_true rfl) ?_
  exact gg_w (by omega) (gg_f (gf_cons rfl (gf_cons rfl (gf_cons rfl (gf_cons rfl gf_nil)))) (ct5 34 s x1 (Int32.ofInt 0) (Int32.ofInt 33) hI (in_w 0 0 h1 rfl) (in_w 0 33 (in_c 0 rfl) rfl) (in_w 33 33 (in_c 33 rfl) rfl) (m_in 34 (in_w 0 33 (in_c 0 rfl) rfl) rfl)))

/-- java/util/Arrays.fill -/
theorem k_417_14 {Z : AmZ} {A : Nat → Nat} {s : GS} {ex : va_W} {d : Nat} {X : AmX} {x1 : Int32} (hd : 1 ≤ d) (hI : Inv s) (h1 : In x1 0 0) : GC Z d 417 [.ref (A 14), .int x1] (WW Z A s ++ ex) 0 0 (fun v u => ∃ t : GS, Inv t ∧ v = none ∧ u = WW Z A t ++ ex) X := by
  intro post xp hP hX
  have ct5 : ∀ (k5 : Nat) (s : GS) (y5_1 : Int32) (y5_2 : Int32) (y5_3 : Int32), Inv s → In y5_1 0 0 → In y5_2 0 33 → In y5_3 33 33 → 33 - (y5_2).toInt < (k5 : Int) → GG Z (d - 1) 417 post (gx xp) (1 + k5 * 900) 5 (fun j => xlook j [(0, .ref (A 14)), (1, .int y5_1), (2, .int y5_2), (3, .int y5_3)]) [] (WW Z A s ++ ex) 0 0 := by
    intro k5
    induction k5 with
    | zero => intro s y5_1 y5_2 y5_3 hI j5_1 j5_2 j5_3 mm5; exact m_no mm5 j5_2 rfl
    | succ k5 ih5 =>
      intro s y5_1 y5_2 y5_3 hI j5_1 j5_2 j5_3 mm5
      refine gg_w (M := 1 + k5 * 900 + 900) (by omega) ?_
      refine g_iload_n 6 (gd rfl) rfl rfl ?_
      refine g_iload_n 7 (gd rfl) rfl rfl ?_
      refine g_cmp_ge 10 20 (gd rfl) rfl rfl (fun c1 => ?_) (fun c1 => ?_)
      · skip
        have i2 := r_le2 33 33 c1 j5_3 j5_2 rfl
        exact g_return (gd rfl) rfl (hP _ _ ⟨s, hI, rfl, rfl⟩)
      · skip
        have i3 := r_lt1 0 32 c1 j5_2 j5_3 rfl
        refine g_aload_n 11 (gd rfl) rfl rfl ?_
        refine g_iload_n 12 (gd rfl) rfl rfl ?_
        refine g_iload_n 13 (gd rfl) rfl rfl ?_
        refine g_iastore 14 (gd rfl) rfl (n := 33) rfl (in_ix i3 rfl) ?_
        have hI4 := inv_sI (q := 14) (j := y5_2.toNatClampNeg) hI rfl (in_w 0 160 j5_1 rfl)
        refine g_iinc 17 (gd rfl) rfl rfl (Nat.le_of_ble_eq_true rfl) (fun z5 e6 => ?_)
        have i7 := in_add 1 33 e6 i3 (in_c 1 rfl) rfl rfl
        refine g_goto 5 (gd rfl) rfl ?_
        exact gg_w (by omega) (gg_f (gf_cons rfl (gf_cons rfl (gf_cons rfl (gf_cons rfl gf_nil)))) (ih5 (sI s 14 y5_2.toNatClampNeg y5_1) y5_1 z5 y5_3 hI4 (in_w 0 0 j5_1 rfl) (in_w 0 33 i7 rfl) (in_w 33 33 j5_3 rfl) (m_up mm5 (t_add e6 i3 (in_c 1 rfl) rfl) (in_w 1 1 (in_c 1 rfl) rfl))))
  refine g_enter2 (k := 417) (N := 31501) (by omega) rfl (Nat.le_of_ble_eq_true rfl) ?_
  refine g_iconst 0 1 (gd rfl) rfl rfl ?_
  refine g_istore_n 2 (gd rfl) rfl (Nat.le_of_ble_eq_true rfl) ?_
  refine g_aload_n 3 (gd rfl) rfl rfl ?_
  refine g_alen (n := 33) (t := 0) 33 4 (gd rfl) rfl rfl (Nat.le_of_ble_eq_true rfl) rfl ?_
  refine g_istore_n 5 (gd rfl) rfl (Nat.le_of_ble_eq_true rfl) ?_
  exact gg_w (by omega) (gg_f (gf_cons rfl (gf_cons rfl (gf_cons rfl (gf_cons rfl gf_nil)))) (ct5 34 s x1 (Int32.ofInt 0) (Int32.ofInt 33) hI (in_w 0 0 h1 rfl) (in_w 0 33 (in_c 0 rfl) rfl) (in_w 33 33 (in_c 33 rfl) rfl) (m_in 34 (in_w 0 33 (in_c 0 rfl) rfl) rfl)))

/-- java/util/Arrays.fill -/
theorem k_417_34 {Z : AmZ} {A : Nat → Nat} {s : GS} {ex : va_W} {d : Nat} {X : AmX} {x1 : Int32} (hd : 1 ≤ d) (hI : Inv s) (h1 : In x1 (-1) (-1)) : GC Z d 417 [.ref (A 34), .int x1] (WW Z A s ++ ex) 0 0 (fun v u => ∃ t : GS, Inv t ∧ v = none ∧ u = WW Z A t ++ ex) X := by
  intro post xp hP hX
  have ct5 : ∀ (k5 : Nat) (s : GS) (y5_1 : Int32) (y5_2 : Int32) (y5_3 : Int32), Inv s → In y5_1 (-1) (-1) → In y5_2 0 160 → In y5_3 160 160 → 160 - (y5_2).toInt < (k5 : Int) → GG Z (d - 1) 417 post (gx xp) (1 + k5 * 900) 5 (fun j => xlook j [(0, .ref (A 34)), (1, .int y5_1), (2, .int y5_2), (3, .int y5_3)]) [] (WW Z A s ++ ex) 0 0 := by
    intro k5
    induction k5 with
    | zero => intro s y5_1 y5_2 y5_3 hI j5_1 j5_2 j5_3 mm5; exact m_no mm5 j5_2 rfl
    | succ k5 ih5 =>
      intro s y5_1 y5_2 y5_3 hI j5_1 j5_2 j5_3 mm5
      refine gg_w (M := 1 + k5 * 900 + 900) (by omega) ?_
      refine g_iload_n 6 (gd rfl) rfl rfl ?_
      refine g_iload_n 7 (gd rfl) rfl rfl ?_
      refine g_cmp_ge 10 20 (gd rfl) rfl rfl (fun c1 => ?_) (fun c1 => ?_)
      · skip
        have i2 := r_le2 160 160 c1 j5_3 j5_2 rfl
        exact g_return (gd rfl) rfl (hP _ _ ⟨s, hI, rfl, rfl⟩)
      · skip
        have i3 := r_lt1 0 159 c1 j5_2 j5_3 rfl
        refine g_aload_n 11 (gd rfl) rfl rfl ?_
        refine g_iload_n 12 (gd rfl) rfl rfl ?_
        refine g_iload_n 13 (gd rfl) rfl rfl ?_
        refine g_iastore 14 (gd rfl) rfl (n := 160) rfl (in_ix i3 rfl) ?_
        have hI4 := inv_sI (q := 34) (j := y5_2.toNatClampNeg) hI rfl (in_w (-1) 31 j5_1 rfl)
        refine g_iinc 17 (gd rfl) rfl rfl (Nat.le_of_ble_eq_true rfl) (fun z5 e6 => ?_)
        have i7 := in_add 1 160 e6 i3 (in_c 1 rfl) rfl rfl
        refine g_goto 5 (gd rfl) rfl ?_
        exact gg_w (by omega) (gg_f (gf_cons rfl (gf_cons rfl (gf_cons rfl (gf_cons rfl gf_nil)))) (ih5 (sI s 34 y5_2.toNatClampNeg y5_1) y5_1 z5 y5_3 hI4 (in_w (-1) (-1) j5_1 rfl) (in_w 0 160 i7 rfl) (in_w 160 160 j5_3 rfl) (m_up mm5 (t_add e6 i3 (in_c 1 rfl) rfl) (in_w 1 1 (in_c 1 rfl) rfl))))
  refine g_enter2 (k := 417) (N := 145801) (by omega) rfl (Nat.le_of_ble_eq_true rfl) ?_
  refine g_iconst 0 1 (gd rfl) rfl rfl ?_
  refine g_istore_n 2 (gd rfl) rfl (Nat.le_of_ble_eq_true rfl) ?_
  refine g_aload_n 3 (gd rfl) rfl rfl ?_
  refine g_alen (n := 160) (t := 0) 160 4 (gd rfl) rfl rfl (Nat.le_of_ble_eq_true rfl) rfl ?_
  refine g_istore_n 5 (gd rfl) rfl (Nat.le_of_ble_eq_true rfl) ?_
  exact gg_w (by omega) (gg_f (gf_cons rfl (gf_cons rfl (gf_cons rfl (gf_cons rfl gf_nil)))) (ct5 161 s x1 (Int32.ofInt 0) (Int32.ofInt 160) hI (in_w (-1) (-1) h1 rfl) (in_w 0 160 (in_c 0 rfl) rfl) (in_w 160 160 (in_c 160 rfl) rfl) (m_in 161 (in_w 0 160 (in_c 0 rfl) rfl) rfl)))

/-- java/util/Arrays.fill -/
theorem k_417_39 {Z : AmZ} {A : Nat → Nat} {s : GS} {ex : va_W} {d : Nat} {X : AmX} {x1 : Int32} (hd : 1 ≤ d) (hI : Inv s) (h1 : In x1 0 0) : GC Z d 417 [.ref (A 39), .int x1] (WW Z A s ++ ex) 0 0 (fun v u => ∃ t : GS, Inv t ∧ v = none ∧ u = WW Z A t ++ ex) X := by
  intro post xp hP hX
  have ct5 : ∀ (k5 : Nat) (s : GS) (y5_1 : Int32) (y5_2 : Int32) (y5_3 : Int32), Inv s → In y5_1 0 0 → In y5_2 0 32 → In y5_3 32 32 → 32 - (y5_2).toInt < (k5 : Int) → GG Z (d - 1) 417 post (gx xp) (1 + k5 * 900) 5 (fun j => xlook j [(0, .ref (A 39)), (1, .int y5_1), (2, .int y5_2), (3, .int y5_3)]) [] (WW Z A s ++ ex) 0 0 := by
    intro k5
    induction k5 with
    | zero => intro s y5_1 y5_2 y5_3 hI j5_1 j5_2 j5_3 mm5; exact m_no mm5 j5_2 rfl
    | succ k5 ih5 =>
      intro s y5_1 y5_2 y5_3 hI j5_1 j5_2 j5_3 mm5
      refine gg_w (M := 1 + k5 * 900 + 900) (by omega) ?_
      refine g_iload_n 6 (gd rfl) rfl rfl ?_
      refine g_iload_n 7 (gd rfl) rfl rfl ?_
      refine g_cmp_ge 10 20 (gd rfl) rfl rfl (fun c1 => ?_) (fun c1 => ?_)
      · skip
        have i2 := r_le2 32 32 c1 j5_3 j5_2 rfl
        exact g_return (gd rfl) rfl (hP _ _ ⟨s, hI, rfl, rfl⟩)
      · skip
        have i3 := r_lt1 0 31 c1 j5_2 j5_3 rfl
        refine g_aload_n 11 (gd rfl) rfl rfl ?_
        refine g_iload_n 12 (gd rfl) rfl rfl ?_
        refine g_iload_n 13 (gd rfl) rfl rfl ?_
        refine g_iastore 14 (gd rfl) rfl (n := 32) rfl (in_ix i3 rfl) ?_
        have hI4 := inv_sI (q := 39) (j := y5_2.toNatClampNeg) hI rfl (in_w (-2147483648) 2147483647 j5_1 rfl)
        refine g_iinc 17 (gd rfl) rfl rfl (Nat.le_of_ble_eq_true rfl) (fun z5 e6 => ?_)
        have i7 := in_add 1 32 e6 i3 (in_c 1 rfl) rfl rfl
        refine g_goto 5 (gd rfl) rfl ?_
        exact gg_w (by omega) (gg_f (gf_cons rfl (gf_cons rfl (gf_cons rfl (gf_cons rfl gf_nil)))) (ih5 (sI s 39 y5_2.toNatClampNeg y5_1) y5_1 z5 y5_3 hI4 (in_w 0 0 j5_1 rfl) (in_w 0 32 i7 rfl) (in_w 32 32 j5_3 rfl) (m_up mm5 (t_add e6 i3 (in_c 1 rfl) rfl) (in_w 1 1 (in_c 1 rfl) rfl))))
  refine g_enter2 (k := 417) (N := 30601) (by omega) rfl (Nat.le_of_ble_eq_true rfl) ?_
  refine g_iconst 0 1 (gd rfl) rfl rfl ?_
  refine g_istore_n 2 (gd rfl) rfl (Nat.le_of_ble_eq_true rfl) ?_
  refine g_aload_n 3 (gd rfl) rfl rfl ?_
  refine g_alen (n := 32) (t := 0) 32 4 (gd rfl) rfl rfl (Nat.le_of_ble_eq_true rfl) rfl ?_
  refine g_istore_n 5 (gd rfl) rfl (Nat.le_of_ble_eq_true rfl) ?_
  exact gg_w (by omega) (gg_f (gf_cons rfl (gf_cons rfl (gf_cons rfl (gf_cons rfl gf_nil)))) (ct5 33 s x1 (Int32.ofInt 0) (Int32.ofInt 32) hI (in_w 0 0 h1 rfl) (in_w 0 32 (in_c 0 rfl) rfl) (in_w 32 32 (in_c 32 rfl) rfl) (m_in 33 (in_w 0 32 (in_c 0 rfl) rfl) rfl)))

/-- java/util/Arrays.fill -/
theorem k_417_40 {Z : AmZ} {A : Nat → Nat} {s : GS} {ex : va_W} {d : Nat} {X : AmX} {x1 : Int32} (hd : 1 ≤ d) (hI : Inv s) (h1 : In x1 0 0) : GC Z d 417 [.ref (A 40), .int x1] (WW Z A s ++ ex) 0 0 (fun v u => ∃ t : GS, Inv t ∧ v = none ∧ u = WW Z A t ++ ex) X := by
  intro post xp hP hX
  have ct5 : ∀ (k5 : Nat) (s : GS) (y5_1 : Int32) (y5_2 : Int32) (y5_3 : Int32), Inv s → In y5_1 0 0 → In y5_2 0 32 → In y5_3 32 32 → 32 - (y5_2).toInt < (k5 : Int) → GG Z (d - 1) 417 post (gx xp) (1 + k5 * 900) 5 (fun j => xlook j [(0, .ref (A 40)), (1, .int y5_1), (2, .int y5_2), (3, .int y5_3)]) [] (WW Z A s ++ ex) 0 0 := by
    intro k5
    induction k5 with
    | zero => intro s y5_1 y5_2 y5_3 hI j5_1 j5_2 j5_3 mm5; exact m_no mm5 j5_2 rfl
    | succ k5 ih5 =>
      intro s y5_1 y5_2 y5_3 hI j5_1 j5_2 j5_3 mm5
      refine gg_w (M := 1 + k5 * 900 + 900) (by omega) ?_
      refine g_iload_n 6 (gd rfl) rfl rfl ?_
      refine g_iload_n 7 (gd rfl) rfl rfl ?_
      refine g_cmp_ge 10 20 (gd rfl) rfl rfl (fun c1 => ?_) (fun c1 => ?_)
      · skip
        have i2 := r_le2 32 32 c1 j5_3 j5_2 rfl
        exact g_return (gd rfl) rfl (hP _ _ ⟨s, hI, rfl, rfl⟩)
      · skip
        have i3 := r_lt1 0 31 c1 j5_2 j5_3 rfl
        refine g_aload_n 11 (gd rfl) rfl rfl ?_
        refine g_iload_n 12 (gd rfl) rfl rfl ?_
        refine g_iload_n 13 (gd rfl) rfl rfl ?_
        refine g_iastore 14 (gd rfl) rfl (n := 32) rfl (in_ix i3 rfl) ?_
        have hI4 := inv_sI (q := 40) (j := y5_2.toNatClampNeg) hI rfl (in_w (-2147483648) 2147483647 j5_1 rfl)
        refine g_iinc 17 (gd rfl) rfl rfl (Nat.le_of_ble_eq_true rfl) (fun z5 e6 => ?_)
        have i7 := in_add 1 32 e6 i3 (in_c 1 rfl) rfl rfl
        refine g_goto 5 (gd rfl) rfl ?_
        exact gg_w (by omega) (gg_f (gf_cons rfl (gf_cons rfl (gf_cons rfl (gf_cons rfl gf_nil)))) (ih5 (sI s 40 y5_2.toNatClampNeg y5_1) y5_1 z5 y5_3 hI4 (in_w 0 0 j5_1 rfl) (in_w 0 32 i7 rfl) (in_w 32 32 j5_3 rfl) (m_up mm5 (t_add e6 i3 (in_c 1 rfl) rfl) (in_w 1 1 (in_c 1 rfl) rfl))))
  refine g_enter2 (k := 417) (N := 30601) (by omega) rfl (Nat.le_of_ble_eq_true rfl) ?_
  refine g_iconst 0 1 (gd rfl) rfl rfl ?_
  refine g_istore_n 2 (gd rfl) rfl (Nat.le_of_ble_eq_true rfl) ?_
  refine g_aload_n 3 (gd rfl) rfl rfl ?_
  refine g_alen (n := 32) (t := 0) 32 4 (gd rfl) rfl rfl (Nat.le_of_ble_eq_true rfl) rfl ?_
  refine g_istore_n 5 (gd rfl) rfl (Nat.le_of_ble_eq_true rfl) ?_
  exact gg_w (by omega) (gg_f (gf_cons rfl (gf_cons rfl (gf_cons rfl (gf_cons rfl gf_nil)))) (ct5 33 s x1 (Int32.ofInt 0) (Int32.ofInt 32) hI (in_w 0 0 h1 rfl) (in_w 0 32 (in_c 0 rfl) rfl) (in_w 32 32 (in_c 32 rfl) rfl) (m_in 33 (in_w 0 32 (in_c 0 rfl) rfl) rfl)))

/-- java/util/Arrays.fill -/
theorem k_417_41 {Z : AmZ} {A : Nat → Nat} {s : GS} {ex : va_W} {d : Nat} {X : AmX} {x1 : Int32} (hd : 1 ≤ d) (hI : Inv s) (h1 : In x1 0 0) : GC Z d 417 [.ref (A 41), .int x1] (WW Z A s ++ ex) 0 0 (fun v u => ∃ t : GS, Inv t ∧ v = none ∧ u = WW Z A t ++ ex) X := by
  intro post xp hP hX
  have ct5 : ∀ (k5 : Nat) (s : GS) (y5_1 : Int32) (y5_2 : Int32) (y5_3 : Int32), Inv s → In y5_1 0 0 → In y5_2 0 32 → In y5_3 32 32 → 32 - (y5_2).toInt < (k5 : Int) → GG Z (d - 1) 417 post (gx xp) (1 + k5 * 900) 5 (fun j => xlook j [(0, .ref (A 41)), (1, .int y5_1), (2, .int y5_2), (3, .int y5_3)]) [] (WW Z A s ++ ex) 0 0 := by
    intro k5
    induction k5 with
    | zero => intro s y5_1 y5_2 y5_3 hI j5_1 j5_2 j5_3 mm5; exact m_no mm5 j5_2 rfl
    | succ k5 ih5 =>
      intro s y5_1 y5_2 y5_3 hI j5_1 j5_2 j5_3 mm5
      refine gg_w (M := 1 + k5 * 900 + 900) (by omega) ?_
      refine g_iload_n 6 (gd rfl) rfl rfl ?_
      refine g_iload_n 7 (gd rfl) rfl rfl ?_
      refine g_cmp_ge 10 20 (gd rfl) rfl rfl (fun c1 => ?_) (fun c1 => ?_)
      · skip
        have i2 := r_le2 32 32 c1 j5_3 j5_2 rfl
        exact g_return (gd rfl) rfl (hP _ _ ⟨s, hI, rfl, rfl⟩)
      · skip
        have i3 := r_lt1 0 31 c1 j5_2 j5_3 rfl
        refine g_aload_n 11 (gd rfl) rfl rfl ?_
        refine g_iload_n 12 (gd rfl) rfl rfl ?_
        refine g_iload_n 13 (gd rfl) rfl rfl ?_
        refine g_iastore 14 (gd rfl) rfl (n := 32) rfl (in_ix i3 rfl) ?_
        have hI4 := inv_sI (q := 41) (j := y5_2.toNatClampNeg) hI rfl (in_w (-2147483648) 2147483647 j5_1 rfl)
        refine g_iinc 17 (gd rfl) rfl rfl (Nat.le_of_ble_eq_true rfl) (fun z5 e6 => ?_)
        have i7 := in_add 1 32 e6 i3 (in_c 1 rfl) rfl rfl
        refine g_goto 5 (gd rfl) rfl ?_
        exact gg_w (by omega) (gg_f (gf_cons rfl (gf_cons rfl (gf_cons rfl (gf_cons rfl gf_nil)))) (ih5 (sI s 41 y5_2.toNatClampNeg y5_1) y5_1 z5 y5_3 hI4 (in_w 0 0 j5_1 rfl) (in_w 0 32 i7 rfl) (in_w 32 32 j5_3 rfl) (m_up mm5 (t_add e6 i3 (in_c 1 rfl) rfl) (in_w 1 1 (in_c 1 rfl) rfl))))
  refine g_enter2 (k := 417) (N := 30601) (by omega) rfl (Nat.le_of_ble_eq_true rfl) ?_
  refine g_iconst 0 1 (gd rfl) rfl rfl ?_
  refine g_istore_n 2 (gd rfl) rfl (Nat.le_of_ble_eq_true rfl) ?_
  refine g_aload_n 3 (gd rfl) rfl rfl ?_
  refine g_alen (n := 32) (t := 0) 32 4 (gd rfl) rfl rfl (Nat.le_of_ble_eq_true rfl) rfl ?_
  refine g_istore_n 5 (gd rfl) rfl (Nat.le_of_ble_eq_true rfl) ?_
  exact gg_w (by omega) (gg_f (gf_cons rfl (gf_cons rfl (gf_cons rfl (gf_cons rfl gf_nil)))) (ct5 33 s x1 (Int32.ofInt 0) (Int32.ofInt 32) hI (in_w 0 0 h1 rfl) (in_w 0 32 (in_c 0 rfl) rfl) (in_w 32 32 (in_c 32 rfl) rfl) (m_in 33 (in_w 0 32 (in_c 0 rfl) rfl) rfl)))

/-- java/util/Arrays.fill -/
theorem k_417_42 {Z : AmZ} {A : Nat → Nat} {s : GS} {ex : va_W} {d : Nat} {X : AmX} {x1 : Int32} (hd : 1 ≤ d) (hI : Inv s) (h1 : In x1 0 0) : GC Z d 417 [.ref (A 42), .int x1] (WW Z A s ++ ex) 0 0 (fun v u => ∃ t : GS, Inv t ∧ v = none ∧ u = WW Z A t ++ ex) X := by
  intro post xp hP hX
  have ct5 : ∀ (k5 : Nat) (s : GS) (y5_1 : Int32) (y5_2 : Int32) (y5_3 : Int32), Inv s → In y5_1 0 0 → In y5_2 0 33 → In y5_3 33 33 → 33 - (y5_2).toInt < (k5 : Int) → GG Z (d - 1) 417 post (gx xp) (1 + k5 * 900) 5 (fun j => xlook j [(0, .ref (A 42)), (1, .int y5_1), (2, .int y5_2), (3, .int y5_3)]) [] (WW Z A s ++ ex) 0 0 := by
    intro k5
    induction k5 with
    | zero => intro s y5_1 y5_2 y5_3 hI j5_1 j5_2 j5_3 mm5; exact m_no mm5 j5_2 rfl
    | succ k5 ih5 =>
      intro s y5_1 y5_2 y5_3 hI j5_1 j5_2 j5_3 mm5
      refine gg_w (M := 1 + k5 * 900 + 900) (by omega) ?_
      refine g_iload_n 6 (gd rfl) rfl rfl ?_
      refine g_iload_n 7 (gd rfl) rfl rfl ?_
      refine g_cmp_ge 10 20 (gd rfl) rfl rfl (fun c1 => ?_) (fun c1 => ?_)
      · skip
        have i2 := r_le2 33 33 c1 j5_3 j5_2 rfl
        exact g_return (gd rfl) rfl (hP _ _ ⟨s, hI, rfl, rfl⟩)
      · skip
        have i3 := r_lt1 0 32 c1 j5_2 j5_3 rfl
        refine g_aload_n 11 (gd rfl) rfl rfl ?_
        refine g_iload_n 12 (gd rfl) rfl rfl ?_
        refine g_iload_n 13 (gd rfl) rfl rfl ?_
        refine g_iastore 14 (gd rfl) rfl (n := 33) rfl (in_ix i3 rfl) ?_
        have hI4 := inv_sI (q := 42) (j := y5_2.toNatClampNeg) hI rfl (in_w 0 160 j5_1 rfl)
        refine g_iinc 17 (gd rfl) rfl rfl (Nat.le_of_ble_eq_true rfl) (fun z5 e6 => ?_)
        have i7 := in_add 1 33 e6 i3 (in_c 1 rfl) rfl rfl
        refine g_goto 5 (gd rfl) rfl ?_
        exact gg_w (by omega) (gg_f (gf_cons rfl (gf_cons rfl (gf_cons rfl (gf_cons rfl gf_nil)))) (ih5 (sI s 42 y5_2.toNatClampNeg y5_1) y5_1 z5 y5_3 hI4 (in_w 0 0 j5_1 rfl) (in_w 0 33 i7 rfl) (in_w 33 33 j5_3 rfl) (m_up mm5 (t_add e6 i3 (in_c 1 rfl) rfl) (in_w 1 1 (in_c 1 rfl) rfl))))
  refine g_enter2 (k := 417) (N := 31501) (by omega) rfl (Nat.le_of_ble_eq_true rfl) ?_
  refine g_iconst 0 1 (gd rfl) rfl rfl ?_
  refine g_istore_n 2 (gd rfl) rfl (Nat.le_of_ble_eq_true rfl) ?_
  refine g_aload_n 3 (gd rfl) rfl rfl ?_
  refine g_alen (n := 33) (t := 0) 33 4 (gd rfl) rfl rfl (Nat.le_of_ble_eq_true rfl) rfl ?_
  refine g_istore_n 5 (gd rfl) rfl (Nat.le_of_ble_eq_true rfl) ?_
  exact gg_w (by omega) (gg_f (gf_cons rfl (gf_cons rfl (gf_cons rfl (gf_cons rfl gf_nil)))) (ct5 34 s x1 (Int32.ofInt 0) (Int32.ofInt 33) hI (in_w 0 0 h1 rfl) (in_w 0 33 (in_c 0 rfl) rfl) (in_w 33 33 (in_c 33 rfl) rfl) (m_in 34 (in_w 0 33 (in_c 0 rfl) rfl) rfl)))

/-- java/util/Arrays.fill -/
theorem k_417_44 {Z : AmZ} {A : Nat → Nat} {s : GS} {ex : va_W} {d : Nat} {X : AmX} {x1 : Int32} (hd : 1 ≤ d) (hI : Inv s) (h1 : In x1 0 0) : GC Z d 417 [.ref (A 44), .int x1] (WW Z A s ++ ex) 0 0 (fun v u => ∃ t : GS, Inv t ∧ v = none ∧ u = WW Z A t ++ ex) X := by
  intro post xp hP hX
  have ct5 : ∀ (k5 : Nat) (s : GS) (y5_1 : Int32) (y5_2 : Int32) (y5_3 : Int32), Inv s → In y5_1 0 0 → In y5_2 0 33 → In y5_3 33 33 → 33 - (y5_2).toInt < (k5 : Int) → GG Z (d - 1) 417 post (gx xp) (1 + k5 * 900) 5 (fun j => xlook j [(0, .ref (A 44)), (1, .int y5_1), (2, .int y5_2), (3, .int y5_3)]) [] (WW Z A s ++ ex) 0 0 := by
    intro k5
    induction k5 with
    | zero => intro s y5_1 y5_2 y5_3 hI j5_1 j5_2 j5_3 mm5; exact m_no mm5 j5_2 rfl
    | succ k5 ih5 =>
      intro s y5_1 y5_2 y5_3 hI j5_1 j5_2 j5_3 mm5
      refine gg_w (M := 1 + k5 * 900 + 900) (by omega) ?_
      refine g_iload_n 6 (gd rfl) rfl rfl ?_
      refine g_iload_n 7 (gd rfl) rfl rfl ?_
      refine g_cmp_ge 10 20 (gd rfl) rfl rfl (fun c1 => ?_) (fun c1 => ?_)
      · skip
        have i2 := r_le2 33 33 c1 j5_3 j5_2 rfl
        exact g_return (gd rfl) rfl (hP _ _ ⟨s, hI, rfl, rfl⟩)
      · skip
        have i3 := r_lt1 0 32 c1 j5_2 j5_3 rfl
        refine g_aload_n 11 (gd rfl) rfl rfl ?_
        refine g_iload_n 12 (gd rfl) rfl rfl ?_
        refine g_iload_n 13 (gd rfl) rfl rfl ?_
        refine g_iastore 14 (gd rfl) rfl (n := 33) rfl (in_ix i3 rfl) ?_
        have hI4 := inv_sI (q := 44) (j := y5_2.toNatClampNeg) hI rfl (in_w 0 160 j5_1 rfl)
        refine g_iinc 17 (gd rfl) rfl rfl (Nat.le_of_ble_eq_true rfl) (fun z5 e6 => ?_)
        have i7 := in_add 1 33 e6 i3 (in_c 1 rfl) rfl rfl
        refine g_goto 5 (gd rfl) rfl ?_
        exact gg_w (by omega) (gg_f (gf_cons rfl (gf_cons rfl (gf_cons rfl (gf_cons rfl gf_nil)))) (ih5 (sI s 44 y5_2.toNatClampNeg y5_1) y5_1 z5 y5_3 hI4 (in_w 0 0 j5_1 rfl) (in_w 0 33 i7 rfl) (in_w 33 33 j5_3 rfl) (m_up mm5 (t_add e6 i3 (in_c 1 rfl) rfl) (in_w 1 1 (in_c 1 rfl) rfl))))
  refine g_enter2 (k := 417) (N := 31501) (by omega) rfl (Nat.le_of_ble_eq_true rfl) ?_
  refine g_iconst 0 1 (gd rfl) rfl rfl ?_
  refine g_istore_n 2 (gd rfl) rfl (Nat.le_of_ble_eq_true rfl) ?_
  refine g_aload_n 3 (gd rfl) rfl rfl ?_
  refine g_alen (n := 33) (t := 0) 33 4 (gd rfl) rfl rfl (Nat.le_of_ble_eq_true rfl) rfl ?_
  refine g_istore_n 5 (gd rfl) rfl (Nat.le_of_ble_eq_true rfl) ?_
  exact gg_w (by omega) (gg_f (gf_cons rfl (gf_cons rfl (gf_cons rfl (gf_cons rfl gf_nil)))) (ct5 34 s x1 (Int32.ofInt 0) (Int32.ofInt 33) hI (in_w 0 0 h1 rfl) (in_w 0 33 (in_c 0 rfl) rfl) (in_w 33 33 (in_c 33 rfl) rfl) (m_in 34 (in_w 0 33 (in_c 0 rfl) rfl) rfl)))

/-- java/util/Arrays.fill -/
theorem k_417_51 {Z : AmZ} {A : Nat → Nat} {s : GS} {ex : va_W} {d : Nat} {X : AmX} {x1 : Int32} (hd : 1 ≤ d) (hI : Inv s) (h1 : In x1 (-1) (-1)) : GC Z d 417 [.ref (A 51), .int x1] (WW Z A s ++ ex) 0 0 (fun v u => ∃ t : GS, Inv t ∧ v = none ∧ u = WW Z A t ++ ex) X := by
  intro post xp hP hX
  have ct5 : ∀ (k5 : Nat) (s : GS) (y5_1 : Int32) (y5_2 : Int32) (y5_3 : Int32), Inv s → In y5_1 (-1) (-1) → In y5_2 0 32 → In y5_3 32 32 → 32 - (y5_2).toInt < (k5 : Int) → GG Z (d - 1) 417 post (gx xp) (1 + k5 * 900) 5 (fun j => xlook j [(0, .ref (A 51)), (1, .int y5_1), (2, .int y5_2), (3, .int y5_3)]) [] (WW Z A s ++ ex) 0 0 := by
    intro k5
    induction k5 with
    | zero => intro s y5_1 y5_2 y5_3 hI j5_1 j5_2 j5_3 mm5; exact m_no mm5 j5_2 rfl
    | succ k5 ih5 =>
      intro s y5_1 y5_2 y5_3 hI j5_1 j5_2 j5_3 mm5
      refine gg_w (M := 1 + k5 * 900 + 900) (by omega) ?_
      refine g_iload_n 6 (gd rfl) rfl rfl ?_
      refine g_iload_n 7 (gd rfl) rfl rfl ?_
      refine g_cmp_ge 10 20 (gd rfl) rfl rfl (fun c1 => ?_) (fun c1 => ?_)
      · skip
        have i2 := r_le2 32 32 c1 j5_3 j5_2 rfl
        exact g_return (gd rfl) rfl (hP _ _ ⟨s, hI, rfl, rfl⟩)
      · skip
        have i3 := r_lt1 0 31 c1 j5_2 j5_3 rfl
        refine g_aload_n 11 (gd rfl) rfl rfl ?_
        refine g_iload_n 12 (gd rfl) rfl rfl ?_
        refine g_iload_n 13 (gd rfl) rfl rfl ?_
        refine g_iastore 14 (gd rfl) rfl (n := 32) rfl (in_ix i3 rfl) ?_
        have hI4 := inv_sI (q := 51) (j := y5_2.toNatClampNeg) hI rfl (in_w (-1) 1000001 j5_1 rfl)
        refine g_iinc 17 (gd rfl) rfl rfl (Nat.le_of_ble_eq_true rfl) (fun z5 e6 => ?_)
        have i7 := in_add 1 32 e6 i3 (in_c 1 rfl) rfl rfl
        refine g_goto 5 (gd rfl) rfl ?_
        exact gg_w (by omega) (gg_f (gf_cons rfl (gf_cons rfl (gf_cons rfl (gf_cons rfl gf_nil)))) (ih5 (sI s 51 y5_2.toNatClampNeg y5_1) y5_1 z5 y5_3 hI4 (in_w (-1) (-1) j5_1 rfl) (in_w 0 32 i7 rfl) (in_w 32 32 j5_3 rfl) (m_up mm5 (t_add e6 i3 (in_c 1 rfl) rfl) (in_w 1 1 (in_c 1 rfl) rfl))))
  refine g_enter2 (k := 417) (N := 30601) (by omega) rfl (Nat.le_of_ble_eq_true rfl) ?_
  refine g_iconst 0 1 (gd rfl) rfl rfl ?_
  refine g_istore_n 2 (gd rfl) rfl (Nat.le_of_ble_eq_true rfl) ?_
  refine g_aload_n 3 (gd rfl) rfl rfl ?_
  refine g_alen (n := 32) (t := 0) 32 4 (gd rfl) rfl rfl (Nat.le_of_ble_eq_true rfl) rfl ?_
  refine g_istore_n 5 (gd rfl) rfl (Nat.le_of_ble_eq_true rfl) ?_
  exact gg_w (by omega) (gg_f (gf_cons rfl (gf_cons rfl (gf_cons rfl (gf_cons rfl gf_nil)))) (ct5 33 s x1 (Int32.ofInt 0) (Int32.ofInt 32) hI (in_w (-1) (-1) h1 rfl) (in_w 0 32 (in_c 0 rfl) rfl) (in_w 32 32 (in_c 32 rfl) rfl) (m_in 33 (in_w 0 32 (in_c 0 rfl) rfl) rfl)))

/-- java/util/Arrays.fill -/
theorem k_417_52 {Z : AmZ} {A : Nat → Nat} {s : GS} {ex : va_W} {d : Nat} {X : AmX} {x1 : Int32} (hd : 1 ≤ d) (hI : Inv s) (h1 : In x1 (-1) (-1)) : GC Z d 417 [.ref (A 52), .int x1] (WW Z A s ++ ex) 0 0 (fun v u => ∃ t : GS, Inv t ∧ v = none ∧ u = WW Z A t ++ ex) X := by
  intro post xp hP hX
  have ct5 : ∀ (k5 : Nat) (s : GS) (y5_1 : Int32) (y5_2 : Int32) (y5_3 : Int32), Inv s → In y5_1 (-1) (-1) → In y5_2 0 32 → In y5_3 32 32 → 32 - (y5_2).toInt < (k5 : Int) → GG Z (d - 1) 417 post (gx xp) (1 + k5 * 900) 5 (fun j => xlook j [(0, .ref (A 52)), (1, .int y5_1), (2, .int y5_2), (3, .int y5_3)]) [] (WW Z A s ++ ex) 0 0 := by
    intro k5
    induction k5 with
    | zero => intro s y5_1 y5_2 y5_3 hI j5_1 j5_2 j5_3 mm5; exact m_no mm5 j5_2 rfl
    | succ k5 ih5 =>
      intro s y5_1 y5_2 y5_3 hI j5_1 j5_2 j5_3 mm5
      refine gg_w (M := 1 + k5 * 900 + 900) (by omega) ?_
      refine g_iload_n 6 (gd rfl) rfl rfl ?_
      refine g_iload_n 7 (gd rfl) rfl rfl ?_
      refine g_cmp_ge 10 20 (gd rfl) rfl rfl (fun c1 => ?_) (fun c1 => ?_)
      · skip
        have i2 := r_le2 32 32 c1 j5_3 j5_2 rfl
        exact g_return (gd rfl) rfl (hP _ _ ⟨s, hI, rfl, rfl⟩)
      · skip
        have i3 := r_lt1 0 31 c1 j5_2 j5_3 rfl
        refine g_aload_n 11 (gd rfl) rfl rfl ?_
        refine g_iload_n 12 (gd rfl) rfl rfl ?_
        refine g_iload_n 13 (gd rfl) rfl rfl ?_
        refine g_iastore 14 (gd rfl) rfl (n := 32) rfl (in_ix i3 rfl) ?_
        have hI4 := inv_sI (q := 52) (j := y5_2.toNatClampNeg) hI rfl (in_w (-1) 31 j5_1 rfl)
        refine g_iinc 17 (gd rfl) rfl rfl (Nat.le_of_ble_eq_true rfl) (fun z5 e6 => ?_)
        have i7 := in_add 1 32 e6 i3 (in_c 1 rfl) rfl rfl
        refine g_goto 5 (gd rfl) rfl ?_
        exact gg_w (by omega) (gg_f (gf_cons rfl (gf_cons rfl (gf_cons rfl (gf_cons rfl gf_nil)))) (ih5 (sI s 52 y5_2.toNatClampNeg y5_1) y5_1 z5 y5_3 hI4 (in_w (-1) (-1) j5_1 rfl) (in_w 0 32 i7 rfl) (in_w 32 32 j5_3 rfl) (m_up mm5 (t_add e6 i3 (in_c 1 rfl) rfl) (in_w 1 1 (in_c 1 rfl) rfl))))
  refine g_enter2 (k := 417) (N := 30601) (by omega) rfl (Nat.le_of_ble_eq_true rfl) ?_
  refine g_iconst 0 1 (gd rfl) rfl rfl ?_
  refine g_istore_n 2 (gd rfl) rfl (Nat.le_of_ble_eq_true rfl) ?_
  refine g_aload_n 3 (gd rfl) rfl rfl ?_
  refine g_alen (n := 32) (t := 0) 32 4 (gd rfl) rfl rfl (Nat.le_of_ble_eq_true rfl) rfl ?_
  refine g_istore_n 5 (gd rfl) rfl (Nat.le_of_ble_eq_true rfl) ?_
  exact gg_w (by omega) (gg_f (gf_cons rfl (gf_cons rfl (gf_cons rfl (gf_cons rfl gf_nil)))) (ct5 33 s x1 (Int32.ofInt 0) (Int32.ofInt 32) hI (in_w (-1) (-1) h1 rfl) (in_w 0 32 (in_c 0 rfl) rfl) (in_w 32 32 (in_c 32 rfl) rfl) (m_in 33 (in_w 0 32 (in_c 0 rfl) rfl) rfl)))

/-- java/util/Arrays.fill -/
theorem k_417_59 {Z : AmZ} {A : Nat → Nat} {s : GS} {ex : va_W} {d : Nat} {X : AmX} {x1 : Int32} (hd : 1 ≤ d) (hI : Inv s) (h1 : In x1 0 0) : GC Z d 417 [.ref (A 59), .int x1] (WW Z A s ++ ex) 0 0 (fun v u => ∃ t : GS, Inv t ∧ v = none ∧ u = WW Z A t ++ ex) X := by
  intro post xp hP hX
  have ct5 : ∀ (k5 : Nat) (s : GS) (y5_1 : Int32) (y5_2 : Int32) (y5_3 : Int32), Inv s → In y5_1 0 0 → In y5_2 0 32 → In y5_3 32 32 → 32 - (y5_2).toInt < (k5 : Int) → GG Z (d - 1) 417 post (gx xp) (1 + k5 * 900) 5 (fun j => xlook j [(0, .ref (A 59)), (1, .int y5_1), (2, .int y5_2), (3, .int y5_3)]) [] (WW Z A s ++ ex) 0 0 := by
    intro k5
    induction k5 with
    | zero => intro s y5_1 y5_2 y5_3 hI j5_1 j5_2 j5_3 mm5; exact m_no mm5 j5_2 rfl
    | succ k5 ih5 =>
      intro s y5_1 y5_2 y5_3 hI j5_1 j5_2 j5_3 mm5
      refine gg_w (M := 1 + k5 * 900 + 900) (by omega) ?_
      refine g_iload_n 6 (gd rfl) rfl rfl ?_
      refine g_iload_n 7 (gd rfl) rfl rfl ?_
      refine g_cmp_ge 10 20 (gd rfl) rfl rfl (fun c1 => ?_) (fun c1 => ?_)
      · skip
        have i2 := r_le2 32 32 c1 j5_3 j5_2 rfl
        exact g_return (gd rfl) rfl (hP _ _ ⟨s, hI, rfl, rfl⟩)
      · skip
        have i3 := r_lt1 0 31 c1 j5_2 j5_3 rfl
        refine g_aload_n 11 (gd rfl) rfl rfl ?_
        refine g_iload_n 12 (gd rfl) rfl rfl ?_
        refine g_iload_n 13 (gd rfl) rfl rfl ?_
        refine g_iastore 14 (gd rfl) rfl (n := 32) rfl (in_ix i3 rfl) ?_
        have hI4 := inv_sI (q := 59) (j := y5_2.toNatClampNeg) hI rfl (in_w (-2147483648) 2147483647 j5_1 rfl)
        refine g_iinc 17 (gd rfl) rfl rfl (Nat.le_of_ble_eq_true rfl) (fun z5 e6 => ?_)
        have i7 := in_add 1 32 e6 i3 (in_c 1 rfl) rfl rfl
        refine g_goto 5 (gd rfl) rfl ?_
        exact gg_w (by omega) (gg_f (gf_cons rfl (gf_cons rfl (gf_cons rfl (gf_cons rfl gf_nil)))) (ih5 (sI s 59 y5_2.toNatClampNeg y5_1) y5_1 z5 y5_3 hI4 (in_w 0 0 j5_1 rfl) (in_w 0 32 i7 rfl) (in_w 32 32 j5_3 rfl) (m_up mm5 (t_add e6 i3 (in_c 1 rfl) rfl) (in_w 1 1 (in_c 1 rfl) rfl))))
  refine g_enter2 (k := 417) (N := 30601) (by omega) rfl (Nat.le_of_ble_eq_true rfl) ?_
  refine g_iconst 0 1 (gd rfl) rfl rfl ?_
  refine g_istore_n 2 (gd rfl) rfl (Nat.le_of_ble_eq_true rfl) ?_
  refine g_aload_n 3 (gd rfl) rfl rfl ?_
  refine g_alen (n := 32) (t := 0) 32 4 (gd rfl) rfl rfl (Nat.le_of_ble_eq_true rfl) rfl ?_
  refine g_istore_n 5 (gd rfl) rfl (Nat.le_of_ble_eq_true rfl) ?_
  exact gg_w (by omega) (gg_f (gf_cons rfl (gf_cons rfl (gf_cons rfl (gf_cons rfl gf_nil)))) (ct5 33 s x1 (Int32.ofInt 0) (Int32.ofInt 32) hI (in_w 0 0 h1 rfl) (in_w 0 32 (in_c 0 rfl) rfl) (in_w 32 32 (in_c 32 rfl) rfl) (m_in 33 (in_w 0 32 (in_c 0 rfl) rfl) rfl)))

/-- java/util/Arrays.fill -/
theorem k_417_66 {Z : AmZ} {A : Nat → Nat} {s : GS} {ex : va_W} {d : Nat} {X : AmX} {x1 : Int32} (hd : 1 ≤ d) (hI : Inv s) (h1 : In x1 0 0) : GC Z d 417 [.ref (A 66), .int x1] (WW Z A s ++ ex) 0 0 (fun v u => ∃ t : GS, Inv t ∧ v = none ∧ u = WW Z A t ++ ex) X := by
  intro post xp hP hX
  have ct5 : ∀ (k5 : Nat) (s : GS) (y5_1 : Int32) (y5_2 : Int32) (y5_3 : Int32), Inv s → In y5_1 0 0 → In y5_2 0 2001 → In y5_3 1024 1024 → 2001 - (y5_2).toInt < (k5 : Int) → GG Z (d - 1) 417 post (gx xp) (1 + k5 * 900) 5 (fun j => xlook j [(0, .ref (A 66)), (1, .int y5_1), (2, .int y5_2), (3, .int y5_3)]) [] (WW Z A s ++ ex) 0 0 := by
    intro k5
    induction k5 with
    | zero => intro s y5_1 y5_2 y5_3 hI j5_1 j5_2 j5_3 mm5; exact m_no mm5 j5_2 rfl
    | succ k5 ih5 =>
      intro s y5_1 y5_2 y5_3 hI j5_1 j5_2 j5_3 mm5
      refine gg_w (M := 1 + k5 * 900 + 900) (by omega) ?_
      refine g_iload_n 6 (gd rfl) rfl rfl ?_
      refine g_iload_n 7 (gd rfl) rfl rfl ?_
      refine g_cmp_ge 10 20 (gd rfl) rfl rfl (fun c1 => ?_) (fun c1 => ?_)
      · skip
        have i2 := r_le2 1024 2001 c1 j5_3 j5_2 rfl
        exact g_return (gd rfl) rfl (hP _ _ ⟨s, hI, rfl, rfl⟩)
      · skip
        have i3 := r_lt1 0 1023 c1 j5_2 j5_3 rfl
        refine g_aload_n 11 (gd rfl) rfl rfl ?_
        refine g_iload_n 12 (gd rfl) rfl rfl ?_
        refine g_iload_n 13 (gd rfl) rfl rfl ?_
        refine g_iastore 14 (gd rfl) rfl (n := 1024) rfl (in_ix i3 rfl) ?_
        have hI4 := inv_sI (q := 66) (j := y5_2.toNatClampNeg) hI rfl (in_w (-2147483648) 2147483647 j5_1 rfl)
        refine g_iinc 17 (gd rfl) rfl rfl (Nat.le_of_ble_eq_true rfl) (fun z5 e6 => ?_)
        have i7 := in_add 1 1024 e6 i3 (in_c 1 rfl) rfl rfl
        refine g_goto 5 (gd rfl) rfl ?_
        exact gg_w (by omega) (gg_f (gf_cons rfl (gf_cons rfl (gf_cons rfl (gf_cons rfl gf_nil)))) (ih5 (sI s 66 y5_2.toNatClampNeg y5_1) y5_1 z5 y5_3 hI4 (in_w 0 0 j5_1 rfl) (in_w 0 2001 i7 rfl) (in_w 1024 1024 j5_3 rfl) (m_up mm5 (t_add e6 i3 (in_c 1 rfl) rfl) (in_w 1 1 (in_c 1 rfl) rfl))))
  refine g_enter2 (k := 417) (N := 1802701) (by omega) rfl (Nat.le_of_ble_eq_true rfl) ?_
  refine g_iconst 0 1 (gd rfl) rfl rfl ?_
  refine g_istore_n 2 (gd rfl) rfl (Nat.le_of_ble_eq_true rfl) ?_
  refine g_aload_n 3 (gd rfl) rfl rfl ?_
  refine g_alen (n := 1024) (t := 0) 1024 4 (gd rfl) rfl rfl (Nat.le_of_ble_eq_true rfl) rfl ?_
  refine g_istore_n 5 (gd rfl) rfl (Nat.le_of_ble_eq_true rfl) ?_
  exact gg_w (by omega) (gg_f (gf_cons rfl (gf_cons rfl (gf_cons rfl (gf_cons rfl gf_nil)))) (ct5 2002 s x1 (Int32.ofInt 0) (Int32.ofInt 1024) hI (in_w 0 0 h1 rfl) (in_w 0 2001 (in_c 0 rfl) rfl) (in_w 1024 1024 (in_c 1024 rfl) rfl) (m_in 2002 (in_w 0 2001 (in_c 0 rfl) rfl) rfl)))

/-- java/util/Arrays.fill -/
theorem k_417_67 {Z : AmZ} {A : Nat → Nat} {s : GS} {ex : va_W} {d : Nat} {X : AmX} {x1 : Int32} (hd : 1 ≤ d) (hI : Inv s) (h1 : In x1 0 0) : GC Z d 417 [.ref (A 67), .int x1] (WW Z A s ++ ex) 0 0 (fun v u => ∃ t : GS, Inv t ∧ v = none ∧ u = WW Z A t ++ ex) X := by
  intro post xp hP hX
  have ct5 : ∀ (k5 : Nat) (s : GS) (y5_1 : Int32) (y5_2 : Int32) (y5_3 : Int32), Inv s → In y5_1 0 0 → In y5_2 0 32 → In y5_3 32 32 → 32 - (y5_2).toInt < (k5 : Int) → GG Z (d - 1) 417 post (gx xp) (1 + k5 * 900) 5 (fun j => xlook j [(0, .ref (A 67)), (1, .int y5_1), (2, .int y5_2), (3, .int y5_3)]) [] (WW Z A s ++ ex) 0 0 := by
    intro k5
    induction k5 with
    | zero => intro s y5_1 y5_2 y5_3 hI j5_1 j5_2 j5_3 mm5; exact m_no mm5 j5_2 rfl
    | succ k5 ih5 =>
      intro s y5_1 y5_2 y5_3 hI j5_1 j5_2 j5_3 mm5
      refine gg_w (M := 1 + k5 * 900 + 900) (by omega) ?_
      refine g_iload_n 6 (gd rfl) rfl rfl ?_
      refine g_iload_n 7 (gd rfl) rfl rfl ?_
      refine g_cmp_ge 10 20 (gd rfl) rfl rfl (fun c1 => ?_) (fun c1 => ?_)
      · skip
        have i2 := r_le2 32 32 c1 j5_3 j5_2 rfl
        exact g_return (gd rfl) rfl (hP _ _ ⟨s, hI, rfl, rfl⟩)
      · skip
        have i3 := r_lt1 0 31 c1 j5_2 j5_3 rfl
        refine g_aload_n 11 (gd rfl) rfl rfl ?_
        refine g_iload_n 12 (gd rfl) rfl rfl ?_
        refine g_iload_n 13 (gd rfl) rfl rfl ?_
        refine g_iastore 14 (gd rfl) rfl (n := 32) rfl (in_ix i3 rfl) ?_
        have hI4 := inv_sI (q := 67) (j := y5_2.toNatClampNeg) hI rfl (in_w (-2147483648) 2147483647 j5_1 rfl)
        refine g_iinc 17 (gd rfl) rfl rfl (Nat.le_of_ble_eq_true rfl) (fun z5 e6 => ?_)
        have i7 := in_add 1 32 e6 i3 (in_c 1 rfl) rfl rfl
        refine g_goto 5 (gd rfl) rfl ?_
        exact gg_w (by omega) (gg_f (gf_cons rfl (gf_cons rfl (gf_cons rfl (gf_cons rfl gf_nil)))) (ih5 (sI s 67 y5_2.toNatClampNeg y5_1) y5_1 z5 y5_3 hI4 (in_w 0 0 j5_1 rfl) (in_w 0 32 i7 rfl) (in_w 32 32 j5_3 rfl) (m_up mm5 (t_add e6 i3 (in_c 1 rfl) rfl) (in_w 1 1 (in_c 1 rfl) rfl))))
  refine g_enter2 (k := 417) (N := 30601) (by omega) rfl (Nat.le_of_ble_eq_true rfl) ?_
  refine g_iconst 0 1 (gd rfl) rfl rfl ?_
  refine g_istore_n 2 (gd rfl) rfl (Nat.le_of_ble_eq_true rfl) ?_
  refine g_aload_n 3 (gd rfl) rfl rfl ?_
  refine g_alen (n := 32) (t := 0) 32 4 (gd rfl) rfl rfl (Nat.le_of_ble_eq_true rfl) rfl ?_
  refine g_istore_n 5 (gd rfl) rfl (Nat.le_of_ble_eq_true rfl) ?_
  exact gg_w (by omega) (gg_f (gf_cons rfl (gf_cons rfl (gf_cons rfl (gf_cons rfl gf_nil)))) (ct5 33 s x1 (Int32.ofInt 0) (Int32.ofInt 32) hI (in_w 0 0 h1 rfl) (in_w 0 32 (in_c 0 rfl) rfl) (in_w 32 32 (in_c 32 rfl) rfl) (m_in 33 (in_w 0 32 (in_c 0 rfl) rfl) rfl)))

/-- java/util/Arrays.fill -/
theorem k_417_74 {Z : AmZ} {A : Nat → Nat} {s : GS} {ex : va_W} {d : Nat} {X : AmX} {x1 : Int32} (hd : 1 ≤ d) (hI : Inv s) (h1 : In x1 0 0) : GC Z d 417 [.ref (A 74), .int x1] (WW Z A s ++ ex) 0 0 (fun v u => ∃ t : GS, Inv t ∧ v = none ∧ u = WW Z A t ++ ex) X := by
  intro post xp hP hX
  have ct5 : ∀ (k5 : Nat) (s : GS) (y5_1 : Int32) (y5_2 : Int32) (y5_3 : Int32), Inv s → In y5_1 0 0 → In y5_2 0 32 → In y5_3 32 32 → 32 - (y5_2).toInt < (k5 : Int) → GG Z (d - 1) 417 post (gx xp) (1 + k5 * 900) 5 (fun j => xlook j [(0, .ref (A 74)), (1, .int y5_1), (2, .int y5_2), (3, .int y5_3)]) [] (WW Z A s ++ ex) 0 0 := by
    intro k5
    induction k5 with
    | zero => intro s y5_1 y5_2 y5_3 hI j5_1 j5_2 j5_3 mm5; exact m_no mm5 j5_2 rfl
    | succ k5 ih5 =>
      intro s y5_1 y5_2 y5_3 hI j5_1 j5_2 j5_3 mm5
      refine gg_w (M := 1 + k5 * 900 + 900) (by omega) ?_
      refine g_iload_n 6 (gd rfl) rfl rfl ?_
      refine g_iload_n 7 (gd rfl) rfl rfl ?_
      refine g_cmp_ge 10 20 (gd rfl) rfl rfl (fun c1 => ?_) (fun c1 => ?_)
      · skip
        have i2 := r_le2 32 32 c1 j5_3 j5_2 rfl
        exact g_return (gd rfl) rfl (hP _ _ ⟨s, hI, rfl, rfl⟩)
      · skip
        have i3 := r_lt1 0 31 c1 j5_2 j5_3 rfl
        refine g_aload_n 11 (gd rfl) rfl rfl ?_
        refine g_iload_n 12 (gd rfl) rfl rfl ?_
        refine g_iload_n 13 (gd rfl) rfl rfl ?_
        refine g_iastore 14 (gd rfl) rfl (n := 32) rfl (in_ix i3 rfl) ?_
        have hI4 := inv_sI (q := 74) (j := y5_2.toNatClampNeg) hI rfl (in_w (-2147483648) 2147483647 j5_1 rfl)
        refine g_iinc 17 (gd rfl) rfl rfl (Nat.le_of_ble_eq_true rfl) (fun z5 e6 => ?_)
        have i7 := in_add 1 32 e6 i3 (in_c 1 rfl) rfl rfl
        refine g_goto 5 (gd rfl) rfl ?_
        exact gg_w (by omega) (gg_f (gf_cons rfl (gf_cons rfl (gf_cons rfl (gf_cons rfl gf_nil)))) (ih5 (sI s 74 y5_2.toNatClampNeg y5_1) y5_1 z5 y5_3 hI4 (in_w 0 0 j5_1 rfl) (in_w 0 32 i7 rfl) (in_w 32 32 j5_3 rfl) (m_up mm5 (t_add e6 i3 (in_c 1 rfl) rfl) (in_w 1 1 (in_c 1 rfl) rfl))))
  refine g_enter2 (k := 417) (N := 30601) (by omega) rfl (Nat.le_of_ble_eq_true rfl) ?_
  refine g_iconst 0 1 (gd rfl) rfl rfl ?_
  refine g_istore_n 2 (gd rfl) rfl (Nat.le_of_ble_eq_true rfl) ?_
  refine g_aload_n 3 (gd rfl) rfl rfl ?_
  refine g_alen (n := 32) (t := 0) 32 4 (gd rfl) rfl rfl (Nat.le_of_ble_eq_true rfl) rfl ?_
  refine g_istore_n 5 (gd rfl) rfl (Nat.le_of_ble_eq_true rfl) ?_
  exact gg_w (by omega) (gg_f (gf_cons rfl (gf_cons rfl (gf_cons rfl (gf_cons rfl gf_nil)))) (ct5 33 s x1 (Int32.ofInt 0) (Int32.ofInt 32) hI (in_w 0 0 h1 rfl) (in_w 0 32 (in_c 0 rfl) rfl) (in_w 32 32 (in_c 32 rfl) rfl) (m_in 33 (in_w 0 32 (in_c 0 rfl) rfl) rfl)))

/-- java/util/Arrays.fill -/
theorem k_417_82 {Z : AmZ} {A : Nat → Nat} {s : GS} {ex : va_W} {d : Nat} {X : AmX} {x1 : Int32} (hd : 1 ≤ d) (hI : Inv s) (h1 : In x1 (-1) (-1)) : GC Z d 417 [.ref (A 82), .int x1] (WW Z A s ++ ex) 0 0 (fun v u => ∃ t : GS, Inv t ∧ v = none ∧ u = WW Z A t ++ ex) X := by
  intro post xp hP hX
  have ct5 : ∀ (k5 : Nat) (s : GS) (y5_1 : Int32) (y5_2 : Int32) (y5_3 : Int32), Inv s → In y5_1 (-1) (-1) → In y5_2 0 32 → In y5_3 32 32 → 32 - (y5_2).toInt < (k5 : Int) → GG Z (d - 1) 417 post (gx xp) (1 + k5 * 900) 5 (fun j => xlook j [(0, .ref (A 82)), (1, .int y5_1), (2, .int y5_2), (3, .int y5_3)]) [] (WW Z A s ++ ex) 0 0 := by
    intro k5
    induction k5 with
    | zero => intro s y5_1 y5_2 y5_3 hI j5_1 j5_2 j5_3 mm5; exact m_no mm5 j5_2 rfl
    | succ k5 ih5 =>
      intro s y5_1 y5_2 y5_3 hI j5_1 j5_2 j5_3 mm5
      refine gg_w (M := 1 + k5 * 900 + 900) (by omega) ?_
      refine g_iload_n 6 (gd rfl) rfl rfl ?_
      refine g_iload_n 7 (gd rfl) rfl rfl ?_
      refine g_cmp_ge 10 20 (gd rfl) rfl rfl (fun c1 => ?_) (fun c1 => ?_)
      · skip
        have i2 := r_le2 32 32 c1 j5_3 j5_2 rfl
        exact g_return (gd rfl) rfl (hP _ _ ⟨s, hI, rfl, rfl⟩)
      · skip
        have i3 := r_lt1 0 31 c1 j5_2 j5_3 rfl
        refine g_aload_n 11 (gd rfl) rfl rfl ?_
        refine g_iload_n 12 (gd rfl) rfl rfl ?_
        refine g_iload_n 13 (gd rfl) rfl rfl ?_
        refine g_iastore 14 (gd rfl) rfl (n := 32) rfl (in_ix i3 rfl) ?_
        have hI4 := inv_sI (q := 82) (j := y5_2.toNatClampNeg) hI rfl (in_w (-2147483648) 2147483647 j5_1 rfl)
        refine g_iinc 17 (gd rfl) rfl rfl (Nat.le_of_ble_eq_true rfl) (fun z5 e6 => ?_)
        have i7 := in_add 1 32 e6 i3 (in_c 1 rfl) rfl rfl
        refine g_goto 5 (gd rfl) rfl ?_
        exact gg_w (by omega) (gg_f (gf_cons rfl (gf_cons rfl (gf_cons rfl (gf_cons rfl gf_nil)))) (ih5 (sI s 82 y5_2.toNatClampNeg y5_1) y5_1 z5 y5_3 hI4 (in_w (-1) (-1) j5_1 rfl) (in_w 0 32 i7 rfl) (in_w 32 32 j5_3 rfl) (m_up mm5 (t_add e6 i3 (in_c 1 rfl) rfl) (in_w 1 1 (in_c 1 rfl) rfl))))
  refine g_enter2 (k := 417) (N := 30601) (by omega) rfl (Nat.le_of_ble_eq_true rfl) ?_
  refine g_iconst 0 1 (gd rfl) rfl rfl ?_
  refine g_istore_n 2 (gd rfl) rfl (Nat.le_of_ble_eq_true rfl) ?_
  refine g_aload_n 3 (gd rfl) rfl rfl ?_
  refine g_alen (n := 32) (t := 0) 32 4 (gd rfl) rfl rfl (Nat.le_of_ble_eq_true rfl) rfl ?_
  refine g_istore_n 5 (gd rfl) rfl (Nat.le_of_ble_eq_true rfl) ?_
  exact gg_w (by omega) (gg_f (gf_cons rfl (gf_cons rfl (gf_cons rfl (gf_cons rfl gf_nil)))) (ct5 33 s x1 (Int32.ofInt 0) (Int32.ofInt 32) hI (in_w (-1) (-1) h1 rfl) (in_w 0 32 (in_c 0 rfl) rfl) (in_w 32 32 (in_c 32 rfl) rfl) (m_in 33 (in_w 0 32 (in_c 0 rfl) rfl) rfl)))

/-- java/util/Arrays.fill -/
theorem k_417_83 {Z : AmZ} {A : Nat → Nat} {s : GS} {ex : va_W} {d : Nat} {X : AmX} {x1 : Int32} (hd : 1 ≤ d) (hI : Inv s) (h1 : In x1 (-1) (-1)) : GC Z d 417 [.ref (A 83), .int x1] (WW Z A s ++ ex) 0 0 (fun v u => ∃ t : GS, Inv t ∧ v = none ∧ u = WW Z A t ++ ex) X := by
  intro post xp hP hX
  have ct5 : ∀ (k5 : Nat) (s : GS) (y5_1 : Int32) (y5_2 : Int32) (y5_3 : Int32), Inv s → In y5_1 (-1) (-1) → In y5_2 0 32 → In y5_3 32 32 → 32 - (y5_2).toInt < (k5 : Int) → GG Z (d - 1) 417 post (gx xp) (1 + k5 * 900) 5 (fun j => xlook j [(0, .ref (A 83)), (1, .int y5_1), (2, .int y5_2), (3, .int y5_3)]) [] (WW Z A s ++ ex) 0 0 := by
    intro k5
    induction k5 with
    | zero => intro s y5_1 y5_2 y5_3 hI j5_1 j5_2 j5_3 mm5; exact m_no mm5 j5_2 rfl
    | succ k5 ih5 =>
      intro s y5_1 y5_2 y5_3 hI j5_1 j5_2 j5_3 mm5
      refine gg_w (M := 1 + k5 * 900 + 900) (by omega) ?_
      refine g_iload_n 6 (gd rfl) rfl rfl ?_
      refine g_iload_n 7 (gd rfl) rfl rfl ?_
      refine g_cmp_ge 10 20 (gd rfl) rfl rfl (fun c1 => ?_) (fun c1 => ?_)
      · skip
        have i2 := r_le2 32 32 c1 j5_3 j5_2 rfl
        exact g_return (gd rfl) rfl (hP _ _ ⟨s, hI, rfl, rfl⟩)
      · skip
        have i3 := r_lt1 0 31 c1 j5_2 j5_3 rfl
        refine g_aload_n 11 (gd rfl) rfl rfl ?_
        refine g_iload_n 12 (gd rfl) rfl rfl ?_
        refine g_iload_n 13 (gd rfl) rfl rfl ?_
        refine g_iastore 14 (gd rfl) rfl (n := 32) rfl (in_ix i3 rfl) ?_
        have hI4 := inv_sI (q := 83) (j := y5_2.toNatClampNeg) hI rfl (in_w (-1) 31 j5_1 rfl)
        refine g_iinc 17 (gd rfl) rfl rfl (Nat.le_of_ble_eq_true rfl) (fun z5 e6 => ?_)
        have i7 := in_add 1 32 e6 i3 (in_c 1 rfl) rfl rfl
        refine g_goto 5 (gd rfl) rfl ?_
        exact gg_w (by omega) (gg_f (gf_cons rfl (gf_cons rfl (gf_cons rfl (gf_cons rfl gf_nil)))) (ih5 (sI s 83 y5_2.toNatClampNeg y5_1) y5_1 z5 y5_3 hI4 (in_w (-1) (-1) j5_1 rfl) (in_w 0 32 i7 rfl) (in_w 32 32 j5_3 rfl) (m_up mm5 (t_add e6 i3 (in_c 1 rfl) rfl) (in_w 1 1 (in_c 1 rfl) rfl))))
  refine g_enter2 (k := 417) (N := 30601) (by omega) rfl (Nat.le_of_ble_eq_true rfl) ?_
  refine g_iconst 0 1 (gd rfl) rfl rfl ?_
  refine g_istore_n 2 (gd rfl) rfl (Nat.le_of_ble_eq_true rfl) ?_
  refine g_aload_n 3 (gd rfl) rfl rfl ?_
  refine g_alen (n := 32) (t := 0) 32 4 (gd rfl) rfl rfl (Nat.le_of_ble_eq_true rfl) rfl ?_
  refine g_istore_n 5 (gd rfl) rfl (Nat.le_of_ble_eq_true rfl) ?_
  exact gg_w (by omega) (gg_f (gf_cons rfl (gf_cons rfl (gf_cons rfl (gf_cons rfl gf_nil)))) (ct5 33 s x1 (Int32.ofInt 0) (Int32.ofInt 32) hI (in_w (-1) (-1) h1 rfl) (in_w 0 32 (in_c 0 rfl) rfl) (in_w 32 32 (in_c 32 rfl) rfl) (m_in 33 (in_w 0 32 (in_c 0 rfl) rfl) rfl)))

/-- java/util/Arrays.fill -/
theorem k_417_84 {Z : AmZ} {A : Nat → Nat} {s : GS} {ex : va_W} {d : Nat} {X : AmX} {x1 : Int32} (hd : 1 ≤ d) (hI : Inv s) (h1 : In x1 0 0) : GC Z d 417 [.ref (A 84), .int x1] (WW Z A s ++ ex) 0 0 (fun v u => ∃ t : GS, Inv t ∧ v = none ∧ u = WW Z A t ++ ex) X := by
  intro post xp hP hX
  have ct5 : ∀ (k5 : Nat) (s : GS) (y5_1 : Int32) (y5_2 : Int32) (y5_3 : Int32), Inv s → In y5_1 0 0 → In y5_2 0 32 → In y5_3 32 32 → 32 - (y5_2).toInt < (k5 : Int) → GG Z (d - 1) 417 post (gx xp) (1 + k5 * 900) 5 (fun j => xlook j [(0, .ref (A 84)), (1, .int y5_1), (2, .int y5_2), (3, .int y5_3)]) [] (WW Z A s ++ ex) 0 0 := by
    intro k5
    induction k5 with
    | zero => intro s y5_1 y5_2 y5_3 hI j5_1 j5_2 j5_3 mm5; exact m_no mm5 j5_2 rfl
    | succ k5 ih5 =>
      intro s y5_1 y5_2 y5_3 hI j5_1 j5_2 j5_3 mm5
      refine gg_w (M := 1 + k5 * 900 + 900) (by omega) ?_
      refine g_iload_n 6 (gd rfl) rfl rfl ?_
      refine g_iload_n 7 (gd rfl) rfl rfl ?_
      refine g_cmp_ge 10 20 (gd rfl) rfl rfl (fun c1 => ?_) (fun c1 => ?_)
      · skip
        have i2 := r_le2 32 32 c1 j5_3 j5_2 rfl
        exact g_return (gd rfl) rfl (hP _ _ ⟨s, hI, rfl, rfl⟩)
      · skip
        have i3 := r_lt1 0 31 c1 j5_2 j5_3 rfl
        refine g_aload_n 11 (gd rfl) rfl rfl ?_
        refine g_iload_n 12 (gd rfl) rfl rfl ?_
        refine g_iload_n 13 (gd rfl) rfl rfl ?_
        refine g_iastore 14 (gd rfl) rfl (n := 32) rfl (in_ix i3 rfl) ?_
        have hI4 := inv_sI (q := 84) (j := y5_2.toNatClampNeg) hI rfl (in_w (-2147483648) 2147483647 j5_1 rfl)
        refine g_iinc 17 (gd rfl) rfl rfl (Nat.le_of_ble_eq_true rfl) (fun z5 e6 => ?_)
        have i7 := in_add 1 32 e6 i3 (in_c 1 rfl) rfl rfl
        refine g_goto 5 (gd rfl) rfl ?_
        exact gg_w (by omega) (gg_f (gf_cons rfl (gf_cons rfl (gf_cons rfl (gf_cons rfl gf_nil)))) (ih5 (sI s 84 y5_2.toNatClampNeg y5_1) y5_1 z5 y5_3 hI4 (in_w 0 0 j5_1 rfl) (in_w 0 32 i7 rfl) (in_w 32 32 j5_3 rfl) (m_up mm5 (t_add e6 i3 (in_c 1 rfl) rfl) (in_w 1 1 (in_c 1 rfl) rfl))))
  refine g_enter2 (k := 417) (N := 30601) (by omega) rfl (Nat.le_of_ble_eq_true rfl) ?_
  refine g_iconst 0 1 (gd rfl) rfl rfl ?_
  refine g_istore_n 2 (gd rfl) rfl (Nat.le_of_ble_eq_true rfl) ?_
  refine g_aload_n 3 (gd rfl) rfl rfl ?_
  refine g_alen (n := 32) (t := 0) 32 4 (gd rfl) rfl rfl (Nat.le_of_ble_eq_true rfl) rfl ?_
  refine g_istore_n 5 (gd rfl) rfl (Nat.le_of_ble_eq_true rfl) ?_
  exact gg_w (by omega) (gg_f (gf_cons rfl (gf_cons rfl (gf_cons rfl (gf_cons rfl gf_nil)))) (ct5 33 s x1 (Int32.ofInt 0) (Int32.ofInt 32) hI (in_w 0 0 h1 rfl) (in_w 0 32 (in_c 0 rfl) rfl) (in_w 32 32 (in_c 32 rfl) rfl) (m_in 33 (in_w 0 32 (in_c 0 rfl) rfl) rfl)))

/-- java/util/Arrays.fill -/
theorem k_417_93 {Z : AmZ} {A : Nat → Nat} {s : GS} {ex : va_W} {d : Nat} {X : AmX} {x1 : Int32} (hd : 1 ≤ d) (hI : Inv s) (h1 : In x1 0 0) : GC Z d 417 [.ref (A 93), .int x1] (WW Z A s ++ ex) 0 0 (fun v u => ∃ t : GS, Inv t ∧ v = none ∧ u = WW Z A t ++ ex) X := by
  intro post xp hP hX
  have ct5 : ∀ (k5 : Nat) (s : GS) (y5_1 : Int32) (y5_2 : Int32) (y5_3 : Int32), Inv s → In y5_1 0 0 → In y5_2 0 32 → In y5_3 32 32 → 32 - (y5_2).toInt < (k5 : Int) → GG Z (d - 1) 417 post (gx xp) (1 + k5 * 900) 5 (fun j => xlook j [(0, .ref (A 93)), (1, .int y5_1), (2, .int y5_2), (3, .int y5_3)]) [] (WW Z A s ++ ex) 0 0 := by
    intro k5
    induction k5 with
    | zero => intro s y5_1 y5_2 y5_3 hI j5_1 j5_2 j5_3 mm5; exact m_no mm5 j5_2 rfl
    | succ k5 ih5 =>
      intro s y5_1 y5_2 y5_3 hI j5_1 j5_2 j5_3 mm5
      refine gg_w (M := 1 + k5 * 900 + 900) (by omega) ?_
      refine g_iload_n 6 (gd rfl) rfl rfl ?_
      refine g_iload_n 7 (gd rfl) rfl rfl ?_
      refine g_cmp_ge 10 20 (gd rfl) rfl rfl (fun c1 => ?_) (fun c1 => ?_)
      · skip
        have i2 := r_le2 32 32 c1 j5_3 j5_2 rfl
        exact g_return (gd rfl) rfl (hP _ _ ⟨s, hI, rfl, rfl⟩)
      · skip
        have i3 := r_lt1 0 31 c1 j5_2 j5_3 rfl
        refine g_aload_n 11 (gd rfl) rfl rfl ?_
        refine g_iload_n 12 (gd rfl) rfl rfl ?_
        refine g_iload_n 13 (gd rfl) rfl rfl ?_
        refine g_iastore 14 (gd rfl) rfl (n := 32) rfl (in_ix i3 rfl) ?_
        have hI4 := inv_sI (q := 93) (j := y5_2.toNatClampNeg) hI rfl (in_w (-2147483648) 2147483647 j5_1 rfl)
        refine g_iinc 17 (gd rfl) rfl rfl (Nat.le_of_ble_eq_true rfl) (fun z5 e6 => ?_)
        have i7 := in_add 1 32 e6 i3 (in_c 1 rfl) rfl rfl
        refine g_goto 5 (gd rfl) rfl ?_
        exact gg_w (by omega) (gg_f (gf_cons rfl (gf_cons rfl (gf_cons rfl (gf_cons rfl gf_nil)))) (ih5 (sI s 93 y5_2.toNatClampNeg y5_1) y5_1 z5 y5_3 hI4 (in_w 0 0 j5_1 rfl) (in_w 0 32 i7 rfl) (in_w 32 32 j5_3 rfl) (m_up mm5 (t_add e6 i3 (in_c 1 rfl) rfl) (in_w 1 1 (in_c 1 rfl) rfl))))
  refine g_enter2 (k := 417) (N := 30601) (by omega) rfl (Nat.le_of_ble_eq_true rfl) ?_
  refine g_iconst 0 1 (gd rfl) rfl rfl ?_
  refine g_istore_n 2 (gd rfl) rfl (Nat.le_of_ble_eq_true rfl) ?_
  refine g_aload_n 3 (gd rfl) rfl rfl ?_
  refine g_alen (n := 32) (t := 0) 32 4 (gd rfl) rfl rfl (Nat.le_of_ble_eq_true rfl) rfl ?_
  refine g_istore_n 5 (gd rfl) rfl (Nat.le_of_ble_eq_true rfl) ?_
  exact gg_w (by omega) (gg_f (gf_cons rfl (gf_cons rfl (gf_cons rfl (gf_cons rfl gf_nil)))) (ct5 33 s x1 (Int32.ofInt 0) (Int32.ofInt 32) hI (in_w 0 0 h1 rfl) (in_w 0 32 (in_c 0 rfl) rfl) (in_w 32 32 (in_c 32 rfl) rfl) (m_in 33 (in_w 0 32 (in_c 0 rfl) rfl) rfl)))

/-- GraphHouse$Flows.openAll -/
theorem k_76_65_2 {Z : AmZ} {A : Nat → Nat} {s : GS} {ex : va_W} {d : Nat} {X : AmX}  (hd : 3 ≤ d) (hI : Inv s)  : GC Z d 76 [.ref (A 65), .ref (A 2)] (WW Z A s ++ ex) 0 0 (fun v u => ∃ t : GS, Inv t ∧ v = none ∧ u = WW Z A t ++ ex) X := by
  intro post xp hP hX
  have ct18 : ∀ (k18 : Nat) (s : GS) (y18_2 : Int32), Inv s → In y18_2 0 160 → 160 - (y18_2).toInt < (k18 : Int) → GG Z (d - 1) 76 post (gx xp) (1 + k18 * 900) 18 (fun j => xlook j [(0, .ref (A 65)), (1, .ref (A 2)), (2, .int y18_2)]) [] (WW Z A s ++ ex) 0 0 := by
    intro k18
    induction k18 with
    | zero => intro s y18_2 hI j18_2 mm18; exact m_no mm18 j18_2 rfl
    | succ k18 ih18 =>
      intro s y18_2 hI j18_2 mm18
      refine gg_w (M := 1 + k18 * 900 + 900) (by omega) ?_
      refine g_iload_n 19 (gd rfl) rfl rfl ?_
      refine g_aload_n 20 (gd rfl) rfl rfl ?_
      refine g_getI 23 (gd rfl) rfl rfl rfl (fun z1 e2 => ?_)
      have i3 := inv_F hI 0 160 rfl e2
      refine g_cmp_ge 26 101 (gd rfl) rfl rfl (fun c4 => ?_) (fun c4 => ?_)
      · skip
        exact g_return (gd rfl) rfl (hP _ _ ⟨s, hI, rfl, rfl⟩)
      · skip
        have i5 := r_lt1 0 159 c4 j18_2 i3 rfl
        have i6 := r_lt2 1 160 c4 j18_2 i3 rfl
        refine g_aload_n 27 (gd rfl) rfl rfl ?_
        refine g_iload_n 28 (gd rfl) rfl rfl ?_
        refine g_callv (X := _) (As := [.int y18_2]) (r := []) (b := A 2) (q := 2) 31 (gd rfl) rfl rfl rfl rfl rfl (ww_o rfl) (Nat.le_of_ble_eq_true rfl) (mc := 0) (ms := 0) (Nat.zero_le _) (Nat.zero_le _) (P := fun v u => _) ?_ (fun e u h => h) (fun v u h => h)
        intro po7 xx8 hp9 hx10
        refine g_enter2 (k := 97) (N := 300) (by omega) rfl (Nat.le_of_ble_eq_true rfl) ?_
        refine g_aload_n 1 (gd rfl) rfl rfl ?_
        refine g_getA (q2 := 4) 4 (gd rfl) rfl rfl rfl rfl rfl ?_
        refine g_iload_n 5 (gd rfl) rfl rfl ?_
        refine g_iaload 6 (gd rfl) rfl (n := 160) rfl (in_ix i5 rfl) (fun z11 e12 => ?_)
        have i13 := inv_I hI (n := 160) (t := 0) (-1) 31 rfl (in_ix i5 rfl) rfl e12
        refine g_iconst (-1) 7 (gd rfl) rfl rfl ?_
        refine g_cmp_eq 10 29 (gd rfl) rfl rfl (fun c14 => ?_) (fun c14 => ?_)
        · skip
          have i15 := r_eq1 (-1) (-1) c14 i13 (in_c (-1) rfl) rfl
          refine g_iconst 0 30 (gd rfl) rfl rfl ?_
          refine g_ireturn (gd rfl) rfl (nb01 (in_w 0 1 (in_c 0 rfl) rfl)) (hp9 _ _ ?_)
          show GG _ _ _ _ _ _ _ _ [.int (Int32.ofInt 0)] _ _ _
          refine g_if_eq 34 95 (gd rfl) rfl rfl (fun c16 => ?_) (fun c16 => ?_)
          · skip
            refine g_iinc 98 (gd rfl) rfl rfl (Nat.le_of_ble_eq_true rfl) (fun z17 e18 => ?_)
            have i19 := in_add 1 160 e18 i5 (in_c 1 rfl) rfl rfl
            refine g_goto 18 (gd rfl) rfl ?_
            exact gg_w (by omega) (gg_f (gf_cons rfl (gf_cons rfl (gf_cons rfl gf_nil))) (ih18 s z17 hI (in_w 0 160 i19 rfl) (m_up mm18 (t_add e18 i5 (in_c 1 rfl) rfl) (in_w 1 1 (in_c 1 rfl) rfl))))
          · skip
            exact zn_ne c16 (in_c 0 rfl) rfl
        · skip
          have i20 := r_ne1 0 31 c14 i13 (in_c (-1) rfl) rfl
          refine g_aload_n 11 (gd rfl) rfl rfl ?_
          refine g_getA (q2 := 4) 14 (gd rfl) rfl rfl rfl rfl rfl ?_
          refine g_iload_n 15 (gd rfl) rfl rfl ?_
          refine g_iaload 16 (gd rfl) rfl (n := 160) rfl (in_ix i5 rfl) (fun z21 e22 => ?_)
          have q23 : z11 = z21 := e12.trans e22.symm
          subst q23
          refine g_aload_n 17 (gd rfl) rfl rfl ?_
          refine g_getA (q2 := 5) 20 (gd rfl) rfl rfl rfl rfl rfl ?_
          refine g_iload_n 21 (gd rfl) rfl rfl ?_
          refine g_iaload 22 (gd rfl) rfl (n := 160) rfl (in_ix i5 rfl) (fun z24 e25 => ?_)
          have i26 := inv_I hI (n := 160) (t := 0) 0 31 rfl (in_ix i5 rfl) rfl e25
          refine g_cmp_eq 25 29 (gd rfl) rfl rfl (fun c27 => ?_) (fun c27 => ?_)
          · skip
            refine g_iconst 0 30 (gd rfl) rfl rfl ?_
            refine g_ireturn (gd rfl) rfl (nb01 (in_w 0 1 (in_c 0 rfl) rfl)) (hp9 _ _ ?_)
            show GG _ _ _ _ _ _ _ _ [.int (Int32.ofInt 0)] _ _ _
            refine g_if_eq 34 95 (gd rfl) rfl rfl (fun c28 => ?_) (fun c28 => ?_)
            · skip
              refine g_iinc 98 (gd rfl) rfl rfl (Nat.le_of_ble_eq_true rfl) (fun z29 e30 => ?_)
              have i31 := in_add 1 160 e30 i5 (in_c 1 rfl) rfl rfl
              refine g_goto 18 (gd rfl) rfl ?_
              exact gg_w (by omega) (gg_f (gf_cons rfl (gf_cons rfl (gf_cons rfl gf_nil))) (ih18 s z29 hI (in_w 0 160 i31 rfl) (m_up mm18 (t_add e30 i5 (in_c 1 rfl) rfl) (in_w 1 1 (in_c 1 rfl) rfl))))
            · skip
              exact zn_ne c28 (in_c 0 rfl) rfl
          · skip
            refine g_iconst 1 26 (gd rfl) rfl rfl ?_
            refine g_goto 30 (gd rfl) rfl ?_
            refine g_ireturn (gd rfl) rfl (nb01 (in_w 0 1 (in_c 1 rfl) rfl)) (hp9 _ _ ?_)
            show GG _ _ _ _ _ _ _ _ [.int (Int32.ofInt 1)] _ _ _
            refine g_if_eq 34 95 (gd rfl) rfl rfl (fun c32 => ?_) (fun c32 => ?_)
            · skip
              exact zn_eq c32 (in_c 1 rfl) rfl
            · skip
              refine g_aload_n 35 (gd rfl) rfl rfl ?_
              refine g_getA (q2 := 7) 38 (gd rfl) rfl rfl rfl rfl rfl ?_
              refine g_iload_n 39 (gd rfl) rfl rfl ?_
              refine g_iaload 40 (gd rfl) rfl (n := 160) rfl (in_ix i5 rfl) (fun z33 e34 => ?_)
              have i35 := inv_I hI (n := 160) (t := 0) 0 1000000 rfl (in_ix i5 rfl) rfl e34
              refine g_if_le 43 95 (gd rfl) rfl rfl (fun c36 => ?_) (fun c36 => ?_)
              · skip
                have i37 := z_le 0 0 c36 i35 rfl
                refine g_iinc 98 (gd rfl) rfl rfl (Nat.le_of_ble_eq_true rfl) (fun z38 e39 => ?_)
                have i40 := in_add 1 160 e39 i5 (in_c 1 rfl) rfl rfl
                refine g_goto 18 (gd rfl) rfl ?_
                exact gg_w (by omega) (gg_f (gf_cons rfl (gf_cons rfl (gf_cons rfl gf_nil))) (ih18 s z38 hI (in_w 0 160 i40 rfl) (m_up mm18 (t_add e39 i5 (in_c 1 rfl) rfl) (in_w 1 1 (in_c 1 rfl) rfl))))
              · skip
                have i41 := z_gt 1 1000000 c36 i35 rfl
                refine g_aload_n 44 (gd rfl) rfl rfl ?_
                refine g_getA (q2 := 66) 47 (gd rfl) rfl rfl rfl rfl rfl ?_
                refine g_aload_n 48 (gd rfl) rfl rfl ?_
                refine g_getA (q2 := 4) 51 (gd rfl) rfl rfl rfl rfl rfl ?_
                refine g_iload_n 52 (gd rfl) rfl rfl ?_
                refine g_iaload 53 (gd rfl) rfl (n := 160) rfl (in_ix i5 rfl) (fun z42 e43 => ?_)
                have q44 : z11 = z42 := e12.trans e43.symm
                subst q44
                refine g_bipush 32 55 (gd rfl) rfl rfl ?_
                refine g_imul 56 (gd rfl) rfl (fun z45 e46 => ?_)
                have i47 := in_mulc 32 0 992 (Or.inr e46) i20 rfl rfl
                refine g_aload_n 57 (gd rfl) rfl rfl ?_
                refine g_getA (q2 := 5) 60 (gd rfl) rfl rfl rfl rfl rfl ?_
                refine g_iload_n 61 (gd rfl) rfl rfl ?_
                refine g_iaload 62 (gd rfl) rfl (n := 160) rfl (in_ix i5 rfl) (fun z48 e49 => ?_)
                have q50 : z24 = z48 := e25.trans e49.symm
                subst q50
                refine g_iadd 63 (gd rfl) rfl (fun z51 e52 => ?_)
                have i53 := in_add 0 1023 e52 i47 i26 rfl rfl
                refine g_dup2 64 (gd rfl) rfl rfl rfl ?_
                refine g_iaload 65 (gd rfl) rfl (n := 1024) rfl (in_ix i53 rfl) (fun z54 e55 => ?_)
                refine g_aload_n 66 (gd rfl) rfl rfl ?_
                refine g_getA (q2 := 7) 69 (gd rfl) rfl rfl rfl rfl rfl ?_
                refine g_iload_n 70 (gd rfl) rfl rfl ?_
                refine g_iaload 71 (gd rfl) rfl (n := 160) rfl (in_ix i5 rfl) (fun z56 e57 => ?_)
                have q58 : z33 = z56 := e34.trans e57.symm
                subst q58
                refine g_iadd 72 (gd rfl) rfl (fun z59 e60 => ?_)
                refine g_iastore 73 (gd rfl) rfl (n := 1024) rfl (in_ix i53 rfl) ?_
                have hI61 := inv_sI (q := 66) (j := z51.toNatClampNeg) hI rfl (in_w (-2147483648) 2147483647 (i_rng z59) rfl)
                refine g_aload_n 74 (gd rfl) rfl rfl ?_
                refine g_getA (q2 := 67) 77 (gd rfl) rfl rfl rfl rfl rfl ?_
                refine g_aload_n 78 (gd rfl) rfl rfl ?_
                refine g_getA (q2 := 4) 81 (gd rfl) rfl rfl rfl rfl rfl ?_
                refine g_iload_n 82 (gd rfl) rfl rfl ?_
                refine g_iaload 83 (gd rfl) rfl (n := 160) rfl (in_ix i5 rfl) (fun z62 e63 => ?_)
                have q64 : z11 = z62 := e12.trans e63.symm
                subst q64
                refine g_dup2 84 (gd rfl) rfl rfl rfl ?_
                refine g_iaload 85 (gd rfl) rfl (n := 32) rfl (in_ix i20 rfl) (fun z65 e66 => ?_)
                refine g_iconst 1 86 (gd rfl) rfl rfl ?_
                refine g_aload_n 87 (gd rfl) rfl rfl ?_
                refine g_getA (q2 := 5) 90 (gd rfl) rfl rfl rfl rfl rfl ?_
                refine g_iload_n 91 (gd rfl) rfl rfl ?_
                refine g_iaload 92 (gd rfl) rfl (n := 160) rfl (in_ix i5 rfl) (fun z67 e68 => ?_)
                have q69 : z24 = z67 := e25.trans e68.symm
                subst q69
                refine g_ishl 93 (gd rfl) rfl (fun z70 e71 => ?_)
                refine g_ior 94 (gd rfl) rfl (fun z72 e73 => ?_)
                refine g_iastore 95 (gd rfl) rfl (n := 32) rfl (in_ix i20 rfl) ?_
                have hI74 := inv_sI (q := 67) (j := z11.toNatClampNeg) hI61 rfl (in_w (-2147483648) 2147483647 (i_rng z72) rfl)
                refine g_iinc 98 (gd rfl) rfl rfl (Nat.le_of_ble_eq_true rfl) (fun z75 e76 => ?_)
                have i77 := in_add 1 160 e76 i5 (in_c 1 rfl) rfl rfl
                refine g_goto 18 (gd rfl) rfl ?_
                exact gg_w (by omega) (gg_f (gf_cons rfl (gf_cons rfl (gf_cons rfl gf_nil))) (ih18 (sI (sI s 66 z51.toNatClampNeg z59) 67 z11.toNatClampNeg z72) z75 hI74 (in_w 0 160 i77 rfl) (m_up mm18 (t_add e76 i5 (in_c 1 rfl) rfl) (in_w 1 1 (in_c 1 rfl) rfl))))
  refine g_enter2 (k := 76) (N := 145801) (by omega) rfl (Nat.le_of_ble_eq_true rfl) ?_
  refine g_aload_n 1 (gd rfl) rfl rfl ?_
  refine g_getA (q2 := 66) 4 (gd rfl) rfl rfl rfl rfl rfl ?_
  refine g_iconst 0 5 (gd rfl) rfl rfl ?_
  refine g_calls (As := [.ref (A 66), .int (Int32.ofInt 0)]) (r := []) 8 (gd rfl) rfl rfl rfl rfl rfl (Nat.le_of_ble_eq_true rfl) (Nat.zero_le _) (Nat.zero_le _) (k_417_66 (by omega) hI (in_w 0 0 (in_c 0 rfl) rfl)) (fun v u h => ?_)
  obtain ⟨s78, hI79, rfl, rfl⟩ := h
  show GG _ _ _ _ _ _ _ _ [] _ _ _
  refine g_aload_n 9 (gd rfl) rfl rfl ?_
  refine g_getA (q2 := 67) 12 (gd rfl) rfl rfl rfl rfl rfl ?_
  refine g_iconst 0 13 (gd rfl) rfl rfl ?_
  refine g_calls (As := [.ref (A 67), .int (Int32.ofInt 0)]) (r := []) 16 (gd rfl) rfl rfl rfl rfl rfl (Nat.le_of_ble_eq_true rfl) (Nat.zero_le _) (Nat.zero_le _) (k_417_67 (by omega) hI79 (in_w 0 0 (in_c 0 rfl) rfl)) (fun v u h => ?_)
  obtain ⟨s82, hI83, rfl, rfl⟩ := h
  show GG _ _ _ _ _ _ _ _ [] _ _ _
  refine g_iconst 0 17 (gd rfl) rfl rfl ?_
  refine g_istore_n 18 (gd rfl) rfl (Nat.le_of_ble_eq_true rfl) ?_
  exact gg_w (by omega) (gg_f (gf_cons rfl (gf_cons rfl (gf_cons rfl gf_nil))) (ct18 161 s82 (Int32.ofInt 0) hI83 (in_w 0 160 (in_c 0 rfl) rfl) (m_in 161 (in_w 0 160 (in_c 0 rfl) rfl) rfl)))

/-- GraphHouse$Flows.openAll -/
theorem k_76_65_32 {Z : AmZ} {A : Nat → Nat} {s : GS} {ex : va_W} {d : Nat} {X : AmX}  (hd : 3 ≤ d) (hI : Inv s)  : GC Z d 76 [.ref (A 65), .ref (A 32)] (WW Z A s ++ ex) 0 0 (fun v u => ∃ t : GS, Inv t ∧ v = none ∧ u = WW Z A t ++ ex) X := by
  intro post xp hP hX
  have ct18 : ∀ (k18 : Nat) (s : GS) (y18_2 : Int32), Inv s → In y18_2 0 160 → 160 - (y18_2).toInt < (k18 : Int) → GG Z (d - 1) 76 post (gx xp) (1 + k18 * 900) 18 (fun j => xlook j [(0, .ref (A 65)), (1, .ref (A 32)), (2, .int y18_2)]) [] (WW Z A s ++ ex) 0 0 := by
    intro k18
    induction k18 with
    | zero => intro s y18_2 hI j18_2 mm18; exact m_no mm18 j18_2 rfl
    | succ k18 ih18 =>
      intro s y18_2 hI j18_2 mm18
      refine gg_w (M := 1 + k18 * 900 + 900) (by omega) ?_
      refine g_iload_n 19 (gd rfl) rfl rfl ?_
      refine g_aload_n 20 (gd rfl) rfl rfl ?_
      refine g_getI 23 (gd rfl) rfl rfl rfl (fun z1 e2 => ?_)
      have i3 := inv_F hI 0 160 rfl e2
      refine g_cmp_ge 26 101 (gd rfl) rfl rfl (fun c4 => ?_) (fun c4 => ?_)
      · skip
        exact g_return (gd rfl) rfl (hP _ _ ⟨s, hI, rfl, rfl⟩)
      · skip
        have i5 := r_lt1 0 159 c4 j18_2 i3 rfl
        have i6 := r_lt2 1 160 c4 j18_2 i3 rfl
        refine g_aload_n 27 (gd rfl) rfl rfl ?_
        refine g_iload_n 28 (gd rfl) rfl rfl ?_
        refine g_callv (X := _) (As := [.int y18_2]) (r := []) (b := A 32) (q := 32) 31 (gd rfl) rfl rfl rfl rfl rfl (ww_o rfl) (Nat.le_of_ble_eq_true rfl) (mc := 0) (ms := 0) (Nat.zero_le _) (Nat.zero_le _) (P := fun v u => _) ?_ (fun e u h => h) (fun v u h => h)
        intro po7 xx8 hp9 hx10
        refine g_enter2 (k := 97) (N := 300) (by omega) rfl (Nat.le_of_ble_eq_true rfl) ?_
        refine g_aload_n 1 (gd rfl) rfl rfl ?_
        refine g_getA (q2 := 34) 4 (gd rfl) rfl rfl rfl rfl rfl ?_
        refine g_iload_n 5 (gd rfl) rfl rfl ?_
        refine g_iaload 6 (gd rfl) rfl (n := 160) rfl (in_ix i5 rfl) (fun z11 e12 => ?_)
        have i13 := inv_I hI (n := 160) (t := 0) (-1) 31 rfl (in_ix i5 rfl) rfl e12
        refine g_iconst (-1) 7 (gd rfl) rfl rfl ?_
        refine g_cmp_eq 10 29 (gd rfl) rfl rfl (fun c14 => ?_) (fun c14 => ?_)
        · skip
          have i15 := r_eq1 (-1) (-1) c14 i13 (in_c (-1) rfl) rfl
          refine g_iconst 0 30 (gd rfl) rfl rfl ?_
          refine g_ireturn (gd rfl) rfl (nb01 (in_w 0 1 (in_c 0 rfl) rfl)) (hp9 _ _ ?_)
          show GG _ _ _ _ _ _ _ _ [.int (Int32.ofInt 0)] _ _ _
          refine g_if_eq 34 95 (gd rfl) rfl rfl (fun c16 => ?_) (fun c16 => ?_)
          · skip
            refine g_iinc 98 (gd rfl) rfl rfl (Nat.le_of_ble_eq_true rfl) (fun z17 e18 => ?_)
            have i19 := in_add 1 160 e18 i5 (in_c 1 rfl) rfl rfl
            refine g_goto 18 (gd rfl) rfl ?_
            exact gg_w (by omega) (gg_f (gf_cons rfl (gf_cons rfl (gf_cons rfl gf_nil))) (ih18 s z17 hI (in_w 0 160 i19 rfl) (m_up mm18 (t_add e18 i5 (in_c 1 rfl) rfl) (in_w 1 1 (in_c 1 rfl) rfl))))
          · skip
            exact zn_ne c16 (in_c 0 rfl) rfl
        · skip
          have i20 := r_ne1 0 31 c14 i13 (in_c (-1) rfl) rfl
          refine g_aload_n 11 (gd rfl) rfl rfl ?_
          refine g_getA (q2 := 34) 14 (gd rfl) rfl rfl rfl rfl rfl ?_
          refine g_iload_n 15 (gd rfl) rfl rfl ?_
          refine g_iaload 16 (gd rfl) rfl (n := 160) rfl (in_ix i5 rfl) (fun z21 e22 => ?_)
          have q23 : z11 = z21 := e12.trans e22.symm
          subst q23
          refine g_aload_n 17 (gd rfl) rfl rfl ?_
          refine g_getA (q2 := 35) 20 (gd rfl) rfl rfl rfl rfl rfl ?_
          refine g_iload_n 21 (gd rfl) rfl rfl ?_
          refine g_iaload 22 (gd rfl) rfl (n := 160) rfl (in_ix i5 rfl) (fun z24 e25 => ?_)
          have i26 := inv_I hI (n := 160) (t := 0) 0 31 rfl (in_ix i5 rfl) rfl e25
          refine g_cmp_eq 25 29 (gd rfl) rfl rfl (fun c27 => ?_) (fun c27 => ?_)
          · skip
            refine g_iconst 0 30 (gd rfl) rfl rfl ?_
            refine g_ireturn (gd rfl) rfl (nb01 (in_w 0 1 (in_c 0 rfl) rfl)) (hp9 _ _ ?_)
            show GG _ _ _ _ _ _ _ _ [.int (Int32.ofInt 0)] _ _ _
            refine g_if_eq 34 95 (gd rfl) rfl rfl (fun c28 => ?_) (fun c28 => ?_)
            · skip
              refine g_iinc 98 (gd rfl) rfl rfl (Nat.le_of_ble_eq_true rfl) (fun z29 e30 => ?_)
              have i31 := in_add 1 160 e30 i5 (in_c 1 rfl) rfl rfl
              refine g_goto 18 (gd rfl) rfl ?_
              exact gg_w (by omega) (gg_f (gf_cons rfl (gf_cons rfl (gf_cons rfl gf_nil))) (ih18 s z29 hI (in_w 0 160 i31 rfl) (m_up mm18 (t_add e30 i5 (in_c 1 rfl) rfl) (in_w 1 1 (in_c 1 rfl) rfl))))
            · skip
              exact zn_ne c28 (in_c 0 rfl) rfl
          · skip
            refine g_iconst 1 26 (gd rfl) rfl rfl ?_
            refine g_goto 30 (gd rfl) rfl ?_
            refine g_ireturn (gd rfl) rfl (nb01 (in_w 0 1 (in_c 1 rfl) rfl)) (hp9 _ _ ?_)
            show GG _ _ _ _ _ _ _ _ [.int (Int32.ofInt 1)] _ _ _
            refine g_if_eq 34 95 (gd rfl) rfl rfl (fun c32 => ?_) (fun c32 => ?_)
            · skip
              exact zn_eq c32 (in_c 1 rfl) rfl
            · skip
              refine g_aload_n 35 (gd rfl) rfl rfl ?_
              refine g_getA (q2 := 37) 38 (gd rfl) rfl rfl rfl rfl rfl ?_
              refine g_iload_n 39 (gd rfl) rfl rfl ?_
              refine g_iaload 40 (gd rfl) rfl (n := 160) rfl (in_ix i5 rfl) (fun z33 e34 => ?_)
              have i35 := inv_I hI (n := 160) (t := 0) 0 1000000 rfl (in_ix i5 rfl) rfl e34
              refine g_if_le 43 95 (gd rfl) rfl rfl (fun c36 => ?_) (fun c36 => ?_)
              · skip
                have i37 := z_le 0 0 c36 i35 rfl
                refine g_iinc 98 (gd rfl) rfl rfl (Nat.le_of_ble_eq_true rfl) (fun z38 e39 => ?_)
                have i40 := in_add 1 160 e39 i5 (in_c 1 rfl) rfl rfl
                refine g_goto 18 (gd rfl) rfl ?_
                exact gg_w (by omega) (gg_f (gf_cons rfl (gf_cons rfl (gf_cons rfl gf_nil))) (ih18 s z38 hI (in_w 0 160 i40 rfl) (m_up mm18 (t_add e39 i5 (in_c 1 rfl) rfl) (in_w 1 1 (in_c 1 rfl) rfl))))
              · skip
                have i41 := z_gt 1 1000000 c36 i35 rfl
                refine g_aload_n 44 (gd rfl) rfl rfl ?_
                refine g_getA (q2 := 66) 47 (gd rfl) rfl rfl rfl rfl rfl ?_
                refine g_aload_n 48 (gd rfl) rfl rfl ?_
                refine g_getA (q2 := 34) 51 (gd rfl) rfl rfl rfl rfl rfl ?_
                refine g_iload_n 52 (gd rfl) rfl rfl ?_
                refine g_iaload 53 (gd rfl) rfl (n := 160) rfl (in_ix i5 rfl) (fun z42 e43 => ?_)
                have q44 : z11 = z42 := e12.trans e43.symm
                subst q44
                refine g_bipush 32 55 (gd rfl) rfl rfl ?_
                refine g_imul 56 (gd rfl) rfl (fun z45 e46 => ?_)
                have i47 := in_mulc 32 0 992 (Or.inr e46) i20 rfl rfl
                refine g_aload_n 57 (gd rfl) rfl rfl ?_
                refine g_getA (q2 := 35) 60 (gd rfl) rfl rfl rfl rfl rfl ?_
                refine g_iload_n 61 (gd rfl) rfl rfl ?_
                refine g_iaload 62 (gd rfl) rfl (n := 160) rfl (in_ix i5 rfl) (fun z48 e49 => ?_)
                have q50 : z24 = z48 := e25.trans e49.symm
                subst q50
                refine g_iadd 63 (gd rfl) rfl (fun z51 e52 => ?_)
                have i53 := in_add 0 1023 e52 i47 i26 rfl rfl
                refine g_dup2 64 (gd rfl) rfl rfl rfl ?_
                refine g_iaload 65 (gd rfl) rfl (n := 1024) rfl (in_ix i53 rfl) (fun z54 e55 => ?_)
                refine g_aload_n 66 (gd rfl) rfl rfl ?_
                refine g_getA (q2 := 37) 69 (gd rfl) rfl rfl rfl rfl rfl ?_
                refine g_iload_n 70 (gd rfl) rfl rfl ?_
                refine g_iaload 71 (gd rfl) rfl (n := 160) rfl (in_ix i5 rfl) (fun z56 e57 => ?_)
                have q58 : z33 = z56 := e34.trans e57.symm
                subst q58
                refine g_iadd 72 (gd rfl) rfl (fun z59 e60 => ?_)
                refine g_iastore 73 (gd rfl) rfl (n := 1024) rfl (in_ix i53 rfl) ?_
                have hI61 := inv_sI (q := 66) (j := z51.toNatClampNeg) hI rfl (in_w (-2147483648) 2147483647 (i_rng z59) rfl)
                refine g_aload_n 74 (gd rfl) rfl rfl ?_
                refine g_getA (q2 := 67) 77 (gd rfl) rfl rfl rfl rfl rfl ?_
                refine g_aload_n 78 (gd rfl) rfl rfl ?_
                refine g_getA (q2 := 34) 81 (gd rfl) rfl rfl rfl rfl rfl ?_
                refine g_iload_n 82 (gd rfl) rfl rfl ?_
                refine g_iaload 83 (gd rfl) rfl (n := 160) rfl (in_ix i5 rfl) (fun z62 e63 => ?_)
                have q64 : z11 = z62 := e12.trans e63.symm
                subst q64
                refine g_dup2 84 (gd rfl) rfl rfl rfl ?_
                refine g_iaload 85 (gd rfl) rfl (n := 32) rfl (in_ix i20 rfl) (fun z65 e66 => ?_)
                refine g_iconst 1 86 (gd rfl) rfl rfl ?_
                refine g_aload_n 87 (gd rfl) rfl rfl ?_
                refine g_getA (q2 := 35) 90 (gd rfl) rfl rfl rfl rfl rfl ?_
                refine g_iload_n 91 (gd rfl) rfl rfl ?_
                refine g_iaload 92 (gd rfl) rfl (n := 160) rfl (in_ix i5 rfl) (fun z67 e68 => ?_)
                have q69 : z24 = z67 := e25.trans e68.symm
                subst q69
                refine g_ishl 93 (gd rfl) rfl (fun z70 e71 => ?_)
                refine g_ior 94 (gd rfl) rfl (fun z72 e73 => ?_)
                refine g_iastore 95 (gd rfl) rfl (n := 32) rfl (in_ix i20 rfl) ?_
                have hI74 := inv_sI (q := 67) (j := z11.toNatClampNeg) hI61 rfl (in_w (-2147483648) 2147483647 (i_rng z72) rfl)
                refine g_iinc 98 (gd rfl) rfl rfl (Nat.le_of_ble_eq_true rfl) (fun z75 e76 => ?_)
                have i77 := in_add 1 160 e76 i5 (in_c 1 rfl) rfl rfl
                refine g_goto 18 (gd rfl) rfl ?_
                exact gg_w (by omega) (gg_f (gf_cons rfl (gf_cons rfl (gf_cons rfl gf_nil))) (ih18 (sI (sI s 66 z51.toNatClampNeg z59) 67 z11.toNatClampNeg z72) z75 hI74 (in_w 0 160 i77 rfl) (m_up mm18 (t_add e76 i5 (in_c 1 rfl) rfl) (in_w 1 1 (in_c 1 rfl) rfl))))
  refine g_enter2 (k := 76) (N := 145801) (by omega) rfl (Nat.le_of_ble_eq_true rfl) ?_
  refine g_aload_n 1 (gd rfl) rfl rfl ?_
  refine g_getA (q2 := 66) 4 (gd rfl) rfl rfl rfl rfl rfl ?_
  refine g_iconst 0 5 (gd rfl) rfl rfl ?_
  refine g_calls (As := [.ref (A 66), .int (Int32.ofInt 0)]) (r := []) 8 (gd rfl) rfl rfl rfl rfl rfl (Nat.le_of_ble_eq_true rfl) (Nat.zero_le _) (Nat.zero_le _) (k_417_66 (by omega) hI (in_w 0 0 (in_c 0 rfl) rfl)) (fun v u h => ?_)
  obtain ⟨s78, hI79, rfl, rfl⟩ := h
  show GG _ _ _ _ _ _ _ _ [] _ _ _
  refine g_aload_n 9 (gd rfl) rfl rfl ?_
  refine g_getA (q2 := 67) 12 (gd rfl) rfl rfl rfl rfl rfl ?_
  refine g_iconst 0 13 (gd rfl) rfl rfl ?_
  refine g_calls (As := [.ref (A 67), .int (Int32.ofInt 0)]) (r := []) 16 (gd rfl) rfl rfl rfl rfl rfl (Nat.le_of_ble_eq_true rfl) (Nat.zero_le _) (Nat.zero_le _) (k_417_67 (by omega) hI79 (in_w 0 0 (in_c 0 rfl) rfl)) (fun v u h => ?_)
  obtain ⟨s82, hI83, rfl, rfl⟩ := h
  show GG _ _ _ _ _ _ _ _ [] _ _ _
  refine g_iconst 0 17 (gd rfl) rfl rfl ?_
  refine g_istore_n 18 (gd rfl) rfl (Nat.le_of_ble_eq_true rfl) ?_
  exact gg_w (by omega) (gg_f (gf_cons rfl (gf_cons rfl (gf_cons rfl gf_nil))) (ct18 161 s82 (Int32.ofInt 0) hI83 (in_w 0 160 (in_c 0 rfl) rfl) (m_in 161 (in_w 0 160 (in_c 0 rfl) rfl) rfl)))

/-- GraphHouse$Flows.layArcs -/
theorem k_80_65_2 {Z : AmZ} {A : Nat → Nat} {s : GS} {ex : va_W} {d : Nat} {X : AmX}  (hd : 3 ≤ d) (hI : Inv s)  : GC Z d 80 [.ref (A 65), .ref (A 2)] (WW Z A s ++ ex) 0 0 (fun v u => ∃ t : GS, Inv t ∧ ∃ z : Int64, v = some (.long z) ∧ u = WW Z A t ++ ex) X := by
  intro post xp hP hX
  have ct18 : ∀ (k18 : Nat) (s : GS) (y18_2 : Int64) (y18_4 : Int32), Inv s → In y18_4 0 160 → 160 - (y18_4).toInt < (k18 : Int) → GG Z (d - 1) 80 post (gx xp) (1 + k18 * 900) 18 (fun j => xlook j [(0, .ref (A 65)), (1, .ref (A 2)), (2, .long y18_2), (4, .int y18_4)]) [] (WW Z A s ++ ex) 0 0 := by
    intro k18
    induction k18 with
    | zero => intro s y18_2 y18_4 hI j18_4 mm18; exact m_no mm18 j18_4 rfl
    | succ k18 ih18 =>
      intro s y18_2 y18_4 hI j18_4 mm18
      refine gg_w (M := 1 + k18 * 900 + 900) (by omega) ?_
      refine g_iload 20 (gd rfl) rfl rfl ?_
      refine g_aload_n 21 (gd rfl) rfl rfl ?_
      refine g_getI 24 (gd rfl) rfl rfl rfl (fun z1 e2 => ?_)
      have i3 := inv_F hI 0 160 rfl e2
      refine g_cmp_ge 27 118 (gd rfl) rfl rfl (fun c4 => ?_) (fun c4 => ?_)
      · skip
        refine g_lload_n 119 (gd rfl) rfl rfl ?_
        exact g_lreturn (gd rfl) rfl (hP _ _ ⟨s, hI, y18_2, rfl, rfl⟩)
      · skip
        have i5 := r_lt1 0 159 c4 j18_4 i3 rfl
        have i6 := r_lt2 1 160 c4 j18_4 i3 rfl
        refine g_aload_n 28 (gd rfl) rfl rfl ?_
        refine g_iload 30 (gd rfl) rfl rfl ?_
        refine g_callv (X := _) (As := [.int y18_4]) (r := []) (b := A 2) (q := 2) 33 (gd rfl) rfl rfl rfl rfl rfl (ww_o rfl) (Nat.le_of_ble_eq_true rfl) (mc := 0) (ms := 0) (Nat.zero_le _) (Nat.zero_le _) (P := fun v u => _) ?_ (fun e u h => h) (fun v u h => h)
        intro po7 xx8 hp9 hx10
        refine g_enter2 (k := 97) (N := 300) (by omega) rfl (Nat.le_of_ble_eq_true rfl) ?_
        refine g_aload_n 1 (gd rfl) rfl rfl ?_
        refine g_getA (q2 := 4) 4 (gd rfl) rfl rfl rfl rfl rfl ?_
        refine g_iload_n 5 (gd rfl) rfl rfl ?_
        refine g_iaload 6 (gd rfl) rfl (n := 160) rfl (in_ix i5 rfl) (fun z11 e12 => ?_)
        have i13 := inv_I hI (n := 160) (t := 0) (-1) 31 rfl (in_ix i5 rfl) rfl e12
        refine g_iconst (-1) 7 (gd rfl) rfl rfl ?_
        refine g_cmp_eq 10 29 (gd rfl) rfl rfl (fun c14 => ?_) (fun c14 => ?_)
        · skip
          have i15 := r_eq1 (-1) (-1) c14 i13 (in_c (-1) rfl) rfl
          refine g_iconst 0 30 (gd rfl) rfl rfl ?_
          refine g_ireturn (gd rfl) rfl (nb01 (in_w 0 1 (in_c 0 rfl) rfl)) (hp9 _ _ ?_)
          show GG _ _ _ _ _ _ _ _ [.int (Int32.ofInt 0)] _ _ _
          refine g_if_eq 36 71 (gd rfl) rfl rfl (fun c16 => ?_) (fun c16 => ?_)
          · skip
            refine g_aload_n 72 (gd rfl) rfl rfl ?_
            refine g_getA (q2 := 4) 75 (gd rfl) rfl rfl rfl rfl rfl ?_
            refine g_iload 77 (gd rfl) rfl rfl ?_
            refine g_iaload 78 (gd rfl) rfl (n := 160) rfl (in_ix i5 rfl) (fun z17 e18 => ?_)
            have q19 : z11 = z17 := e12.trans e18.symm
            subst q19
            refine g_iconst (-1) 79 (gd rfl) rfl rfl ?_
            refine g_cmp_eq 82 112 (gd rfl) rfl rfl (fun c20 => ?_) (fun c20 => ?_)
            · skip
              refine g_iinc 115 (gd rfl) rfl rfl (Nat.le_of_ble_eq_true rfl) (fun z21 e22 => ?_)
              have i23 := in_add 1 160 e22 i5 (in_c 1 rfl) rfl rfl
              refine g_goto 18 (gd rfl) rfl ?_
              exact gg_w (by omega) (gg_f (gf_cons rfl (gf_cons rfl (gf_cons rfl (gf_cons rfl gf_nil)))) (ih18 s y18_2 z21 hI (in_w 0 160 i23 rfl) (m_up mm18 (t_add e22 i5 (in_c 1 rfl) rfl) (in_w 1 1 (in_c 1 rfl) rfl))))
            · skip
              exact n_ne c20 i15 (in_c (-1) rfl) rfl
          · skip
            exact zn_ne c16 (in_c 0 rfl) rfl
        · skip
          have i24 := r_ne1 0 31 c14 i13 (in_c (-1) rfl) rfl
          refine g_aload_n 11 (gd rfl) rfl rfl ?_
          refine g_getA (q2 := 4) 14 (gd rfl) rfl rfl rfl rfl rfl ?_
          refine g_iload_n 15 (gd rfl) rfl rfl ?_
          refine g_iaload 16 (gd rfl) rfl (n := 160) rfl (in_ix i5 rfl) (fun z25 e26 => ?_)
          have q27 : z11 = z25 := e12.trans e26.symm
          subst q27
          refine g_aload_n 17 (gd rfl) rfl rfl ?_
          refine g_getA (q2 := 5) 20 (gd rfl) rfl rfl rfl rfl rfl ?_
          refine g_iload_n 21 (gd rfl) rfl rfl ?_
          refine g_iaload 22 (gd rfl) rfl (n := 160) rfl (in_ix i5 rfl) (fun z28 e29 => ?_)
          have i30 := inv_I hI (n := 160) (t := 0) 0 31 rfl (in_ix i5 rfl) rfl e29
          refine g_cmp_eq 25 29 (gd rfl) rfl rfl (fun c31 => ?_) (fun c31 => ?_)
          · skip
            refine g_iconst 0 30 (gd rfl) rfl rfl ?_
            refine g_ireturn (gd rfl) rfl (nb01 (in_w 0 1 (in_c 0 rfl) rfl)) (hp9 _ _ ?_)
            show GG _ _ _ _ _ _ _ _ [.int (Int32.ofInt 0)] _ _ _
            refine g_if_eq 36 71 (gd rfl) rfl rfl (fun c32 => ?_) (fun c32 => ?_)
            · skip
              refine g_aload_n 72 (gd rfl) rfl rfl ?_
              refine g_getA (q2 := 4) 75 (gd rfl) rfl rfl rfl rfl rfl ?_
              refine g_iload 77 (gd rfl) rfl rfl ?_
              refine g_iaload 78 (gd rfl) rfl (n := 160) rfl (in_ix i5 rfl) (fun z33 e34 => ?_)
              have q35 : z11 = z33 := e12.trans e34.symm
              subst q35
              refine g_iconst (-1) 79 (gd rfl) rfl rfl ?_
              refine g_cmp_eq 82 112 (gd rfl) rfl rfl (fun c36 => ?_) (fun c36 => ?_)
              · skip
                exact n_eq c36 i24 (in_c (-1) rfl) rfl
              · skip
                refine g_aload_n 83 (gd rfl) rfl rfl ?_
                refine g_getA (q2 := 6) 86 (gd rfl) rfl rfl rfl rfl rfl ?_
                refine g_iload 88 (gd rfl) rfl rfl ?_
                refine g_iaload 89 (gd rfl) rfl (n := 160) rfl (in_ix i5 rfl) (fun z37 e38 => ?_)
                have i39 := inv_I hI (n := 160) (t := 0) (-1000000) 1000000 rfl (in_ix i5 rfl) rfl e38
                refine g_if_ge 92 112 (gd rfl) rfl rfl (fun c40 => ?_) (fun c40 => ?_)
                · skip
                  have i41 := z_ge 0 1000000 c40 i39 rfl
                  refine g_iinc 115 (gd rfl) rfl rfl (Nat.le_of_ble_eq_true rfl) (fun z42 e43 => ?_)
                  have i44 := in_add 1 160 e43 i5 (in_c 1 rfl) rfl rfl
                  refine g_goto 18 (gd rfl) rfl ?_
                  exact gg_w (by omega) (gg_f (gf_cons rfl (gf_cons rfl (gf_cons rfl (gf_cons rfl gf_nil)))) (ih18 s y18_2 z42 hI (in_w 0 160 i44 rfl) (m_up mm18 (t_add e43 i5 (in_c 1 rfl) rfl) (in_w 1 1 (in_c 1 rfl) rfl))))
                · skip
                  have i45 := z_lt (-1000000) (-1) c40 i39 rfl
                  refine g_lload_n 93 (gd rfl) rfl rfl ?_
                  refine g_aload_n 94 (gd rfl) rfl rfl ?_
                  refine g_getA (q2 := 6) 97 (gd rfl) rfl rfl rfl rfl rfl ?_
                  refine g_iload 99 (gd rfl) rfl rfl ?_
                  refine g_iaload 100 (gd rfl) rfl (n := 160) rfl (in_ix i5 rfl) (fun z46 e47 => ?_)
                  have q48 : z37 = z46 := e38.trans e47.symm
                  subst q48
                  refine g_i2l 101 (gd rfl) rfl (fun z49 e50 => ?_)
                  have i51 := l_i e50 i45
                  refine g_aload_n 102 (gd rfl) rfl rfl ?_
                  refine g_getA (q2 := 7) 105 (gd rfl) rfl rfl rfl rfl rfl ?_
                  refine g_iload 107 (gd rfl) rfl rfl ?_
                  refine g_iaload 108 (gd rfl) rfl (n := 160) rfl (in_ix i5 rfl) (fun z52 e53 => ?_)
                  have i54 := inv_I hI (n := 160) (t := 0) 0 1000000 rfl (in_ix i5 rfl) rfl e53
                  refine g_i2l 109 (gd rfl) rfl (fun z55 e56 => ?_)
                  have i57 := l_i e56 i54
                  refine g_lmul 110 (gd rfl) rfl (fun z58 e59 => ?_)
                  refine g_ladd 111 (gd rfl) rfl (fun z60 e61 => ?_)
                  refine g_lstore_n 112 (gd rfl) rfl (Nat.le_of_ble_eq_true rfl) ?_
                  refine g_iinc 115 (gd rfl) rfl rfl (Nat.le_of_ble_eq_true rfl) (fun z62 e63 => ?_)
                  have i64 := in_add 1 160 e63 i5 (in_c 1 rfl) rfl rfl
                  refine g_goto 18 (gd rfl) rfl ?_
                  exact gg_w (by omega) (gg_f (gf_cons rfl (gf_cons rfl (gf_cons rfl (gf_cons rfl gf_nil)))) (ih18 s z60 z62 hI (in_w 0 160 i64 rfl) (m_up mm18 (t_add e63 i5 (in_c 1 rfl) rfl) (in_w 1 1 (in_c 1 rfl) rfl))))
            · skip
              exact zn_ne c32 (in_c 0 rfl) rfl
          · skip
            refine g_iconst 1 26 (gd rfl) rfl rfl ?_
            refine g_goto 30 (gd rfl) rfl ?_
            refine g_ireturn (gd rfl) rfl (nb01 (in_w 0 1 (in_c 1 rfl) rfl)) (hp9 _ _ ?_)
            show GG _ _ _ _ _ _ _ _ [.int (Int32.ofInt 1)] _ _ _
            refine g_if_eq 36 71 (gd rfl) rfl rfl (fun c65 => ?_) (fun c65 => ?_)
            · skip
              exact zn_eq c65 (in_c 1 rfl) rfl
            · skip
              refine g_aload_n 37 (gd rfl) rfl rfl ?_
              refine g_aload_n 38 (gd rfl) rfl rfl ?_
              refine g_getA (q2 := 4) 41 (gd rfl) rfl rfl rfl rfl rfl ?_
              refine g_iload 43 (gd rfl) rfl rfl ?_
              refine g_iaload 44 (gd rfl) rfl (n := 160) rfl (in_ix i5 rfl) (fun z66 e67 => ?_)
              have q68 : z11 = z66 := e12.trans e67.symm
              subst q68
              refine g_aload_n 45 (gd rfl) rfl rfl ?_
              refine g_getA (q2 := 5) 48 (gd rfl) rfl rfl rfl rfl rfl ?_
              refine g_iload 50 (gd rfl) rfl rfl ?_
              refine g_iaload 51 (gd rfl) rfl (n := 160) rfl (in_ix i5 rfl) (fun z69 e70 => ?_)
              have q71 : z28 = z69 := e29.trans e70.symm
              subst q71
              refine g_aload_n 52 (gd rfl) rfl rfl ?_
              refine g_getA (q2 := 6) 55 (gd rfl) rfl rfl rfl rfl rfl ?_
              refine g_iload 57 (gd rfl) rfl rfl ?_
              refine g_iaload 58 (gd rfl) rfl (n := 160) rfl (in_ix i5 rfl) (fun z72 e73 => ?_)
              have i74 := inv_I hI (n := 160) (t := 0) (-1000000) 1000000 rfl (in_ix i5 rfl) rfl e73
              refine g_aload_n 59 (gd rfl) rfl rfl ?_
              refine g_getA (q2 := 7) 62 (gd rfl) rfl rfl rfl rfl rfl ?_
              refine g_iload 64 (gd rfl) rfl rfl ?_
              refine g_iaload 65 (gd rfl) rfl (n := 160) rfl (in_ix i5 rfl) (fun z75 e76 => ?_)
              have i77 := inv_I hI (n := 160) (t := 0) 0 1000000 rfl (in_ix i5 rfl) rfl e76
              refine g_callv (X := _) (As := [.int z11, .int z28, .int z72, .int z75]) (r := []) (b := A 65) (q := 65) 68 (gd rfl) rfl rfl rfl rfl rfl (ww_o rfl) (Nat.le_of_ble_eq_true rfl) (Nat.zero_le _) (Nat.zero_le _) (k_84_65 (by omega) hI (in_w 0 31 i24 rfl) (in_w 0 31 i30 rfl) (in_w (-1000000) 1000000 i74 rfl) (in_w 0 1000000 i77 rfl)) (fun e u h => h) (fun v u h => ?_)
              obtain ⟨s78, hI79, rfl, rfl⟩ := h
              show GG _ _ _ _ _ _ _ _ [] _ _ _
              refine g_goto 112 (gd rfl) rfl ?_
              refine g_iinc 115 (gd rfl) rfl rfl (Nat.le_of_ble_eq_true rfl) (fun z82 e83 => ?_)
              have i84 := in_add 1 160 e83 i5 (in_c 1 rfl) rfl rfl
              refine g_goto 18 (gd rfl) rfl ?_
              exact gg_w (by omega) (gg_f (gf_cons rfl (gf_cons rfl (gf_cons rfl (gf_cons rfl gf_nil)))) (ih18 s78 y18_2 z82 hI79 (in_w 0 160 i84 rfl) (m_up mm18 (t_add e83 i5 (in_c 1 rfl) rfl) (in_w 1 1 (in_c 1 rfl) rfl))))
  refine g_enter2 (k := 80) (N := 145801) (by omega) rfl (Nat.le_of_ble_eq_true rfl) ?_
  refine g_aload_n 1 (gd rfl) rfl rfl ?_
  refine g_getA (q2 := 74) 4 (gd rfl) rfl rfl rfl rfl rfl ?_
  refine g_iconst 0 5 (gd rfl) rfl rfl ?_
  refine g_calls (As := [.ref (A 74), .int (Int32.ofInt 0)]) (r := []) 8 (gd rfl) rfl rfl rfl rfl rfl (Nat.le_of_ble_eq_true rfl) (Nat.zero_le _) (Nat.zero_le _) (k_417_74 (by omega) hI (in_w 0 0 (in_c 0 rfl) rfl)) (fun v u h => ?_)
  obtain ⟨s85, hI86, rfl, rfl⟩ := h
  show GG _ _ _ _ _ _ _ _ [] _ _ _
  refine g_aload_n 9 (gd rfl) rfl rfl ?_
  refine g_iconst 0 10 (gd rfl) rfl rfl ?_
  refine g_putI 13 (gd rfl) rfl rfl rfl rfl ?_
  have hI89 := inv_sF (q := 65) (j := 8) hI86 rfl (in_w 0 160 (in_c 0 rfl) rfl)
  refine g_lconst 0 14 (gd rfl) rfl rfl ?_
  refine g_lstore_n 15 (gd rfl) rfl (Nat.le_of_ble_eq_true rfl) ?_
  refine g_iconst 0 16 (gd rfl) rfl rfl ?_
  refine g_istore 18 (gd rfl) rfl (Nat.le_of_ble_eq_true rfl) ?_
  exact gg_w (by omega) (gg_f (gf_cons rfl (gf_cons rfl (gf_cons rfl (gf_cons rfl gf_nil)))) (ct18 161 (sF s85 65 8 (Int32.ofInt 0)) (Int64.ofInt 0) (Int32.ofInt 0) hI89 (in_w 0 160 (in_c 0 rfl) rfl) (m_in 161 (in_w 0 160 (in_c 0 rfl) rfl) rfl)))

/-- GraphHouse$Flows.layArcs -/
theorem k_80_65_32 {Z : AmZ} {A : Nat → Nat} {s : GS} {ex : va_W} {d : Nat} {X : AmX}  (hd : 3 ≤ d) (hI : Inv s)  : GC Z d 80 [.ref (A 65), .ref (A 32)] (WW Z A s ++ ex) 0 0 (fun v u => ∃ t : GS, Inv t ∧ ∃ z : Int64, v = some (.long z) ∧ u = WW Z A t ++ ex) X := by
  intro post xp hP hX
  have ct18 : ∀ (k18 : Nat) (s : GS) (y18_2 : Int64) (y18_4 : Int32), Inv s → In y18_4 0 160 → 160 - (y18_4).toInt < (k18 : Int) → GG Z (d - 1) 80 post (gx xp) (1 + k18 * 900) 18 (fun j => xlook j [(0, .ref (A 65)), (1, .ref (A 32)), (2, .long y18_2), (4, .int y18_4)]) [] (WW Z A s ++ ex) 0 0 := by
    intro k18
    induction k18 with
    | zero => intro s y18_2 y18_4 hI j18_4 mm18; exact m_no mm18 j18_4 rfl
    | succ k18 ih18 =>
      intro s y18_2 y18_4 hI j18_4 mm18
      refine gg_w (M := 1 + k18 * 900 + 900) (by omega) ?_
      refine g_iload 20 (gd rfl) rfl rfl ?_
      refine g_aload_n 21 (gd rfl) rfl rfl ?_
      refine g_getI 24 (gd rfl) rfl rfl rfl (fun z1 e2 => ?_)
      have i3 := inv_F hI 0 160 rfl e2
      refine g_cmp_ge 27 118 (gd rfl) rfl rfl (fun c4 => ?_) (fun c4 => ?_)
      · skip
        refine g_lload_n 119 (gd rfl) rfl rfl ?_
        exact g_lreturn (gd rfl) rfl (hP _ _ ⟨s, hI, y18_2, rfl, rfl⟩)
      · skip
        have i5 := r_lt1 0 159 c4 j18_4 i3 rfl
        have i6 := r_lt2 1 160 c4 j18_4 i3 rfl
        refine g_aload_n 28 (gd rfl) rfl rfl ?_
        refine g_iload 30 (gd rfl) rfl rfl ?_
        refine g_callv (X := _) (As := [.int y18_4]) (r := []) (b := A 32) (q := 32) 33 (gd rfl) rfl rfl rfl rfl rfl (ww_o rfl) (Nat.le_of_ble_eq_true rfl) (mc := 0) (ms := 0) (Nat.zero_le _) (Nat.zero_le _) (P := fun v u => _) ?_ (fun e u h => h) (fun v u h => h)
        intro po7 xx8 hp9 hx10
        refine g_enter2 (k := 97) (N := 300) (by omega) rfl (Nat.le_of_ble_eq_true rfl) ?_
        refine g_aload_n 1 (gd rfl) rfl rfl ?_
        refine g_getA (q2 := 34) 4 (gd rfl) rfl rfl rfl rfl rfl ?_
        refine g_iload_n 5 (gd rfl) rfl rfl ?_
        refine g_iaload 6 (gd rfl) rfl (n := 160) rfl (in_ix i5 rfl) (fun z11 e12 => ?_)
        have i13 := inv_I hI (n := 160) (t := 0) (-1) 31 rfl (in_ix i5 rfl) rfl e12
        refine g_iconst (-1) 7 (gd rfl) rfl rfl ?_
        refine g_cmp_eq 10 29 (gd rfl) rfl rfl (fun c14 => ?_) (fun c14 => ?_)
        · skip
          have i15 := r_eq1 (-1) (-1) c14 i13 (in_c (-1) rfl) rfl
          refine g_iconst 0 30 (gd rfl) rfl rfl ?_
          refine g_ireturn (gd rfl) rfl (nb01 (in_w 0 1 (in_c 0 rfl) rfl)) (hp9 _ _ ?_)
          show GG _ _ _ _ _ _ _ _ [.int (Int32.ofInt 0)] _ _ _
          refine g_if_eq 36 71 (gd rfl) rfl rfl (fun c16 => ?_) (fun c16 => ?_)
          · skip
            refine g_aload_n 72 (gd rfl) rfl rfl ?_
            refine g_getA (q2 := 34) 75 (gd rfl) rfl rfl rfl rfl rfl ?_
            refine g_iload 77 (gd rfl) rfl rfl ?_
            refine g_iaload 78 (gd rfl) rfl (n := 160) rfl (in_ix i5 rfl) (fun z17 e18 => ?_)
            have q19 : z11 = z17 := e12.trans e18.symm
            subst q19
            refine g_iconst (-1) 79 (gd rfl) rfl rfl ?_
            refine g_cmp_eq 82 112 (gd rfl) rfl rfl (fun c20 => ?_) (fun c20 => ?_)
            · skip
              refine g_iinc 115 (gd rfl) rfl rfl (Nat.le_of_ble_eq_true rfl) (fun z21 e22 => ?_)
              have i23 := in_add 1 160 e22 i5 (in_c 1 rfl) rfl rfl
              refine g_goto 18 (gd rfl) rfl ?_
              exact gg_w (by omega) (gg_f (gf_cons rfl (gf_cons rfl (gf_cons rfl (gf_cons rfl gf_nil)))) (ih18 s y18_2 z21 hI (in_w 0 160 i23 rfl) (m_up mm18 (t_add e22 i5 (in_c 1 rfl) rfl) (in_w 1 1 (in_c 1 rfl) rfl))))
            · skip
              exact n_ne c20 i15 (in_c (-1) rfl) rfl
          · skip
            exact zn_ne c16 (in_c 0 rfl) rfl
        · skip
          have i24 := r_ne1 0 31 c14 i13 (in_c (-1) rfl) rfl
          refine g_aload_n 11 (gd rfl) rfl rfl ?_
          refine g_getA (q2 := 34) 14 (gd rfl) rfl rfl rfl rfl rfl ?_
          refine g_iload_n 15 (gd rfl) rfl rfl ?_
          refine g_iaload 16 (gd rfl) rfl (n := 160) rfl (in_ix i5 rfl) (fun z25 e26 => ?_)
          have q27 : z11 = z25 := e12.trans e26.symm
          subst q27
          refine g_aload_n 17 (gd rfl) rfl rfl ?_
          refine g_getA (q2 := 35) 20 (gd rfl) rfl rfl rfl rfl rfl ?_
          refine g_iload_n 21 (gd rfl) rfl rfl ?_
          refine g_iaload 22 (gd rfl) rfl (n := 160) rfl (in_ix i5 rfl) (fun z28 e29 => ?_)
          have i30 := inv_I hI (n := 160) (t := 0) 0 31 rfl (in_ix i5 rfl) rfl e29
          refine g_cmp_eq 25 29 (gd rfl) rfl rfl (fun c31 => ?_) (fun c31 => ?_)
          · skip
            refine g_iconst 0 30 (gd rfl) rfl rfl ?_
            refine g_ireturn (gd rfl) rfl (nb01 (in_w 0 1 (in_c 0 rfl) rfl)) (hp9 _ _ ?_)
            show GG _ _ _ _ _ _ _ _ [.int (Int32.ofInt 0)] _ _ _
            refine g_if_eq 36 71 (gd rfl) rfl rfl (fun c32 => ?_) (fun c32 => ?_)
            · skip
              refine g_aload_n 72 (gd rfl) rfl rfl ?_
              refine g_getA (q2 := 34) 75 (gd rfl) rfl rfl rfl rfl rfl ?_
              refine g_iload 77 (gd rfl) rfl rfl ?_
              refine g_iaload 78 (gd rfl) rfl (n := 160) rfl (in_ix i5 rfl) (fun z33 e34 => ?_)
              have q35 : z11 = z33 := e12.trans e34.symm
              subst q35
              refine g_iconst (-1) 79 (gd rfl) rfl rfl ?_
              refine g_cmp_eq 82 112 (gd rfl) rfl rfl (fun c36 => ?_) (fun c36 => ?_)
              · skip
                exact n_eq c36 i24 (in_c (-1) rfl) rfl
              · skip
                refine g_aload_n 83 (gd rfl) rfl rfl ?_
                refine g_getA (q2 := 36) 86 (gd rfl) rfl rfl rfl rfl rfl ?_
                refine g_iload 88 (gd rfl) rfl rfl ?_
                refine g_iaload 89 (gd rfl) rfl (n := 160) rfl (in_ix i5 rfl) (fun z37 e38 => ?_)
                have i39 := inv_I hI (n := 160) (t := 0) (-1000000) 1000000 rfl (in_ix i5 rfl) rfl e38
                refine g_if_ge 92 112 (gd rfl) rfl rfl (fun c40 => ?_) (fun c40 => ?_)
                · skip
                  have i41 := z_ge 0 1000000 c40 i39 rfl
                  refine g_iinc 115 (gd rfl) rfl rfl (Nat.le_of_ble_eq_true rfl) (fun z42 e43 => ?_)
                  have i44 := in_add 1 160 e43 i5 (in_c 1 rfl) rfl rfl
                  refine g_goto 18 (gd rfl) rfl ?_
                  exact gg_w (by omega) (gg_f (gf_cons rfl (gf_cons rfl (gf_cons rfl (gf_cons rfl gf_nil)))) (ih18 s y18_2 z42 hI (in_w 0 160 i44 rfl) (m_up mm18 (t_add e43 i5 (in_c 1 rfl) rfl) (in_w 1 1 (in_c 1 rfl) rfl))))
                · skip
                  have i45 := z_lt (-1000000) (-1) c40 i39 rfl
                  refine g_lload_n 93 (gd rfl) rfl rfl ?_
                  refine g_aload_n 94 (gd rfl) rfl rfl ?_
                  refine g_getA (q2 := 36) 97 (gd rfl) rfl rfl rfl rfl rfl ?_
                  refine g_iload 99 (gd rfl) rfl rfl ?_
                  refine g_iaload 100 (gd rfl) rfl (n := 160) rfl (in_ix i5 rfl) (fun z46 e47 => ?_)
                  have q48 : z37 = z46 := e38.trans e47.symm
                  subst q48
                  refine g_i2l 101 (gd rfl) rfl (fun z49 e50 => ?_)
                  have i51 := l_i e50 i45
                  refine g_aload_n 102 (gd rfl) rfl rfl ?_
                  refine g_getA (q2 := 37) 105 (gd rfl) rfl rfl rfl rfl rfl ?_
                  refine g_iload 107 (gd rfl) rfl rfl ?_
                  refine g_iaload 108 (gd rfl) rfl (n := 160) rfl (in_ix i5 rfl) (fun z52 e53 => ?_)
                  have i54 := inv_I hI (n := 160) (t := 0) 0 1000000 rfl (in_ix i5 rfl) rfl e53
                  refine g_i2l 109 (gd rfl) rfl (fun z55 e56 => ?_)
                  have i57 := l_i e56 i54
                  refine g_lmul 110 (gd rfl) rfl (fun z58 e59 => ?_)
                  refine g_ladd 111 (gd rfl) rfl (fun z60 e61 => ?_)
                  refine g_lstore_n 112 (gd rfl) rfl (Nat.le_of_ble_eq_true rfl) ?_
                  refine g_iinc 115 (gd rfl) rfl rfl (Nat.le_of_ble_eq_true rfl) (fun z62 e63 => ?_)
                  have i64 := in_add 1 160 e63 i5 (in_c 1 rfl) rfl rfl
                  refine g_goto 18 (gd rfl) rfl ?_
                  exact gg_w (by omega) (gg_f (gf_cons rfl (gf_cons rfl (gf_cons rfl (gf_cons rfl gf_nil)))) (ih18 s z60 z62 hI (in_w 0 160 i64 rfl) (m_up mm18 (t_add e63 i5 (in_c 1 rfl) rfl) (in_w 1 1 (in_c 1 rfl) rfl))))
            · skip
              exact zn_ne c32 (in_c 0 rfl) rfl
          · skip
            refine g_iconst 1 26 (gd rfl) rfl rfl ?_
            refine g_goto 30 (gd rfl) rfl ?_
            refine g_ireturn (gd rfl) rfl (nb01 (in_w 0 1 (in_c 1 rfl) rfl)) (hp9 _ _ ?_)
            show GG _ _ _ _ _ _ _ _ [.int (Int32.ofInt 1)] _ _ _
            refine g_if_eq 36 71 (gd rfl) rfl rfl (fun c65 => ?_) (fun c65 => ?_)
            · skip
              exact zn_eq c65 (in_c 1 rfl) rfl
            · skip
              refine g_aload_n 37 (gd rfl) rfl rfl ?_
              refine g_aload_n 38 (gd rfl) rfl rfl ?_
              refine g_getA (q2 := 34) 41 (gd rfl) rfl rfl rfl rfl rfl ?_
              refine g_iload 43 (gd rfl) rfl rfl ?_
              refine g_iaload 44 (gd rfl) rfl (n := 160) rfl (in_ix i5 rfl) (fun z66 e67 => ?_)
              have q68 : z11 = z66 := e12.trans e67.symm
              subst q68
              refine g_aload_n 45 (gd rfl) rfl rfl ?_
              refine g_getA (q2 := 35) 48 (gd rfl) rfl rfl rfl rfl rfl ?_
              refine g_iload 50 (gd rfl) rfl rfl ?_
              refine g_iaload 51 (gd rfl) rfl (n := 160) rfl (in_ix i5 rfl) (fun z69 e70 => ?_)
              have q71 : z28 = z69 := e29.trans e70.symm
              subst q71
              refine g_aload_n 52 (gd rfl) rfl rfl ?_
              refine g_getA (q2 := 36) 55 (gd rfl) rfl rfl rfl rfl rfl ?_
              refine g_iload 57 (gd rfl) rfl rfl ?_
              refine g_iaload 58 (gd rfl) rfl (n := 160) rfl (in_ix i5 rfl) (fun z72 e73 => ?_)
              have i74 := inv_I hI (n := 160) (t := 0) (-1000000) 1000000 rfl (in_ix i5 rfl) rfl e73
              refine g_aload_n 59 (gd rfl) rfl rfl ?_
              refine g_getA (q2 := 37) 62 (gd rfl) rfl rfl rfl rfl rfl ?_
              refine g_iload 64 (gd rfl) rfl rfl ?_
              refine g_iaload 65 (gd rfl) rfl (n := 160) rfl (in_ix i5 rfl) (fun z75 e76 => ?_)
              have i77 := inv_I hI (n := 160) (t := 0) 0 1000000 rfl (in_ix i5 rfl) rfl e76
              refine g_callv (X := _) (As := [.int z11, .int z28, .int z72, .int z75]) (r := []) (b := A 65) (q := 65) 68 (gd rfl) rfl rfl rfl rfl rfl (ww_o rfl) (Nat.le_of_ble_eq_true rfl) (Nat.zero_le _) (Nat.zero_le _) (k_84_65 (by omega) hI (in_w 0 31 i24 rfl) (in_w 0 31 i30 rfl) (in_w (-1000000) 1000000 i74 rfl) (in_w 0 1000000 i77 rfl)) (fun e u h => h) (fun v u h => ?_)
              obtain ⟨s78, hI79, rfl, rfl⟩ := h
              show GG _ _ _ _ _ _ _ _ [] _ _ _
              refine g_goto 112 (gd rfl) rfl ?_
              refine g_iinc 115 (gd rfl) rfl rfl (Nat.le_of_ble_eq_true rfl) (fun z82 e83 => ?_)
              have i84 := in_add 1 160 e83 i5 (in_c 1 rfl) rfl rfl
              refine g_goto 18 (gd rfl) rfl ?_
              exact gg_w (by omega) (gg_f (gf_cons rfl (gf_cons rfl (gf_cons rfl (gf_cons rfl gf_nil)))) (ih18 s78 y18_2 z82 hI79 (in_w 0 160 i84 rfl) (m_up mm18 (t_add e83 i5 (in_c 1 rfl) rfl) (in_w 1 1 (in_c 1 rfl) rfl))))
  refine g_enter2 (k := 80) (N := 145801) (by omega) rfl (Nat.le_of_ble_eq_true rfl) ?_
  refine g_aload_n 1 (gd rfl) rfl rfl ?_
  refine g_getA (q2 := 74) 4 (gd rfl) rfl rfl rfl rfl rfl ?_
  refine g_iconst 0 5 (gd rfl) rfl rfl ?_
  refine g_calls (As := [.ref (A 74), .int (Int32.ofInt 0)]) (r := []) 8 (gd rfl) rfl rfl rfl rfl rfl (Nat.le_of_ble_eq_true rfl) (Nat.zero_le _) (Nat.zero_le _) (k_417_74 (by omega) hI (in_w 0 0 (in_c 0 rfl) rfl)) (fun v u h => ?_)
  obtain ⟨s85, hI86, rfl, rfl⟩ := h
  show GG _ _ _ _ _ _ _ _ [] _ _ _
  refine g_aload_n 9 (gd rfl) rfl rfl ?_
  refine g_iconst 0 10 (gd rfl) rfl rfl ?_
  refine g_putI 13 (gd rfl) rfl rfl rfl rfl ?_
  have hI89 := inv_sF (q := 65) (j := 8) hI86 rfl (in_w 0 160 (in_c 0 rfl) rfl)
  refine g_lconst 0 14 (gd rfl) rfl rfl ?_
  refine g_lstore_n 15 (gd rfl) rfl (Nat.le_of_ble_eq_true rfl) ?_
  refine g_iconst 0 16 (gd rfl) rfl rfl ?_
  refine g_istore 18 (gd rfl) rfl (Nat.le_of_ble_eq_true rfl) ?_
  exact gg_w (by omega) (gg_f (gf_cons rfl (gf_cons rfl (gf_cons rfl (gf_cons rfl gf_nil)))) (ct18 161 (sF s85 65 8 (Int32.ofInt 0)) (Int64.ofInt 0) (Int32.ofInt 0) hI89 (in_w 0 160 (in_c 0 rfl) rfl) (m_in 161 (in_w 0 160 (in_c 0 rfl) rfl) rfl)))

/-- GraphHouse$Flows.relaxAll -/
theorem k_86_65 {Z : AmZ} {A : Nat → Nat} {s : GS} {ex : va_W} {d : Nat} {X : AmX} {x1 : Int32} {x2 : Int32} (hd : 2 ≤ d) (hI : Inv s) (h1 : In x1 0 32) (h2 : In x2 1 1048576) : GC Z d 86 [.ref (A 65), .int x1, .int x2] (WW Z A s ++ ex) 0 0 (fun v u => ∃ t : GS, Inv t ∧ v = none ∧ u = WW Z A t ++ ex) X := by
  intro post xp hP hX
  have ct5 : ∀ (k5 : Nat) (s : GS) (y5_1 : Int32) (y5_2 : Int32) (y5_3 : Int32) (y5_4 : Int32), Inv s → In y5_1 0 32 → In y5_2 1 1048576 → In y5_3 0 1 → In y5_4 0 33 → 33 - (y5_4).toInt < (k5 : Int) → GG Z (d - 1) 86 post (gx xp) (1 + k5 * 147601) 5 (fun j => xlook j [(0, .ref (A 65)), (1, .int y5_1), (2, .int y5_2), (3, .int y5_3), (4, .int y5_4)]) [] (WW Z A s ++ ex) 0 0 := by
    intro k5
    induction k5 with
    | zero => intro s y5_1 y5_2 y5_3 y5_4 hI j5_1 j5_2 j5_3 j5_4 mm5; exact m_no mm5 j5_4 rfl
    | succ k5 ih5 =>
      intro s y5_1 y5_2 y5_3 y5_4 hI j5_1 j5_2 j5_3 j5_4 mm5
      refine gg_w (M := 1 + k5 * 147601 + 147601) (by omega) ?_
      have ct20 : ∀ (k20 : Nat) (s : GS) (y20_3 : Int32) (y20_5 : Int32), Inv s → In y20_3 0 1 → In y5_4 0 32 → In y20_5 0 160 → 160 - (y20_5).toInt < (k20 : Int) → GG Z (d - 1) 86 post (gx xp) (1 + k5 * 147601 + 1 + k20 * 900) 20 (fun j => xlook j [(0, .ref (A 65)), (1, .int y5_1), (2, .int y5_2), (3, .int y20_3), (4, .int y5_4), (5, .int y20_5)]) [] (WW Z A s ++ ex) 0 0 := by
        intro k20
        induction k20 with
        | zero => intro s y20_3 y20_5 hI j20_3 j20_4 j20_5 mm20; exact m_no mm20 j20_5 rfl
        | succ k20 ih20 =>
          intro s y20_3 y20_5 hI j20_3 j20_4 j20_5 mm20
          refine gg_w (M := 1 + k5 * 147601 + 1 + k20 * 900 + 900) (by omega) ?_
          refine g_iload 22 (gd rfl) rfl rfl ?_
          refine g_aload_n 23 (gd rfl) rfl rfl ?_
          refine g_getI 26 (gd rfl) rfl rfl rfl (fun z1 e2 => ?_)
          have i3 := inv_F hI 0 160 rfl e2
          refine g_cmp_ge 29 45 (gd rfl) rfl rfl (fun c4 => ?_) (fun c4 => ?_)
          · skip
            refine g_iinc 48 (gd rfl) rfl rfl (Nat.le_of_ble_eq_true rfl) (fun z5 e6 => ?_)
            have i7 := in_add 1 33 e6 j20_4 (in_c 1 rfl) rfl rfl
            refine g_goto 5 (gd rfl) rfl ?_
            exact gg_w (by omega) (gg_f (gf_cons rfl (gf_cons rfl (gf_cons rfl (gf_cons rfl (gf_cons rfl gf_nil))))) (ih5 s y5_1 y5_2 y20_3 z5 hI (in_w 0 32 j5_1 rfl) (in_w 1 1048576 j5_2 rfl) (in_w 0 1 j20_3 rfl) (in_w 0 33 i7 rfl) (m_up mm5 (t_add e6 j20_4 (in_c 1 rfl) rfl) (in_w 1 1 (in_c 1 rfl) rfl))))
          · skip
            have i8 := r_lt1 0 159 c4 j20_5 i3 rfl
            have i9 := r_lt2 1 160 c4 j20_5 i3 rfl
            refine g_iload_n 30 (gd rfl) rfl rfl ?_
            refine g_aload_n 31 (gd rfl) rfl rfl ?_
            refine g_iload 33 (gd rfl) rfl rfl ?_
            refine g_iload_n 34 (gd rfl) rfl rfl ?_
            refine g_callv (X := _) (As := [.int y20_5, .int y5_2]) (r := [.int y20_3]) (b := A 65) (q := 65) 37 (gd rfl) rfl rfl rfl rfl rfl (ww_o rfl) (Nat.le_of_ble_eq_true rfl) (Nat.zero_le _) (Nat.zero_le _) (k_87_65 (by omega) hI (in_w 0 159 i8 rfl) (in_w 1 1048576 j5_2 rfl)) (fun e u h => h) (fun v u h => ?_)
            obtain ⟨s10, hI11, z12, rfl, rfl, i13⟩ := h
            show GG _ _ _ _ _ _ _ _ [.int z12, .int y20_3] _ _ _
            refine g_ior 38 (gd rfl) rfl (fun z14 e15 => ?_)
            have i16 := in_or 1 e15 (in_w 0 1 j20_3 rfl) (in_w 0 1 i13 rfl) rfl
            refine g_istore_n 39 (gd rfl) rfl (Nat.le_of_ble_eq_true rfl) ?_
            refine g_iinc 42 (gd rfl) rfl rfl (Nat.le_of_ble_eq_true rfl) (fun z17 e18 => ?_)
            have i19 := in_add 1 160 e18 i8 (in_c 1 rfl) rfl rfl
            refine g_goto 20 (gd rfl) rfl ?_
            exact gg_w (by omega) (gg_f (gf_cons rfl (gf_cons rfl (gf_cons rfl (gf_cons rfl (gf_cons rfl (gf_cons rfl gf_nil)))))) (ih20 s10 z14 z17 hI11 (in_w 0 1 i16 rfl) (in_w 0 32 j20_4 rfl) (in_w 0 160 i19 rfl) (m_up mm20 (t_add e18 i8 (in_c 1 rfl) rfl) (in_w 1 1 (in_c 1 rfl) rfl))))
      refine g_iload 7 (gd rfl) rfl rfl ?_
      refine g_iload_n 8 (gd rfl) rfl rfl ?_
      refine g_cmp_gt 11 51 (gd rfl) rfl rfl (fun c20 => ?_) (fun c20 => ?_)
      · skip
        have i21 := r_lt2 1 33 c20 j5_1 j5_4 rfl
        exact g_return (gd rfl) rfl (hP _ _ ⟨s, hI, rfl, rfl⟩)
      · skip
        have i22 := r_le1 0 32 c20 j5_4 j5_1 rfl
        refine g_iload_n 12 (gd rfl) rfl rfl ?_
        refine g_if_eq 15 51 (gd rfl) rfl rfl (fun c23 => ?_) (fun c23 => ?_)
        · skip
          have i24 := z_eq 0 0 c23 j5_3 rfl
          exact g_return (gd rfl) rfl (hP _ _ ⟨s, hI, rfl, rfl⟩)
        · skip
          have i25 := z_ne 1 1 c23 j5_3 rfl
          refine g_iconst 0 16 (gd rfl) rfl rfl ?_
          refine g_istore_n 17 (gd rfl) rfl (Nat.le_of_ble_eq_true rfl) ?_
          refine g_iconst 0 18 (gd rfl) rfl rfl ?_
          refine g_istore 20 (gd rfl) rfl (Nat.le_of_ble_eq_true rfl) ?_
          exact gg_w (by omega) (gg_f (gf_cons rfl (gf_cons rfl (gf_cons rfl (gf_cons rfl (gf_cons rfl (gf_cons rfl gf_nil)))))) (ct20 161 s (Int32.ofInt 0) (Int32.ofInt 0) hI (in_w 0 1 (in_c 0 rfl) rfl) (in_w 0 32 i22 rfl) (in_w 0 160 (in_c 0 rfl) rfl) (m_in 161 (in_w 0 160 (in_c 0 rfl) rfl) rfl)))
  refine g_enter2 (k := 86) (N := 5019335) (by omega) rfl (Nat.le_of_ble_eq_true rfl) ?_
  refine g_iconst 1 1 (gd rfl) rfl rfl ?_
  refine g_istore_n 2 (gd rfl) rfl (Nat.le_of_ble_eq_true rfl) ?_
  refine g_iconst 0 3 (gd rfl) rfl rfl ?_
  refine g_istore 5 (gd rfl) rfl (Nat.le_of_ble_eq_true rfl) ?_
  exact gg_w (by omega) (gg_f (gf_cons rfl (gf_cons rfl (gf_cons rfl (gf_cons rfl (gf_cons rfl gf_nil))))) (ct5 34 s x1 x2 (Int32.ofInt 1) (Int32.ofInt 0) hI (in_w 0 32 h1 rfl) (in_w 1 1048576 h2 rfl) (in_w 0 1 (in_c 1 rfl) rfl) (in_w 0 33 (in_c 0 rfl) rfl) (m_in 34 (in_w 0 33 (in_c 0 rfl) rfl) rfl)))

/-- GraphHouse$Graph.countJoints -/
theorem k_99_2_59 {Z : AmZ} {A : Nat → Nat} {s : GS} {ex : va_W} {d : Nat} {X : AmX}  (hd : 3 ≤ d) (hI : Inv s)  : GC Z d 99 [.ref (A 2), .ref (A 59)] (WW Z A s ++ ex) 0 0 (fun v u => ∃ t : GS, Inv t ∧ v = none ∧ u = WW Z A t ++ ex) X := by
  intro post xp hP hX
  have ct7 : ∀ (k7 : Nat) (s : GS) (y7_2 : Int32), Inv s → In y7_2 0 160 → 160 - (y7_2).toInt < (k7 : Int) → GG Z (d - 1) 99 post (gx xp) (1 + k7 * 900) 7 (fun j => xlook j [(0, .ref (A 2)), (1, .ref (A 59)), (2, .int y7_2)]) [] (WW Z A s ++ ex) 0 0 := by
    intro k7
    induction k7 with
    | zero => intro s y7_2 hI j7_2 mm7; exact m_no mm7 j7_2 rfl
    | succ k7 ih7 =>
      intro s y7_2 hI j7_2 mm7
      refine gg_w (M := 1 + k7 * 900 + 900) (by omega) ?_
      refine g_iload_n 8 (gd rfl) rfl rfl ?_
      refine g_aload_n 9 (gd rfl) rfl rfl ?_
      refine g_getI 12 (gd rfl) rfl rfl rfl (fun z1 e2 => ?_)
      have i3 := inv_F hI 0 160 rfl e2
      refine g_cmp_ge 15 53 (gd rfl) rfl rfl (fun c4 => ?_) (fun c4 => ?_)
      · skip
        exact g_return (gd rfl) rfl (hP _ _ ⟨s, hI, rfl, rfl⟩)
      · skip
        have i5 := r_lt1 0 159 c4 j7_2 i3 rfl
        have i6 := r_lt2 1 160 c4 j7_2 i3 rfl
        refine g_aload_n 16 (gd rfl) rfl rfl ?_
        refine g_iload_n 17 (gd rfl) rfl rfl ?_
        refine g_callv (X := _) (As := [.int y7_2]) (r := []) (b := A 2) (q := 2) 20 (gd rfl) rfl rfl rfl rfl rfl (ww_o rfl) (Nat.le_of_ble_eq_true rfl) (mc := 0) (ms := 0) (Nat.zero_le _) (Nat.zero_le _) (P := fun v u => _) ?_ (fun e u h => h) (fun v u h => h)
        intro po7 xx8 hp9 hx10
        refine g_enter2 (k := 97) (N := 300) (by omega) rfl (Nat.le_of_ble_eq_true rfl) ?_
        refine g_aload_n 1 (gd rfl) rfl rfl ?_
        refine g_getA (q2 := 4) 4 (gd rfl) rfl rfl rfl rfl rfl ?_
        refine g_iload_n 5 (gd rfl) rfl rfl ?_
        refine g_iaload 6 (gd rfl) rfl (n := 160) rfl (in_ix i5 rfl) (fun z11 e12 => ?_)
        have i13 := inv_I hI (n := 160) (t := 0) (-1) 31 rfl (in_ix i5 rfl) rfl e12
        refine g_iconst (-1) 7 (gd rfl) rfl rfl ?_
        refine g_cmp_eq 10 29 (gd rfl) rfl rfl (fun c14 => ?_) (fun c14 => ?_)
        · skip
          have i15 := r_eq1 (-1) (-1) c14 i13 (in_c (-1) rfl) rfl
          refine g_iconst 0 30 (gd rfl) rfl rfl ?_
          refine g_ireturn (gd rfl) rfl (nb01 (in_w 0 1 (in_c 0 rfl) rfl)) (hp9 _ _ ?_)
          show GG _ _ _ _ _ _ _ _ [.int (Int32.ofInt 0)] _ _ _
          refine g_if_eq 23 47 (gd rfl) rfl rfl (fun c16 => ?_) (fun c16 => ?_)
          · skip
            refine g_iinc 50 (gd rfl) rfl rfl (Nat.le_of_ble_eq_true rfl) (fun z17 e18 => ?_)
            have i19 := in_add 1 160 e18 i5 (in_c 1 rfl) rfl rfl
            refine g_goto 7 (gd rfl) rfl ?_
            exact gg_w (by omega) (gg_f (gf_cons rfl (gf_cons rfl (gf_cons rfl gf_nil))) (ih7 s z17 hI (in_w 0 160 i19 rfl) (m_up mm7 (t_add e18 i5 (in_c 1 rfl) rfl) (in_w 1 1 (in_c 1 rfl) rfl))))
          · skip
            exact zn_ne c16 (in_c 0 rfl) rfl
        · skip
          have i20 := r_ne1 0 31 c14 i13 (in_c (-1) rfl) rfl
          refine g_aload_n 11 (gd rfl) rfl rfl ?_
          refine g_getA (q2 := 4) 14 (gd rfl) rfl rfl rfl rfl rfl ?_
          refine g_iload_n 15 (gd rfl) rfl rfl ?_
          refine g_iaload 16 (gd rfl) rfl (n := 160) rfl (in_ix i5 rfl) (fun z21 e22 => ?_)
          have q23 : z11 = z21 := e12.trans e22.symm
          subst q23
          refine g_aload_n 17 (gd rfl) rfl rfl ?_
          refine g_getA (q2 := 5) 20 (gd rfl) rfl rfl rfl rfl rfl ?_
          refine g_iload_n 21 (gd rfl) rfl rfl ?_
          refine g_iaload 22 (gd rfl) rfl (n := 160) rfl (in_ix i5 rfl) (fun z24 e25 => ?_)
          have i26 := inv_I hI (n := 160) (t := 0) 0 31 rfl (in_ix i5 rfl) rfl e25
          refine g_cmp_eq 25 29 (gd rfl) rfl rfl (fun c27 => ?_) (fun c27 => ?_)
          · skip
            refine g_iconst 0 30 (gd rfl) rfl rfl ?_
            refine g_ireturn (gd rfl) rfl (nb01 (in_w 0 1 (in_c 0 rfl) rfl)) (hp9 _ _ ?_)
            show GG _ _ _ _ _ _ _ _ [.int (Int32.ofInt 0)] _ _ _
            refine g_if_eq 23 47 (gd rfl) rfl rfl (fun c28 => ?_) (fun c28 => ?_)
            · skip
              refine g_iinc 50 (gd rfl) rfl rfl (Nat.le_of_ble_eq_true rfl) (fun z29 e30 => ?_)
              have i31 := in_add 1 160 e30 i5 (in_c 1 rfl) rfl rfl
              refine g_goto 7 (gd rfl) rfl ?_
              exact gg_w (by omega) (gg_f (gf_cons rfl (gf_cons rfl (gf_cons rfl gf_nil))) (ih7 s z29 hI (in_w 0 160 i31 rfl) (m_up mm7 (t_add e30 i5 (in_c 1 rfl) rfl) (in_w 1 1 (in_c 1 rfl) rfl))))
            · skip
              exact zn_ne c28 (in_c 0 rfl) rfl
          · skip
            refine g_iconst 1 26 (gd rfl) rfl rfl ?_
            refine g_goto 30 (gd rfl) rfl ?_
            refine g_ireturn (gd rfl) rfl (nb01 (in_w 0 1 (in_c 1 rfl) rfl)) (hp9 _ _ ?_)
            show GG _ _ _ _ _ _ _ _ [.int (Int32.ofInt 1)] _ _ _
            refine g_if_eq 23 47 (gd rfl) rfl rfl (fun c32 => ?_) (fun c32 => ?_)
            · skip
              exact zn_eq c32 (in_c 1 rfl) rfl
            · skip
              refine g_aload_n 24 (gd rfl) rfl rfl ?_
              refine g_aload_n 25 (gd rfl) rfl rfl ?_
              refine g_getA (q2 := 4) 28 (gd rfl) rfl rfl rfl rfl rfl ?_
              refine g_iload_n 29 (gd rfl) rfl rfl ?_
              refine g_iaload 30 (gd rfl) rfl (n := 160) rfl (in_ix i5 rfl) (fun z33 e34 => ?_)
              have q35 : z11 = z33 := e12.trans e34.symm
              subst q35
              refine g_dup2 31 (gd rfl) rfl rfl rfl ?_
              refine g_iaload 32 (gd rfl) rfl (n := 32) rfl (in_ix i20 rfl) (fun z36 e37 => ?_)
              refine g_iconst 1 33 (gd rfl) rfl rfl ?_
              refine g_iadd 34 (gd rfl) rfl (fun z38 e39 => ?_)
              refine g_iastore 35 (gd rfl) rfl (n := 32) rfl (in_ix i20 rfl) ?_
              have hI40 := inv_sI (q := 59) (j := z11.toNatClampNeg) hI rfl (in_w (-2147483648) 2147483647 (i_rng z38) rfl)
              refine g_aload_n 36 (gd rfl) rfl rfl ?_
              refine g_aload_n 37 (gd rfl) rfl rfl ?_
              refine g_getA (q2 := 5) 40 (gd rfl) rfl rfl rfl rfl rfl ?_
              refine g_iload_n 41 (gd rfl) rfl rfl ?_
              refine g_iaload 42 (gd rfl) rfl (n := 160) rfl (in_ix i5 rfl) (fun z41 e42 => ?_)
              have q43 : z24 = z41 := e25.trans e42.symm
              subst q43
              refine g_dup2 43 (gd rfl) rfl rfl rfl ?_
              refine g_iaload 44 (gd rfl) rfl (n := 32) rfl (in_ix i26 rfl) (fun z44 e45 => ?_)
              refine g_iconst 1 45 (gd rfl) rfl rfl ?_
              refine g_iadd 46 (gd rfl) rfl (fun z46 e47 => ?_)
              refine g_iastore 47 (gd rfl) rfl (n := 32) rfl (in_ix i26 rfl) ?_
              have hI48 := inv_sI (q := 59) (j := z24.toNatClampNeg) hI40 rfl (in_w (-2147483648) 2147483647 (i_rng z46) rfl)
              refine g_iinc 50 (gd rfl) rfl rfl (Nat.le_of_ble_eq_true rfl) (fun z49 e50 => ?_)
              have i51 := in_add 1 160 e50 i5 (in_c 1 rfl) rfl rfl
              refine g_goto 7 (gd rfl) rfl ?_
              exact gg_w (by omega) (gg_f (gf_cons rfl (gf_cons rfl (gf_cons rfl gf_nil))) (ih7 (sI (sI s 59 z11.toNatClampNeg z38) 59 z24.toNatClampNeg z46) z49 hI48 (in_w 0 160 i51 rfl) (m_up mm7 (t_add e50 i5 (in_c 1 rfl) rfl) (in_w 1 1 (in_c 1 rfl) rfl))))
  refine g_enter2 (k := 99) (N := 145801) (by omega) rfl (Nat.le_of_ble_eq_true rfl) ?_
  refine g_aload_n 1 (gd rfl) rfl rfl ?_
  refine g_iconst 0 2 (gd rfl) rfl rfl ?_
  refine g_calls (As := [.ref (A 59), .int (Int32.ofInt 0)]) (r := []) 5 (gd rfl) rfl rfl rfl rfl rfl (Nat.le_of_ble_eq_true rfl) (Nat.zero_le _) (Nat.zero_le _) (k_417_59 (by omega) hI (in_w 0 0 (in_c 0 rfl) rfl)) (fun v u h => ?_)
  obtain ⟨s52, hI53, rfl, rfl⟩ := h
  show GG _ _ _ _ _ _ _ _ [] _ _ _
  refine g_iconst 0 6 (gd rfl) rfl rfl ?_
  refine g_istore_n 7 (gd rfl) rfl (Nat.le_of_ble_eq_true rfl) ?_
  exact gg_w (by omega) (gg_f (gf_cons rfl (gf_cons rfl (gf_cons rfl gf_nil))) (ct7 161 s52 (Int32.ofInt 0) hI53 (in_w 0 160 (in_c 0 rfl) rfl) (m_in 161 (in_w 0 160 (in_c 0 rfl) rfl) rfl)))

/-- GraphHouse$Graph.countJoints -/
theorem k_99_32_59 {Z : AmZ} {A : Nat → Nat} {s : GS} {ex : va_W} {d : Nat} {X : AmX}  (hd : 3 ≤ d) (hI : Inv s)  : GC Z d 99 [.ref (A 32), .ref (A 59)] (WW Z A s ++ ex) 0 0 (fun v u => ∃ t : GS, Inv t ∧ v = none ∧ u = WW Z A t ++ ex) X := by
  intro post xp hP hX
  have ct7 : ∀ (k7 : Nat) (s : GS) (y7_2 : Int32), Inv s → In y7_2 0 160 → 160 - (y7_2).toInt < (k7 : Int) → GG Z (d - 1) 99 post (gx xp) (1 + k7 * 900) 7 (fun j => xlook j [(0, .ref (A 32)), (1, .ref (A 59)), (2, .int y7_2)]) [] (WW Z A s ++ ex) 0 0 := by
    intro k7
    induction k7 with
    | zero => intro s y7_2 hI j7_2 mm7; exact m_no mm7 j7_2 rfl
    | succ k7 ih7 =>
      intro s y7_2 hI j7_2 mm7
      refine gg_w (M := 1 + k7 * 900 + 900) (by omega) ?_
      refine g_iload_n 8 (gd rfl) rfl rfl ?_
      refine g_aload_n 9 (gd rfl) rfl rfl ?_
      refine g_getI 12 (gd rfl) rfl rfl rfl (fun z1 e2 => ?_)
      have i3 := inv_F hI 0 160 rfl e2
      refine g_cmp_ge 15 53 (gd rfl) rfl rfl (fun c4 => ?_) (fun c4 => ?_)
      · skip
        exact g_return (gd rfl) rfl (hP _ _ ⟨s, hI, rfl, rfl⟩)
      · skip
        have i5 := r_lt1 0 159 c4 j7_2 i3 rfl
        have i6 := r_lt2 1 160 c4 j7_2 i3 rfl
        refine g_aload_n 16 (gd rfl) rfl rfl ?_
        refine g_iload_n 17 (gd rfl) rfl rfl ?_
        refine g_callv (X := _) (As := [.int y7_2]) (r := []) (b := A 32) (q := 32) 20 (gd rfl) rfl rfl rfl rfl rfl (ww_o rfl) (Nat.le_of_ble_eq_true rfl) (mc := 0) (ms := 0) (Nat.zero_le _) (Nat.zero_le _) (P := fun v u => _) ?_ (fun e u h => h) (fun v u h => h)
        intro po7 xx8 hp9 hx10
        refine g_enter2 (k := 97) (N := 300) (by omega) rfl (Nat.le_of_ble_eq_true rfl) ?_
        refine g_aload_n 1 (gd rfl) rfl rfl ?_
        refine g_getA (q2 := 34) 4 (gd rfl) rfl rfl rfl rfl rfl ?_
        refine g_iload_n 5 (gd rfl) rfl rfl ?_
        refine g_iaload 6 (gd rfl) rfl (n := 160) rfl (in_ix i5 rfl) (fun z11 e12 => ?_)
        have i13 := inv_I hI (n := 160) (t := 0) (-1) 31 rfl (in_ix i5 rfl) rfl e12
        refine g_iconst (-1) 7 (gd rfl) rfl rfl ?_
        refine g_cmp_eq 10 29 (gd rfl) rfl rfl (fun c14 => ?_) (fun c14 => ?_)
        · skip
          have i15 := r_eq1 (-1) (-1) c14 i13 (in_c (-1) rfl) rfl
          refine g_iconst 0 30 (gd rfl) rfl rfl ?_
          refine g_ireturn (gd rfl) rfl (nb01 (in_w 0 1 (in_c 0 rfl) rfl)) (hp9 _ _ ?_)
          show GG _ _ _ _ _ _ _ _ [.int (Int32.ofInt 0)] _ _ _
          refine g_if_eq 23 47 (gd rfl) rfl rfl (fun c16 => ?_) (fun c16 => ?_)
          · skip
            refine g_iinc 50 (gd rfl) rfl rfl (Nat.le_of_ble_eq_true rfl) (fun z17 e18 => ?_)
            have i19 := in_add 1 160 e18 i5 (in_c 1 rfl) rfl rfl
            refine g_goto 7 (gd rfl) rfl ?_
            exact gg_w (by omega) (gg_f (gf_cons rfl (gf_cons rfl (gf_cons rfl gf_nil))) (ih7 s z17 hI (in_w 0 160 i19 rfl) (m_up mm7 (t_add e18 i5 (in_c 1 rfl) rfl) (in_w 1 1 (in_c 1 rfl) rfl))))
          · skip
            exact zn_ne c16 (in_c 0 rfl) rfl
        · skip
          have i20 := r_ne1 0 31 c14 i13 (in_c (-1) rfl) rfl
          refine g_aload_n 11 (gd rfl) rfl rfl ?_
          refine g_getA (q2 := 34) 14 (gd rfl) rfl rfl rfl rfl rfl ?_
          refine g_iload_n 15 (gd rfl) rfl rfl ?_
          refine g_iaload 16 (gd rfl) rfl (n := 160) rfl (in_ix i5 rfl) (fun z21 e22 => ?_)
          have q23 : z11 = z21 := e12.trans e22.symm
          subst q23
          refine g_aload_n 17 (gd rfl) rfl rfl ?_
          refine g_getA (q2 := 35) 20 (gd rfl) rfl rfl rfl rfl rfl ?_
          refine g_iload_n 21 (gd rfl) rfl rfl ?_
          refine g_iaload 22 (gd rfl) rfl (n := 160) rfl (in_ix i5 rfl) (fun z24 e25 => ?_)
          have i26 := inv_I hI (n := 160) (t := 0) 0 31 rfl (in_ix i5 rfl) rfl e25
          refine g_cmp_eq 25 29 (gd rfl) rfl rfl (fun c27 => ?_) (fun c27 => ?_)
          · skip
            refine g_iconst 0 30 (gd rfl) rfl rfl ?_
            refine g_ireturn (gd rfl) rfl (nb01 (in_w 0 1 (in_c 0 rfl) rfl)) (hp9 _ _ ?_)
            show GG _ _ _ _ _ _ _ _ [.int (Int32.ofInt 0)] _ _ _
            refine g_if_eq 23 47 (gd rfl) rfl rfl (fun c28 => ?_) (fun c28 => ?_)
            · skip
              refine g_iinc 50 (gd rfl) rfl rfl (Nat.le_of_ble_eq_true rfl) (fun z29 e30 => ?_)
              have i31 := in_add 1 160 e30 i5 (in_c 1 rfl) rfl rfl
              refine g_goto 7 (gd rfl) rfl ?_
              exact gg_w (by omega) (gg_f (gf_cons rfl (gf_cons rfl (gf_cons rfl gf_nil))) (ih7 s z29 hI (in_w 0 160 i31 rfl) (m_up mm7 (t_add e30 i5 (in_c 1 rfl) rfl) (in_w 1 1 (in_c 1 rfl) rfl))))
            · skip
              exact zn_ne c28 (in_c 0 rfl) rfl
          · skip
            refine g_iconst 1 26 (gd rfl) rfl rfl ?_
            refine g_goto 30 (gd rfl) rfl ?_
            refine g_ireturn (gd rfl) rfl (nb01 (in_w 0 1 (in_c 1 rfl) rfl)) (hp9 _ _ ?_)
            show GG _ _ _ _ _ _ _ _ [.int (Int32.ofInt 1)] _ _ _
            refine g_if_eq 23 47 (gd rfl) rfl rfl (fun c32 => ?_) (fun c32 => ?_)
            · skip
              exact zn_eq c32 (in_c 1 rfl) rfl
            · skip
              refine g_aload_n 24 (gd rfl) rfl rfl ?_
              refine g_aload_n 25 (gd rfl) rfl rfl ?_
              refine g_getA (q2 := 34) 28 (gd rfl) rfl rfl rfl rfl rfl ?_
              refine g_iload_n 29 (gd rfl) rfl rfl ?_
              refine g_iaload 30 (gd rfl) rfl (n := 160) rfl (in_ix i5 rfl) (fun z33 e34 => ?_)
              have q35 : z11 = z33 := e12.trans e34.symm
              subst q35
              refine g_dup2 31 (gd rfl) rfl rfl rfl ?_
              refine g_iaload 32 (gd rfl) rfl (n := 32) rfl (in_ix i20 rfl) (fun z36 e37 => ?_)
              refine g_iconst 1 33 (gd rfl) rfl rfl ?_
              refine g_iadd 34 (gd rfl) rfl (fun z38 e39 => ?_)
              refine g_iastore 35 (gd rfl) rfl (n := 32) rfl (in_ix i20 rfl) ?_
              have hI40 := inv_sI (q := 59) (j := z11.toNatClampNeg) hI rfl (in_w (-2147483648) 2147483647 (i_rng z38) rfl)
              refine g_aload_n 36 (gd rfl) rfl rfl ?_
              refine g_aload_n 37 (gd rfl) rfl rfl ?_
              refine g_getA (q2 := 35) 40 (gd rfl) rfl rfl rfl rfl rfl ?_
              refine g_iload_n 41 (gd rfl) rfl rfl ?_
              refine g_iaload 42 (gd rfl) rfl (n := 160) rfl (in_ix i5 rfl) (fun z41 e42 => ?_)
              have q43 : z24 = z41 := e25.trans e42.symm
              subst q43
              refine g_dup2 43 (gd rfl) rfl rfl rfl ?_
              refine g_iaload 44 (gd rfl) rfl (n := 32) rfl (in_ix i26 rfl) (fun z44 e45 => ?_)
              refine g_iconst 1 45 (gd rfl) rfl rfl ?_
              refine g_iadd 46 (gd rfl) rfl (fun z46 e47 => ?_)
              refine g_iastore 47 (gd rfl) rfl (n := 32) rfl (in_ix i26 rfl) ?_
              have hI48 := inv_sI (q := 59) (j := z24.toNatClampNeg) hI40 rfl (in_w (-2147483648) 2147483647 (i_rng z46) rfl)
              refine g_iinc 50 (gd rfl) rfl rfl (Nat.le_of_ble_eq_true rfl) (fun z49 e50 => ?_)
              have i51 := in_add 1 160 e50 i5 (in_c 1 rfl) rfl rfl
              refine g_goto 7 (gd rfl) rfl ?_
              exact gg_w (by omega) (gg_f (gf_cons rfl (gf_cons rfl (gf_cons rfl gf_nil))) (ih7 (sI (sI s 59 z11.toNatClampNeg z38) 59 z24.toNatClampNeg z46) z49 hI48 (in_w 0 160 i51 rfl) (m_up mm7 (t_add e50 i5 (in_c 1 rfl) rfl) (in_w 1 1 (in_c 1 rfl) rfl))))
  refine g_enter2 (k := 99) (N := 145801) (by omega) rfl (Nat.le_of_ble_eq_true rfl) ?_
  refine g_aload_n 1 (gd rfl) rfl rfl ?_
  refine g_iconst 0 2 (gd rfl) rfl rfl ?_
  refine g_calls (As := [.ref (A 59), .int (Int32.ofInt 0)]) (r := []) 5 (gd rfl) rfl rfl rfl rfl rfl (Nat.le_of_ble_eq_true rfl) (Nat.zero_le _) (Nat.zero_le _) (k_417_59 (by omega) hI (in_w 0 0 (in_c 0 rfl) rfl)) (fun v u h => ?_)
  obtain ⟨s52, hI53, rfl, rfl⟩ := h
  show GG _ _ _ _ _ _ _ _ [] _ _ _
  refine g_iconst 0 6 (gd rfl) rfl rfl ?_
  refine g_istore_n 7 (gd rfl) rfl (Nat.le_of_ble_eq_true rfl) ?_
  exact gg_w (by omega) (gg_f (gf_cons rfl (gf_cons rfl (gf_cons rfl gf_nil))) (ct7 161 s52 (Int32.ofInt 0) hI53 (in_w 0 160 (in_c 0 rfl) rfl) (m_in 161 (in_w 0 160 (in_c 0 rfl) rfl) rfl)))

/-- GraphHouse$Trees.isSpanning -/
theorem k_186_76_2 {Z : AmZ} {A : Nat → Nat} {s : GS} {ex : va_W} {d : Nat} {X : AmX} {x2 : Int32} (hd : 5 ≤ d) (hI : Inv s) (h2 : In x2 0 159) : GC Z d 186 [.ref (A 76), .ref (A 2), .int x2] (WW Z A s ++ ex) 0 0 (fun v u => ∃ t : GS, Inv t ∧ ∃ z : Int32, v = some (.int z) ∧ u = WW Z A t ++ ex ∧ In z 0 1) X := by
  intro post xp hP hX
  have ct20 : ∀ (k20 : Nat) (s : GS) (y20_2 : Int32) (y20_3 : Int32), Inv s → In y20_2 0 159 → In y20_3 0 160 → 160 - (y20_3).toInt < (k20 : Int) → GG Z (d - 1) 186 post (gx xp) (1 + k20 * 900) 20 (fun j => xlook j [(0, .ref (A 76)), (1, .ref (A 2)), (2, .int y20_2), (3, .int y20_3)]) [] (WW Z A s ++ ex) 0 0 := by
    intro k20
    induction k20 with
    | zero => intro s y20_2 y20_3 hI j20_2 j20_3 mm20; exact m_no mm20 j20_3 rfl
    | succ k20 ih20 =>
      intro s y20_2 y20_3 hI j20_2 j20_3 mm20
      refine gg_w (M := 1 + k20 * 900 + 900) (by omega) ?_
      refine g_iload_n 21 (gd rfl) rfl rfl ?_
      refine g_aload_n 22 (gd rfl) rfl rfl ?_
      refine g_getI 25 (gd rfl) rfl rfl rfl (fun z1 e2 => ?_)
      have i3 := inv_F hI 0 160 rfl e2
      refine g_cmp_ge 28 95 (gd rfl) rfl rfl (fun c4 => ?_) (fun c4 => ?_)
      · skip
        refine g_aload_n 96 (gd rfl) rfl rfl ?_
        refine g_getA (q2 := 84) 99 (gd rfl) rfl rfl rfl rfl rfl ?_
        refine g_iconst 1 100 (gd rfl) rfl rfl ?_
        refine g_aload_n 101 (gd rfl) rfl rfl ?_
        refine g_getA (q2 := 4) 104 (gd rfl) rfl rfl rfl rfl rfl ?_
        refine g_iload_n 105 (gd rfl) rfl rfl ?_
        refine g_iaload 106 (gd rfl) rfl (n := 160) rfl (in_ix j20_2 rfl) (fun z5 e6 => ?_)
        have i7 := inv_I hI (n := 160) (t := 0) (-1) 31 rfl (in_ix j20_2 rfl) rfl e6
        refine g_ishl 107 (gd rfl) rfl (fun z8 e9 => ?_)
        refine g_iconst (-1) 108 (gd rfl) rfl rfl ?_
        refine g_calls (As := [.ref (A 84), .int z8, .int (Int32.ofInt (-1))]) (r := []) 111 (gd rfl) rfl rfl rfl rfl rfl (Nat.le_of_ble_eq_true rfl) (Nat.zero_le _) (Nat.zero_le _) (k_266_84 (by omega) hI (in_w (-1) (-1) (in_c (-1) rfl) rfl)) (fun v u h => ?_)
        obtain ⟨z10, rfl, rfl, i11⟩ := h
        show GG _ _ _ _ _ _ _ _ [.int z10] _ _ _
        refine g_aload_n 112 (gd rfl) rfl rfl ?_
        refine g_getA (q2 := 5) 115 (gd rfl) rfl rfl rfl rfl rfl ?_
        refine g_iload_n 116 (gd rfl) rfl rfl ?_
        refine g_iaload 117 (gd rfl) rfl (n := 160) rfl (in_ix j20_2 rfl) (fun z12 e13 => ?_)
        have i14 := inv_I hI (n := 160) (t := 0) 0 31 rfl (in_ix j20_2 rfl) rfl e13
        refine g_ishr 118 (gd rfl) rfl (fun z15 e16 => ?_)
        refine g_iconst 1 119 (gd rfl) rfl rfl ?_
        refine g_iand 120 (gd rfl) rfl (fun z17 e18 => ?_)
        have i19 := in_and2 e18 (in_c 1 rfl) rfl
        refine g_if_ne 123 127 (gd rfl) rfl rfl (fun c20 => ?_) (fun c20 => ?_)
        · skip
          have i21 := z_ne 1 1 c20 i19 rfl
          refine g_iconst 0 128 (gd rfl) rfl rfl ?_
          exact g_ireturn (gd rfl) rfl (nb01 (in_w 0 1 (in_c 0 rfl) rfl)) (hP _ _ ⟨s, hI, (Int32.ofInt 0), rfl, rfl, in_w 0 1 (in_c 0 rfl) rfl⟩)
        · skip
          have i22 := z_eq 0 0 c20 i19 rfl
          refine g_iconst 1 124 (gd rfl) rfl rfl ?_
          refine g_goto 128 (gd rfl) rfl ?_
          exact g_ireturn (gd rfl) rfl (nb01 (in_w 0 1 (in_c 1 rfl) rfl)) (hP _ _ ⟨s, hI, (Int32.ofInt 1), rfl, rfl, in_w 0 1 (in_c 1 rfl) rfl⟩)
      · skip
        have i23 := r_lt1 0 159 c4 j20_3 i3 rfl
        have i24 := r_lt2 1 160 c4 j20_3 i3 rfl
        refine g_aload_n 29 (gd rfl) rfl rfl ?_
        refine g_iload_n 30 (gd rfl) rfl rfl ?_
        refine g_callv (X := _) (As := [.int y20_3]) (r := []) (b := A 2) (q := 2) 33 (gd rfl) rfl rfl rfl rfl rfl (ww_o rfl) (Nat.le_of_ble_eq_true rfl) (mc := 0) (ms := 0) (Nat.zero_le _) (Nat.zero_le _) (P := fun v u => _) ?_ (fun e u h => h) (fun v u h => h)
        intro po25 xx26 hp27 hx28
        refine g_enter2 (k := 97) (N := 300) (by omega) rfl (Nat.le_of_ble_eq_true rfl) ?_
        refine g_aload_n 1 (gd rfl) rfl rfl ?_
        refine g_getA (q2 := 4) 4 (gd rfl) rfl rfl rfl rfl rfl ?_
        refine g_iload_n 5 (gd rfl) rfl rfl ?_
        refine g_iaload 6 (gd rfl) rfl (n := 160) rfl (in_ix i23 rfl) (fun z29 e30 => ?_)
        have i31 := inv_I hI (n := 160) (t := 0) (-1) 31 rfl (in_ix i23 rfl) rfl e30
        refine g_iconst (-1) 7 (gd rfl) rfl rfl ?_
        refine g_cmp_eq 10 29 (gd rfl) rfl rfl (fun c32 => ?_) (fun c32 => ?_)
        · skip
          have i33 := r_eq1 (-1) (-1) c32 i31 (in_c (-1) rfl) rfl
          refine g_iconst 0 30 (gd rfl) rfl rfl ?_
          refine g_ireturn (gd rfl) rfl (nb01 (in_w 0 1 (in_c 0 rfl) rfl)) (hp27 _ _ ?_)
          show GG _ _ _ _ _ _ _ _ [.int (Int32.ofInt 0)] _ _ _
          refine g_if_eq 36 89 (gd rfl) rfl rfl (fun c34 => ?_) (fun c34 => ?_)
          · skip
            refine g_iinc 92 (gd rfl) rfl rfl (Nat.le_of_ble_eq_true rfl) (fun z35 e36 => ?_)
            have i37 := in_add 1 160 e36 i23 (in_c 1 rfl) rfl rfl
            refine g_goto 20 (gd rfl) rfl ?_
            exact gg_w (by omega) (gg_f (gf_cons rfl (gf_cons rfl (gf_cons rfl (gf_cons rfl gf_nil)))) (ih20 s y20_2 z35 hI (in_w 0 159 j20_2 rfl) (in_w 0 160 i37 rfl) (m_up mm20 (t_add e36 i23 (in_c 1 rfl) rfl) (in_w 1 1 (in_c 1 rfl) rfl))))
          · skip
            exact zn_ne c34 (in_c 0 rfl) rfl
        · skip
          have i38 := r_ne1 0 31 c32 i31 (in_c (-1) rfl) rfl
          refine g_aload_n 11 (gd rfl) rfl rfl ?_
          refine g_getA (q2 := 4) 14 (gd rfl) rfl rfl rfl rfl rfl ?_
          refine g_iload_n 15 (gd rfl) rfl rfl ?_
          refine g_iaload 16 (gd rfl) rfl (n := 160) rfl (in_ix i23 rfl) (fun z39 e40 => ?_)
          have q41 : z29 = z39 := e30.trans e40.symm
          subst q41
          refine g_aload_n 17 (gd rfl) rfl rfl ?_
          refine g_getA (q2 := 5) 20 (gd rfl) rfl rfl rfl rfl rfl ?_
          refine g_iload_n 21 (gd rfl) rfl rfl ?_
          refine g_iaload 22 (gd rfl) rfl (n := 160) rfl (in_ix i23 rfl) (fun z42 e43 => ?_)
          have i44 := inv_I hI (n := 160) (t := 0) 0 31 rfl (in_ix i23 rfl) rfl e43
          refine g_cmp_eq 25 29 (gd rfl) rfl rfl (fun c45 => ?_) (fun c45 => ?_)
          · skip
            refine g_iconst 0 30 (gd rfl) rfl rfl ?_
            refine g_ireturn (gd rfl) rfl (nb01 (in_w 0 1 (in_c 0 rfl) rfl)) (hp27 _ _ ?_)
            show GG _ _ _ _ _ _ _ _ [.int (Int32.ofInt 0)] _ _ _
            refine g_if_eq 36 89 (gd rfl) rfl rfl (fun c46 => ?_) (fun c46 => ?_)
            · skip
              refine g_iinc 92 (gd rfl) rfl rfl (Nat.le_of_ble_eq_true rfl) (fun z47 e48 => ?_)
              have i49 := in_add 1 160 e48 i23 (in_c 1 rfl) rfl rfl
              refine g_goto 20 (gd rfl) rfl ?_
              exact gg_w (by omega) (gg_f (gf_cons rfl (gf_cons rfl (gf_cons rfl (gf_cons rfl gf_nil)))) (ih20 s y20_2 z47 hI (in_w 0 159 j20_2 rfl) (in_w 0 160 i49 rfl) (m_up mm20 (t_add e48 i23 (in_c 1 rfl) rfl) (in_w 1 1 (in_c 1 rfl) rfl))))
            · skip
              exact zn_ne c46 (in_c 0 rfl) rfl
          · skip
            refine g_iconst 1 26 (gd rfl) rfl rfl ?_
            refine g_goto 30 (gd rfl) rfl ?_
            refine g_ireturn (gd rfl) rfl (nb01 (in_w 0 1 (in_c 1 rfl) rfl)) (hp27 _ _ ?_)
            show GG _ _ _ _ _ _ _ _ [.int (Int32.ofInt 1)] _ _ _
            refine g_if_eq 36 89 (gd rfl) rfl rfl (fun c50 => ?_) (fun c50 => ?_)
            · skip
              exact zn_eq c50 (in_c 1 rfl) rfl
            · skip
              refine g_aload_n 37 (gd rfl) rfl rfl ?_
              refine g_iload_n 38 (gd rfl) rfl rfl ?_
              refine g_iload_n 39 (gd rfl) rfl rfl ?_
              refine g_calls (As := [.ref (A 2), .int y20_3, .int y20_2]) (r := []) 42 (gd rfl) rfl rfl rfl rfl rfl (Nat.le_of_ble_eq_true rfl) (mc := 0) (ms := 0) (Nat.zero_le _) (Nat.zero_le _) (P := fun v u => _) ?_ (fun v u h => h)
              intro po51 xx52 hp53 hx54
              refine g_enter2 (k := 187) (N := 300) (by omega) rfl (Nat.le_of_ble_eq_true rfl) ?_
              refine g_aload_n 1 (gd rfl) rfl rfl ?_
              refine g_getA (q2 := 6) 4 (gd rfl) rfl rfl rfl rfl rfl ?_
              refine g_iload_n 5 (gd rfl) rfl rfl ?_
              refine g_iaload 6 (gd rfl) rfl (n := 160) rfl (in_ix i23 rfl) (fun z55 e56 => ?_)
              have i57 := inv_I hI (n := 160) (t := 0) (-1000000) 1000000 rfl (in_ix i23 rfl) rfl e56
              refine g_aload_n 7 (gd rfl) rfl rfl ?_
              refine g_getA (q2 := 6) 10 (gd rfl) rfl rfl rfl rfl rfl ?_
              refine g_iload_n 11 (gd rfl) rfl rfl ?_
              refine g_iaload 12 (gd rfl) rfl (n := 160) rfl (in_ix j20_2 rfl) (fun z58 e59 => ?_)
              have i60 := inv_I hI (n := 160) (t := 0) (-1000000) 1000000 rfl (in_ix j20_2 rfl) rfl e59
              refine g_cmp_lt 15 35 (gd rfl) rfl rfl (fun c61 => ?_) (fun c61 => ?_)
              · skip
                have i62 := r_lt1 (-1000000) 999999 c61 i57 i60 rfl
                have i63 := r_lt2 (-999999) 1000000 c61 i57 i60 rfl
                refine g_iconst 1 36 (gd rfl) rfl rfl ?_
                refine g_goto 40 (gd rfl) rfl ?_
                refine g_ireturn (gd rfl) rfl (nb01 (in_w 0 1 (in_c 1 rfl) rfl)) (hp53 _ _ ?_)
                show GG _ _ _ _ _ _ _ _ [.int (Int32.ofInt 1)] _ _ _
                refine g_if_eq 45 89 (gd rfl) rfl rfl (fun c64 => ?_) (fun c64 => ?_)
                · skip
                  exact zn_eq c64 (in_c 1 rfl) rfl
                · skip
                  refine g_aload_n 46 (gd rfl) rfl rfl ?_
                  refine g_getA (q2 := 84) 49 (gd rfl) rfl rfl rfl rfl rfl ?_
                  refine g_aload_n 50 (gd rfl) rfl rfl ?_
                  refine g_getA (q2 := 4) 53 (gd rfl) rfl rfl rfl rfl rfl ?_
                  refine g_iload_n 54 (gd rfl) rfl rfl ?_
                  refine g_iaload 55 (gd rfl) rfl (n := 160) rfl (in_ix i23 rfl) (fun z65 e66 => ?_)
                  have q67 : z29 = z65 := e30.trans e66.symm
                  subst q67
                  refine g_dup2 56 (gd rfl) rfl rfl rfl ?_
                  refine g_iaload 57 (gd rfl) rfl (n := 32) rfl (in_ix i38 rfl) (fun z68 e69 => ?_)
                  refine g_iconst 1 58 (gd rfl) rfl rfl ?_
                  refine g_aload_n 59 (gd rfl) rfl rfl ?_
                  refine g_getA (q2 := 5) 62 (gd rfl) rfl rfl rfl rfl rfl ?_
                  refine g_iload_n 63 (gd rfl) rfl rfl ?_
                  refine g_iaload 64 (gd rfl) rfl (n := 160) rfl (in_ix i23 rfl) (fun z70 e71 => ?_)
                  have q72 : z42 = z70 := e43.trans e71.symm
                  subst q72
                  refine g_ishl 65 (gd rfl) rfl (fun z73 e74 => ?_)
                  refine g_ior 66 (gd rfl) rfl (fun z75 e76 => ?_)
                  refine g_iastore 67 (gd rfl) rfl (n := 32) rfl (in_ix i38 rfl) ?_
                  have hI77 := inv_sI (q := 84) (j := z29.toNatClampNeg) hI rfl (in_w (-2147483648) 2147483647 (i_rng z75) rfl)
                  refine g_aload_n 68 (gd rfl) rfl rfl ?_
                  refine g_getA (q2 := 84) 71 (gd rfl) rfl rfl rfl rfl rfl ?_
                  refine g_aload_n 72 (gd rfl) rfl rfl ?_
                  refine g_getA (q2 := 5) 75 (gd rfl) rfl rfl rfl rfl rfl ?_
                  refine g_iload_n 76 (gd rfl) rfl rfl ?_
                  refine g_iaload 77 (gd rfl) rfl (n := 160) rfl (in_ix i23 rfl) (fun z78 e79 => ?_)
                  have q80 : z42 = z78 := e43.trans e79.symm
                  subst q80
                  refine g_dup2 78 (gd rfl) rfl rfl rfl ?_
                  refine g_iaload 79 (gd rfl) rfl (n := 32) rfl (in_ix i44 rfl) (fun z81 e82 => ?_)
                  refine g_iconst 1 80 (gd rfl) rfl rfl ?_
                  refine g_aload_n 81 (gd rfl) rfl rfl ?_
                  refine g_getA (q2 := 4) 84 (gd rfl) rfl rfl rfl rfl rfl ?_
                  refine g_iload_n 85 (gd rfl) rfl rfl ?_
                  refine g_iaload 86 (gd rfl) rfl (n := 160) rfl (in_ix i23 rfl) (fun z83 e84 => ?_)
                  have q85 : z29 = z83 := e30.trans e84.symm
                  subst q85
                  refine g_ishl 87 (gd rfl) rfl (fun z86 e87 => ?_)
                  refine g_ior 88 (gd rfl) rfl (fun z88 e89 => ?_)
                  refine g_iastore 89 (gd rfl) rfl (n := 32) rfl (in_ix i44 rfl) ?_
                  have hI90 := inv_sI (q := 84) (j := z42.toNatClampNeg) hI77 rfl (in_w (-2147483648) 2147483647 (i_rng z88) rfl)
                  refine g_iinc 92 (gd rfl) rfl rfl (Nat.le_of_ble_eq_true rfl) (fun z91 e92 => ?_)
                  have i93 := in_add 1 160 e92 i23 (in_c 1 rfl) rfl rfl
                  refine g_goto 20 (gd rfl) rfl ?_
                  exact gg_w (by omega) (gg_f (gf_cons rfl (gf_cons rfl (gf_cons rfl (gf_cons rfl gf_nil)))) (ih20 (sI (sI s 84 z29.toNatClampNeg z75) 84 z42.toNatClampNeg z88) y20_2 z91 hI90 (in_w 0 159 j20_2 rfl) (in_w 0 160 i93 rfl) (m_up mm20 (t_add e92 i23 (in_c 1 rfl) rfl) (in_w 1 1 (in_c 1 rfl) rfl))))
              · skip
                refine g_aload_n 16 (gd rfl) rfl rfl ?_
                refine g_getA (q2 := 6) 19 (gd rfl) rfl rfl rfl rfl rfl ?_
                refine g_iload_n 20 (gd rfl) rfl rfl ?_
                refine g_iaload 21 (gd rfl) rfl (n := 160) rfl (in_ix i23 rfl) (fun z94 e95 => ?_)
                have q96 : z55 = z94 := e56.trans e95.symm
                subst q96
                refine g_aload_n 22 (gd rfl) rfl rfl ?_
                refine g_getA (q2 := 6) 25 (gd rfl) rfl rfl rfl rfl rfl ?_
                refine g_iload_n 26 (gd rfl) rfl rfl ?_
                refine g_iaload 27 (gd rfl) rfl (n := 160) rfl (in_ix j20_2 rfl) (fun z97 e98 => ?_)
                have q99 : z58 = z97 := e59.trans e98.symm
                subst q99
                refine g_cmp_ne 30 39 (gd rfl) rfl rfl (fun c100 => ?_) (fun c100 => ?_)
                · skip
                  refine g_iconst 0 40 (gd rfl) rfl rfl ?_
                  refine g_ireturn (gd rfl) rfl (nb01 (in_w 0 1 (in_c 0 rfl) rfl)) (hp53 _ _ ?_)
                  show GG _ _ _ _ _ _ _ _ [.int (Int32.ofInt 0)] _ _ _
                  refine g_if_eq 45 89 (gd rfl) rfl rfl (fun c101 => ?_) (fun c101 => ?_)
                  · skip
                    refine g_iinc 92 (gd rfl) rfl rfl (Nat.le_of_ble_eq_true rfl) (fun z102 e103 => ?_)
                    have i104 := in_add 1 160 e103 i23 (in_c 1 rfl) rfl rfl
                    refine g_goto 20 (gd rfl) rfl ?_
                    exact gg_w (by omega) (gg_f (gf_cons rfl (gf_cons rfl (gf_cons rfl (gf_cons rfl gf_nil)))) (ih20 s y20_2 z102 hI (in_w 0 159 j20_2 rfl) (in_w 0 160 i104 rfl) (m_up mm20 (t_add e103 i23 (in_c 1 rfl) rfl) (in_w 1 1 (in_c 1 rfl) rfl))))
                  · skip
                    exact zn_ne c101 (in_c 0 rfl) rfl
                · skip
                  refine g_iload_n 31 (gd rfl) rfl rfl ?_
                  refine g_iload_n 32 (gd rfl) rfl rfl ?_
                  refine g_cmp_ge 35 39 (gd rfl) rfl rfl (fun c105 => ?_) (fun c105 => ?_)
                  · skip
                    refine g_iconst 0 40 (gd rfl) rfl rfl ?_
                    refine g_ireturn (gd rfl) rfl (nb01 (in_w 0 1 (in_c 0 rfl) rfl)) (hp53 _ _ ?_)
                    show GG _ _ _ _ _ _ _ _ [.int (Int32.ofInt 0)] _ _ _
                    refine g_if_eq 45 89 (gd rfl) rfl rfl (fun c106 => ?_) (fun c106 => ?_)
                    · skip
                      refine g_iinc 92 (gd rfl) rfl rfl (Nat.le_of_ble_eq_true rfl) (fun z107 e108 => ?_)
                      have i109 := in_add 1 160 e108 i23 (in_c 1 rfl) rfl rfl
                      refine g_goto 20 (gd rfl) rfl ?_
                      exact gg_w (by omega) (gg_f (gf_cons rfl (gf_cons rfl (gf_cons rfl (gf_cons rfl gf_nil)))) (ih20 s y20_2 z107 hI (in_w 0 159 j20_2 rfl) (in_w 0 160 i109 rfl) (m_up mm20 (t_add e108 i23 (in_c 1 rfl) rfl) (in_w 1 1 (in_c 1 rfl) rfl))))
                    · skip
                      exact zn_ne c106 (in_c 0 rfl) rfl
                  · skip
                    have i110 := r_lt1 0 158 c105 i23 j20_2 rfl
                    have i111 := r_lt2 1 159 c105 i23 j20_2 rfl
                    refine g_iconst 1 36 (gd rfl) rfl rfl ?_
                    refine g_goto 40 (gd rfl) rfl ?_
                    refine g_ireturn (gd rfl) rfl (nb01 (in_w 0 1 (in_c 1 rfl) rfl)) (hp53 _ _ ?_)
                    show GG _ _ _ _ _ _ _ _ [.int (Int32.ofInt 1)] _ _ _
                    refine g_if_eq 45 89 (gd rfl) rfl rfl (fun c112 => ?_) (fun c112 => ?_)
                    · skip
                      exact zn_eq c112 (in_c 1 rfl) rfl
                    · skip
                      refine g_aload_n 46 (gd rfl) rfl rfl ?_
                      refine g_getA (q2 := 84) 49 (gd rfl) rfl rfl rfl rfl rfl ?_
                      refine g_aload_n 50 (gd rfl) rfl rfl ?_
                      refine g_getA (q2 := 4) 53 (gd rfl) rfl rfl rfl rfl rfl ?_
                      refine g_iload_n 54 (gd rfl) rfl rfl ?_
                      refine g_iaload 55 (gd rfl) rfl (n := 160) rfl (in_ix i110 rfl) (fun z113 e114 => ?_)
                      have q115 : z29 = z113 := e30.trans e114.symm
                      subst q115
                      refine g_dup2 56 (gd rfl) rfl rfl rfl ?_
                      refine g_iaload 57 (gd rfl) rfl (n := 32) rfl (in_ix i38 rfl) (fun z116 e117 => ?_)
                      refine g_iconst 1 58 (gd rfl) rfl rfl ?_
                      refine g_aload_n 59 (gd rfl) rfl rfl ?_
                      refine g_getA (q2 := 5) 62 (gd rfl) rfl rfl rfl rfl rfl ?_
                      refine g_iload_n 63 (gd rfl) rfl rfl ?_
                      refine g_iaload 64 (gd rfl) rfl (n := 160) rfl (in_ix i110 rfl) (fun z118 e119 => ?_)
                      have q120 : z42 = z118 := e43.trans e119.symm
                      subst q120
                      refine g_ishl 65 (gd rfl) rfl (fun z121 e122 => ?_)
                      refine g_ior 66 (gd rfl) rfl (fun z123 e124 => ?_)
                      refine g_iastore 67 (gd rfl) rfl (n := 32) rfl (in_ix i38 rfl) ?_
                      have hI125 := inv_sI (q := 84) (j := z29.toNatClampNeg) hI rfl (in_w (-2147483648) 2147483647 (i_rng z123) rfl)
                      refine g_aload_n 68 (gd rfl) rfl rfl ?_
                      refine g_getA (q2 := 84) 71 (gd rfl) rfl rfl rfl rfl rfl ?_
                      refine g_aload_n 72 (gd rfl) rfl rfl ?_
                      refine g_getA (q2 := 5) 75 (gd rfl) rfl rfl rfl rfl rfl ?_
                      refine g_iload_n 76 (gd rfl) rfl rfl ?_
                      refine g_iaload 77 (gd rfl) rfl (n := 160) rfl (in_ix i110 rfl) (fun z126 e127 => ?_)
                      have q128 : z42 = z126 := e43.trans e127.symm
                      subst q128
                      refine g_dup2 78 (gd rfl) rfl rfl rfl ?_
                      refine g_iaload 79 (gd rfl) rfl (n := 32) rfl (in_ix i44 rfl) (fun z129 e130 => ?_)
                      refine g_iconst 1 80 (gd rfl) rfl rfl ?_
                      refine g_aload_n 81 (gd rfl) rfl rfl ?_
                      refine g_getA (q2 := 4) 84 (gd rfl) rfl rfl rfl rfl rfl ?_
                      refine g_iload_n 85 (gd rfl) rfl rfl ?_
                      refine g_iaload 86 (gd rfl) rfl (n := 160) rfl (in_ix i110 rfl) (fun z131 e132 => ?_)
                      have q133 : z29 = z131 := e30.trans e132.symm
                      subst q133
                      refine g_ishl 87 (gd rfl) rfl (fun z134 e135 => ?_)
                      refine g_ior 88 (gd rfl) rfl (fun z136 e137 => ?_)
                      refine g_iastore 89 (gd rfl) rfl (n := 32) rfl (in_ix i44 rfl) ?_
                      have hI138 := inv_sI (q := 84) (j := z42.toNatClampNeg) hI125 rfl (in_w (-2147483648) 2147483647 (i_rng z136) rfl)
                      refine g_iinc 92 (gd rfl) rfl rfl (Nat.le_of_ble_eq_true rfl) (fun z139 e140 => ?_)
                      have i141 := in_add 1 159 e140 i110 (in_c 1 rfl) rfl rfl
                      refine g_goto 20 (gd rfl) rfl ?_
                      exact gg_w (by omega) (gg_f (gf_cons rfl (gf_cons rfl (gf_cons rfl (gf_cons rfl gf_nil)))) (ih20 (sI (sI s 84 z29.toNatClampNeg z123) 84 z42.toNatClampNeg z136) y20_2 z139 hI138 (in_w 0 159 i111 rfl) (in_w 0 160 i141 rfl) (m_up mm20 (t_add e140 i110 (in_c 1 rfl) rfl) (in_w 1 1 (in_c 1 rfl) rfl))))
  refine g_enter2 (k := 186) (N := 145801) (by omega) rfl (Nat.le_of_ble_eq_true rfl) ?_
  refine g_aload_n 1 (gd rfl) rfl rfl ?_
  refine g_iload_n 2 (gd rfl) rfl rfl ?_
  refine g_callv (X := _) (As := [.int x2]) (r := []) (b := A 2) (q := 2) 5 (gd rfl) rfl rfl rfl rfl rfl (ww_o rfl) (Nat.le_of_ble_eq_true rfl) (mc := 0) (ms := 0) (Nat.zero_le _) (Nat.zero_le _) (P := fun v u => _) ?_ (fun e u h => h) (fun v u h => h)
  intro po142 xx143 hp144 hx145
  refine g_enter2 (k := 97) (N := 300) (by omega) rfl (Nat.le_of_ble_eq_true rfl) ?_
  refine g_aload_n 1 (gd rfl) rfl rfl ?_
  refine g_getA (q2 := 4) 4 (gd rfl) rfl rfl rfl rfl rfl ?_
  refine g_iload_n 5 (gd rfl) rfl rfl ?_
  refine g_iaload 6 (gd rfl) rfl (n := 160) rfl (in_ix h2 rfl) (fun z146 e147 => ?_)
  have i148 := inv_I hI (n := 160) (t := 0) (-1) 31 rfl (in_ix h2 rfl) rfl e147
  refine g_iconst (-1) 7 (gd rfl) rfl rfl ?_
  refine g_cmp_eq 10 29 (gd rfl) rfl rfl (fun c149 => ?_) (fun c149 => ?_)
  · skip
    have i150 := r_eq1 (-1) (-1) c149 i148 (in_c (-1) rfl) rfl
    refine g_iconst 0 30 (gd rfl) rfl rfl ?_
    refine g_ireturn (gd rfl) rfl (nb01 (in_w 0 1 (in_c 0 rfl) rfl)) (hp144 _ _ ?_)
    show GG _ _ _ _ _ _ _ _ [.int (Int32.ofInt 0)] _ _ _
    refine g_if_ne 8 10 (gd rfl) rfl rfl (fun c151 => ?_) (fun c151 => ?_)
    · skip
      exact zn_ne c151 (in_c 0 rfl) rfl
    · skip
      refine g_iconst 0 9 (gd rfl) rfl rfl ?_
      exact g_ireturn (gd rfl) rfl (nb01 (in_w 0 1 (in_c 0 rfl) rfl)) (hP _ _ ⟨s, hI, (Int32.ofInt 0), rfl, rfl, in_w 0 1 (in_c 0 rfl) rfl⟩)
  · skip
    have i152 := r_ne1 0 31 c149 i148 (in_c (-1) rfl) rfl
    refine g_aload_n 11 (gd rfl) rfl rfl ?_
    refine g_getA (q2 := 4) 14 (gd rfl) rfl rfl rfl rfl rfl ?_
    refine g_iload_n 15 (gd rfl) rfl rfl ?_
    refine g_iaload 16 (gd rfl) rfl (n := 160) rfl (in_ix h2 rfl) (fun z153 e154 => ?_)
    have q155 : z146 = z153 := e147.trans e154.symm
    subst q155
    refine g_aload_n 17 (gd rfl) rfl rfl ?_
    refine g_getA (q2 := 5) 20 (gd rfl) rfl rfl rfl rfl rfl ?_
    refine g_iload_n 21 (gd rfl) rfl rfl ?_
    refine g_iaload 22 (gd rfl) rfl (n := 160) rfl (in_ix h2 rfl) (fun z156 e157 => ?_)
    have i158 := inv_I hI (n := 160) (t := 0) 0 31 rfl (in_ix h2 rfl) rfl e157
    refine g_cmp_eq 25 29 (gd rfl) rfl rfl (fun c159 => ?_) (fun c159 => ?_)
    · skip
      refine g_iconst 0 30 (gd rfl) rfl rfl ?_
      refine g_ireturn (gd rfl) rfl (nb01 (in_w 0 1 (in_c 0 rfl) rfl)) (hp144 _ _ ?_)
      show GG _ _ _ _ _ _ _ _ [.int (Int32.ofInt 0)] _ _ _
      refine g_if_ne 8 10 (gd rfl) rfl rfl (fun c160 => ?_) (fun c160 => ?_)
      · skip
        exact zn_ne c160 (in_c 0 rfl) rfl
      · skip
        refine g_iconst 0 9 (gd rfl) rfl rfl ?_
        exact g_ireturn (gd rfl) rfl (nb01 (in_w 0 1 (in_c 0 rfl) rfl)) (hP _ _ ⟨s, hI, (Int32.ofInt 0), rfl, rfl, in_w 0 1 (in_c 0 rfl) rfl⟩)
    · skip
      refine g_iconst 1 26 (gd rfl) rfl rfl ?_
      refine g_goto 30 (gd rfl) rfl ?_
      refine g_ireturn (gd rfl) rfl (nb01 (in_w 0 1 (in_c 1 rfl) rfl)) (hp144 _ _ ?_)
      show GG _ _ _ _ _ _ _ _ [.int (Int32.ofInt 1)] _ _ _
      refine g_if_ne 8 10 (gd rfl) rfl rfl (fun c161 => ?_) (fun c161 => ?_)
      · skip
        refine g_aload_n 11 (gd rfl) rfl rfl ?_
        refine g_getA (q2 := 84) 14 (gd rfl) rfl rfl rfl rfl rfl ?_
        refine g_iconst 0 15 (gd rfl) rfl rfl ?_
        refine g_calls (As := [.ref (A 84), .int (Int32.ofInt 0)]) (r := []) 18 (gd rfl) rfl rfl rfl rfl rfl (Nat.le_of_ble_eq_true rfl) (Nat.zero_le _) (Nat.zero_le _) (k_417_84 (by omega) hI (in_w 0 0 (in_c 0 rfl) rfl)) (fun v u h => ?_)
        obtain ⟨s162, hI163, rfl, rfl⟩ := h
        show GG _ _ _ _ _ _ _ _ [] _ _ _
        refine g_iconst 0 19 (gd rfl) rfl rfl ?_
        refine g_istore_n 20 (gd rfl) rfl (Nat.le_of_ble_eq_true rfl) ?_
        exact gg_w (by omega) (gg_f (gf_cons rfl (gf_cons rfl (gf_cons rfl (gf_cons rfl gf_nil)))) (ct20 161 s162 x2 (Int32.ofInt 0) hI163 (in_w 0 159 h2 rfl) (in_w 0 160 (in_c 0 rfl) rfl) (m_in 161 (in_w 0 160 (in_c 0 rfl) rfl) rfl)))
      · skip
        exact zn_eq c161 (in_c 1 rfl) rfl

/-- GraphHouse$Trees.isSpanning -/
theorem k_186_76_32 {Z : AmZ} {A : Nat → Nat} {s : GS} {ex : va_W} {d : Nat} {X : AmX} {x2 : Int32} (hd : 5 ≤ d) (hI : Inv s) (h2 : In x2 0 159) : GC Z d 186 [.ref (A 76), .ref (A 32), .int x2] (WW Z A s ++ ex) 0 0 (fun v u => ∃ t : GS, Inv t ∧ ∃ z : Int32, v = some (.int z) ∧ u = WW Z A t ++ ex ∧ In z 0 1) X := by
  intro post xp hP hX
  have ct20 : ∀ (k20 : Nat) (s : GS) (y20_2 : Int32) (y20_3 : Int32), Inv s → In y20_2 0 159 → In y20_3 0 160 → 160 - (y20_3).toInt < (k20 : Int) → GG Z (d - 1) 186 post (gx xp) (1 + k20 * 900) 20 (fun j => xlook j [(0, .ref (A 76)), (1, .ref (A 32)), (2, .int y20_2), (3, .int y20_3)]) [] (WW Z A s ++ ex) 0 0 := by
    intro k20
    induction k20 with
    | zero => intro s y20_2 y20_3 hI j20_2 j20_3 mm20; exact m_no mm20 j20_3 rfl
    | succ k20 ih20 =>
      intro s y20_2 y20_3 hI j20_2 j20_3 mm20
      refine gg_w (M := 1 + k20 * 900 + 900) (by omega) ?_
      refine g_iload_n 21 (gd rfl) rfl rfl ?_
      refine g_aload_n 22 (gd rfl) rfl rfl ?_
      refine g_getI 25 (gd rfl) rfl rfl rfl (fun z1 e2 => ?_)
      have i3 := inv_F hI 0 160 rfl e2
      refine g_cmp_ge 28 95 (gd rfl) rfl rfl (fun c4 => ?_) (fun c4 => ?_)
      · skip
        refine g_aload_n 96 (gd rfl) rfl rfl ?_
        refine g_getA (q2 := 84) 99 (gd rfl) rfl rfl rfl rfl rfl ?_
        refine g_iconst 1 100 (gd rfl) rfl rfl ?_
        refine g_aload_n 101 (gd rfl) rfl rfl ?_
        refine g_getA (q2 := 34) 104 (gd rfl) rfl rfl rfl rfl rfl ?_
        refine g_iload_n 105 (gd rfl) rfl rfl ?_
        refine g_iaload 106 (gd rfl) rfl (n := 160) rfl (in_ix j20_2 rfl) (fun z5 e6 => ?_)
        have i7 := inv_I hI (n := 160) (t := 0) (-1) 31 rfl (in_ix j20_2 rfl) rfl e6
        refine g_ishl 107 (gd rfl) rfl (fun z8 e9 => ?_)
        refine g_iconst (-1) 108 (gd rfl) rfl rfl ?_
        refine g_calls (As := [.ref (A 84), .int z8, .int (Int32.ofInt (-1))]) (r := []) 111 (gd rfl) rfl rfl rfl rfl rfl (Nat.le_of_ble_eq_true rfl) (Nat.zero_le _) (Nat.zero_le _) (k_266_84 (by omega) hI (in_w (-1) (-1) (in_c (-1) rfl) rfl)) (fun v u h => ?_)
        obtain ⟨z10, rfl, rfl, i11⟩ := h
        show GG _ _ _ _ _ _ _ _ [.int z10] _ _ _
        refine g_aload_n 112 (gd rfl) rfl rfl ?_
        refine g_getA (q2 := 35) 115 (gd rfl) rfl rfl rfl rfl rfl ?_
        refine g_iload_n 116 (gd rfl) rfl rfl ?_
        refine g_iaload 117 (gd rfl) rfl (n := 160) rfl (in_ix j20_2 rfl) (fun z12 e13 => ?_)
        have i14 := inv_I hI (n := 160) (t := 0) 0 31 rfl (in_ix j20_2 rfl) rfl e13
        refine g_ishr 118 (gd rfl) rfl (fun z15 e16 => ?_)
        refine g_iconst 1 119 (gd rfl) rfl rfl ?_
        refine g_iand 120 (gd rfl) rfl (fun z17 e18 => ?_)
        have i19 := in_and2 e18 (in_c 1 rfl) rfl
        refine g_if_ne 123 127 (gd rfl) rfl rfl (fun c20 => ?_) (fun c20 => ?_)
        · skip
          have i21 := z_ne 1 1 c20 i19 rfl
          refine g_iconst 0 128 (gd rfl) rfl rfl ?_
          exact g_ireturn (gd rfl) rfl (nb01 (in_w 0 1 (in_c 0 rfl) rfl)) (hP _ _ ⟨s, hI, (Int32.ofInt 0), rfl, rfl, in_w 0 1 (in_c 0 rfl) rfl⟩)
        · skip
          have i22 := z_eq 0 0 c20 i19 rfl
          refine g_iconst 1 124 (gd rfl) rfl rfl ?_
          refine g_goto 128 (gd rfl) rfl ?_
          exact g_ireturn (gd rfl) rfl (nb01 (in_w 0 1 (in_c 1 rfl) rfl)) (hP _ _ ⟨s, hI, (Int32.ofInt 1), rfl, rfl, in_w 0 1 (in_c 1 rfl) rfl⟩)
      · skip
        have i23 := r_lt1 0 159 c4 j20_3 i3 rfl
        have i24 := r_lt2 1 160 c4 j20_3 i3 rfl
        refine g_aload_n 29 (gd rfl) rfl rfl ?_
        refine g_iload_n 30 (gd rfl) rfl rfl ?_
        refine g_callv (X := _) (As := [.int y20_3]) (r := []) (b := A 32) (q := 32) 33 (gd rfl) rfl rfl rfl rfl rfl (ww_o rfl) (Nat.le_of_ble_eq_true rfl) (mc := 0) (ms := 0) (Nat.zero_le _) (Nat.zero_le _) (P := fun v u => _) ?_ (fun e u h => h) (fun v u h => h)
        intro po25 xx26 hp27 hx28
        refine g_enter2 (k := 97) (N := 300) (by omega) rfl (Nat.le_of_ble_eq_true rfl) ?_
        refine g_aload_n 1 (gd rfl) rfl rfl ?_
        refine g_getA (q2 := 34) 4 (gd rfl) rfl rfl rfl rfl rfl ?_
        refine g_iload_n 5 (gd rfl) rfl rfl ?_
        refine g_iaload 6 (gd rfl) rfl (n := 160) rfl (in_ix i23 rfl) (fun z29 e30 => ?_)
        have i31 := inv_I hI (n := 160) (t := 0) (-1) 31 rfl (in_ix i23 rfl) rfl e30
        refine g_iconst (-1) 7 (gd rfl) rfl rfl ?_
        refine g_cmp_eq 10 29 (gd rfl) rfl rfl (fun c32 => ?_) (fun c32 => ?_)
        · skip
          have i33 := r_eq1 (-1) (-1) c32 i31 (in_c (-1) rfl) rfl
          refine g_iconst 0 30 (gd rfl) rfl rfl ?_
          refine g_ireturn (gd rfl) rfl (nb01 (in_w 0 1 (in_c 0 rfl) rfl)) (hp27 _ _ ?_)
          show GG _ _ _ _ _ _ _ _ [.int (Int32.ofInt 0)] _ _ _
          refine g_if_eq 36 89 (gd rfl) rfl rfl (fun c34 => ?_) (fun c34 => ?_)
          · skip
            refine g_iinc 92 (gd rfl) rfl rfl (Nat.le_of_ble_eq_true rfl) (fun z35 e36 => ?_)
            have i37 := in_add 1 160 e36 i23 (in_c 1 rfl) rfl rfl
            refine g_goto 20 (gd rfl) rfl ?_
            exact gg_w (by omega) (gg_f (gf_cons rfl (gf_cons rfl (gf_cons rfl (gf_cons rfl gf_nil)))) (ih20 s y20_2 z35 hI (in_w 0 159 j20_2 rfl) (in_w 0 160 i37 rfl) (m_up mm20 (t_add e36 i23 (in_c 1 rfl) rfl) (in_w 1 1 (in_c 1 rfl) rfl))))
          · skip
            exact zn_ne c34 (in_c 0 rfl) rfl
        · skip
          have i38 := r_ne1 0 31 c32 i31 (in_c (-1) rfl) rfl
          refine g_aload_n 11 (gd rfl) rfl rfl ?_
          refine g_getA (q2 := 34) 14 (gd rfl) rfl rfl rfl rfl rfl ?_
          refine g_iload_n 15 (gd rfl) rfl rfl ?_
          refine g_iaload 16 (gd rfl) rfl (n := 160) rfl (in_ix i23 rfl) (fun z39 e40 => ?_)
          have q41 : z29 = z39 := e30.trans e40.symm
          subst q41
          refine g_aload_n 17 (gd rfl) rfl rfl ?_
          refine g_getA (q2 := 35) 20 (gd rfl) rfl rfl rfl rfl rfl ?_
          refine g_iload_n 21 (gd rfl) rfl rfl ?_
          refine g_iaload 22 (gd rfl) rfl (n := 160) rfl (in_ix i23 rfl) (fun z42 e43 => ?_)
          have i44 := inv_I hI (n := 160) (t := 0) 0 31 rfl (in_ix i23 rfl) rfl e43
          refine g_cmp_eq 25 29 (gd rfl) rfl rfl (fun c45 => ?_) (fun c45 => ?_)
          · skip
            refine g_iconst 0 30 (gd rfl) rfl rfl ?_
            refine g_ireturn (gd rfl) rfl (nb01 (in_w 0 1 (in_c 0 rfl) rfl)) (hp27 _ _ ?_)
            show GG _ _ _ _ _ _ _ _ [.int (Int32.ofInt 0)] _ _ _
            refine g_if_eq 36 89 (gd rfl) rfl rfl (fun c46 => ?_) (fun c46 => ?_)
            · skip
              refine g_iinc 92 (gd rfl) rfl rfl (Nat.le_of_ble_eq_true rfl) (fun z47 e48 => ?_)
              have i49 := in_add 1 160 e48 i23 (in_c 1 rfl) rfl rfl
              refine g_goto 20 (gd rfl) rfl ?_
              exact gg_w (by omega) (gg_f (gf_cons rfl (gf_cons rfl (gf_cons rfl (gf_cons rfl gf_nil)))) (ih20 s y20_2 z47 hI (in_w 0 159 j20_2 rfl) (in_w 0 160 i49 rfl) (m_up mm20 (t_add e48 i23 (in_c 1 rfl) rfl) (in_w 1 1 (in_c 1 rfl) rfl))))
            · skip
              exact zn_ne c46 (in_c 0 rfl) rfl
          · skip
            refine g_iconst 1 26 (gd rfl) rfl rfl ?_
            refine g_goto 30 (gd rfl) rfl ?_
            refine g_ireturn (gd rfl) rfl (nb01 (in_w 0 1 (in_c 1 rfl) rfl)) (hp27 _ _ ?_)
            show GG _ _ _ _ _ _ _ _ [.int (Int32.ofInt 1)] _ _ _
            refine g_if_eq 36 89 (gd rfl) rfl rfl (fun c50 => ?_) (fun c50 => ?_)
            · skip
              exact zn_eq c50 (in_c 1 rfl) rfl
            · skip
              refine g_aload_n 37 (gd rfl) rfl rfl ?_
              refine g_iload_n 38 (gd rfl) rfl rfl ?_
              refine g_iload_n 39 (gd rfl) rfl rfl ?_
              refine g_calls (As := [.ref (A 32), .int y20_3, .int y20_2]) (r := []) 42 (gd rfl) rfl rfl rfl rfl rfl (Nat.le_of_ble_eq_true rfl) (mc := 0) (ms := 0) (Nat.zero_le _) (Nat.zero_le _) (P := fun v u => _) ?_ (fun v u h => h)
              intro po51 xx52 hp53 hx54
              refine g_enter2 (k := 187) (N := 300) (by omega) rfl (Nat.le_of_ble_eq_true rfl) ?_
              refine g_aload_n 1 (gd rfl) rfl rfl ?_
              refine g_getA (q2 := 36) 4 (gd rfl) rfl rfl rfl rfl rfl ?_
              refine g_iload_n 5 (gd rfl) rfl rfl ?_
              refine g_iaload 6 (gd rfl) rfl (n := 160) rfl (in_ix i23 rfl) (fun z55 e56 => ?_)
              have i57 := inv_I hI (n := 160) (t := 0) (-1000000) 1000000 rfl (in_ix i23 rfl) rfl e56
              refine g_aload_n 7 (gd rfl) rfl rfl ?_
              refine g_getA (q2 := 36) 10 (gd rfl) rfl rfl rfl rfl rfl ?_
              refine g_iload_n 11 (gd rfl) rfl rfl ?_
              refine g_iaload 12 (gd rfl) rfl (n := 160) rfl (in_ix j20_2 rfl) (fun z58 e59 => ?_)
              have i60 := inv_I hI (n := 160) (t := 0) (-1000000) 1000000 rfl (in_ix j20_2 rfl) rfl e59
              refine g_cmp_lt 15 35 (gd rfl) rfl rfl (fun c61 => ?_) (fun c61 => ?_)
              · skip
                have i62 := r_lt1 (-1000000) 999999 c61 i57 i60 rfl
                have i63 := r_lt2 (-999999) 1000000 c61 i57 i60 rfl
                refine g_iconst 1 36 (gd rfl) rfl rfl ?_
                refine g_goto 40 (gd rfl) rfl ?_
                refine g_ireturn (gd rfl) rfl (nb01 (in_w 0 1 (in_c 1 rfl) rfl)) (hp53 _ _ ?_)
                show GG _ _ _ _ _ _ _ _ [.int (Int32.ofInt 1)] _ _ _
                refine g_if_eq 45 89 (gd rfl) rfl rfl (fun c64 => ?_) (fun c64 => ?_)
                · skip
                  exact zn_eq c64 (in_c 1 rfl) rfl
                · skip
                  refine g_aload_n 46 (gd rfl) rfl rfl ?_
                  refine g_getA (q2 := 84) 49 (gd rfl) rfl rfl rfl rfl rfl ?_
                  refine g_aload_n 50 (gd rfl) rfl rfl ?_
                  refine g_getA (q2 := 34) 53 (gd rfl) rfl rfl rfl rfl rfl ?_
                  refine g_iload_n 54 (gd rfl) rfl rfl ?_
                  refine g_iaload 55 (gd rfl) rfl (n := 160) rfl (in_ix i23 rfl) (fun z65 e66 => ?_)
                  have q67 : z29 = z65 := e30.trans e66.symm
                  subst q67
                  refine g_dup2 56 (gd rfl) rfl rfl rfl ?_
                  refine g_iaload 57 (gd rfl) rfl (n := 32) rfl (in_ix i38 rfl) (fun z68 e69 => ?_)
                  refine g_iconst 1 58 (gd rfl) rfl rfl ?_
                  refine g_aload_n 59 (gd rfl) rfl rfl ?_
                  refine g_getA (q2 := 35) 62 (gd rfl) rfl rfl rfl rfl rfl ?_
                  refine g_iload_n 63 (gd rfl) rfl rfl ?_
                  refine g_iaload 64 (gd rfl) rfl (n := 160) rfl (in_ix i23 rfl) (fun z70 e71 => ?_)
                  have q72 : z42 = z70 := e43.trans e71.symm
                  subst q72
                  refine g_ishl 65 (gd rfl) rfl (fun z73 e74 => ?_)
                  refine g_ior 66 (gd rfl) rfl (fun z75 e76 => ?_)
                  refine g_iastore 67 (gd rfl) rfl (n := 32) rfl (in_ix i38 rfl) ?_
                  have hI77 := inv_sI (q := 84) (j := z29.toNatClampNeg) hI rfl (in_w (-2147483648) 2147483647 (i_rng z75) rfl)
                  refine g_aload_n 68 (gd rfl) rfl rfl ?_
                  refine g_getA (q2 := 84) 71 (gd rfl) rfl rfl rfl rfl rfl ?_
                  refine g_aload_n 72 (gd rfl) rfl rfl ?_
                  refine g_getA (q2 := 35) 75 (gd rfl) rfl rfl rfl rfl rfl ?_
                  refine g_iload_n 76 (gd rfl) rfl rfl ?_
                  refine g_iaload 77 (gd rfl) rfl (n := 160) rfl (in_ix i23 rfl) (fun z78 e79 => ?_)
                  have q80 : z42 = z78 := e43.trans e79.symm
                  subst q80
                  refine g_dup2 78 (gd rfl) rfl rfl rfl ?_
                  refine g_iaload 79 (gd rfl) rfl (n := 32) rfl (in_ix i44 rfl) (fun z81 e82 => ?_)
                  refine g_iconst 1 80 (gd rfl) rfl rfl ?_
                  refine g_aload_n 81 (gd rfl) rfl rfl ?_
                  refine g_getA (q2 := 34) 84 (gd rfl) rfl rfl rfl rfl rfl ?_
                  refine g_iload_n 85 (gd rfl) rfl rfl ?_
                  refine g_iaload 86 (gd rfl) rfl (n := 160) rfl (in_ix i23 rfl) (fun z83 e84 => ?_)
                  have q85 : z29 = z83 := e30.trans e84.symm
                  subst q85
                  refine g_ishl 87 (gd rfl) rfl (fun z86 e87 => ?_)
                  refine g_ior 88 (gd rfl) rfl (fun z88 e89 => ?_)
                  refine g_iastore 89 (gd rfl) rfl (n := 32) rfl (in_ix i44 rfl) ?_
                  have hI90 := inv_sI (q := 84) (j := z42.toNatClampNeg) hI77 rfl (in_w (-2147483648) 2147483647 (i_rng z88) rfl)
                  refine g_iinc 92 (gd rfl) rfl rfl (Nat.le_of_ble_eq_true rfl) (fun z91 e92 => ?_)
                  have i93 := in_add 1 160 e92 i23 (in_c 1 rfl) rfl rfl
                  refine g_goto 20 (gd rfl) rfl ?_
                  exact gg_w (by omega) (gg_f (gf_cons rfl (gf_cons rfl (gf_cons rfl (gf_cons rfl gf_nil)))) (ih20 (sI (sI s 84 z29.toNatClampNeg z75) 84 z42.toNatClampNeg z88) y20_2 z91 hI90 (in_w 0 159 j20_2 rfl) (in_w 0 160 i93 rfl) (m_up mm20 (t_add e92 i23 (in_c 1 rfl) rfl) (in_w 1 1 (in_c 1 rfl) rfl))))
              · skip
                refine g_aload_n 16 (gd rfl) rfl rfl ?_
                refine g_getA (q2 := 36) 19 (gd rfl) rfl rfl rfl rfl rfl ?_
                refine g_iload_n 20 (gd rfl) rfl rfl ?_
                refine g_iaload 21 (gd rfl) rfl (n := 160) rfl (in_ix i23 rfl) (fun z94 e95 => ?_)
                have q96 : z55 = z94 := e56.trans e95.symm
                subst q96
                refine g_aload_n 22 (gd rfl) rfl rfl ?_
                refine g_getA (q2 := 36) 25 (gd rfl) rfl rfl rfl rfl rfl ?_
                refine g_iload_n 26 (gd rfl) rfl rfl ?_
                refine g_iaload 27 (gd rfl) rfl (n := 160) rfl (in_ix j20_2 rfl) (fun z97 e98 => ?_)
                have q99 : z58 = z97 := e59.trans e98.symm
                subst q99
                refine g_cmp_ne 30 39 (gd rfl) rfl rfl (fun c100 => ?_) (fun c100 => ?_)
                · skip
                  refine g_iconst 0 40 (gd rfl) rfl rfl ?_
                  refine g_ireturn (gd rfl) rfl (nb01 (in_w 0 1 (in_c 0 rfl) rfl)) (hp53 _ _ ?_)
                  show GG _ _ _ _ _ _ _ _ [.int (Int32.ofInt 0)] _ _ _
                  refine g_if_eq 45 89 (gd rfl) rfl rfl (fun c101 => ?_) (fun c101 => ?_)
                  · skip
                    refine g_iinc 92 (gd rfl) rfl rfl (Nat.le_of_ble_eq_true rfl) (fun z102 e103 => ?_)
                    have i104 := in_add 1 160 e103 i23 (in_c 1 rfl) rfl rfl
                    refine g_goto 20 (gd rfl) rfl ?_
                    exact gg_w (by omega) (gg_f (gf_cons rfl (gf_cons rfl (gf_cons rfl (gf_cons rfl gf_nil)))) (ih20 s y20_2 z102 hI (in_w 0 159 j20_2 rfl) (in_w 0 160 i104 rfl) (m_up mm20 (t_add e103 i23 (in_c 1 rfl) rfl) (in_w 1 1 (in_c 1 rfl) rfl))))
                  · skip
                    exact zn_ne c101 (in_c 0 rfl) rfl
                · skip
                  refine g_iload_n 31 (gd rfl) rfl rfl ?_
                  refine g_iload_n 32 (gd rfl) rfl rfl ?_
                  refine g_cmp_ge 35 39 (gd rfl) rfl rfl (fun c105 => ?_) (fun c105 => ?_)
                  · skip
                    refine g_iconst 0 40 (gd rfl) rfl rfl ?_
                    refine g_ireturn (gd rfl) rfl (nb01 (in_w 0 1 (in_c 0 rfl) rfl)) (hp53 _ _ ?_)
                    show GG _ _ _ _ _ _ _ _ [.int (Int32.ofInt 0)] _ _ _
                    refine g_if_eq 45 89 (gd rfl) rfl rfl (fun c106 => ?_) (fun c106 => ?_)
                    · skip
                      refine g_iinc 92 (gd rfl) rfl rfl (Nat.le_of_ble_eq_true rfl) (fun z107 e108 => ?_)
                      have i109 := in_add 1 160 e108 i23 (in_c 1 rfl) rfl rfl
                      refine g_goto 20 (gd rfl) rfl ?_
                      exact gg_w (by omega) (gg_f (gf_cons rfl (gf_cons rfl (gf_cons rfl (gf_cons rfl gf_nil)))) (ih20 s y20_2 z107 hI (in_w 0 159 j20_2 rfl) (in_w 0 160 i109 rfl) (m_up mm20 (t_add e108 i23 (in_c 1 rfl) rfl) (in_w 1 1 (in_c 1 rfl) rfl))))
                    · skip
                      exact zn_ne c106 (in_c 0 rfl) rfl
                  · skip
                    have i110 := r_lt1 0 158 c105 i23 j20_2 rfl
                    have i111 := r_lt2 1 159 c105 i23 j20_2 rfl
                    refine g_iconst 1 36 (gd rfl) rfl rfl ?_
                    refine g_goto 40 (gd rfl) rfl ?_
                    refine g_ireturn (gd rfl) rfl (nb01 (in_w 0 1 (in_c 1 rfl) rfl)) (hp53 _ _ ?_)
                    show GG _ _ _ _ _ _ _ _ [.int (Int32.ofInt 1)] _ _ _
                    refine g_if_eq 45 89 (gd rfl) rfl rfl (fun c112 => ?_) (fun c112 => ?_)
                    · skip
                      exact zn_eq c112 (in_c 1 rfl) rfl
                    · skip
                      refine g_aload_n 46 (gd rfl) rfl rfl ?_
                      refine g_getA (q2 := 84) 49 (gd rfl) rfl rfl rfl rfl rfl ?_
                      refine g_aload_n 50 (gd rfl) rfl rfl ?_
                      refine g_getA (q2 := 34) 53 (gd rfl) rfl rfl rfl rfl rfl ?_
                      refine g_iload_n 54 (gd rfl) rfl rfl ?_
                      refine g_iaload 55 (gd rfl) rfl (n := 160) rfl (in_ix i110 rfl) (fun z113 e114 => ?_)
                      have q115 : z29 = z113 := e30.trans e114.symm
                      subst q115
                      refine g_dup2 56 (gd rfl) rfl rfl rfl ?_
                      refine g_iaload 57 (gd rfl) rfl (n := 32) rfl (in_ix i38 rfl) (fun z116 e117 => ?_)
                      refine g_iconst 1 58 (gd rfl) rfl rfl ?_
                      refine g_aload_n 59 (gd rfl) rfl rfl ?_
                      refine g_getA (q2 := 35) 62 (gd rfl) rfl rfl rfl rfl rfl ?_
                      refine g_iload_n 63 (gd rfl) rfl rfl ?_
                      refine g_iaload 64 (gd rfl) rfl (n := 160) rfl (in_ix i110 rfl) (fun z118 e119 => ?_)
                      have q120 : z42 = z118 := e43.trans e119.symm
                      subst q120
                      refine g_ishl 65 (gd rfl) rfl (fun z121 e122 => ?_)
                      refine g_ior 66 (gd rfl) rfl (fun z123 e124 => ?_)
                      refine g_iastore 67 (gd rfl) rfl (n := 32) rfl (in_ix i38 rfl) ?_
                      have hI125 := inv_sI (q := 84) (j := z29.toNatClampNeg) hI rfl (in_w (-2147483648) 2147483647 (i_rng z123) rfl)
                      refine g_aload_n 68 (gd rfl) rfl rfl ?_
                      refine g_getA (q2 := 84) 71 (gd rfl) rfl rfl rfl rfl rfl ?_
                      refine g_aload_n 72 (gd rfl) rfl rfl ?_
                      refine g_getA (q2 := 35) 75 (gd rfl) rfl rfl rfl rfl rfl ?_
                      refine g_iload_n 76 (gd rfl) rfl rfl ?_
                      refine g_iaload 77 (gd rfl) rfl (n := 160) rfl (in_ix i110 rfl) (fun z126 e127 => ?_)
                      have q128 : z42 = z126 := e43.trans e127.symm
                      subst q128
                      refine g_dup2 78 (gd rfl) rfl rfl rfl ?_
                      refine g_iaload 79 (gd rfl) rfl (n := 32) rfl (in_ix i44 rfl) (fun z129 e130 => ?_)
                      refine g_iconst 1 80 (gd rfl) rfl rfl ?_
                      refine g_aload_n 81 (gd rfl) rfl rfl ?_
                      refine g_getA (q2 := 34) 84 (gd rfl) rfl rfl rfl rfl rfl ?_
                      refine g_iload_n 85 (gd rfl) rfl rfl ?_
                      refine g_iaload 86 (gd rfl) rfl (n := 160) rfl (in_ix i110 rfl) (fun z131 e132 => ?_)
                      have q133 : z29 = z131 := e30.trans e132.symm
                      subst q133
                      refine g_ishl 87 (gd rfl) rfl (fun z134 e135 => ?_)
                      refine g_ior 88 (gd rfl) rfl (fun z136 e137 => ?_)
                      refine g_iastore 89 (gd rfl) rfl (n := 32) rfl (in_ix i44 rfl) ?_
                      have hI138 := inv_sI (q := 84) (j := z42.toNatClampNeg) hI125 rfl (in_w (-2147483648) 2147483647 (i_rng z136) rfl)
                      refine g_iinc 92 (gd rfl) rfl rfl (Nat.le_of_ble_eq_true rfl) (fun z139 e140 => ?_)
                      have i141 := in_add 1 159 e140 i110 (in_c 1 rfl) rfl rfl
                      refine g_goto 20 (gd rfl) rfl ?_
                      exact gg_w (by omega) (gg_f (gf_cons rfl (gf_cons rfl (gf_cons rfl (gf_cons rfl gf_nil)))) (ih20 (sI (sI s 84 z29.toNatClampNeg z123) 84 z42.toNatClampNeg z136) y20_2 z139 hI138 (in_w 0 159 i111 rfl) (in_w 0 160 i141 rfl) (m_up mm20 (t_add e140 i110 (in_c 1 rfl) rfl) (in_w 1 1 (in_c 1 rfl) rfl))))
  refine g_enter2 (k := 186) (N := 145801) (by omega) rfl (Nat.le_of_ble_eq_true rfl) ?_
  refine g_aload_n 1 (gd rfl) rfl rfl ?_
  refine g_iload_n 2 (gd rfl) rfl rfl ?_
  refine g_callv (X := _) (As := [.int x2]) (r := []) (b := A 32) (q := 32) 5 (gd rfl) rfl rfl rfl rfl rfl (ww_o rfl) (Nat.le_of_ble_eq_true rfl) (mc := 0) (ms := 0) (Nat.zero_le _) (Nat.zero_le _) (P := fun v u => _) ?_ (fun e u h => h) (fun v u h => h)
  intro po142 xx143 hp144 hx145
  refine g_enter2 (k := 97) (N := 300) (by omega) rfl (Nat.le_of_ble_eq_true rfl) ?_
  refine g_aload_n 1 (gd rfl) rfl rfl ?_
  refine g_getA (q2 := 34) 4 (gd rfl) rfl rfl rfl rfl rfl ?_
  refine g_iload_n 5 (gd rfl) rfl rfl ?_
  refine g_iaload 6 (gd rfl) rfl (n := 160) rfl (in_ix h2 rfl) (fun z146 e147 => ?_)
  have i148 := inv_I hI (n := 160) (t := 0) (-1) 31 rfl (in_ix h2 rfl) rfl e147
  refine g_iconst (-1) 7 (gd rfl) rfl rfl ?_
  refine g_cmp_eq 10 29 (gd rfl) rfl rfl (fun c149 => ?_) (fun c149 => ?_)
  · skip
    have i150 := r_eq1 (-1) (-1) c149 i148 (in_c (-1) rfl) rfl
    refine g_iconst 0 30 (gd rfl) rfl rfl ?_
    refine g_ireturn (gd rfl) rfl (nb01 (in_w 0 1 (in_c 0 rfl) rfl)) (hp144 _ _ ?_)
    show GG _ _ _ _ _ _ _ _ [.int (Int32.ofInt 0)] _ _ _
    refine g_if_ne 8 10 (gd rfl) rfl rfl (fun c151 => ?_) (fun c151 => ?_)
    · skip
      exact zn_ne c151 (in_c 0 rfl) rfl
    · skip
      refine g_iconst 0 9 (gd rfl) rfl rfl ?_
      exact g_ireturn (gd rfl) rfl (nb01 (in_w 0 1 (in_c 0 rfl) rfl)) (hP _ _ ⟨s, hI, (Int32.ofInt 0), rfl, rfl, in_w 0 1 (in_c 0 rfl) rfl⟩)
  · skip
    have i152 := r_ne1 0 31 c149 i148 (in_c (-1) rfl) rfl
    refine g_aload_n 11 (gd rfl) rfl rfl ?_
    refine g_getA (q2 := 34) 14 (gd rfl) rfl rfl rfl rfl rfl ?_
    refine g_iload_n 15 (gd rfl) rfl rfl ?_
    refine g_iaload 16 (gd rfl) rfl (n := 160) rfl (in_ix h2 rfl) (fun z153 e154 => ?_)
    have q155 : z146 = z153 := e147.trans e154.symm
    subst q155
    refine g_aload_n 17 (gd rfl) rfl rfl ?_
    refine g_getA (q2 := 35) 20 (gd rfl) rfl rfl rfl rfl rfl ?_
    refine g_iload_n 21 (gd rfl) rfl rfl ?_
    refine g_iaload 22 (gd rfl) rfl (n := 160) rfl (in_ix h2 rfl) (fun z156 e157 => ?_)
    have i158 := inv_I hI (n := 160) (t := 0) 0 31 rfl (in_ix h2 rfl) rfl e157
    refine g_cmp_eq 25 29 (gd rfl) rfl rfl (fun c159 => ?_) (fun c159 => ?_)
    · skip
      refine g_iconst 0 30 (gd rfl) rfl rfl ?_
      refine g_ireturn (gd rfl) rfl (nb01 (in_w 0 1 (in_c 0 rfl) rfl)) (hp144 _ _ ?_)
      show GG _ _ _ _ _ _ _ _ [.int (Int32.ofInt 0)] _ _ _
      refine g_if_ne 8 10 (gd rfl) rfl rfl (fun c160 => ?_) (fun c160 => ?_)
      · skip
        exact zn_ne c160 (in_c 0 rfl) rfl
      · skip
        refine g_iconst 0 9 (gd rfl) rfl rfl ?_
        exact g_ireturn (gd rfl) rfl (nb01 (in_w 0 1 (in_c 0 rfl) rfl)) (hP _ _ ⟨s, hI, (Int32.ofInt 0), rfl, rfl, in_w 0 1 (in_c 0 rfl) rfl⟩)
    · skip
      refine g_iconst 1 26 (gd rfl) rfl rfl ?_
      refine g_goto 30 (gd rfl) rfl ?_
      refine g_ireturn (gd rfl) rfl (nb01 (in_w 0 1 (in_c 1 rfl) rfl)) (hp144 _ _ ?_)
      show GG _ _ _ _ _ _ _ _ [.int (Int32.ofInt 1)] _ _ _
      refine g_if_ne 8 10 (gd rfl) rfl rfl (fun c161 => ?_) (fun c161 => ?_)
      · skip
        refine g_aload_n 11 (gd rfl) rfl rfl ?_
        refine g_getA (q2 := 84) 14 (gd rfl) rfl rfl rfl rfl rfl ?_
        refine g_iconst 0 15 (gd rfl) rfl rfl ?_
        refine g_calls (As := [.ref (A 84), .int (Int32.ofInt 0)]) (r := []) 18 (gd rfl) rfl rfl rfl rfl rfl (Nat.le_of_ble_eq_true rfl) (Nat.zero_le _) (Nat.zero_le _) (k_417_84 (by omega) hI (in_w 0 0 (in_c 0 rfl) rfl)) (fun v u h => ?_)
        obtain ⟨s162, hI163, rfl, rfl⟩ := h
        show GG _ _ _ _ _ _ _ _ [] _ _ _
        refine g_iconst 0 19 (gd rfl) rfl rfl ?_
        refine g_istore_n 20 (gd rfl) rfl (Nat.le_of_ble_eq_true rfl) ?_
        exact gg_w (by omega) (gg_f (gf_cons rfl (gf_cons rfl (gf_cons rfl (gf_cons rfl gf_nil)))) (ct20 161 s162 x2 (Int32.ofInt 0) hI163 (in_w 0 159 h2 rfl) (in_w 0 160 (in_c 0 rfl) rfl) (m_in 161 (in_w 0 160 (in_c 0 rfl) rfl) rfl)))
      · skip
        exact zn_eq c161 (in_c 1 rfl) rfl

/-- GraphHouse.span -/
theorem k_246_0 {Z : AmZ} {A : Nat → Nat} {s : GS} {ex : va_W} {d : Nat} {x1 : Int32} (hd : 7 ≤ d) (hI : Inv s)  : GC Z d 246 [.ref (A 0), .int x1] (WW Z A s ++ ex) 3 18 (fun v u => ∃ t : GS, Inv t ∧ ∃ z : Int32, v = some (.int z) ∧ u = WW Z A t ++ ex ∧ In z 0 1) (gE1 Z A ex) := by
  intro post xp hP hX
  refine g_enter2 (k := 246) (N := 900) (by omega) rfl (Nat.le_of_ble_eq_true rfl) ?_
  refine g_aload_n 1 (gd rfl) rfl rfl ?_
  refine g_callv (X := _) (As := []) (r := []) (b := A 0) (q := 0) 4 (gd rfl) rfl rfl rfl rfl rfl (ww_o rfl) (Nat.le_of_ble_eq_true rfl) (mc := 0) (ms := 0) (Nat.zero_le _) (Nat.zero_le _) (P := fun v u => _) ?_ (fun e u h => h) (fun v u h => h)
  intro po1 xx2 hp3 hx4
  refine g_enter2 (k := 259) (N := 300) (by omega) rfl (Nat.le_of_ble_eq_true rfl) ?_
  refine g_aload_n 1 (gd rfl) rfl rfl ?_
  refine g_getI 4 (gd rfl) rfl rfl rfl (fun z5 e6 => ?_)
  have i7 := inv_F hI (-1) 4000 rfl e6
  refine g_iconst (-1) 5 (gd rfl) rfl rfl ?_
  refine g_cmp_ne 8 18 (gd rfl) rfl rfl (fun c8 => ?_) (fun c8 => ?_)
  · skip
    have i9 := r_ne1 0 4000 c8 i7 (in_c (-1) rfl) rfl
    refine g_aload_n 19 (gd rfl) rfl rfl ?_
    refine g_getA (q2 := 32) 22 (gd rfl) rfl rfl rfl rfl rfl ?_
    refine g_areturn (gd rfl) rfl (hp3 _ _ ?_)
    show GG _ _ _ _ _ _ _ _ [.ref (A 32)] _ _ _
    refine g_astore_n 5 (gd rfl) rfl (Nat.le_of_ble_eq_true rfl) ?_
    refine g_aload_n 6 (gd rfl) rfl rfl ?_
    refine g_iload_n 7 (gd rfl) rfl rfl ?_
    refine g_callv (X := _) (As := [.int x1]) (r := []) (b := A 32) (q := 32) 10 (gd rfl) rfl rfl rfl rfl rfl (ww_o rfl) (Nat.le_of_ble_eq_true rfl) (mc := 0) (ms := 0) (Nat.zero_le _) (Nat.zero_le _) (P := fun v u => _) ?_ (fun e u h => h) (fun v u h => h)
    intro po10 xx11 hp12 hx13
    refine g_enter2 (k := 96) (N := 300) (by omega) rfl (Nat.le_of_ble_eq_true rfl) ?_
    refine g_iload_n 1 (gd rfl) rfl rfl ?_
    refine g_if_lt 4 26 (gd rfl) rfl rfl (fun c14 => ?_) (fun c14 => ?_)
    · skip
      have i15 := z_lt (-2147483648) (-1) c14 (i_rng x1) rfl
      refine g_iconst 0 27 (gd rfl) rfl rfl ?_
      refine g_ireturn (gd rfl) rfl (nb01 (in_w 0 1 (in_c 0 rfl) rfl)) (hp12 _ _ ?_)
      show GG _ _ _ _ _ _ _ _ [.int (Int32.ofInt 0)] _ _ _
      refine g_thr (E := am_IA) (y := yX11_allow) 13 (gd rfl) rfl rfl (Or.inl ⟨rfl, rfl, rfl⟩) (by omega) (Nat.le_of_ble_eq_true rfl) (Nat.le_of_ble_eq_true rfl) (Nat.le_of_ble_eq_true rfl) (fun c16 => ?_) (fun c16 => ?_)
      · skip
        exact zn_ne c16 (in_c 0 rfl) rfl
      · skip
        exact (hX _ _ ⟨rfl, s, hI, rfl⟩)
    · skip
      have i17 := z_ge 0 2147483647 c14 (i_rng x1) rfl
      refine g_iload_n 5 (gd rfl) rfl rfl ?_
      refine g_aload_n 6 (gd rfl) rfl rfl ?_
      refine g_getI 9 (gd rfl) rfl rfl rfl (fun z18 e19 => ?_)
      have i20 := inv_F hI 0 160 rfl e19
      refine g_cmp_ge 12 26 (gd rfl) rfl rfl (fun c21 => ?_) (fun c21 => ?_)
      · skip
        refine g_iconst 0 27 (gd rfl) rfl rfl ?_
        refine g_ireturn (gd rfl) rfl (nb01 (in_w 0 1 (in_c 0 rfl) rfl)) (hp12 _ _ ?_)
        show GG _ _ _ _ _ _ _ _ [.int (Int32.ofInt 0)] _ _ _
        refine g_thr (E := am_IA) (y := yX11_allow) 13 (gd rfl) rfl rfl (Or.inl ⟨rfl, rfl, rfl⟩) (by omega) (Nat.le_of_ble_eq_true rfl) (Nat.le_of_ble_eq_true rfl) (Nat.le_of_ble_eq_true rfl) (fun c22 => ?_) (fun c22 => ?_)
        · skip
          exact zn_ne c22 (in_c 0 rfl) rfl
        · skip
          exact (hX _ _ ⟨rfl, s, hI, rfl⟩)
      · skip
        have i23 := r_lt1 0 159 c21 i17 i20 rfl
        have i24 := r_lt2 1 160 c21 i17 i20 rfl
        refine g_aload_n 13 (gd rfl) rfl rfl ?_
        refine g_getA (q2 := 34) 16 (gd rfl) rfl rfl rfl rfl rfl ?_
        refine g_iload_n 17 (gd rfl) rfl rfl ?_
        refine g_iaload 18 (gd rfl) rfl (n := 160) rfl (in_ix i23 rfl) (fun z25 e26 => ?_)
        have i27 := inv_I hI (n := 160) (t := 0) (-1) 31 rfl (in_ix i23 rfl) rfl e26
        refine g_iconst (-1) 19 (gd rfl) rfl rfl ?_
        refine g_cmp_eq 22 26 (gd rfl) rfl rfl (fun c28 => ?_) (fun c28 => ?_)
        · skip
          have i29 := r_eq1 (-1) (-1) c28 i27 (in_c (-1) rfl) rfl
          refine g_iconst 0 27 (gd rfl) rfl rfl ?_
          refine g_ireturn (gd rfl) rfl (nb01 (in_w 0 1 (in_c 0 rfl) rfl)) (hp12 _ _ ?_)
          show GG _ _ _ _ _ _ _ _ [.int (Int32.ofInt 0)] _ _ _
          refine g_thr (E := am_IA) (y := yX11_allow) 13 (gd rfl) rfl rfl (Or.inl ⟨rfl, rfl, rfl⟩) (by omega) (Nat.le_of_ble_eq_true rfl) (Nat.le_of_ble_eq_true rfl) (Nat.le_of_ble_eq_true rfl) (fun c30 => ?_) (fun c30 => ?_)
          · skip
            exact zn_ne c30 (in_c 0 rfl) rfl
          · skip
            exact (hX _ _ ⟨rfl, s, hI, rfl⟩)
        · skip
          have i31 := r_ne1 0 31 c28 i27 (in_c (-1) rfl) rfl
          refine g_iconst 1 23 (gd rfl) rfl rfl ?_
          refine g_goto 27 (gd rfl) rfl ?_
          refine g_ireturn (gd rfl) rfl (nb01 (in_w 0 1 (in_c 1 rfl) rfl)) (hp12 _ _ ?_)
          show GG _ _ _ _ _ _ _ _ [.int (Int32.ofInt 1)] _ _ _
          refine g_thr (E := am_IA) (y := yX11_allow) 13 (gd rfl) rfl rfl (Or.inl ⟨rfl, rfl, rfl⟩) (by omega) (Nat.le_of_ble_eq_true rfl) (Nat.le_of_ble_eq_true rfl) (Nat.le_of_ble_eq_true rfl) (fun c32 => ?_) (fun c32 => ?_)
          · skip
            refine g_aload_n 14 (gd rfl) rfl rfl ?_
            refine g_getA (q2 := 76) 17 (gd rfl) rfl rfl rfl rfl rfl ?_
            refine g_aload_n 18 (gd rfl) rfl rfl ?_
            refine g_iload_n 19 (gd rfl) rfl rfl ?_
            refine g_callv (X := _) (As := [.ref (A 32), .int x1]) (r := []) (b := A 76) (q := 76) 22 (gd rfl) rfl rfl rfl rfl rfl (ww_o rfl) (Nat.le_of_ble_eq_true rfl) (Nat.zero_le _) (Nat.zero_le _) (k_186_76_32 (by omega) hI (in_w 0 159 i23 rfl)) (fun e u h => h) (fun v u h => ?_)
            obtain ⟨s33, hI34, z35, rfl, rfl, i36⟩ := h
            show GG _ _ _ _ _ _ _ _ [.int z35] _ _ _
            exact g_ireturn (gd rfl) rfl (nb01 (in_w 0 1 i36 rfl)) (hP _ _ ⟨s33, hI34, z35, rfl, rfl, in_w 0 1 i36 rfl⟩)
          · skip
            exact zn_eq c32 (in_c 1 rfl) rfl
  · skip
    have i37 := r_eq1 (-1) (-1) c8 i7 (in_c (-1) rfl) rfl
    refine g_aload_n 9 (gd rfl) rfl rfl ?_
    refine g_getA (q2 := 1) 12 (gd rfl) rfl rfl rfl rfl rfl ?_
    refine g_getA (q2 := 2) 15 (gd rfl) rfl rfl rfl rfl rfl ?_
    refine g_goto 22 (gd rfl) rfl ?_
    refine g_areturn (gd rfl) rfl (hp3 _ _ ?_)
    show GG _ _ _ _ _ _ _ _ [.ref (A 2)] _ _ _
    refine g_astore_n 5 (gd rfl) rfl (Nat.le_of_ble_eq_true rfl) ?_
    refine g_aload_n 6 (gd rfl) rfl rfl ?_
    refine g_iload_n 7 (gd rfl) rfl rfl ?_
    refine g_callv (X := _) (As := [.int x1]) (r := []) (b := A 2) (q := 2) 10 (gd rfl) rfl rfl rfl rfl rfl (ww_o rfl) (Nat.le_of_ble_eq_true rfl) (mc := 0) (ms := 0) (Nat.zero_le _) (Nat.zero_le _) (P := fun v u => _) ?_ (fun e u h => h) (fun v u h => h)
    intro po38 xx39 hp40 hx41
    refine g_enter2 (k := 96) (N := 300) (by omega) rfl (Nat.le_of_ble_eq_true rfl) ?_
    refine g_iload_n 1 (gd rfl) rfl rfl ?_
    refine g_if_lt 4 26 (gd rfl) rfl rfl (fun c42 => ?_) (fun c42 => ?_)
    · skip
      have i43 := z_lt (-2147483648) (-1) c42 (i_rng x1) rfl
      refine g_iconst 0 27 (gd rfl) rfl rfl ?_
      refine g_ireturn (gd rfl) rfl (nb01 (in_w 0 1 (in_c 0 rfl) rfl)) (hp40 _ _ ?_)
      show GG _ _ _ _ _ _ _ _ [.int (Int32.ofInt 0)] _ _ _
      refine g_thr (E := am_IA) (y := yX11_allow) 13 (gd rfl) rfl rfl (Or.inl ⟨rfl, rfl, rfl⟩) (by omega) (Nat.le_of_ble_eq_true rfl) (Nat.le_of_ble_eq_true rfl) (Nat.le_of_ble_eq_true rfl) (fun c44 => ?_) (fun c44 => ?_)
      · skip
        exact zn_ne c44 (in_c 0 rfl) rfl
      · skip
        exact (hX _ _ ⟨rfl, s, hI, rfl⟩)
    · skip
      have i45 := z_ge 0 2147483647 c42 (i_rng x1) rfl
      refine g_iload_n 5 (gd rfl) rfl rfl ?_
      refine g_aload_n 6 (gd rfl) rfl rfl ?_
      refine g_getI 9 (gd rfl) rfl rfl rfl (fun z46 e47 => ?_)
      have i48 := inv_F hI 0 160 rfl e47
      refine g_cmp_ge 12 26 (gd rfl) rfl rfl (fun c49 => ?_) (fun c49 => ?_)
      · skip
        refine g_iconst 0 27 (gd rfl) rfl rfl ?_
        refine g_ireturn (gd rfl) rfl (nb01 (in_w 0 1 (in_c 0 rfl) rfl)) (hp40 _ _ ?_)
        show GG _ _ _ _ _ _ _ _ [.int (Int32.ofInt 0)] _ _ _
        refine g_thr (E := am_IA) (y := yX11_allow) 13 (gd rfl) rfl rfl (Or.inl ⟨rfl, rfl, rfl⟩) (by omega) (Nat.le_of_ble_eq_true rfl) (Nat.le_of_ble_eq_true rfl) (Nat.le_of_ble_eq_true rfl) (fun c50 => ?_) (fun c50 => ?_)
        · skip
          exact zn_ne c50 (in_c 0 rfl) rfl
        · skip
          exact (hX _ _ ⟨rfl, s, hI, rfl⟩)
      · skip
        have i51 := r_lt1 0 159 c49 i45 i48 rfl
        have i52 := r_lt2 1 160 c49 i45 i48 rfl
        refine g_aload_n 13 (gd rfl) rfl rfl ?_
        refine g_getA (q2 := 4) 16 (gd rfl) rfl rfl rfl rfl rfl ?_
        refine g_iload_n 17 (gd rfl) rfl rfl ?_
        refine g_iaload 18 (gd rfl) rfl (n := 160) rfl (in_ix i51 rfl) (fun z53 e54 => ?_)
        have i55 := inv_I hI (n := 160) (t := 0) (-1) 31 rfl (in_ix i51 rfl) rfl e54
        refine g_iconst (-1) 19 (gd rfl) rfl rfl ?_
        refine g_cmp_eq 22 26 (gd rfl) rfl rfl (fun c56 => ?_) (fun c56 => ?_)
        · skip
          have i57 := r_eq1 (-1) (-1) c56 i55 (in_c (-1) rfl) rfl
          refine g_iconst 0 27 (gd rfl) rfl rfl ?_
          refine g_ireturn (gd rfl) rfl (nb01 (in_w 0 1 (in_c 0 rfl) rfl)) (hp40 _ _ ?_)
          show GG _ _ _ _ _ _ _ _ [.int (Int32.ofInt 0)] _ _ _
          refine g_thr (E := am_IA) (y := yX11_allow) 13 (gd rfl) rfl rfl (Or.inl ⟨rfl, rfl, rfl⟩) (by omega) (Nat.le_of_ble_eq_true rfl) (Nat.le_of_ble_eq_true rfl) (Nat.le_of_ble_eq_true rfl) (fun c58 => ?_) (fun c58 => ?_)
          · skip
            exact zn_ne c58 (in_c 0 rfl) rfl
          · skip
            exact (hX _ _ ⟨rfl, s, hI, rfl⟩)
        · skip
          have i59 := r_ne1 0 31 c56 i55 (in_c (-1) rfl) rfl
          refine g_iconst 1 23 (gd rfl) rfl rfl ?_
          refine g_goto 27 (gd rfl) rfl ?_
          refine g_ireturn (gd rfl) rfl (nb01 (in_w 0 1 (in_c 1 rfl) rfl)) (hp40 _ _ ?_)
          show GG _ _ _ _ _ _ _ _ [.int (Int32.ofInt 1)] _ _ _
          refine g_thr (E := am_IA) (y := yX11_allow) 13 (gd rfl) rfl rfl (Or.inl ⟨rfl, rfl, rfl⟩) (by omega) (Nat.le_of_ble_eq_true rfl) (Nat.le_of_ble_eq_true rfl) (Nat.le_of_ble_eq_true rfl) (fun c60 => ?_) (fun c60 => ?_)
          · skip
            refine g_aload_n 14 (gd rfl) rfl rfl ?_
            refine g_getA (q2 := 76) 17 (gd rfl) rfl rfl rfl rfl rfl ?_
            refine g_aload_n 18 (gd rfl) rfl rfl ?_
            refine g_iload_n 19 (gd rfl) rfl rfl ?_
            refine g_callv (X := _) (As := [.ref (A 2), .int x1]) (r := []) (b := A 76) (q := 76) 22 (gd rfl) rfl rfl rfl rfl rfl (ww_o rfl) (Nat.le_of_ble_eq_true rfl) (Nat.zero_le _) (Nat.zero_le _) (k_186_76_2 (by omega) hI (in_w 0 159 i51 rfl)) (fun e u h => h) (fun v u h => ?_)
            obtain ⟨s61, hI62, z63, rfl, rfl, i64⟩ := h
            show GG _ _ _ _ _ _ _ _ [.int z63] _ _ _
            exact g_ireturn (gd rfl) rfl (nb01 (in_w 0 1 i64 rfl)) (hP _ _ ⟨s61, hI62, z63, rfl, rfl, in_w 0 1 i64 rfl⟩)
          · skip
            exact zn_eq c60 (in_c 1 rfl) rfl
