/-! methods, by vc.py -/
/-- GraphHouseModel.freePlace -/
theorem k_280 {Z : AmZ} {A : Nat → Nat} {s : GS} {ex : va_W} {d : Nat} {X : AmX} {x1 : Int32} (hd : 1 ≤ d) (hI : Inv s) (h1 : In x1 0 2) : GC Z d 280 [.ref (A 109), .int x1] (WW Z A s ++ ex) 0 0 (fun v u => ∃ z : Int32, v = some (.int z) ∧ u = WW Z A s ++ ex ∧ In z 0 160) X := by
  intro post xp hP hX
  have c30 : ∀ (y30_1 : Int32) (y30_2 : Int32), In y30_1 0 2 → In y30_2 0 160 → GG Z (d - 1) 280 post xp (901) 30 (fun j => xlook j [(0, .ref (A 109)), (1, .int y30_1), (2, .int y30_2)]) [] (WW Z A s ++ ex) 0 0 := by
    intro y30_1 y30_2 j30_1 j30_2
    refine g_iload_n 31 (gd rfl) rfl rfl ?_
    exact g_ireturn (gd rfl) rfl rfl (hP _ _ ⟨y30_2, rfl, rfl, in_w 0 160 j30_2 rfl⟩)
  have c2 : ∀ (k2 : Nat) (y2_1 : Int32) (y2_2 : Int32), In y2_1 0 2 → In y2_2 0 160 → 160 - (y2_2).toInt < (k2 : Int) → GG Z (d - 1) 280 post xp (902 + k2 * 900) 2 (fun j => xlook j [(0, .ref (A 109)), (1, .int y2_1), (2, .int y2_2)]) [] (WW Z A s ++ ex) 0 0 := by
    intro k2
    induction k2 with
    | zero => intro y2_1 y2_2 j2_1 j2_2 m2; exact m_no m2 j2_2 rfl
    | succ k2 ih2 =>
      intro y2_1 y2_2 j2_1 j2_2 m2
      refine gg_w (M := 902 + k2 * 900 + 900) (by omega) ?_
      refine g_iload_n 3 (gd rfl) rfl rfl ?_
      refine g_sipush 160 6 (gd rfl) rfl rfl ?_
      refine g_cmp_ge 9 30 (gd rfl) rfl rfl (fun c1 => ?_) (fun c1 => ?_)
      · skip
        have i2 := r_le2 160 160 c1 (in_c 160 rfl) j2_2 rfl
        exact gg_w (by omega) (gg_f (gf_cons rfl (gf_cons rfl (gf_cons rfl gf_nil))) (c30  y2_1 y2_2  (in_w 0 2 j2_1 rfl) (in_w 0 160 i2 rfl)))
      · skip
        have i3 := r_lt1 0 159 c1 j2_2 (in_c 160 rfl) rfl
        refine g_aload_n 10 (gd rfl) rfl rfl ?_
        refine g_getA (q2 := 112) 13 (gd rfl) rfl rfl rfl rfl rfl ?_
        refine g_sipush 160 16 (gd rfl) rfl rfl ?_
        refine g_iload_n 17 (gd rfl) rfl rfl ?_
        refine g_imul 18 (gd rfl) rfl (fun z4 e5 => ?_)
        have i6 := in_mulc 160 0 320 (Or.inl e5) j2_1 rfl rfl
        refine g_iload_n 19 (gd rfl) rfl rfl ?_
        refine g_iadd 20 (gd rfl) rfl (fun z7 e8 => ?_)
        have i9 := in_add 0 479 e8 i6 i3 rfl rfl
        refine g_baload 21 (gd rfl) rfl (n := 480) rfl (in_ix i9 rfl) (fun z10 e11 => ?_)
        have i12 := inv_I hI (n := 480) (t := 3) 0 1 rfl (in_ix i9 rfl) rfl e11
        refine g_if_eq 24 30 (gd rfl) rfl rfl (fun c13 => ?_) (fun c13 => ?_)
        · skip
          have i14 := z_eq 0 0 c13 i12 rfl
          exact gg_w (by omega) (gg_f (gf_cons rfl (gf_cons rfl (gf_cons rfl gf_nil))) (c30  y2_1 y2_2  (in_w 0 2 j2_1 rfl) (in_w 0 160 i3 rfl)))
        · skip
          have i15 := z_ne 1 1 c13 i12 rfl
          refine g_iinc 27 (gd rfl) rfl rfl (Nat.le_of_ble_eq_true rfl) (fun z16 e17 => ?_)
          have i18 := in_add 1 160 e17 i3 (in_c 1 rfl) rfl rfl
          refine g_goto 2 (gd rfl) rfl ?_
          exact gg_w (by omega) (gg_f (gf_cons rfl (gf_cons rfl (gf_cons rfl gf_nil))) (ih2  y2_1 z16  (in_w 0 2 j2_1 rfl) (in_w 0 160 i18 rfl) (m_up m2 (t_add e17 i3 (in_c 1 rfl) rfl) (in_w 1 1 (in_c 1 rfl) rfl))))
  refine g_enter2 (k := 280) (N := 146702) (by omega) rfl (Nat.le_of_ble_eq_true rfl) ?_
  refine g_iconst 0 1 (gd rfl) rfl rfl ?_
  refine g_istore_n 2 (gd rfl) rfl (Nat.le_of_ble_eq_true rfl) ?_
  exact gg_w (by omega) (gg_f (gf_cons rfl (gf_cons rfl (gf_cons rfl gf_nil))) (c2 161  x1 (Int32.ofInt 0)  (in_w 0 2 h1 rfl) (in_w 0 160 (in_c 0 rfl) rfl) (m_in 161 (in_w 0 160 (in_c 0 rfl) rfl) rfl)))

/-- GraphHouseModel.isJoint -/
theorem k_288 {Z : AmZ} {A : Nat → Nat} {s : GS} {ex : va_W} {d : Nat} {X : AmX} {x1 : Int32} (hd : 1 ≤ d) (hI : Inv s) (h1 : In x1 0 159) : GC Z d 288 [.ref (A 109), .int x1] (WW Z A s ++ ex) 0 0 (fun v u => ∃ z : Int32, v = some (.int z) ∧ u = WW Z A s ++ ex ∧ In z 0 1) X := by
  intro post xp hP hX
  have c43 : ∀ (y43_1 : Int32), In y43_1 0 159 → GG Z (d - 1) 288 post xp (901) 43 (fun j => xlook j [(0, .ref (A 109)), (1, .int y43_1)]) [] (WW Z A s ++ ex) 0 0 := by
    intro y43_1 j43_1
    refine g_iconst 0 44 (gd rfl) rfl rfl ?_
    exact g_ireturn (gd rfl) rfl (nb01 (in_w 0 1 (in_c 0 rfl) rfl)) (hP _ _ ⟨(Int32.ofInt 0), rfl, rfl, in_w 0 1 (in_c 0 rfl) rfl⟩)
  refine g_enter2 (k := 288) (N := 1801) (by omega) rfl (Nat.le_of_ble_eq_true rfl) ?_
  refine g_aload_n 1 (gd rfl) rfl rfl ?_
  refine g_getA (q2 := 112) 4 (gd rfl) rfl rfl rfl rfl rfl ?_
  refine g_aload_n 5 (gd rfl) rfl rfl ?_
  refine g_getI 8 (gd rfl) rfl rfl rfl (fun z1 e2 => ?_)
  have i3 := inv_F hI 0 160 rfl e2
  refine g_iload_n 9 (gd rfl) rfl rfl ?_
  refine g_iadd 10 (gd rfl) rfl (fun z4 e5 => ?_)
  have i6 := in_add 0 319 e5 i3 h1 rfl rfl
  refine g_baload 11 (gd rfl) rfl (n := 480) rfl (in_ix i6 rfl) (fun z7 e8 => ?_)
  have i9 := inv_I hI (n := 480) (t := 3) 0 1 rfl (in_ix i6 rfl) rfl e8
  refine g_if_eq 14 43 (gd rfl) rfl rfl (fun c10 => ?_) (fun c10 => ?_)
  · skip
    have i11 := z_eq 0 0 c10 i9 rfl
    exact gg_w (by omega) (gg_f (gf_cons rfl (gf_cons rfl gf_nil)) (c43  x1  (in_w 0 159 h1 rfl)))
  · skip
    have i12 := z_ne 1 1 c10 i9 rfl
    refine g_aload_n 15 (gd rfl) rfl rfl ?_
    refine g_getA (q2 := 113) 18 (gd rfl) rfl rfl rfl rfl rfl ?_
    refine g_aload_n 19 (gd rfl) rfl rfl ?_
    refine g_getI 22 (gd rfl) rfl rfl rfl (fun z13 e14 => ?_)
    have q15 : z1 = z13 := (e2).trans e14.symm
    subst q15
    refine g_iload_n 23 (gd rfl) rfl rfl ?_
    refine g_iadd 24 (gd rfl) rfl (fun z16 e17 => ?_)
    have i18 := in_add 0 319 e17 i3 h1 rfl rfl
    refine g_iaload 25 (gd rfl) rfl (n := 480) rfl (in_ix i18 rfl) (fun z19 e20 => ?_)
    have i21 := inv_I hI (n := 480) (t := 0) 0 31 rfl (in_ix i18 rfl) rfl e20
    refine g_aload_n 26 (gd rfl) rfl rfl ?_
    refine g_getA (q2 := 114) 29 (gd rfl) rfl rfl rfl rfl rfl ?_
    refine g_aload_n 30 (gd rfl) rfl rfl ?_
    refine g_getI 33 (gd rfl) rfl rfl rfl (fun z22 e23 => ?_)
    have q24 : z1 = z22 := (e2).trans e23.symm
    subst q24
    refine g_iload_n 34 (gd rfl) rfl rfl ?_
    refine g_iadd 35 (gd rfl) rfl (fun z25 e26 => ?_)
    have i27 := in_add 0 319 e26 i3 h1 rfl rfl
    refine g_iaload 36 (gd rfl) rfl (n := 480) rfl (in_ix i27 rfl) (fun z28 e29 => ?_)
    have i30 := inv_I hI (n := 480) (t := 0) 0 31 rfl (in_ix i27 rfl) rfl e29
    refine g_cmp_eq 39 43 (gd rfl) rfl rfl (fun c31 => ?_) (fun c31 => ?_)
    · skip
      exact gg_w (by omega) (gg_f (gf_cons rfl (gf_cons rfl gf_nil)) (c43  x1  (in_w 0 159 h1 rfl)))
    · skip
      refine g_iconst 1 40 (gd rfl) rfl rfl ?_
      refine g_goto 44 (gd rfl) rfl ?_
      exact g_ireturn (gd rfl) rfl (nb01 (in_w 0 1 (in_c 1 rfl) rfl)) (hP _ _ ⟨(Int32.ofInt 1), rfl, rfl, in_w 0 1 (in_c 1 rfl) rfl⟩)

/-- GraphHouseModel.count -/
theorem k_336 {Z : AmZ} {A : Nat → Nat} {s : GS} {ex : va_W} {d : Nat} {X : AmX} {x0 : Int32} (hd : 1 ≤ d) (hI : Inv s)  : GC Z d 336 [.int x0] (WW Z A s ++ ex) 0 0 (fun v u => ∃ z : Int32, v = some (.int z) ∧ u = WW Z A s ++ ex ∧ In z (-2147483648) 2147483647) X := by
  intro post xp hP hX
  have c4 : ∀ (k4 : Nat) (y4_0 : Int32) (y4_1 : Int32) (y4_2 : Int32), In y4_2 0 32 → 32 - (y4_2).toInt < (k4 : Int) → GG Z (d - 1) 336 post xp (1 + k4 * 900) 4 (fun j => xlook j [(0, .int y4_0), (1, .int y4_1), (2, .int y4_2)]) [] (WW Z A s ++ ex) 0 0 := by
    intro k4
    induction k4 with
    | zero => intro y4_0 y4_1 y4_2 j4_2 m4; exact m_no m4 j4_2 rfl
    | succ k4 ih4 =>
      intro y4_0 y4_1 y4_2 j4_2 m4
      refine gg_w (M := 1 + k4 * 900 + 900) (by omega) ?_
      refine g_iload_n 5 (gd rfl) rfl rfl ?_
      refine g_bipush 32 7 (gd rfl) rfl rfl ?_
      refine g_cmp_ge 10 24 (gd rfl) rfl rfl (fun c1 => ?_) (fun c1 => ?_)
      · skip
        have i2 := r_le2 32 32 c1 (in_c 32 rfl) j4_2 rfl
        refine g_iload_n 25 (gd rfl) rfl rfl ?_
        exact g_ireturn (gd rfl) rfl rfl (hP _ _ ⟨y4_1, rfl, rfl, in_w (-2147483648) 2147483647 (i_rng y4_1) rfl⟩)
      · skip
        have i3 := r_lt1 0 31 c1 j4_2 (in_c 32 rfl) rfl
        refine g_iload_n 11 (gd rfl) rfl rfl ?_
        refine g_iload_n 12 (gd rfl) rfl rfl ?_
        refine g_iload_n 13 (gd rfl) rfl rfl ?_
        refine g_ishr 14 (gd rfl) rfl (fun z4 e5 => ?_)
        refine g_iconst 1 15 (gd rfl) rfl rfl ?_
        refine g_iand 16 (gd rfl) rfl (fun z6 e7 => ?_)
        have i8 := in_and2 e7 (in_c 1 rfl) rfl
        refine g_iadd 17 (gd rfl) rfl (fun z9 e10 => ?_)
        refine g_istore_n 18 (gd rfl) rfl (Nat.le_of_ble_eq_true rfl) ?_
        refine g_iinc 21 (gd rfl) rfl rfl (Nat.le_of_ble_eq_true rfl) (fun z11 e12 => ?_)
        have i13 := in_add 1 32 e12 i3 (in_c 1 rfl) rfl rfl
        refine g_goto 4 (gd rfl) rfl ?_
        exact gg_w (by omega) (gg_f (gf_cons rfl (gf_cons rfl (gf_cons rfl gf_nil))) (ih4  y4_0 z9 z11  (in_w 0 32 i13 rfl) (m_up m4 (t_add e12 i3 (in_c 1 rfl) rfl) (in_w 1 1 (in_c 1 rfl) rfl))))
  refine g_enter2 (k := 336) (N := 30601) (by omega) rfl (Nat.le_of_ble_eq_true rfl) ?_
  refine g_iconst 0 1 (gd rfl) rfl rfl ?_
  refine g_istore_n 2 (gd rfl) rfl (Nat.le_of_ble_eq_true rfl) ?_
  refine g_iconst 0 3 (gd rfl) rfl rfl ?_
  refine g_istore_n 4 (gd rfl) rfl (Nat.le_of_ble_eq_true rfl) ?_
  exact gg_w (by omega) (gg_f (gf_cons rfl (gf_cons rfl (gf_cons rfl gf_nil))) (c4 33  x0 (Int32.ofInt 0) (Int32.ofInt 0)  (in_w 0 32 (in_c 0 rfl) rfl) (m_in 33 (in_w 0 32 (in_c 0 rfl) rfl) rfl)))

/-- GraphHouseModel.jointsWith -/
theorem k_333 {Z : AmZ} {A : Nat → Nat} {s : GS} {ex : va_W} {d : Nat} {X : AmX} {x1 : Int32} {x2 : Int32} (hd : 3 ≤ d) (hI : Inv s)  : GC Z d 333 [.ref (A 109), .int x1, .int x2] (WW Z A s ++ ex) 0 0 (fun v u => ∃ z : Int32, v = some (.int z) ∧ u = WW Z A s ++ ex ∧ In z (-2147483648) 2147483647) X := by
  intro post xp hP hX
  have c5 : ∀ (k5 : Nat) (y5_1 : Int32) (y5_2 : Int32) (y5_3 : Int32) (y5_4 : Int32), In y5_4 0 160 → 160 - (y5_4).toInt < (k5 : Int) → GG Z (d - 1) 333 post xp (1 + k5 * 1801) 5 (fun j => xlook j [(0, .ref (A 109)), (1, .int y5_1), (2, .int y5_2), (3, .int y5_3), (4, .int y5_4)]) [] (WW Z A s ++ ex) 0 0 := by
    intro k5
    induction k5 with
    | zero => intro y5_1 y5_2 y5_3 y5_4 j5_4 m5; exact m_no m5 j5_4 rfl
    | succ k5 ih5 =>
      intro y5_1 y5_2 y5_3 y5_4 j5_4 m5
      refine gg_w (M := 1 + k5 * 1801 + 1801) (by omega) ?_
      have c88 : ∀ (y88_3 : Int32), In y5_4 0 159 → GG Z (d - 1) 333 post xp (1 + k5 * 1801 + 901) 88 (fun j => xlook j [(0, .ref (A 109)), (1, .int y5_1), (2, .int y5_2), (3, .int y88_3), (4, .int y5_4)]) [] (WW Z A s ++ ex) 0 0 := by
        intro y88_3 j88_4
        refine g_iinc 91 (gd rfl) rfl rfl (Nat.le_of_ble_eq_true rfl) (fun z1 e2 => ?_)
        have i3 := in_add 1 160 e2 j88_4 (in_c 1 rfl) rfl rfl
        refine g_goto 5 (gd rfl) rfl ?_
        exact gg_w (by omega) (gg_f (gf_cons rfl (gf_cons rfl (gf_cons rfl (gf_cons rfl (gf_cons rfl gf_nil))))) (ih5  y5_1 y5_2 y88_3 z1  (in_w 0 160 i3 rfl) (m_up m5 (t_add e2 j88_4 (in_c 1 rfl) rfl) (in_w 1 1 (in_c 1 rfl) rfl))))
      refine g_iload 7 (gd rfl) rfl rfl ?_
      refine g_sipush 160 10 (gd rfl) rfl rfl ?_
      refine g_cmp_ge 13 94 (gd rfl) rfl rfl (fun c4 => ?_) (fun c4 => ?_)
      · skip
        have i5 := r_le2 160 160 c4 (in_c 160 rfl) j5_4 rfl
        refine g_iload_n 95 (gd rfl) rfl rfl ?_
        exact g_ireturn (gd rfl) rfl rfl (hP _ _ ⟨y5_3, rfl, rfl, in_w (-2147483648) 2147483647 (i_rng y5_3) rfl⟩)
      · skip
        have i6 := r_lt1 0 159 c4 j5_4 (in_c 160 rfl) rfl
        refine g_aload_n 14 (gd rfl) rfl rfl ?_
        refine g_iload 16 (gd rfl) rfl rfl ?_
        refine g_callv (As := [.int y5_4]) (r := []) (b := A 109) (q := 109) 19 (gd rfl) rfl rfl rfl rfl rfl (ww_o rfl) (Nat.le_of_ble_eq_true rfl) (Nat.le_refl 0) (Nat.le_refl 0) (k_288 (by omega) hI (in_w 0 159 i6 rfl)) (fun v u h => ?_)
        obtain ⟨z7, rfl, rfl, i8⟩ := h
        show GG _ _ _ _ _ _ _ _ [.int z7] _ _ _
        refine g_if_eq 22 88 (gd rfl) rfl rfl (fun c9 => ?_) (fun c9 => ?_)
        · skip
          have i10 := z_eq 0 0 c9 i8 rfl
          exact gg_w (by omega) (gg_f (gf_cons rfl (gf_cons rfl (gf_cons rfl (gf_cons rfl (gf_cons rfl gf_nil))))) (c88  y5_3  (in_w 0 159 i6 rfl)))
        · skip
          have i11 := z_ne 1 1 c9 i8 rfl
          refine g_aload_n 23 (gd rfl) rfl rfl ?_
          refine g_getA (q2 := 113) 26 (gd rfl) rfl rfl rfl rfl rfl ?_
          refine g_aload_n 27 (gd rfl) rfl rfl ?_
          refine g_getI 30 (gd rfl) rfl rfl rfl (fun z12 e13 => ?_)
          have i14 := inv_F hI 0 160 rfl e13
          refine g_iload 32 (gd rfl) rfl rfl ?_
          refine g_iadd 33 (gd rfl) rfl (fun z15 e16 => ?_)
          have i17 := in_add 0 319 e16 i14 i6 rfl rfl
          refine g_iaload 34 (gd rfl) rfl (n := 480) rfl (in_ix i17 rfl) (fun z18 e19 => ?_)
          have i20 := inv_I hI (n := 480) (t := 0) 0 31 rfl (in_ix i17 rfl) rfl e19
          refine g_istore 36 (gd rfl) rfl (Nat.le_of_ble_eq_true rfl) ?_
          refine g_aload_n 37 (gd rfl) rfl rfl ?_
          refine g_getA (q2 := 114) 40 (gd rfl) rfl rfl rfl rfl rfl ?_
          refine g_aload_n 41 (gd rfl) rfl rfl ?_
          refine g_getI 44 (gd rfl) rfl rfl rfl (fun z21 e22 => ?_)
          have q23 : z12 = z21 := (e13).trans e22.symm
          subst q23
          refine g_iload 46 (gd rfl) rfl rfl ?_
          refine g_iadd 47 (gd rfl) rfl (fun z24 e25 => ?_)
          have i26 := in_add 0 319 e25 i14 i6 rfl rfl
          refine g_iaload 48 (gd rfl) rfl (n := 480) rfl (in_ix i26 rfl) (fun z27 e28 => ?_)
          have i29 := inv_I hI (n := 480) (t := 0) 0 31 rfl (in_ix i26 rfl) rfl e28
          refine g_istore 50 (gd rfl) rfl (Nat.le_of_ble_eq_true rfl) ?_
          refine g_iload_n 51 (gd rfl) rfl rfl ?_
          refine g_iload 53 (gd rfl) rfl rfl ?_
          refine g_iload_n 54 (gd rfl) rfl rfl ?_
          refine g_cmp_ne 57 66 (gd rfl) rfl rfl (fun c30 => ?_) (fun c30 => ?_)
          · skip
            refine g_iload 68 (gd rfl) rfl rfl ?_
            refine g_iload_n 69 (gd rfl) rfl rfl ?_
            refine g_cmp_ne 72 85 (gd rfl) rfl rfl (fun c31 => ?_) (fun c31 => ?_)
            · skip
              refine g_iconst 0 86 (gd rfl) rfl rfl ?_
              refine g_iadd 87 (gd rfl) rfl (fun z32 e33 => ?_)
              have i34 := in_add (-2147483648) 2147483647 e33 (i_rng y5_3) (in_c 0 rfl) rfl rfl
              refine g_istore_n 88 (gd rfl) rfl (Nat.le_of_ble_eq_true rfl) ?_
              exact gg_w (by omega) (gg_f (gf_cons rfl (gf_cons rfl (gf_cons rfl (gf_cons rfl (gf_cons rfl gf_nil))))) (c88  z32  (in_w 0 159 i6 rfl)))
            · skip
              have i35 := r_eq2 0 31 c31 i29 (i_rng y5_1) rfl
              refine g_iload_n 73 (gd rfl) rfl rfl ?_
              refine g_iload 75 (gd rfl) rfl rfl ?_
              refine g_calls (As := [.int y5_2, .int z18]) (r := [.int y5_3]) 78 (gd rfl) rfl rfl rfl rfl rfl (Nat.le_of_ble_eq_true rfl) (Nat.le_refl 0) (Nat.le_refl 0) (P := fun v u => _) ?_ (fun v u h => h)
              intro po36 xx37 hp38 hx39
              refine g_enter2 (k := 311) (N := 300) (by omega) rfl (Nat.le_of_ble_eq_true rfl) ?_
              refine g_iload_n 1 (gd rfl) rfl rfl ?_
              refine g_iload_n 2 (gd rfl) rfl rfl ?_
              refine g_ishr 3 (gd rfl) rfl (fun z40 e41 => ?_)
              refine g_iconst 1 4 (gd rfl) rfl rfl ?_
              refine g_iand 5 (gd rfl) rfl (fun z42 e43 => ?_)
              have i44 := in_and2 e43 (in_c 1 rfl) rfl
              refine g_iconst 1 6 (gd rfl) rfl rfl ?_
              refine g_cmp_ne 9 13 (gd rfl) rfl rfl (fun c45 => ?_) (fun c45 => ?_)
              · skip
                have i46 := r_ne1 0 0 c45 i44 (in_c 1 rfl) rfl
                refine g_iconst 0 14 (gd rfl) rfl rfl ?_
                refine g_ireturn (gd rfl) rfl (nb01 (in_w 0 1 (in_c 0 rfl) rfl)) (hp38 _ _ ?_)
                show GG _ _ _ _ _ _ _ _ [.int (Int32.ofInt 0), .int y5_3] _ _ _
                refine g_if_eq 81 85 (gd rfl) rfl rfl (fun c47 => ?_) (fun c47 => ?_)
                · skip
                  refine g_iconst 0 86 (gd rfl) rfl rfl ?_
                  refine g_iadd 87 (gd rfl) rfl (fun z48 e49 => ?_)
                  have i50 := in_add (-2147483648) 2147483647 e49 (i_rng y5_3) (in_c 0 rfl) rfl rfl
                  refine g_istore_n 88 (gd rfl) rfl (Nat.le_of_ble_eq_true rfl) ?_
                  exact gg_w (by omega) (gg_f (gf_cons rfl (gf_cons rfl (gf_cons rfl (gf_cons rfl (gf_cons rfl gf_nil))))) (c88  z48  (in_w 0 159 i6 rfl)))
                · skip
                  exact zn_ne c47 (in_c 0 rfl) rfl
              · skip
                have i51 := r_eq1 1 1 c45 i44 (in_c 1 rfl) rfl
                refine g_iconst 1 10 (gd rfl) rfl rfl ?_
                refine g_goto 14 (gd rfl) rfl ?_
                refine g_ireturn (gd rfl) rfl (nb01 (in_w 0 1 (in_c 1 rfl) rfl)) (hp38 _ _ ?_)
                show GG _ _ _ _ _ _ _ _ [.int (Int32.ofInt 1), .int y5_3] _ _ _
                refine g_if_eq 81 85 (gd rfl) rfl rfl (fun c52 => ?_) (fun c52 => ?_)
                · skip
                  exact zn_eq c52 (in_c 1 rfl) rfl
                · skip
                  refine g_iconst 1 82 (gd rfl) rfl rfl ?_
                  refine g_goto 86 (gd rfl) rfl ?_
                  refine g_iadd 87 (gd rfl) rfl (fun z53 e54 => ?_)
                  refine g_istore_n 88 (gd rfl) rfl (Nat.le_of_ble_eq_true rfl) ?_
                  exact gg_w (by omega) (gg_f (gf_cons rfl (gf_cons rfl (gf_cons rfl (gf_cons rfl (gf_cons rfl gf_nil))))) (c88  z53  (in_w 0 159 i6 rfl)))
          · skip
            have i55 := r_eq2 0 31 c30 i20 (i_rng y5_1) rfl
            refine g_iload_n 58 (gd rfl) rfl rfl ?_
            refine g_iload 60 (gd rfl) rfl rfl ?_
            refine g_calls (As := [.int y5_2, .int z27]) (r := [.int y5_3]) 63 (gd rfl) rfl rfl rfl rfl rfl (Nat.le_of_ble_eq_true rfl) (Nat.le_refl 0) (Nat.le_refl 0) (P := fun v u => _) ?_ (fun v u h => h)
            intro po56 xx57 hp58 hx59
            refine g_enter2 (k := 311) (N := 300) (by omega) rfl (Nat.le_of_ble_eq_true rfl) ?_
            refine g_iload_n 1 (gd rfl) rfl rfl ?_
            refine g_iload_n 2 (gd rfl) rfl rfl ?_
            refine g_ishr 3 (gd rfl) rfl (fun z60 e61 => ?_)
            refine g_iconst 1 4 (gd rfl) rfl rfl ?_
            refine g_iand 5 (gd rfl) rfl (fun z62 e63 => ?_)
            have i64 := in_and2 e63 (in_c 1 rfl) rfl
            refine g_iconst 1 6 (gd rfl) rfl rfl ?_
            refine g_cmp_ne 9 13 (gd rfl) rfl rfl (fun c65 => ?_) (fun c65 => ?_)
            · skip
              have i66 := r_ne1 0 0 c65 i64 (in_c 1 rfl) rfl
              refine g_iconst 0 14 (gd rfl) rfl rfl ?_
              refine g_ireturn (gd rfl) rfl (nb01 (in_w 0 1 (in_c 0 rfl) rfl)) (hp58 _ _ ?_)
              show GG _ _ _ _ _ _ _ _ [.int (Int32.ofInt 0), .int y5_3] _ _ _
              refine g_if_ne 66 81 (gd rfl) rfl rfl (fun c67 => ?_) (fun c67 => ?_)
              · skip
                exact zn_ne c67 (in_c 0 rfl) rfl
              · skip
                refine g_iload 68 (gd rfl) rfl rfl ?_
                refine g_iload_n 69 (gd rfl) rfl rfl ?_
                refine g_cmp_ne 72 85 (gd rfl) rfl rfl (fun c68 => ?_) (fun c68 => ?_)
                · skip
                  refine g_iconst 0 86 (gd rfl) rfl rfl ?_
                  refine g_iadd 87 (gd rfl) rfl (fun z69 e70 => ?_)
                  have i71 := in_add (-2147483648) 2147483647 e70 (i_rng y5_3) (in_c 0 rfl) rfl rfl
                  refine g_istore_n 88 (gd rfl) rfl (Nat.le_of_ble_eq_true rfl) ?_
                  exact gg_w (by omega) (gg_f (gf_cons rfl (gf_cons rfl (gf_cons rfl (gf_cons rfl (gf_cons rfl gf_nil))))) (c88  z69  (in_w 0 159 i6 rfl)))
                · skip
                  refine g_iload_n 73 (gd rfl) rfl rfl ?_
                  refine g_iload 75 (gd rfl) rfl rfl ?_
                  refine g_calls (As := [.int y5_2, .int z18]) (r := [.int y5_3]) 78 (gd rfl) rfl rfl rfl rfl rfl (Nat.le_of_ble_eq_true rfl) (Nat.le_refl 0) (Nat.le_refl 0) (P := fun v u => _) ?_ (fun v u h => h)
                  intro po72 xx73 hp74 hx75
                  refine g_enter2 (k := 311) (N := 300) (by omega) rfl (Nat.le_of_ble_eq_true rfl) ?_
                  refine g_iload_n 1 (gd rfl) rfl rfl ?_
                  refine g_iload_n 2 (gd rfl) rfl rfl ?_
                  refine g_ishr 3 (gd rfl) rfl (fun z76 e77 => ?_)
                  refine g_iconst 1 4 (gd rfl) rfl rfl ?_
                  refine g_iand 5 (gd rfl) rfl (fun z78 e79 => ?_)
                  have i80 := in_and2 e79 (in_c 1 rfl) rfl
                  refine g_iconst 1 6 (gd rfl) rfl rfl ?_
                  refine g_cmp_ne 9 13 (gd rfl) rfl rfl (fun c81 => ?_) (fun c81 => ?_)
                  · skip
                    have i82 := r_ne1 0 0 c81 i80 (in_c 1 rfl) rfl
                    refine g_iconst 0 14 (gd rfl) rfl rfl ?_
                    refine g_ireturn (gd rfl) rfl (nb01 (in_w 0 1 (in_c 0 rfl) rfl)) (hp74 _ _ ?_)
                    show GG _ _ _ _ _ _ _ _ [.int (Int32.ofInt 0), .int y5_3] _ _ _
                    refine g_if_eq 81 85 (gd rfl) rfl rfl (fun c83 => ?_) (fun c83 => ?_)
                    · skip
                      refine g_iconst 0 86 (gd rfl) rfl rfl ?_
                      refine g_iadd 87 (gd rfl) rfl (fun z84 e85 => ?_)
                      have i86 := in_add (-2147483648) 2147483647 e85 (i_rng y5_3) (in_c 0 rfl) rfl rfl
                      refine g_istore_n 88 (gd rfl) rfl (Nat.le_of_ble_eq_true rfl) ?_
                      exact gg_w (by omega) (gg_f (gf_cons rfl (gf_cons rfl (gf_cons rfl (gf_cons rfl (gf_cons rfl gf_nil))))) (c88  z84  (in_w 0 159 i6 rfl)))
                    · skip
                      exact zn_ne c83 (in_c 0 rfl) rfl
                  · skip
                    have i87 := r_eq1 1 1 c81 i80 (in_c 1 rfl) rfl
                    refine g_iconst 1 10 (gd rfl) rfl rfl ?_
                    refine g_goto 14 (gd rfl) rfl ?_
                    refine g_ireturn (gd rfl) rfl (nb01 (in_w 0 1 (in_c 1 rfl) rfl)) (hp74 _ _ ?_)
                    show GG _ _ _ _ _ _ _ _ [.int (Int32.ofInt 1), .int y5_3] _ _ _
                    refine g_if_eq 81 85 (gd rfl) rfl rfl (fun c88 => ?_) (fun c88 => ?_)
                    · skip
                      exact zn_eq c88 (in_c 1 rfl) rfl
                    · skip
                      refine g_iconst 1 82 (gd rfl) rfl rfl ?_
                      refine g_goto 86 (gd rfl) rfl ?_
                      refine g_iadd 87 (gd rfl) rfl (fun z89 e90 => ?_)
                      refine g_istore_n 88 (gd rfl) rfl (Nat.le_of_ble_eq_true rfl) ?_
                      exact gg_w (by omega) (gg_f (gf_cons rfl (gf_cons rfl (gf_cons rfl (gf_cons rfl (gf_cons rfl gf_nil))))) (c88  z89  (in_w 0 159 i6 rfl)))
            · skip
              have i91 := r_eq1 1 1 c65 i64 (in_c 1 rfl) rfl
              refine g_iconst 1 10 (gd rfl) rfl rfl ?_
              refine g_goto 14 (gd rfl) rfl ?_
              refine g_ireturn (gd rfl) rfl (nb01 (in_w 0 1 (in_c 1 rfl) rfl)) (hp58 _ _ ?_)
              show GG _ _ _ _ _ _ _ _ [.int (Int32.ofInt 1), .int y5_3] _ _ _
              refine g_if_ne 66 81 (gd rfl) rfl rfl (fun c92 => ?_) (fun c92 => ?_)
              · skip
                refine g_iconst 1 82 (gd rfl) rfl rfl ?_
                refine g_goto 86 (gd rfl) rfl ?_
                refine g_iadd 87 (gd rfl) rfl (fun z93 e94 => ?_)
                refine g_istore_n 88 (gd rfl) rfl (Nat.le_of_ble_eq_true rfl) ?_
                exact gg_w (by omega) (gg_f (gf_cons rfl (gf_cons rfl (gf_cons rfl (gf_cons rfl (gf_cons rfl gf_nil))))) (c88  z93  (in_w 0 159 i6 rfl)))
              · skip
                exact zn_eq c92 (in_c 1 rfl) rfl
  refine g_enter2 (k := 333) (N := 290862) (by omega) rfl (Nat.le_of_ble_eq_true rfl) ?_
  refine g_iconst 0 1 (gd rfl) rfl rfl ?_
  refine g_istore_n 2 (gd rfl) rfl (Nat.le_of_ble_eq_true rfl) ?_
  refine g_iconst 0 3 (gd rfl) rfl rfl ?_
  refine g_istore 5 (gd rfl) rfl (Nat.le_of_ble_eq_true rfl) ?_
  exact gg_w (by omega) (gg_f (gf_cons rfl (gf_cons rfl (gf_cons rfl (gf_cons rfl (gf_cons rfl gf_nil))))) (c5 161  x1 x2 (Int32.ofInt 0) (Int32.ofInt 0)  (in_w 0 160 (in_c 0 rfl) rfl) (m_in 161 (in_w 0 160 (in_c 0 rfl) rfl) rfl)))

/-- GraphHouseModel.size -/
theorem k_289 {Z : AmZ} {A : Nat → Nat} {s : GS} {ex : va_W} {d : Nat} {X : AmX} {x1 : Int32} (hd : 4 ≤ d) (hI : Inv s)  : GC Z d 289 [.ref (A 109), .int x1] (WW Z A s ++ ex) 0 0 (fun v u => ∃ t : GS, Inv t ∧ ∃ z : Int32, v = some (.int z) ∧ u = WW Z A t ++ ex ∧ In z (-2147483648) 2147483647) X := by
  intro post xp hP hX
  have c28 : ∀ (k28 : Nat) (s : GS) (y28_1 : Int32) (y28_2 : Int32) (y28_3 : Int32) (y28_4 : Int32) (y28_5 : Int32), Inv s → In y28_1 0 3 → In y28_4 (-1) 159 → In y28_5 0 160 → 160 - (y28_5).toInt < (k28 : Int) → GG Z (d - 1) 289 post xp (1 + k28 * 900) 28 (fun j => xlook j [(0, .ref (A 109)), (1, .int y28_1), (2, .int y28_2), (3, .int y28_3), (4, .int y28_4), (5, .int y28_5)]) [] (WW Z A s ++ ex) 0 0 := by
    intro k28
    induction k28 with
    | zero => intro s y28_1 y28_2 y28_3 y28_4 y28_5 hI j28_1 j28_4 j28_5 m28; exact m_no m28 j28_5 rfl
    | succ k28 ih28 =>
      intro s y28_1 y28_2 y28_3 y28_4 y28_5 hI j28_1 j28_4 j28_5 m28
      refine gg_w (M := 1 + k28 * 900 + 900) (by omega) ?_
      refine g_iload 30 (gd rfl) rfl rfl ?_
      refine g_sipush 160 33 (gd rfl) rfl rfl ?_
      refine g_cmp_ge 36 106 (gd rfl) rfl rfl (fun c1 => ?_) (fun c1 => ?_)
      · skip
        have i2 := r_le2 160 160 c1 (in_c 160 rfl) j28_5 rfl
        refine g_iload_n 107 (gd rfl) rfl rfl ?_
        refine g_if_ne 110 117 (gd rfl) rfl rfl (fun c3 => ?_) (fun c3 => ?_)
        · skip
          have i4 := z_ne 1 3 c3 j28_1 rfl
          refine g_iload_n 118 (gd rfl) rfl rfl ?_
          refine g_iconst 1 119 (gd rfl) rfl rfl ?_
          refine g_cmp_ne 122 126 (gd rfl) rfl rfl (fun c5 => ?_) (fun c5 => ?_)
          · skip
            have i6 := r_ne1 2 3 c5 i4 (in_c 1 rfl) rfl
            refine g_iload_n 127 (gd rfl) rfl rfl ?_
            refine g_iconst 2 128 (gd rfl) rfl rfl ?_
            refine g_cmp_ne 131 135 (gd rfl) rfl rfl (fun c7 => ?_) (fun c7 => ?_)
            · skip
              have i8 := r_ne1 3 3 c7 i6 (in_c 2 rfl) rfl
              refine g_iload 137 (gd rfl) rfl rfl ?_
              exact g_ireturn (gd rfl) rfl rfl (hP _ _ ⟨_, hI, y28_4, rfl, rfl, in_w (-2147483648) 2147483647 j28_4 rfl⟩)
            · skip
              have i9 := r_eq1 2 2 c7 i6 (in_c 2 rfl) rfl
              refine g_iload_n 132 (gd rfl) rfl rfl ?_
              refine g_goto 137 (gd rfl) rfl ?_
              exact g_ireturn (gd rfl) rfl rfl (hP _ _ ⟨_, hI, y28_3, rfl, rfl, in_w (-2147483648) 2147483647 (i_rng y28_3) rfl⟩)
          · skip
            have i10 := r_eq1 1 1 c5 i4 (in_c 1 rfl) rfl
            refine g_iload_n 123 (gd rfl) rfl rfl ?_
            refine g_goto 137 (gd rfl) rfl ?_
            exact g_ireturn (gd rfl) rfl rfl (hP _ _ ⟨_, hI, y28_2, rfl, rfl, in_w (-2147483648) 2147483647 (i_rng y28_2) rfl⟩)
        · skip
          have i11 := z_eq 0 0 c3 j28_1 rfl
          refine g_aload_n 111 (gd rfl) rfl rfl ?_
          refine g_getI 114 (gd rfl) rfl rfl rfl (fun z12 e13 => ?_)
          have i14 := inv_F hI 0 32 rfl e13
          refine g_goto 137 (gd rfl) rfl ?_
          exact g_ireturn (gd rfl) rfl rfl (hP _ _ ⟨_, hI, z12, rfl, rfl, in_w (-2147483648) 2147483647 i14 rfl⟩)
      · skip
        have i15 := r_lt1 0 159 c1 j28_5 (in_c 160 rfl) rfl
        refine g_iload_n 37 (gd rfl) rfl rfl ?_
        refine g_aload_n 38 (gd rfl) rfl rfl ?_
        refine g_getA (q2 := 112) 41 (gd rfl) rfl rfl rfl rfl rfl ?_
        refine g_aload_n 42 (gd rfl) rfl rfl ?_
        refine g_getI 45 (gd rfl) rfl rfl rfl (fun z16 e17 => ?_)
        have i18 := inv_F hI 0 160 rfl e17
        refine g_iload 47 (gd rfl) rfl rfl ?_
        refine g_iadd 48 (gd rfl) rfl (fun z19 e20 => ?_)
        have i21 := in_add 0 319 e20 i18 i15 rfl rfl
        refine g_baload 49 (gd rfl) rfl (n := 480) rfl (in_ix i21 rfl) (fun z22 e23 => ?_)
        have i24 := inv_I hI (n := 480) (t := 3) 0 1 rfl (in_ix i21 rfl) rfl e23
        refine g_if_eq 52 56 (gd rfl) rfl rfl (fun c25 => ?_) (fun c25 => ?_)
        · skip
          have i26 := z_eq 0 0 c25 i24 rfl
          refine g_iconst 0 57 (gd rfl) rfl rfl ?_
          refine g_iadd 58 (gd rfl) rfl (fun z27 e28 => ?_)
          have i29 := in_add (-2147483648) 2147483647 e28 (i_rng y28_2) (in_c 0 rfl) rfl rfl
          refine g_istore_n 59 (gd rfl) rfl (Nat.le_of_ble_eq_true rfl) ?_
          refine g_iload_n 60 (gd rfl) rfl rfl ?_
          refine g_aload_n 61 (gd rfl) rfl rfl ?_
          refine g_iload 63 (gd rfl) rfl rfl ?_
          refine g_callv (As := [.int y28_5]) (r := [.int y28_3]) (b := A 109) (q := 109) 66 (gd rfl) rfl rfl rfl rfl rfl (ww_o rfl) (Nat.le_of_ble_eq_true rfl) (Nat.le_refl 0) (Nat.le_refl 0) (k_288 (by omega) hI (in_w 0 159 i15 rfl)) (fun v u h => ?_)
          obtain ⟨z30, rfl, rfl, i31⟩ := h
          show GG _ _ _ _ _ _ _ _ [.int z30, .int y28_3] _ _ _
          refine g_if_eq 69 73 (gd rfl) rfl rfl (fun c32 => ?_) (fun c32 => ?_)
          · skip
            have i33 := z_eq 0 0 c32 i31 rfl
            refine g_iconst 0 74 (gd rfl) rfl rfl ?_
            refine g_iadd 75 (gd rfl) rfl (fun z34 e35 => ?_)
            have i36 := in_add (-2147483648) 2147483647 e35 (i_rng y28_3) (in_c 0 rfl) rfl rfl
            refine g_istore_n 76 (gd rfl) rfl (Nat.le_of_ble_eq_true rfl) ?_
            refine g_aload_n 77 (gd rfl) rfl rfl ?_
            refine g_getA (q2 := 112) 80 (gd rfl) rfl rfl rfl rfl rfl ?_
            refine g_aload_n 81 (gd rfl) rfl rfl ?_
            refine g_getI 84 (gd rfl) rfl rfl rfl (fun z37 e38 => ?_)
            have q39 : z16 = z37 := (e17).trans e38.symm
            subst q39
            refine g_iload 86 (gd rfl) rfl rfl ?_
            refine g_iadd 87 (gd rfl) rfl (fun z40 e41 => ?_)
            have i42 := in_add 0 319 e41 i18 i15 rfl rfl
            refine g_baload 88 (gd rfl) rfl (n := 480) rfl (in_ix i42 rfl) (fun z43 e44 => ?_)
            have i45 := inv_I hI (n := 480) (t := 3) 0 1 rfl (in_ix i42 rfl) rfl e44
            refine g_if_eq 91 96 (gd rfl) rfl rfl (fun c46 => ?_) (fun c46 => ?_)
            · skip
              have i47 := z_eq 0 0 c46 i45 rfl
              refine g_iload 98 (gd rfl) rfl rfl ?_
              refine g_istore 100 (gd rfl) rfl (Nat.le_of_ble_eq_true rfl) ?_
              refine g_iinc 103 (gd rfl) rfl rfl (Nat.le_of_ble_eq_true rfl) (fun z48 e49 => ?_)
              have i50 := in_add 1 160 e49 i15 (in_c 1 rfl) rfl rfl
              refine g_goto 28 (gd rfl) rfl ?_
              exact gg_w (by omega) (gg_f (gf_cons rfl (gf_cons rfl (gf_cons rfl (gf_cons rfl (gf_cons rfl (gf_cons rfl gf_nil)))))) (ih28 s y28_1 z27 z34 y28_4 z48 hI (in_w 0 3 j28_1 rfl) (in_w (-1) 159 j28_4 rfl) (in_w 0 160 i50 rfl) (m_up m28 (t_add e49 i15 (in_c 1 rfl) rfl) (in_w 1 1 (in_c 1 rfl) rfl))))
            · skip
              have i51 := z_ne 1 1 c46 i45 rfl
              refine g_iload 93 (gd rfl) rfl rfl ?_
              refine g_goto 98 (gd rfl) rfl ?_
              refine g_istore 100 (gd rfl) rfl (Nat.le_of_ble_eq_true rfl) ?_
              refine g_iinc 103 (gd rfl) rfl rfl (Nat.le_of_ble_eq_true rfl) (fun z52 e53 => ?_)
              have i54 := in_add 1 160 e53 i15 (in_c 1 rfl) rfl rfl
              refine g_goto 28 (gd rfl) rfl ?_
              exact gg_w (by omega) (gg_f (gf_cons rfl (gf_cons rfl (gf_cons rfl (gf_cons rfl (gf_cons rfl (gf_cons rfl gf_nil)))))) (ih28 s y28_1 z27 z34 y28_5 z52 hI (in_w 0 3 j28_1 rfl) (in_w (-1) 159 i15 rfl) (in_w 0 160 i54 rfl) (m_up m28 (t_add e53 i15 (in_c 1 rfl) rfl) (in_w 1 1 (in_c 1 rfl) rfl))))
          · skip
            have i55 := z_ne 1 1 c32 i31 rfl
            refine g_iconst 1 70 (gd rfl) rfl rfl ?_
            refine g_goto 74 (gd rfl) rfl ?_
            refine g_iadd 75 (gd rfl) rfl (fun z56 e57 => ?_)
            refine g_istore_n 76 (gd rfl) rfl (Nat.le_of_ble_eq_true rfl) ?_
            refine g_aload_n 77 (gd rfl) rfl rfl ?_
            refine g_getA (q2 := 112) 80 (gd rfl) rfl rfl rfl rfl rfl ?_
            refine g_aload_n 81 (gd rfl) rfl rfl ?_
            refine g_getI 84 (gd rfl) rfl rfl rfl (fun z58 e59 => ?_)
            have q60 : z16 = z58 := (e17).trans e59.symm
            subst q60
            refine g_iload 86 (gd rfl) rfl rfl ?_
            refine g_iadd 87 (gd rfl) rfl (fun z61 e62 => ?_)
            have i63 := in_add 0 319 e62 i18 i15 rfl rfl
            refine g_baload 88 (gd rfl) rfl (n := 480) rfl (in_ix i63 rfl) (fun z64 e65 => ?_)
            have i66 := inv_I hI (n := 480) (t := 3) 0 1 rfl (in_ix i63 rfl) rfl e65
            refine g_if_eq 91 96 (gd rfl) rfl rfl (fun c67 => ?_) (fun c67 => ?_)
            · skip
              have i68 := z_eq 0 0 c67 i66 rfl
              refine g_iload 98 (gd rfl) rfl rfl ?_
              refine g_istore 100 (gd rfl) rfl (Nat.le_of_ble_eq_true rfl) ?_
              refine g_iinc 103 (gd rfl) rfl rfl (Nat.le_of_ble_eq_true rfl) (fun z69 e70 => ?_)
              have i71 := in_add 1 160 e70 i15 (in_c 1 rfl) rfl rfl
              refine g_goto 28 (gd rfl) rfl ?_
              exact gg_w (by omega) (gg_f (gf_cons rfl (gf_cons rfl (gf_cons rfl (gf_cons rfl (gf_cons rfl (gf_cons rfl gf_nil)))))) (ih28 s y28_1 z27 z56 y28_4 z69 hI (in_w 0 3 j28_1 rfl) (in_w (-1) 159 j28_4 rfl) (in_w 0 160 i71 rfl) (m_up m28 (t_add e70 i15 (in_c 1 rfl) rfl) (in_w 1 1 (in_c 1 rfl) rfl))))
            · skip
              have i72 := z_ne 1 1 c67 i66 rfl
              refine g_iload 93 (gd rfl) rfl rfl ?_
              refine g_goto 98 (gd rfl) rfl ?_
              refine g_istore 100 (gd rfl) rfl (Nat.le_of_ble_eq_true rfl) ?_
              refine g_iinc 103 (gd rfl) rfl rfl (Nat.le_of_ble_eq_true rfl) (fun z73 e74 => ?_)
              have i75 := in_add 1 160 e74 i15 (in_c 1 rfl) rfl rfl
              refine g_goto 28 (gd rfl) rfl ?_
              exact gg_w (by omega) (gg_f (gf_cons rfl (gf_cons rfl (gf_cons rfl (gf_cons rfl (gf_cons rfl (gf_cons rfl gf_nil)))))) (ih28 s y28_1 z27 z56 y28_5 z73 hI (in_w 0 3 j28_1 rfl) (in_w (-1) 159 i15 rfl) (in_w 0 160 i75 rfl) (m_up m28 (t_add e74 i15 (in_c 1 rfl) rfl) (in_w 1 1 (in_c 1 rfl) rfl))))
        · skip
          have i76 := z_ne 1 1 c25 i24 rfl
          refine g_iconst 1 53 (gd rfl) rfl rfl ?_
          refine g_goto 57 (gd rfl) rfl ?_
          refine g_iadd 58 (gd rfl) rfl (fun z77 e78 => ?_)
          refine g_istore_n 59 (gd rfl) rfl (Nat.le_of_ble_eq_true rfl) ?_
          refine g_iload_n 60 (gd rfl) rfl rfl ?_
          refine g_aload_n 61 (gd rfl) rfl rfl ?_
          refine g_iload 63 (gd rfl) rfl rfl ?_
          refine g_callv (As := [.int y28_5]) (r := [.int y28_3]) (b := A 109) (q := 109) 66 (gd rfl) rfl rfl rfl rfl rfl (ww_o rfl) (Nat.le_of_ble_eq_true rfl) (Nat.le_refl 0) (Nat.le_refl 0) (k_288 (by omega) hI (in_w 0 159 i15 rfl)) (fun v u h => ?_)
          obtain ⟨z79, rfl, rfl, i80⟩ := h
          show GG _ _ _ _ _ _ _ _ [.int z79, .int y28_3] _ _ _
          refine g_if_eq 69 73 (gd rfl) rfl rfl (fun c81 => ?_) (fun c81 => ?_)
          · skip
            have i82 := z_eq 0 0 c81 i80 rfl
            refine g_iconst 0 74 (gd rfl) rfl rfl ?_
            refine g_iadd 75 (gd rfl) rfl (fun z83 e84 => ?_)
            have i85 := in_add (-2147483648) 2147483647 e84 (i_rng y28_3) (in_c 0 rfl) rfl rfl
            refine g_istore_n 76 (gd rfl) rfl (Nat.le_of_ble_eq_true rfl) ?_
            refine g_aload_n 77 (gd rfl) rfl rfl ?_
            refine g_getA (q2 := 112) 80 (gd rfl) rfl rfl rfl rfl rfl ?_
            refine g_aload_n 81 (gd rfl) rfl rfl ?_
            refine g_getI 84 (gd rfl) rfl rfl rfl (fun z86 e87 => ?_)
            have q88 : z16 = z86 := (e17).trans e87.symm
            subst q88
            refine g_iload 86 (gd rfl) rfl rfl ?_
            refine g_iadd 87 (gd rfl) rfl (fun z89 e90 => ?_)
            have i91 := in_add 0 319 e90 i18 i15 rfl rfl
            refine g_baload 88 (gd rfl) rfl (n := 480) rfl (in_ix i91 rfl) (fun z92 e93 => ?_)
            have i94 := inv_I hI (n := 480) (t := 3) 0 1 rfl (in_ix i91 rfl) rfl e93
            refine g_if_eq 91 96 (gd rfl) rfl rfl (fun c95 => ?_) (fun c95 => ?_)
            · skip
              have i96 := z_eq 0 0 c95 i94 rfl
              refine g_iload 98 (gd rfl) rfl rfl ?_
              refine g_istore 100 (gd rfl) rfl (Nat.le_of_ble_eq_true rfl) ?_
              refine g_iinc 103 (gd rfl) rfl rfl (Nat.le_of_ble_eq_true rfl) (fun z97 e98 => ?_)
              have i99 := in_add 1 160 e98 i15 (in_c 1 rfl) rfl rfl
              refine g_goto 28 (gd rfl) rfl ?_
              exact gg_w (by omega) (gg_f (gf_cons rfl (gf_cons rfl (gf_cons rfl (gf_cons rfl (gf_cons rfl (gf_cons rfl gf_nil)))))) (ih28 s y28_1 z77 z83 y28_4 z97 hI (in_w 0 3 j28_1 rfl) (in_w (-1) 159 j28_4 rfl) (in_w 0 160 i99 rfl) (m_up m28 (t_add e98 i15 (in_c 1 rfl) rfl) (in_w 1 1 (in_c 1 rfl) rfl))))
            · skip
              have i100 := z_ne 1 1 c95 i94 rfl
              refine g_iload 93 (gd rfl) rfl rfl ?_
              refine g_goto 98 (gd rfl) rfl ?_
              refine g_istore 100 (gd rfl) rfl (Nat.le_of_ble_eq_true rfl) ?_
              refine g_iinc 103 (gd rfl) rfl rfl (Nat.le_of_ble_eq_true rfl) (fun z101 e102 => ?_)
              have i103 := in_add 1 160 e102 i15 (in_c 1 rfl) rfl rfl
              refine g_goto 28 (gd rfl) rfl ?_
              exact gg_w (by omega) (gg_f (gf_cons rfl (gf_cons rfl (gf_cons rfl (gf_cons rfl (gf_cons rfl (gf_cons rfl gf_nil)))))) (ih28 s y28_1 z77 z83 y28_5 z101 hI (in_w 0 3 j28_1 rfl) (in_w (-1) 159 i15 rfl) (in_w 0 160 i103 rfl) (m_up m28 (t_add e102 i15 (in_c 1 rfl) rfl) (in_w 1 1 (in_c 1 rfl) rfl))))
          · skip
            have i104 := z_ne 1 1 c81 i80 rfl
            refine g_iconst 1 70 (gd rfl) rfl rfl ?_
            refine g_goto 74 (gd rfl) rfl ?_
            refine g_iadd 75 (gd rfl) rfl (fun z105 e106 => ?_)
            refine g_istore_n 76 (gd rfl) rfl (Nat.le_of_ble_eq_true rfl) ?_
            refine g_aload_n 77 (gd rfl) rfl rfl ?_
            refine g_getA (q2 := 112) 80 (gd rfl) rfl rfl rfl rfl rfl ?_
            refine g_aload_n 81 (gd rfl) rfl rfl ?_
            refine g_getI 84 (gd rfl) rfl rfl rfl (fun z107 e108 => ?_)
            have q109 : z16 = z107 := (e17).trans e108.symm
            subst q109
            refine g_iload 86 (gd rfl) rfl rfl ?_
            refine g_iadd 87 (gd rfl) rfl (fun z110 e111 => ?_)
            have i112 := in_add 0 319 e111 i18 i15 rfl rfl
            refine g_baload 88 (gd rfl) rfl (n := 480) rfl (in_ix i112 rfl) (fun z113 e114 => ?_)
            have i115 := inv_I hI (n := 480) (t := 3) 0 1 rfl (in_ix i112 rfl) rfl e114
            refine g_if_eq 91 96 (gd rfl) rfl rfl (fun c116 => ?_) (fun c116 => ?_)
            · skip
              have i117 := z_eq 0 0 c116 i115 rfl
              refine g_iload 98 (gd rfl) rfl rfl ?_
              refine g_istore 100 (gd rfl) rfl (Nat.le_of_ble_eq_true rfl) ?_
              refine g_iinc 103 (gd rfl) rfl rfl (Nat.le_of_ble_eq_true rfl) (fun z118 e119 => ?_)
              have i120 := in_add 1 160 e119 i15 (in_c 1 rfl) rfl rfl
              refine g_goto 28 (gd rfl) rfl ?_
              exact gg_w (by omega) (gg_f (gf_cons rfl (gf_cons rfl (gf_cons rfl (gf_cons rfl (gf_cons rfl (gf_cons rfl gf_nil)))))) (ih28 s y28_1 z77 z105 y28_4 z118 hI (in_w 0 3 j28_1 rfl) (in_w (-1) 159 j28_4 rfl) (in_w 0 160 i120 rfl) (m_up m28 (t_add e119 i15 (in_c 1 rfl) rfl) (in_w 1 1 (in_c 1 rfl) rfl))))
            · skip
              have i121 := z_ne 1 1 c116 i115 rfl
              refine g_iload 93 (gd rfl) rfl rfl ?_
              refine g_goto 98 (gd rfl) rfl ?_
              refine g_istore 100 (gd rfl) rfl (Nat.le_of_ble_eq_true rfl) ?_
              refine g_iinc 103 (gd rfl) rfl rfl (Nat.le_of_ble_eq_true rfl) (fun z122 e123 => ?_)
              have i124 := in_add 1 160 e123 i15 (in_c 1 rfl) rfl rfl
              refine g_goto 28 (gd rfl) rfl ?_
              exact gg_w (by omega) (gg_f (gf_cons rfl (gf_cons rfl (gf_cons rfl (gf_cons rfl (gf_cons rfl (gf_cons rfl gf_nil)))))) (ih28 s y28_1 z77 z105 y28_5 z122 hI (in_w 0 3 j28_1 rfl) (in_w (-1) 159 i15 rfl) (in_w 0 160 i124 rfl) (m_up m28 (t_add e123 i15 (in_c 1 rfl) rfl) (in_w 1 1 (in_c 1 rfl) rfl))))
  refine g_enter2 (k := 289) (N := 145801) (by omega) rfl (Nat.le_of_ble_eq_true rfl) ?_
  refine g_aload_n 1 (gd rfl) rfl rfl ?_
  refine g_iload_n 2 (gd rfl) rfl rfl ?_
  refine g_i2l 3 (gd rfl) rfl (fun z125 e126 => ?_)
  have i127 := l_i e126 (i_rng x1)
  refine g_lconst 0 4 (gd rfl) rfl rfl ?_
  refine g_ldc2_w 3 7 (gd rfl) rfl rfl ?_
  refine g_calls (As := [.long z125, .long (Int64.ofInt 0), .long (Int64.ofInt 3)]) (r := [.ref (A 109)]) 10 (gd rfl) rfl rfl rfl rfl rfl (Nat.le_of_ble_eq_true rfl) (Nat.le_refl 0) (Nat.le_refl 0) (P := fun v u => _) ?_ (fun v u h => h)
  intro po128 xx129 hp130 hx131
  refine g_enter2 (k := 269) (N := 300) (by omega) rfl (Nat.le_of_ble_eq_true rfl) ?_
  refine g_lload_n 1 (gd rfl) rfl rfl ?_
  refine g_lload_n 2 (gd rfl) rfl rfl ?_
  refine g_lcmp 3 (gd rfl) rfl (fun z132 e133 => ?_)
  have i134 := lc_in e133
  refine g_if_lt 6 17 (gd rfl) rfl rfl (fun c135 => ?_) (fun c135 => ?_)
  · skip
    have i136 := z_lt (-1) (-1) c135 i134 rfl
    have c137 := lc_lt e133 c135
    have i138 := lr_lt1 (-2147483648) (-1) c137 i127 (l_c 0 rfl) rfl
    have i139 := l_b e126 i138
    refine g_iconst 0 18 (gd rfl) rfl rfl ?_
    refine g_ireturn (gd rfl) rfl (nb01 (in_w 0 1 (in_c 0 rfl) rfl)) (hp130 _ _ ?_)
    show GG _ _ _ _ _ _ _ _ [.int (Int32.ofInt 0), .ref (A 109)] _ _ _
    refine g_callv (As := [.int (Int32.ofInt 0)]) (r := []) (b := A 109) (q := 109) 13 (gd rfl) rfl rfl rfl rfl rfl (ww_o rfl) (Nat.le_of_ble_eq_true rfl) (Nat.le_refl 0) (Nat.le_refl 0) (P := fun v u => _) ?_ (fun v u h => h)
    intro po140 xx141 hp142 hx143
    refine g_enter2 (k := 271) (N := 300) (by omega) rfl (Nat.le_of_ble_eq_true rfl) ?_
    refine g_aload_n 1 (gd rfl) rfl rfl ?_
    refine g_iload_n 2 (gd rfl) rfl rfl ?_
    refine g_iconst 1 3 (gd rfl) rfl rfl ?_
    refine g_callv (As := [.int (Int32.ofInt 0), .int (Int32.ofInt 1)]) (r := []) (b := A 109) (q := 109) 6 (gd rfl) rfl rfl rfl rfl rfl (ww_o rfl) (Nat.le_of_ble_eq_true rfl) (Nat.le_refl 0) (Nat.le_refl 0) (P := fun v u => _) ?_ (fun v u h => h)
    intro po144 xx145 hp146 hx147
    refine g_enter2 (k := 270) (N := 300) (by omega) rfl (Nat.le_of_ble_eq_true rfl) ?_
    refine g_aload_n 1 (gd rfl) rfl rfl ?_
    refine g_iload_n 2 (gd rfl) rfl rfl ?_
    refine g_if_ne 5 9 (gd rfl) rfl rfl (fun c148 => ?_) (fun c148 => ?_)
    · skip
      exact zn_ne c148 (in_c 0 rfl) rfl
    · skip
      refine g_iconst 1 6 (gd rfl) rfl rfl ?_
      refine g_goto 18 (gd rfl) rfl ?_
      refine g_putI 21 (gd rfl) rfl rfl rfl rfl ?_
      have hI149 := inv_sF (q := 109) (j := 0) hI rfl (in_w 0 2 (in_c 1 rfl) rfl)
      refine g_aload_n 22 (gd rfl) rfl rfl ?_
      refine g_getI 25 (gd rfl) rfl rfl rfl (fun z150 e151 => ?_)
      have q152 : (Int32.ofInt 1) = z150 := (sF_get).trans e151.symm
      subst q152
      refine g_if_le 28 32 (gd rfl) rfl rfl (fun c153 => ?_) (fun c153 => ?_)
      · skip
        exact zn_le c153 (in_c 1 rfl) rfl
      · skip
        refine g_iconst 1 29 (gd rfl) rfl rfl ?_
        refine g_goto 33 (gd rfl) rfl ?_
        refine g_ireturn (gd rfl) rfl (nb01 (in_w 0 1 (in_c 1 rfl) rfl)) (hp146 _ _ ?_)
        show GG _ _ _ _ _ _ _ _ [.int (Int32.ofInt 1)] _ _ _
        refine g_ireturn (gd rfl) rfl (nb01 (in_w 0 1 (in_c 1 rfl) rfl)) (hp142 _ _ ?_)
        show GG _ _ _ _ _ _ _ _ [.int (Int32.ofInt 1)] _ _ _
        refine g_if_eq 16 18 (gd rfl) rfl rfl (fun c154 => ?_) (fun c154 => ?_)
        · skip
          exact zn_eq c154 (in_c 1 rfl) rfl
        · skip
          refine g_iconst 0 17 (gd rfl) rfl rfl ?_
          exact g_ireturn (gd rfl) rfl rfl (hP _ _ ⟨_, hI149, (Int32.ofInt 0), rfl, rfl, in_w (-2147483648) 2147483647 (in_c 0 rfl) rfl⟩)
  · skip
    have i155 := z_ge 0 1 c135 i134 rfl
    have c156 := lc_ge e133 c135
    have i157 := lr_le2 0 2147483647 c156 (l_c 0 rfl) i127 rfl
    have i158 := l_b e126 i157
    refine g_lload_n 7 (gd rfl) rfl rfl ?_
    refine g_lload 9 (gd rfl) rfl rfl ?_
    refine g_lcmp 10 (gd rfl) rfl (fun z159 e160 => ?_)
    have i161 := lc_in e160
    refine g_if_gt 13 17 (gd rfl) rfl rfl (fun c162 => ?_) (fun c162 => ?_)
    · skip
      have i163 := z_gt 1 1 c162 i161 rfl
      have c164 := lc_gt e160 c162
      have i165 := lr_lt2 4 2147483647 c164 (l_c 3 rfl) i157 rfl
      have i166 := l_b e126 i165
      refine g_iconst 0 18 (gd rfl) rfl rfl ?_
      refine g_ireturn (gd rfl) rfl (nb01 (in_w 0 1 (in_c 0 rfl) rfl)) (hp130 _ _ ?_)
      show GG _ _ _ _ _ _ _ _ [.int (Int32.ofInt 0), .ref (A 109)] _ _ _
      refine g_callv (As := [.int (Int32.ofInt 0)]) (r := []) (b := A 109) (q := 109) 13 (gd rfl) rfl rfl rfl rfl rfl (ww_o rfl) (Nat.le_of_ble_eq_true rfl) (Nat.le_refl 0) (Nat.le_refl 0) (P := fun v u => _) ?_ (fun v u h => h)
      intro po167 xx168 hp169 hx170
      refine g_enter2 (k := 271) (N := 300) (by omega) rfl (Nat.le_of_ble_eq_true rfl) ?_
      refine g_aload_n 1 (gd rfl) rfl rfl ?_
      refine g_iload_n 2 (gd rfl) rfl rfl ?_
      refine g_iconst 1 3 (gd rfl) rfl rfl ?_
      refine g_callv (As := [.int (Int32.ofInt 0), .int (Int32.ofInt 1)]) (r := []) (b := A 109) (q := 109) 6 (gd rfl) rfl rfl rfl rfl rfl (ww_o rfl) (Nat.le_of_ble_eq_true rfl) (Nat.le_refl 0) (Nat.le_refl 0) (P := fun v u => _) ?_ (fun v u h => h)
      intro po171 xx172 hp173 hx174
      refine g_enter2 (k := 270) (N := 300) (by omega) rfl (Nat.le_of_ble_eq_true rfl) ?_
      refine g_aload_n 1 (gd rfl) rfl rfl ?_
      refine g_iload_n 2 (gd rfl) rfl rfl ?_
      refine g_if_ne 5 9 (gd rfl) rfl rfl (fun c175 => ?_) (fun c175 => ?_)
      · skip
        exact zn_ne c175 (in_c 0 rfl) rfl
      · skip
        refine g_iconst 1 6 (gd rfl) rfl rfl ?_
        refine g_goto 18 (gd rfl) rfl ?_
        refine g_putI 21 (gd rfl) rfl rfl rfl rfl ?_
        have hI176 := inv_sF (q := 109) (j := 0) hI rfl (in_w 0 2 (in_c 1 rfl) rfl)
        refine g_aload_n 22 (gd rfl) rfl rfl ?_
        refine g_getI 25 (gd rfl) rfl rfl rfl (fun z177 e178 => ?_)
        have q179 : (Int32.ofInt 1) = z177 := (sF_get).trans e178.symm
        subst q179
        refine g_if_le 28 32 (gd rfl) rfl rfl (fun c180 => ?_) (fun c180 => ?_)
        · skip
          exact zn_le c180 (in_c 1 rfl) rfl
        · skip
          refine g_iconst 1 29 (gd rfl) rfl rfl ?_
          refine g_goto 33 (gd rfl) rfl ?_
          refine g_ireturn (gd rfl) rfl (nb01 (in_w 0 1 (in_c 1 rfl) rfl)) (hp173 _ _ ?_)
          show GG _ _ _ _ _ _ _ _ [.int (Int32.ofInt 1)] _ _ _
          refine g_ireturn (gd rfl) rfl (nb01 (in_w 0 1 (in_c 1 rfl) rfl)) (hp169 _ _ ?_)
          show GG _ _ _ _ _ _ _ _ [.int (Int32.ofInt 1)] _ _ _
          refine g_if_eq 16 18 (gd rfl) rfl rfl (fun c181 => ?_) (fun c181 => ?_)
          · skip
            exact zn_eq c181 (in_c 1 rfl) rfl
          · skip
            refine g_iconst 0 17 (gd rfl) rfl rfl ?_
            exact g_ireturn (gd rfl) rfl rfl (hP _ _ ⟨_, hI176, (Int32.ofInt 0), rfl, rfl, in_w (-2147483648) 2147483647 (in_c 0 rfl) rfl⟩)
    · skip
      have i182 := z_le (-1) 0 c162 i161 rfl
      have c183 := lc_le e160 c162
      have i184 := lr_le1 0 3 c183 i157 (l_c 3 rfl) rfl
      have i185 := l_b e126 i184
      refine g_iconst 1 14 (gd rfl) rfl rfl ?_
      refine g_goto 18 (gd rfl) rfl ?_
      refine g_ireturn (gd rfl) rfl (nb01 (in_w 0 1 (in_c 1 rfl) rfl)) (hp130 _ _ ?_)
      show GG _ _ _ _ _ _ _ _ [.int (Int32.ofInt 1), .ref (A 109)] _ _ _
      refine g_callv (As := [.int (Int32.ofInt 1)]) (r := []) (b := A 109) (q := 109) 13 (gd rfl) rfl rfl rfl rfl rfl (ww_o rfl) (Nat.le_of_ble_eq_true rfl) (Nat.le_refl 0) (Nat.le_refl 0) (P := fun v u => _) ?_ (fun v u h => h)
      intro po186 xx187 hp188 hx189
      refine g_enter2 (k := 271) (N := 300) (by omega) rfl (Nat.le_of_ble_eq_true rfl) ?_
      refine g_aload_n 1 (gd rfl) rfl rfl ?_
      refine g_iload_n 2 (gd rfl) rfl rfl ?_
      refine g_iconst 1 3 (gd rfl) rfl rfl ?_
      refine g_callv (As := [.int (Int32.ofInt 1), .int (Int32.ofInt 1)]) (r := []) (b := A 109) (q := 109) 6 (gd rfl) rfl rfl rfl rfl rfl (ww_o rfl) (Nat.le_of_ble_eq_true rfl) (Nat.le_refl 0) (Nat.le_refl 0) (P := fun v u => _) ?_ (fun v u h => h)
      intro po190 xx191 hp192 hx193
      refine g_enter2 (k := 270) (N := 300) (by omega) rfl (Nat.le_of_ble_eq_true rfl) ?_
      refine g_aload_n 1 (gd rfl) rfl rfl ?_
      refine g_iload_n 2 (gd rfl) rfl rfl ?_
      refine g_if_ne 5 9 (gd rfl) rfl rfl (fun c194 => ?_) (fun c194 => ?_)
      · skip
        refine g_iload_n 10 (gd rfl) rfl rfl ?_
        refine g_if_ne 13 17 (gd rfl) rfl rfl (fun c195 => ?_) (fun c195 => ?_)
        · skip
          refine g_iconst 0 18 (gd rfl) rfl rfl ?_
          refine g_putI 21 (gd rfl) rfl rfl rfl rfl ?_
          have hI196 := inv_sF (q := 109) (j := 0) hI rfl (in_w 0 2 (in_c 0 rfl) rfl)
          refine g_aload_n 22 (gd rfl) rfl rfl ?_
          refine g_getI 25 (gd rfl) rfl rfl rfl (fun z197 e198 => ?_)
          have q199 : (Int32.ofInt 0) = z197 := (sF_get).trans e198.symm
          subst q199
          refine g_if_le 28 32 (gd rfl) rfl rfl (fun c200 => ?_) (fun c200 => ?_)
          · skip
            refine g_iconst 0 33 (gd rfl) rfl rfl ?_
            refine g_ireturn (gd rfl) rfl (nb01 (in_w 0 1 (in_c 0 rfl) rfl)) (hp192 _ _ ?_)
            show GG _ _ _ _ _ _ _ _ [.int (Int32.ofInt 0)] _ _ _
            refine g_ireturn (gd rfl) rfl (nb01 (in_w 0 1 (in_c 0 rfl) rfl)) (hp188 _ _ ?_)
            show GG _ _ _ _ _ _ _ _ [.int (Int32.ofInt 0)] _ _ _
            refine g_if_eq 16 18 (gd rfl) rfl rfl (fun c201 => ?_) (fun c201 => ?_)
            · skip
              refine g_iconst 0 19 (gd rfl) rfl rfl ?_
              refine g_istore_n 20 (gd rfl) rfl (Nat.le_of_ble_eq_true rfl) ?_
              refine g_iconst 0 21 (gd rfl) rfl rfl ?_
              refine g_istore_n 22 (gd rfl) rfl (Nat.le_of_ble_eq_true rfl) ?_
              refine g_iconst (-1) 23 (gd rfl) rfl rfl ?_
              refine g_istore 25 (gd rfl) rfl (Nat.le_of_ble_eq_true rfl) ?_
              refine g_iconst 0 26 (gd rfl) rfl rfl ?_
              refine g_istore 28 (gd rfl) rfl (Nat.le_of_ble_eq_true rfl) ?_
              exact gg_w (by omega) (gg_f (gf_cons rfl (gf_cons rfl (gf_cons rfl (gf_cons rfl (gf_cons rfl (gf_cons rfl gf_nil)))))) (c28 161 (sF s 109 0 (Int32.ofInt 0)) x1 (Int32.ofInt 0) (Int32.ofInt 0) (Int32.ofInt (-1)) (Int32.ofInt 0) hI196 (in_w 0 3 i185 rfl) (in_w (-1) 159 (in_c (-1) rfl) rfl) (in_w 0 160 (in_c 0 rfl) rfl) (m_in 161 (in_w 0 160 (in_c 0 rfl) rfl) rfl)))
            · skip
              exact zn_ne c201 (in_c 0 rfl) rfl
          · skip
            exact zn_gt c200 (in_c 0 rfl) rfl
        · skip
          exact zn_eq c195 (in_c 1 rfl) rfl
      · skip
        exact zn_eq c194 (in_c 1 rfl) rfl
