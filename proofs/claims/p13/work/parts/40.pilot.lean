/-! methods, by vc.py -/
/-- GraphHouseModel.freePlace -/
theorem k_280 {Z : AmZ} {A : Nat → Nat} {s : GS} {ex : va_W} {d : Nat} {X : AmX} {x1 : Int32} (hd : 1 ≤ d) (hI : Inv s) (h1 : In x1 0 2) : GC Z d 280 [.ref (A 109), .int x1] (WW Z A s ++ ex) 0 0 (fun v u => ∃ z : Int32, v = some (.int z) ∧ u = WW Z A s ++ ex ∧ In z 0 160) X := by
  intro post xp hP hX
  have c2 : ∀ (k2 : Nat) (y2_1 : Int32) (y2_2 : Int32), In y2_1 0 2 → In y2_2 0 160 → 160 - (y2_2).toInt < (k2 : Int) → GG Z (d - 1) 280 post (gx xp) (1 + k2 * 900) 2 (fun j => xlook j [(0, .ref (A 109)), (1, .int y2_1), (2, .int y2_2)]) [] (WW Z A s ++ ex) 0 0 := by
    intro k2
    induction k2 with
    | zero => intro y2_1 y2_2 j2_1 j2_2 m2; exact m_no m2 j2_2 rfl
    | succ k2 ih2 =>
      intro y2_1 y2_2 j2_1 j2_2 m2
      refine gg_w (M := 1 + k2 * 900 + 900) (by omega) ?_
      refine g_iload_n 3 (gd rfl) rfl rfl ?_
      refine g_sipush 160 6 (gd rfl) rfl rfl ?_
      refine g_cmp_ge 9 30 (gd rfl) rfl rfl (fun c1 => ?_) (fun c1 => ?_)
      · skip
        have i2 := r_le2 160 160 c1 (in_c 160 rfl) j2_2 rfl
        refine g_iload_n 31 (gd rfl) rfl rfl ?_
        exact g_ireturn (gd rfl) rfl rfl (hP _ _ ⟨y2_2, rfl, rfl, in_w 0 160 i2 rfl⟩)
      · skip
        have i3 := r_lt1 0 159 c1 j2_2 (in_c 160 rfl) rfl
        refine g_aload_n 10 (gd rfl) rfl rfl ?_
        refine g_getA (q2 := 112) 13 (gd rfl) rfl rfl rfl rfl rfl ?_
        refine g_sipush 160 16 (gd rfl) rfl rfl ?_
        refine g_iload_n 17 (gd rfl) rfl rfl ?_
        refine g_imul 18 (gd rfl) rfl (fun z4 e5 => ?_)
        have i6 := in_mulc 160 0 320 (Or.inl e5) j2_1 rfl rfl
        refine g_iload_n 19 (gd rfl) rfl rfl ?_
        refine g_iadd 20 (gd rfl) rfl (fun z7 e8 => ?_)
        have i9 := in_add 0 479 e8 i6 i3 rfl rfl
        refine g_baload 21 (gd rfl) rfl (n := 480) rfl (in_ix i9 rfl) (fun z10 e11 => ?_)
        have i12 := inv_I hI (n := 480) (t := 3) 0 1 rfl (in_ix i9 rfl) rfl e11
        refine g_if_eq 24 30 (gd rfl) rfl rfl (fun c13 => ?_) (fun c13 => ?_)
        · skip
          have i14 := z_eq 0 0 c13 i12 rfl
          refine g_iload_n 31 (gd rfl) rfl rfl ?_
          exact g_ireturn (gd rfl) rfl rfl (hP _ _ ⟨y2_2, rfl, rfl, in_w 0 160 i3 rfl⟩)
        · skip
          have i15 := z_ne 1 1 c13 i12 rfl
          refine g_iinc 27 (gd rfl) rfl rfl (Nat.le_of_ble_eq_true rfl) (fun z16 e17 => ?_)
          have i18 := in_add 1 160 e17 i3 (in_c 1 rfl) rfl rfl
          refine g_goto 2 (gd rfl) rfl ?_
          exact gg_w (by omega) (gg_f (gf_cons rfl (gf_cons rfl (gf_cons rfl gf_nil))) (ih2  y2_1 z16  (in_w 0 2 j2_1 rfl) (in_w 0 160 i18 rfl) (m_up m2 (t_add e17 i3 (in_c 1 rfl) rfl) (in_w 1 1 (in_c 1 rfl) rfl))))
  refine g_enter2 (k := 280) (N := 145801) (by omega) rfl (Nat.le_of_ble_eq_true rfl) ?_
  refine g_iconst 0 1 (gd rfl) rfl rfl ?_
  refine g_istore_n 2 (gd rfl) rfl (Nat.le_of_ble_eq_true rfl) ?_
  exact gg_w (by omega) (gg_f (gf_cons rfl (gf_cons rfl (gf_cons rfl gf_nil))) (c2 161  x1 (Int32.ofInt 0)  (in_w 0 2 h1 rfl) (in_w 0 160 (in_c 0 rfl) rfl) (m_in 161 (in_w 0 160 (in_c 0 rfl) rfl) rfl)))

/-- GraphHouseModel.isJoint -/
theorem k_288 {Z : AmZ} {A : Nat → Nat} {s : GS} {ex : va_W} {d : Nat} {X : AmX} {x1 : Int32} (hd : 1 ≤ d) (hI : Inv s) (h1 : In x1 0 159) : GC Z d 288 [.ref (A 109), .int x1] (WW Z A s ++ ex) 0 0 (fun v u => ∃ z : Int32, v = some (.int z) ∧ u = WW Z A s ++ ex ∧ In z 0 1) X := by
  intro post xp hP hX
  refine g_enter2 (k := 288) (N := 900) (by omega) rfl (Nat.le_of_ble_eq_true rfl) ?_
  refine g_aload_n 1 (gd rfl) rfl rfl ?_
  refine g_getA (q2 := 112) 4 (gd rfl) rfl rfl rfl rfl rfl ?_
  refine g_aload_n 5 (gd rfl) rfl rfl ?_
  refine g_getI 8 (gd rfl) rfl rfl rfl (fun z1 e2 => ?_)
  have i3 := inv_F hI 0 160 rfl e2
  refine g_iload_n 9 (gd rfl) rfl rfl ?_
  refine g_iadd 10 (gd rfl) rfl (fun z4 e5 => ?_)
  have i6 := in_add 0 319 e5 i3 h1 rfl rfl
  refine g_baload 11 (gd rfl) rfl (n := 480) rfl (in_ix i6 rfl) (fun z7 e8 => ?_)
  have i9 := inv_I hI (n := 480) (t := 3) 0 1 rfl (in_ix i6 rfl) rfl e8
  refine g_if_eq 14 43 (gd rfl) rfl rfl (fun c10 => ?_) (fun c10 => ?_)
  · skip
    have i11 := z_eq 0 0 c10 i9 rfl
    refine g_iconst 0 44 (gd rfl) rfl rfl ?_
    exact g_ireturn (gd rfl) rfl (nb01 (in_w 0 1 (in_c 0 rfl) rfl)) (hP _ _ ⟨(Int32.ofInt 0), rfl, rfl, in_w 0 1 (in_c 0 rfl) rfl⟩)
  · skip
    have i12 := z_ne 1 1 c10 i9 rfl
    refine g_aload_n 15 (gd rfl) rfl rfl ?_
    refine g_getA (q2 := 113) 18 (gd rfl) rfl rfl rfl rfl rfl ?_
    refine g_aload_n 19 (gd rfl) rfl rfl ?_
    refine g_getI 22 (gd rfl) rfl rfl rfl (fun z13 e14 => ?_)
    have q15 : z1 = z13 := (e2).trans e14.symm
    subst q15
    refine g_iload_n 23 (gd rfl) rfl rfl ?_
    refine g_iadd 24 (gd rfl) rfl (fun z16 e17 => ?_)
    have i18 := in_add 0 319 e17 i3 h1 rfl rfl
    refine g_iaload 25 (gd rfl) rfl (n := 480) rfl (in_ix i18 rfl) (fun z19 e20 => ?_)
    have i21 := inv_I hI (n := 480) (t := 0) 0 31 rfl (in_ix i18 rfl) rfl e20
    refine g_aload_n 26 (gd rfl) rfl rfl ?_
    refine g_getA (q2 := 114) 29 (gd rfl) rfl rfl rfl rfl rfl ?_
    refine g_aload_n 30 (gd rfl) rfl rfl ?_
    refine g_getI 33 (gd rfl) rfl rfl rfl (fun z22 e23 => ?_)
    have q24 : z1 = z22 := (e2).trans e23.symm
    subst q24
    refine g_iload_n 34 (gd rfl) rfl rfl ?_
    refine g_iadd 35 (gd rfl) rfl (fun z25 e26 => ?_)
    have i27 := in_add 0 319 e26 i3 h1 rfl rfl
    refine g_iaload 36 (gd rfl) rfl (n := 480) rfl (in_ix i27 rfl) (fun z28 e29 => ?_)
    have i30 := inv_I hI (n := 480) (t := 0) 0 31 rfl (in_ix i27 rfl) rfl e29
    refine g_cmp_eq 39 43 (gd rfl) rfl rfl (fun c31 => ?_) (fun c31 => ?_)
    · skip
      refine g_iconst 0 44 (gd rfl) rfl rfl ?_
      exact g_ireturn (gd rfl) rfl (nb01 (in_w 0 1 (in_c 0 rfl) rfl)) (hP _ _ ⟨(Int32.ofInt 0), rfl, rfl, in_w 0 1 (in_c 0 rfl) rfl⟩)
    · skip
      refine g_iconst 1 40 (gd rfl) rfl rfl ?_
      refine g_goto 44 (gd rfl) rfl ?_
      exact g_ireturn (gd rfl) rfl (nb01 (in_w 0 1 (in_c 1 rfl) rfl)) (hP _ _ ⟨(Int32.ofInt 1), rfl, rfl, in_w 0 1 (in_c 1 rfl) rfl⟩)

/-- GraphHouseModel.count -/
theorem k_336 {Z : AmZ} {A : Nat → Nat} {s : GS} {ex : va_W} {d : Nat} {X : AmX} {x0 : Int32} (hd : 1 ≤ d) (hI : Inv s)  : GC Z d 336 [.int x0] (WW Z A s ++ ex) 0 0 (fun v u => ∃ z : Int32, v = some (.int z) ∧ u = WW Z A s ++ ex ∧ In z 0 32) X := by
  intro post xp hP hX
  have c4 : ∀ (k4 : Nat) (y4_0 : Int32) (y4_1 : Int32) (y4_2 : Int32), In y4_1 0 32 → In y4_2 0 32 → (y4_1).toInt ≤ (y4_2).toInt + 0 → 32 - (y4_2).toInt < (k4 : Int) → GG Z (d - 1) 336 post (gx xp) (1 + k4 * 900) 4 (fun j => xlook j [(0, .int y4_0), (1, .int y4_1), (2, .int y4_2)]) [] (WW Z A s ++ ex) 0 0 := by
    intro k4
    induction k4 with
    | zero => intro y4_0 y4_1 y4_2 j4_1 j4_2 l4_1 m4; exact m_no m4 j4_2 rfl
    | succ k4 ih4 =>
      intro y4_0 y4_1 y4_2 j4_1 j4_2 l4_1 m4
      refine gg_w (M := 1 + k4 * 900 + 900) (by omega) ?_
      refine g_iload_n 5 (gd rfl) rfl rfl ?_
      refine g_bipush 32 7 (gd rfl) rfl rfl ?_
      refine g_cmp_ge 10 24 (gd rfl) rfl rfl (fun c1 => ?_) (fun c1 => ?_)
      · skip
        have i2 := r_le2 32 32 c1 (in_c 32 rfl) j4_2 rfl
        refine g_iload_n 25 (gd rfl) rfl rfl ?_
        exact g_ireturn (gd rfl) rfl rfl (hP _ _ ⟨y4_1, rfl, rfl, in_w 0 32 j4_1 rfl⟩)
      · skip
        have i3 := r_lt1 0 31 c1 j4_2 (in_c 32 rfl) rfl
        refine g_iload_n 11 (gd rfl) rfl rfl ?_
        refine g_iload_n 12 (gd rfl) rfl rfl ?_
        refine g_iload_n 13 (gd rfl) rfl rfl ?_
        refine g_ishr 14 (gd rfl) rfl (fun z4 e5 => ?_)
        refine g_iconst 1 15 (gd rfl) rfl rfl ?_
        refine g_iand 16 (gd rfl) rfl (fun z6 e7 => ?_)
        have i8 := in_and2 e7 (in_c 1 rfl) rfl
        refine g_iadd 17 (gd rfl) rfl (fun z9 e10 => ?_)
        have i11 := in_add 0 33 e10 j4_1 i8 rfl rfl
        refine g_istore_n 18 (gd rfl) rfl (Nat.le_of_ble_eq_true rfl) ?_
        refine g_iinc 21 (gd rfl) rfl rfl (Nat.le_of_ble_eq_true rfl) (fun z12 e13 => ?_)
        have i14 := in_add 1 32 e13 i3 (in_c 1 rfl) rfl rfl
        refine g_goto 4 (gd rfl) rfl ?_
        have l15 := rl_1 l4_1 (t_add e10 j4_1 i8 rfl) i8 (t_add e13 i3 (in_c 1 rfl) rfl) (in_c 1 rfl) rfl
        exact gg_w (by omega) (gg_f (gf_cons rfl (gf_cons rfl (gf_cons rfl gf_nil))) (ih4  y4_0 z9 z12  (rl_w 0 32 l15 i11 (in_w 0 32 i14 rfl) rfl) (in_w 0 32 i14 rfl) l15 (m_up m4 (t_add e13 i3 (in_c 1 rfl) rfl) (in_w 1 1 (in_c 1 rfl) rfl))))
  refine g_enter2 (k := 336) (N := 30601) (by omega) rfl (Nat.le_of_ble_eq_true rfl) ?_
  refine g_iconst 0 1 (gd rfl) rfl rfl ?_
  refine g_istore_n 2 (gd rfl) rfl (Nat.le_of_ble_eq_true rfl) ?_
  refine g_iconst 0 3 (gd rfl) rfl rfl ?_
  refine g_istore_n 4 (gd rfl) rfl (Nat.le_of_ble_eq_true rfl) ?_
  have l16 := rl_in 0 (in_c 0 rfl) (in_c 0 rfl) rfl
  exact gg_w (by omega) (gg_f (gf_cons rfl (gf_cons rfl (gf_cons rfl gf_nil))) (c4 33  x0 (Int32.ofInt 0) (Int32.ofInt 0)  (rl_w 0 32 l16 (in_c 0 rfl) (in_w 0 32 (in_c 0 rfl) rfl) rfl) (in_w 0 32 (in_c 0 rfl) rfl) l16 (m_in 33 (in_w 0 32 (in_c 0 rfl) rfl) rfl)))

/-- GraphHouseModel.jointsWith -/
theorem k_333 {Z : AmZ} {A : Nat → Nat} {s : GS} {ex : va_W} {d : Nat} {X : AmX} {x1 : Int32} {x2 : Int32} (hd : 3 ≤ d) (hI : Inv s)  : GC Z d 333 [.ref (A 109), .int x1, .int x2] (WW Z A s ++ ex) 0 0 (fun v u => ∃ z : Int32, v = some (.int z) ∧ u = WW Z A s ++ ex ∧ In z 0 160) X := by
  intro post xp hP hX
  have c5 : ∀ (k5 : Nat) (y5_1 : Int32) (y5_2 : Int32) (y5_3 : Int32) (y5_4 : Int32), In y5_3 0 160 → In y5_4 0 160 → (y5_3).toInt ≤ (y5_4).toInt + 0 → 160 - (y5_4).toInt < (k5 : Int) → GG Z (d - 1) 333 post (gx xp) (1 + k5 * 900) 5 (fun j => xlook j [(0, .ref (A 109)), (1, .int y5_1), (2, .int y5_2), (3, .int y5_3), (4, .int y5_4)]) [] (WW Z A s ++ ex) 0 0 := by
    intro k5
    induction k5 with
    | zero => intro y5_1 y5_2 y5_3 y5_4 j5_3 j5_4 l5_3 m5; exact m_no m5 j5_4 rfl
    | succ k5 ih5 =>
      intro y5_1 y5_2 y5_3 y5_4 j5_3 j5_4 l5_3 m5
      refine gg_w (M := 1 + k5 * 900 + 900) (by omega) ?_
      refine g_iload 7 (gd rfl) rfl rfl ?_
      refine g_sipush 160 10 (gd rfl) rfl rfl ?_
      refine g_cmp_ge 13 94 (gd rfl) rfl rfl (fun c1 => ?_) (fun c1 => ?_)
      · skip
        have i2 := r_le2 160 160 c1 (in_c 160 rfl) j5_4 rfl
        refine g_iload_n 95 (gd rfl) rfl rfl ?_
        exact g_ireturn (gd rfl) rfl rfl (hP _ _ ⟨y5_3, rfl, rfl, in_w 0 160 j5_3 rfl⟩)
      · skip
        have i3 := r_lt1 0 159 c1 j5_4 (in_c 160 rfl) rfl
        refine g_aload_n 14 (gd rfl) rfl rfl ?_
        refine g_iload 16 (gd rfl) rfl rfl ?_
        refine g_callv (X := _) (As := [.int y5_4]) (r := []) (b := A 109) (q := 109) 19 (gd rfl) rfl rfl rfl rfl rfl (ww_o rfl) (Nat.le_of_ble_eq_true rfl) (Nat.zero_le _) (Nat.zero_le _) (k_288 (by omega) hI (in_w 0 159 i3 rfl)) (fun e u h => h) (fun v u h => ?_)
        obtain ⟨z4, rfl, rfl, i5⟩ := h
        show GG _ _ _ _ _ _ _ _ [.int z4] _ _ _
        refine g_if_eq 22 88 (gd rfl) rfl rfl (fun c6 => ?_) (fun c6 => ?_)
        · skip
          have i7 := z_eq 0 0 c6 i5 rfl
          refine g_iinc 91 (gd rfl) rfl rfl (Nat.le_of_ble_eq_true rfl) (fun z8 e9 => ?_)
          have i10 := in_add 1 160 e9 i3 (in_c 1 rfl) rfl rfl
          refine g_goto 5 (gd rfl) rfl ?_
          have l11 := rl_0 l5_3 (t_add e9 i3 (in_c 1 rfl) rfl) (in_w 0 1 (in_c 1 rfl) rfl)
          exact gg_w (by omega) (gg_f (gf_cons rfl (gf_cons rfl (gf_cons rfl (gf_cons rfl (gf_cons rfl gf_nil))))) (ih5  y5_1 y5_2 y5_3 z8  (rl_w 0 160 l11 j5_3 (in_w 0 160 i10 rfl) rfl) (in_w 0 160 i10 rfl) l11 (m_up m5 (t_add e9 i3 (in_c 1 rfl) rfl) (in_w 1 1 (in_c 1 rfl) rfl))))
        · skip
          have i12 := z_ne 1 1 c6 i5 rfl
          refine g_aload_n 23 (gd rfl) rfl rfl ?_
          refine g_getA (q2 := 113) 26 (gd rfl) rfl rfl rfl rfl rfl ?_
          refine g_aload_n 27 (gd rfl) rfl rfl ?_
          refine g_getI 30 (gd rfl) rfl rfl rfl (fun z13 e14 => ?_)
          have i15 := inv_F hI 0 160 rfl e14
          refine g_iload 32 (gd rfl) rfl rfl ?_
          refine g_iadd 33 (gd rfl) rfl (fun z16 e17 => ?_)
          have i18 := in_add 0 319 e17 i15 i3 rfl rfl
          refine g_iaload 34 (gd rfl) rfl (n := 480) rfl (in_ix i18 rfl) (fun z19 e20 => ?_)
          have i21 := inv_I hI (n := 480) (t := 0) 0 31 rfl (in_ix i18 rfl) rfl e20
          refine g_istore 36 (gd rfl) rfl (Nat.le_of_ble_eq_true rfl) ?_
          refine g_aload_n 37 (gd rfl) rfl rfl ?_
          refine g_getA (q2 := 114) 40 (gd rfl) rfl rfl rfl rfl rfl ?_
          refine g_aload_n 41 (gd rfl) rfl rfl ?_
          refine g_getI 44 (gd rfl) rfl rfl rfl (fun z22 e23 => ?_)
          have q24 : z13 = z22 := (e14).trans e23.symm
          subst q24
          refine g_iload 46 (gd rfl) rfl rfl ?_
          refine g_iadd 47 (gd rfl) rfl (fun z25 e26 => ?_)
          have i27 := in_add 0 319 e26 i15 i3 rfl rfl
          refine g_iaload 48 (gd rfl) rfl (n := 480) rfl (in_ix i27 rfl) (fun z28 e29 => ?_)
          have i30 := inv_I hI (n := 480) (t := 0) 0 31 rfl (in_ix i27 rfl) rfl e29
          refine g_istore 50 (gd rfl) rfl (Nat.le_of_ble_eq_true rfl) ?_
          refine g_iload_n 51 (gd rfl) rfl rfl ?_
          refine g_iload 53 (gd rfl) rfl rfl ?_
          refine g_iload_n 54 (gd rfl) rfl rfl ?_
          refine g_cmp_ne 57 66 (gd rfl) rfl rfl (fun c31 => ?_) (fun c31 => ?_)
          · skip
            refine g_iload 68 (gd rfl) rfl rfl ?_
            refine g_iload_n 69 (gd rfl) rfl rfl ?_
            refine g_cmp_ne 72 85 (gd rfl) rfl rfl (fun c32 => ?_) (fun c32 => ?_)
            · skip
              refine g_iconst 0 86 (gd rfl) rfl rfl ?_
              refine g_iadd 87 (gd rfl) rfl (fun z33 e34 => ?_)
              have i35 := in_add 0 160 e34 j5_3 (in_c 0 rfl) rfl rfl
              refine g_istore_n 88 (gd rfl) rfl (Nat.le_of_ble_eq_true rfl) ?_
              refine g_iinc 91 (gd rfl) rfl rfl (Nat.le_of_ble_eq_true rfl) (fun z36 e37 => ?_)
              have i38 := in_add 1 160 e37 i3 (in_c 1 rfl) rfl rfl
              refine g_goto 5 (gd rfl) rfl ?_
              have l39 := rl_1 l5_3 (t_add e34 j5_3 (in_c 0 rfl) rfl) (in_c 0 rfl) (t_add e37 i3 (in_c 1 rfl) rfl) (in_c 1 rfl) rfl
              exact gg_w (by omega) (gg_f (gf_cons rfl (gf_cons rfl (gf_cons rfl (gf_cons rfl (gf_cons rfl gf_nil))))) (ih5  y5_1 y5_2 z33 z36  (rl_w 0 160 l39 i35 (in_w 0 160 i38 rfl) rfl) (in_w 0 160 i38 rfl) l39 (m_up m5 (t_add e37 i3 (in_c 1 rfl) rfl) (in_w 1 1 (in_c 1 rfl) rfl))))
            · skip
              have i40 := r_eq2 0 31 c32 i30 (i_rng y5_1) rfl
              refine g_iload_n 73 (gd rfl) rfl rfl ?_
              refine g_iload 75 (gd rfl) rfl rfl ?_
              refine g_calls (As := [.int y5_2, .int z19]) (r := [.int y5_3]) 78 (gd rfl) rfl rfl rfl rfl rfl (Nat.le_of_ble_eq_true rfl) (mc := 0) (ms := 0) (Nat.zero_le _) (Nat.zero_le _) (P := fun v u => _) ?_ (fun v u h => h)
              intro po41 xx42 hp43 hx44
              refine g_enter2 (k := 311) (N := 300) (by omega) rfl (Nat.le_of_ble_eq_true rfl) ?_
              refine g_iload_n 1 (gd rfl) rfl rfl ?_
              refine g_iload_n 2 (gd rfl) rfl rfl ?_
              refine g_ishr 3 (gd rfl) rfl (fun z45 e46 => ?_)
              refine g_iconst 1 4 (gd rfl) rfl rfl ?_
              refine g_iand 5 (gd rfl) rfl (fun z47 e48 => ?_)
              have i49 := in_and2 e48 (in_c 1 rfl) rfl
              refine g_iconst 1 6 (gd rfl) rfl rfl ?_
              refine g_cmp_ne 9 13 (gd rfl) rfl rfl (fun c50 => ?_) (fun c50 => ?_)
              · skip
                have i51 := r_ne1 0 0 c50 i49 (in_c 1 rfl) rfl
                refine g_iconst 0 14 (gd rfl) rfl rfl ?_
                refine g_ireturn (gd rfl) rfl (nb01 (in_w 0 1 (in_c 0 rfl) rfl)) (hp43 _ _ ?_)
                show GG _ _ _ _ _ _ _ _ [.int (Int32.ofInt 0), .int y5_3] _ _ _
                refine g_if_eq 81 85 (gd rfl) rfl rfl (fun c52 => ?_) (fun c52 => ?_)
                · skip
                  refine g_iconst 0 86 (gd rfl) rfl rfl ?_
                  refine g_iadd 87 (gd rfl) rfl (fun z53 e54 => ?_)
                  have i55 := in_add 0 160 e54 j5_3 (in_c 0 rfl) rfl rfl
                  refine g_istore_n 88 (gd rfl) rfl (Nat.le_of_ble_eq_true rfl) ?_
                  refine g_iinc 91 (gd rfl) rfl rfl (Nat.le_of_ble_eq_true rfl) (fun z56 e57 => ?_)
                  have i58 := in_add 1 160 e57 i3 (in_c 1 rfl) rfl rfl
                  refine g_goto 5 (gd rfl) rfl ?_
                  have l59 := rl_1 l5_3 (t_add e54 j5_3 (in_c 0 rfl) rfl) (in_c 0 rfl) (t_add e57 i3 (in_c 1 rfl) rfl) (in_c 1 rfl) rfl
                  exact gg_w (by omega) (gg_f (gf_cons rfl (gf_cons rfl (gf_cons rfl (gf_cons rfl (gf_cons rfl gf_nil))))) (ih5  y5_1 y5_2 z53 z56  (rl_w 0 160 l59 i55 (in_w 0 160 i58 rfl) rfl) (in_w 0 160 i58 rfl) l59 (m_up m5 (t_add e57 i3 (in_c 1 rfl) rfl) (in_w 1 1 (in_c 1 rfl) rfl))))
                · skip
                  exact zn_ne c52 (in_c 0 rfl) rfl
              · skip
                have i60 := r_eq1 1 1 c50 i49 (in_c 1 rfl) rfl
                refine g_iconst 1 10 (gd rfl) rfl rfl ?_
                refine g_goto 14 (gd rfl) rfl ?_
                refine g_ireturn (gd rfl) rfl (nb01 (in_w 0 1 (in_c 1 rfl) rfl)) (hp43 _ _ ?_)
                show GG _ _ _ _ _ _ _ _ [.int (Int32.ofInt 1), .int y5_3] _ _ _
                refine g_if_eq 81 85 (gd rfl) rfl rfl (fun c61 => ?_) (fun c61 => ?_)
                · skip
                  exact zn_eq c61 (in_c 1 rfl) rfl
                · skip
                  refine g_iconst 1 82 (gd rfl) rfl rfl ?_
                  refine g_goto 86 (gd rfl) rfl ?_
                  refine g_iadd 87 (gd rfl) rfl (fun z62 e63 => ?_)
                  have i64 := in_add 1 161 e63 j5_3 (in_c 1 rfl) rfl rfl
                  refine g_istore_n 88 (gd rfl) rfl (Nat.le_of_ble_eq_true rfl) ?_
                  refine g_iinc 91 (gd rfl) rfl rfl (Nat.le_of_ble_eq_true rfl) (fun z65 e66 => ?_)
                  have i67 := in_add 1 160 e66 i3 (in_c 1 rfl) rfl rfl
                  refine g_goto 5 (gd rfl) rfl ?_
                  have l68 := rl_1 l5_3 (t_add e63 j5_3 (in_c 1 rfl) rfl) (in_c 1 rfl) (t_add e66 i3 (in_c 1 rfl) rfl) (in_c 1 rfl) rfl
                  exact gg_w (by omega) (gg_f (gf_cons rfl (gf_cons rfl (gf_cons rfl (gf_cons rfl (gf_cons rfl gf_nil))))) (ih5  y5_1 y5_2 z62 z65  (rl_w 0 160 l68 i64 (in_w 0 160 i67 rfl) rfl) (in_w 0 160 i67 rfl) l68 (m_up m5 (t_add e66 i3 (in_c 1 rfl) rfl) (in_w 1 1 (in_c 1 rfl) rfl))))
          · skip
            have i69 := r_eq2 0 31 c31 i21 (i_rng y5_1) rfl
            refine g_iload_n 58 (gd rfl) rfl rfl ?_
            refine g_iload 60 (gd rfl) rfl rfl ?_
            refine g_calls (As := [.int y5_2, .int z28]) (r := [.int y5_3]) 63 (gd rfl) rfl rfl rfl rfl rfl (Nat.le_of_ble_eq_true rfl) (mc := 0) (ms := 0) (Nat.zero_le _) (Nat.zero_le _) (P := fun v u => _) ?_ (fun v u h => h)
            intro po70 xx71 hp72 hx73
            refine g_enter2 (k := 311) (N := 300) (by omega) rfl (Nat.le_of_ble_eq_true rfl) ?_
            refine g_iload_n 1 (gd rfl) rfl rfl ?_
            refine g_iload_n 2 (gd rfl) rfl rfl ?_
            refine g_ishr 3 (gd rfl) rfl (fun z74 e75 => ?_)
            refine g_iconst 1 4 (gd rfl) rfl rfl ?_
            refine g_iand 5 (gd rfl) rfl (fun z76 e77 => ?_)
            have i78 := in_and2 e77 (in_c 1 rfl) rfl
            refine g_iconst 1 6 (gd rfl) rfl rfl ?_
            refine g_cmp_ne 9 13 (gd rfl) rfl rfl (fun c79 => ?_) (fun c79 => ?_)
            · skip
              have i80 := r_ne1 0 0 c79 i78 (in_c 1 rfl) rfl
              refine g_iconst 0 14 (gd rfl) rfl rfl ?_
              refine g_ireturn (gd rfl) rfl (nb01 (in_w 0 1 (in_c 0 rfl) rfl)) (hp72 _ _ ?_)
              show GG _ _ _ _ _ _ _ _ [.int (Int32.ofInt 0), .int y5_3] _ _ _
              refine g_if_ne 66 81 (gd rfl) rfl rfl (fun c81 => ?_) (fun c81 => ?_)
              · skip
                exact zn_ne c81 (in_c 0 rfl) rfl
              · skip
                refine g_iload 68 (gd rfl) rfl rfl ?_
                refine g_iload_n 69 (gd rfl) rfl rfl ?_
                refine g_cmp_ne 72 85 (gd rfl) rfl rfl (fun c82 => ?_) (fun c82 => ?_)
                · skip
                  refine g_iconst 0 86 (gd rfl) rfl rfl ?_
                  refine g_iadd 87 (gd rfl) rfl (fun z83 e84 => ?_)
                  have i85 := in_add 0 160 e84 j5_3 (in_c 0 rfl) rfl rfl
                  refine g_istore_n 88 (gd rfl) rfl (Nat.le_of_ble_eq_true rfl) ?_
                  refine g_iinc 91 (gd rfl) rfl rfl (Nat.le_of_ble_eq_true rfl) (fun z86 e87 => ?_)
                  have i88 := in_add 1 160 e87 i3 (in_c 1 rfl) rfl rfl
                  refine g_goto 5 (gd rfl) rfl ?_
                  have l89 := rl_1 l5_3 (t_add e84 j5_3 (in_c 0 rfl) rfl) (in_c 0 rfl) (t_add e87 i3 (in_c 1 rfl) rfl) (in_c 1 rfl) rfl
                  exact gg_w (by omega) (gg_f (gf_cons rfl (gf_cons rfl (gf_cons rfl (gf_cons rfl (gf_cons rfl gf_nil))))) (ih5  y5_1 y5_2 z83 z86  (rl_w 0 160 l89 i85 (in_w 0 160 i88 rfl) rfl) (in_w 0 160 i88 rfl) l89 (m_up m5 (t_add e87 i3 (in_c 1 rfl) rfl) (in_w 1 1 (in_c 1 rfl) rfl))))
                · skip
                  refine g_iload_n 73 (gd rfl) rfl rfl ?_
                  refine g_iload 75 (gd rfl) rfl rfl ?_
                  refine g_calls (As := [.int y5_2, .int z19]) (r := [.int y5_3]) 78 (gd rfl) rfl rfl rfl rfl rfl (Nat.le_of_ble_eq_true rfl) (mc := 0) (ms := 0) (Nat.zero_le _) (Nat.zero_le _) (P := fun v u => _) ?_ (fun v u h => h)
                  intro po90 xx91 hp92 hx93
                  refine g_enter2 (k := 311) (N := 300) (by omega) rfl (Nat.le_of_ble_eq_true rfl) ?_
                  refine g_iload_n 1 (gd rfl) rfl rfl ?_
                  refine g_iload_n 2 (gd rfl) rfl rfl ?_
                  refine g_ishr 3 (gd rfl) rfl (fun z94 e95 => ?_)
                  refine g_iconst 1 4 (gd rfl) rfl rfl ?_
                  refine g_iand 5 (gd rfl) rfl (fun z96 e97 => ?_)
                  have i98 := in_and2 e97 (in_c 1 rfl) rfl
                  refine g_iconst 1 6 (gd rfl) rfl rfl ?_
                  refine g_cmp_ne 9 13 (gd rfl) rfl rfl (fun c99 => ?_) (fun c99 => ?_)
                  · skip
                    have i100 := r_ne1 0 0 c99 i98 (in_c 1 rfl) rfl
                    refine g_iconst 0 14 (gd rfl) rfl rfl ?_
                    refine g_ireturn (gd rfl) rfl (nb01 (in_w 0 1 (in_c 0 rfl) rfl)) (hp92 _ _ ?_)
                    show GG _ _ _ _ _ _ _ _ [.int (Int32.ofInt 0), .int y5_3] _ _ _
                    refine g_if_eq 81 85 (gd rfl) rfl rfl (fun c101 => ?_) (fun c101 => ?_)
                    · skip
                      refine g_iconst 0 86 (gd rfl) rfl rfl ?_
                      refine g_iadd 87 (gd rfl) rfl (fun z102 e103 => ?_)
                      have i104 := in_add 0 160 e103 j5_3 (in_c 0 rfl) rfl rfl
                      refine g_istore_n 88 (gd rfl) rfl (Nat.le_of_ble_eq_true rfl) ?_
                      refine g_iinc 91 (gd rfl) rfl rfl (Nat.le_of_ble_eq_true rfl) (fun z105 e106 => ?_)
                      have i107 := in_add 1 160 e106 i3 (in_c 1 rfl) rfl rfl
                      refine g_goto 5 (gd rfl) rfl ?_
                      have l108 := rl_1 l5_3 (t_add e103 j5_3 (in_c 0 rfl) rfl) (in_c 0 rfl) (t_add e106 i3 (in_c 1 rfl) rfl) (in_c 1 rfl) rfl
                      exact gg_w (by omega) (gg_f (gf_cons rfl (gf_cons rfl (gf_cons rfl (gf_cons rfl (gf_cons rfl gf_nil))))) (ih5  y5_1 y5_2 z102 z105  (rl_w 0 160 l108 i104 (in_w 0 160 i107 rfl) rfl) (in_w 0 160 i107 rfl) l108 (m_up m5 (t_add e106 i3 (in_c 1 rfl) rfl) (in_w 1 1 (in_c 1 rfl) rfl))))
                    · skip
                      exact zn_ne c101 (in_c 0 rfl) rfl
                  · skip
                    have i109 := r_eq1 1 1 c99 i98 (in_c 1 rfl) rfl
                    refine g_iconst 1 10 (gd rfl) rfl rfl ?_
                    refine g_goto 14 (gd rfl) rfl ?_
                    refine g_ireturn (gd rfl) rfl (nb01 (in_w 0 1 (in_c 1 rfl) rfl)) (hp92 _ _ ?_)
                    show GG _ _ _ _ _ _ _ _ [.int (Int32.ofInt 1), .int y5_3] _ _ _
                    refine g_if_eq 81 85 (gd rfl) rfl rfl (fun c110 => ?_) (fun c110 => ?_)
                    · skip
                      exact zn_eq c110 (in_c 1 rfl) rfl
                    · skip
                      refine g_iconst 1 82 (gd rfl) rfl rfl ?_
                      refine g_goto 86 (gd rfl) rfl ?_
                      refine g_iadd 87 (gd rfl) rfl (fun z111 e112 => ?_)
                      have i113 := in_add 1 161 e112 j5_3 (in_c 1 rfl) rfl rfl
                      refine g_istore_n 88 (gd rfl) rfl (Nat.le_of_ble_eq_true rfl) ?_
                      refine g_iinc 91 (gd rfl) rfl rfl (Nat.le_of_ble_eq_true rfl) (fun z114 e115 => ?_)
                      have i116 := in_add 1 160 e115 i3 (in_c 1 rfl) rfl rfl
                      refine g_goto 5 (gd rfl) rfl ?_
                      have l117 := rl_1 l5_3 (t_add e112 j5_3 (in_c 1 rfl) rfl) (in_c 1 rfl) (t_add e115 i3 (in_c 1 rfl) rfl) (in_c 1 rfl) rfl
                      exact gg_w (by omega) (gg_f (gf_cons rfl (gf_cons rfl (gf_cons rfl (gf_cons rfl (gf_cons rfl gf_nil))))) (ih5  y5_1 y5_2 z111 z114  (rl_w 0 160 l117 i113 (in_w 0 160 i116 rfl) rfl) (in_w 0 160 i116 rfl) l117 (m_up m5 (t_add e115 i3 (in_c 1 rfl) rfl) (in_w 1 1 (in_c 1 rfl) rfl))))
            · skip
              have i118 := r_eq1 1 1 c79 i78 (in_c 1 rfl) rfl
              refine g_iconst 1 10 (gd rfl) rfl rfl ?_
              refine g_goto 14 (gd rfl) rfl ?_
              refine g_ireturn (gd rfl) rfl (nb01 (in_w 0 1 (in_c 1 rfl) rfl)) (hp72 _ _ ?_)
              show GG _ _ _ _ _ _ _ _ [.int (Int32.ofInt 1), .int y5_3] _ _ _
              refine g_if_ne 66 81 (gd rfl) rfl rfl (fun c119 => ?_) (fun c119 => ?_)
              · skip
                refine g_iconst 1 82 (gd rfl) rfl rfl ?_
                refine g_goto 86 (gd rfl) rfl ?_
                refine g_iadd 87 (gd rfl) rfl (fun z120 e121 => ?_)
                have i122 := in_add 1 161 e121 j5_3 (in_c 1 rfl) rfl rfl
                refine g_istore_n 88 (gd rfl) rfl (Nat.le_of_ble_eq_true rfl) ?_
                refine g_iinc 91 (gd rfl) rfl rfl (Nat.le_of_ble_eq_true rfl) (fun z123 e124 => ?_)
                have i125 := in_add 1 160 e124 i3 (in_c 1 rfl) rfl rfl
                refine g_goto 5 (gd rfl) rfl ?_
                have l126 := rl_1 l5_3 (t_add e121 j5_3 (in_c 1 rfl) rfl) (in_c 1 rfl) (t_add e124 i3 (in_c 1 rfl) rfl) (in_c 1 rfl) rfl
                exact gg_w (by omega) (gg_f (gf_cons rfl (gf_cons rfl (gf_cons rfl (gf_cons rfl (gf_cons rfl gf_nil))))) (ih5  y5_1 y5_2 z120 z123  (rl_w 0 160 l126 i122 (in_w 0 160 i125 rfl) rfl) (in_w 0 160 i125 rfl) l126 (m_up m5 (t_add e124 i3 (in_c 1 rfl) rfl) (in_w 1 1 (in_c 1 rfl) rfl))))
              · skip
                exact zn_eq c119 (in_c 1 rfl) rfl
  refine g_enter2 (k := 333) (N := 145801) (by omega) rfl (Nat.le_of_ble_eq_true rfl) ?_
  refine g_iconst 0 1 (gd rfl) rfl rfl ?_
  refine g_istore_n 2 (gd rfl) rfl (Nat.le_of_ble_eq_true rfl) ?_
  refine g_iconst 0 3 (gd rfl) rfl rfl ?_
  refine g_istore 5 (gd rfl) rfl (Nat.le_of_ble_eq_true rfl) ?_
  have l127 := rl_in 0 (in_c 0 rfl) (in_c 0 rfl) rfl
  exact gg_w (by omega) (gg_f (gf_cons rfl (gf_cons rfl (gf_cons rfl (gf_cons rfl (gf_cons rfl gf_nil))))) (c5 161  x1 x2 (Int32.ofInt 0) (Int32.ofInt 0)  (rl_w 0 160 l127 (in_c 0 rfl) (in_w 0 160 (in_c 0 rfl) rfl) rfl) (in_w 0 160 (in_c 0 rfl) rfl) l127 (m_in 161 (in_w 0 160 (in_c 0 rfl) rfl) rfl)))

/-- GraphHouseModel.size -/
theorem k_289 {Z : AmZ} {A : Nat → Nat} {s : GS} {ex : va_W} {d : Nat} {X : AmX} {x1 : Int32} (hd : 4 ≤ d) (hI : Inv s)  : GC Z d 289 [.ref (A 109), .int x1] (WW Z A s ++ ex) 0 0 (fun v u => ∃ t : GS, Inv t ∧ ∃ z : Int32, v = some (.int z) ∧ u = WW Z A t ++ ex ∧ In z (-1) 160) X := by
  intro post xp hP hX
  have c28 : ∀ (k28 : Nat) (s : GS) (y28_1 : Int32) (y28_2 : Int32) (y28_3 : Int32) (y28_4 : Int32) (y28_5 : Int32), Inv s → In y28_1 0 3 → In y28_2 0 160 → In y28_3 0 160 → In y28_4 (-1) 159 → In y28_5 0 160 → (y28_2).toInt ≤ (y28_5).toInt + 0 → (y28_3).toInt ≤ (y28_5).toInt + 0 → 160 - (y28_5).toInt < (k28 : Int) → GG Z (d - 1) 289 post (gx xp) (1 + k28 * 900) 28 (fun j => xlook j [(0, .ref (A 109)), (1, .int y28_1), (2, .int y28_2), (3, .int y28_3), (4, .int y28_4), (5, .int y28_5)]) [] (WW Z A s ++ ex) 0 0 := by
    intro k28
    induction k28 with
    | zero => intro s y28_1 y28_2 y28_3 y28_4 y28_5 hI j28_1 j28_2 j28_3 j28_4 j28_5 l28_2 l28_3 m28; exact m_no m28 j28_5 rfl
    | succ k28 ih28 =>
      intro s y28_1 y28_2 y28_3 y28_4 y28_5 hI j28_1 j28_2 j28_3 j28_4 j28_5 l28_2 l28_3 m28
      refine gg_w (M := 1 + k28 * 900 + 900) (by omega) ?_
      refine g_iload 30 (gd rfl) rfl rfl ?_
      refine g_sipush 160 33 (gd rfl) rfl rfl ?_
      refine g_cmp_ge 36 106 (gd rfl) rfl rfl (fun c1 => ?_) (fun c1 => ?_)
      · skip
        have i2 := r_le2 160 160 c1 (in_c 160 rfl) j28_5 rfl
        refine g_iload_n 107 (gd rfl) rfl rfl ?_
        refine g_if_ne 110 117 (gd rfl) rfl rfl (fun c3 => ?_) (fun c3 => ?_)
        · skip
          have i4 := z_ne 1 3 c3 j28_1 rfl
          refine g_iload_n 118 (gd rfl) rfl rfl ?_
          refine g_iconst 1 119 (gd rfl) rfl rfl ?_
          refine g_cmp_ne 122 126 (gd rfl) rfl rfl (fun c5 => ?_) (fun c5 => ?_)
          · skip
            have i6 := r_ne1 2 3 c5 i4 (in_c 1 rfl) rfl
            refine g_iload_n 127 (gd rfl) rfl rfl ?_
            refine g_iconst 2 128 (gd rfl) rfl rfl ?_
            refine g_cmp_ne 131 135 (gd rfl) rfl rfl (fun c7 => ?_) (fun c7 => ?_)
            · skip
              have i8 := r_ne1 3 3 c7 i6 (in_c 2 rfl) rfl
              refine g_iload 137 (gd rfl) rfl rfl ?_
              exact g_ireturn (gd rfl) rfl rfl (hP _ _ ⟨s, hI, y28_4, rfl, rfl, in_w (-1) 160 j28_4 rfl⟩)
            · skip
              have i9 := r_eq1 2 2 c7 i6 (in_c 2 rfl) rfl
              refine g_iload_n 132 (gd rfl) rfl rfl ?_
              refine g_goto 137 (gd rfl) rfl ?_
              exact g_ireturn (gd rfl) rfl rfl (hP _ _ ⟨s, hI, y28_3, rfl, rfl, in_w (-1) 160 j28_3 rfl⟩)
          · skip
            have i10 := r_eq1 1 1 c5 i4 (in_c 1 rfl) rfl
            refine g_iload_n 123 (gd rfl) rfl rfl ?_
            refine g_goto 137 (gd rfl) rfl ?_
            exact g_ireturn (gd rfl) rfl rfl (hP _ _ ⟨s, hI, y28_2, rfl, rfl, in_w (-1) 160 j28_2 rfl⟩)
        · skip
          have i11 := z_eq 0 0 c3 j28_1 rfl
          refine g_aload_n 111 (gd rfl) rfl rfl ?_
          refine g_getI 114 (gd rfl) rfl rfl rfl (fun z12 e13 => ?_)
          have i14 := inv_F hI 0 32 rfl e13
          refine g_goto 137 (gd rfl) rfl ?_
          exact g_ireturn (gd rfl) rfl rfl (hP _ _ ⟨s, hI, z12, rfl, rfl, in_w (-1) 160 i14 rfl⟩)
      · skip
        have i15 := r_lt1 0 159 c1 j28_5 (in_c 160 rfl) rfl
        refine g_iload_n 37 (gd rfl) rfl rfl ?_
        refine g_aload_n 38 (gd rfl) rfl rfl ?_
        refine g_getA (q2 := 112) 41 (gd rfl) rfl rfl rfl rfl rfl ?_
        refine g_aload_n 42 (gd rfl) rfl rfl ?_
        refine g_getI 45 (gd rfl) rfl rfl rfl (fun z16 e17 => ?_)
        have i18 := inv_F hI 0 160 rfl e17
        refine g_iload 47 (gd rfl) rfl rfl ?_
        refine g_iadd 48 (gd rfl) rfl (fun z19 e20 => ?_)
        have i21 := in_add 0 319 e20 i18 i15 rfl rfl
        refine g_baload 49 (gd rfl) rfl (n := 480) rfl (in_ix i21 rfl) (fun z22 e23 => ?_)
        have i24 := inv_I hI (n := 480) (t := 3) 0 1 rfl (in_ix i21 rfl) rfl e23
        refine g_if_eq 52 56 (gd rfl) rfl rfl (fun c25 => ?_) (fun c25 => ?_)
        · skip
          have i26 := z_eq 0 0 c25 i24 rfl
          refine g_iconst 0 57 (gd rfl) rfl rfl ?_
          refine g_iadd 58 (gd rfl) rfl (fun z27 e28 => ?_)
          have i29 := in_add 0 160 e28 j28_2 (in_c 0 rfl) rfl rfl
          refine g_istore_n 59 (gd rfl) rfl (Nat.le_of_ble_eq_true rfl) ?_
          refine g_iload_n 60 (gd rfl) rfl rfl ?_
          refine g_aload_n 61 (gd rfl) rfl rfl ?_
          refine g_iload 63 (gd rfl) rfl rfl ?_
          refine g_callv (X := _) (As := [.int y28_5]) (r := [.int y28_3]) (b := A 109) (q := 109) 66 (gd rfl) rfl rfl rfl rfl rfl (ww_o rfl) (Nat.le_of_ble_eq_true rfl) (Nat.zero_le _) (Nat.zero_le _) (k_288 (by omega) hI (in_w 0 159 i15 rfl)) (fun e u h => h) (fun v u h => ?_)
          obtain ⟨z30, rfl, rfl, i31⟩ := h
          show GG _ _ _ _ _ _ _ _ [.int z30, .int y28_3] _ _ _
          refine g_if_eq 69 73 (gd rfl) rfl rfl (fun c32 => ?_) (fun c32 => ?_)
          · skip
            have i33 := z_eq 0 0 c32 i31 rfl
            refine g_iconst 0 74 (gd rfl) rfl rfl ?_
            refine g_iadd 75 (gd rfl) rfl (fun z34 e35 => ?_)
            have i36 := in_add 0 160 e35 j28_3 (in_c 0 rfl) rfl rfl
            refine g_istore_n 76 (gd rfl) rfl (Nat.le_of_ble_eq_true rfl) ?_
            refine g_aload_n 77 (gd rfl) rfl rfl ?_
            refine g_getA (q2 := 112) 80 (gd rfl) rfl rfl rfl rfl rfl ?_
            refine g_aload_n 81 (gd rfl) rfl rfl ?_
            refine g_getI 84 (gd rfl) rfl rfl rfl (fun z37 e38 => ?_)
            have q39 : z16 = z37 := (e17).trans e38.symm
            subst q39
            refine g_iload 86 (gd rfl) rfl rfl ?_
            refine g_iadd 87 (gd rfl) rfl (fun z40 e41 => ?_)
            have i42 := in_add 0 319 e41 i18 i15 rfl rfl
            refine g_baload 88 (gd rfl) rfl (n := 480) rfl (in_ix i42 rfl) (fun z43 e44 => ?_)
            have i45 := inv_I hI (n := 480) (t := 3) 0 1 rfl (in_ix i42 rfl) rfl e44
            refine g_if_eq 91 96 (gd rfl) rfl rfl (fun c46 => ?_) (fun c46 => ?_)
            · skip
              have i47 := z_eq 0 0 c46 i45 rfl
              refine g_iload 98 (gd rfl) rfl rfl ?_
              refine g_istore 100 (gd rfl) rfl (Nat.le_of_ble_eq_true rfl) ?_
              refine g_iinc 103 (gd rfl) rfl rfl (Nat.le_of_ble_eq_true rfl) (fun z48 e49 => ?_)
              have i50 := in_add 1 160 e49 i15 (in_c 1 rfl) rfl rfl
              refine g_goto 28 (gd rfl) rfl ?_
              have l51 := rl_1 l28_2 (t_add e28 j28_2 (in_c 0 rfl) rfl) (in_c 0 rfl) (t_add e49 i15 (in_c 1 rfl) rfl) (in_c 1 rfl) rfl
              have l52 := rl_1 l28_3 (t_add e35 j28_3 (in_c 0 rfl) rfl) (in_c 0 rfl) (t_add e49 i15 (in_c 1 rfl) rfl) (in_c 1 rfl) rfl
              exact gg_w (by omega) (gg_f (gf_cons rfl (gf_cons rfl (gf_cons rfl (gf_cons rfl (gf_cons rfl (gf_cons rfl gf_nil)))))) (ih28 s y28_1 z27 z34 y28_4 z48 hI (in_w 0 3 j28_1 rfl) (rl_w 0 160 l51 i29 (in_w 0 160 i50 rfl) rfl) (rl_w 0 160 l52 i36 (in_w 0 160 i50 rfl) rfl) (in_w (-1) 159 j28_4 rfl) (in_w 0 160 i50 rfl) l51 l52 (m_up m28 (t_add e49 i15 (in_c 1 rfl) rfl) (in_w 1 1 (in_c 1 rfl) rfl))))
            · skip
              have i53 := z_ne 1 1 c46 i45 rfl
              refine g_iload 93 (gd rfl) rfl rfl ?_
              refine g_goto 98 (gd rfl) rfl ?_
              refine g_istore 100 (gd rfl) rfl (Nat.le_of_ble_eq_true rfl) ?_
              refine g_iinc 103 (gd rfl) rfl rfl (Nat.le_of_ble_eq_true rfl) (fun z54 e55 => ?_)
              have i56 := in_add 1 160 e55 i15 (in_c 1 rfl) rfl rfl
              refine g_goto 28 (gd rfl) rfl ?_
              have l57 := rl_1 l28_2 (t_add e28 j28_2 (in_c 0 rfl) rfl) (in_c 0 rfl) (t_add e55 i15 (in_c 1 rfl) rfl) (in_c 1 rfl) rfl
              have l58 := rl_1 l28_3 (t_add e35 j28_3 (in_c 0 rfl) rfl) (in_c 0 rfl) (t_add e55 i15 (in_c 1 rfl) rfl) (in_c 1 rfl) rfl
              exact gg_w (by omega) (gg_f (gf_cons rfl (gf_cons rfl (gf_cons rfl (gf_cons rfl (gf_cons rfl (gf_cons rfl gf_nil)))))) (ih28 s y28_1 z27 z34 y28_5 z54 hI (in_w 0 3 j28_1 rfl) (rl_w 0 160 l57 i29 (in_w 0 160 i56 rfl) rfl) (rl_w 0 160 l58 i36 (in_w 0 160 i56 rfl) rfl) (in_w (-1) 159 i15 rfl) (in_w 0 160 i56 rfl) l57 l58 (m_up m28 (t_add e55 i15 (in_c 1 rfl) rfl) (in_w 1 1 (in_c 1 rfl) rfl))))
          · skip
            have i59 := z_ne 1 1 c32 i31 rfl
            refine g_iconst 1 70 (gd rfl) rfl rfl ?_
            refine g_goto 74 (gd rfl) rfl ?_
            refine g_iadd 75 (gd rfl) rfl (fun z60 e61 => ?_)
            have i62 := in_add 1 161 e61 j28_3 (in_c 1 rfl) rfl rfl
            refine g_istore_n 76 (gd rfl) rfl (Nat.le_of_ble_eq_true rfl) ?_
            refine g_aload_n 77 (gd rfl) rfl rfl ?_
            refine g_getA (q2 := 112) 80 (gd rfl) rfl rfl rfl rfl rfl ?_
            refine g_aload_n 81 (gd rfl) rfl rfl ?_
            refine g_getI 84 (gd rfl) rfl rfl rfl (fun z63 e64 => ?_)
            have q65 : z16 = z63 := (e17).trans e64.symm
            subst q65
            refine g_iload 86 (gd rfl) rfl rfl ?_
            refine g_iadd 87 (gd rfl) rfl (fun z66 e67 => ?_)
            have i68 := in_add 0 319 e67 i18 i15 rfl rfl
            refine g_baload 88 (gd rfl) rfl (n := 480) rfl (in_ix i68 rfl) (fun z69 e70 => ?_)
            have i71 := inv_I hI (n := 480) (t := 3) 0 1 rfl (in_ix i68 rfl) rfl e70
            refine g_if_eq 91 96 (gd rfl) rfl rfl (fun c72 => ?_) (fun c72 => ?_)
            · skip
              have i73 := z_eq 0 0 c72 i71 rfl
              refine g_iload 98 (gd rfl) rfl rfl ?_
              refine g_istore 100 (gd rfl) rfl (Nat.le_of_ble_eq_true rfl) ?_
              refine g_iinc 103 (gd rfl) rfl rfl (Nat.le_of_ble_eq_true rfl) (fun z74 e75 => ?_)
              have i76 := in_add 1 160 e75 i15 (in_c 1 rfl) rfl rfl
              refine g_goto 28 (gd rfl) rfl ?_
              have l77 := rl_1 l28_2 (t_add e28 j28_2 (in_c 0 rfl) rfl) (in_c 0 rfl) (t_add e75 i15 (in_c 1 rfl) rfl) (in_c 1 rfl) rfl
              have l78 := rl_1 l28_3 (t_add e61 j28_3 (in_c 1 rfl) rfl) (in_c 1 rfl) (t_add e75 i15 (in_c 1 rfl) rfl) (in_c 1 rfl) rfl
              exact gg_w (by omega) (gg_f (gf_cons rfl (gf_cons rfl (gf_cons rfl (gf_cons rfl (gf_cons rfl (gf_cons rfl gf_nil)))))) (ih28 s y28_1 z27 z60 y28_4 z74 hI (in_w 0 3 j28_1 rfl) (rl_w 0 160 l77 i29 (in_w 0 160 i76 rfl) rfl) (rl_w 0 160 l78 i62 (in_w 0 160 i76 rfl) rfl) (in_w (-1) 159 j28_4 rfl) (in_w 0 160 i76 rfl) l77 l78 (m_up m28 (t_add e75 i15 (in_c 1 rfl) rfl) (in_w 1 1 (in_c 1 rfl) rfl))))
            · skip
              have i79 := z_ne 1 1 c72 i71 rfl
              refine g_iload 93 (gd rfl) rfl rfl ?_
              refine g_goto 98 (gd rfl) rfl ?_
              refine g_istore 100 (gd rfl) rfl (Nat.le_of_ble_eq_true rfl) ?_
              refine g_iinc 103 (gd rfl) rfl rfl (Nat.le_of_ble_eq_true rfl) (fun z80 e81 => ?_)
              have i82 := in_add 1 160 e81 i15 (in_c 1 rfl) rfl rfl
              refine g_goto 28 (gd rfl) rfl ?_
              have l83 := rl_1 l28_2 (t_add e28 j28_2 (in_c 0 rfl) rfl) (in_c 0 rfl) (t_add e81 i15 (in_c 1 rfl) rfl) (in_c 1 rfl) rfl
              have l84 := rl_1 l28_3 (t_add e61 j28_3 (in_c 1 rfl) rfl) (in_c 1 rfl) (t_add e81 i15 (in_c 1 rfl) rfl) (in_c 1 rfl) rfl
              exact gg_w (by omega) (gg_f (gf_cons rfl (gf_cons rfl (gf_cons rfl (gf_cons rfl (gf_cons rfl (gf_cons rfl gf_nil)))))) (ih28 s y28_1 z27 z60 y28_5 z80 hI (in_w 0 3 j28_1 rfl) (rl_w 0 160 l83 i29 (in_w 0 160 i82 rfl) rfl) (rl_w 0 160 l84 i62 (in_w 0 160 i82 rfl) rfl) (in_w (-1) 159 i15 rfl) (in_w 0 160 i82 rfl) l83 l84 (m_up m28 (t_add e81 i15 (in_c 1 rfl) rfl) (in_w 1 1 (in_c 1 rfl) rfl))))
        · skip
          have i85 := z_ne 1 1 c25 i24 rfl
          refine g_iconst 1 53 (gd rfl) rfl rfl ?_
          refine g_goto 57 (gd rfl) rfl ?_
          refine g_iadd 58 (gd rfl) rfl (fun z86 e87 => ?_)
          have i88 := in_add 1 161 e87 j28_2 (in_c 1 rfl) rfl rfl
          refine g_istore_n 59 (gd rfl) rfl (Nat.le_of_ble_eq_true rfl) ?_
          refine g_iload_n 60 (gd rfl) rfl rfl ?_
          refine g_aload_n 61 (gd rfl) rfl rfl ?_
          refine g_iload 63 (gd rfl) rfl rfl ?_
          refine g_callv (X := _) (As := [.int y28_5]) (r := [.int y28_3]) (b := A 109) (q := 109) 66 (gd rfl) rfl rfl rfl rfl rfl (ww_o rfl) (Nat.le_of_ble_eq_true rfl) (Nat.zero_le _) (Nat.zero_le _) (k_288 (by omega) hI (in_w 0 159 i15 rfl)) (fun e u h => h) (fun v u h => ?_)
          obtain ⟨z89, rfl, rfl, i90⟩ := h
          show GG _ _ _ _ _ _ _ _ [.int z89, .int y28_3] _ _ _
          refine g_if_eq 69 73 (gd rfl) rfl rfl (fun c91 => ?_) (fun c91 => ?_)
          · skip
            have i92 := z_eq 0 0 c91 i90 rfl
            refine g_iconst 0 74 (gd rfl) rfl rfl ?_
            refine g_iadd 75 (gd rfl) rfl (fun z93 e94 => ?_)
            have i95 := in_add 0 160 e94 j28_3 (in_c 0 rfl) rfl rfl
            refine g_istore_n 76 (gd rfl) rfl (Nat.le_of_ble_eq_true rfl) ?_
            refine g_aload_n 77 (gd rfl) rfl rfl ?_
            refine g_getA (q2 := 112) 80 (gd rfl) rfl rfl rfl rfl rfl ?_
            refine g_aload_n 81 (gd rfl) rfl rfl ?_
            refine g_getI 84 (gd rfl) rfl rfl rfl (fun z96 e97 => ?_)
            have q98 : z16 = z96 := (e17).trans e97.symm
            subst q98
            refine g_iload 86 (gd rfl) rfl rfl ?_
            refine g_iadd 87 (gd rfl) rfl (fun z99 e100 => ?_)
            have i101 := in_add 0 319 e100 i18 i15 rfl rfl
            refine g_baload 88 (gd rfl) rfl (n := 480) rfl (in_ix i101 rfl) (fun z102 e103 => ?_)
            have i104 := inv_I hI (n := 480) (t := 3) 0 1 rfl (in_ix i101 rfl) rfl e103
            refine g_if_eq 91 96 (gd rfl) rfl rfl (fun c105 => ?_) (fun c105 => ?_)
            · skip
              have i106 := z_eq 0 0 c105 i104 rfl
              refine g_iload 98 (gd rfl) rfl rfl ?_
              refine g_istore 100 (gd rfl) rfl (Nat.le_of_ble_eq_true rfl) ?_
              refine g_iinc 103 (gd rfl) rfl rfl (Nat.le_of_ble_eq_true rfl) (fun z107 e108 => ?_)
              have i109 := in_add 1 160 e108 i15 (in_c 1 rfl) rfl rfl
              refine g_goto 28 (gd rfl) rfl ?_
              have l110 := rl_1 l28_2 (t_add e87 j28_2 (in_c 1 rfl) rfl) (in_c 1 rfl) (t_add e108 i15 (in_c 1 rfl) rfl) (in_c 1 rfl) rfl
              have l111 := rl_1 l28_3 (t_add e94 j28_3 (in_c 0 rfl) rfl) (in_c 0 rfl) (t_add e108 i15 (in_c 1 rfl) rfl) (in_c 1 rfl) rfl
              exact gg_w (by omega) (gg_f (gf_cons rfl (gf_cons rfl (gf_cons rfl (gf_cons rfl (gf_cons rfl (gf_cons rfl gf_nil)))))) (ih28 s y28_1 z86 z93 y28_4 z107 hI (in_w 0 3 j28_1 rfl) (rl_w 0 160 l110 i88 (in_w 0 160 i109 rfl) rfl) (rl_w 0 160 l111 i95 (in_w 0 160 i109 rfl) rfl) (in_w (-1) 159 j28_4 rfl) (in_w 0 160 i109 rfl) l110 l111 (m_up m28 (t_add e108 i15 (in_c 1 rfl) rfl) (in_w 1 1 (in_c 1 rfl) rfl))))
            · skip
              have i112 := z_ne 1 1 c105 i104 rfl
              refine g_iload 93 (gd rfl) rfl rfl ?_
              refine g_goto 98 (gd rfl) rfl ?_
              refine g_istore 100 (gd rfl) rfl (Nat.le_of_ble_eq_true rfl) ?_
              refine g_iinc 103 (gd rfl) rfl rfl (Nat.le_of_ble_eq_true rfl) (fun z113 e114 => ?_)
              have i115 := in_add 1 160 e114 i15 (in_c 1 rfl) rfl rfl
              refine g_goto 28 (gd rfl) rfl ?_
              have l116 := rl_1 l28_2 (t_add e87 j28_2 (in_c 1 rfl) rfl) (in_c 1 rfl) (t_add e114 i15 (in_c 1 rfl) rfl) (in_c 1 rfl) rfl
              have l117 := rl_1 l28_3 (t_add e94 j28_3 (in_c 0 rfl) rfl) (in_c 0 rfl) (t_add e114 i15 (in_c 1 rfl) rfl) (in_c 1 rfl) rfl
              exact gg_w (by omega) (gg_f (gf_cons rfl (gf_cons rfl (gf_cons rfl (gf_cons rfl (gf_cons rfl (gf_cons rfl gf_nil)))))) (ih28 s y28_1 z86 z93 y28_5 z113 hI (in_w 0 3 j28_1 rfl) (rl_w 0 160 l116 i88 (in_w 0 160 i115 rfl) rfl) (rl_w 0 160 l117 i95 (in_w 0 160 i115 rfl) rfl) (in_w (-1) 159 i15 rfl) (in_w 0 160 i115 rfl) l116 l117 (m_up m28 (t_add e114 i15 (in_c 1 rfl) rfl) (in_w 1 1 (in_c 1 rfl) rfl))))
          · skip
            have i118 := z_ne 1 1 c91 i90 rfl
            refine g_iconst 1 70 (gd rfl) rfl rfl ?_
            refine g_goto 74 (gd rfl) rfl ?_
            refine g_iadd 75 (gd rfl) rfl (fun z119 e120 => ?_)
            have i121 := in_add 1 161 e120 j28_3 (in_c 1 rfl) rfl rfl
            refine g_istore_n 76 (gd rfl) rfl (Nat.le_of_ble_eq_true rfl) ?_
            refine g_aload_n 77 (gd rfl) rfl rfl ?_
            refine g_getA (q2 := 112) 80 (gd rfl) rfl rfl rfl rfl rfl ?_
            refine g_aload_n 81 (gd rfl) rfl rfl ?_
            refine g_getI 84 (gd rfl) rfl rfl rfl (fun z122 e123 => ?_)
            have q124 : z16 = z122 := (e17).trans e123.symm
            subst q124
            refine g_iload 86 (gd rfl) rfl rfl ?_
            refine g_iadd 87 (gd rfl) rfl (fun z125 e126 => ?_)
            have i127 := in_add 0 319 e126 i18 i15 rfl rfl
            refine g_baload 88 (gd rfl) rfl (n := 480) rfl (in_ix i127 rfl) (fun z128 e129 => ?_)
            have i130 := inv_I hI (n := 480) (t := 3) 0 1 rfl (in_ix i127 rfl) rfl e129
            refine g_if_eq 91 96 (gd rfl) rfl rfl (fun c131 => ?_) (fun c131 => ?_)
            · skip
              have i132 := z_eq 0 0 c131 i130 rfl
              refine g_iload 98 (gd rfl) rfl rfl ?_
              refine g_istore 100 (gd rfl) rfl (Nat.le_of_ble_eq_true rfl) ?_
              refine g_iinc 103 (gd rfl) rfl rfl (Nat.le_of_ble_eq_true rfl) (fun z133 e134 => ?_)
              have i135 := in_add 1 160 e134 i15 (in_c 1 rfl) rfl rfl
              refine g_goto 28 (gd rfl) rfl ?_
              have l136 := rl_1 l28_2 (t_add e87 j28_2 (in_c 1 rfl) rfl) (in_c 1 rfl) (t_add e134 i15 (in_c 1 rfl) rfl) (in_c 1 rfl) rfl
              have l137 := rl_1 l28_3 (t_add e120 j28_3 (in_c 1 rfl) rfl) (in_c 1 rfl) (t_add e134 i15 (in_c 1 rfl) rfl) (in_c 1 rfl) rfl
              exact gg_w (by omega) (gg_f (gf_cons rfl (gf_cons rfl (gf_cons rfl (gf_cons rfl (gf_cons rfl (gf_cons rfl gf_nil)))))) (ih28 s y28_1 z86 z119 y28_4 z133 hI (in_w 0 3 j28_1 rfl) (rl_w 0 160 l136 i88 (in_w 0 160 i135 rfl) rfl) (rl_w 0 160 l137 i121 (in_w 0 160 i135 rfl) rfl) (in_w (-1) 159 j28_4 rfl) (in_w 0 160 i135 rfl) l136 l137 (m_up m28 (t_add e134 i15 (in_c 1 rfl) rfl) (in_w 1 1 (in_c 1 rfl) rfl))))
            · skip
              have i138 := z_ne 1 1 c131 i130 rfl
              refine g_iload 93 (gd rfl) rfl rfl ?_
              refine g_goto 98 (gd rfl) rfl ?_
              refine g_istore 100 (gd rfl) rfl (Nat.le_of_ble_eq_true rfl) ?_
              refine g_iinc 103 (gd rfl) rfl rfl (Nat.le_of_ble_eq_true rfl) (fun z139 e140 => ?_)
              have i141 := in_add 1 160 e140 i15 (in_c 1 rfl) rfl rfl
              refine g_goto 28 (gd rfl) rfl ?_
              have l142 := rl_1 l28_2 (t_add e87 j28_2 (in_c 1 rfl) rfl) (in_c 1 rfl) (t_add e140 i15 (in_c 1 rfl) rfl) (in_c 1 rfl) rfl
              have l143 := rl_1 l28_3 (t_add e120 j28_3 (in_c 1 rfl) rfl) (in_c 1 rfl) (t_add e140 i15 (in_c 1 rfl) rfl) (in_c 1 rfl) rfl
              exact gg_w (by omega) (gg_f (gf_cons rfl (gf_cons rfl (gf_cons rfl (gf_cons rfl (gf_cons rfl (gf_cons rfl gf_nil)))))) (ih28 s y28_1 z86 z119 y28_5 z139 hI (in_w 0 3 j28_1 rfl) (rl_w 0 160 l142 i88 (in_w 0 160 i141 rfl) rfl) (rl_w 0 160 l143 i121 (in_w 0 160 i141 rfl) rfl) (in_w (-1) 159 i15 rfl) (in_w 0 160 i141 rfl) l142 l143 (m_up m28 (t_add e140 i15 (in_c 1 rfl) rfl) (in_w 1 1 (in_c 1 rfl) rfl))))
  refine g_enter2 (k := 289) (N := 145801) (by omega) rfl (Nat.le_of_ble_eq_true rfl) ?_
  refine g_aload_n 1 (gd rfl) rfl rfl ?_
  refine g_iload_n 2 (gd rfl) rfl rfl ?_
  refine g_i2l 3 (gd rfl) rfl (fun z144 e145 => ?_)
  have i146 := l_i e145 (i_rng x1)
  refine g_lconst 0 4 (gd rfl) rfl rfl ?_
  refine g_ldc2_w 3 7 (gd rfl) rfl rfl ?_
  refine g_calls (As := [.long z144, .long (Int64.ofInt 0), .long (Int64.ofInt 3)]) (r := [.ref (A 109)]) 10 (gd rfl) rfl rfl rfl rfl rfl (Nat.le_of_ble_eq_true rfl) (mc := 0) (ms := 0) (Nat.zero_le _) (Nat.zero_le _) (P := fun v u => _) ?_ (fun v u h => h)
  intro po147 xx148 hp149 hx150
  refine g_enter2 (k := 269) (N := 300) (by omega) rfl (Nat.le_of_ble_eq_true rfl) ?_
  refine g_lload_n 1 (gd rfl) rfl rfl ?_
  refine g_lload_n 2 (gd rfl) rfl rfl ?_
  refine g_lcmp 3 (gd rfl) rfl (fun z151 e152 => ?_)
  have i153 := lc_in e152
  refine g_if_lt 6 17 (gd rfl) rfl rfl (fun c154 => ?_) (fun c154 => ?_)
  · skip
    have i155 := z_lt (-1) (-1) c154 i153 rfl
    have c156 := lc_lt e152 c154
    have i157 := lr_lt1 (-2147483648) (-1) c156 i146 (l_c 0 rfl) rfl
    have i158 := l_b e145 i157
    refine g_iconst 0 18 (gd rfl) rfl rfl ?_
    refine g_ireturn (gd rfl) rfl (nb01 (in_w 0 1 (in_c 0 rfl) rfl)) (hp149 _ _ ?_)
    show GG _ _ _ _ _ _ _ _ [.int (Int32.ofInt 0), .ref (A 109)] _ _ _
    refine g_callv (X := _) (As := [.int (Int32.ofInt 0)]) (r := []) (b := A 109) (q := 109) 13 (gd rfl) rfl rfl rfl rfl rfl (ww_o rfl) (Nat.le_of_ble_eq_true rfl) (mc := 0) (ms := 0) (Nat.zero_le _) (Nat.zero_le _) (P := fun v u => _) ?_ (fun e u h => h) (fun v u h => h)
    intro po159 xx160 hp161 hx162
    refine g_enter2 (k := 271) (N := 300) (by omega) rfl (Nat.le_of_ble_eq_true rfl) ?_
    refine g_aload_n 1 (gd rfl) rfl rfl ?_
    refine g_iload_n 2 (gd rfl) rfl rfl ?_
    refine g_iconst 1 3 (gd rfl) rfl rfl ?_
    refine g_callv (X := _) (As := [.int (Int32.ofInt 0), .int (Int32.ofInt 1)]) (r := []) (b := A 109) (q := 109) 6 (gd rfl) rfl rfl rfl rfl rfl (ww_o rfl) (Nat.le_of_ble_eq_true rfl) (mc := 0) (ms := 0) (Nat.zero_le _) (Nat.zero_le _) (P := fun v u => _) ?_ (fun e u h => h) (fun v u h => h)
    intro po163 xx164 hp165 hx166
    refine g_enter2 (k := 270) (N := 300) (by omega) rfl (Nat.le_of_ble_eq_true rfl) ?_
    refine g_aload_n 1 (gd rfl) rfl rfl ?_
    refine g_iload_n 2 (gd rfl) rfl rfl ?_
    refine g_if_ne 5 9 (gd rfl) rfl rfl (fun c167 => ?_) (fun c167 => ?_)
    · skip
      exact zn_ne c167 (in_c 0 rfl) rfl
    · skip
      refine g_iconst 1 6 (gd rfl) rfl rfl ?_
      refine g_goto 18 (gd rfl) rfl ?_
      refine g_putI 21 (gd rfl) rfl rfl rfl rfl ?_
      have hI168 := inv_sF (q := 109) (j := 0) hI rfl (in_w 0 2 (in_c 1 rfl) rfl)
      refine g_aload_n 22 (gd rfl) rfl rfl ?_
      refine g_getI 25 (gd rfl) rfl rfl rfl (fun z169 e170 => ?_)
      have q171 : (Int32.ofInt 1) = z169 := (sF_get).trans e170.symm
      subst q171
      refine g_if_le 28 32 (gd rfl) rfl rfl (fun c172 => ?_) (fun c172 => ?_)
      · skip
        exact zn_le c172 (in_c 1 rfl) rfl
      · skip
        refine g_iconst 1 29 (gd rfl) rfl rfl ?_
        refine g_goto 33 (gd rfl) rfl ?_
        refine g_ireturn (gd rfl) rfl (nb01 (in_w 0 1 (in_c 1 rfl) rfl)) (hp165 _ _ ?_)
        show GG _ _ _ _ _ _ _ _ [.int (Int32.ofInt 1)] _ _ _
        refine g_ireturn (gd rfl) rfl (nb01 (in_w 0 1 (in_c 1 rfl) rfl)) (hp161 _ _ ?_)
        show GG _ _ _ _ _ _ _ _ [.int (Int32.ofInt 1)] _ _ _
        refine g_if_eq 16 18 (gd rfl) rfl rfl (fun c173 => ?_) (fun c173 => ?_)
        · skip
          exact zn_eq c173 (in_c 1 rfl) rfl
        · skip
          refine g_iconst 0 17 (gd rfl) rfl rfl ?_
          exact g_ireturn (gd rfl) rfl rfl (hP _ _ ⟨(sF s 109 0 (Int32.ofInt 1)), hI168, (Int32.ofInt 0), rfl, rfl, in_w (-1) 160 (in_c 0 rfl) rfl⟩)
  · skip
    have i174 := z_ge 0 1 c154 i153 rfl
    have c175 := lc_ge e152 c154
    have i176 := lr_le2 0 2147483647 c175 (l_c 0 rfl) i146 rfl
    have i177 := l_b e145 i176
    refine g_lload_n 7 (gd rfl) rfl rfl ?_
    refine g_lload 9 (gd rfl) rfl rfl ?_
    refine g_lcmp 10 (gd rfl) rfl (fun z178 e179 => ?_)
    have i180 := lc_in e179
    refine g_if_gt 13 17 (gd rfl) rfl rfl (fun c181 => ?_) (fun c181 => ?_)
    · skip
      have i182 := z_gt 1 1 c181 i180 rfl
      have c183 := lc_gt e179 c181
      have i184 := lr_lt2 4 2147483647 c183 (l_c 3 rfl) i176 rfl
      have i185 := l_b e145 i184
      refine g_iconst 0 18 (gd rfl) rfl rfl ?_
      refine g_ireturn (gd rfl) rfl (nb01 (in_w 0 1 (in_c 0 rfl) rfl)) (hp149 _ _ ?_)
      show GG _ _ _ _ _ _ _ _ [.int (Int32.ofInt 0), .ref (A 109)] _ _ _
      refine g_callv (X := _) (As := [.int (Int32.ofInt 0)]) (r := []) (b := A 109) (q := 109) 13 (gd rfl) rfl rfl rfl rfl rfl (ww_o rfl) (Nat.le_of_ble_eq_true rfl) (mc := 0) (ms := 0) (Nat.zero_le _) (Nat.zero_le _) (P := fun v u => _) ?_ (fun e u h => h) (fun v u h => h)
      intro po186 xx187 hp188 hx189
      refine g_enter2 (k := 271) (N := 300) (by omega) rfl (Nat.le_of_ble_eq_true rfl) ?_
      refine g_aload_n 1 (gd rfl) rfl rfl ?_
      refine g_iload_n 2 (gd rfl) rfl rfl ?_
      refine g_iconst 1 3 (gd rfl) rfl rfl ?_
      refine g_callv (X := _) (As := [.int (Int32.ofInt 0), .int (Int32.ofInt 1)]) (r := []) (b := A 109) (q := 109) 6 (gd rfl) rfl rfl rfl rfl rfl (ww_o rfl) (Nat.le_of_ble_eq_true rfl) (mc := 0) (ms := 0) (Nat.zero_le _) (Nat.zero_le _) (P := fun v u => _) ?_ (fun e u h => h) (fun v u h => h)
      intro po190 xx191 hp192 hx193
      refine g_enter2 (k := 270) (N := 300) (by omega) rfl (Nat.le_of_ble_eq_true rfl) ?_
      refine g_aload_n 1 (gd rfl) rfl rfl ?_
      refine g_iload_n 2 (gd rfl) rfl rfl ?_
      refine g_if_ne 5 9 (gd rfl) rfl rfl (fun c194 => ?_) (fun c194 => ?_)
      · skip
        exact zn_ne c194 (in_c 0 rfl) rfl
      · skip
        refine g_iconst 1 6 (gd rfl) rfl rfl ?_
        refine g_goto 18 (gd rfl) rfl ?_
        refine g_putI 21 (gd rfl) rfl rfl rfl rfl ?_
        have hI195 := inv_sF (q := 109) (j := 0) hI rfl (in_w 0 2 (in_c 1 rfl) rfl)
        refine g_aload_n 22 (gd rfl) rfl rfl ?_
        refine g_getI 25 (gd rfl) rfl rfl rfl (fun z196 e197 => ?_)
        have q198 : (Int32.ofInt 1) = z196 := (sF_get).trans e197.symm
        subst q198
        refine g_if_le 28 32 (gd rfl) rfl rfl (fun c199 => ?_) (fun c199 => ?_)
        · skip
          exact zn_le c199 (in_c 1 rfl) rfl
        · skip
          refine g_iconst 1 29 (gd rfl) rfl rfl ?_
          refine g_goto 33 (gd rfl) rfl ?_
          refine g_ireturn (gd rfl) rfl (nb01 (in_w 0 1 (in_c 1 rfl) rfl)) (hp192 _ _ ?_)
          show GG _ _ _ _ _ _ _ _ [.int (Int32.ofInt 1)] _ _ _
          refine g_ireturn (gd rfl) rfl (nb01 (in_w 0 1 (in_c 1 rfl) rfl)) (hp188 _ _ ?_)
          show GG _ _ _ _ _ _ _ _ [.int (Int32.ofInt 1)] _ _ _
          refine g_if_eq 16 18 (gd rfl) rfl rfl (fun c200 => ?_) (fun c200 => ?_)
          · skip
            exact zn_eq c200 (in_c 1 rfl) rfl
          · skip
            refine g_iconst 0 17 (gd rfl) rfl rfl ?_
            exact g_ireturn (gd rfl) rfl rfl (hP _ _ ⟨(sF s 109 0 (Int32.ofInt 1)), hI195, (Int32.ofInt 0), rfl, rfl, in_w (-1) 160 (in_c 0 rfl) rfl⟩)
    · skip
      have i201 := z_le (-1) 0 c181 i180 rfl
      have c202 := lc_le e179 c181
      have i203 := lr_le1 0 3 c202 i176 (l_c 3 rfl) rfl
      have i204 := l_b e145 i203
      refine g_iconst 1 14 (gd rfl) rfl rfl ?_
      refine g_goto 18 (gd rfl) rfl ?_
      refine g_ireturn (gd rfl) rfl (nb01 (in_w 0 1 (in_c 1 rfl) rfl)) (hp149 _ _ ?_)
      show GG _ _ _ _ _ _ _ _ [.int (Int32.ofInt 1), .ref (A 109)] _ _ _
      refine g_callv (X := _) (As := [.int (Int32.ofInt 1)]) (r := []) (b := A 109) (q := 109) 13 (gd rfl) rfl rfl rfl rfl rfl (ww_o rfl) (Nat.le_of_ble_eq_true rfl) (mc := 0) (ms := 0) (Nat.zero_le _) (Nat.zero_le _) (P := fun v u => _) ?_ (fun e u h => h) (fun v u h => h)
      intro po205 xx206 hp207 hx208
      refine g_enter2 (k := 271) (N := 300) (by omega) rfl (Nat.le_of_ble_eq_true rfl) ?_
      refine g_aload_n 1 (gd rfl) rfl rfl ?_
      refine g_iload_n 2 (gd rfl) rfl rfl ?_
      refine g_iconst 1 3 (gd rfl) rfl rfl ?_
      refine g_callv (X := _) (As := [.int (Int32.ofInt 1), .int (Int32.ofInt 1)]) (r := []) (b := A 109) (q := 109) 6 (gd rfl) rfl rfl rfl rfl rfl (ww_o rfl) (Nat.le_of_ble_eq_true rfl) (mc := 0) (ms := 0) (Nat.zero_le _) (Nat.zero_le _) (P := fun v u => _) ?_ (fun e u h => h) (fun v u h => h)
      intro po209 xx210 hp211 hx212
      refine g_enter2 (k := 270) (N := 300) (by omega) rfl (Nat.le_of_ble_eq_true rfl) ?_
      refine g_aload_n 1 (gd rfl) rfl rfl ?_
      refine g_iload_n 2 (gd rfl) rfl rfl ?_
      refine g_if_ne 5 9 (gd rfl) rfl rfl (fun c213 => ?_) (fun c213 => ?_)
      · skip
        refine g_iload_n 10 (gd rfl) rfl rfl ?_
        refine g_if_ne 13 17 (gd rfl) rfl rfl (fun c214 => ?_) (fun c214 => ?_)
        · skip
          refine g_iconst 0 18 (gd rfl) rfl rfl ?_
          refine g_putI 21 (gd rfl) rfl rfl rfl rfl ?_
          have hI215 := inv_sF (q := 109) (j := 0) hI rfl (in_w 0 2 (in_c 0 rfl) rfl)
          refine g_aload_n 22 (gd rfl) rfl rfl ?_
          refine g_getI 25 (gd rfl) rfl rfl rfl (fun z216 e217 => ?_)
          have q218 : (Int32.ofInt 0) = z216 := (sF_get).trans e217.symm
          subst q218
          refine g_if_le 28 32 (gd rfl) rfl rfl (fun c219 => ?_) (fun c219 => ?_)
          · skip
            refine g_iconst 0 33 (gd rfl) rfl rfl ?_
            refine g_ireturn (gd rfl) rfl (nb01 (in_w 0 1 (in_c 0 rfl) rfl)) (hp211 _ _ ?_)
            show GG _ _ _ _ _ _ _ _ [.int (Int32.ofInt 0)] _ _ _
            refine g_ireturn (gd rfl) rfl (nb01 (in_w 0 1 (in_c 0 rfl) rfl)) (hp207 _ _ ?_)
            show GG _ _ _ _ _ _ _ _ [.int (Int32.ofInt 0)] _ _ _
            refine g_if_eq 16 18 (gd rfl) rfl rfl (fun c220 => ?_) (fun c220 => ?_)
            · skip
              refine g_iconst 0 19 (gd rfl) rfl rfl ?_
              refine g_istore_n 20 (gd rfl) rfl (Nat.le_of_ble_eq_true rfl) ?_
              refine g_iconst 0 21 (gd rfl) rfl rfl ?_
              refine g_istore_n 22 (gd rfl) rfl (Nat.le_of_ble_eq_true rfl) ?_
              refine g_iconst (-1) 23 (gd rfl) rfl rfl ?_
              refine g_istore 25 (gd rfl) rfl (Nat.le_of_ble_eq_true rfl) ?_
              refine g_iconst 0 26 (gd rfl) rfl rfl ?_
              refine g_istore 28 (gd rfl) rfl (Nat.le_of_ble_eq_true rfl) ?_
              have l221 := rl_in 0 (in_c 0 rfl) (in_c 0 rfl) rfl
              have l222 := rl_in 0 (in_c 0 rfl) (in_c 0 rfl) rfl
              exact gg_w (by omega) (gg_f (gf_cons rfl (gf_cons rfl (gf_cons rfl (gf_cons rfl (gf_cons rfl (gf_cons rfl gf_nil)))))) (c28 161 (sF s 109 0 (Int32.ofInt 0)) x1 (Int32.ofInt 0) (Int32.ofInt 0) (Int32.ofInt (-1)) (Int32.ofInt 0) hI215 (in_w 0 3 i204 rfl) (rl_w 0 160 l221 (in_c 0 rfl) (in_w 0 160 (in_c 0 rfl) rfl) rfl) (rl_w 0 160 l222 (in_c 0 rfl) (in_w 0 160 (in_c 0 rfl) rfl) rfl) (in_w (-1) 159 (in_c (-1) rfl) rfl) (in_w 0 160 (in_c 0 rfl) rfl) l221 l222 (m_in 161 (in_w 0 160 (in_c 0 rfl) rfl) rfl)))
            · skip
              exact zn_ne c220 (in_c 0 rfl) rfl
          · skip
            exact zn_gt c219 (in_c 0 rfl) rfl
        · skip
          exact zn_eq c214 (in_c 1 rfl) rfl
      · skip
        exact zn_eq c213 (in_c 1 rfl) rfl
