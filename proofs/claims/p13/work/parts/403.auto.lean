/-! methods, by vc.py -/
/-- GraphHouseModel.size -/
theorem k_289 {Z : AmZ} {A : Nat → Nat} {s : GS} {ex : va_W} {d : Nat} {X : AmX} {x1 : Int32} (hd : 4 ≤ d) (hI : Inv s)  : GC Z d 289 [.ref (A 109), .int x1] (WW Z A s ++ ex) 0 0 (fun v u => ∃ t : GS, Inv t ∧ ∃ z : Int32, v = some (.int z) ∧ u = WW Z A t ++ ex ∧ In z (-1) 160) X := by
  intro post xp hP hX
  have ct28 : ∀ (k28 : Nat) (s : GS) (y28_2 : Int32) (y28_3 : Int32) (y28_4 : Int32) (y28_5 : Int32), Inv s → In x1 0 3 → In y28_2 0 160 → In y28_3 0 160 → In y28_4 (-1) 159 → In y28_5 0 160 → (y28_2).toInt ≤ (y28_5).toInt + 0 → (y28_3).toInt ≤ (y28_5).toInt + 0 → 160 - (y28_5).toInt < (k28 : Int) → GG Z (d - 1) 289 post (gx xp) (1 + k28 * 900) 28 (fun j => xlook j [(0, .ref (A 109)), (1, .int x1), (2, .int y28_2), (3, .int y28_3), (4, .int y28_4), (5, .int y28_5)]) [] (WW Z A s ++ ex) 0 0 := by
    intro k28
    induction k28 with
    | zero => intro s y28_2 y28_3 y28_4 y28_5 hI j28_1 j28_2 j28_3 j28_4 j28_5 l28_2 l28_3 mm28; exact m_no mm28 j28_5 rfl
    | succ k28 ih28 =>
      intro s y28_2 y28_3 y28_4 y28_5 hI j28_1 j28_2 j28_3 j28_4 j28_5 l28_2 l28_3 mm28
      refine gg_w (M := 1 + k28 * 900 + 900) (by omega) ?_
      refine g_iload 30 (gd rfl) rfl rfl ?_
      refine g_sipush 160 33 (gd rfl) rfl rfl ?_
      refine g_cmp_ge 36 106 (gd rfl) rfl rfl (fun c1 => ?_) (fun c1 => ?_)
      · skip
        have i2 := r_le2 160 160 c1 (in_c 160 rfl) j28_5 rfl
        refine g_iload_n 107 (gd rfl) rfl rfl ?_
        refine g_if_ne 110 117 (gd rfl) rfl rfl (fun c3 => ?_) (fun c3 => ?_)
        · skip
          have i4 := z_ne 1 3 c3 j28_1 rfl
          refine g_iload_n 118 (gd rfl) rfl rfl ?_
          refine g_iconst 1 119 (gd rfl) rfl rfl ?_
          refine g_cmp_ne 122 126 (gd rfl) rfl rfl (fun c5 => ?_) (fun c5 => ?_)
          · skip
            have i6 := r_ne1 2 3 c5 i4 (in_c 1 rfl) rfl
            refine g_iload_n 127 (gd rfl) rfl rfl ?_
            refine g_iconst 2 128 (gd rfl) rfl rfl ?_
            refine g_cmp_ne 131 135 (gd rfl) rfl rfl (fun c7 => ?_) (fun c7 => ?_)
            · skip
              have i8 := r_ne1 3 3 c7 i6 (in_c 2 rfl) rfl
              refine g_iload 137 (gd rfl) rfl rfl ?_
              exact g_ireturn (gd rfl) rfl rfl (hP _ _ ⟨s, hI, y28_4, rfl, rfl, in_w (-1) 160 j28_4 rfl⟩)
            · skip
              have i9 := r_eq1 2 2 c7 i6 (in_c 2 rfl) rfl
              refine g_iload_n 132 (gd rfl) rfl rfl ?_
              refine g_goto 137 (gd rfl) rfl ?_
              exact g_ireturn (gd rfl) rfl rfl (hP _ _ ⟨s, hI, y28_3, rfl, rfl, in_w (-1) 160 j28_3 rfl⟩)
          · skip
            have i10 := r_eq1 1 1 c5 i4 (in_c 1 rfl) rfl
            refine g_iload_n 123 (gd rfl) rfl rfl ?_
            refine g_goto 137 (gd rfl) rfl ?_
            exact g_ireturn (gd rfl) rfl rfl (hP _ _ ⟨s, hI, y28_2, rfl, rfl, in_w (-1) 160 j28_2 rfl⟩)
        · skip
          have i11 := z_eq 0 0 c3 j28_1 rfl
          refine g_aload_n 111 (gd rfl) rfl rfl ?_
          refine g_getI 114 (gd rfl) rfl rfl rfl (fun z12 e13 => ?_)
          have i14 := inv_F hI 0 32 rfl e13
          refine g_goto 137 (gd rfl) rfl ?_
          exact g_ireturn (gd rfl) rfl rfl (hP _ _ ⟨s, hI, z12, rfl, rfl, in_w (-1) 160 i14 rfl⟩)
      · skip
        have i15 := r_lt1 0 159 c1 j28_5 (in_c 160 rfl) rfl
        refine g_iload_n 37 (gd rfl) rfl rfl ?_
        refine g_aload_n 38 (gd rfl) rfl rfl ?_
        refine g_getA (q2 := 112) 41 (gd rfl) rfl rfl rfl rfl rfl ?_
        refine g_aload_n 42 (gd rfl) rfl rfl ?_
        refine g_getI 45 (gd rfl) rfl rfl rfl (fun z16 e17 => ?_)
        have i18 := inv_F hI 0 160 rfl e17
        refine g_iload 47 (gd rfl) rfl rfl ?_
        refine g_iadd 48 (gd rfl) rfl (fun z19 e20 => ?_)
        have i21 := in_add 0 319 e20 i18 i15 rfl rfl
        refine g_baload 49 (gd rfl) rfl (n := 480) rfl (in_ix i21 rfl) (fun z22 e23 => ?_)
        have i24 := inv_I hI (n := 480) (t := 3) 0 1 rfl (in_ix i21 rfl) rfl e23
        refine g_if_eq 52 56 (gd rfl) rfl rfl (fun c25 => ?_) (fun c25 => ?_)
        · skip
          have i26 := z_eq 0 0 c25 i24 rfl
          refine g_iconst 0 57 (gd rfl) rfl rfl ?_
          refine g_iadd 58 (gd rfl) rfl (fun z27 e28 => ?_)
          have i29 := in_add 0 160 e28 j28_2 (in_c 0 rfl) rfl rfl
          refine g_istore_n 59 (gd rfl) rfl (Nat.le_of_ble_eq_true rfl) ?_
          refine g_iload_n 60 (gd rfl) rfl rfl ?_
          refine g_aload_n 61 (gd rfl) rfl rfl ?_
          refine g_iload 63 (gd rfl) rfl rfl ?_
          refine g_callv (X := _) (As := [.int y28_5]) (r := [.int y28_3]) (b := A 109) (q := 109) 66 (gd rfl) rfl rfl rfl rfl rfl (ww_o rfl) (Nat.le_of_ble_eq_true rfl) (mc := 0) (ms := 0) (Nat.zero_le _) (Nat.zero_le _) (P := fun v u => _) ?_ (fun e u h => h) (fun v u h => h)
          intro po30 xx31 hp32 hx33
          refine g_enter2 (k := 288) (N := 300) (by omega) rfl (Nat.le_of_ble_eq_true rfl) ?_
          refine g_aload_n 1 (gd rfl) rfl rfl ?_
          refine g_getA (q2 := 112) 4 (gd rfl) rfl rfl rfl rfl rfl ?_
          refine g_aload_n 5 (gd rfl) rfl rfl ?_
          refine g_getI 8 (gd rfl) rfl rfl rfl (fun z34 e35 => ?_)
          have q36 : z16 = z34 := (e17).trans e35.symm
          subst q36
          refine g_iload_n 9 (gd rfl) rfl rfl ?_
          refine g_iadd 10 (gd rfl) rfl (fun z37 e38 => ?_)
          have i39 := in_add 0 319 e38 i18 i15 rfl rfl
          refine g_baload 11 (gd rfl) rfl (n := 480) rfl (in_ix i39 rfl) (fun z40 e41 => ?_)
          have i42 := inv_I hI (n := 480) (t := 3) 0 1 rfl (in_ix i39 rfl) rfl e41
          refine g_if_eq 14 43 (gd rfl) rfl rfl (fun c43 => ?_) (fun c43 => ?_)
          · skip
            have i44 := z_eq 0 0 c43 i42 rfl
            refine g_iconst 0 44 (gd rfl) rfl rfl ?_
            refine g_ireturn (gd rfl) rfl (nb01 (in_w 0 1 (in_c 0 rfl) rfl)) (hp32 _ _ ?_)
            show GG _ _ _ _ _ _ _ _ [.int (Int32.ofInt 0), .int y28_3] _ _ _
            refine g_if_eq 69 73 (gd rfl) rfl rfl (fun c45 => ?_) (fun c45 => ?_)
            · skip
              refine g_iconst 0 74 (gd rfl) rfl rfl ?_
              refine g_iadd 75 (gd rfl) rfl (fun z46 e47 => ?_)
              have i48 := in_add 0 160 e47 j28_3 (in_c 0 rfl) rfl rfl
              refine g_istore_n 76 (gd rfl) rfl (Nat.le_of_ble_eq_true rfl) ?_
              refine g_aload_n 77 (gd rfl) rfl rfl ?_
              refine g_getA (q2 := 112) 80 (gd rfl) rfl rfl rfl rfl rfl ?_
              refine g_aload_n 81 (gd rfl) rfl rfl ?_
              refine g_getI 84 (gd rfl) rfl rfl rfl (fun z49 e50 => ?_)
              have q51 : z16 = z49 := (e17).trans e50.symm
              subst q51
              refine g_iload 86 (gd rfl) rfl rfl ?_
              refine g_iadd 87 (gd rfl) rfl (fun z52 e53 => ?_)
              have i54 := in_add 0 319 e53 i18 i15 rfl rfl
              refine g_baload 88 (gd rfl) rfl (n := 480) rfl (in_ix i54 rfl) (fun z55 e56 => ?_)
              have i57 := inv_I hI (n := 480) (t := 3) 0 1 rfl (in_ix i54 rfl) rfl e56
              refine g_if_eq 91 96 (gd rfl) rfl rfl (fun c58 => ?_) (fun c58 => ?_)
              · skip
                have i59 := z_eq 0 0 c58 i57 rfl
                refine g_iload 98 (gd rfl) rfl rfl ?_
                refine g_istore 100 (gd rfl) rfl (Nat.le_of_ble_eq_true rfl) ?_
                refine g_iinc 103 (gd rfl) rfl rfl (Nat.le_of_ble_eq_true rfl) (fun z60 e61 => ?_)
                have i62 := in_add 1 160 e61 i15 (in_c 1 rfl) rfl rfl
                refine g_goto 28 (gd rfl) rfl ?_
                have l63 := rl_1 l28_2 (t_add e28 j28_2 (in_c 0 rfl) rfl) (in_c 0 rfl) (t_add e61 i15 (in_c 1 rfl) rfl) (in_c 1 rfl) rfl
                have l64 := rl_1 l28_3 (t_add e47 j28_3 (in_c 0 rfl) rfl) (in_c 0 rfl) (t_add e61 i15 (in_c 1 rfl) rfl) (in_c 1 rfl) rfl
                exact gg_w (by omega) (gg_f (gf_cons rfl (gf_cons rfl (gf_cons rfl (gf_cons rfl (gf_cons rfl (gf_cons rfl gf_nil)))))) (ih28 s z27 z46 y28_4 z60 hI (in_w 0 3 j28_1 rfl) (rl_w 0 160 l63 i29 (in_w 0 160 i62 rfl) rfl) (rl_w 0 160 l64 i48 (in_w 0 160 i62 rfl) rfl) (in_w (-1) 159 j28_4 rfl) (in_w 0 160 i62 rfl) l63 l64 (m_up mm28 (t_add e61 i15 (in_c 1 rfl) rfl) (in_w 1 1 (in_c 1 rfl) rfl))))
              · skip
                have i65 := z_ne 1 1 c58 i57 rfl
                refine g_iload 93 (gd rfl) rfl rfl ?_
                refine g_goto 98 (gd rfl) rfl ?_
                refine g_istore 100 (gd rfl) rfl (Nat.le_of_ble_eq_true rfl) ?_
                refine g_iinc 103 (gd rfl) rfl rfl (Nat.le_of_ble_eq_true rfl) (fun z66 e67 => ?_)
                have i68 := in_add 1 160 e67 i15 (in_c 1 rfl) rfl rfl
                refine g_goto 28 (gd rfl) rfl ?_
                have l69 := rl_1 l28_2 (t_add e28 j28_2 (in_c 0 rfl) rfl) (in_c 0 rfl) (t_add e67 i15 (in_c 1 rfl) rfl) (in_c 1 rfl) rfl
                have l70 := rl_1 l28_3 (t_add e47 j28_3 (in_c 0 rfl) rfl) (in_c 0 rfl) (t_add e67 i15 (in_c 1 rfl) rfl) (in_c 1 rfl) rfl
                exact gg_w (by omega) (gg_f (gf_cons rfl (gf_cons rfl (gf_cons rfl (gf_cons rfl (gf_cons rfl (gf_cons rfl gf_nil)))))) (ih28 s z27 z46 y28_5 z66 hI (in_w 0 3 j28_1 rfl) (rl_w 0 160 l69 i29 (in_w 0 160 i68 rfl) rfl) (rl_w 0 160 l70 i48 (in_w 0 160 i68 rfl) rfl) (in_w (-1) 159 i15 rfl) (in_w 0 160 i68 rfl) l69 l70 (m_up mm28 (t_add e67 i15 (in_c 1 rfl) rfl) (in_w 1 1 (in_c 1 rfl) rfl))))
            · skip
              exact zn_ne c45 (in_c 0 rfl) rfl
          · skip
            have i71 := z_ne 1 1 c43 i42 rfl
            refine g_aload_n 15 (gd rfl) rfl rfl ?_
            refine g_getA (q2 := 113) 18 (gd rfl) rfl rfl rfl rfl rfl ?_
            refine g_aload_n 19 (gd rfl) rfl rfl ?_
            refine g_getI 22 (gd rfl) rfl rfl rfl (fun z72 e73 => ?_)
            have q74 : z16 = z72 := (e17).trans e73.symm
            subst q74
            refine g_iload_n 23 (gd rfl) rfl rfl ?_
            refine g_iadd 24 (gd rfl) rfl (fun z75 e76 => ?_)
            have i77 := in_add 0 319 e76 i18 i15 rfl rfl
            refine g_iaload 25 (gd rfl) rfl (n := 480) rfl (in_ix i77 rfl) (fun z78 e79 => ?_)
            have i80 := inv_I hI (n := 480) (t := 0) 0 31 rfl (in_ix i77 rfl) rfl e79
            refine g_aload_n 26 (gd rfl) rfl rfl ?_
            refine g_getA (q2 := 114) 29 (gd rfl) rfl rfl rfl rfl rfl ?_
            refine g_aload_n 30 (gd rfl) rfl rfl ?_
            refine g_getI 33 (gd rfl) rfl rfl rfl (fun z81 e82 => ?_)
            have q83 : z16 = z81 := (e17).trans e82.symm
            subst q83
            refine g_iload_n 34 (gd rfl) rfl rfl ?_
            refine g_iadd 35 (gd rfl) rfl (fun z84 e85 => ?_)
            have i86 := in_add 0 319 e85 i18 i15 rfl rfl
            refine g_iaload 36 (gd rfl) rfl (n := 480) rfl (in_ix i86 rfl) (fun z87 e88 => ?_)
            have i89 := inv_I hI (n := 480) (t := 0) 0 31 rfl (in_ix i86 rfl) rfl e88
            refine g_cmp_eq 39 43 (gd rfl) rfl rfl (fun c90 => ?_) (fun c90 => ?_)
            · skip
              refine g_iconst 0 44 (gd rfl) rfl rfl ?_
              refine g_ireturn (gd rfl) rfl (nb01 (in_w 0 1 (in_c 0 rfl) rfl)) (hp32 _ _ ?_)
              show GG _ _ _ _ _ _ _ _ [.int (Int32.ofInt 0), .int y28_3] _ _ _
              refine g_if_eq 69 73 (gd rfl) rfl rfl (fun c91 => ?_) (fun c91 => ?_)
              · skip
                refine g_iconst 0 74 (gd rfl) rfl rfl ?_
                refine g_iadd 75 (gd rfl) rfl (fun z92 e93 => ?_)
                have i94 := in_add 0 160 e93 j28_3 (in_c 0 rfl) rfl rfl
                refine g_istore_n 76 (gd rfl) rfl (Nat.le_of_ble_eq_true rfl) ?_
                refine g_aload_n 77 (gd rfl) rfl rfl ?_
                refine g_getA (q2 := 112) 80 (gd rfl) rfl rfl rfl rfl rfl ?_
                refine g_aload_n 81 (gd rfl) rfl rfl ?_
                refine g_getI 84 (gd rfl) rfl rfl rfl (fun z95 e96 => ?_)
                have q97 : z16 = z95 := (e17).trans e96.symm
                subst q97
                refine g_iload 86 (gd rfl) rfl rfl ?_
                refine g_iadd 87 (gd rfl) rfl (fun z98 e99 => ?_)
                have i100 := in_add 0 319 e99 i18 i15 rfl rfl
                refine g_baload 88 (gd rfl) rfl (n := 480) rfl (in_ix i100 rfl) (fun z101 e102 => ?_)
                have i103 := inv_I hI (n := 480) (t := 3) 0 1 rfl (in_ix i100 rfl) rfl e102
                refine g_if_eq 91 96 (gd rfl) rfl rfl (fun c104 => ?_) (fun c104 => ?_)
                · skip
                  have i105 := z_eq 0 0 c104 i103 rfl
                  refine g_iload 98 (gd rfl) rfl rfl ?_
                  refine g_istore 100 (gd rfl) rfl (Nat.le_of_ble_eq_true rfl) ?_
                  refine g_iinc 103 (gd rfl) rfl rfl (Nat.le_of_ble_eq_true rfl) (fun z106 e107 => ?_)
                  have i108 := in_add 1 160 e107 i15 (in_c 1 rfl) rfl rfl
                  refine g_goto 28 (gd rfl) rfl ?_
                  have l109 := rl_1 l28_2 (t_add e28 j28_2 (in_c 0 rfl) rfl) (in_c 0 rfl) (t_add e107 i15 (in_c 1 rfl) rfl) (in_c 1 rfl) rfl
                  have l110 := rl_1 l28_3 (t_add e93 j28_3 (in_c 0 rfl) rfl) (in_c 0 rfl) (t_add e107 i15 (in_c 1 rfl) rfl) (in_c 1 rfl) rfl
                  exact gg_w (by omega) (gg_f (gf_cons rfl (gf_cons rfl (gf_cons rfl (gf_cons rfl (gf_cons rfl (gf_cons rfl gf_nil)))))) (ih28 s z27 z92 y28_4 z106 hI (in_w 0 3 j28_1 rfl) (rl_w 0 160 l109 i29 (in_w 0 160 i108 rfl) rfl) (rl_w 0 160 l110 i94 (in_w 0 160 i108 rfl) rfl) (in_w (-1) 159 j28_4 rfl) (in_w 0 160 i108 rfl) l109 l110 (m_up mm28 (t_add e107 i15 (in_c 1 rfl) rfl) (in_w 1 1 (in_c 1 rfl) rfl))))
                · skip
                  have i111 := z_ne 1 1 c104 i103 rfl
                  refine g_iload 93 (gd rfl) rfl rfl ?_
                  refine g_goto 98 (gd rfl) rfl ?_
                  refine g_istore 100 (gd rfl) rfl (Nat.le_of_ble_eq_true rfl) ?_
                  refine g_iinc 103 (gd rfl) rfl rfl (Nat.le_of_ble_eq_true rfl) (fun z112 e113 => ?_)
                  have i114 := in_add 1 160 e113 i15 (in_c 1 rfl) rfl rfl
                  refine g_goto 28 (gd rfl) rfl ?_
                  have l115 := rl_1 l28_2 (t_add e28 j28_2 (in_c 0 rfl) rfl) (in_c 0 rfl) (t_add e113 i15 (in_c 1 rfl) rfl) (in_c 1 rfl) rfl
                  have l116 := rl_1 l28_3 (t_add e93 j28_3 (in_c 0 rfl) rfl) (in_c 0 rfl) (t_add e113 i15 (in_c 1 rfl) rfl) (in_c 1 rfl) rfl
                  exact gg_w (by omega) (gg_f (gf_cons rfl (gf_cons rfl (gf_cons rfl (gf_cons rfl (gf_cons rfl (gf_cons rfl gf_nil)))))) (ih28 s z27 z92 y28_5 z112 hI (in_w 0 3 j28_1 rfl) (rl_w 0 160 l115 i29 (in_w 0 160 i114 rfl) rfl) (rl_w 0 160 l116 i94 (in_w 0 160 i114 rfl) rfl) (in_w (-1) 159 i15 rfl) (in_w 0 160 i114 rfl) l115 l116 (m_up mm28 (t_add e113 i15 (in_c 1 rfl) rfl) (in_w 1 1 (in_c 1 rfl) rfl))))
              · skip
                exact zn_ne c91 (in_c 0 rfl) rfl
            · skip
              refine g_iconst 1 40 (gd rfl) rfl rfl ?_
              refine g_goto 44 (gd rfl) rfl ?_
              refine g_ireturn (gd rfl) rfl (nb01 (in_w 0 1 (in_c 1 rfl) rfl)) (hp32 _ _ ?_)
              show GG _ _ _ _ _ _ _ _ [.int (Int32.ofInt 1), .int y28_3] _ _ _
              refine g_if_eq 69 73 (gd rfl) rfl rfl (fun c117 => ?_) (fun c117 => ?_)
              · skip
                exact zn_eq c117 (in_c 1 rfl) rfl
              · skip
                refine g_iconst 1 70 (gd rfl) rfl rfl ?_
                refine g_goto 74 (gd rfl) rfl ?_
                refine g_iadd 75 (gd rfl) rfl (fun z118 e119 => ?_)
                have i120 := in_add 1 161 e119 j28_3 (in_c 1 rfl) rfl rfl
                refine g_istore_n 76 (gd rfl) rfl (Nat.le_of_ble_eq_true rfl) ?_
                refine g_aload_n 77 (gd rfl) rfl rfl ?_
                refine g_getA (q2 := 112) 80 (gd rfl) rfl rfl rfl rfl rfl ?_
                refine g_aload_n 81 (gd rfl) rfl rfl ?_
                refine g_getI 84 (gd rfl) rfl rfl rfl (fun z121 e122 => ?_)
                have q123 : z16 = z121 := (e17).trans e122.symm
                subst q123
                refine g_iload 86 (gd rfl) rfl rfl ?_
                refine g_iadd 87 (gd rfl) rfl (fun z124 e125 => ?_)
                have i126 := in_add 0 319 e125 i18 i15 rfl rfl
                refine g_baload 88 (gd rfl) rfl (n := 480) rfl (in_ix i126 rfl) (fun z127 e128 => ?_)
                have i129 := inv_I hI (n := 480) (t := 3) 0 1 rfl (in_ix i126 rfl) rfl e128
                refine g_if_eq 91 96 (gd rfl) rfl rfl (fun c130 => ?_) (fun c130 => ?_)
                · skip
                  have i131 := z_eq 0 0 c130 i129 rfl
                  refine g_iload 98 (gd rfl) rfl rfl ?_
                  refine g_istore 100 (gd rfl) rfl (Nat.le_of_ble_eq_true rfl) ?_
                  refine g_iinc 103 (gd rfl) rfl rfl (Nat.le_of_ble_eq_true rfl) (fun z132 e133 => ?_)
                  have i134 := in_add 1 160 e133 i15 (in_c 1 rfl) rfl rfl
                  refine g_goto 28 (gd rfl) rfl ?_
                  have l135 := rl_1 l28_2 (t_add e28 j28_2 (in_c 0 rfl) rfl) (in_c 0 rfl) (t_add e133 i15 (in_c 1 rfl) rfl) (in_c 1 rfl) rfl
                  have l136 := rl_1 l28_3 (t_add e119 j28_3 (in_c 1 rfl) rfl) (in_c 1 rfl) (t_add e133 i15 (in_c 1 rfl) rfl) (in_c 1 rfl) rfl
                  exact gg_w (by omega) (gg_f (gf_cons rfl (gf_cons rfl (gf_cons rfl (gf_cons rfl (gf_cons rfl (gf_cons rfl gf_nil)))))) (ih28 s z27 z118 y28_4 z132 hI (in_w 0 3 j28_1 rfl) (rl_w 0 160 l135 i29 (in_w 0 160 i134 rfl) rfl) (rl_w 0 160 l136 i120 (in_w 0 160 i134 rfl) rfl) (in_w (-1) 159 j28_4 rfl) (in_w 0 160 i134 rfl) l135 l136 (m_up mm28 (t_add e133 i15 (in_c 1 rfl) rfl) (in_w 1 1 (in_c 1 rfl) rfl))))
                · skip
                  have i137 := z_ne 1 1 c130 i129 rfl
                  refine g_iload 93 (gd rfl) rfl rfl ?_
                  refine g_goto 98 (gd rfl) rfl ?_
                  refine g_istore 100 (gd rfl) rfl (Nat.le_of_ble_eq_true rfl) ?_
                  refine g_iinc 103 (gd rfl) rfl rfl (Nat.le_of_ble_eq_true rfl) (fun z138 e139 => ?_)
                  have i140 := in_add 1 160 e139 i15 (in_c 1 rfl) rfl rfl
                  refine g_goto 28 (gd rfl) rfl ?_
                  have l141 := rl_1 l28_2 (t_add e28 j28_2 (in_c 0 rfl) rfl) (in_c 0 rfl) (t_add e139 i15 (in_c 1 rfl) rfl) (in_c 1 rfl) rfl
                  have l142 := rl_1 l28_3 (t_add e119 j28_3 (in_c 1 rfl) rfl) (in_c 1 rfl) (t_add e139 i15 (in_c 1 rfl) rfl) (in_c 1 rfl) rfl
                  exact gg_w (by omega) (gg_f (gf_cons rfl (gf_cons rfl (gf_cons rfl (gf_cons rfl (gf_cons rfl (gf_cons rfl gf_nil)))))) (ih28 s z27 z118 y28_5 z138 hI (in_w 0 3 j28_1 rfl) (rl_w 0 160 l141 i29 (in_w 0 160 i140 rfl) rfl) (rl_w 0 160 l142 i120 (in_w 0 160 i140 rfl) rfl) (in_w (-1) 159 i15 rfl) (in_w 0 160 i140 rfl) l141 l142 (m_up mm28 (t_add e139 i15 (in_c 1 rfl) rfl) (in_w 1 1 (in_c 1 rfl) rfl))))
        · skip
          have i143 := z_ne 1 1 c25 i24 rfl
          refine g_iconst 1 53 (gd rfl) rfl rfl ?_
          refine g_goto 57 (gd rfl) rfl ?_
          refine g_iadd 58 (gd rfl) rfl (fun z144 e145 => ?_)
          have i146 := in_add 1 161 e145 j28_2 (in_c 1 rfl) rfl rfl
          refine g_istore_n 59 (gd rfl) rfl (Nat.le_of_ble_eq_true rfl) ?_
          refine g_iload_n 60 (gd rfl) rfl rfl ?_
          refine g_aload_n 61 (gd rfl) rfl rfl ?_
          refine g_iload 63 (gd rfl) rfl rfl ?_
          refine g_callv (X := _) (As := [.int y28_5]) (r := [.int y28_3]) (b := A 109) (q := 109) 66 (gd rfl) rfl rfl rfl rfl rfl (ww_o rfl) (Nat.le_of_ble_eq_true rfl) (mc := 0) (ms := 0) (Nat.zero_le _) (Nat.zero_le _) (P := fun v u => _) ?_ (fun e u h => h) (fun v u h => h)
          intro po147 xx148 hp149 hx150
          refine g_enter2 (k := 288) (N := 300) (by omega) rfl (Nat.le_of_ble_eq_true rfl) ?_
          refine g_aload_n 1 (gd rfl) rfl rfl ?_
          refine g_getA (q2 := 112) 4 (gd rfl) rfl rfl rfl rfl rfl ?_
          refine g_aload_n 5 (gd rfl) rfl rfl ?_
          refine g_getI 8 (gd rfl) rfl rfl rfl (fun z151 e152 => ?_)
          have q153 : z16 = z151 := (e17).trans e152.symm
          subst q153
          refine g_iload_n 9 (gd rfl) rfl rfl ?_
          refine g_iadd 10 (gd rfl) rfl (fun z154 e155 => ?_)
          have i156 := in_add 0 319 e155 i18 i15 rfl rfl
          refine g_baload 11 (gd rfl) rfl (n := 480) rfl (in_ix i156 rfl) (fun z157 e158 => ?_)
          have i159 := inv_I hI (n := 480) (t := 3) 0 1 rfl (in_ix i156 rfl) rfl e158
          refine g_if_eq 14 43 (gd rfl) rfl rfl (fun c160 => ?_) (fun c160 => ?_)
          · skip
            have i161 := z_eq 0 0 c160 i159 rfl
            refine g_iconst 0 44 (gd rfl) rfl rfl ?_
            refine g_ireturn (gd rfl) rfl (nb01 (in_w 0 1 (in_c 0 rfl) rfl)) (hp149 _ _ ?_)
            show GG _ _ _ _ _ _ _ _ [.int (Int32.ofInt 0), .int y28_3] _ _ _
            refine g_if_eq 69 73 (gd rfl) rfl rfl (fun c162 => ?_) (fun c162 => ?_)
            · skip
              refine g_iconst 0 74 (gd rfl) rfl rfl ?_
              refine g_iadd 75 (gd rfl) rfl (fun z163 e164 => ?_)
              have i165 := in_add 0 160 e164 j28_3 (in_c 0 rfl) rfl rfl
              refine g_istore_n 76 (gd rfl) rfl (Nat.le_of_ble_eq_true rfl) ?_
              refine g_aload_n 77 (gd rfl) rfl rfl ?_
              refine g_getA (q2 := 112) 80 (gd rfl) rfl rfl rfl rfl rfl ?_
              refine g_aload_n 81 (gd rfl) rfl rfl ?_
              refine g_getI 84 (gd rfl) rfl rfl rfl (fun z166 e167 => ?_)
              have q168 : z16 = z166 := (e17).trans e167.symm
              subst q168
              refine g_iload 86 (gd rfl) rfl rfl ?_
              refine g_iadd 87 (gd rfl) rfl (fun z169 e170 => ?_)
              have i171 := in_add 0 319 e170 i18 i15 rfl rfl
              refine g_baload 88 (gd rfl) rfl (n := 480) rfl (in_ix i171 rfl) (fun z172 e173 => ?_)
              have i174 := inv_I hI (n := 480) (t := 3) 0 1 rfl (in_ix i171 rfl) rfl e173
              refine g_if_eq 91 96 (gd rfl) rfl rfl (fun c175 => ?_) (fun c175 => ?_)
              · skip
                have i176 := z_eq 0 0 c175 i174 rfl
                refine g_iload 98 (gd rfl) rfl rfl ?_
                refine g_istore 100 (gd rfl) rfl (Nat.le_of_ble_eq_true rfl) ?_
                refine g_iinc 103 (gd rfl) rfl rfl (Nat.le_of_ble_eq_true rfl) (fun z177 e178 => ?_)
                have i179 := in_add 1 160 e178 i15 (in_c 1 rfl) rfl rfl
                refine g_goto 28 (gd rfl) rfl ?_
                have l180 := rl_1 l28_2 (t_add e145 j28_2 (in_c 1 rfl) rfl) (in_c 1 rfl) (t_add e178 i15 (in_c 1 rfl) rfl) (in_c 1 rfl) rfl
                have l181 := rl_1 l28_3 (t_add e164 j28_3 (in_c 0 rfl) rfl) (in_c 0 rfl) (t_add e178 i15 (in_c 1 rfl) rfl) (in_c 1 rfl) rfl
                exact gg_w (by omega) (gg_f (gf_cons rfl (gf_cons rfl (gf_cons rfl (gf_cons rfl (gf_cons rfl (gf_cons rfl gf_nil)))))) (ih28 s z144 z163 y28_4 z177 hI (in_w 0 3 j28_1 rfl) (rl_w 0 160 l180 i146 (in_w 0 160 i179 rfl) rfl) (rl_w 0 160 l181 i165 (in_w 0 160 i179 rfl) rfl) (in_w (-1) 159 j28_4 rfl) (in_w 0 160 i179 rfl) l180 l181 (m_up mm28 (t_add e178 i15 (in_c 1 rfl) rfl) (in_w 1 1 (in_c 1 rfl) rfl))))
              · skip
                have i182 := z_ne 1 1 c175 i174 rfl
                refine g_iload 93 (gd rfl) rfl rfl ?_
                refine g_goto 98 (gd rfl) rfl ?_
                refine g_istore 100 (gd rfl) rfl (Nat.le_of_ble_eq_true rfl) ?_
                refine g_iinc 103 (gd rfl) rfl rfl (Nat.le_of_ble_eq_true rfl) (fun z183 e184 => ?_)
                have i185 := in_add 1 160 e184 i15 (in_c 1 rfl) rfl rfl
                refine g_goto 28 (gd rfl) rfl ?_
                have l186 := rl_1 l28_2 (t_add e145 j28_2 (in_c 1 rfl) rfl) (in_c 1 rfl) (t_add e184 i15 (in_c 1 rfl) rfl) (in_c 1 rfl) rfl
                have l187 := rl_1 l28_3 (t_add e164 j28_3 (in_c 0 rfl) rfl) (in_c 0 rfl) (t_add e184 i15 (in_c 1 rfl) rfl) (in_c 1 rfl) rfl
                exact gg_w (by omega) (gg_f (gf_cons rfl (gf_cons rfl (gf_cons rfl (gf_cons rfl (gf_cons rfl (gf_cons rfl gf_nil)))))) (ih28 s z144 z163 y28_5 z183 hI (in_w 0 3 j28_1 rfl) (rl_w 0 160 l186 i146 (in_w 0 160 i185 rfl) rfl) (rl_w 0 160 l187 i165 (in_w 0 160 i185 rfl) rfl) (in_w (-1) 159 i15 rfl) (in_w 0 160 i185 rfl) l186 l187 (m_up mm28 (t_add e184 i15 (in_c 1 rfl) rfl) (in_w 1 1 (in_c 1 rfl) rfl))))
            · skip
              exact zn_ne c162 (in_c 0 rfl) rfl
          · skip
            have i188 := z_ne 1 1 c160 i159 rfl
            refine g_aload_n 15 (gd rfl) rfl rfl ?_
            refine g_getA (q2 := 113) 18 (gd rfl) rfl rfl rfl rfl rfl ?_
            refine g_aload_n 19 (gd rfl) rfl rfl ?_
            refine g_getI 22 (gd rfl) rfl rfl rfl (fun z189 e190 => ?_)
            have q191 : z16 = z189 := (e17).trans e190.symm
            subst q191
            refine g_iload_n 23 (gd rfl) rfl rfl ?_
            refine g_iadd 24 (gd rfl) rfl (fun z192 e193 => ?_)
            have i194 := in_add 0 319 e193 i18 i15 rfl rfl
            refine g_iaload 25 (gd rfl) rfl (n := 480) rfl (in_ix i194 rfl) (fun z195 e196 => ?_)
            have i197 := inv_I hI (n := 480) (t := 0) 0 31 rfl (in_ix i194 rfl) rfl e196
            refine g_aload_n 26 (gd rfl) rfl rfl ?_
            refine g_getA (q2 := 114) 29 (gd rfl) rfl rfl rfl rfl rfl ?_
            refine g_aload_n 30 (gd rfl) rfl rfl ?_
            refine g_getI 33 (gd rfl) rfl rfl rfl (fun z198 e199 => ?_)
            have q200 : z16 = z198 := (e17).trans e199.symm
            subst q200
            refine g_iload_n 34 (gd rfl) rfl rfl ?_
            refine g_iadd 35 (gd rfl) rfl (fun z201 e202 => ?_)
            have i203 := in_add 0 319 e202 i18 i15 rfl rfl
            refine g_iaload 36 (gd rfl) rfl (n := 480) rfl (in_ix i203 rfl) (fun z204 e205 => ?_)
            have i206 := inv_I hI (n := 480) (t := 0) 0 31 rfl (in_ix i203 rfl) rfl e205
            refine g_cmp_eq 39 43 (gd rfl) rfl rfl (fun c207 => ?_) (fun c207 => ?_)
            · skip
              refine g_iconst 0 44 (gd rfl) rfl rfl ?_
              refine g_ireturn (gd rfl) rfl (nb01 (in_w 0 1 (in_c 0 rfl) rfl)) (hp149 _ _ ?_)
              show GG _ _ _ _ _ _ _ _ [.int (Int32.ofInt 0), .int y28_3] _ _ _
              refine g_if_eq 69 73 (gd rfl) rfl rfl (fun c208 => ?_) (fun c208 => ?_)
              · skip
                refine g_iconst 0 74 (gd rfl) rfl rfl ?_
                refine g_iadd 75 (gd rfl) rfl (fun z209 e210 => ?_)
                have i211 := in_add 0 160 e210 j28_3 (in_c 0 rfl) rfl rfl
                refine g_istore_n 76 (gd rfl) rfl (Nat.le_of_ble_eq_true rfl) ?_
                refine g_aload_n 77 (gd rfl) rfl rfl ?_
                refine g_getA (q2 := 112) 80 (gd rfl) rfl rfl rfl rfl rfl ?_
                refine g_aload_n 81 (gd rfl) rfl rfl ?_
                refine g_getI 84 (gd rfl) rfl rfl rfl (fun z212 e213 => ?_)
                have q214 : z16 = z212 := (e17).trans e213.symm
                subst q214
                refine g_iload 86 (gd rfl) rfl rfl ?_
                refine g_iadd 87 (gd rfl) rfl (fun z215 e216 => ?_)
                have i217 := in_add 0 319 e216 i18 i15 rfl rfl
                refine g_baload 88 (gd rfl) rfl (n := 480) rfl (in_ix i217 rfl) (fun z218 e219 => ?_)
                have i220 := inv_I hI (n := 480) (t := 3) 0 1 rfl (in_ix i217 rfl) rfl e219
                refine g_if_eq 91 96 (gd rfl) rfl rfl (fun c221 => ?_) (fun c221 => ?_)
                · skip
                  have i222 := z_eq 0 0 c221 i220 rfl
                  refine g_iload 98 (gd rfl) rfl rfl ?_
                  refine g_istore 100 (gd rfl) rfl (Nat.le_of_ble_eq_true rfl) ?_
                  refine g_iinc 103 (gd rfl) rfl rfl (Nat.le_of_ble_eq_true rfl) (fun z223 e224 => ?_)
                  have i225 := in_add 1 160 e224 i15 (in_c 1 rfl) rfl rfl
                  refine g_goto 28 (gd rfl) rfl ?_
                  have l226 := rl_1 l28_2 (t_add e145 j28_2 (in_c 1 rfl) rfl) (in_c 1 rfl) (t_add e224 i15 (in_c 1 rfl) rfl) (in_c 1 rfl) rfl
                  have l227 := rl_1 l28_3 (t_add e210 j28_3 (in_c 0 rfl) rfl) (in_c 0 rfl) (t_add e224 i15 (in_c 1 rfl) rfl) (in_c 1 rfl) rfl
                  exact gg_w (by omega) (gg_f (gf_cons rfl (gf_cons rfl (gf_cons rfl (gf_cons rfl (gf_cons rfl (gf_cons rfl gf_nil)))))) (ih28 s z144 z209 y28_4 z223 hI (in_w 0 3 j28_1 rfl) (rl_w 0 160 l226 i146 (in_w 0 160 i225 rfl) rfl) (rl_w 0 160 l227 i211 (in_w 0 160 i225 rfl) rfl) (in_w (-1) 159 j28_4 rfl) (in_w 0 160 i225 rfl) l226 l227 (m_up mm28 (t_add e224 i15 (in_c 1 rfl) rfl) (in_w 1 1 (in_c 1 rfl) rfl))))
                · skip
                  have i228 := z_ne 1 1 c221 i220 rfl
                  refine g_iload 93 (gd rfl) rfl rfl ?_
                  refine g_goto 98 (gd rfl) rfl ?_
                  refine g_istore 100 (gd rfl) rfl (Nat.le_of_ble_eq_true rfl) ?_
                  refine g_iinc 103 (gd rfl) rfl rfl (Nat.le_of_ble_eq_true rfl) (fun z229 e230 => ?_)
                  have i231 := in_add 1 160 e230 i15 (in_c 1 rfl) rfl rfl
                  refine g_goto 28 (gd rfl) rfl ?_
                  have l232 := rl_1 l28_2 (t_add e145 j28_2 (in_c 1 rfl) rfl) (in_c 1 rfl) (t_add e230 i15 (in_c 1 rfl) rfl) (in_c 1 rfl) rfl
                  have l233 := rl_1 l28_3 (t_add e210 j28_3 (in_c 0 rfl) rfl) (in_c 0 rfl) (t_add e230 i15 (in_c 1 rfl) rfl) (in_c 1 rfl) rfl
                  exact gg_w (by omega) (gg_f (gf_cons rfl (gf_cons rfl (gf_cons rfl (gf_cons rfl (gf_cons rfl (gf_cons rfl gf_nil)))))) (ih28 s z144 z209 y28_5 z229 hI (in_w 0 3 j28_1 rfl) (rl_w 0 160 l232 i146 (in_w 0 160 i231 rfl) rfl) (rl_w 0 160 l233 i211 (in_w 0 160 i231 rfl) rfl) (in_w (-1) 159 i15 rfl) (in_w 0 160 i231 rfl) l232 l233 (m_up mm28 (t_add e230 i15 (in_c 1 rfl) rfl) (in_w 1 1 (in_c 1 rfl) rfl))))
              · skip
                exact zn_ne c208 (in_c 0 rfl) rfl
            · skip
              refine g_iconst 1 40 (gd rfl) rfl rfl ?_
              refine g_goto 44 (gd rfl) rfl ?_
              refine g_ireturn (gd rfl) rfl (nb01 (in_w 0 1 (in_c 1 rfl) rfl)) (hp149 _ _ ?_)
              show GG _ _ _ _ _ _ _ _ [.int (Int32.ofInt 1), .int y28_3] _ _ _
              refine g_if_eq 69 73 (gd rfl) rfl rfl (fun c234 => ?_) (fun c234 => ?_)
              · skip
                exact zn_eq c234 (in_c 1 rfl) rfl
              · skip
                refine g_iconst 1 70 (gd rfl) rfl rfl ?_
                refine g_goto 74 (gd rfl) rfl ?_
                refine g_iadd 75 (gd rfl) rfl (fun z235 e236 => ?_)
                have i237 := in_add 1 161 e236 j28_3 (in_c 1 rfl) rfl rfl
                refine g_istore_n 76 (gd rfl) rfl (Nat.le_of_ble_eq_true rfl) ?_
                refine g_aload_n 77 (gd rfl) rfl rfl ?_
                refine g_getA (q2 := 112) 80 (gd rfl) rfl rfl rfl rfl rfl ?_
                refine g_aload_n 81 (gd rfl) rfl rfl ?_
                refine g_getI 84 (gd rfl) rfl rfl rfl (fun z238 e239 => ?_)
                have q240 : z16 = z238 := (e17).trans e239.symm
                subst q240
                refine g_iload 86 (gd rfl) rfl rfl ?_
                refine g_iadd 87 (gd rfl) rfl (fun z241 e242 => ?_)
                have i243 := in_add 0 319 e242 i18 i15 rfl rfl
                refine g_baload 88 (gd rfl) rfl (n := 480) rfl (in_ix i243 rfl) (fun z244 e245 => ?_)
                have i246 := inv_I hI (n := 480) (t := 3) 0 1 rfl (in_ix i243 rfl) rfl e245
                refine g_if_eq 91 96 (gd rfl) rfl rfl (fun c247 => ?_) (fun c247 => ?_)
                · skip
                  have i248 := z_eq 0 0 c247 i246 rfl
                  refine g_iload 98 (gd rfl) rfl rfl ?_
                  refine g_istore 100 (gd rfl) rfl (Nat.le_of_ble_eq_true rfl) ?_
                  refine g_iinc 103 (gd rfl) rfl rfl (Nat.le_of_ble_eq_true rfl) (fun z249 e250 => ?_)
                  have i251 := in_add 1 160 e250 i15 (in_c 1 rfl) rfl rfl
                  refine g_goto 28 (gd rfl) rfl ?_
                  have l252 := rl_1 l28_2 (t_add e145 j28_2 (in_c 1 rfl) rfl) (in_c 1 rfl) (t_add e250 i15 (in_c 1 rfl) rfl) (in_c 1 rfl) rfl
                  have l253 := rl_1 l28_3 (t_add e236 j28_3 (in_c 1 rfl) rfl) (in_c 1 rfl) (t_add e250 i15 (in_c 1 rfl) rfl) (in_c 1 rfl) rfl
                  exact gg_w (by omega) (gg_f (gf_cons rfl (gf_cons rfl (gf_cons rfl (gf_cons rfl (gf_cons rfl (gf_cons rfl gf_nil)))))) (ih28 s z144 z235 y28_4 z249 hI (in_w 0 3 j28_1 rfl) (rl_w 0 160 l252 i146 (in_w 0 160 i251 rfl) rfl) (rl_w 0 160 l253 i237 (in_w 0 160 i251 rfl) rfl) (in_w (-1) 159 j28_4 rfl) (in_w 0 160 i251 rfl) l252 l253 (m_up mm28 (t_add e250 i15 (in_c 1 rfl) rfl) (in_w 1 1 (in_c 1 rfl) rfl))))
                · skip
                  have i254 := z_ne 1 1 c247 i246 rfl
                  refine g_iload 93 (gd rfl) rfl rfl ?_
                  refine g_goto 98 (gd rfl) rfl ?_
                  refine g_istore 100 (gd rfl) rfl (Nat.le_of_ble_eq_true rfl) ?_
                  refine g_iinc 103 (gd rfl) rfl rfl (Nat.le_of_ble_eq_true rfl) (fun z255 e256 => ?_)
                  have i257 := in_add 1 160 e256 i15 (in_c 1 rfl) rfl rfl
                  refine g_goto 28 (gd rfl) rfl ?_
                  have l258 := rl_1 l28_2 (t_add e145 j28_2 (in_c 1 rfl) rfl) (in_c 1 rfl) (t_add e256 i15 (in_c 1 rfl) rfl) (in_c 1 rfl) rfl
                  have l259 := rl_1 l28_3 (t_add e236 j28_3 (in_c 1 rfl) rfl) (in_c 1 rfl) (t_add e256 i15 (in_c 1 rfl) rfl) (in_c 1 rfl) rfl
                  exact gg_w (by omega) (gg_f (gf_cons rfl (gf_cons rfl (gf_cons rfl (gf_cons rfl (gf_cons rfl (gf_cons rfl gf_nil)))))) (ih28 s z144 z235 y28_5 z255 hI (in_w 0 3 j28_1 rfl) (rl_w 0 160 l258 i146 (in_w 0 160 i257 rfl) rfl) (rl_w 0 160 l259 i237 (in_w 0 160 i257 rfl) rfl) (in_w (-1) 159 i15 rfl) (in_w 0 160 i257 rfl) l258 l259 (m_up mm28 (t_add e256 i15 (in_c 1 rfl) rfl) (in_w 1 1 (in_c 1 rfl) rfl))))
  refine g_enter2 (k := 289) (N := 145801) (by omega) rfl (Nat.le_of_ble_eq_true rfl) ?_
  refine g_aload_n 1 (gd rfl) rfl rfl ?_
  refine g_iload_n 2 (gd rfl) rfl rfl ?_
  refine g_i2l 3 (gd rfl) rfl (fun z260 e261 => ?_)
  have i262 := l_i e261 (i_rng x1)
  refine g_lconst 0 4 (gd rfl) rfl rfl ?_
  refine g_ldc2_w 3 7 (gd rfl) rfl rfl ?_
  refine g_calls (As := [.long z260, .long (Int64.ofInt 0), .long (Int64.ofInt 3)]) (r := [.ref (A 109)]) 10 (gd rfl) rfl rfl rfl rfl rfl (Nat.le_of_ble_eq_true rfl) (mc := 0) (ms := 0) (Nat.zero_le _) (Nat.zero_le _) (P := fun v u => _) ?_ (fun v u h => h)
  intro po263 xx264 hp265 hx266
  refine g_enter2 (k := 269) (N := 300) (by omega) rfl (Nat.le_of_ble_eq_true rfl) ?_
  refine g_lload_n 1 (gd rfl) rfl rfl ?_
  refine g_lload_n 2 (gd rfl) rfl rfl ?_
  refine g_lcmp 3 (gd rfl) rfl (fun z267 e268 => ?_)
  have i269 := lc_in e268
  refine g_if_lt 6 17 (gd rfl) rfl rfl (fun c270 => ?_) (fun c270 => ?_)
  · skip
    have i271 := z_lt (-1) (-1) c270 i269 rfl
    have c272 := lc_lt e268 c270
    have i273 := lr_lt1 (-2147483648) (-1) c272 i262 (l_c 0 rfl) rfl
    have i274 := l_b e261 i273
    refine g_iconst 0 18 (gd rfl) rfl rfl ?_
    refine g_ireturn (gd rfl) rfl (nb01 (in_w 0 1 (in_c 0 rfl) rfl)) (hp265 _ _ ?_)
    show GG _ _ _ _ _ _ _ _ [.int (Int32.ofInt 0), .ref (A 109)] _ _ _
    refine g_callv (X := _) (As := [.int (Int32.ofInt 0)]) (r := []) (b := A 109) (q := 109) 13 (gd rfl) rfl rfl rfl rfl rfl (ww_o rfl) (Nat.le_of_ble_eq_true rfl) (mc := 0) (ms := 0) (Nat.zero_le _) (Nat.zero_le _) (P := fun v u => _) ?_ (fun e u h => h) (fun v u h => h)
    intro po275 xx276 hp277 hx278
    refine g_enter2 (k := 271) (N := 300) (by omega) rfl (Nat.le_of_ble_eq_true rfl) ?_
    refine g_aload_n 1 (gd rfl) rfl rfl ?_
    refine g_iload_n 2 (gd rfl) rfl rfl ?_
    refine g_iconst 1 3 (gd rfl) rfl rfl ?_
    refine g_callv (X := _) (As := [.int (Int32.ofInt 0), .int (Int32.ofInt 1)]) (r := []) (b := A 109) (q := 109) 6 (gd rfl) rfl rfl rfl rfl rfl (ww_o rfl) (Nat.le_of_ble_eq_true rfl) (mc := 0) (ms := 0) (Nat.zero_le _) (Nat.zero_le _) (P := fun v u => _) ?_ (fun e u h => h) (fun v u h => h)
    intro po279 xx280 hp281 hx282
    refine g_enter2 (k := 270) (N := 300) (by omega) rfl (Nat.le_of_ble_eq_true rfl) ?_
    refine g_aload_n 1 (gd rfl) rfl rfl ?_
    refine g_iload_n 2 (gd rfl) rfl rfl ?_
    refine g_if_ne 5 9 (gd rfl) rfl rfl (fun c283 => ?_) (fun c283 => ?_)
    · skip
      exact zn_ne c283 (in_c 0 rfl) rfl
    · skip
      refine g_iconst 1 6 (gd rfl) rfl rfl ?_
      refine g_goto 18 (gd rfl) rfl ?_
      refine g_putI 21 (gd rfl) rfl rfl rfl rfl ?_
      have hI284 := inv_sF (q := 109) (j := 0) hI rfl (in_w 0 2 (in_c 1 rfl) rfl)
      refine g_aload_n 22 (gd rfl) rfl rfl ?_
      refine g_getI 25 (gd rfl) rfl rfl rfl (fun z285 e286 => ?_)
      have q287 : (Int32.ofInt 1) = z285 := (sF_get).trans e286.symm
      subst q287
      refine g_if_le 28 32 (gd rfl) rfl rfl (fun c288 => ?_) (fun c288 => ?_)
      · skip
        exact zn_le c288 (in_c 1 rfl) rfl
      · skip
        refine g_iconst 1 29 (gd rfl) rfl rfl ?_
        refine g_goto 33 (gd rfl) rfl ?_
        refine g_ireturn (gd rfl) rfl (nb01 (in_w 0 1 (in_c 1 rfl) rfl)) (hp281 _ _ ?_)
        show GG _ _ _ _ _ _ _ _ [.int (Int32.ofInt 1)] _ _ _
        refine g_ireturn (gd rfl) rfl (nb01 (in_w 0 1 (in_c 1 rfl) rfl)) (hp277 _ _ ?_)
        show GG _ _ _ _ _ _ _ _ [.int (Int32.ofInt 1)] _ _ _
        refine g_if_eq 16 18 (gd rfl) rfl rfl (fun c289 => ?_) (fun c289 => ?_)
        · skip
          exact zn_eq c289 (in_c 1 rfl) rfl
        · skip
          refine g_iconst 0 17 (gd rfl) rfl rfl ?_
          exact g_ireturn (gd rfl) rfl rfl (hP _ _ ⟨(sF s 109 0 (Int32.ofInt 1)), hI284, (Int32.ofInt 0), rfl, rfl, in_w (-1) 160 (in_c 0 rfl) rfl⟩)
  · skip
    have i290 := z_ge 0 1 c270 i269 rfl
    have c291 := lc_ge e268 c270
    have i292 := lr_le2 0 2147483647 c291 (l_c 0 rfl) i262 rfl
    have i293 := l_b e261 i292
    refine g_lload_n 7 (gd rfl) rfl rfl ?_
    refine g_lload 9 (gd rfl) rfl rfl ?_
    refine g_lcmp 10 (gd rfl) rfl (fun z294 e295 => ?_)
    have i296 := lc_in e295
    refine g_if_gt 13 17 (gd rfl) rfl rfl (fun c297 => ?_) (fun c297 => ?_)
    · skip
      have i298 := z_gt 1 1 c297 i296 rfl
      have c299 := lc_gt e295 c297
      have i300 := lr_lt2 4 2147483647 c299 (l_c 3 rfl) i292 rfl
      have i301 := l_b e261 i300
      refine g_iconst 0 18 (gd rfl) rfl rfl ?_
      refine g_ireturn (gd rfl) rfl (nb01 (in_w 0 1 (in_c 0 rfl) rfl)) (hp265 _ _ ?_)
      show GG _ _ _ _ _ _ _ _ [.int (Int32.ofInt 0), .ref (A 109)] _ _ _
      refine g_callv (X := _) (As := [.int (Int32.ofInt 0)]) (r := []) (b := A 109) (q := 109) 13 (gd rfl) rfl rfl rfl rfl rfl (ww_o rfl) (Nat.le_of_ble_eq_true rfl) (mc := 0) (ms := 0) (Nat.zero_le _) (Nat.zero_le _) (P := fun v u => _) ?_ (fun e u h => h) (fun v u h => h)
      intro po302 xx303 hp304 hx305
      refine g_enter2 (k := 271) (N := 300) (by omega) rfl (Nat.le_of_ble_eq_true rfl) ?_
      refine g_aload_n 1 (gd rfl) rfl rfl ?_
      refine g_iload_n 2 (gd rfl) rfl rfl ?_
      refine g_iconst 1 3 (gd rfl) rfl rfl ?_
      refine g_callv (X := _) (As := [.int (Int32.ofInt 0), .int (Int32.ofInt 1)]) (r := []) (b := A 109) (q := 109) 6 (gd rfl) rfl rfl rfl rfl rfl (ww_o rfl) (Nat.le_of_ble_eq_true rfl) (mc := 0) (ms := 0) (Nat.zero_le _) (Nat.zero_le _) (P := fun v u => _) ?_ (fun e u h => h) (fun v u h => h)
      intro po306 xx307 hp308 hx309
      refine g_enter2 (k := 270) (N := 300) (by omega) rfl (Nat.le_of_ble_eq_true rfl) ?_
      refine g_aload_n 1 (gd rfl) rfl rfl ?_
      refine g_iload_n 2 (gd rfl) rfl rfl ?_
      refine g_if_ne 5 9 (gd rfl) rfl rfl (fun c310 => ?_) (fun c310 => ?_)
      · skip
        exact zn_ne c310 (in_c 0 rfl) rfl
      · skip
        refine g_iconst 1 6 (gd rfl) rfl rfl ?_
        refine g_goto 18 (gd rfl) rfl ?_
        refine g_putI 21 (gd rfl) rfl rfl rfl rfl ?_
        have hI311 := inv_sF (q := 109) (j := 0) hI rfl (in_w 0 2 (in_c 1 rfl) rfl)
        refine g_aload_n 22 (gd rfl) rfl rfl ?_
        refine g_getI 25 (gd rfl) rfl rfl rfl (fun z312 e313 => ?_)
        have q314 : (Int32.ofInt 1) = z312 := (sF_get).trans e313.symm
        subst q314
        refine g_if_le 28 32 (gd rfl) rfl rfl (fun c315 => ?_) (fun c315 => ?_)
        · skip
          exact zn_le c315 (in_c 1 rfl) rfl
        · skip
          refine g_iconst 1 29 (gd rfl) rfl rfl ?_
          refine g_goto 33 (gd rfl) rfl ?_
          refine g_ireturn (gd rfl) rfl (nb01 (in_w 0 1 (in_c 1 rfl) rfl)) (hp308 _ _ ?_)
          show GG _ _ _ _ _ _ _ _ [.int (Int32.ofInt 1)] _ _ _
          refine g_ireturn (gd rfl) rfl (nb01 (in_w 0 1 (in_c 1 rfl) rfl)) (hp304 _ _ ?_)
          show GG _ _ _ _ _ _ _ _ [.int (Int32.ofInt 1)] _ _ _
          refine g_if_eq 16 18 (gd rfl) rfl rfl (fun c316 => ?_) (fun c316 => ?_)
          · skip
            exact zn_eq c316 (in_c 1 rfl) rfl
          · skip
            refine g_iconst 0 17 (gd rfl) rfl rfl ?_
            exact g_ireturn (gd rfl) rfl rfl (hP _ _ ⟨(sF s 109 0 (Int32.ofInt 1)), hI311, (Int32.ofInt 0), rfl, rfl, in_w (-1) 160 (in_c 0 rfl) rfl⟩)
    · skip
      have i317 := z_le (-1) 0 c297 i296 rfl
      have c318 := lc_le e295 c297
      have i319 := lr_le1 0 3 c318 i292 (l_c 3 rfl) rfl
      have i320 := l_b e261 i319
      refine g_iconst 1 14 (gd rfl) rfl rfl ?_
      refine g_goto 18 (gd rfl) rfl ?_
      refine g_ireturn (gd rfl) rfl (nb01 (in_w 0 1 (in_c 1 rfl) rfl)) (hp265 _ _ ?_)
      show GG _ _ _ _ _ _ _ _ [.int (Int32.ofInt 1), .ref (A 109)] _ _ _
      refine g_callv (X := _) (As := [.int (Int32.ofInt 1)]) (r := []) (b := A 109) (q := 109) 13 (gd rfl) rfl rfl rfl rfl rfl (ww_o rfl) (Nat.le_of_ble_eq_true rfl) (mc := 0) (ms := 0) (Nat.zero_le _) (Nat.zero_le _) (P := fun v u => _) ?_ (fun e u h => h) (fun v u h => h)
      intro po321 xx322 hp323 hx324
      refine g_enter2 (k := 271) (N := 300) (by omega) rfl (Nat.le_of_ble_eq_true rfl) ?_
      refine g_aload_n 1 (gd rfl) rfl rfl ?_
      refine g_iload_n 2 (gd rfl) rfl rfl ?_
      refine g_iconst 1 3 (gd rfl) rfl rfl ?_
      refine g_callv (X := _) (As := [.int (Int32.ofInt 1), .int (Int32.ofInt 1)]) (r := []) (b := A 109) (q := 109) 6 (gd rfl) rfl rfl rfl rfl rfl (ww_o rfl) (Nat.le_of_ble_eq_true rfl) (mc := 0) (ms := 0) (Nat.zero_le _) (Nat.zero_le _) (P := fun v u => _) ?_ (fun e u h => h) (fun v u h => h)
      intro po325 xx326 hp327 hx328
      refine g_enter2 (k := 270) (N := 300) (by omega) rfl (Nat.le_of_ble_eq_true rfl) ?_
      refine g_aload_n 1 (gd rfl) rfl rfl ?_
      refine g_iload_n 2 (gd rfl) rfl rfl ?_
      refine g_if_ne 5 9 (gd rfl) rfl rfl (fun c329 => ?_) (fun c329 => ?_)
      · skip
        refine g_iload_n 10 (gd rfl) rfl rfl ?_
        refine g_if_ne 13 17 (gd rfl) rfl rfl (fun c330 => ?_) (fun c330 => ?_)
        · skip
          refine g_iconst 0 18 (gd rfl) rfl rfl ?_
          refine g_putI 21 (gd rfl) rfl rfl rfl rfl ?_
          have hI331 := inv_sF (q := 109) (j := 0) hI rfl (in_w 0 2 (in_c 0 rfl) rfl)
          refine g_aload_n 22 (gd rfl) rfl rfl ?_
          refine g_getI 25 (gd rfl) rfl rfl rfl (fun z332 e333 => ?_)
          have q334 : (Int32.ofInt 0) = z332 := (sF_get).trans e333.symm
          subst q334
          refine g_if_le 28 32 (gd rfl) rfl rfl (fun c335 => ?_) (fun c335 => ?_)
          · skip
            refine g_iconst 0 33 (gd rfl) rfl rfl ?_
            refine g_ireturn (gd rfl) rfl (nb01 (in_w 0 1 (in_c 0 rfl) rfl)) (hp327 _ _ ?_)
            show GG _ _ _ _ _ _ _ _ [.int (Int32.ofInt 0)] _ _ _
            refine g_ireturn (gd rfl) rfl (nb01 (in_w 0 1 (in_c 0 rfl) rfl)) (hp323 _ _ ?_)
            show GG _ _ _ _ _ _ _ _ [.int (Int32.ofInt 0)] _ _ _
            refine g_if_eq 16 18 (gd rfl) rfl rfl (fun c336 => ?_) (fun c336 => ?_)
            · skip
              refine g_iconst 0 19 (gd rfl) rfl rfl ?_
              refine g_istore_n 20 (gd rfl) rfl (Nat.le_of_ble_eq_true rfl) ?_
              refine g_iconst 0 21 (gd rfl) rfl rfl ?_
              refine g_istore_n 22 (gd rfl) rfl (Nat.le_of_ble_eq_true rfl) ?_
              refine g_iconst (-1) 23 (gd rfl) rfl rfl ?_
              refine g_istore 25 (gd rfl) rfl (Nat.le_of_ble_eq_true rfl) ?_
              refine g_iconst 0 26 (gd rfl) rfl rfl ?_
              refine g_istore 28 (gd rfl) rfl (Nat.le_of_ble_eq_true rfl) ?_
              have l337 := rl_in 0 (in_c 0 rfl) (in_c 0 rfl) rfl
              have l338 := rl_in 0 (in_c 0 rfl) (in_c 0 rfl) rfl
              exact gg_w (by omega) (gg_f (gf_cons rfl (gf_cons rfl (gf_cons rfl (gf_cons rfl (gf_cons rfl (gf_cons rfl gf_nil)))))) (ct28 161 (sF s 109 0 (Int32.ofInt 0)) (Int32.ofInt 0) (Int32.ofInt 0) (Int32.ofInt (-1)) (Int32.ofInt 0) hI331 (in_w 0 3 i320 rfl) (rl_w 0 160 l337 (in_c 0 rfl) (in_w 0 160 (in_c 0 rfl) rfl) rfl) (rl_w 0 160 l338 (in_c 0 rfl) (in_w 0 160 (in_c 0 rfl) rfl) rfl) (in_w (-1) 159 (in_c (-1) rfl) rfl) (in_w 0 160 (in_c 0 rfl) rfl) l337 l338 (m_in 161 (in_w 0 160 (in_c 0 rfl) rfl) rfl)))
            · skip
              exact zn_ne c336 (in_c 0 rfl) rfl
          · skip
            exact zn_gt c335 (in_c 0 rfl) rfl
        · skip
          exact zn_eq c330 (in_c 1 rfl) rfl
      · skip
        exact zn_eq c329 (in_c 1 rfl) rfl

/-- GraphHouseModel.told -/
theorem k_290 {Z : AmZ} {A : Nat → Nat} {s : GS} {ex : va_W} {d : Nat} {X : AmX} {x1 : Int32} {x2 : Int32} (hd : 4 ≤ d) (hI : Inv s)  : GC Z d 290 [.ref (A 109), .int x1, .int x2] (WW Z A s ++ ex) 0 0 (fun v u => ∃ t : GS, Inv t ∧ ∃ z : Int64, v = some (.long z) ∧ u = WW Z A t ++ ex) X := by
  intro post xp hP hX
  refine g_enter2 (k := 290) (N := 900) (by omega) rfl (Nat.le_of_ble_eq_true rfl) ?_
  refine g_aload_n 1 (gd rfl) rfl rfl ?_
  refine g_iload_n 2 (gd rfl) rfl rfl ?_
  refine g_i2l 3 (gd rfl) rfl (fun z1 e2 => ?_)
  have i3 := l_i e2 (i_rng x1)
  refine g_lconst 0 4 (gd rfl) rfl rfl ?_
  refine g_ldc2_w 159 7 (gd rfl) rfl rfl ?_
  refine g_calls (As := [.long z1, .long (Int64.ofInt 0), .long (Int64.ofInt 159)]) (r := [.ref (A 109)]) 10 (gd rfl) rfl rfl rfl rfl rfl (Nat.le_of_ble_eq_true rfl) (mc := 0) (ms := 0) (Nat.zero_le _) (Nat.zero_le _) (P := fun v u => _) ?_ (fun v u h => h)
  intro po4 xx5 hp6 hx7
  refine g_enter2 (k := 269) (N := 300) (by omega) rfl (Nat.le_of_ble_eq_true rfl) ?_
  refine g_lload_n 1 (gd rfl) rfl rfl ?_
  refine g_lload_n 2 (gd rfl) rfl rfl ?_
  refine g_lcmp 3 (gd rfl) rfl (fun z8 e9 => ?_)
  have i10 := lc_in e9
  refine g_if_lt 6 17 (gd rfl) rfl rfl (fun c11 => ?_) (fun c11 => ?_)
  · skip
    have i12 := z_lt (-1) (-1) c11 i10 rfl
    have c13 := lc_lt e9 c11
    have i14 := lr_lt1 (-2147483648) (-1) c13 i3 (l_c 0 rfl) rfl
    have i15 := l_b e2 i14
    refine g_iconst 0 18 (gd rfl) rfl rfl ?_
    refine g_ireturn (gd rfl) rfl (nb01 (in_w 0 1 (in_c 0 rfl) rfl)) (hp6 _ _ ?_)
    show GG _ _ _ _ _ _ _ _ [.int (Int32.ofInt 0), .ref (A 109)] _ _ _
    refine g_if_eq 13 29 (gd rfl) rfl rfl (fun c16 => ?_) (fun c16 => ?_)
    · skip
      refine g_iconst 0 30 (gd rfl) rfl rfl ?_
      refine g_callv (X := _) (As := [.int (Int32.ofInt 0)]) (r := []) (b := A 109) (q := 109) 33 (gd rfl) rfl rfl rfl rfl rfl (ww_o rfl) (Nat.le_of_ble_eq_true rfl) (mc := 0) (ms := 0) (Nat.zero_le _) (Nat.zero_le _) (P := fun v u => _) ?_ (fun e u h => h) (fun v u h => h)
      intro po17 xx18 hp19 hx20
      refine g_enter2 (k := 271) (N := 300) (by omega) rfl (Nat.le_of_ble_eq_true rfl) ?_
      refine g_aload_n 1 (gd rfl) rfl rfl ?_
      refine g_iload_n 2 (gd rfl) rfl rfl ?_
      refine g_iconst 1 3 (gd rfl) rfl rfl ?_
      refine g_callv (X := _) (As := [.int (Int32.ofInt 0), .int (Int32.ofInt 1)]) (r := []) (b := A 109) (q := 109) 6 (gd rfl) rfl rfl rfl rfl rfl (ww_o rfl) (Nat.le_of_ble_eq_true rfl) (mc := 0) (ms := 0) (Nat.zero_le _) (Nat.zero_le _) (P := fun v u => _) ?_ (fun e u h => h) (fun v u h => h)
      intro po21 xx22 hp23 hx24
      refine g_enter2 (k := 270) (N := 300) (by omega) rfl (Nat.le_of_ble_eq_true rfl) ?_
      refine g_aload_n 1 (gd rfl) rfl rfl ?_
      refine g_iload_n 2 (gd rfl) rfl rfl ?_
      refine g_if_ne 5 9 (gd rfl) rfl rfl (fun c25 => ?_) (fun c25 => ?_)
      · skip
        exact zn_ne c25 (in_c 0 rfl) rfl
      · skip
        refine g_iconst 1 6 (gd rfl) rfl rfl ?_
        refine g_goto 18 (gd rfl) rfl ?_
        refine g_putI 21 (gd rfl) rfl rfl rfl rfl ?_
        have hI26 := inv_sF (q := 109) (j := 0) hI rfl (in_w 0 2 (in_c 1 rfl) rfl)
        refine g_aload_n 22 (gd rfl) rfl rfl ?_
        refine g_getI 25 (gd rfl) rfl rfl rfl (fun z27 e28 => ?_)
        have q29 : (Int32.ofInt 1) = z27 := (sF_get).trans e28.symm
        subst q29
        refine g_if_le 28 32 (gd rfl) rfl rfl (fun c30 => ?_) (fun c30 => ?_)
        · skip
          exact zn_le c30 (in_c 1 rfl) rfl
        · skip
          refine g_iconst 1 29 (gd rfl) rfl rfl ?_
          refine g_goto 33 (gd rfl) rfl ?_
          refine g_ireturn (gd rfl) rfl (nb01 (in_w 0 1 (in_c 1 rfl) rfl)) (hp23 _ _ ?_)
          show GG _ _ _ _ _ _ _ _ [.int (Int32.ofInt 1)] _ _ _
          refine g_ireturn (gd rfl) rfl (nb01 (in_w 0 1 (in_c 1 rfl) rfl)) (hp19 _ _ ?_)
          show GG _ _ _ _ _ _ _ _ [.int (Int32.ofInt 1)] _ _ _
          refine g_if_eq 36 38 (gd rfl) rfl rfl (fun c31 => ?_) (fun c31 => ?_)
          · skip
            exact zn_eq c31 (in_c 1 rfl) rfl
          · skip
            refine g_lconst 0 37 (gd rfl) rfl rfl ?_
            exact g_lreturn (gd rfl) rfl (hP _ _ ⟨(sF s 109 0 (Int32.ofInt 1)), hI26, (Int64.ofInt 0), rfl, rfl⟩)
    · skip
      exact zn_ne c16 (in_c 0 rfl) rfl
  · skip
    have i32 := z_ge 0 1 c11 i10 rfl
    have c33 := lc_ge e9 c11
    have i34 := lr_le2 0 2147483647 c33 (l_c 0 rfl) i3 rfl
    have i35 := l_b e2 i34
    refine g_lload_n 7 (gd rfl) rfl rfl ?_
    refine g_lload 9 (gd rfl) rfl rfl ?_
    refine g_lcmp 10 (gd rfl) rfl (fun z36 e37 => ?_)
    have i38 := lc_in e37
    refine g_if_gt 13 17 (gd rfl) rfl rfl (fun c39 => ?_) (fun c39 => ?_)
    · skip
      have i40 := z_gt 1 1 c39 i38 rfl
      have c41 := lc_gt e37 c39
      have i42 := lr_lt2 160 2147483647 c41 (l_c 159 rfl) i34 rfl
      have i43 := l_b e2 i42
      refine g_iconst 0 18 (gd rfl) rfl rfl ?_
      refine g_ireturn (gd rfl) rfl (nb01 (in_w 0 1 (in_c 0 rfl) rfl)) (hp6 _ _ ?_)
      show GG _ _ _ _ _ _ _ _ [.int (Int32.ofInt 0), .ref (A 109)] _ _ _
      refine g_if_eq 13 29 (gd rfl) rfl rfl (fun c44 => ?_) (fun c44 => ?_)
      · skip
        refine g_iconst 0 30 (gd rfl) rfl rfl ?_
        refine g_callv (X := _) (As := [.int (Int32.ofInt 0)]) (r := []) (b := A 109) (q := 109) 33 (gd rfl) rfl rfl rfl rfl rfl (ww_o rfl) (Nat.le_of_ble_eq_true rfl) (mc := 0) (ms := 0) (Nat.zero_le _) (Nat.zero_le _) (P := fun v u => _) ?_ (fun e u h => h) (fun v u h => h)
        intro po45 xx46 hp47 hx48
        refine g_enter2 (k := 271) (N := 300) (by omega) rfl (Nat.le_of_ble_eq_true rfl) ?_
        refine g_aload_n 1 (gd rfl) rfl rfl ?_
        refine g_iload_n 2 (gd rfl) rfl rfl ?_
        refine g_iconst 1 3 (gd rfl) rfl rfl ?_
        refine g_callv (X := _) (As := [.int (Int32.ofInt 0), .int (Int32.ofInt 1)]) (r := []) (b := A 109) (q := 109) 6 (gd rfl) rfl rfl rfl rfl rfl (ww_o rfl) (Nat.le_of_ble_eq_true rfl) (mc := 0) (ms := 0) (Nat.zero_le _) (Nat.zero_le _) (P := fun v u => _) ?_ (fun e u h => h) (fun v u h => h)
        intro po49 xx50 hp51 hx52
        refine g_enter2 (k := 270) (N := 300) (by omega) rfl (Nat.le_of_ble_eq_true rfl) ?_
        refine g_aload_n 1 (gd rfl) rfl rfl ?_
        refine g_iload_n 2 (gd rfl) rfl rfl ?_
        refine g_if_ne 5 9 (gd rfl) rfl rfl (fun c53 => ?_) (fun c53 => ?_)
        · skip
          exact zn_ne c53 (in_c 0 rfl) rfl
        · skip
          refine g_iconst 1 6 (gd rfl) rfl rfl ?_
          refine g_goto 18 (gd rfl) rfl ?_
          refine g_putI 21 (gd rfl) rfl rfl rfl rfl ?_
          have hI54 := inv_sF (q := 109) (j := 0) hI rfl (in_w 0 2 (in_c 1 rfl) rfl)
          refine g_aload_n 22 (gd rfl) rfl rfl ?_
          refine g_getI 25 (gd rfl) rfl rfl rfl (fun z55 e56 => ?_)
          have q57 : (Int32.ofInt 1) = z55 := (sF_get).trans e56.symm
          subst q57
          refine g_if_le 28 32 (gd rfl) rfl rfl (fun c58 => ?_) (fun c58 => ?_)
          · skip
            exact zn_le c58 (in_c 1 rfl) rfl
          · skip
            refine g_iconst 1 29 (gd rfl) rfl rfl ?_
            refine g_goto 33 (gd rfl) rfl ?_
            refine g_ireturn (gd rfl) rfl (nb01 (in_w 0 1 (in_c 1 rfl) rfl)) (hp51 _ _ ?_)
            show GG _ _ _ _ _ _ _ _ [.int (Int32.ofInt 1)] _ _ _
            refine g_ireturn (gd rfl) rfl (nb01 (in_w 0 1 (in_c 1 rfl) rfl)) (hp47 _ _ ?_)
            show GG _ _ _ _ _ _ _ _ [.int (Int32.ofInt 1)] _ _ _
            refine g_if_eq 36 38 (gd rfl) rfl rfl (fun c59 => ?_) (fun c59 => ?_)
            · skip
              exact zn_eq c59 (in_c 1 rfl) rfl
            · skip
              refine g_lconst 0 37 (gd rfl) rfl rfl ?_
              exact g_lreturn (gd rfl) rfl (hP _ _ ⟨(sF s 109 0 (Int32.ofInt 1)), hI54, (Int64.ofInt 0), rfl, rfl⟩)
      · skip
        exact zn_ne c44 (in_c 0 rfl) rfl
    · skip
      have i60 := z_le (-1) 0 c39 i38 rfl
      have c61 := lc_le e37 c39
      have i62 := lr_le1 0 159 c61 i34 (l_c 159 rfl) rfl
      have i63 := l_b e2 i62
      refine g_iconst 1 14 (gd rfl) rfl rfl ?_
      refine g_goto 18 (gd rfl) rfl ?_
      refine g_ireturn (gd rfl) rfl (nb01 (in_w 0 1 (in_c 1 rfl) rfl)) (hp6 _ _ ?_)
      show GG _ _ _ _ _ _ _ _ [.int (Int32.ofInt 1), .ref (A 109)] _ _ _
      refine g_if_eq 13 29 (gd rfl) rfl rfl (fun c64 => ?_) (fun c64 => ?_)
      · skip
        exact zn_eq c64 (in_c 1 rfl) rfl
      · skip
        refine g_iload_n 14 (gd rfl) rfl rfl ?_
        refine g_i2l 15 (gd rfl) rfl (fun z65 e66 => ?_)
        have i67 := l_i e66 (i_rng x2)
        refine g_lconst 0 16 (gd rfl) rfl rfl ?_
        refine g_ldc2_w 4 19 (gd rfl) rfl rfl ?_
        refine g_calls (As := [.long z65, .long (Int64.ofInt 0), .long (Int64.ofInt 4)]) (r := [.ref (A 109)]) 22 (gd rfl) rfl rfl rfl rfl rfl (Nat.le_of_ble_eq_true rfl) (mc := 0) (ms := 0) (Nat.zero_le _) (Nat.zero_le _) (P := fun v u => _) ?_ (fun v u h => h)
        intro po68 xx69 hp70 hx71
        refine g_enter2 (k := 269) (N := 300) (by omega) rfl (Nat.le_of_ble_eq_true rfl) ?_
        refine g_lload_n 1 (gd rfl) rfl rfl ?_
        refine g_lload_n 2 (gd rfl) rfl rfl ?_
        refine g_lcmp 3 (gd rfl) rfl (fun z72 e73 => ?_)
        have i74 := lc_in e73
        refine g_if_lt 6 17 (gd rfl) rfl rfl (fun c75 => ?_) (fun c75 => ?_)
        · skip
          have i76 := z_lt (-1) (-1) c75 i74 rfl
          have c77 := lc_lt e73 c75
          have i78 := lr_lt1 (-2147483648) (-1) c77 i67 (l_c 0 rfl) rfl
          have i79 := l_b e66 i78
          refine g_iconst 0 18 (gd rfl) rfl rfl ?_
          refine g_ireturn (gd rfl) rfl (nb01 (in_w 0 1 (in_c 0 rfl) rfl)) (hp70 _ _ ?_)
          show GG _ _ _ _ _ _ _ _ [.int (Int32.ofInt 0), .ref (A 109)] _ _ _
          refine g_if_eq 25 29 (gd rfl) rfl rfl (fun c80 => ?_) (fun c80 => ?_)
          · skip
            refine g_iconst 0 30 (gd rfl) rfl rfl ?_
            refine g_callv (X := _) (As := [.int (Int32.ofInt 0)]) (r := []) (b := A 109) (q := 109) 33 (gd rfl) rfl rfl rfl rfl rfl (ww_o rfl) (Nat.le_of_ble_eq_true rfl) (mc := 0) (ms := 0) (Nat.zero_le _) (Nat.zero_le _) (P := fun v u => _) ?_ (fun e u h => h) (fun v u h => h)
            intro po81 xx82 hp83 hx84
            refine g_enter2 (k := 271) (N := 300) (by omega) rfl (Nat.le_of_ble_eq_true rfl) ?_
            refine g_aload_n 1 (gd rfl) rfl rfl ?_
            refine g_iload_n 2 (gd rfl) rfl rfl ?_
            refine g_iconst 1 3 (gd rfl) rfl rfl ?_
            refine g_callv (X := _) (As := [.int (Int32.ofInt 0), .int (Int32.ofInt 1)]) (r := []) (b := A 109) (q := 109) 6 (gd rfl) rfl rfl rfl rfl rfl (ww_o rfl) (Nat.le_of_ble_eq_true rfl) (mc := 0) (ms := 0) (Nat.zero_le _) (Nat.zero_le _) (P := fun v u => _) ?_ (fun e u h => h) (fun v u h => h)
            intro po85 xx86 hp87 hx88
            refine g_enter2 (k := 270) (N := 300) (by omega) rfl (Nat.le_of_ble_eq_true rfl) ?_
            refine g_aload_n 1 (gd rfl) rfl rfl ?_
            refine g_iload_n 2 (gd rfl) rfl rfl ?_
            refine g_if_ne 5 9 (gd rfl) rfl rfl (fun c89 => ?_) (fun c89 => ?_)
            · skip
              exact zn_ne c89 (in_c 0 rfl) rfl
            · skip
              refine g_iconst 1 6 (gd rfl) rfl rfl ?_
              refine g_goto 18 (gd rfl) rfl ?_
              refine g_putI 21 (gd rfl) rfl rfl rfl rfl ?_
              have hI90 := inv_sF (q := 109) (j := 0) hI rfl (in_w 0 2 (in_c 1 rfl) rfl)
              refine g_aload_n 22 (gd rfl) rfl rfl ?_
              refine g_getI 25 (gd rfl) rfl rfl rfl (fun z91 e92 => ?_)
              have q93 : (Int32.ofInt 1) = z91 := (sF_get).trans e92.symm
              subst q93
              refine g_if_le 28 32 (gd rfl) rfl rfl (fun c94 => ?_) (fun c94 => ?_)
              · skip
                exact zn_le c94 (in_c 1 rfl) rfl
              · skip
                refine g_iconst 1 29 (gd rfl) rfl rfl ?_
                refine g_goto 33 (gd rfl) rfl ?_
                refine g_ireturn (gd rfl) rfl (nb01 (in_w 0 1 (in_c 1 rfl) rfl)) (hp87 _ _ ?_)
                show GG _ _ _ _ _ _ _ _ [.int (Int32.ofInt 1)] _ _ _
                refine g_ireturn (gd rfl) rfl (nb01 (in_w 0 1 (in_c 1 rfl) rfl)) (hp83 _ _ ?_)
                show GG _ _ _ _ _ _ _ _ [.int (Int32.ofInt 1)] _ _ _
                refine g_if_eq 36 38 (gd rfl) rfl rfl (fun c95 => ?_) (fun c95 => ?_)
                · skip
                  exact zn_eq c95 (in_c 1 rfl) rfl
                · skip
                  refine g_lconst 0 37 (gd rfl) rfl rfl ?_
                  exact g_lreturn (gd rfl) rfl (hP _ _ ⟨(sF s 109 0 (Int32.ofInt 1)), hI90, (Int64.ofInt 0), rfl, rfl⟩)
          · skip
            exact zn_ne c80 (in_c 0 rfl) rfl
        · skip
          have i96 := z_ge 0 1 c75 i74 rfl
          have c97 := lc_ge e73 c75
          have i98 := lr_le2 0 2147483647 c97 (l_c 0 rfl) i67 rfl
          have i99 := l_b e66 i98
          refine g_lload_n 7 (gd rfl) rfl rfl ?_
          refine g_lload 9 (gd rfl) rfl rfl ?_
          refine g_lcmp 10 (gd rfl) rfl (fun z100 e101 => ?_)
          have i102 := lc_in e101
          refine g_if_gt 13 17 (gd rfl) rfl rfl (fun c103 => ?_) (fun c103 => ?_)
          · skip
            have i104 := z_gt 1 1 c103 i102 rfl
            have c105 := lc_gt e101 c103
            have i106 := lr_lt2 5 2147483647 c105 (l_c 4 rfl) i98 rfl
            have i107 := l_b e66 i106
            refine g_iconst 0 18 (gd rfl) rfl rfl ?_
            refine g_ireturn (gd rfl) rfl (nb01 (in_w 0 1 (in_c 0 rfl) rfl)) (hp70 _ _ ?_)
            show GG _ _ _ _ _ _ _ _ [.int (Int32.ofInt 0), .ref (A 109)] _ _ _
            refine g_if_eq 25 29 (gd rfl) rfl rfl (fun c108 => ?_) (fun c108 => ?_)
            · skip
              refine g_iconst 0 30 (gd rfl) rfl rfl ?_
              refine g_callv (X := _) (As := [.int (Int32.ofInt 0)]) (r := []) (b := A 109) (q := 109) 33 (gd rfl) rfl rfl rfl rfl rfl (ww_o rfl) (Nat.le_of_ble_eq_true rfl) (mc := 0) (ms := 0) (Nat.zero_le _) (Nat.zero_le _) (P := fun v u => _) ?_ (fun e u h => h) (fun v u h => h)
              intro po109 xx110 hp111 hx112
              refine g_enter2 (k := 271) (N := 300) (by omega) rfl (Nat.le_of_ble_eq_true rfl) ?_
              refine g_aload_n 1 (gd rfl) rfl rfl ?_
              refine g_iload_n 2 (gd rfl) rfl rfl ?_
              refine g_iconst 1 3 (gd rfl) rfl rfl ?_
              refine g_callv (X := _) (As := [.int (Int32.ofInt 0), .int (Int32.ofInt 1)]) (r := []) (b := A 109) (q := 109) 6 (gd rfl) rfl rfl rfl rfl rfl (ww_o rfl) (Nat.le_of_ble_eq_true rfl) (mc := 0) (ms := 0) (Nat.zero_le _) (Nat.zero_le _) (P := fun v u => _) ?_ (fun e u h => h) (fun v u h => h)
              intro po113 xx114 hp115 hx116
              refine g_enter2 (k := 270) (N := 300) (by omega) rfl (Nat.le_of_ble_eq_true rfl) ?_
              refine g_aload_n 1 (gd rfl) rfl rfl ?_
              refine g_iload_n 2 (gd rfl) rfl rfl ?_
              refine g_if_ne 5 9 (gd rfl) rfl rfl (fun c117 => ?_) (fun c117 => ?_)
              · skip
                exact zn_ne c117 (in_c 0 rfl) rfl
              · skip
                refine g_iconst 1 6 (gd rfl) rfl rfl ?_
                refine g_goto 18 (gd rfl) rfl ?_
                refine g_putI 21 (gd rfl) rfl rfl rfl rfl ?_
                have hI118 := inv_sF (q := 109) (j := 0) hI rfl (in_w 0 2 (in_c 1 rfl) rfl)
                refine g_aload_n 22 (gd rfl) rfl rfl ?_
                refine g_getI 25 (gd rfl) rfl rfl rfl (fun z119 e120 => ?_)
                have q121 : (Int32.ofInt 1) = z119 := (sF_get).trans e120.symm
                subst q121
                refine g_if_le 28 32 (gd rfl) rfl rfl (fun c122 => ?_) (fun c122 => ?_)
                · skip
                  exact zn_le c122 (in_c 1 rfl) rfl
                · skip
                  refine g_iconst 1 29 (gd rfl) rfl rfl ?_
                  refine g_goto 33 (gd rfl) rfl ?_
                  refine g_ireturn (gd rfl) rfl (nb01 (in_w 0 1 (in_c 1 rfl) rfl)) (hp115 _ _ ?_)
                  show GG _ _ _ _ _ _ _ _ [.int (Int32.ofInt 1)] _ _ _
                  refine g_ireturn (gd rfl) rfl (nb01 (in_w 0 1 (in_c 1 rfl) rfl)) (hp111 _ _ ?_)
                  show GG _ _ _ _ _ _ _ _ [.int (Int32.ofInt 1)] _ _ _
                  refine g_if_eq 36 38 (gd rfl) rfl rfl (fun c123 => ?_) (fun c123 => ?_)
                  · skip
                    exact zn_eq c123 (in_c 1 rfl) rfl
                  · skip
                    refine g_lconst 0 37 (gd rfl) rfl rfl ?_
                    exact g_lreturn (gd rfl) rfl (hP _ _ ⟨(sF s 109 0 (Int32.ofInt 1)), hI118, (Int64.ofInt 0), rfl, rfl⟩)
            · skip
              exact zn_ne c108 (in_c 0 rfl) rfl
          · skip
            have i124 := z_le (-1) 0 c103 i102 rfl
            have c125 := lc_le e101 c103
            have i126 := lr_le1 0 4 c125 i98 (l_c 4 rfl) rfl
            have i127 := l_b e66 i126
            refine g_iconst 1 14 (gd rfl) rfl rfl ?_
            refine g_goto 18 (gd rfl) rfl ?_
            refine g_ireturn (gd rfl) rfl (nb01 (in_w 0 1 (in_c 1 rfl) rfl)) (hp70 _ _ ?_)
            show GG _ _ _ _ _ _ _ _ [.int (Int32.ofInt 1), .ref (A 109)] _ _ _
            refine g_if_eq 25 29 (gd rfl) rfl rfl (fun c128 => ?_) (fun c128 => ?_)
            · skip
              exact zn_eq c128 (in_c 1 rfl) rfl
            · skip
              refine g_iconst 1 26 (gd rfl) rfl rfl ?_
              refine g_goto 30 (gd rfl) rfl ?_
              refine g_callv (X := _) (As := [.int (Int32.ofInt 1)]) (r := []) (b := A 109) (q := 109) 33 (gd rfl) rfl rfl rfl rfl rfl (ww_o rfl) (Nat.le_of_ble_eq_true rfl) (mc := 0) (ms := 0) (Nat.zero_le _) (Nat.zero_le _) (P := fun v u => _) ?_ (fun e u h => h) (fun v u h => h)
              intro po129 xx130 hp131 hx132
              refine g_enter2 (k := 271) (N := 300) (by omega) rfl (Nat.le_of_ble_eq_true rfl) ?_
              refine g_aload_n 1 (gd rfl) rfl rfl ?_
              refine g_iload_n 2 (gd rfl) rfl rfl ?_
              refine g_iconst 1 3 (gd rfl) rfl rfl ?_
              refine g_callv (X := _) (As := [.int (Int32.ofInt 1), .int (Int32.ofInt 1)]) (r := []) (b := A 109) (q := 109) 6 (gd rfl) rfl rfl rfl rfl rfl (ww_o rfl) (Nat.le_of_ble_eq_true rfl) (mc := 0) (ms := 0) (Nat.zero_le _) (Nat.zero_le _) (P := fun v u => _) ?_ (fun e u h => h) (fun v u h => h)
              intro po133 xx134 hp135 hx136
              refine g_enter2 (k := 270) (N := 300) (by omega) rfl (Nat.le_of_ble_eq_true rfl) ?_
              refine g_aload_n 1 (gd rfl) rfl rfl ?_
              refine g_iload_n 2 (gd rfl) rfl rfl ?_
              refine g_if_ne 5 9 (gd rfl) rfl rfl (fun c137 => ?_) (fun c137 => ?_)
              · skip
                refine g_iload_n 10 (gd rfl) rfl rfl ?_
                refine g_if_ne 13 17 (gd rfl) rfl rfl (fun c138 => ?_) (fun c138 => ?_)
                · skip
                  refine g_iconst 0 18 (gd rfl) rfl rfl ?_
                  refine g_putI 21 (gd rfl) rfl rfl rfl rfl ?_
                  have hI139 := inv_sF (q := 109) (j := 0) hI rfl (in_w 0 2 (in_c 0 rfl) rfl)
                  refine g_aload_n 22 (gd rfl) rfl rfl ?_
                  refine g_getI 25 (gd rfl) rfl rfl rfl (fun z140 e141 => ?_)
                  have q142 : (Int32.ofInt 0) = z140 := (sF_get).trans e141.symm
                  subst q142
                  refine g_if_le 28 32 (gd rfl) rfl rfl (fun c143 => ?_) (fun c143 => ?_)
                  · skip
                    refine g_iconst 0 33 (gd rfl) rfl rfl ?_
                    refine g_ireturn (gd rfl) rfl (nb01 (in_w 0 1 (in_c 0 rfl) rfl)) (hp135 _ _ ?_)
                    show GG _ _ _ _ _ _ _ _ [.int (Int32.ofInt 0)] _ _ _
                    refine g_ireturn (gd rfl) rfl (nb01 (in_w 0 1 (in_c 0 rfl) rfl)) (hp131 _ _ ?_)
                    show GG _ _ _ _ _ _ _ _ [.int (Int32.ofInt 0)] _ _ _
                    refine g_if_eq 36 38 (gd rfl) rfl rfl (fun c144 => ?_) (fun c144 => ?_)
                    · skip
                      refine g_aload_n 39 (gd rfl) rfl rfl ?_
                      refine g_getI 42 (gd rfl) rfl rfl rfl (fun z145 e146 => ?_)
                      have i147 := inv_F hI139 0 160 rfl e146
                      refine g_iload_n 43 (gd rfl) rfl rfl ?_
                      refine g_iadd 44 (gd rfl) rfl (fun z148 e149 => ?_)
                      have i150 := in_add 0 319 e149 i147 i63 rfl rfl
                      refine g_istore_n 45 (gd rfl) rfl (Nat.le_of_ble_eq_true rfl) ?_
                      refine g_aload_n 46 (gd rfl) rfl rfl ?_
                      refine g_getA (q2 := 112) 49 (gd rfl) rfl rfl rfl rfl rfl ?_
                      refine g_iload_n 50 (gd rfl) rfl rfl ?_
                      refine g_baload 51 (gd rfl) rfl (n := 480) rfl (in_ix i150 rfl) (fun z151 e152 => ?_)
                      have i153 := inv_I hI139 (n := 480) (t := 3) 0 1 rfl (in_ix i150 rfl) rfl e152
                      refine g_if_ne 54 58 (gd rfl) rfl rfl (fun c154 => ?_) (fun c154 => ?_)
                      · skip
                        have i155 := z_ne 1 1 c154 i153 rfl
                        refine g_iload_n 59 (gd rfl) rfl rfl ?_
                        refine g_if_ne 62 72 (gd rfl) rfl rfl (fun c156 => ?_) (fun c156 => ?_)
                        · skip
                          have i157 := z_ne 1 4 c156 i127 rfl
                          refine g_iload_n 73 (gd rfl) rfl rfl ?_
                          refine g_iconst 1 74 (gd rfl) rfl rfl ?_
                          refine g_cmp_ne 77 87 (gd rfl) rfl rfl (fun c158 => ?_) (fun c158 => ?_)
                          · skip
                            have i159 := r_ne1 2 4 c158 i157 (in_c 1 rfl) rfl
                            refine g_iload_n 88 (gd rfl) rfl rfl ?_
                            refine g_iconst 2 89 (gd rfl) rfl rfl ?_
                            refine g_cmp_ne 92 102 (gd rfl) rfl rfl (fun c160 => ?_) (fun c160 => ?_)
                            · skip
                              have i161 := r_ne1 3 4 c160 i159 (in_c 2 rfl) rfl
                              refine g_iload_n 103 (gd rfl) rfl rfl ?_
                              refine g_iconst 3 104 (gd rfl) rfl rfl ?_
                              refine g_cmp_ne 107 117 (gd rfl) rfl rfl (fun c162 => ?_) (fun c162 => ?_)
                              · skip
                                have i163 := r_ne1 4 4 c162 i161 (in_c 3 rfl) rfl
                                refine g_aload_n 118 (gd rfl) rfl rfl ?_
                                refine g_getA (q2 := 117) 121 (gd rfl) rfl rfl rfl rfl rfl ?_
                                refine g_iload_n 122 (gd rfl) rfl rfl ?_
                                refine g_iaload 123 (gd rfl) rfl (n := 480) rfl (in_ix i150 rfl) (fun z164 e165 => ?_)
                                have i166 := inv_I hI139 (n := 480) (t := 0) 0 25 rfl (in_ix i150 rfl) rfl e165
                                refine g_i2l 124 (gd rfl) rfl (fun z167 e168 => ?_)
                                have i169 := l_i e168 i166
                                exact g_lreturn (gd rfl) rfl (hP _ _ ⟨(sF s 109 0 (Int32.ofInt 0)), hI139, z167, rfl, rfl⟩)
                              · skip
                                have i170 := r_eq1 3 3 c162 i161 (in_c 3 rfl) rfl
                                refine g_aload_n 108 (gd rfl) rfl rfl ?_
                                refine g_getA (q2 := 116) 111 (gd rfl) rfl rfl rfl rfl rfl ?_
                                refine g_iload_n 112 (gd rfl) rfl rfl ?_
                                refine g_iaload 113 (gd rfl) rfl (n := 480) rfl (in_ix i150 rfl) (fun z171 e172 => ?_)
                                have i173 := inv_I hI139 (n := 480) (t := 0) 0 1000000 rfl (in_ix i150 rfl) rfl e172
                                refine g_i2l 114 (gd rfl) rfl (fun z174 e175 => ?_)
                                have i176 := l_i e175 i173
                                refine g_goto 124 (gd rfl) rfl ?_
                                exact g_lreturn (gd rfl) rfl (hP _ _ ⟨(sF s 109 0 (Int32.ofInt 0)), hI139, z174, rfl, rfl⟩)
                            · skip
                              have i177 := r_eq1 2 2 c160 i159 (in_c 2 rfl) rfl
                              refine g_aload_n 93 (gd rfl) rfl rfl ?_
                              refine g_getA (q2 := 115) 96 (gd rfl) rfl rfl rfl rfl rfl ?_
                              refine g_iload_n 97 (gd rfl) rfl rfl ?_
                              refine g_iaload 98 (gd rfl) rfl (n := 480) rfl (in_ix i150 rfl) (fun z178 e179 => ?_)
                              have i180 := inv_I hI139 (n := 480) (t := 0) (-1000000) 1000000 rfl (in_ix i150 rfl) rfl e179
                              refine g_i2l 99 (gd rfl) rfl (fun z181 e182 => ?_)
                              have i183 := l_i e182 i180
                              refine g_goto 124 (gd rfl) rfl ?_
                              exact g_lreturn (gd rfl) rfl (hP _ _ ⟨(sF s 109 0 (Int32.ofInt 0)), hI139, z181, rfl, rfl⟩)
                          · skip
                            have i184 := r_eq1 1 1 c158 i157 (in_c 1 rfl) rfl
                            refine g_aload_n 78 (gd rfl) rfl rfl ?_
                            refine g_getA (q2 := 114) 81 (gd rfl) rfl rfl rfl rfl rfl ?_
                            refine g_iload_n 82 (gd rfl) rfl rfl ?_
                            refine g_iaload 83 (gd rfl) rfl (n := 480) rfl (in_ix i150 rfl) (fun z185 e186 => ?_)
                            have i187 := inv_I hI139 (n := 480) (t := 0) 0 31 rfl (in_ix i150 rfl) rfl e186
                            refine g_i2l 84 (gd rfl) rfl (fun z188 e189 => ?_)
                            have i190 := l_i e189 i187
                            refine g_goto 124 (gd rfl) rfl ?_
                            exact g_lreturn (gd rfl) rfl (hP _ _ ⟨(sF s 109 0 (Int32.ofInt 0)), hI139, z188, rfl, rfl⟩)
                        · skip
                          have i191 := z_eq 0 0 c156 i127 rfl
                          refine g_aload_n 63 (gd rfl) rfl rfl ?_
                          refine g_getA (q2 := 113) 66 (gd rfl) rfl rfl rfl rfl rfl ?_
                          refine g_iload_n 67 (gd rfl) rfl rfl ?_
                          refine g_iaload 68 (gd rfl) rfl (n := 480) rfl (in_ix i150 rfl) (fun z192 e193 => ?_)
                          have i194 := inv_I hI139 (n := 480) (t := 0) 0 31 rfl (in_ix i150 rfl) rfl e193
                          refine g_i2l 69 (gd rfl) rfl (fun z195 e196 => ?_)
                          have i197 := l_i e196 i194
                          refine g_goto 124 (gd rfl) rfl ?_
                          exact g_lreturn (gd rfl) rfl (hP _ _ ⟨(sF s 109 0 (Int32.ofInt 0)), hI139, z195, rfl, rfl⟩)
                      · skip
                        have i198 := z_eq 0 0 c154 i153 rfl
                        refine g_ldc2_w 9000000000000000 57 (gd rfl) rfl rfl ?_
                        exact g_lreturn (gd rfl) rfl (hP _ _ ⟨(sF s 109 0 (Int32.ofInt 0)), hI139, (Int64.ofInt 9000000000000000), rfl, rfl⟩)
                    · skip
                      exact zn_ne c144 (in_c 0 rfl) rfl
                  · skip
                    exact zn_gt c143 (in_c 0 rfl) rfl
                · skip
                  exact zn_eq c138 (in_c 1 rfl) rfl
              · skip
                exact zn_eq c137 (in_c 1 rfl) rfl

/-- GraphHouseModel.labelOf -/
theorem k_291 {Z : AmZ} {A : Nat → Nat} {s : GS} {ex : va_W} {d : Nat} {X : AmX} {x1 : Int32} (hd : 4 ≤ d) (hI : Inv s)  : GC Z d 291 [.ref (A 109), .int x1] (WW Z A s ++ ex) 0 0 (fun v u => ∃ t : GS, Inv t ∧ ∃ z : Int32, v = some (.int z) ∧ u = WW Z A t ++ ex ∧ In z 0 25) X := by
  intro post xp hP hX
  refine g_enter2 (k := 291) (N := 900) (by omega) rfl (Nat.le_of_ble_eq_true rfl) ?_
  refine g_aload_n 1 (gd rfl) rfl rfl ?_
  refine g_aload_n 2 (gd rfl) rfl rfl ?_
  refine g_iload_n 3 (gd rfl) rfl rfl ?_
  refine g_callv (X := _) (As := [.int x1]) (r := [.ref (A 109)]) (b := A 109) (q := 109) 6 (gd rfl) rfl rfl rfl rfl rfl (ww_o rfl) (Nat.le_of_ble_eq_true rfl) (mc := 0) (ms := 0) (Nat.zero_le _) (Nat.zero_le _) (P := fun v u => _) ?_ (fun e u h => h) (fun v u h => h)
  intro po1 xx2 hp3 hx4
  refine g_enter2 (k := 272) (N := 300) (by omega) rfl (Nat.le_of_ble_eq_true rfl) ?_
  refine g_iload_n 1 (gd rfl) rfl rfl ?_
  refine g_if_lt 4 16 (gd rfl) rfl rfl (fun c5 => ?_) (fun c5 => ?_)
  · skip
    have i6 := z_lt (-2147483648) (-1) c5 (i_rng x1) rfl
    refine g_iconst 0 17 (gd rfl) rfl rfl ?_
    refine g_ireturn (gd rfl) rfl (nb01 (in_w 0 1 (in_c 0 rfl) rfl)) (hp3 _ _ ?_)
    show GG _ _ _ _ _ _ _ _ [.int (Int32.ofInt 0), .ref (A 109)] _ _ _
    refine g_callv (X := _) (As := [.int (Int32.ofInt 0)]) (r := []) (b := A 109) (q := 109) 9 (gd rfl) rfl rfl rfl rfl rfl (ww_o rfl) (Nat.le_of_ble_eq_true rfl) (mc := 0) (ms := 0) (Nat.zero_le _) (Nat.zero_le _) (P := fun v u => _) ?_ (fun e u h => h) (fun v u h => h)
    intro po7 xx8 hp9 hx10
    refine g_enter2 (k := 271) (N := 300) (by omega) rfl (Nat.le_of_ble_eq_true rfl) ?_
    refine g_aload_n 1 (gd rfl) rfl rfl ?_
    refine g_iload_n 2 (gd rfl) rfl rfl ?_
    refine g_iconst 1 3 (gd rfl) rfl rfl ?_
    refine g_callv (X := _) (As := [.int (Int32.ofInt 0), .int (Int32.ofInt 1)]) (r := []) (b := A 109) (q := 109) 6 (gd rfl) rfl rfl rfl rfl rfl (ww_o rfl) (Nat.le_of_ble_eq_true rfl) (mc := 0) (ms := 0) (Nat.zero_le _) (Nat.zero_le _) (P := fun v u => _) ?_ (fun e u h => h) (fun v u h => h)
    intro po11 xx12 hp13 hx14
    refine g_enter2 (k := 270) (N := 300) (by omega) rfl (Nat.le_of_ble_eq_true rfl) ?_
    refine g_aload_n 1 (gd rfl) rfl rfl ?_
    refine g_iload_n 2 (gd rfl) rfl rfl ?_
    refine g_if_ne 5 9 (gd rfl) rfl rfl (fun c15 => ?_) (fun c15 => ?_)
    · skip
      exact zn_ne c15 (in_c 0 rfl) rfl
    · skip
      refine g_iconst 1 6 (gd rfl) rfl rfl ?_
      refine g_goto 18 (gd rfl) rfl ?_
      refine g_putI 21 (gd rfl) rfl rfl rfl rfl ?_
      have hI16 := inv_sF (q := 109) (j := 0) hI rfl (in_w 0 2 (in_c 1 rfl) rfl)
      refine g_aload_n 22 (gd rfl) rfl rfl ?_
      refine g_getI 25 (gd rfl) rfl rfl rfl (fun z17 e18 => ?_)
      have q19 : (Int32.ofInt 1) = z17 := (sF_get).trans e18.symm
      subst q19
      refine g_if_le 28 32 (gd rfl) rfl rfl (fun c20 => ?_) (fun c20 => ?_)
      · skip
        exact zn_le c20 (in_c 1 rfl) rfl
      · skip
        refine g_iconst 1 29 (gd rfl) rfl rfl ?_
        refine g_goto 33 (gd rfl) rfl ?_
        refine g_ireturn (gd rfl) rfl (nb01 (in_w 0 1 (in_c 1 rfl) rfl)) (hp13 _ _ ?_)
        show GG _ _ _ _ _ _ _ _ [.int (Int32.ofInt 1)] _ _ _
        refine g_ireturn (gd rfl) rfl (nb01 (in_w 0 1 (in_c 1 rfl) rfl)) (hp9 _ _ ?_)
        show GG _ _ _ _ _ _ _ _ [.int (Int32.ofInt 1)] _ _ _
        refine g_if_eq 12 16 (gd rfl) rfl rfl (fun c21 => ?_) (fun c21 => ?_)
        · skip
          exact zn_eq c21 (in_c 1 rfl) rfl
        · skip
          refine g_iconst 0 13 (gd rfl) rfl rfl ?_
          refine g_goto 30 (gd rfl) rfl ?_
          exact g_ireturn (gd rfl) rfl rfl (hP _ _ ⟨(sF s 109 0 (Int32.ofInt 1)), hI16, (Int32.ofInt 0), rfl, rfl, in_w 0 25 (in_c 0 rfl) rfl⟩)
  · skip
    have i22 := z_ge 0 2147483647 c5 (i_rng x1) rfl
    refine g_iload_n 5 (gd rfl) rfl rfl ?_
    refine g_aload_n 6 (gd rfl) rfl rfl ?_
    refine g_getI 9 (gd rfl) rfl rfl rfl (fun z23 e24 => ?_)
    have i25 := inv_F hI 0 32 rfl e24
    refine g_cmp_ge 12 16 (gd rfl) rfl rfl (fun c26 => ?_) (fun c26 => ?_)
    · skip
      refine g_iconst 0 17 (gd rfl) rfl rfl ?_
      refine g_ireturn (gd rfl) rfl (nb01 (in_w 0 1 (in_c 0 rfl) rfl)) (hp3 _ _ ?_)
      show GG _ _ _ _ _ _ _ _ [.int (Int32.ofInt 0), .ref (A 109)] _ _ _
      refine g_callv (X := _) (As := [.int (Int32.ofInt 0)]) (r := []) (b := A 109) (q := 109) 9 (gd rfl) rfl rfl rfl rfl rfl (ww_o rfl) (Nat.le_of_ble_eq_true rfl) (mc := 0) (ms := 0) (Nat.zero_le _) (Nat.zero_le _) (P := fun v u => _) ?_ (fun e u h => h) (fun v u h => h)
      intro po27 xx28 hp29 hx30
      refine g_enter2 (k := 271) (N := 300) (by omega) rfl (Nat.le_of_ble_eq_true rfl) ?_
      refine g_aload_n 1 (gd rfl) rfl rfl ?_
      refine g_iload_n 2 (gd rfl) rfl rfl ?_
      refine g_iconst 1 3 (gd rfl) rfl rfl ?_
      refine g_callv (X := _) (As := [.int (Int32.ofInt 0), .int (Int32.ofInt 1)]) (r := []) (b := A 109) (q := 109) 6 (gd rfl) rfl rfl rfl rfl rfl (ww_o rfl) (Nat.le_of_ble_eq_true rfl) (mc := 0) (ms := 0) (Nat.zero_le _) (Nat.zero_le _) (P := fun v u => _) ?_ (fun e u h => h) (fun v u h => h)
      intro po31 xx32 hp33 hx34
      refine g_enter2 (k := 270) (N := 300) (by omega) rfl (Nat.le_of_ble_eq_true rfl) ?_
      refine g_aload_n 1 (gd rfl) rfl rfl ?_
      refine g_iload_n 2 (gd rfl) rfl rfl ?_
      refine g_if_ne 5 9 (gd rfl) rfl rfl (fun c35 => ?_) (fun c35 => ?_)
      · skip
        exact zn_ne c35 (in_c 0 rfl) rfl
      · skip
        refine g_iconst 1 6 (gd rfl) rfl rfl ?_
        refine g_goto 18 (gd rfl) rfl ?_
        refine g_putI 21 (gd rfl) rfl rfl rfl rfl ?_
        have hI36 := inv_sF (q := 109) (j := 0) hI rfl (in_w 0 2 (in_c 1 rfl) rfl)
        refine g_aload_n 22 (gd rfl) rfl rfl ?_
        refine g_getI 25 (gd rfl) rfl rfl rfl (fun z37 e38 => ?_)
        have q39 : (Int32.ofInt 1) = z37 := (sF_get).trans e38.symm
        subst q39
        refine g_if_le 28 32 (gd rfl) rfl rfl (fun c40 => ?_) (fun c40 => ?_)
        · skip
          exact zn_le c40 (in_c 1 rfl) rfl
        · skip
          refine g_iconst 1 29 (gd rfl) rfl rfl ?_
          refine g_goto 33 (gd rfl) rfl ?_
          refine g_ireturn (gd rfl) rfl (nb01 (in_w 0 1 (in_c 1 rfl) rfl)) (hp33 _ _ ?_)
          show GG _ _ _ _ _ _ _ _ [.int (Int32.ofInt 1)] _ _ _
          refine g_ireturn (gd rfl) rfl (nb01 (in_w 0 1 (in_c 1 rfl) rfl)) (hp29 _ _ ?_)
          show GG _ _ _ _ _ _ _ _ [.int (Int32.ofInt 1)] _ _ _
          refine g_if_eq 12 16 (gd rfl) rfl rfl (fun c41 => ?_) (fun c41 => ?_)
          · skip
            exact zn_eq c41 (in_c 1 rfl) rfl
          · skip
            refine g_iconst 0 13 (gd rfl) rfl rfl ?_
            refine g_goto 30 (gd rfl) rfl ?_
            exact g_ireturn (gd rfl) rfl rfl (hP _ _ ⟨(sF s 109 0 (Int32.ofInt 1)), hI36, (Int32.ofInt 0), rfl, rfl, in_w 0 25 (in_c 0 rfl) rfl⟩)
    · skip
      have i42 := r_lt1 0 31 c26 i22 i25 rfl
      have i43 := r_lt2 1 32 c26 i22 i25 rfl
      refine g_iconst 1 13 (gd rfl) rfl rfl ?_
      refine g_goto 17 (gd rfl) rfl ?_
      refine g_ireturn (gd rfl) rfl (nb01 (in_w 0 1 (in_c 1 rfl) rfl)) (hp3 _ _ ?_)
      show GG _ _ _ _ _ _ _ _ [.int (Int32.ofInt 1), .ref (A 109)] _ _ _
      refine g_callv (X := _) (As := [.int (Int32.ofInt 1)]) (r := []) (b := A 109) (q := 109) 9 (gd rfl) rfl rfl rfl rfl rfl (ww_o rfl) (Nat.le_of_ble_eq_true rfl) (mc := 0) (ms := 0) (Nat.zero_le _) (Nat.zero_le _) (P := fun v u => _) ?_ (fun e u h => h) (fun v u h => h)
      intro po44 xx45 hp46 hx47
      refine g_enter2 (k := 271) (N := 300) (by omega) rfl (Nat.le_of_ble_eq_true rfl) ?_
      refine g_aload_n 1 (gd rfl) rfl rfl ?_
      refine g_iload_n 2 (gd rfl) rfl rfl ?_
      refine g_iconst 1 3 (gd rfl) rfl rfl ?_
      refine g_callv (X := _) (As := [.int (Int32.ofInt 1), .int (Int32.ofInt 1)]) (r := []) (b := A 109) (q := 109) 6 (gd rfl) rfl rfl rfl rfl rfl (ww_o rfl) (Nat.le_of_ble_eq_true rfl) (mc := 0) (ms := 0) (Nat.zero_le _) (Nat.zero_le _) (P := fun v u => _) ?_ (fun e u h => h) (fun v u h => h)
      intro po48 xx49 hp50 hx51
      refine g_enter2 (k := 270) (N := 300) (by omega) rfl (Nat.le_of_ble_eq_true rfl) ?_
      refine g_aload_n 1 (gd rfl) rfl rfl ?_
      refine g_iload_n 2 (gd rfl) rfl rfl ?_
      refine g_if_ne 5 9 (gd rfl) rfl rfl (fun c52 => ?_) (fun c52 => ?_)
      · skip
        refine g_iload_n 10 (gd rfl) rfl rfl ?_
        refine g_if_ne 13 17 (gd rfl) rfl rfl (fun c53 => ?_) (fun c53 => ?_)
        · skip
          refine g_iconst 0 18 (gd rfl) rfl rfl ?_
          refine g_putI 21 (gd rfl) rfl rfl rfl rfl ?_
          have hI54 := inv_sF (q := 109) (j := 0) hI rfl (in_w 0 2 (in_c 0 rfl) rfl)
          refine g_aload_n 22 (gd rfl) rfl rfl ?_
          refine g_getI 25 (gd rfl) rfl rfl rfl (fun z55 e56 => ?_)
          have q57 : (Int32.ofInt 0) = z55 := (sF_get).trans e56.symm
          subst q57
          refine g_if_le 28 32 (gd rfl) rfl rfl (fun c58 => ?_) (fun c58 => ?_)
          · skip
            refine g_iconst 0 33 (gd rfl) rfl rfl ?_
            refine g_ireturn (gd rfl) rfl (nb01 (in_w 0 1 (in_c 0 rfl) rfl)) (hp50 _ _ ?_)
            show GG _ _ _ _ _ _ _ _ [.int (Int32.ofInt 0)] _ _ _
            refine g_ireturn (gd rfl) rfl (nb01 (in_w 0 1 (in_c 0 rfl) rfl)) (hp46 _ _ ?_)
            show GG _ _ _ _ _ _ _ _ [.int (Int32.ofInt 0)] _ _ _
            refine g_if_eq 12 16 (gd rfl) rfl rfl (fun c59 => ?_) (fun c59 => ?_)
            · skip
              refine g_aload_n 17 (gd rfl) rfl rfl ?_
              refine g_getA (q2 := 111) 20 (gd rfl) rfl rfl rfl rfl rfl ?_
              refine g_bipush 32 22 (gd rfl) rfl rfl ?_
              refine g_aload_n 23 (gd rfl) rfl rfl ?_
              refine g_getI 26 (gd rfl) rfl rfl rfl (fun z60 e61 => ?_)
              have i62 := inv_F hI54 0 1 rfl e61
              refine g_imul 27 (gd rfl) rfl (fun z63 e64 => ?_)
              have i65 := in_mulc 32 0 32 (Or.inl e64) i62 rfl rfl
              refine g_iload_n 28 (gd rfl) rfl rfl ?_
              refine g_iadd 29 (gd rfl) rfl (fun z66 e67 => ?_)
              have i68 := in_add 0 63 e67 i65 i42 rfl rfl
              refine g_iaload 30 (gd rfl) rfl (n := 96) rfl (in_ix i68 rfl) (fun z69 e70 => ?_)
              have i71 := inv_I hI54 (n := 96) (t := 0) 0 25 rfl (in_ix i68 rfl) rfl e70
              exact g_ireturn (gd rfl) rfl rfl (hP _ _ ⟨(sF s 109 0 (Int32.ofInt 0)), hI54, z69, rfl, rfl, in_w 0 25 i71 rfl⟩)
            · skip
              exact zn_ne c59 (in_c 0 rfl) rfl
          · skip
            exact zn_gt c58 (in_c 0 rfl) rfl
        · skip
          exact zn_eq c53 (in_c 1 rfl) rfl
      · skip
        exact zn_eq c52 (in_c 1 rfl) rfl

/-- GraphHouseModel.arcAt -/
theorem k_292 {Z : AmZ} {A : Nat → Nat} {s : GS} {ex : va_W} {d : Nat} {X : AmX} {x1 : Int32} {x2 : Int32} {x3 : Int32} (hd : 4 ≤ d) (hI : Inv s)  : GC Z d 292 [.ref (A 109), .int x1, .int x2, .int x3] (WW Z A s ++ ex) 0 0 (fun v u => ∃ t : GS, Inv t ∧ ∃ z : Int32, v = some (.int z) ∧ u = WW Z A t ++ ex ∧ In z (-1) 159) X := by
  intro post xp hP hX
  have ct42 : ∀ (k42 : Nat) (s : GS) (y42_4 : Int32) (y42_5 : Int32), Inv s → In x1 0 31 → In x2 0 1 → In x3 0 2147483647 → In y42_5 0 160 → 160 - (y42_5).toInt < (k42 : Int) → GG Z (d - 1) 292 post (gx xp) (1 + k42 * 1801) 42 (fun j => xlook j [(0, .ref (A 109)), (1, .int x1), (2, .int x2), (3, .int x3), (4, .int y42_4), (5, .int y42_5)]) [] (WW Z A s ++ ex) 0 0 := by
    intro k42
    induction k42 with
    | zero => intro s y42_4 y42_5 hI j42_1 j42_2 j42_3 j42_5 mm42; exact m_no mm42 j42_5 rfl
    | succ k42 ih42 =>
      intro s y42_4 y42_5 hI j42_1 j42_2 j42_3 j42_5 mm42
      refine gg_w (M := 1 + k42 * 1801 + 1801) (by omega) ?_
      have ct112 : ∀ (s : GS) (y112_4 : Int32), Inv s → In y42_5 0 159 → GG Z (d - 1) 292 post (gx xp) (1 + k42 * 1801 + 901) 112 (fun j => xlook j [(0, .ref (A 109)), (1, .int x1), (2, .int x2), (3, .int x3), (4, .int y112_4), (5, .int y42_5)]) [] (WW Z A s ++ ex) 0 0 := by
        intro s y112_4 hI j112_5
        refine g_iinc 115 (gd rfl) rfl rfl (Nat.le_of_ble_eq_true rfl) (fun z1 e2 => ?_)
        have i3 := in_add 1 160 e2 j112_5 (in_c 1 rfl) rfl rfl
        refine g_goto 42 (gd rfl) rfl ?_
        exact gg_w (by omega) (gg_f (gf_cons rfl (gf_cons rfl (gf_cons rfl (gf_cons rfl (gf_cons rfl (gf_cons rfl gf_nil)))))) (ih42 s y112_4 z1 hI (in_w 0 31 j42_1 rfl) (in_w 0 1 j42_2 rfl) (in_w 0 2147483647 j42_3 rfl) (in_w 0 160 i3 rfl) (m_up mm42 (t_add e2 j112_5 (in_c 1 rfl) rfl) (in_w 1 1 (in_c 1 rfl) rfl))))
      refine g_iload 44 (gd rfl) rfl rfl ?_
      refine g_sipush 160 47 (gd rfl) rfl rfl ?_
      refine g_cmp_ge 50 118 (gd rfl) rfl rfl (fun c4 => ?_) (fun c4 => ?_)
      · skip
        have i5 := r_le2 160 160 c4 (in_c 160 rfl) j42_5 rfl
        refine g_iconst (-1) 119 (gd rfl) rfl rfl ?_
        exact g_ireturn (gd rfl) rfl rfl (hP _ _ ⟨s, hI, (Int32.ofInt (-1)), rfl, rfl, in_w (-1) 159 (in_c (-1) rfl) rfl⟩)
      · skip
        have i6 := r_lt1 0 159 c4 j42_5 (in_c 160 rfl) rfl
        refine g_aload_n 51 (gd rfl) rfl rfl ?_
        refine g_getA (q2 := 112) 54 (gd rfl) rfl rfl rfl rfl rfl ?_
        refine g_aload_n 55 (gd rfl) rfl rfl ?_
        refine g_getI 58 (gd rfl) rfl rfl rfl (fun z7 e8 => ?_)
        have i9 := inv_F hI 0 160 rfl e8
        refine g_iload 60 (gd rfl) rfl rfl ?_
        refine g_iadd 61 (gd rfl) rfl (fun z10 e11 => ?_)
        have i12 := in_add 0 319 e11 i9 i6 rfl rfl
        refine g_baload 62 (gd rfl) rfl (n := 480) rfl (in_ix i12 rfl) (fun z13 e14 => ?_)
        have i15 := inv_I hI (n := 480) (t := 3) 0 1 rfl (in_ix i12 rfl) rfl e14
        refine g_if_eq 65 112 (gd rfl) rfl rfl (fun c16 => ?_) (fun c16 => ?_)
        · skip
          have i17 := z_eq 0 0 c16 i15 rfl
          exact gg_w (by omega) (gg_f (gf_cons rfl (gf_cons rfl (gf_cons rfl (gf_cons rfl (gf_cons rfl (gf_cons rfl gf_nil)))))) (ct112 s y42_4 hI (in_w 0 159 i6 rfl)))
        · skip
          have i18 := z_ne 1 1 c16 i15 rfl
          refine g_iload_n 66 (gd rfl) rfl rfl ?_
          refine g_if_ne 69 84 (gd rfl) rfl rfl (fun c19 => ?_) (fun c19 => ?_)
          · skip
            have i20 := z_ne 1 1 c19 j42_2 rfl
            refine g_aload_n 85 (gd rfl) rfl rfl ?_
            refine g_getA (q2 := 114) 88 (gd rfl) rfl rfl rfl rfl rfl ?_
            refine g_aload_n 89 (gd rfl) rfl rfl ?_
            refine g_getI 92 (gd rfl) rfl rfl rfl (fun z21 e22 => ?_)
            have q23 : z7 = z21 := (e8).trans e22.symm
            subst q23
            refine g_iload 94 (gd rfl) rfl rfl ?_
            refine g_iadd 95 (gd rfl) rfl (fun z24 e25 => ?_)
            have i26 := in_add 0 319 e25 i9 i6 rfl rfl
            refine g_iaload 96 (gd rfl) rfl (n := 480) rfl (in_ix i26 rfl) (fun z27 e28 => ?_)
            have i29 := inv_I hI (n := 480) (t := 0) 0 31 rfl (in_ix i26 rfl) rfl e28
            refine g_iload_n 97 (gd rfl) rfl rfl ?_
            refine g_cmp_ne 100 112 (gd rfl) rfl rfl (fun c30 => ?_) (fun c30 => ?_)
            · skip
              exact gg_w (by omega) (gg_f (gf_cons rfl (gf_cons rfl (gf_cons rfl (gf_cons rfl (gf_cons rfl (gf_cons rfl gf_nil)))))) (ct112 s y42_4 hI (in_w 0 159 i6 rfl)))
            · skip
              refine g_iload 102 (gd rfl) rfl rfl ?_
              refine g_iload_n 103 (gd rfl) rfl rfl ?_
              refine g_cmp_ne 106 109 (gd rfl) rfl rfl (fun c31 => ?_) (fun c31 => ?_)
              · skip
                refine g_iinc 112 (gd rfl) rfl rfl (Nat.le_of_ble_eq_true rfl) (fun z32 e33 => ?_)
                exact gg_w (by omega) (gg_f (gf_cons rfl (gf_cons rfl (gf_cons rfl (gf_cons rfl (gf_cons rfl (gf_cons rfl gf_nil)))))) (ct112 s z32 hI (in_w 0 159 i6 rfl)))
              · skip
                have i34 := r_eq1 0 2147483647 c31 (i_rng y42_4) j42_3 rfl
                refine g_iload 108 (gd rfl) rfl rfl ?_
                exact g_ireturn (gd rfl) rfl rfl (hP _ _ ⟨s, hI, y42_5, rfl, rfl, in_w (-1) 159 i6 rfl⟩)
          · skip
            have i35 := z_eq 0 0 c19 j42_2 rfl
            refine g_aload_n 70 (gd rfl) rfl rfl ?_
            refine g_getA (q2 := 113) 73 (gd rfl) rfl rfl rfl rfl rfl ?_
            refine g_aload_n 74 (gd rfl) rfl rfl ?_
            refine g_getI 77 (gd rfl) rfl rfl rfl (fun z36 e37 => ?_)
            have q38 : z7 = z36 := (e8).trans e37.symm
            subst q38
            refine g_iload 79 (gd rfl) rfl rfl ?_
            refine g_iadd 80 (gd rfl) rfl (fun z39 e40 => ?_)
            have i41 := in_add 0 319 e40 i9 i6 rfl rfl
            refine g_iaload 81 (gd rfl) rfl (n := 480) rfl (in_ix i41 rfl) (fun z42 e43 => ?_)
            have i44 := inv_I hI (n := 480) (t := 0) 0 31 rfl (in_ix i41 rfl) rfl e43
            refine g_goto 96 (gd rfl) rfl ?_
            refine g_iload_n 97 (gd rfl) rfl rfl ?_
            refine g_cmp_ne 100 112 (gd rfl) rfl rfl (fun c45 => ?_) (fun c45 => ?_)
            · skip
              exact gg_w (by omega) (gg_f (gf_cons rfl (gf_cons rfl (gf_cons rfl (gf_cons rfl (gf_cons rfl (gf_cons rfl gf_nil)))))) (ct112 s y42_4 hI (in_w 0 159 i6 rfl)))
            · skip
              refine g_iload 102 (gd rfl) rfl rfl ?_
              refine g_iload_n 103 (gd rfl) rfl rfl ?_
              refine g_cmp_ne 106 109 (gd rfl) rfl rfl (fun c46 => ?_) (fun c46 => ?_)
              · skip
                refine g_iinc 112 (gd rfl) rfl rfl (Nat.le_of_ble_eq_true rfl) (fun z47 e48 => ?_)
                exact gg_w (by omega) (gg_f (gf_cons rfl (gf_cons rfl (gf_cons rfl (gf_cons rfl (gf_cons rfl (gf_cons rfl gf_nil)))))) (ct112 s z47 hI (in_w 0 159 i6 rfl)))
              · skip
                have i49 := r_eq1 0 2147483647 c46 (i_rng y42_4) j42_3 rfl
                refine g_iload 108 (gd rfl) rfl rfl ?_
                exact g_ireturn (gd rfl) rfl rfl (hP _ _ ⟨s, hI, y42_5, rfl, rfl, in_w (-1) 159 i6 rfl⟩)
  refine g_enter2 (k := 292) (N := 290862) (by omega) rfl (Nat.le_of_ble_eq_true rfl) ?_
  refine g_aload_n 1 (gd rfl) rfl rfl ?_
  refine g_aload_n 2 (gd rfl) rfl rfl ?_
  refine g_iload_n 3 (gd rfl) rfl rfl ?_
  refine g_callv (X := _) (As := [.int x1]) (r := [.ref (A 109)]) (b := A 109) (q := 109) 6 (gd rfl) rfl rfl rfl rfl rfl (ww_o rfl) (Nat.le_of_ble_eq_true rfl) (mc := 0) (ms := 0) (Nat.zero_le _) (Nat.zero_le _) (P := fun v u => _) ?_ (fun e u h => h) (fun v u h => h)
  intro po50 xx51 hp52 hx53
  refine g_enter2 (k := 272) (N := 300) (by omega) rfl (Nat.le_of_ble_eq_true rfl) ?_
  refine g_iload_n 1 (gd rfl) rfl rfl ?_
  refine g_if_lt 4 16 (gd rfl) rfl rfl (fun c54 => ?_) (fun c54 => ?_)
  · skip
    have i55 := z_lt (-2147483648) (-1) c54 (i_rng x1) rfl
    refine g_iconst 0 17 (gd rfl) rfl rfl ?_
    refine g_ireturn (gd rfl) rfl (nb01 (in_w 0 1 (in_c 0 rfl) rfl)) (hp52 _ _ ?_)
    show GG _ _ _ _ _ _ _ _ [.int (Int32.ofInt 0), .ref (A 109)] _ _ _
    refine g_if_eq 9 27 (gd rfl) rfl rfl (fun c56 => ?_) (fun c56 => ?_)
    · skip
      refine g_iconst 0 28 (gd rfl) rfl rfl ?_
      refine g_callv (X := _) (As := [.int (Int32.ofInt 0)]) (r := []) (b := A 109) (q := 109) 31 (gd rfl) rfl rfl rfl rfl rfl (ww_o rfl) (Nat.le_of_ble_eq_true rfl) (mc := 0) (ms := 0) (Nat.zero_le _) (Nat.zero_le _) (P := fun v u => _) ?_ (fun e u h => h) (fun v u h => h)
      intro po57 xx58 hp59 hx60
      refine g_enter2 (k := 271) (N := 300) (by omega) rfl (Nat.le_of_ble_eq_true rfl) ?_
      refine g_aload_n 1 (gd rfl) rfl rfl ?_
      refine g_iload_n 2 (gd rfl) rfl rfl ?_
      refine g_iconst 1 3 (gd rfl) rfl rfl ?_
      refine g_callv (X := _) (As := [.int (Int32.ofInt 0), .int (Int32.ofInt 1)]) (r := []) (b := A 109) (q := 109) 6 (gd rfl) rfl rfl rfl rfl rfl (ww_o rfl) (Nat.le_of_ble_eq_true rfl) (mc := 0) (ms := 0) (Nat.zero_le _) (Nat.zero_le _) (P := fun v u => _) ?_ (fun e u h => h) (fun v u h => h)
      intro po61 xx62 hp63 hx64
      refine g_enter2 (k := 270) (N := 300) (by omega) rfl (Nat.le_of_ble_eq_true rfl) ?_
      refine g_aload_n 1 (gd rfl) rfl rfl ?_
      refine g_iload_n 2 (gd rfl) rfl rfl ?_
      refine g_if_ne 5 9 (gd rfl) rfl rfl (fun c65 => ?_) (fun c65 => ?_)
      · skip
        exact zn_ne c65 (in_c 0 rfl) rfl
      · skip
        refine g_iconst 1 6 (gd rfl) rfl rfl ?_
        refine g_goto 18 (gd rfl) rfl ?_
        refine g_putI 21 (gd rfl) rfl rfl rfl rfl ?_
        have hI66 := inv_sF (q := 109) (j := 0) hI rfl (in_w 0 2 (in_c 1 rfl) rfl)
        refine g_aload_n 22 (gd rfl) rfl rfl ?_
        refine g_getI 25 (gd rfl) rfl rfl rfl (fun z67 e68 => ?_)
        have q69 : (Int32.ofInt 1) = z67 := (sF_get).trans e68.symm
        subst q69
        refine g_if_le 28 32 (gd rfl) rfl rfl (fun c70 => ?_) (fun c70 => ?_)
        · skip
          exact zn_le c70 (in_c 1 rfl) rfl
        · skip
          refine g_iconst 1 29 (gd rfl) rfl rfl ?_
          refine g_goto 33 (gd rfl) rfl ?_
          refine g_ireturn (gd rfl) rfl (nb01 (in_w 0 1 (in_c 1 rfl) rfl)) (hp63 _ _ ?_)
          show GG _ _ _ _ _ _ _ _ [.int (Int32.ofInt 1)] _ _ _
          refine g_ireturn (gd rfl) rfl (nb01 (in_w 0 1 (in_c 1 rfl) rfl)) (hp59 _ _ ?_)
          show GG _ _ _ _ _ _ _ _ [.int (Int32.ofInt 1)] _ _ _
          refine g_if_eq 34 36 (gd rfl) rfl rfl (fun c71 => ?_) (fun c71 => ?_)
          · skip
            exact zn_eq c71 (in_c 1 rfl) rfl
          · skip
            refine g_iconst 0 35 (gd rfl) rfl rfl ?_
            exact g_ireturn (gd rfl) rfl rfl (hP _ _ ⟨(sF s 109 0 (Int32.ofInt 1)), hI66, (Int32.ofInt 0), rfl, rfl, in_w (-1) 159 (in_c 0 rfl) rfl⟩)
    · skip
      exact zn_ne c56 (in_c 0 rfl) rfl
  · skip
    have i72 := z_ge 0 2147483647 c54 (i_rng x1) rfl
    refine g_iload_n 5 (gd rfl) rfl rfl ?_
    refine g_aload_n 6 (gd rfl) rfl rfl ?_
    refine g_getI 9 (gd rfl) rfl rfl rfl (fun z73 e74 => ?_)
    have i75 := inv_F hI 0 32 rfl e74
    refine g_cmp_ge 12 16 (gd rfl) rfl rfl (fun c76 => ?_) (fun c76 => ?_)
    · skip
      refine g_iconst 0 17 (gd rfl) rfl rfl ?_
      refine g_ireturn (gd rfl) rfl (nb01 (in_w 0 1 (in_c 0 rfl) rfl)) (hp52 _ _ ?_)
      show GG _ _ _ _ _ _ _ _ [.int (Int32.ofInt 0), .ref (A 109)] _ _ _
      refine g_if_eq 9 27 (gd rfl) rfl rfl (fun c77 => ?_) (fun c77 => ?_)
      · skip
        refine g_iconst 0 28 (gd rfl) rfl rfl ?_
        refine g_callv (X := _) (As := [.int (Int32.ofInt 0)]) (r := []) (b := A 109) (q := 109) 31 (gd rfl) rfl rfl rfl rfl rfl (ww_o rfl) (Nat.le_of_ble_eq_true rfl) (mc := 0) (ms := 0) (Nat.zero_le _) (Nat.zero_le _) (P := fun v u => _) ?_ (fun e u h => h) (fun v u h => h)
        intro po78 xx79 hp80 hx81
        refine g_enter2 (k := 271) (N := 300) (by omega) rfl (Nat.le_of_ble_eq_true rfl) ?_
        refine g_aload_n 1 (gd rfl) rfl rfl ?_
        refine g_iload_n 2 (gd rfl) rfl rfl ?_
        refine g_iconst 1 3 (gd rfl) rfl rfl ?_
        refine g_callv (X := _) (As := [.int (Int32.ofInt 0), .int (Int32.ofInt 1)]) (r := []) (b := A 109) (q := 109) 6 (gd rfl) rfl rfl rfl rfl rfl (ww_o rfl) (Nat.le_of_ble_eq_true rfl) (mc := 0) (ms := 0) (Nat.zero_le _) (Nat.zero_le _) (P := fun v u => _) ?_ (fun e u h => h) (fun v u h => h)
        intro po82 xx83 hp84 hx85
        refine g_enter2 (k := 270) (N := 300) (by omega) rfl (Nat.le_of_ble_eq_true rfl) ?_
        refine g_aload_n 1 (gd rfl) rfl rfl ?_
        refine g_iload_n 2 (gd rfl) rfl rfl ?_
        refine g_if_ne 5 9 (gd rfl) rfl rfl (fun c86 => ?_) (fun c86 => ?_)
        · skip
          exact zn_ne c86 (in_c 0 rfl) rfl
        · skip
          refine g_iconst 1 6 (gd rfl) rfl rfl ?_
          refine g_goto 18 (gd rfl) rfl ?_
          refine g_putI 21 (gd rfl) rfl rfl rfl rfl ?_
          have hI87 := inv_sF (q := 109) (j := 0) hI rfl (in_w 0 2 (in_c 1 rfl) rfl)
          refine g_aload_n 22 (gd rfl) rfl rfl ?_
          refine g_getI 25 (gd rfl) rfl rfl rfl (fun z88 e89 => ?_)
          have q90 : (Int32.ofInt 1) = z88 := (sF_get).trans e89.symm
          subst q90
          refine g_if_le 28 32 (gd rfl) rfl rfl (fun c91 => ?_) (fun c91 => ?_)
          · skip
            exact zn_le c91 (in_c 1 rfl) rfl
          · skip
            refine g_iconst 1 29 (gd rfl) rfl rfl ?_
            refine g_goto 33 (gd rfl) rfl ?_
            refine g_ireturn (gd rfl) rfl (nb01 (in_w 0 1 (in_c 1 rfl) rfl)) (hp84 _ _ ?_)
            show GG _ _ _ _ _ _ _ _ [.int (Int32.ofInt 1)] _ _ _
            refine g_ireturn (gd rfl) rfl (nb01 (in_w 0 1 (in_c 1 rfl) rfl)) (hp80 _ _ ?_)
            show GG _ _ _ _ _ _ _ _ [.int (Int32.ofInt 1)] _ _ _
            refine g_if_eq 34 36 (gd rfl) rfl rfl (fun c92 => ?_) (fun c92 => ?_)
            · skip
              exact zn_eq c92 (in_c 1 rfl) rfl
            · skip
              refine g_iconst 0 35 (gd rfl) rfl rfl ?_
              exact g_ireturn (gd rfl) rfl rfl (hP _ _ ⟨(sF s 109 0 (Int32.ofInt 1)), hI87, (Int32.ofInt 0), rfl, rfl, in_w (-1) 159 (in_c 0 rfl) rfl⟩)
      · skip
        exact zn_ne c77 (in_c 0 rfl) rfl
    · skip
      have i93 := r_lt1 0 31 c76 i72 i75 rfl
      have i94 := r_lt2 1 32 c76 i72 i75 rfl
      refine g_iconst 1 13 (gd rfl) rfl rfl ?_
      refine g_goto 17 (gd rfl) rfl ?_
      refine g_ireturn (gd rfl) rfl (nb01 (in_w 0 1 (in_c 1 rfl) rfl)) (hp52 _ _ ?_)
      show GG _ _ _ _ _ _ _ _ [.int (Int32.ofInt 1), .ref (A 109)] _ _ _
      refine g_if_eq 9 27 (gd rfl) rfl rfl (fun c95 => ?_) (fun c95 => ?_)
      · skip
        exact zn_eq c95 (in_c 1 rfl) rfl
      · skip
        refine g_iload_n 10 (gd rfl) rfl rfl ?_
        refine g_i2l 11 (gd rfl) rfl (fun z96 e97 => ?_)
        have i98 := l_i e97 (i_rng x2)
        refine g_lconst 0 12 (gd rfl) rfl rfl ?_
        refine g_lconst 1 13 (gd rfl) rfl rfl ?_
        refine g_calls (As := [.long z96, .long (Int64.ofInt 0), .long (Int64.ofInt 1)]) (r := [.ref (A 109)]) 16 (gd rfl) rfl rfl rfl rfl rfl (Nat.le_of_ble_eq_true rfl) (mc := 0) (ms := 0) (Nat.zero_le _) (Nat.zero_le _) (P := fun v u => _) ?_ (fun v u h => h)
        intro po99 xx100 hp101 hx102
        refine g_enter2 (k := 269) (N := 300) (by omega) rfl (Nat.le_of_ble_eq_true rfl) ?_
        refine g_lload_n 1 (gd rfl) rfl rfl ?_
        refine g_lload_n 2 (gd rfl) rfl rfl ?_
        refine g_lcmp 3 (gd rfl) rfl (fun z103 e104 => ?_)
        have i105 := lc_in e104
        refine g_if_lt 6 17 (gd rfl) rfl rfl (fun c106 => ?_) (fun c106 => ?_)
        · skip
          have i107 := z_lt (-1) (-1) c106 i105 rfl
          have c108 := lc_lt e104 c106
          have i109 := lr_lt1 (-2147483648) (-1) c108 i98 (l_c 0 rfl) rfl
          have i110 := l_b e97 i109
          refine g_iconst 0 18 (gd rfl) rfl rfl ?_
          refine g_ireturn (gd rfl) rfl (nb01 (in_w 0 1 (in_c 0 rfl) rfl)) (hp101 _ _ ?_)
          show GG _ _ _ _ _ _ _ _ [.int (Int32.ofInt 0), .ref (A 109)] _ _ _
          refine g_if_eq 19 27 (gd rfl) rfl rfl (fun c111 => ?_) (fun c111 => ?_)
          · skip
            refine g_iconst 0 28 (gd rfl) rfl rfl ?_
            refine g_callv (X := _) (As := [.int (Int32.ofInt 0)]) (r := []) (b := A 109) (q := 109) 31 (gd rfl) rfl rfl rfl rfl rfl (ww_o rfl) (Nat.le_of_ble_eq_true rfl) (mc := 0) (ms := 0) (Nat.zero_le _) (Nat.zero_le _) (P := fun v u => _) ?_ (fun e u h => h) (fun v u h => h)
            intro po112 xx113 hp114 hx115
            refine g_enter2 (k := 271) (N := 300) (by omega) rfl (Nat.le_of_ble_eq_true rfl) ?_
            refine g_aload_n 1 (gd rfl) rfl rfl ?_
            refine g_iload_n 2 (gd rfl) rfl rfl ?_
            refine g_iconst 1 3 (gd rfl) rfl rfl ?_
            refine g_callv (X := _) (As := [.int (Int32.ofInt 0), .int (Int32.ofInt 1)]) (r := []) (b := A 109) (q := 109) 6 (gd rfl) rfl rfl rfl rfl rfl (ww_o rfl) (Nat.le_of_ble_eq_true rfl) (mc := 0) (ms := 0) (Nat.zero_le _) (Nat.zero_le _) (P := fun v u => _) ?_ (fun e u h => h) (fun v u h => h)
            intro po116 xx117 hp118 hx119
            refine g_enter2 (k := 270) (N := 300) (by omega) rfl (Nat.le_of_ble_eq_true rfl) ?_
            refine g_aload_n 1 (gd rfl) rfl rfl ?_
            refine g_iload_n 2 (gd rfl) rfl rfl ?_
            refine g_if_ne 5 9 (gd rfl) rfl rfl (fun c120 => ?_) (fun c120 => ?_)
            · skip
              exact zn_ne c120 (in_c 0 rfl) rfl
            · skip
              refine g_iconst 1 6 (gd rfl) rfl rfl ?_
              refine g_goto 18 (gd rfl) rfl ?_
              refine g_putI 21 (gd rfl) rfl rfl rfl rfl ?_
              have hI121 := inv_sF (q := 109) (j := 0) hI rfl (in_w 0 2 (in_c 1 rfl) rfl)
              refine g_aload_n 22 (gd rfl) rfl rfl ?_
              refine g_getI 25 (gd rfl) rfl rfl rfl (fun z122 e123 => ?_)
              have q124 : (Int32.ofInt 1) = z122 := (sF_get).trans e123.symm
              subst q124
              refine g_if_le 28 32 (gd rfl) rfl rfl (fun c125 => ?_) (fun c125 => ?_)
              · skip
                exact zn_le c125 (in_c 1 rfl) rfl
              · skip
                refine g_iconst 1 29 (gd rfl) rfl rfl ?_
                refine g_goto 33 (gd rfl) rfl ?_
                refine g_ireturn (gd rfl) rfl (nb01 (in_w 0 1 (in_c 1 rfl) rfl)) (hp118 _ _ ?_)
                show GG _ _ _ _ _ _ _ _ [.int (Int32.ofInt 1)] _ _ _
                refine g_ireturn (gd rfl) rfl (nb01 (in_w 0 1 (in_c 1 rfl) rfl)) (hp114 _ _ ?_)
                show GG _ _ _ _ _ _ _ _ [.int (Int32.ofInt 1)] _ _ _
                refine g_if_eq 34 36 (gd rfl) rfl rfl (fun c126 => ?_) (fun c126 => ?_)
                · skip
                  exact zn_eq c126 (in_c 1 rfl) rfl
                · skip
                  refine g_iconst 0 35 (gd rfl) rfl rfl ?_
                  exact g_ireturn (gd rfl) rfl rfl (hP _ _ ⟨(sF s 109 0 (Int32.ofInt 1)), hI121, (Int32.ofInt 0), rfl, rfl, in_w (-1) 159 (in_c 0 rfl) rfl⟩)
          · skip
            exact zn_ne c111 (in_c 0 rfl) rfl
        · skip
          have i127 := z_ge 0 1 c106 i105 rfl
          have c128 := lc_ge e104 c106
          have i129 := lr_le2 0 2147483647 c128 (l_c 0 rfl) i98 rfl
          have i130 := l_b e97 i129
          refine g_lload_n 7 (gd rfl) rfl rfl ?_
          refine g_lload 9 (gd rfl) rfl rfl ?_
          refine g_lcmp 10 (gd rfl) rfl (fun z131 e132 => ?_)
          have i133 := lc_in e132
          refine g_if_gt 13 17 (gd rfl) rfl rfl (fun c134 => ?_) (fun c134 => ?_)
          · skip
            have i135 := z_gt 1 1 c134 i133 rfl
            have c136 := lc_gt e132 c134
            have i137 := lr_lt2 2 2147483647 c136 (l_c 1 rfl) i129 rfl
            have i138 := l_b e97 i137
            refine g_iconst 0 18 (gd rfl) rfl rfl ?_
            refine g_ireturn (gd rfl) rfl (nb01 (in_w 0 1 (in_c 0 rfl) rfl)) (hp101 _ _ ?_)
            show GG _ _ _ _ _ _ _ _ [.int (Int32.ofInt 0), .ref (A 109)] _ _ _
            refine g_if_eq 19 27 (gd rfl) rfl rfl (fun c139 => ?_) (fun c139 => ?_)
            · skip
              refine g_iconst 0 28 (gd rfl) rfl rfl ?_
              refine g_callv (X := _) (As := [.int (Int32.ofInt 0)]) (r := []) (b := A 109) (q := 109) 31 (gd rfl) rfl rfl rfl rfl rfl (ww_o rfl) (Nat.le_of_ble_eq_true rfl) (mc := 0) (ms := 0) (Nat.zero_le _) (Nat.zero_le _) (P := fun v u => _) ?_ (fun e u h => h) (fun v u h => h)
              intro po140 xx141 hp142 hx143
              refine g_enter2 (k := 271) (N := 300) (by omega) rfl (Nat.le_of_ble_eq_true rfl) ?_
              refine g_aload_n 1 (gd rfl) rfl rfl ?_
              refine g_iload_n 2 (gd rfl) rfl rfl ?_
              refine g_iconst 1 3 (gd rfl) rfl rfl ?_
              refine g_callv (X := _) (As := [.int (Int32.ofInt 0), .int (Int32.ofInt 1)]) (r := []) (b := A 109) (q := 109) 6 (gd rfl) rfl rfl rfl rfl rfl (ww_o rfl) (Nat.le_of_ble_eq_true rfl) (mc := 0) (ms := 0) (Nat.zero_le _) (Nat.zero_le _) (P := fun v u => _) ?_ (fun e u h => h) (fun v u h => h)
              intro po144 xx145 hp146 hx147
              refine g_enter2 (k := 270) (N := 300) (by omega) rfl (Nat.le_of_ble_eq_true rfl) ?_
              refine g_aload_n 1 (gd rfl) rfl rfl ?_
              refine g_iload_n 2 (gd rfl) rfl rfl ?_
              refine g_if_ne 5 9 (gd rfl) rfl rfl (fun c148 => ?_) (fun c148 => ?_)
              · skip
                exact zn_ne c148 (in_c 0 rfl) rfl
              · skip
                refine g_iconst 1 6 (gd rfl) rfl rfl ?_
                refine g_goto 18 (gd rfl) rfl ?_
                refine g_putI 21 (gd rfl) rfl rfl rfl rfl ?_
                have hI149 := inv_sF (q := 109) (j := 0) hI rfl (in_w 0 2 (in_c 1 rfl) rfl)
                refine g_aload_n 22 (gd rfl) rfl rfl ?_
                refine g_getI 25 (gd rfl) rfl rfl rfl (fun z150 e151 => ?_)
                have q152 : (Int32.ofInt 1) = z150 := (sF_get).trans e151.symm
                subst q152
                refine g_if_le 28 32 (gd rfl) rfl rfl (fun c153 => ?_) (fun c153 => ?_)
                · skip
                  exact zn_le c153 (in_c 1 rfl) rfl
                · skip
                  refine g_iconst 1 29 (gd rfl) rfl rfl ?_
                  refine g_goto 33 (gd rfl) rfl ?_
                  refine g_ireturn (gd rfl) rfl (nb01 (in_w 0 1 (in_c 1 rfl) rfl)) (hp146 _ _ ?_)
                  show GG _ _ _ _ _ _ _ _ [.int (Int32.ofInt 1)] _ _ _
                  refine g_ireturn (gd rfl) rfl (nb01 (in_w 0 1 (in_c 1 rfl) rfl)) (hp142 _ _ ?_)
                  show GG _ _ _ _ _ _ _ _ [.int (Int32.ofInt 1)] _ _ _
                  refine g_if_eq 34 36 (gd rfl) rfl rfl (fun c154 => ?_) (fun c154 => ?_)
                  · skip
                    exact zn_eq c154 (in_c 1 rfl) rfl
                  · skip
                    refine g_iconst 0 35 (gd rfl) rfl rfl ?_
                    exact g_ireturn (gd rfl) rfl rfl (hP _ _ ⟨(sF s 109 0 (Int32.ofInt 1)), hI149, (Int32.ofInt 0), rfl, rfl, in_w (-1) 159 (in_c 0 rfl) rfl⟩)
            · skip
              exact zn_ne c139 (in_c 0 rfl) rfl
          · skip
            have i155 := z_le (-1) 0 c134 i133 rfl
            have c156 := lc_le e132 c134
            have i157 := lr_le1 0 1 c156 i129 (l_c 1 rfl) rfl
            have i158 := l_b e97 i157
            refine g_iconst 1 14 (gd rfl) rfl rfl ?_
            refine g_goto 18 (gd rfl) rfl ?_
            refine g_ireturn (gd rfl) rfl (nb01 (in_w 0 1 (in_c 1 rfl) rfl)) (hp101 _ _ ?_)
            show GG _ _ _ _ _ _ _ _ [.int (Int32.ofInt 1), .ref (A 109)] _ _ _
            refine g_if_eq 19 27 (gd rfl) rfl rfl (fun c159 => ?_) (fun c159 => ?_)
            · skip
              exact zn_eq c159 (in_c 1 rfl) rfl
            · skip
              refine g_iload_n 20 (gd rfl) rfl rfl ?_
              refine g_if_lt 23 27 (gd rfl) rfl rfl (fun c160 => ?_) (fun c160 => ?_)
              · skip
                have i161 := z_lt (-2147483648) (-1) c160 (i_rng x3) rfl
                refine g_iconst 0 28 (gd rfl) rfl rfl ?_
                refine g_callv (X := _) (As := [.int (Int32.ofInt 0)]) (r := []) (b := A 109) (q := 109) 31 (gd rfl) rfl rfl rfl rfl rfl (ww_o rfl) (Nat.le_of_ble_eq_true rfl) (mc := 0) (ms := 0) (Nat.zero_le _) (Nat.zero_le _) (P := fun v u => _) ?_ (fun e u h => h) (fun v u h => h)
                intro po162 xx163 hp164 hx165
                refine g_enter2 (k := 271) (N := 300) (by omega) rfl (Nat.le_of_ble_eq_true rfl) ?_
                refine g_aload_n 1 (gd rfl) rfl rfl ?_
                refine g_iload_n 2 (gd rfl) rfl rfl ?_
                refine g_iconst 1 3 (gd rfl) rfl rfl ?_
                refine g_callv (X := _) (As := [.int (Int32.ofInt 0), .int (Int32.ofInt 1)]) (r := []) (b := A 109) (q := 109) 6 (gd rfl) rfl rfl rfl rfl rfl (ww_o rfl) (Nat.le_of_ble_eq_true rfl) (mc := 0) (ms := 0) (Nat.zero_le _) (Nat.zero_le _) (P := fun v u => _) ?_ (fun e u h => h) (fun v u h => h)
                intro po166 xx167 hp168 hx169
                refine g_enter2 (k := 270) (N := 300) (by omega) rfl (Nat.le_of_ble_eq_true rfl) ?_
                refine g_aload_n 1 (gd rfl) rfl rfl ?_
                refine g_iload_n 2 (gd rfl) rfl rfl ?_
                refine g_if_ne 5 9 (gd rfl) rfl rfl (fun c170 => ?_) (fun c170 => ?_)
                · skip
                  exact zn_ne c170 (in_c 0 rfl) rfl
                · skip
                  refine g_iconst 1 6 (gd rfl) rfl rfl ?_
                  refine g_goto 18 (gd rfl) rfl ?_
                  refine g_putI 21 (gd rfl) rfl rfl rfl rfl ?_
                  have hI171 := inv_sF (q := 109) (j := 0) hI rfl (in_w 0 2 (in_c 1 rfl) rfl)
                  refine g_aload_n 22 (gd rfl) rfl rfl ?_
                  refine g_getI 25 (gd rfl) rfl rfl rfl (fun z172 e173 => ?_)
                  have q174 : (Int32.ofInt 1) = z172 := (sF_get).trans e173.symm
                  subst q174
                  refine g_if_le 28 32 (gd rfl) rfl rfl (fun c175 => ?_) (fun c175 => ?_)
                  · skip
                    exact zn_le c175 (in_c 1 rfl) rfl
                  · skip
                    refine g_iconst 1 29 (gd rfl) rfl rfl ?_
                    refine g_goto 33 (gd rfl) rfl ?_
                    refine g_ireturn (gd rfl) rfl (nb01 (in_w 0 1 (in_c 1 rfl) rfl)) (hp168 _ _ ?_)
                    show GG _ _ _ _ _ _ _ _ [.int (Int32.ofInt 1)] _ _ _
                    refine g_ireturn (gd rfl) rfl (nb01 (in_w 0 1 (in_c 1 rfl) rfl)) (hp164 _ _ ?_)
                    show GG _ _ _ _ _ _ _ _ [.int (Int32.ofInt 1)] _ _ _
                    refine g_if_eq 34 36 (gd rfl) rfl rfl (fun c176 => ?_) (fun c176 => ?_)
                    · skip
                      exact zn_eq c176 (in_c 1 rfl) rfl
                    · skip
                      refine g_iconst 0 35 (gd rfl) rfl rfl ?_
                      exact g_ireturn (gd rfl) rfl rfl (hP _ _ ⟨(sF s 109 0 (Int32.ofInt 1)), hI171, (Int32.ofInt 0), rfl, rfl, in_w (-1) 159 (in_c 0 rfl) rfl⟩)
              · skip
                have i177 := z_ge 0 2147483647 c160 (i_rng x3) rfl
                refine g_iconst 1 24 (gd rfl) rfl rfl ?_
                refine g_goto 28 (gd rfl) rfl ?_
                refine g_callv (X := _) (As := [.int (Int32.ofInt 1)]) (r := []) (b := A 109) (q := 109) 31 (gd rfl) rfl rfl rfl rfl rfl (ww_o rfl) (Nat.le_of_ble_eq_true rfl) (mc := 0) (ms := 0) (Nat.zero_le _) (Nat.zero_le _) (P := fun v u => _) ?_ (fun e u h => h) (fun v u h => h)
                intro po178 xx179 hp180 hx181
                refine g_enter2 (k := 271) (N := 300) (by omega) rfl (Nat.le_of_ble_eq_true rfl) ?_
                refine g_aload_n 1 (gd rfl) rfl rfl ?_
                refine g_iload_n 2 (gd rfl) rfl rfl ?_
                refine g_iconst 1 3 (gd rfl) rfl rfl ?_
                refine g_callv (X := _) (As := [.int (Int32.ofInt 1), .int (Int32.ofInt 1)]) (r := []) (b := A 109) (q := 109) 6 (gd rfl) rfl rfl rfl rfl rfl (ww_o rfl) (Nat.le_of_ble_eq_true rfl) (mc := 0) (ms := 0) (Nat.zero_le _) (Nat.zero_le _) (P := fun v u => _) ?_ (fun e u h => h) (fun v u h => h)
                intro po182 xx183 hp184 hx185
                refine g_enter2 (k := 270) (N := 300) (by omega) rfl (Nat.le_of_ble_eq_true rfl) ?_
                refine g_aload_n 1 (gd rfl) rfl rfl ?_
                refine g_iload_n 2 (gd rfl) rfl rfl ?_
                refine g_if_ne 5 9 (gd rfl) rfl rfl (fun c186 => ?_) (fun c186 => ?_)
                · skip
                  refine g_iload_n 10 (gd rfl) rfl rfl ?_
                  refine g_if_ne 13 17 (gd rfl) rfl rfl (fun c187 => ?_) (fun c187 => ?_)
                  · skip
                    refine g_iconst 0 18 (gd rfl) rfl rfl ?_
                    refine g_putI 21 (gd rfl) rfl rfl rfl rfl ?_
                    have hI188 := inv_sF (q := 109) (j := 0) hI rfl (in_w 0 2 (in_c 0 rfl) rfl)
                    refine g_aload_n 22 (gd rfl) rfl rfl ?_
                    refine g_getI 25 (gd rfl) rfl rfl rfl (fun z189 e190 => ?_)
                    have q191 : (Int32.ofInt 0) = z189 := (sF_get).trans e190.symm
                    subst q191
                    refine g_if_le 28 32 (gd rfl) rfl rfl (fun c192 => ?_) (fun c192 => ?_)
                    · skip
                      refine g_iconst 0 33 (gd rfl) rfl rfl ?_
                      refine g_ireturn (gd rfl) rfl (nb01 (in_w 0 1 (in_c 0 rfl) rfl)) (hp184 _ _ ?_)
                      show GG _ _ _ _ _ _ _ _ [.int (Int32.ofInt 0)] _ _ _
                      refine g_ireturn (gd rfl) rfl (nb01 (in_w 0 1 (in_c 0 rfl) rfl)) (hp180 _ _ ?_)
                      show GG _ _ _ _ _ _ _ _ [.int (Int32.ofInt 0)] _ _ _
                      refine g_if_eq 34 36 (gd rfl) rfl rfl (fun c193 => ?_) (fun c193 => ?_)
                      · skip
                        refine g_iconst 0 37 (gd rfl) rfl rfl ?_
                        refine g_istore 39 (gd rfl) rfl (Nat.le_of_ble_eq_true rfl) ?_
                        refine g_iconst 0 40 (gd rfl) rfl rfl ?_
                        refine g_istore 42 (gd rfl) rfl (Nat.le_of_ble_eq_true rfl) ?_
                        exact gg_w (by omega) (gg_f (gf_cons rfl (gf_cons rfl (gf_cons rfl (gf_cons rfl (gf_cons rfl (gf_cons rfl gf_nil)))))) (ct42 161 (sF s 109 0 (Int32.ofInt 0)) (Int32.ofInt 0) (Int32.ofInt 0) hI188 (in_w 0 31 i93 rfl) (in_w 0 1 i158 rfl) (in_w 0 2147483647 i177 rfl) (in_w 0 160 (in_c 0 rfl) rfl) (m_in 161 (in_w 0 160 (in_c 0 rfl) rfl) rfl)))
                      · skip
                        exact zn_ne c193 (in_c 0 rfl) rfl
                    · skip
                      exact zn_gt c192 (in_c 0 rfl) rfl
                  · skip
                    exact zn_eq c187 (in_c 1 rfl) rfl
                · skip
                  exact zn_eq c186 (in_c 1 rfl) rfl

/-- GraphHouseModel.type -/
theorem k_293 {Z : AmZ} {A : Nat → Nat} {s : GS} {ex : va_W} {d : Nat} {X : AmX} {x1 : Int32} (hd : 3 ≤ d) (hI : Inv s)  : GC Z d 293 [.ref (A 109), .int x1] (WW Z A s ++ ex) 0 0 (fun v u => ∃ t : GS, Inv t ∧ ∃ z : Int32, v = some (.int z) ∧ u = WW Z A t ++ ex ∧ In z 0 1000) X := by
  intro post xp hP hX
  refine g_enter2 (k := 293) (N := 900) (by omega) rfl (Nat.le_of_ble_eq_true rfl) ?_
  refine g_aload_n 1 (gd rfl) rfl rfl ?_
  refine g_iload_n 2 (gd rfl) rfl rfl ?_
  refine g_i2l 3 (gd rfl) rfl (fun z1 e2 => ?_)
  have i3 := l_i e2 (i_rng x1)
  refine g_ldc2_w 32 6 (gd rfl) rfl rfl ?_
  refine g_ldc2_w 126 9 (gd rfl) rfl rfl ?_
  refine g_calls (As := [.long z1, .long (Int64.ofInt 32), .long (Int64.ofInt 126)]) (r := [.ref (A 109)]) 12 (gd rfl) rfl rfl rfl rfl rfl (Nat.le_of_ble_eq_true rfl) (mc := 0) (ms := 0) (Nat.zero_le _) (Nat.zero_le _) (P := fun v u => _) ?_ (fun v u h => h)
  intro po4 xx5 hp6 hx7
  refine g_enter2 (k := 269) (N := 300) (by omega) rfl (Nat.le_of_ble_eq_true rfl) ?_
  refine g_lload_n 1 (gd rfl) rfl rfl ?_
  refine g_lload_n 2 (gd rfl) rfl rfl ?_
  refine g_lcmp 3 (gd rfl) rfl (fun z8 e9 => ?_)
  have i10 := lc_in e9
  refine g_if_lt 6 17 (gd rfl) rfl rfl (fun c11 => ?_) (fun c11 => ?_)
  · skip
    have i12 := z_lt (-1) (-1) c11 i10 rfl
    have c13 := lc_lt e9 c11
    have i14 := lr_lt1 (-2147483648) 31 c13 i3 (l_c 32 rfl) rfl
    have i15 := l_b e2 i14
    refine g_iconst 0 18 (gd rfl) rfl rfl ?_
    refine g_ireturn (gd rfl) rfl (nb01 (in_w 0 1 (in_c 0 rfl) rfl)) (hp6 _ _ ?_)
    show GG _ _ _ _ _ _ _ _ [.int (Int32.ofInt 0), .ref (A 109)] _ _ _
    refine g_aload_n 13 (gd rfl) rfl rfl ?_
    refine g_getI 16 (gd rfl) rfl rfl rfl (fun z16 e17 => ?_)
    have i18 := inv_F hI 0 1000 rfl e17
    refine g_sipush 1000 19 (gd rfl) rfl rfl ?_
    refine g_cmp_ge 22 26 (gd rfl) rfl rfl (fun c19 => ?_) (fun c19 => ?_)
    · skip
      have i20 := r_le2 1000 1000 c19 (in_c 1000 rfl) i18 rfl
      refine g_iconst 0 27 (gd rfl) rfl rfl ?_
      refine g_callv (X := _) (As := [.int (Int32.ofInt 0), .int (Int32.ofInt 0)]) (r := []) (b := A 109) (q := 109) 30 (gd rfl) rfl rfl rfl rfl rfl (ww_o rfl) (Nat.le_of_ble_eq_true rfl) (mc := 0) (ms := 0) (Nat.zero_le _) (Nat.zero_le _) (P := fun v u => _) ?_ (fun e u h => h) (fun v u h => h)
      intro po21 xx22 hp23 hx24
      refine g_enter2 (k := 270) (N := 300) (by omega) rfl (Nat.le_of_ble_eq_true rfl) ?_
      refine g_aload_n 1 (gd rfl) rfl rfl ?_
      refine g_iload_n 2 (gd rfl) rfl rfl ?_
      refine g_if_ne 5 9 (gd rfl) rfl rfl (fun c25 => ?_) (fun c25 => ?_)
      · skip
        exact zn_ne c25 (in_c 0 rfl) rfl
      · skip
        refine g_iconst 1 6 (gd rfl) rfl rfl ?_
        refine g_goto 18 (gd rfl) rfl ?_
        refine g_putI 21 (gd rfl) rfl rfl rfl rfl ?_
        have hI26 := inv_sF (q := 109) (j := 0) hI rfl (in_w 0 2 (in_c 1 rfl) rfl)
        refine g_aload_n 22 (gd rfl) rfl rfl ?_
        refine g_getI 25 (gd rfl) rfl rfl rfl (fun z27 e28 => ?_)
        have q29 : (Int32.ofInt 1) = z27 := (sF_get).trans e28.symm
        subst q29
        refine g_if_le 28 32 (gd rfl) rfl rfl (fun c30 => ?_) (fun c30 => ?_)
        · skip
          exact zn_le c30 (in_c 1 rfl) rfl
        · skip
          refine g_iconst 1 29 (gd rfl) rfl rfl ?_
          refine g_goto 33 (gd rfl) rfl ?_
          refine g_ireturn (gd rfl) rfl (nb01 (in_w 0 1 (in_c 1 rfl) rfl)) (hp23 _ _ ?_)
          show GG _ _ _ _ _ _ _ _ [.int (Int32.ofInt 1)] _ _ _
          refine g_if_eq 33 35 (gd rfl) rfl rfl (fun c31 => ?_) (fun c31 => ?_)
          · skip
            exact zn_eq c31 (in_c 1 rfl) rfl
          · skip
            refine g_iconst 0 34 (gd rfl) rfl rfl ?_
            exact g_ireturn (gd rfl) rfl rfl (hP _ _ ⟨(sF s 109 0 (Int32.ofInt 1)), hI26, (Int32.ofInt 0), rfl, rfl, in_w 0 1000 (in_c 0 rfl) rfl⟩)
    · skip
      have i32 := r_lt1 0 999 c19 i18 (in_c 1000 rfl) rfl
      refine g_iconst 1 23 (gd rfl) rfl rfl ?_
      refine g_goto 27 (gd rfl) rfl ?_
      refine g_callv (X := _) (As := [.int (Int32.ofInt 0), .int (Int32.ofInt 1)]) (r := []) (b := A 109) (q := 109) 30 (gd rfl) rfl rfl rfl rfl rfl (ww_o rfl) (Nat.le_of_ble_eq_true rfl) (mc := 0) (ms := 0) (Nat.zero_le _) (Nat.zero_le _) (P := fun v u => _) ?_ (fun e u h => h) (fun v u h => h)
      intro po33 xx34 hp35 hx36
      refine g_enter2 (k := 270) (N := 300) (by omega) rfl (Nat.le_of_ble_eq_true rfl) ?_
      refine g_aload_n 1 (gd rfl) rfl rfl ?_
      refine g_iload_n 2 (gd rfl) rfl rfl ?_
      refine g_if_ne 5 9 (gd rfl) rfl rfl (fun c37 => ?_) (fun c37 => ?_)
      · skip
        exact zn_ne c37 (in_c 0 rfl) rfl
      · skip
        refine g_iconst 1 6 (gd rfl) rfl rfl ?_
        refine g_goto 18 (gd rfl) rfl ?_
        refine g_putI 21 (gd rfl) rfl rfl rfl rfl ?_
        have hI38 := inv_sF (q := 109) (j := 0) hI rfl (in_w 0 2 (in_c 1 rfl) rfl)
        refine g_aload_n 22 (gd rfl) rfl rfl ?_
        refine g_getI 25 (gd rfl) rfl rfl rfl (fun z39 e40 => ?_)
        have q41 : (Int32.ofInt 1) = z39 := (sF_get).trans e40.symm
        subst q41
        refine g_if_le 28 32 (gd rfl) rfl rfl (fun c42 => ?_) (fun c42 => ?_)
        · skip
          exact zn_le c42 (in_c 1 rfl) rfl
        · skip
          refine g_iconst 1 29 (gd rfl) rfl rfl ?_
          refine g_goto 33 (gd rfl) rfl ?_
          refine g_ireturn (gd rfl) rfl (nb01 (in_w 0 1 (in_c 1 rfl) rfl)) (hp35 _ _ ?_)
          show GG _ _ _ _ _ _ _ _ [.int (Int32.ofInt 1)] _ _ _
          refine g_if_eq 33 35 (gd rfl) rfl rfl (fun c43 => ?_) (fun c43 => ?_)
          · skip
            exact zn_eq c43 (in_c 1 rfl) rfl
          · skip
            refine g_iconst 0 34 (gd rfl) rfl rfl ?_
            exact g_ireturn (gd rfl) rfl rfl (hP _ _ ⟨(sF s 109 0 (Int32.ofInt 1)), hI38, (Int32.ofInt 0), rfl, rfl, in_w 0 1000 (in_c 0 rfl) rfl⟩)
  · skip
    have i44 := z_ge 0 1 c11 i10 rfl
    have c45 := lc_ge e9 c11
    have i46 := lr_le2 32 2147483647 c45 (l_c 32 rfl) i3 rfl
    have i47 := l_b e2 i46
    refine g_lload_n 7 (gd rfl) rfl rfl ?_
    refine g_lload 9 (gd rfl) rfl rfl ?_
    refine g_lcmp 10 (gd rfl) rfl (fun z48 e49 => ?_)
    have i50 := lc_in e49
    refine g_if_gt 13 17 (gd rfl) rfl rfl (fun c51 => ?_) (fun c51 => ?_)
    · skip
      have i52 := z_gt 1 1 c51 i50 rfl
      have c53 := lc_gt e49 c51
      have i54 := lr_lt2 127 2147483647 c53 (l_c 126 rfl) i46 rfl
      have i55 := l_b e2 i54
      refine g_iconst 0 18 (gd rfl) rfl rfl ?_
      refine g_ireturn (gd rfl) rfl (nb01 (in_w 0 1 (in_c 0 rfl) rfl)) (hp6 _ _ ?_)
      show GG _ _ _ _ _ _ _ _ [.int (Int32.ofInt 0), .ref (A 109)] _ _ _
      refine g_aload_n 13 (gd rfl) rfl rfl ?_
      refine g_getI 16 (gd rfl) rfl rfl rfl (fun z56 e57 => ?_)
      have i58 := inv_F hI 0 1000 rfl e57
      refine g_sipush 1000 19 (gd rfl) rfl rfl ?_
      refine g_cmp_ge 22 26 (gd rfl) rfl rfl (fun c59 => ?_) (fun c59 => ?_)
      · skip
        have i60 := r_le2 1000 1000 c59 (in_c 1000 rfl) i58 rfl
        refine g_iconst 0 27 (gd rfl) rfl rfl ?_
        refine g_callv (X := _) (As := [.int (Int32.ofInt 0), .int (Int32.ofInt 0)]) (r := []) (b := A 109) (q := 109) 30 (gd rfl) rfl rfl rfl rfl rfl (ww_o rfl) (Nat.le_of_ble_eq_true rfl) (mc := 0) (ms := 0) (Nat.zero_le _) (Nat.zero_le _) (P := fun v u => _) ?_ (fun e u h => h) (fun v u h => h)
        intro po61 xx62 hp63 hx64
        refine g_enter2 (k := 270) (N := 300) (by omega) rfl (Nat.le_of_ble_eq_true rfl) ?_
        refine g_aload_n 1 (gd rfl) rfl rfl ?_
        refine g_iload_n 2 (gd rfl) rfl rfl ?_
        refine g_if_ne 5 9 (gd rfl) rfl rfl (fun c65 => ?_) (fun c65 => ?_)
        · skip
          exact zn_ne c65 (in_c 0 rfl) rfl
        · skip
          refine g_iconst 1 6 (gd rfl) rfl rfl ?_
          refine g_goto 18 (gd rfl) rfl ?_
          refine g_putI 21 (gd rfl) rfl rfl rfl rfl ?_
          have hI66 := inv_sF (q := 109) (j := 0) hI rfl (in_w 0 2 (in_c 1 rfl) rfl)
          refine g_aload_n 22 (gd rfl) rfl rfl ?_
          refine g_getI 25 (gd rfl) rfl rfl rfl (fun z67 e68 => ?_)
          have q69 : (Int32.ofInt 1) = z67 := (sF_get).trans e68.symm
          subst q69
          refine g_if_le 28 32 (gd rfl) rfl rfl (fun c70 => ?_) (fun c70 => ?_)
          · skip
            exact zn_le c70 (in_c 1 rfl) rfl
          · skip
            refine g_iconst 1 29 (gd rfl) rfl rfl ?_
            refine g_goto 33 (gd rfl) rfl ?_
            refine g_ireturn (gd rfl) rfl (nb01 (in_w 0 1 (in_c 1 rfl) rfl)) (hp63 _ _ ?_)
            show GG _ _ _ _ _ _ _ _ [.int (Int32.ofInt 1)] _ _ _
            refine g_if_eq 33 35 (gd rfl) rfl rfl (fun c71 => ?_) (fun c71 => ?_)
            · skip
              exact zn_eq c71 (in_c 1 rfl) rfl
            · skip
              refine g_iconst 0 34 (gd rfl) rfl rfl ?_
              exact g_ireturn (gd rfl) rfl rfl (hP _ _ ⟨(sF s 109 0 (Int32.ofInt 1)), hI66, (Int32.ofInt 0), rfl, rfl, in_w 0 1000 (in_c 0 rfl) rfl⟩)
      · skip
        have i72 := r_lt1 0 999 c59 i58 (in_c 1000 rfl) rfl
        refine g_iconst 1 23 (gd rfl) rfl rfl ?_
        refine g_goto 27 (gd rfl) rfl ?_
        refine g_callv (X := _) (As := [.int (Int32.ofInt 0), .int (Int32.ofInt 1)]) (r := []) (b := A 109) (q := 109) 30 (gd rfl) rfl rfl rfl rfl rfl (ww_o rfl) (Nat.le_of_ble_eq_true rfl) (mc := 0) (ms := 0) (Nat.zero_le _) (Nat.zero_le _) (P := fun v u => _) ?_ (fun e u h => h) (fun v u h => h)
        intro po73 xx74 hp75 hx76
        refine g_enter2 (k := 270) (N := 300) (by omega) rfl (Nat.le_of_ble_eq_true rfl) ?_
        refine g_aload_n 1 (gd rfl) rfl rfl ?_
        refine g_iload_n 2 (gd rfl) rfl rfl ?_
        refine g_if_ne 5 9 (gd rfl) rfl rfl (fun c77 => ?_) (fun c77 => ?_)
        · skip
          exact zn_ne c77 (in_c 0 rfl) rfl
        · skip
          refine g_iconst 1 6 (gd rfl) rfl rfl ?_
          refine g_goto 18 (gd rfl) rfl ?_
          refine g_putI 21 (gd rfl) rfl rfl rfl rfl ?_
          have hI78 := inv_sF (q := 109) (j := 0) hI rfl (in_w 0 2 (in_c 1 rfl) rfl)
          refine g_aload_n 22 (gd rfl) rfl rfl ?_
          refine g_getI 25 (gd rfl) rfl rfl rfl (fun z79 e80 => ?_)
          have q81 : (Int32.ofInt 1) = z79 := (sF_get).trans e80.symm
          subst q81
          refine g_if_le 28 32 (gd rfl) rfl rfl (fun c82 => ?_) (fun c82 => ?_)
          · skip
            exact zn_le c82 (in_c 1 rfl) rfl
          · skip
            refine g_iconst 1 29 (gd rfl) rfl rfl ?_
            refine g_goto 33 (gd rfl) rfl ?_
            refine g_ireturn (gd rfl) rfl (nb01 (in_w 0 1 (in_c 1 rfl) rfl)) (hp75 _ _ ?_)
            show GG _ _ _ _ _ _ _ _ [.int (Int32.ofInt 1)] _ _ _
            refine g_if_eq 33 35 (gd rfl) rfl rfl (fun c83 => ?_) (fun c83 => ?_)
            · skip
              exact zn_eq c83 (in_c 1 rfl) rfl
            · skip
              refine g_iconst 0 34 (gd rfl) rfl rfl ?_
              exact g_ireturn (gd rfl) rfl rfl (hP _ _ ⟨(sF s 109 0 (Int32.ofInt 1)), hI78, (Int32.ofInt 0), rfl, rfl, in_w 0 1000 (in_c 0 rfl) rfl⟩)
    · skip
      have i84 := z_le (-1) 0 c51 i50 rfl
      have c85 := lc_le e49 c51
      have i86 := lr_le1 32 126 c85 i46 (l_c 126 rfl) rfl
      have i87 := l_b e2 i86
      refine g_iconst 1 14 (gd rfl) rfl rfl ?_
      refine g_goto 18 (gd rfl) rfl ?_
      refine g_ireturn (gd rfl) rfl (nb01 (in_w 0 1 (in_c 1 rfl) rfl)) (hp6 _ _ ?_)
      show GG _ _ _ _ _ _ _ _ [.int (Int32.ofInt 1), .ref (A 109)] _ _ _
      refine g_aload_n 13 (gd rfl) rfl rfl ?_
      refine g_getI 16 (gd rfl) rfl rfl rfl (fun z88 e89 => ?_)
      have i90 := inv_F hI 0 1000 rfl e89
      refine g_sipush 1000 19 (gd rfl) rfl rfl ?_
      refine g_cmp_ge 22 26 (gd rfl) rfl rfl (fun c91 => ?_) (fun c91 => ?_)
      · skip
        have i92 := r_le2 1000 1000 c91 (in_c 1000 rfl) i90 rfl
        refine g_iconst 0 27 (gd rfl) rfl rfl ?_
        refine g_callv (X := _) (As := [.int (Int32.ofInt 1), .int (Int32.ofInt 0)]) (r := []) (b := A 109) (q := 109) 30 (gd rfl) rfl rfl rfl rfl rfl (ww_o rfl) (Nat.le_of_ble_eq_true rfl) (mc := 0) (ms := 0) (Nat.zero_le _) (Nat.zero_le _) (P := fun v u => _) ?_ (fun e u h => h) (fun v u h => h)
        intro po93 xx94 hp95 hx96
        refine g_enter2 (k := 270) (N := 300) (by omega) rfl (Nat.le_of_ble_eq_true rfl) ?_
        refine g_aload_n 1 (gd rfl) rfl rfl ?_
        refine g_iload_n 2 (gd rfl) rfl rfl ?_
        refine g_if_ne 5 9 (gd rfl) rfl rfl (fun c97 => ?_) (fun c97 => ?_)
        · skip
          refine g_iload_n 10 (gd rfl) rfl rfl ?_
          refine g_if_ne 13 17 (gd rfl) rfl rfl (fun c98 => ?_) (fun c98 => ?_)
          · skip
            exact zn_ne c98 (in_c 0 rfl) rfl
          · skip
            refine g_iconst 2 14 (gd rfl) rfl rfl ?_
            refine g_goto 18 (gd rfl) rfl ?_
            refine g_putI 21 (gd rfl) rfl rfl rfl rfl ?_
            have hI99 := inv_sF (q := 109) (j := 0) hI rfl (in_w 0 2 (in_c 2 rfl) rfl)
            refine g_aload_n 22 (gd rfl) rfl rfl ?_
            refine g_getI 25 (gd rfl) rfl rfl rfl (fun z100 e101 => ?_)
            have q102 : (Int32.ofInt 2) = z100 := (sF_get).trans e101.symm
            subst q102
            refine g_if_le 28 32 (gd rfl) rfl rfl (fun c103 => ?_) (fun c103 => ?_)
            · skip
              exact zn_le c103 (in_c 2 rfl) rfl
            · skip
              refine g_iconst 1 29 (gd rfl) rfl rfl ?_
              refine g_goto 33 (gd rfl) rfl ?_
              refine g_ireturn (gd rfl) rfl (nb01 (in_w 0 1 (in_c 1 rfl) rfl)) (hp95 _ _ ?_)
              show GG _ _ _ _ _ _ _ _ [.int (Int32.ofInt 1)] _ _ _
              refine g_if_eq 33 35 (gd rfl) rfl rfl (fun c104 => ?_) (fun c104 => ?_)
              · skip
                exact zn_eq c104 (in_c 1 rfl) rfl
              · skip
                refine g_iconst 0 34 (gd rfl) rfl rfl ?_
                exact g_ireturn (gd rfl) rfl rfl (hP _ _ ⟨(sF s 109 0 (Int32.ofInt 2)), hI99, (Int32.ofInt 0), rfl, rfl, in_w 0 1000 (in_c 0 rfl) rfl⟩)
        · skip
          exact zn_eq c97 (in_c 1 rfl) rfl
      · skip
        have i105 := r_lt1 0 999 c91 i90 (in_c 1000 rfl) rfl
        refine g_iconst 1 23 (gd rfl) rfl rfl ?_
        refine g_goto 27 (gd rfl) rfl ?_
        refine g_callv (X := _) (As := [.int (Int32.ofInt 1), .int (Int32.ofInt 1)]) (r := []) (b := A 109) (q := 109) 30 (gd rfl) rfl rfl rfl rfl rfl (ww_o rfl) (Nat.le_of_ble_eq_true rfl) (mc := 0) (ms := 0) (Nat.zero_le _) (Nat.zero_le _) (P := fun v u => _) ?_ (fun e u h => h) (fun v u h => h)
        intro po106 xx107 hp108 hx109
        refine g_enter2 (k := 270) (N := 300) (by omega) rfl (Nat.le_of_ble_eq_true rfl) ?_
        refine g_aload_n 1 (gd rfl) rfl rfl ?_
        refine g_iload_n 2 (gd rfl) rfl rfl ?_
        refine g_if_ne 5 9 (gd rfl) rfl rfl (fun c110 => ?_) (fun c110 => ?_)
        · skip
          refine g_iload_n 10 (gd rfl) rfl rfl ?_
          refine g_if_ne 13 17 (gd rfl) rfl rfl (fun c111 => ?_) (fun c111 => ?_)
          · skip
            refine g_iconst 0 18 (gd rfl) rfl rfl ?_
            refine g_putI 21 (gd rfl) rfl rfl rfl rfl ?_
            have hI112 := inv_sF (q := 109) (j := 0) hI rfl (in_w 0 2 (in_c 0 rfl) rfl)
            refine g_aload_n 22 (gd rfl) rfl rfl ?_
            refine g_getI 25 (gd rfl) rfl rfl rfl (fun z113 e114 => ?_)
            have q115 : (Int32.ofInt 0) = z113 := (sF_get).trans e114.symm
            subst q115
            refine g_if_le 28 32 (gd rfl) rfl rfl (fun c116 => ?_) (fun c116 => ?_)
            · skip
              refine g_iconst 0 33 (gd rfl) rfl rfl ?_
              refine g_ireturn (gd rfl) rfl (nb01 (in_w 0 1 (in_c 0 rfl) rfl)) (hp108 _ _ ?_)
              show GG _ _ _ _ _ _ _ _ [.int (Int32.ofInt 0)] _ _ _
              refine g_if_eq 33 35 (gd rfl) rfl rfl (fun c117 => ?_) (fun c117 => ?_)
              · skip
                refine g_aload_n 36 (gd rfl) rfl rfl ?_
                refine g_getA (q2 := 125) 39 (gd rfl) rfl rfl rfl rfl rfl ?_
                refine g_aload_n 40 (gd rfl) rfl rfl ?_
                refine g_getI 43 (gd rfl) rfl rfl rfl (fun z118 e119 => ?_)
                have q120 : z88 = z118 := (sF_ne rfl (e89)).trans e119.symm
                subst q120
                refine g_iload_n 44 (gd rfl) rfl rfl ?_
                refine g_iastore 45 (gd rfl) rfl (n := 1000) rfl (in_ix i105 rfl) ?_
                have hI121 := inv_sI (q := 125) (j := z88.toNatClampNeg) hI112 rfl (in_w 0 126 i87 rfl)
                refine g_aload_n 46 (gd rfl) rfl rfl ?_
                refine g_dup 47 (gd rfl) rfl rfl ?_
                refine g_getI 50 (gd rfl) rfl rfl rfl (fun z122 e123 => ?_)
                have q124 : z88 = z122 := (sF_ne rfl (e89)).trans e123.symm
                subst q124
                refine g_iconst 1 51 (gd rfl) rfl rfl ?_
                refine g_iadd 52 (gd rfl) rfl (fun z125 e126 => ?_)
                have i127 := in_add 1 1000 e126 i105 (in_c 1 rfl) rfl rfl
                refine g_putI 55 (gd rfl) rfl rfl rfl rfl ?_
                have hI128 := inv_sF (q := 109) (j := 22) hI121 rfl (in_w 0 1000 i127 rfl)
                refine g_aload_n 56 (gd rfl) rfl rfl ?_
                refine g_getI 59 (gd rfl) rfl rfl rfl (fun z129 e130 => ?_)
                have q131 : z125 = z129 := (sF_get).trans e130.symm
                subst q131
                exact g_ireturn (gd rfl) rfl rfl (hP _ _ ⟨(sF (sI (sF s 109 0 (Int32.ofInt 0)) 125 z88.toNatClampNeg x1) 109 22 z125), hI128, z125, rfl, rfl, in_w 0 1000 i127 rfl⟩)
              · skip
                exact zn_ne c117 (in_c 0 rfl) rfl
            · skip
              exact zn_gt c116 (in_c 0 rfl) rfl
          · skip
            exact zn_eq c111 (in_c 1 rfl) rfl
        · skip
          exact zn_eq c110 (in_c 1 rfl) rfl

/-- GraphHouseModel.wipe -/
theorem k_294 {Z : AmZ} {A : Nat → Nat} {s : GS} {ex : va_W} {d : Nat} {X : AmX}  (hd : 1 ≤ d) (hI : Inv s)  : GC Z d 294 [.ref (A 109)] (WW Z A s ++ ex) 0 0 (fun v u => ∃ t : GS, Inv t ∧ ∃ z : Int32, v = some (.int z) ∧ u = WW Z A t ++ ex ∧ In z 0 1000) X := by
  intro post xp hP hX
  refine g_enter2 (k := 294) (N := 900) (by omega) rfl (Nat.le_of_ble_eq_true rfl) ?_
  refine g_aload_n 1 (gd rfl) rfl rfl ?_
  refine g_iconst 0 2 (gd rfl) rfl rfl ?_
  refine g_putI 5 (gd rfl) rfl rfl rfl rfl ?_
  have hI1 := inv_sF (q := 109) (j := 0) hI rfl (in_w 0 2 (in_c 0 rfl) rfl)
  refine g_aload_n 6 (gd rfl) rfl rfl ?_
  refine g_getI 9 (gd rfl) rfl rfl rfl (fun z2 e3 => ?_)
  have i4 := inv_F hI1 0 1000 rfl e3
  refine g_istore_n 10 (gd rfl) rfl (Nat.le_of_ble_eq_true rfl) ?_
  refine g_aload_n 11 (gd rfl) rfl rfl ?_
  refine g_iconst 0 12 (gd rfl) rfl rfl ?_
  refine g_putI 15 (gd rfl) rfl rfl rfl rfl ?_
  have hI5 := inv_sF (q := 109) (j := 22) hI1 rfl (in_w 0 1000 (in_c 0 rfl) rfl)
  refine g_iload_n 16 (gd rfl) rfl rfl ?_
  exact g_ireturn (gd rfl) rfl rfl (hP _ _ ⟨(sF (sF s 109 0 (Int32.ofInt 0)) 109 22 (Int32.ofInt 0)), hI5, z2, rfl, rfl, in_w 0 1000 i4 rfl⟩)

/-- GraphHouseModel.fault -/
theorem k_295 {Z : AmZ} {A : Nat → Nat} {s : GS} {ex : va_W} {d : Nat} {X : AmX} {x1 : Int32} (hd : 4 ≤ d) (hI : Inv s)  : GC Z d 295 [.ref (A 109), .int x1] (WW Z A s ++ ex) 0 0 (fun v u => ∃ t : GS, Inv t ∧ ∃ z : Int32, v = some (.int z) ∧ u = WW Z A t ++ ex ∧ In z (-2147483648) 2147483647) X := by
  intro post xp hP hX
  refine g_enter2 (k := 295) (N := 900) (by omega) rfl (Nat.le_of_ble_eq_true rfl) ?_
  refine g_aload_n 1 (gd rfl) rfl rfl ?_
  refine g_iload_n 2 (gd rfl) rfl rfl ?_
  refine g_i2l 3 (gd rfl) rfl (fun z1 e2 => ?_)
  have i3 := l_i e2 (i_rng x1)
  refine g_lconst 0 4 (gd rfl) rfl rfl ?_
  refine g_lconst 1 5 (gd rfl) rfl rfl ?_
  refine g_calls (As := [.long z1, .long (Int64.ofInt 0), .long (Int64.ofInt 1)]) (r := [.ref (A 109)]) 8 (gd rfl) rfl rfl rfl rfl rfl (Nat.le_of_ble_eq_true rfl) (mc := 0) (ms := 0) (Nat.zero_le _) (Nat.zero_le _) (P := fun v u => _) ?_ (fun v u h => h)
  intro po4 xx5 hp6 hx7
  refine g_enter2 (k := 269) (N := 300) (by omega) rfl (Nat.le_of_ble_eq_true rfl) ?_
  refine g_lload_n 1 (gd rfl) rfl rfl ?_
  refine g_lload_n 2 (gd rfl) rfl rfl ?_
  refine g_lcmp 3 (gd rfl) rfl (fun z8 e9 => ?_)
  have i10 := lc_in e9
  refine g_if_lt 6 17 (gd rfl) rfl rfl (fun c11 => ?_) (fun c11 => ?_)
  · skip
    have i12 := z_lt (-1) (-1) c11 i10 rfl
    have c13 := lc_lt e9 c11
    have i14 := lr_lt1 (-2147483648) (-1) c13 i3 (l_c 0 rfl) rfl
    have i15 := l_b e2 i14
    refine g_iconst 0 18 (gd rfl) rfl rfl ?_
    refine g_ireturn (gd rfl) rfl (nb01 (in_w 0 1 (in_c 0 rfl) rfl)) (hp6 _ _ ?_)
    show GG _ _ _ _ _ _ _ _ [.int (Int32.ofInt 0), .ref (A 109)] _ _ _
    refine g_callv (X := _) (As := [.int (Int32.ofInt 0)]) (r := []) (b := A 109) (q := 109) 11 (gd rfl) rfl rfl rfl rfl rfl (ww_o rfl) (Nat.le_of_ble_eq_true rfl) (mc := 0) (ms := 0) (Nat.zero_le _) (Nat.zero_le _) (P := fun v u => _) ?_ (fun e u h => h) (fun v u h => h)
    intro po16 xx17 hp18 hx19
    refine g_enter2 (k := 271) (N := 300) (by omega) rfl (Nat.le_of_ble_eq_true rfl) ?_
    refine g_aload_n 1 (gd rfl) rfl rfl ?_
    refine g_iload_n 2 (gd rfl) rfl rfl ?_
    refine g_iconst 1 3 (gd rfl) rfl rfl ?_
    refine g_callv (X := _) (As := [.int (Int32.ofInt 0), .int (Int32.ofInt 1)]) (r := []) (b := A 109) (q := 109) 6 (gd rfl) rfl rfl rfl rfl rfl (ww_o rfl) (Nat.le_of_ble_eq_true rfl) (mc := 0) (ms := 0) (Nat.zero_le _) (Nat.zero_le _) (P := fun v u => _) ?_ (fun e u h => h) (fun v u h => h)
    intro po20 xx21 hp22 hx23
    refine g_enter2 (k := 270) (N := 300) (by omega) rfl (Nat.le_of_ble_eq_true rfl) ?_
    refine g_aload_n 1 (gd rfl) rfl rfl ?_
    refine g_iload_n 2 (gd rfl) rfl rfl ?_
    refine g_if_ne 5 9 (gd rfl) rfl rfl (fun c24 => ?_) (fun c24 => ?_)
    · skip
      exact zn_ne c24 (in_c 0 rfl) rfl
    · skip
      refine g_iconst 1 6 (gd rfl) rfl rfl ?_
      refine g_goto 18 (gd rfl) rfl ?_
      refine g_putI 21 (gd rfl) rfl rfl rfl rfl ?_
      have hI25 := inv_sF (q := 109) (j := 0) hI rfl (in_w 0 2 (in_c 1 rfl) rfl)
      refine g_aload_n 22 (gd rfl) rfl rfl ?_
      refine g_getI 25 (gd rfl) rfl rfl rfl (fun z26 e27 => ?_)
      have q28 : (Int32.ofInt 1) = z26 := (sF_get).trans e27.symm
      subst q28
      refine g_if_le 28 32 (gd rfl) rfl rfl (fun c29 => ?_) (fun c29 => ?_)
      · skip
        exact zn_le c29 (in_c 1 rfl) rfl
      · skip
        refine g_iconst 1 29 (gd rfl) rfl rfl ?_
        refine g_goto 33 (gd rfl) rfl ?_
        refine g_ireturn (gd rfl) rfl (nb01 (in_w 0 1 (in_c 1 rfl) rfl)) (hp22 _ _ ?_)
        show GG _ _ _ _ _ _ _ _ [.int (Int32.ofInt 1)] _ _ _
        refine g_ireturn (gd rfl) rfl (nb01 (in_w 0 1 (in_c 1 rfl) rfl)) (hp18 _ _ ?_)
        show GG _ _ _ _ _ _ _ _ [.int (Int32.ofInt 1)] _ _ _
        refine g_if_eq 14 16 (gd rfl) rfl rfl (fun c30 => ?_) (fun c30 => ?_)
        · skip
          exact zn_eq c30 (in_c 1 rfl) rfl
        · skip
          refine g_iconst 0 15 (gd rfl) rfl rfl ?_
          exact g_ireturn (gd rfl) rfl rfl (hP _ _ ⟨(sF s 109 0 (Int32.ofInt 1)), hI25, (Int32.ofInt 0), rfl, rfl, in_w (-2147483648) 2147483647 (in_c 0 rfl) rfl⟩)
  · skip
    have i31 := z_ge 0 1 c11 i10 rfl
    have c32 := lc_ge e9 c11
    have i33 := lr_le2 0 2147483647 c32 (l_c 0 rfl) i3 rfl
    have i34 := l_b e2 i33
    refine g_lload_n 7 (gd rfl) rfl rfl ?_
    refine g_lload 9 (gd rfl) rfl rfl ?_
    refine g_lcmp 10 (gd rfl) rfl (fun z35 e36 => ?_)
    have i37 := lc_in e36
    refine g_if_gt 13 17 (gd rfl) rfl rfl (fun c38 => ?_) (fun c38 => ?_)
    · skip
      have i39 := z_gt 1 1 c38 i37 rfl
      have c40 := lc_gt e36 c38
      have i41 := lr_lt2 2 2147483647 c40 (l_c 1 rfl) i33 rfl
      have i42 := l_b e2 i41
      refine g_iconst 0 18 (gd rfl) rfl rfl ?_
      refine g_ireturn (gd rfl) rfl (nb01 (in_w 0 1 (in_c 0 rfl) rfl)) (hp6 _ _ ?_)
      show GG _ _ _ _ _ _ _ _ [.int (Int32.ofInt 0), .ref (A 109)] _ _ _
      refine g_callv (X := _) (As := [.int (Int32.ofInt 0)]) (r := []) (b := A 109) (q := 109) 11 (gd rfl) rfl rfl rfl rfl rfl (ww_o rfl) (Nat.le_of_ble_eq_true rfl) (mc := 0) (ms := 0) (Nat.zero_le _) (Nat.zero_le _) (P := fun v u => _) ?_ (fun e u h => h) (fun v u h => h)
      intro po43 xx44 hp45 hx46
      refine g_enter2 (k := 271) (N := 300) (by omega) rfl (Nat.le_of_ble_eq_true rfl) ?_
      refine g_aload_n 1 (gd rfl) rfl rfl ?_
      refine g_iload_n 2 (gd rfl) rfl rfl ?_
      refine g_iconst 1 3 (gd rfl) rfl rfl ?_
      refine g_callv (X := _) (As := [.int (Int32.ofInt 0), .int (Int32.ofInt 1)]) (r := []) (b := A 109) (q := 109) 6 (gd rfl) rfl rfl rfl rfl rfl (ww_o rfl) (Nat.le_of_ble_eq_true rfl) (mc := 0) (ms := 0) (Nat.zero_le _) (Nat.zero_le _) (P := fun v u => _) ?_ (fun e u h => h) (fun v u h => h)
      intro po47 xx48 hp49 hx50
      refine g_enter2 (k := 270) (N := 300) (by omega) rfl (Nat.le_of_ble_eq_true rfl) ?_
      refine g_aload_n 1 (gd rfl) rfl rfl ?_
      refine g_iload_n 2 (gd rfl) rfl rfl ?_
      refine g_if_ne 5 9 (gd rfl) rfl rfl (fun c51 => ?_) (fun c51 => ?_)
      · skip
        exact zn_ne c51 (in_c 0 rfl) rfl
      · skip
        refine g_iconst 1 6 (gd rfl) rfl rfl ?_
        refine g_goto 18 (gd rfl) rfl ?_
        refine g_putI 21 (gd rfl) rfl rfl rfl rfl ?_
        have hI52 := inv_sF (q := 109) (j := 0) hI rfl (in_w 0 2 (in_c 1 rfl) rfl)
        refine g_aload_n 22 (gd rfl) rfl rfl ?_
        refine g_getI 25 (gd rfl) rfl rfl rfl (fun z53 e54 => ?_)
        have q55 : (Int32.ofInt 1) = z53 := (sF_get).trans e54.symm
        subst q55
        refine g_if_le 28 32 (gd rfl) rfl rfl (fun c56 => ?_) (fun c56 => ?_)
        · skip
          exact zn_le c56 (in_c 1 rfl) rfl
        · skip
          refine g_iconst 1 29 (gd rfl) rfl rfl ?_
          refine g_goto 33 (gd rfl) rfl ?_
          refine g_ireturn (gd rfl) rfl (nb01 (in_w 0 1 (in_c 1 rfl) rfl)) (hp49 _ _ ?_)
          show GG _ _ _ _ _ _ _ _ [.int (Int32.ofInt 1)] _ _ _
          refine g_ireturn (gd rfl) rfl (nb01 (in_w 0 1 (in_c 1 rfl) rfl)) (hp45 _ _ ?_)
          show GG _ _ _ _ _ _ _ _ [.int (Int32.ofInt 1)] _ _ _
          refine g_if_eq 14 16 (gd rfl) rfl rfl (fun c57 => ?_) (fun c57 => ?_)
          · skip
            exact zn_eq c57 (in_c 1 rfl) rfl
          · skip
            refine g_iconst 0 15 (gd rfl) rfl rfl ?_
            exact g_ireturn (gd rfl) rfl rfl (hP _ _ ⟨(sF s 109 0 (Int32.ofInt 1)), hI52, (Int32.ofInt 0), rfl, rfl, in_w (-2147483648) 2147483647 (in_c 0 rfl) rfl⟩)
    · skip
      have i58 := z_le (-1) 0 c38 i37 rfl
      have c59 := lc_le e36 c38
      have i60 := lr_le1 0 1 c59 i33 (l_c 1 rfl) rfl
      have i61 := l_b e2 i60
      refine g_iconst 1 14 (gd rfl) rfl rfl ?_
      refine g_goto 18 (gd rfl) rfl ?_
      refine g_ireturn (gd rfl) rfl (nb01 (in_w 0 1 (in_c 1 rfl) rfl)) (hp6 _ _ ?_)
      show GG _ _ _ _ _ _ _ _ [.int (Int32.ofInt 1), .ref (A 109)] _ _ _
      refine g_callv (X := _) (As := [.int (Int32.ofInt 1)]) (r := []) (b := A 109) (q := 109) 11 (gd rfl) rfl rfl rfl rfl rfl (ww_o rfl) (Nat.le_of_ble_eq_true rfl) (mc := 0) (ms := 0) (Nat.zero_le _) (Nat.zero_le _) (P := fun v u => _) ?_ (fun e u h => h) (fun v u h => h)
      intro po62 xx63 hp64 hx65
      refine g_enter2 (k := 271) (N := 300) (by omega) rfl (Nat.le_of_ble_eq_true rfl) ?_
      refine g_aload_n 1 (gd rfl) rfl rfl ?_
      refine g_iload_n 2 (gd rfl) rfl rfl ?_
      refine g_iconst 1 3 (gd rfl) rfl rfl ?_
      refine g_callv (X := _) (As := [.int (Int32.ofInt 1), .int (Int32.ofInt 1)]) (r := []) (b := A 109) (q := 109) 6 (gd rfl) rfl rfl rfl rfl rfl (ww_o rfl) (Nat.le_of_ble_eq_true rfl) (mc := 0) (ms := 0) (Nat.zero_le _) (Nat.zero_le _) (P := fun v u => _) ?_ (fun e u h => h) (fun v u h => h)
      intro po66 xx67 hp68 hx69
      refine g_enter2 (k := 270) (N := 300) (by omega) rfl (Nat.le_of_ble_eq_true rfl) ?_
      refine g_aload_n 1 (gd rfl) rfl rfl ?_
      refine g_iload_n 2 (gd rfl) rfl rfl ?_
      refine g_if_ne 5 9 (gd rfl) rfl rfl (fun c70 => ?_) (fun c70 => ?_)
      · skip
        refine g_iload_n 10 (gd rfl) rfl rfl ?_
        refine g_if_ne 13 17 (gd rfl) rfl rfl (fun c71 => ?_) (fun c71 => ?_)
        · skip
          refine g_iconst 0 18 (gd rfl) rfl rfl ?_
          refine g_putI 21 (gd rfl) rfl rfl rfl rfl ?_
          have hI72 := inv_sF (q := 109) (j := 0) hI rfl (in_w 0 2 (in_c 0 rfl) rfl)
          refine g_aload_n 22 (gd rfl) rfl rfl ?_
          refine g_getI 25 (gd rfl) rfl rfl rfl (fun z73 e74 => ?_)
          have q75 : (Int32.ofInt 0) = z73 := (sF_get).trans e74.symm
          subst q75
          refine g_if_le 28 32 (gd rfl) rfl rfl (fun c76 => ?_) (fun c76 => ?_)
          · skip
            refine g_iconst 0 33 (gd rfl) rfl rfl ?_
            refine g_ireturn (gd rfl) rfl (nb01 (in_w 0 1 (in_c 0 rfl) rfl)) (hp68 _ _ ?_)
            show GG _ _ _ _ _ _ _ _ [.int (Int32.ofInt 0)] _ _ _
            refine g_ireturn (gd rfl) rfl (nb01 (in_w 0 1 (in_c 0 rfl) rfl)) (hp64 _ _ ?_)
            show GG _ _ _ _ _ _ _ _ [.int (Int32.ofInt 0)] _ _ _
            refine g_if_eq 14 16 (gd rfl) rfl rfl (fun c77 => ?_) (fun c77 => ?_)
            · skip
              refine g_aload_n 17 (gd rfl) rfl rfl ?_
              refine g_getI 20 (gd rfl) rfl rfl rfl (fun z78 e79 => ?_)
              refine g_if_ne 23 27 (gd rfl) rfl rfl (fun c80 => ?_) (fun c80 => ?_)
              · skip
                refine g_iload_n 28 (gd rfl) rfl rfl ?_
                refine g_if_ne 31 38 (gd rfl) rfl rfl (fun c81 => ?_) (fun c81 => ?_)
                · skip
                  have i82 := z_ne 1 1 c81 i61 rfl
                  refine g_aload_n 39 (gd rfl) rfl rfl ?_
                  refine g_getI 42 (gd rfl) rfl rfl rfl (fun z83 e84 => ?_)
                  exact g_ireturn (gd rfl) rfl rfl (hP _ _ ⟨(sF s 109 0 (Int32.ofInt 0)), hI72, z83, rfl, rfl, in_w (-2147483648) 2147483647 (i_rng z83) rfl⟩)
                · skip
                  have i85 := z_eq 0 0 c81 i61 rfl
                  refine g_aload_n 32 (gd rfl) rfl rfl ?_
                  refine g_getI 35 (gd rfl) rfl rfl rfl (fun z86 e87 => ?_)
                  have q88 : z78 = z86 := (e79).trans e87.symm
                  subst q88
                  refine g_goto 42 (gd rfl) rfl ?_
                  exact g_ireturn (gd rfl) rfl rfl (hP _ _ ⟨(sF s 109 0 (Int32.ofInt 0)), hI72, z78, rfl, rfl, in_w (-2147483648) 2147483647 (i_rng z78) rfl⟩)
              · skip
                have i89 := z_eq 0 0 c80 (i_rng z78) rfl
                refine g_iconst (-1) 24 (gd rfl) rfl rfl ?_
                refine g_goto 42 (gd rfl) rfl ?_
                exact g_ireturn (gd rfl) rfl rfl (hP _ _ ⟨(sF s 109 0 (Int32.ofInt 0)), hI72, (Int32.ofInt (-1)), rfl, rfl, in_w (-2147483648) 2147483647 (in_c (-1) rfl) rfl⟩)
            · skip
              exact zn_ne c77 (in_c 0 rfl) rfl
          · skip
            exact zn_gt c76 (in_c 0 rfl) rfl
        · skip
          exact zn_eq c71 (in_c 1 rfl) rfl
      · skip
        exact zn_eq c70 (in_c 1 rfl) rfl

/-- GraphHouseModel.readNumber -/
theorem k_300 {Z : AmZ} {A : Nat → Nat} {s : GS} {ex : va_W} {d : Nat} {X : AmX} {x1 : Int32} {u_109_27 : Int32} {u_109_22 : Int32} (hd : 3 ≤ d) (hI : Inv s) (h1 : In x1 6 7) (e_109_27 : u_109_27 = s.2.2.1 109 27) (e_109_22 : u_109_22 = s.2.2.1 109 22) (p_0 : (u_109_27).toInt ≤ (u_109_22).toInt) : GC Z d 300 [.ref (A 109), .int x1] (WW Z A s ++ ex) 0 0 (fun v u => ∃ t : GS, Inv t ∧ (t.2.2.1 109 27).toInt ≤ (t.2.2.1 109 22).toInt ∧ v = none ∧ u = WW Z A t ++ ex) X := by
  intro post xp hP hX
  have ct122 : ∀ (s : GS) (y122_2 : Int32) (w122_109_27 : Int32) (w122_109_22 : Int32), Inv s → In y122_2 0 1000 → w122_109_27 = s.2.2.1 109 27 → w122_109_22 = s.2.2.1 109 22 → (w122_109_27).toInt ≤ (w122_109_22).toInt → GG Z (d - 1) 300 post (gx xp) (901) 122 (fun j => xlook j [(0, .ref (A 109)), (1, .int x1), (2, .int y122_2)]) [] (WW Z A s ++ ex) 0 0 := by
    intro s y122_2 w122_109_27 w122_109_22 hI j122_2 v122_109_27 v122_109_22 n122_0
    have n1 : (w122_109_27).toInt ≤ (w122_109_22).toInt := by have a0 := j122_2; unfold In at a0; have a1 := h1; unfold In at a1; have a2 := (inv_F hI 0 1000 rfl v122_109_22); unfold In at a2; have a3 := (inv_F hI 0 1000 rfl v122_109_27); unfold In at a3; omega
    have n2 : (s.2.2.1 109 27).toInt ≤ (s.2.2.1 109 22).toInt := by have b0 : w122_109_27 = s.2.2.1 109 27 := v122_109_27; have b1 : w122_109_22 = s.2.2.1 109 22 := v122_109_22; rw [← b0, ← b1]; exact n1
    exact g_return (gd rfl) rfl (hP _ _ ⟨s, hI, n2, rfl, rfl⟩)
  have ct93 : ∀ (s : GS) (y93_2 : Int32) (w93_109_27 : Int32) (w93_109_22 : Int32), Inv s → In y93_2 0 1000 → w93_109_27 = s.2.2.1 109 27 → w93_109_22 = s.2.2.1 109 22 → (w93_109_27).toInt ≤ (w93_109_22).toInt → GG Z (d - 1) 300 post (gx xp) (1802) 93 (fun j => xlook j [(0, .ref (A 109)), (1, .int x1), (2, .int y93_2)]) [] (WW Z A s ++ ex) 0 0 := by
    intro s y93_2 w93_109_27 w93_109_22 hI j93_2 v93_109_27 v93_109_22 n93_0
    refine g_aload_n 94 (gd rfl) rfl rfl ?_
    refine g_getI 97 (gd rfl) rfl rfl rfl (fun z3 e4 => ?_)
    have q5 : w93_109_27 = z3 := (v93_109_27).trans e4.symm
    subst q5
    refine g_iload_n 98 (gd rfl) rfl rfl ?_
    refine g_isub 99 (gd rfl) rfl (fun z6 e7 => ?_)
    have i8 := in_sub (-1000) 1000 e7 (inv_F hI 0 1000 rfl v93_109_27) j93_2 rfl rfl
    refine g_iload_n 100 (gd rfl) rfl rfl ?_
    refine g_cmp_le 103 122 (gd rfl) rfl rfl (fun c9 => ?_) (fun c9 => ?_)
    · skip
      have i10 := r_le1 (-1000) 7 c9 i8 h1 rfl
      have n11 : (w93_109_27).toInt ≤ (w93_109_22).toInt := by have a0 := j93_2; unfold In at a0; have a1 := h1; unfold In at a1; have a2 := (inv_F hI 0 1000 rfl v93_109_22); unfold In at a2; have a3 := (inv_F hI 0 1000 rfl v93_109_27); unfold In at a3; have a4 := i10; unfold In at a4; have a5 := t_sub e7 (inv_F hI 0 1000 rfl v93_109_27) j93_2 rfl; omega
      exact gg_w (by omega) (gg_f (gf_cons rfl (gf_cons rfl (gf_cons rfl gf_nil))) (ct122 s y93_2 w93_109_27 w93_109_22 hI (in_w 0 1000 j93_2 rfl) (v93_109_27) (v93_109_22) n11))
    · skip
      have i12 := r_lt2 7 1000 c9 h1 i8 rfl
      refine g_aload_n 104 (gd rfl) rfl rfl ?_
      refine g_iload_n 105 (gd rfl) rfl rfl ?_
      refine g_bipush 7 107 (gd rfl) rfl rfl ?_
      refine g_cmp_ne 110 114 (gd rfl) rfl rfl (fun c13 => ?_) (fun c13 => ?_)
      · skip
        have i14 := r_ne1 6 6 c13 h1 (in_c 7 rfl) rfl
        refine g_iconst 4 115 (gd rfl) rfl rfl ?_
        refine g_aload_n 116 (gd rfl) rfl rfl ?_
        refine g_getI 119 (gd rfl) rfl rfl rfl (fun z15 e16 => ?_)
        have i17 := inv_F hI 0 1000 rfl e16
        refine g_callv (X := _) (As := [.int (Int32.ofInt 4), .int z15]) (r := []) (b := A 109) (q := 109) 122 (gd rfl) rfl rfl rfl rfl rfl (ww_o rfl) (Nat.le_of_ble_eq_true rfl) (mc := 0) (ms := 0) (Nat.zero_le _) (Nat.zero_le _) (P := fun v u => _) ?_ (fun e u h => h) (fun v u h => h)
        intro po18 xx19 hp20 hx21
        refine g_enter2 (k := 298) (N := 300) (by omega) rfl (Nat.le_of_ble_eq_true rfl) ?_
        refine g_aload_n 1 (gd rfl) rfl rfl ?_
        refine g_getI 4 (gd rfl) rfl rfl rfl (fun z22 e23 => ?_)
        refine g_if_ne 7 17 (gd rfl) rfl rfl (fun c24 => ?_) (fun c24 => ?_)
        · skip
          refine g_return (gd rfl) rfl (hp20 _ _ ?_)
          show GG _ _ _ _ _ _ _ _ [] _ _ _
          have n25 : (w93_109_27).toInt ≤ (w93_109_22).toInt := by have a0 := j93_2; unfold In at a0; have a1 := i14; unfold In at a1; have a2 := i17; unfold In at a2; have a3 := (inv_F hI 0 1000 rfl v93_109_22); unfold In at a3; have a4 := (inv_F hI 0 1000 rfl v93_109_27); unfold In at a4; have a5 := i12; unfold In at a5; have a6 := t_sub e7 (inv_F hI 0 1000 rfl v93_109_27) j93_2 rfl; omega
          exact gg_w (by omega) (gg_f (gf_cons rfl (gf_cons rfl (gf_cons rfl gf_nil))) (ct122 s y93_2 w93_109_27 w93_109_22 hI (in_w 0 1000 j93_2 rfl) (v93_109_27) (v93_109_22) n25))
        · skip
          have i26 := z_eq 0 0 c24 (i_rng z22) rfl
          refine g_aload_n 8 (gd rfl) rfl rfl ?_
          refine g_iload_n 9 (gd rfl) rfl rfl ?_
          refine g_putI 12 (gd rfl) rfl rfl rfl rfl ?_
          have hI27 := inv_sF (q := 109) (j := 23) hI rfl (in_w (-2147483648) 2147483647 (in_c 4 rfl) rfl)
          refine g_aload_n 13 (gd rfl) rfl rfl ?_
          refine g_iload_n 14 (gd rfl) rfl rfl ?_
          refine g_putI 17 (gd rfl) rfl rfl rfl rfl ?_
          have hI28 := inv_sF (q := 109) (j := 24) hI27 rfl (in_w (-2147483648) 2147483647 i17 rfl)
          refine g_return (gd rfl) rfl (hp20 _ _ ?_)
          show GG _ _ _ _ _ _ _ _ [] _ _ _
          have n29 : (w93_109_27).toInt ≤ (w93_109_22).toInt := by have a0 := j93_2; unfold In at a0; have a1 := i14; unfold In at a1; have a2 := i17; unfold In at a2; have a3 := (in_c 4 rfl); unfold In at a3; have a4 := (inv_F hI 0 1000 rfl v93_109_22); unfold In at a4; have a5 := (inv_F hI 0 1000 rfl v93_109_27); unfold In at a5; have a6 := i12; unfold In at a6; have a7 := t_sub e7 (inv_F hI 0 1000 rfl v93_109_27) j93_2 rfl; omega
          exact gg_w (by omega) (gg_f (gf_cons rfl (gf_cons rfl (gf_cons rfl gf_nil))) (ct122 (sF (sF s 109 23 (Int32.ofInt 4)) 109 24 z15) y93_2 w93_109_27 w93_109_22 hI28 (in_w 0 1000 j93_2 rfl) (sF_ne rfl (sF_ne rfl (v93_109_27))) (sF_ne rfl (sF_ne rfl (v93_109_22))) n29))
      · skip
        have i30 := r_eq1 7 7 c13 h1 (in_c 7 rfl) rfl
        refine g_iconst 3 111 (gd rfl) rfl rfl ?_
        refine g_goto 115 (gd rfl) rfl ?_
        refine g_aload_n 116 (gd rfl) rfl rfl ?_
        refine g_getI 119 (gd rfl) rfl rfl rfl (fun z31 e32 => ?_)
        have i33 := inv_F hI 0 1000 rfl e32
        refine g_callv (X := _) (As := [.int (Int32.ofInt 3), .int z31]) (r := []) (b := A 109) (q := 109) 122 (gd rfl) rfl rfl rfl rfl rfl (ww_o rfl) (Nat.le_of_ble_eq_true rfl) (mc := 0) (ms := 0) (Nat.zero_le _) (Nat.zero_le _) (P := fun v u => _) ?_ (fun e u h => h) (fun v u h => h)
        intro po34 xx35 hp36 hx37
        refine g_enter2 (k := 298) (N := 300) (by omega) rfl (Nat.le_of_ble_eq_true rfl) ?_
        refine g_aload_n 1 (gd rfl) rfl rfl ?_
        refine g_getI 4 (gd rfl) rfl rfl rfl (fun z38 e39 => ?_)
        refine g_if_ne 7 17 (gd rfl) rfl rfl (fun c40 => ?_) (fun c40 => ?_)
        · skip
          refine g_return (gd rfl) rfl (hp36 _ _ ?_)
          show GG _ _ _ _ _ _ _ _ [] _ _ _
          have n41 : (w93_109_27).toInt ≤ (w93_109_22).toInt := by have a0 := j93_2; unfold In at a0; have a1 := i30; unfold In at a1; have a2 := i33; unfold In at a2; have a3 := (inv_F hI 0 1000 rfl v93_109_22); unfold In at a3; have a4 := (inv_F hI 0 1000 rfl v93_109_27); unfold In at a4; have a5 := i12; unfold In at a5; have a6 := t_sub e7 (inv_F hI 0 1000 rfl v93_109_27) j93_2 rfl; omega
          exact gg_w (by omega) (gg_f (gf_cons rfl (gf_cons rfl (gf_cons rfl gf_nil))) (ct122 s y93_2 w93_109_27 w93_109_22 hI (in_w 0 1000 j93_2 rfl) (v93_109_27) (v93_109_22) n41))
        · skip
          have i42 := z_eq 0 0 c40 (i_rng z38) rfl
          refine g_aload_n 8 (gd rfl) rfl rfl ?_
          refine g_iload_n 9 (gd rfl) rfl rfl ?_
          refine g_putI 12 (gd rfl) rfl rfl rfl rfl ?_
          have hI43 := inv_sF (q := 109) (j := 23) hI rfl (in_w (-2147483648) 2147483647 (in_c 3 rfl) rfl)
          refine g_aload_n 13 (gd rfl) rfl rfl ?_
          refine g_iload_n 14 (gd rfl) rfl rfl ?_
          refine g_putI 17 (gd rfl) rfl rfl rfl rfl ?_
          have hI44 := inv_sF (q := 109) (j := 24) hI43 rfl (in_w (-2147483648) 2147483647 i33 rfl)
          refine g_return (gd rfl) rfl (hp36 _ _ ?_)
          show GG _ _ _ _ _ _ _ _ [] _ _ _
          have n45 : (w93_109_27).toInt ≤ (w93_109_22).toInt := by have a0 := j93_2; unfold In at a0; have a1 := i30; unfold In at a1; have a2 := i33; unfold In at a2; have a3 := (in_c 3 rfl); unfold In at a3; have a4 := (inv_F hI 0 1000 rfl v93_109_22); unfold In at a4; have a5 := (inv_F hI 0 1000 rfl v93_109_27); unfold In at a5; have a6 := i12; unfold In at a6; have a7 := t_sub e7 (inv_F hI 0 1000 rfl v93_109_27) j93_2 rfl; omega
          exact gg_w (by omega) (gg_f (gf_cons rfl (gf_cons rfl (gf_cons rfl gf_nil))) (ct122 (sF (sF s 109 23 (Int32.ofInt 3)) 109 24 z31) y93_2 w93_109_27 w93_109_22 hI44 (in_w 0 1000 j93_2 rfl) (sF_ne rfl (sF_ne rfl (v93_109_27))) (sF_ne rfl (sF_ne rfl (v93_109_22))) n45))
  have ct10 : ∀ (k10 : Nat) (s : GS) (y10_2 : Int32) (w10_109_27 : Int32) (w10_109_22 : Int32), Inv s → In y10_2 0 1000 → w10_109_27 = s.2.2.1 109 27 → w10_109_22 = s.2.2.1 109 22 → (w10_109_27).toInt ≤ (w10_109_22).toInt → (w10_109_22).toInt - (w10_109_27).toInt < (k10 : Int) → GG Z (d - 1) 300 post (gx xp) (1803 + k10 * 900) 10 (fun j => xlook j [(0, .ref (A 109)), (1, .int x1), (2, .int y10_2)]) [] (WW Z A s ++ ex) 0 0 := by
    intro k10
    induction k10 with
    | zero => intro s y10_2 w10_109_27 w10_109_22 hI j10_2 v10_109_27 v10_109_22 n10_0 mm10; exfalso; have a0 := j10_2; unfold In at a0; have a1 := h1; unfold In at a1; have a2 := (inv_F hI 0 1000 rfl v10_109_22); unfold In at a2; have a3 := (inv_F hI 0 1000 rfl v10_109_27); unfold In at a3; omega
    | succ k10 ih10 =>
      intro s y10_2 w10_109_27 w10_109_22 hI j10_2 v10_109_27 v10_109_22 n10_0 mm10
      refine gg_w (M := 1803 + k10 * 900 + 900) (by omega) ?_
      refine g_aload_n 11 (gd rfl) rfl rfl ?_
      refine g_getI 14 (gd rfl) rfl rfl rfl (fun z46 e47 => ?_)
      have q48 : w10_109_27 = z46 := (v10_109_27).trans e47.symm
      subst q48
      refine g_aload_n 15 (gd rfl) rfl rfl ?_
      refine g_getI 18 (gd rfl) rfl rfl rfl (fun z49 e50 => ?_)
      have q51 : w10_109_22 = z49 := (v10_109_22).trans e50.symm
      subst q51
      refine g_cmp_ge 21 93 (gd rfl) rfl rfl (fun c52 => ?_) (fun c52 => ?_)
      · skip
        have n53 : (w10_109_27).toInt ≤ (w10_109_22).toInt := by have a0 := j10_2; unfold In at a0; have a1 := h1; unfold In at a1; have a2 := (inv_F hI 0 1000 rfl v10_109_22); unfold In at a2; have a3 := (inv_F hI 0 1000 rfl v10_109_27); unfold In at a3; omega
        exact gg_w (by omega) (gg_f (gf_cons rfl (gf_cons rfl (gf_cons rfl gf_nil))) (ct93 s y10_2 w10_109_27 w10_109_22 hI (in_w 0 1000 j10_2 rfl) (v10_109_27) (v10_109_22) n53))
      · skip
        have i54 := r_lt1 0 999 c52 (inv_F hI 0 1000 rfl v10_109_27) (inv_F hI 0 1000 rfl v10_109_22) rfl
        have i55 := r_lt2 1 1000 c52 (inv_F hI 0 1000 rfl v10_109_27) (inv_F hI 0 1000 rfl v10_109_22) rfl
        refine g_aload_n 22 (gd rfl) rfl rfl ?_
        refine g_getA (q2 := 125) 25 (gd rfl) rfl rfl rfl rfl rfl ?_
        refine g_aload_n 26 (gd rfl) rfl rfl ?_
        refine g_getI 29 (gd rfl) rfl rfl rfl (fun z56 e57 => ?_)
        have q58 : w10_109_27 = z56 := (v10_109_27).trans e57.symm
        subst q58
        refine g_iaload 30 (gd rfl) rfl (n := 1000) rfl (in_ix i54 rfl) (fun z59 e60 => ?_)
        have i61 := inv_I hI (n := 1000) (t := 0) 0 126 rfl (in_ix i54 rfl) rfl e60
        refine g_calls (As := [.int z59]) (r := []) 33 (gd rfl) rfl rfl rfl rfl rfl (Nat.le_of_ble_eq_true rfl) (mc := 0) (ms := 0) (Nat.zero_le _) (Nat.zero_le _) (P := fun v u => _) ?_ (fun v u h => h)
        intro po62 xx63 hp64 hx65
        refine g_enter2 (k := 297) (N := 300) (by omega) rfl (Nat.le_of_ble_eq_true rfl) ?_
        refine g_iload_n 1 (gd rfl) rfl rfl ?_
        refine g_bipush 48 3 (gd rfl) rfl rfl ?_
        refine g_cmp_lt 6 16 (gd rfl) rfl rfl (fun c66 => ?_) (fun c66 => ?_)
        · skip
          have i67 := r_lt1 0 47 c66 i61 (in_c 48 rfl) rfl
          refine g_iconst 0 17 (gd rfl) rfl rfl ?_
          refine g_ireturn (gd rfl) rfl (nb01 (in_w 0 1 (in_c 0 rfl) rfl)) (hp64 _ _ ?_)
          show GG _ _ _ _ _ _ _ _ [.int (Int32.ofInt 0)] _ _ _
          refine g_if_eq 36 93 (gd rfl) rfl rfl (fun c68 => ?_) (fun c68 => ?_)
          · skip
            have n69 : (w10_109_27).toInt ≤ (w10_109_22).toInt := by have a0 := j10_2; unfold In at a0; have a1 := h1; unfold In at a1; have a2 := i55; unfold In at a2; have a3 := i54; unfold In at a3; omega
            exact gg_w (by omega) (gg_f (gf_cons rfl (gf_cons rfl (gf_cons rfl gf_nil))) (ct93 s y10_2 w10_109_27 w10_109_22 hI (in_w 0 1000 j10_2 rfl) (v10_109_27) (v10_109_22) n69))
          · skip
            exact zn_ne c68 (in_c 0 rfl) rfl
        · skip
          have i70 := r_le2 48 126 c66 (in_c 48 rfl) i61 rfl
          refine g_iload_n 7 (gd rfl) rfl rfl ?_
          refine g_bipush 57 9 (gd rfl) rfl rfl ?_
          refine g_cmp_gt 12 16 (gd rfl) rfl rfl (fun c71 => ?_) (fun c71 => ?_)
          · skip
            have i72 := r_lt2 58 126 c71 (in_c 57 rfl) i70 rfl
            refine g_iconst 0 17 (gd rfl) rfl rfl ?_
            refine g_ireturn (gd rfl) rfl (nb01 (in_w 0 1 (in_c 0 rfl) rfl)) (hp64 _ _ ?_)
            show GG _ _ _ _ _ _ _ _ [.int (Int32.ofInt 0)] _ _ _
            refine g_if_eq 36 93 (gd rfl) rfl rfl (fun c73 => ?_) (fun c73 => ?_)
            · skip
              have n74 : (w10_109_27).toInt ≤ (w10_109_22).toInt := by have a0 := j10_2; unfold In at a0; have a1 := h1; unfold In at a1; have a2 := i55; unfold In at a2; have a3 := i54; unfold In at a3; omega
              exact gg_w (by omega) (gg_f (gf_cons rfl (gf_cons rfl (gf_cons rfl gf_nil))) (ct93 s y10_2 w10_109_27 w10_109_22 hI (in_w 0 1000 j10_2 rfl) (v10_109_27) (v10_109_22) n74))
            · skip
              exact zn_ne c73 (in_c 0 rfl) rfl
          · skip
            have i75 := r_le1 48 57 c71 i70 (in_c 57 rfl) rfl
            refine g_iconst 1 13 (gd rfl) rfl rfl ?_
            refine g_goto 17 (gd rfl) rfl ?_
            refine g_ireturn (gd rfl) rfl (nb01 (in_w 0 1 (in_c 1 rfl) rfl)) (hp64 _ _ ?_)
            show GG _ _ _ _ _ _ _ _ [.int (Int32.ofInt 1)] _ _ _
            refine g_if_eq 36 93 (gd rfl) rfl rfl (fun c76 => ?_) (fun c76 => ?_)
            · skip
              exact zn_eq c76 (in_c 1 rfl) rfl
            · skip
              refine g_aload_n 37 (gd rfl) rfl rfl ?_
              refine g_aload_n 38 (gd rfl) rfl rfl ?_
              refine g_getI 41 (gd rfl) rfl rfl rfl (fun z77 e78 => ?_)
              have q79 : w10_109_27 = z77 := (v10_109_27).trans e78.symm
              subst q79
              refine g_iload_n 42 (gd rfl) rfl rfl ?_
              refine g_isub 43 (gd rfl) rfl (fun z80 e81 => ?_)
              have i82 := in_sub (-1000) 999 e81 i54 j10_2 rfl rfl
              refine g_iload_n 44 (gd rfl) rfl rfl ?_
              refine g_cmp_ge 47 73 (gd rfl) rfl rfl (fun c83 => ?_) (fun c83 => ?_)
              · skip
                have i84 := r_le2 6 999 c83 h1 i82 rfl
                refine g_aload_n 74 (gd rfl) rfl rfl ?_
                refine g_getL 77 (gd rfl) rfl rfl rfl (fun z85 e86 => ?_)
                refine g_putL 80 (gd rfl) rfl rfl rfl rfl ?_
                have hI87 := inv_sG (q := 109) (j := 31) (x := z85) hI
                refine g_aload_n 81 (gd rfl) rfl rfl ?_
                refine g_dup 82 (gd rfl) rfl rfl ?_
                refine g_getI 85 (gd rfl) rfl rfl rfl (fun z88 e89 => ?_)
                have q90 : w10_109_27 = z88 := (v10_109_27).trans e89.symm
                subst q90
                refine g_iconst 1 86 (gd rfl) rfl rfl ?_
                refine g_iadd 87 (gd rfl) rfl (fun z91 e92 => ?_)
                have i93 := in_add 1 1000 e92 i54 (in_c 1 rfl) rfl rfl
                refine g_putI 90 (gd rfl) rfl rfl rfl rfl ?_
                have hI94 := inv_sF (q := 109) (j := 27) hI87 rfl (in_w 0 1000 i93 rfl)
                refine g_goto 10 (gd rfl) rfl ?_
                have n95 : (z91).toInt ≤ (w10_109_22).toInt := by have a0 := j10_2; unfold In at a0; have a1 := h1; unfold In at a1; have a2 := i93; unfold In at a2; have a3 := t_add e92 i54 (in_c 1 rfl) rfl; have a4 := (in_c 1 rfl); unfold In at a4; have a5 := i54; unfold In at a5; have a6 := i55; unfold In at a6; have a7 := i84; unfold In at a7; have a8 := t_sub e81 i54 j10_2 rfl; omega
                have m96 : (w10_109_22).toInt - (z91).toInt < ((k10 : Nat) : Int) := by have a0 := j10_2; unfold In at a0; have a1 := h1; unfold In at a1; have a2 := i93; unfold In at a2; have a3 := t_add e92 i54 (in_c 1 rfl) rfl; have a4 := (in_c 1 rfl); unfold In at a4; have a5 := i54; unfold In at a5; have a6 := i55; unfold In at a6; have a7 := i84; unfold In at a7; have a8 := t_sub e81 i54 j10_2 rfl; omega
                exact gg_w (by omega) (gg_f (gf_cons rfl (gf_cons rfl (gf_cons rfl gf_nil))) (ih10  (sF (sG s 109 31 z85) 109 27 z91) y10_2 z91 w10_109_22 hI94 (in_w 0 1000 j10_2 rfl) (sF_get) (sF_ne rfl (v10_109_22)) n95 m96))
              · skip
                have i97 := r_lt1 (-1000) 6 c83 i82 h1 rfl
                refine g_ldc2_w 10 50 (gd rfl) rfl rfl ?_
                refine g_aload_n 51 (gd rfl) rfl rfl ?_
                refine g_getL 54 (gd rfl) rfl rfl rfl (fun z98 e99 => ?_)
                refine g_lmul 55 (gd rfl) rfl (fun z100 e101 => ?_)
                refine g_aload_n 56 (gd rfl) rfl rfl ?_
                refine g_getA (q2 := 125) 59 (gd rfl) rfl rfl rfl rfl rfl ?_
                refine g_aload_n 60 (gd rfl) rfl rfl ?_
                refine g_getI 63 (gd rfl) rfl rfl rfl (fun z102 e103 => ?_)
                have q104 : w10_109_27 = z102 := (v10_109_27).trans e103.symm
                subst q104
                refine g_iaload 64 (gd rfl) rfl (n := 1000) rfl (in_ix i54 rfl) (fun z105 e106 => ?_)
                have q107 : z59 = z105 := (e60).trans e106.symm
                subst q107
                refine g_i2l 65 (gd rfl) rfl (fun z108 e109 => ?_)
                have i110 := l_i e109 i75
                refine g_ladd 66 (gd rfl) rfl (fun z111 e112 => ?_)
                refine g_ldc2_w 48 69 (gd rfl) rfl rfl ?_
                refine g_lsub 70 (gd rfl) rfl (fun z113 e114 => ?_)
                refine g_goto 77 (gd rfl) rfl ?_
                refine g_putL 80 (gd rfl) rfl rfl rfl rfl ?_
                have hI115 := inv_sG (q := 109) (j := 31) (x := z113) hI
                refine g_aload_n 81 (gd rfl) rfl rfl ?_
                refine g_dup 82 (gd rfl) rfl rfl ?_
                refine g_getI 85 (gd rfl) rfl rfl rfl (fun z116 e117 => ?_)
                have q118 : w10_109_27 = z116 := (v10_109_27).trans e117.symm
                subst q118
                refine g_iconst 1 86 (gd rfl) rfl rfl ?_
                refine g_iadd 87 (gd rfl) rfl (fun z119 e120 => ?_)
                have i121 := in_add 1 1000 e120 i54 (in_c 1 rfl) rfl rfl
                refine g_putI 90 (gd rfl) rfl rfl rfl rfl ?_
                have hI122 := inv_sF (q := 109) (j := 27) hI115 rfl (in_w 0 1000 i121 rfl)
                refine g_goto 10 (gd rfl) rfl ?_
                have n123 : (z119).toInt ≤ (w10_109_22).toInt := by have a0 := j10_2; unfold In at a0; have a1 := h1; unfold In at a1; have a2 := i121; unfold In at a2; have a3 := t_add e120 i54 (in_c 1 rfl) rfl; have a4 := (in_c 1 rfl); unfold In at a4; have a5 := i54; unfold In at a5; have a6 := i55; unfold In at a6; have a7 := i97; unfold In at a7; have a8 := t_sub e81 i54 j10_2 rfl; omega
                have m124 : (w10_109_22).toInt - (z119).toInt < ((k10 : Nat) : Int) := by have a0 := j10_2; unfold In at a0; have a1 := h1; unfold In at a1; have a2 := i121; unfold In at a2; have a3 := t_add e120 i54 (in_c 1 rfl) rfl; have a4 := (in_c 1 rfl); unfold In at a4; have a5 := i54; unfold In at a5; have a6 := i55; unfold In at a6; have a7 := i97; unfold In at a7; have a8 := t_sub e81 i54 j10_2 rfl; omega
                exact gg_w (by omega) (gg_f (gf_cons rfl (gf_cons rfl (gf_cons rfl gf_nil))) (ih10  (sF (sG s 109 31 z113) 109 27 z119) y10_2 z119 w10_109_22 hI122 (in_w 0 1000 j10_2 rfl) (sF_get) (sF_ne rfl (v10_109_22)) n123 m124))
  refine g_enter2 (k := 300) (N := 903603) (by omega) rfl (Nat.le_of_ble_eq_true rfl) ?_
  refine g_aload_n 1 (gd rfl) rfl rfl ?_
  refine g_getI 4 (gd rfl) rfl rfl rfl (fun z125 e126 => ?_)
  have q127 : u_109_27 = z125 := (e_109_27).trans e126.symm
  subst q127
  refine g_istore_n 5 (gd rfl) rfl (Nat.le_of_ble_eq_true rfl) ?_
  refine g_aload_n 6 (gd rfl) rfl rfl ?_
  refine g_lconst 0 7 (gd rfl) rfl rfl ?_
  refine g_putL 10 (gd rfl) rfl rfl rfl rfl ?_
  have hI128 := inv_sG (q := 109) (j := 31) (x := (Int64.ofInt 0)) hI
  have n129 : (u_109_27).toInt ≤ (u_109_22).toInt := by have a0 := (inv_F hI 0 1000 rfl e_109_27); unfold In at a0; have a1 := h1; unfold In at a1; have a2 := (inv_F hI 0 1000 rfl e_109_22); unfold In at a2; omega
  have m130 : (u_109_22).toInt - (u_109_27).toInt < ((1001 : Nat) : Int) := by have a0 := (inv_F hI 0 1000 rfl e_109_27); unfold In at a0; have a1 := h1; unfold In at a1; have a2 := (inv_F hI 0 1000 rfl e_109_22); unfold In at a2; omega
  exact gg_w (by omega) (gg_f (gf_cons rfl (gf_cons rfl (gf_cons rfl gf_nil))) (ct10 1001 (sG s 109 31 (Int64.ofInt 0)) u_109_27 u_109_27 u_109_22 hI128 (in_w 0 1000 (inv_F hI 0 1000 rfl e_109_27) rfl) (e_109_27) (e_109_22) n129 m130))

/-- GraphHouseModel.copyGraph -/
theorem k_303 {Z : AmZ} {A : Nat → Nat} {s : GS} {ex : va_W} {d : Nat} {X : AmX}  (hd : 1 ≤ d) (hI : Inv s)  : GC Z d 303 [.ref (A 109)] (WW Z A s ++ ex) 0 0 (fun v u => ∃ t : GS, Inv t ∧ v = none ∧ u = WW Z A t ++ ex) X := by
  intro post xp hP hX
  have ct14 : ∀ (k14 : Nat) (s : GS) (y14_1 : Int32), Inv s → In y14_1 0 160 → 160 - (y14_1).toInt < (k14 : Int) → GG Z (d - 1) 303 post (gx xp) (1 + k14 * 900) 14 (fun j => xlook j [(0, .ref (A 109)), (1, .int y14_1)]) [] (WW Z A s ++ ex) 0 0 := by
    intro k14
    induction k14 with
    | zero => intro s y14_1 hI j14_1 mm14; exact m_no mm14 j14_1 rfl
    | succ k14 ih14 =>
      intro s y14_1 hI j14_1 mm14
      refine gg_w (M := 1 + k14 * 900 + 900) (by omega) ?_
      refine g_iload_n 15 (gd rfl) rfl rfl ?_
      refine g_sipush 160 18 (gd rfl) rfl rfl ?_
      refine g_cmp_ge 21 43 (gd rfl) rfl rfl (fun c1 => ?_) (fun c1 => ?_)
      · skip
        have i2 := r_le2 160 160 c1 (in_c 160 rfl) j14_1 rfl
        exact g_return (gd rfl) rfl (hP _ _ ⟨s, hI, rfl, rfl⟩)
      · skip
        have i3 := r_lt1 0 159 c1 j14_1 (in_c 160 rfl) rfl
        refine g_aload_n 22 (gd rfl) rfl rfl ?_
        refine g_getA (q2 := 112) 25 (gd rfl) rfl rfl rfl rfl rfl ?_
        refine g_sipush 320 28 (gd rfl) rfl rfl ?_
        refine g_iload_n 29 (gd rfl) rfl rfl ?_
        refine g_iadd 30 (gd rfl) rfl (fun z4 e5 => ?_)
        have i6 := in_add 320 479 e5 (in_c 320 rfl) i3 rfl rfl
        refine g_aload_n 31 (gd rfl) rfl rfl ?_
        refine g_getA (q2 := 112) 34 (gd rfl) rfl rfl rfl rfl rfl ?_
        refine g_iload_n 35 (gd rfl) rfl rfl ?_
        refine g_baload 36 (gd rfl) rfl (n := 480) rfl (in_ix i3 rfl) (fun z7 e8 => ?_)
        have i9 := inv_I hI (n := 480) (t := 3) 0 1 rfl (in_ix i3 rfl) rfl e8
        refine g_bastore 37 (gd rfl) rfl (n := 480) rfl (in_ix i6 rfl) ?_
        have hI10 := inv_sI (q := 112) (j := z4.toNatClampNeg) hI rfl (in_w 0 1 (nar01 (in_w 0 1 i9 rfl)) rfl)
        refine g_iinc 40 (gd rfl) rfl rfl (Nat.le_of_ble_eq_true rfl) (fun z11 e12 => ?_)
        have i13 := in_add 1 160 e12 i3 (in_c 1 rfl) rfl rfl
        refine g_goto 14 (gd rfl) rfl ?_
        exact gg_w (by omega) (gg_f (gf_cons rfl (gf_cons rfl gf_nil)) (ih14 (sI s 112 z4.toNatClampNeg (vp_nar .boolean z7)) z11 hI10 (in_w 0 160 i13 rfl) (m_up mm14 (t_add e12 i3 (in_c 1 rfl) rfl) (in_w 1 1 (in_c 1 rfl) rfl))))
  refine g_enter2 (k := 303) (N := 145801) (by omega) rfl (Nat.le_of_ble_eq_true rfl) ?_
  refine g_aload_n 1 (gd rfl) rfl rfl ?_
  refine g_getA (q2 := 110) 4 (gd rfl) rfl rfl rfl rfl rfl ?_
  refine g_iconst 2 5 (gd rfl) rfl rfl ?_
  refine g_aload_n 6 (gd rfl) rfl rfl ?_
  refine g_getA (q2 := 110) 9 (gd rfl) rfl rfl rfl rfl rfl ?_
  refine g_iconst 0 10 (gd rfl) rfl rfl ?_
  refine g_iaload 11 (gd rfl) rfl (n := 3) rfl (in_ix (in_c 0 rfl) rfl) (fun z14 e15 => ?_)
  have i16 := inv_I hI (n := 3) (t := 0) 0 32 rfl (in_ix (in_c 0 rfl) rfl) rfl e15
  refine g_iastore 12 (gd rfl) rfl (n := 3) rfl (in_ix (in_c 2 rfl) rfl) ?_
  have hI17 := inv_sI (q := 110) (j := (Int32.ofInt 2).toNatClampNeg) hI rfl (in_w 0 32 i16 rfl)
  refine g_iconst 0 13 (gd rfl) rfl rfl ?_
  refine g_istore_n 14 (gd rfl) rfl (Nat.le_of_ble_eq_true rfl) ?_
  exact gg_w (by omega) (gg_f (gf_cons rfl (gf_cons rfl gf_nil)) (ct14 161 (sI s 110 (Int32.ofInt 2).toNatClampNeg z14) (Int32.ofInt 0) hI17 (in_w 0 160 (in_c 0 rfl) rfl) (m_in 161 (in_w 0 160 (in_c 0 rfl) rfl) rfl)))

/-- GraphHouseModel.printed -/
theorem k_309 {Z : AmZ} {A : Nat → Nat} {s : GS} {ex : va_W} {d : Nat} {X : AmX} {x1 : Int32} (hd : 4 ≤ d) (hI : Inv s)  : GC Z d 309 [.ref (A 109), .int x1] (WW Z A s ++ ex) 0 0 (fun v u => ∃ t : GS, Inv t ∧ ∃ z : Int32, v = some (.int z) ∧ u = WW Z A t ++ ex ∧ In z (-2147483648) 2147483647) X := by
  intro post xp hP hX
  refine g_enter2 (k := 309) (N := 900) (by omega) rfl (Nat.le_of_ble_eq_true rfl) ?_
  refine g_aload_n 1 (gd rfl) rfl rfl ?_
  refine g_iload_n 2 (gd rfl) rfl rfl ?_
  refine g_if_lt 5 17 (gd rfl) rfl rfl (fun c1 => ?_) (fun c1 => ?_)
  · skip
    have i2 := z_lt (-2147483648) (-1) c1 (i_rng x1) rfl
    refine g_iconst 0 18 (gd rfl) rfl rfl ?_
    refine g_callv (X := _) (As := [.int (Int32.ofInt 0)]) (r := []) (b := A 109) (q := 109) 21 (gd rfl) rfl rfl rfl rfl rfl (ww_o rfl) (Nat.le_of_ble_eq_true rfl) (mc := 0) (ms := 0) (Nat.zero_le _) (Nat.zero_le _) (P := fun v u => _) ?_ (fun e u h => h) (fun v u h => h)
    intro po3 xx4 hp5 hx6
    refine g_enter2 (k := 271) (N := 300) (by omega) rfl (Nat.le_of_ble_eq_true rfl) ?_
    refine g_aload_n 1 (gd rfl) rfl rfl ?_
    refine g_iload_n 2 (gd rfl) rfl rfl ?_
    refine g_iconst 1 3 (gd rfl) rfl rfl ?_
    refine g_callv (X := _) (As := [.int (Int32.ofInt 0), .int (Int32.ofInt 1)]) (r := []) (b := A 109) (q := 109) 6 (gd rfl) rfl rfl rfl rfl rfl (ww_o rfl) (Nat.le_of_ble_eq_true rfl) (mc := 0) (ms := 0) (Nat.zero_le _) (Nat.zero_le _) (P := fun v u => _) ?_ (fun e u h => h) (fun v u h => h)
    intro po7 xx8 hp9 hx10
    refine g_enter2 (k := 270) (N := 300) (by omega) rfl (Nat.le_of_ble_eq_true rfl) ?_
    refine g_aload_n 1 (gd rfl) rfl rfl ?_
    refine g_iload_n 2 (gd rfl) rfl rfl ?_
    refine g_if_ne 5 9 (gd rfl) rfl rfl (fun c11 => ?_) (fun c11 => ?_)
    · skip
      exact zn_ne c11 (in_c 0 rfl) rfl
    · skip
      refine g_iconst 1 6 (gd rfl) rfl rfl ?_
      refine g_goto 18 (gd rfl) rfl ?_
      refine g_putI 21 (gd rfl) rfl rfl rfl rfl ?_
      have hI12 := inv_sF (q := 109) (j := 0) hI rfl (in_w 0 2 (in_c 1 rfl) rfl)
      refine g_aload_n 22 (gd rfl) rfl rfl ?_
      refine g_getI 25 (gd rfl) rfl rfl rfl (fun z13 e14 => ?_)
      have q15 : (Int32.ofInt 1) = z13 := (sF_get).trans e14.symm
      subst q15
      refine g_if_le 28 32 (gd rfl) rfl rfl (fun c16 => ?_) (fun c16 => ?_)
      · skip
        exact zn_le c16 (in_c 1 rfl) rfl
      · skip
        refine g_iconst 1 29 (gd rfl) rfl rfl ?_
        refine g_goto 33 (gd rfl) rfl ?_
        refine g_ireturn (gd rfl) rfl (nb01 (in_w 0 1 (in_c 1 rfl) rfl)) (hp9 _ _ ?_)
        show GG _ _ _ _ _ _ _ _ [.int (Int32.ofInt 1)] _ _ _
        refine g_ireturn (gd rfl) rfl (nb01 (in_w 0 1 (in_c 1 rfl) rfl)) (hp5 _ _ ?_)
        show GG _ _ _ _ _ _ _ _ [.int (Int32.ofInt 1)] _ _ _
        refine g_if_eq 24 28 (gd rfl) rfl rfl (fun c17 => ?_) (fun c17 => ?_)
        · skip
          exact zn_eq c17 (in_c 1 rfl) rfl
        · skip
          refine g_iconst 0 25 (gd rfl) rfl rfl ?_
          refine g_goto 34 (gd rfl) rfl ?_
          exact g_ireturn (gd rfl) rfl rfl (hP _ _ ⟨(sF s 109 0 (Int32.ofInt 1)), hI12, (Int32.ofInt 0), rfl, rfl, in_w (-2147483648) 2147483647 (in_c 0 rfl) rfl⟩)
  · skip
    have i18 := z_ge 0 2147483647 c1 (i_rng x1) rfl
    refine g_iload_n 6 (gd rfl) rfl rfl ?_
    refine g_aload_n 7 (gd rfl) rfl rfl ?_
    refine g_getI 10 (gd rfl) rfl rfl rfl (fun z19 e20 => ?_)
    have i21 := inv_F hI 0 8000 rfl e20
    refine g_cmp_ge 13 17 (gd rfl) rfl rfl (fun c22 => ?_) (fun c22 => ?_)
    · skip
      refine g_iconst 0 18 (gd rfl) rfl rfl ?_
      refine g_callv (X := _) (As := [.int (Int32.ofInt 0)]) (r := []) (b := A 109) (q := 109) 21 (gd rfl) rfl rfl rfl rfl rfl (ww_o rfl) (Nat.le_of_ble_eq_true rfl) (mc := 0) (ms := 0) (Nat.zero_le _) (Nat.zero_le _) (P := fun v u => _) ?_ (fun e u h => h) (fun v u h => h)
      intro po23 xx24 hp25 hx26
      refine g_enter2 (k := 271) (N := 300) (by omega) rfl (Nat.le_of_ble_eq_true rfl) ?_
      refine g_aload_n 1 (gd rfl) rfl rfl ?_
      refine g_iload_n 2 (gd rfl) rfl rfl ?_
      refine g_iconst 1 3 (gd rfl) rfl rfl ?_
      refine g_callv (X := _) (As := [.int (Int32.ofInt 0), .int (Int32.ofInt 1)]) (r := []) (b := A 109) (q := 109) 6 (gd rfl) rfl rfl rfl rfl rfl (ww_o rfl) (Nat.le_of_ble_eq_true rfl) (mc := 0) (ms := 0) (Nat.zero_le _) (Nat.zero_le _) (P := fun v u => _) ?_ (fun e u h => h) (fun v u h => h)
      intro po27 xx28 hp29 hx30
      refine g_enter2 (k := 270) (N := 300) (by omega) rfl (Nat.le_of_ble_eq_true rfl) ?_
      refine g_aload_n 1 (gd rfl) rfl rfl ?_
      refine g_iload_n 2 (gd rfl) rfl rfl ?_
      refine g_if_ne 5 9 (gd rfl) rfl rfl (fun c31 => ?_) (fun c31 => ?_)
      · skip
        exact zn_ne c31 (in_c 0 rfl) rfl
      · skip
        refine g_iconst 1 6 (gd rfl) rfl rfl ?_
        refine g_goto 18 (gd rfl) rfl ?_
        refine g_putI 21 (gd rfl) rfl rfl rfl rfl ?_
        have hI32 := inv_sF (q := 109) (j := 0) hI rfl (in_w 0 2 (in_c 1 rfl) rfl)
        refine g_aload_n 22 (gd rfl) rfl rfl ?_
        refine g_getI 25 (gd rfl) rfl rfl rfl (fun z33 e34 => ?_)
        have q35 : (Int32.ofInt 1) = z33 := (sF_get).trans e34.symm
        subst q35
        refine g_if_le 28 32 (gd rfl) rfl rfl (fun c36 => ?_) (fun c36 => ?_)
        · skip
          exact zn_le c36 (in_c 1 rfl) rfl
        · skip
          refine g_iconst 1 29 (gd rfl) rfl rfl ?_
          refine g_goto 33 (gd rfl) rfl ?_
          refine g_ireturn (gd rfl) rfl (nb01 (in_w 0 1 (in_c 1 rfl) rfl)) (hp29 _ _ ?_)
          show GG _ _ _ _ _ _ _ _ [.int (Int32.ofInt 1)] _ _ _
          refine g_ireturn (gd rfl) rfl (nb01 (in_w 0 1 (in_c 1 rfl) rfl)) (hp25 _ _ ?_)
          show GG _ _ _ _ _ _ _ _ [.int (Int32.ofInt 1)] _ _ _
          refine g_if_eq 24 28 (gd rfl) rfl rfl (fun c37 => ?_) (fun c37 => ?_)
          · skip
            exact zn_eq c37 (in_c 1 rfl) rfl
          · skip
            refine g_iconst 0 25 (gd rfl) rfl rfl ?_
            refine g_goto 34 (gd rfl) rfl ?_
            exact g_ireturn (gd rfl) rfl rfl (hP _ _ ⟨(sF s 109 0 (Int32.ofInt 1)), hI32, (Int32.ofInt 0), rfl, rfl, in_w (-2147483648) 2147483647 (in_c 0 rfl) rfl⟩)
    · skip
      have i38 := r_lt1 0 7999 c22 i18 i21 rfl
      have i39 := r_lt2 1 8000 c22 i18 i21 rfl
      refine g_iconst 1 14 (gd rfl) rfl rfl ?_
      refine g_goto 18 (gd rfl) rfl ?_
      refine g_callv (X := _) (As := [.int (Int32.ofInt 1)]) (r := []) (b := A 109) (q := 109) 21 (gd rfl) rfl rfl rfl rfl rfl (ww_o rfl) (Nat.le_of_ble_eq_true rfl) (mc := 0) (ms := 0) (Nat.zero_le _) (Nat.zero_le _) (P := fun v u => _) ?_ (fun e u h => h) (fun v u h => h)
      intro po40 xx41 hp42 hx43
      refine g_enter2 (k := 271) (N := 300) (by omega) rfl (Nat.le_of_ble_eq_true rfl) ?_
      refine g_aload_n 1 (gd rfl) rfl rfl ?_
      refine g_iload_n 2 (gd rfl) rfl rfl ?_
      refine g_iconst 1 3 (gd rfl) rfl rfl ?_
      refine g_callv (X := _) (As := [.int (Int32.ofInt 1), .int (Int32.ofInt 1)]) (r := []) (b := A 109) (q := 109) 6 (gd rfl) rfl rfl rfl rfl rfl (ww_o rfl) (Nat.le_of_ble_eq_true rfl) (mc := 0) (ms := 0) (Nat.zero_le _) (Nat.zero_le _) (P := fun v u => _) ?_ (fun e u h => h) (fun v u h => h)
      intro po44 xx45 hp46 hx47
      refine g_enter2 (k := 270) (N := 300) (by omega) rfl (Nat.le_of_ble_eq_true rfl) ?_
      refine g_aload_n 1 (gd rfl) rfl rfl ?_
      refine g_iload_n 2 (gd rfl) rfl rfl ?_
      refine g_if_ne 5 9 (gd rfl) rfl rfl (fun c48 => ?_) (fun c48 => ?_)
      · skip
        refine g_iload_n 10 (gd rfl) rfl rfl ?_
        refine g_if_ne 13 17 (gd rfl) rfl rfl (fun c49 => ?_) (fun c49 => ?_)
        · skip
          refine g_iconst 0 18 (gd rfl) rfl rfl ?_
          refine g_putI 21 (gd rfl) rfl rfl rfl rfl ?_
          have hI50 := inv_sF (q := 109) (j := 0) hI rfl (in_w 0 2 (in_c 0 rfl) rfl)
          refine g_aload_n 22 (gd rfl) rfl rfl ?_
          refine g_getI 25 (gd rfl) rfl rfl rfl (fun z51 e52 => ?_)
          have q53 : (Int32.ofInt 0) = z51 := (sF_get).trans e52.symm
          subst q53
          refine g_if_le 28 32 (gd rfl) rfl rfl (fun c54 => ?_) (fun c54 => ?_)
          · skip
            refine g_iconst 0 33 (gd rfl) rfl rfl ?_
            refine g_ireturn (gd rfl) rfl (nb01 (in_w 0 1 (in_c 0 rfl) rfl)) (hp46 _ _ ?_)
            show GG _ _ _ _ _ _ _ _ [.int (Int32.ofInt 0)] _ _ _
            refine g_ireturn (gd rfl) rfl (nb01 (in_w 0 1 (in_c 0 rfl) rfl)) (hp42 _ _ ?_)
            show GG _ _ _ _ _ _ _ _ [.int (Int32.ofInt 0)] _ _ _
            refine g_if_eq 24 28 (gd rfl) rfl rfl (fun c55 => ?_) (fun c55 => ?_)
            · skip
              refine g_aload_n 29 (gd rfl) rfl rfl ?_
              refine g_getA (q2 := 126) 32 (gd rfl) rfl rfl rfl rfl rfl ?_
              refine g_iload_n 33 (gd rfl) rfl rfl ?_
              refine g_iaload 34 (gd rfl) rfl (n := 8000) rfl (in_ix i38 rfl) (fun z56 e57 => ?_)
              exact g_ireturn (gd rfl) rfl rfl (hP _ _ ⟨(sF s 109 0 (Int32.ofInt 0)), hI50, z56, rfl, rfl, in_w (-2147483648) 2147483647 (i_rng z56) rfl⟩)
            · skip
              exact zn_ne c55 (in_c 0 rfl) rfl
          · skip
            exact zn_gt c54 (in_c 0 rfl) rfl
        · skip
          exact zn_eq c49 (in_c 1 rfl) rfl
      · skip
        exact zn_eq c48 (in_c 1 rfl) rfl

/-- GraphHouseModel.close -/
theorem k_310 {Z : AmZ} {A : Nat → Nat} {s : GS} {ex : va_W} {d : Nat} {X : AmX} {x1 : Int32} {x2 : Int32} {x3 : Int32} (hd : 1 ≤ d) (hI : Inv s) (h1 : In x1 0 1) (h2 : In x2 (-1) 159) (h3 : In x3 (-1) 31) : GC Z d 310 [.ref (A 109), .int x1, .int x2, .int x3] (WW Z A s ++ ex) 0 0 (fun v u => ∃ t : GS, Inv t ∧ v = none ∧ u = WW Z A t ++ ex) X := by
  intro post xp hP hX
  have ct156 : ∀ (k156 : Nat) (s : GS) (y156_4 : Int32), Inv s → In y156_4 0 32 → 32 - (y156_4).toInt < (k156 : Int) → GG Z (d - 1) 310 post (gx xp) (1 + k156 * 32401) 156 (fun j => xlook j [(0, .ref (A 109)), (1, .int x1), (2, .int x2), (3, .int x3), (4, .int y156_4)]) [] (WW Z A s ++ ex) 0 0 := by
    intro k156
    induction k156 with
    | zero => intro s y156_4 hI j156_4 mm156; exact m_no mm156 j156_4 rfl
    | succ k156 ih156 =>
      intro s y156_4 hI j156_4 mm156
      refine gg_w (M := 1 + k156 * 32401 + 32401) (by omega) ?_
      have ct168 : ∀ (k168 : Nat) (s : GS) (y168_5 : Int32), Inv s → In y156_4 0 31 → In y168_5 0 32 → 32 - (y168_5).toInt < (k168 : Int) → GG Z (d - 1) 310 post (gx xp) (1 + k156 * 32401 + 1 + k168 * 900) 168 (fun j => xlook j [(0, .ref (A 109)), (1, .int x1), (2, .int x2), (3, .int x3), (4, .int y156_4), (5, .int y168_5)]) [] (WW Z A s ++ ex) 0 0 := by
        intro k168
        induction k168 with
        | zero => intro s y168_5 hI j168_4 j168_5 mm168; exact m_no mm168 j168_5 rfl
        | succ k168 ih168 =>
          intro s y168_5 hI j168_4 j168_5 mm168
          refine gg_w (M := 1 + k156 * 32401 + 1 + k168 * 900 + 900) (by omega) ?_
          refine g_iload 170 (gd rfl) rfl rfl ?_
          refine g_aload_n 171 (gd rfl) rfl rfl ?_
          refine g_getI 174 (gd rfl) rfl rfl rfl (fun z1 e2 => ?_)
          have i3 := inv_F hI 0 32 rfl e2
          refine g_cmp_ge 177 220 (gd rfl) rfl rfl (fun c4 => ?_) (fun c4 => ?_)
          · skip
            refine g_iinc 223 (gd rfl) rfl rfl (Nat.le_of_ble_eq_true rfl) (fun z5 e6 => ?_)
            have i7 := in_add 1 32 e6 j168_4 (in_c 1 rfl) rfl rfl
            refine g_goto 156 (gd rfl) rfl ?_
            exact gg_w (by omega) (gg_f (gf_cons rfl (gf_cons rfl (gf_cons rfl (gf_cons rfl (gf_cons rfl gf_nil))))) (ih156 s z5 hI (in_w 0 32 i7 rfl) (m_up mm156 (t_add e6 j168_4 (in_c 1 rfl) rfl) (in_w 1 1 (in_c 1 rfl) rfl))))
          · skip
            have i8 := r_lt1 0 31 c4 j168_5 i3 rfl
            have i9 := r_lt2 1 32 c4 j168_5 i3 rfl
            refine g_aload_n 178 (gd rfl) rfl rfl ?_
            refine g_getA (q2 := 129) 181 (gd rfl) rfl rfl rfl rfl rfl ?_
            refine g_iload 183 (gd rfl) rfl rfl ?_
            refine g_dup2 184 (gd rfl) rfl rfl rfl ?_
            refine g_iaload 185 (gd rfl) rfl (n := 32) rfl (in_ix i8 rfl) (fun z10 e11 => ?_)
            refine g_aload_n 186 (gd rfl) rfl rfl ?_
            refine g_getA (q2 := 129) 189 (gd rfl) rfl rfl rfl rfl rfl ?_
            refine g_iload 191 (gd rfl) rfl rfl ?_
            refine g_iaload 192 (gd rfl) rfl (n := 32) rfl (in_ix i8 rfl) (fun z12 e13 => ?_)
            have q14 : z10 = z12 := (e11).trans e13.symm
            subst q14
            refine g_iload 194 (gd rfl) rfl rfl ?_
            refine g_ishr 195 (gd rfl) rfl (fun z15 e16 => ?_)
            refine g_iconst 1 196 (gd rfl) rfl rfl ?_
            refine g_iand 197 (gd rfl) rfl (fun z17 e18 => ?_)
            have i19 := in_and2 e18 (in_c 1 rfl) rfl
            refine g_iconst 1 198 (gd rfl) rfl rfl ?_
            refine g_cmp_ne 201 211 (gd rfl) rfl rfl (fun c20 => ?_) (fun c20 => ?_)
            · skip
              have i21 := r_ne1 0 0 c20 i19 (in_c 1 rfl) rfl
              refine g_iconst 0 212 (gd rfl) rfl rfl ?_
              refine g_ior 213 (gd rfl) rfl (fun z22 e23 => ?_)
              refine g_iastore 214 (gd rfl) rfl (n := 32) rfl (in_ix i8 rfl) ?_
              have hI24 := inv_sI (q := 129) (j := y168_5.toNatClampNeg) hI rfl (in_w (-2147483648) 2147483647 (i_rng z22) rfl)
              refine g_iinc 217 (gd rfl) rfl rfl (Nat.le_of_ble_eq_true rfl) (fun z25 e26 => ?_)
              have i27 := in_add 1 32 e26 i8 (in_c 1 rfl) rfl rfl
              refine g_goto 168 (gd rfl) rfl ?_
              exact gg_w (by omega) (gg_f (gf_cons rfl (gf_cons rfl (gf_cons rfl (gf_cons rfl (gf_cons rfl (gf_cons rfl gf_nil)))))) (ih168 (sI s 129 y168_5.toNatClampNeg z22) z25 hI24 (in_w 0 31 j168_4 rfl) (in_w 0 32 i27 rfl) (m_up mm168 (t_add e26 i8 (in_c 1 rfl) rfl) (in_w 1 1 (in_c 1 rfl) rfl))))
            · skip
              have i28 := r_eq1 1 1 c20 i19 (in_c 1 rfl) rfl
              refine g_aload_n 202 (gd rfl) rfl rfl ?_
              refine g_getA (q2 := 129) 205 (gd rfl) rfl rfl rfl rfl rfl ?_
              refine g_iload 207 (gd rfl) rfl rfl ?_
              refine g_iaload 208 (gd rfl) rfl (n := 32) rfl (in_ix j168_4 rfl) (fun z29 e30 => ?_)
              refine g_goto 212 (gd rfl) rfl ?_
              refine g_ior 213 (gd rfl) rfl (fun z31 e32 => ?_)
              refine g_iastore 214 (gd rfl) rfl (n := 32) rfl (in_ix i8 rfl) ?_
              have hI33 := inv_sI (q := 129) (j := y168_5.toNatClampNeg) hI rfl (in_w (-2147483648) 2147483647 (i_rng z31) rfl)
              refine g_iinc 217 (gd rfl) rfl rfl (Nat.le_of_ble_eq_true rfl) (fun z34 e35 => ?_)
              have i36 := in_add 1 32 e35 i8 (in_c 1 rfl) rfl rfl
              refine g_goto 168 (gd rfl) rfl ?_
              exact gg_w (by omega) (gg_f (gf_cons rfl (gf_cons rfl (gf_cons rfl (gf_cons rfl (gf_cons rfl (gf_cons rfl gf_nil)))))) (ih168 (sI s 129 y168_5.toNatClampNeg z31) z34 hI33 (in_w 0 31 j168_4 rfl) (in_w 0 32 i36 rfl) (m_up mm168 (t_add e35 i8 (in_c 1 rfl) rfl) (in_w 1 1 (in_c 1 rfl) rfl))))
      refine g_iload 158 (gd rfl) rfl rfl ?_
      refine g_aload_n 159 (gd rfl) rfl rfl ?_
      refine g_getI 162 (gd rfl) rfl rfl rfl (fun z37 e38 => ?_)
      have i39 := inv_F hI 0 32 rfl e38
      refine g_cmp_ge 165 226 (gd rfl) rfl rfl (fun c40 => ?_) (fun c40 => ?_)
      · skip
        exact g_return (gd rfl) rfl (hP _ _ ⟨s, hI, rfl, rfl⟩)
      · skip
        have i41 := r_lt1 0 31 c40 j156_4 i39 rfl
        have i42 := r_lt2 1 32 c40 j156_4 i39 rfl
        refine g_iconst 0 166 (gd rfl) rfl rfl ?_
        refine g_istore 168 (gd rfl) rfl (Nat.le_of_ble_eq_true rfl) ?_
        exact gg_w (by omega) (gg_f (gf_cons rfl (gf_cons rfl (gf_cons rfl (gf_cons rfl (gf_cons rfl (gf_cons rfl gf_nil)))))) (ct168 33 s (Int32.ofInt 0) hI (in_w 0 31 i41 rfl) (in_w 0 32 (in_c 0 rfl) rfl) (m_in 33 (in_w 0 32 (in_c 0 rfl) rfl) rfl)))
  have ct42 : ∀ (k42 : Nat) (s : GS) (y42_4 : Int32), Inv s → In y42_4 0 160 → 160 - (y42_4).toInt < (k42 : Int) → GG Z (d - 1) 310 post (gx xp) (1069235 + k42 * 900) 42 (fun j => xlook j [(0, .ref (A 109)), (1, .int x1), (2, .int x2), (3, .int x3), (4, .int y42_4)]) [] (WW Z A s ++ ex) 0 0 := by
    intro k42
    induction k42 with
    | zero => intro s y42_4 hI j42_4 mm42; exact m_no mm42 j42_4 rfl
    | succ k42 ih42 =>
      intro s y42_4 hI j42_4 mm42
      refine gg_w (M := 1069235 + k42 * 900 + 900) (by omega) ?_
      refine g_iload 44 (gd rfl) rfl rfl ?_
      refine g_sipush 160 47 (gd rfl) rfl rfl ?_
      refine g_cmp_ge 50 153 (gd rfl) rfl rfl (fun c43 => ?_) (fun c43 => ?_)
      · skip
        have i44 := r_le2 160 160 c43 (in_c 160 rfl) j42_4 rfl
        refine g_iconst 0 154 (gd rfl) rfl rfl ?_
        refine g_istore 156 (gd rfl) rfl (Nat.le_of_ble_eq_true rfl) ?_
        exact gg_w (by omega) (gg_f (gf_cons rfl (gf_cons rfl (gf_cons rfl (gf_cons rfl (gf_cons rfl gf_nil))))) (ct156 33 s (Int32.ofInt 0) hI (in_w 0 32 (in_c 0 rfl) rfl) (m_in 33 (in_w 0 32 (in_c 0 rfl) rfl) rfl)))
      · skip
        have i45 := r_lt1 0 159 c43 j42_4 (in_c 160 rfl) rfl
        refine g_aload_n 51 (gd rfl) rfl rfl ?_
        refine g_getA (q2 := 113) 54 (gd rfl) rfl rfl rfl rfl rfl ?_
        refine g_aload_n 55 (gd rfl) rfl rfl ?_
        refine g_getI 58 (gd rfl) rfl rfl rfl (fun z46 e47 => ?_)
        have i48 := inv_F hI 0 160 rfl e47
        refine g_iload 60 (gd rfl) rfl rfl ?_
        refine g_iadd 61 (gd rfl) rfl (fun z49 e50 => ?_)
        have i51 := in_add 0 319 e50 i48 i45 rfl rfl
        refine g_iaload 62 (gd rfl) rfl (n := 480) rfl (in_ix i51 rfl) (fun z52 e53 => ?_)
        have i54 := inv_I hI (n := 480) (t := 0) 0 31 rfl (in_ix i51 rfl) rfl e53
        refine g_istore 64 (gd rfl) rfl (Nat.le_of_ble_eq_true rfl) ?_
        refine g_aload_n 65 (gd rfl) rfl rfl ?_
        refine g_getA (q2 := 114) 68 (gd rfl) rfl rfl rfl rfl rfl ?_
        refine g_aload_n 69 (gd rfl) rfl rfl ?_
        refine g_getI 72 (gd rfl) rfl rfl rfl (fun z55 e56 => ?_)
        have q57 : z46 = z55 := (e47).trans e56.symm
        subst q57
        refine g_iload 74 (gd rfl) rfl rfl ?_
        refine g_iadd 75 (gd rfl) rfl (fun z58 e59 => ?_)
        have i60 := in_add 0 319 e59 i48 i45 rfl rfl
        refine g_iaload 76 (gd rfl) rfl (n := 480) rfl (in_ix i60 rfl) (fun z61 e62 => ?_)
        have i63 := inv_I hI (n := 480) (t := 0) 0 31 rfl (in_ix i60 rfl) rfl e62
        refine g_istore 78 (gd rfl) rfl (Nat.le_of_ble_eq_true rfl) ?_
        refine g_aload_n 79 (gd rfl) rfl rfl ?_
        refine g_getA (q2 := 112) 82 (gd rfl) rfl rfl rfl rfl rfl ?_
        refine g_aload_n 83 (gd rfl) rfl rfl ?_
        refine g_getI 86 (gd rfl) rfl rfl rfl (fun z64 e65 => ?_)
        have q66 : z46 = z64 := (e47).trans e65.symm
        subst q66
        refine g_iload 88 (gd rfl) rfl rfl ?_
        refine g_iadd 89 (gd rfl) rfl (fun z67 e68 => ?_)
        have i69 := in_add 0 319 e68 i48 i45 rfl rfl
        refine g_baload 90 (gd rfl) rfl (n := 480) rfl (in_ix i69 rfl) (fun z70 e71 => ?_)
        have i72 := inv_I hI (n := 480) (t := 3) 0 1 rfl (in_ix i69 rfl) rfl e71
        refine g_if_eq 93 147 (gd rfl) rfl rfl (fun c73 => ?_) (fun c73 => ?_)
        · skip
          have i74 := z_eq 0 0 c73 i72 rfl
          refine g_iinc 150 (gd rfl) rfl rfl (Nat.le_of_ble_eq_true rfl) (fun z75 e76 => ?_)
          have i77 := in_add 1 160 e76 i45 (in_c 1 rfl) rfl rfl
          refine g_goto 42 (gd rfl) rfl ?_
          exact gg_w (by omega) (gg_f (gf_cons rfl (gf_cons rfl (gf_cons rfl (gf_cons rfl (gf_cons rfl gf_nil))))) (ih42 s z75 hI (in_w 0 160 i77 rfl) (m_up mm42 (t_add e76 i45 (in_c 1 rfl) rfl) (in_w 1 1 (in_c 1 rfl) rfl))))
        · skip
          have i78 := z_ne 1 1 c73 i72 rfl
          refine g_iload 95 (gd rfl) rfl rfl ?_
          refine g_iload_n 96 (gd rfl) rfl rfl ?_
          refine g_cmp_eq 99 147 (gd rfl) rfl rfl (fun c79 => ?_) (fun c79 => ?_)
          · skip
            have i80 := r_eq2 0 159 c79 i45 h2 rfl
            refine g_iinc 150 (gd rfl) rfl rfl (Nat.le_of_ble_eq_true rfl) (fun z81 e82 => ?_)
            have i83 := in_add 1 160 e82 i45 (in_c 1 rfl) rfl rfl
            refine g_goto 42 (gd rfl) rfl ?_
            exact gg_w (by omega) (gg_f (gf_cons rfl (gf_cons rfl (gf_cons rfl (gf_cons rfl (gf_cons rfl gf_nil))))) (ih42 s z81 hI (in_w 0 160 i83 rfl) (m_up mm42 (t_add e82 i45 (in_c 1 rfl) rfl) (in_w 1 1 (in_c 1 rfl) rfl))))
          · skip
            refine g_iload 101 (gd rfl) rfl rfl ?_
            refine g_iload_n 102 (gd rfl) rfl rfl ?_
            refine g_cmp_eq 105 147 (gd rfl) rfl rfl (fun c84 => ?_) (fun c84 => ?_)
            · skip
              have i85 := r_eq2 0 31 c84 i54 h3 rfl
              refine g_iinc 150 (gd rfl) rfl rfl (Nat.le_of_ble_eq_true rfl) (fun z86 e87 => ?_)
              have i88 := in_add 1 160 e87 i45 (in_c 1 rfl) rfl rfl
              refine g_goto 42 (gd rfl) rfl ?_
              exact gg_w (by omega) (gg_f (gf_cons rfl (gf_cons rfl (gf_cons rfl (gf_cons rfl (gf_cons rfl gf_nil))))) (ih42 s z86 hI (in_w 0 160 i88 rfl) (m_up mm42 (t_add e87 i45 (in_c 1 rfl) rfl) (in_w 1 1 (in_c 1 rfl) rfl))))
            · skip
              refine g_iload 107 (gd rfl) rfl rfl ?_
              refine g_iload_n 108 (gd rfl) rfl rfl ?_
              refine g_cmp_eq 111 147 (gd rfl) rfl rfl (fun c89 => ?_) (fun c89 => ?_)
              · skip
                have i90 := r_eq2 0 31 c89 i63 h3 rfl
                refine g_iinc 150 (gd rfl) rfl rfl (Nat.le_of_ble_eq_true rfl) (fun z91 e92 => ?_)
                have i93 := in_add 1 160 e92 i45 (in_c 1 rfl) rfl rfl
                refine g_goto 42 (gd rfl) rfl ?_
                exact gg_w (by omega) (gg_f (gf_cons rfl (gf_cons rfl (gf_cons rfl (gf_cons rfl (gf_cons rfl gf_nil))))) (ih42 s z91 hI (in_w 0 160 i93 rfl) (m_up mm42 (t_add e92 i45 (in_c 1 rfl) rfl) (in_w 1 1 (in_c 1 rfl) rfl))))
              · skip
                refine g_aload_n 112 (gd rfl) rfl rfl ?_
                refine g_getA (q2 := 129) 115 (gd rfl) rfl rfl rfl rfl rfl ?_
                refine g_iload 117 (gd rfl) rfl rfl ?_
                refine g_dup2 118 (gd rfl) rfl rfl rfl ?_
                refine g_iaload 119 (gd rfl) rfl (n := 32) rfl (in_ix i54 rfl) (fun z94 e95 => ?_)
                refine g_iconst 1 120 (gd rfl) rfl rfl ?_
                refine g_iload 122 (gd rfl) rfl rfl ?_
                refine g_ishl 123 (gd rfl) rfl (fun z96 e97 => ?_)
                refine g_ior 124 (gd rfl) rfl (fun z98 e99 => ?_)
                refine g_iastore 125 (gd rfl) rfl (n := 32) rfl (in_ix i54 rfl) ?_
                have hI100 := inv_sI (q := 129) (j := z52.toNatClampNeg) hI rfl (in_w (-2147483648) 2147483647 (i_rng z98) rfl)
                refine g_aload_n 126 (gd rfl) rfl rfl ?_
                refine g_getA (q2 := 129) 129 (gd rfl) rfl rfl rfl rfl rfl ?_
                refine g_iload 131 (gd rfl) rfl rfl ?_
                refine g_dup2 132 (gd rfl) rfl rfl rfl ?_
                refine g_iaload 133 (gd rfl) rfl (n := 32) rfl (in_ix i63 rfl) (fun z101 e102 => ?_)
                refine g_iload_n 134 (gd rfl) rfl rfl ?_
                refine g_if_eq 137 144 (gd rfl) rfl rfl (fun c103 => ?_) (fun c103 => ?_)
                · skip
                  have i104 := z_eq 0 0 c103 h1 rfl
                  refine g_iconst 0 145 (gd rfl) rfl rfl ?_
                  refine g_ior 146 (gd rfl) rfl (fun z105 e106 => ?_)
                  refine g_iastore 147 (gd rfl) rfl (n := 32) rfl (in_ix i63 rfl) ?_
                  have hI107 := inv_sI (q := 129) (j := z61.toNatClampNeg) hI100 rfl (in_w (-2147483648) 2147483647 (i_rng z105) rfl)
                  refine g_iinc 150 (gd rfl) rfl rfl (Nat.le_of_ble_eq_true rfl) (fun z108 e109 => ?_)
                  have i110 := in_add 1 160 e109 i45 (in_c 1 rfl) rfl rfl
                  refine g_goto 42 (gd rfl) rfl ?_
                  exact gg_w (by omega) (gg_f (gf_cons rfl (gf_cons rfl (gf_cons rfl (gf_cons rfl (gf_cons rfl gf_nil))))) (ih42 (sI (sI s 129 z52.toNatClampNeg z98) 129 z61.toNatClampNeg z105) z108 hI107 (in_w 0 160 i110 rfl) (m_up mm42 (t_add e109 i45 (in_c 1 rfl) rfl) (in_w 1 1 (in_c 1 rfl) rfl))))
                · skip
                  have i111 := z_ne 1 1 c103 h1 rfl
                  refine g_iconst 1 138 (gd rfl) rfl rfl ?_
                  refine g_iload 140 (gd rfl) rfl rfl ?_
                  refine g_ishl 141 (gd rfl) rfl (fun z112 e113 => ?_)
                  refine g_goto 145 (gd rfl) rfl ?_
                  refine g_ior 146 (gd rfl) rfl (fun z114 e115 => ?_)
                  refine g_iastore 147 (gd rfl) rfl (n := 32) rfl (in_ix i63 rfl) ?_
                  have hI116 := inv_sI (q := 129) (j := z61.toNatClampNeg) hI100 rfl (in_w (-2147483648) 2147483647 (i_rng z114) rfl)
                  refine g_iinc 150 (gd rfl) rfl rfl (Nat.le_of_ble_eq_true rfl) (fun z117 e118 => ?_)
                  have i119 := in_add 1 160 e118 i45 (in_c 1 rfl) rfl rfl
                  refine g_goto 42 (gd rfl) rfl ?_
                  exact gg_w (by omega) (gg_f (gf_cons rfl (gf_cons rfl (gf_cons rfl (gf_cons rfl (gf_cons rfl gf_nil))))) (ih42 (sI (sI s 129 z52.toNatClampNeg z98) 129 z61.toNatClampNeg z114) z117 hI116 (in_w 0 160 i119 rfl) (m_up mm42 (t_add e118 i45 (in_c 1 rfl) rfl) (in_w 1 1 (in_c 1 rfl) rfl))))
  have ct3 : ∀ (k3 : Nat) (s : GS) (y3_4 : Int32), Inv s → In y3_4 0 32 → 32 - (y3_4).toInt < (k3 : Int) → GG Z (d - 1) 310 post (gx xp) (1214136 + k3 * 900) 3 (fun j => xlook j [(0, .ref (A 109)), (1, .int x1), (2, .int x2), (3, .int x3), (4, .int y3_4)]) [] (WW Z A s ++ ex) 0 0 := by
    intro k3
    induction k3 with
    | zero => intro s y3_4 hI j3_4 mm3; exact m_no mm3 j3_4 rfl
    | succ k3 ih3 =>
      intro s y3_4 hI j3_4 mm3
      refine gg_w (M := 1214136 + k3 * 900 + 900) (by omega) ?_
      refine g_iload 5 (gd rfl) rfl rfl ?_
      refine g_aload_n 6 (gd rfl) rfl rfl ?_
      refine g_getI 9 (gd rfl) rfl rfl rfl (fun z120 e121 => ?_)
      have i122 := inv_F hI 0 32 rfl e121
      refine g_cmp_ge 12 39 (gd rfl) rfl rfl (fun c123 => ?_) (fun c123 => ?_)
      · skip
        refine g_iconst 0 40 (gd rfl) rfl rfl ?_
        refine g_istore 42 (gd rfl) rfl (Nat.le_of_ble_eq_true rfl) ?_
        exact gg_w (by omega) (gg_f (gf_cons rfl (gf_cons rfl (gf_cons rfl (gf_cons rfl (gf_cons rfl gf_nil))))) (ct42 161 s (Int32.ofInt 0) hI (in_w 0 160 (in_c 0 rfl) rfl) (m_in 161 (in_w 0 160 (in_c 0 rfl) rfl) rfl)))
      · skip
        have i124 := r_lt1 0 31 c123 j3_4 i122 rfl
        have i125 := r_lt2 1 32 c123 j3_4 i122 rfl
        refine g_aload_n 13 (gd rfl) rfl rfl ?_
        refine g_getA (q2 := 129) 16 (gd rfl) rfl rfl rfl rfl rfl ?_
        refine g_iload 18 (gd rfl) rfl rfl ?_
        refine g_iload 20 (gd rfl) rfl rfl ?_
        refine g_iload_n 21 (gd rfl) rfl rfl ?_
        refine g_cmp_ne 24 28 (gd rfl) rfl rfl (fun c126 => ?_) (fun c126 => ?_)
        · skip
          refine g_iconst 1 29 (gd rfl) rfl rfl ?_
          refine g_iload 31 (gd rfl) rfl rfl ?_
          refine g_ishl 32 (gd rfl) rfl (fun z127 e128 => ?_)
          refine g_iastore 33 (gd rfl) rfl (n := 32) rfl (in_ix i124 rfl) ?_
          have hI129 := inv_sI (q := 129) (j := y3_4.toNatClampNeg) hI rfl (in_w (-2147483648) 2147483647 (i_rng z127) rfl)
          refine g_iinc 36 (gd rfl) rfl rfl (Nat.le_of_ble_eq_true rfl) (fun z130 e131 => ?_)
          have i132 := in_add 1 32 e131 i124 (in_c 1 rfl) rfl rfl
          refine g_goto 3 (gd rfl) rfl ?_
          exact gg_w (by omega) (gg_f (gf_cons rfl (gf_cons rfl (gf_cons rfl (gf_cons rfl (gf_cons rfl gf_nil))))) (ih3 (sI s 129 y3_4.toNatClampNeg z127) z130 hI129 (in_w 0 32 i132 rfl) (m_up mm3 (t_add e131 i124 (in_c 1 rfl) rfl) (in_w 1 1 (in_c 1 rfl) rfl))))
        · skip
          have i133 := r_eq2 0 31 c126 i124 h3 rfl
          refine g_iconst 0 25 (gd rfl) rfl rfl ?_
          refine g_goto 32 (gd rfl) rfl ?_
          refine g_iastore 33 (gd rfl) rfl (n := 32) rfl (in_ix i124 rfl) ?_
          have hI134 := inv_sI (q := 129) (j := y3_4.toNatClampNeg) hI rfl (in_w (-2147483648) 2147483647 (in_c 0 rfl) rfl)
          refine g_iinc 36 (gd rfl) rfl rfl (Nat.le_of_ble_eq_true rfl) (fun z135 e136 => ?_)
          have i137 := in_add 1 32 e136 i124 (in_c 1 rfl) rfl rfl
          refine g_goto 3 (gd rfl) rfl ?_
          exact gg_w (by omega) (gg_f (gf_cons rfl (gf_cons rfl (gf_cons rfl (gf_cons rfl (gf_cons rfl gf_nil))))) (ih3 (sI s 129 y3_4.toNatClampNeg (Int32.ofInt 0)) z135 hI134 (in_w 0 32 i137 rfl) (m_up mm3 (t_add e136 i124 (in_c 1 rfl) rfl) (in_w 1 1 (in_c 1 rfl) rfl))))
  refine g_enter2 (k := 310) (N := 1244736) (by omega) rfl (Nat.le_of_ble_eq_true rfl) ?_
  refine g_iconst 0 1 (gd rfl) rfl rfl ?_
  refine g_istore 3 (gd rfl) rfl (Nat.le_of_ble_eq_true rfl) ?_
  exact gg_w (by omega) (gg_f (gf_cons rfl (gf_cons rfl (gf_cons rfl (gf_cons rfl (gf_cons rfl gf_nil))))) (ct3 33 s (Int32.ofInt 0) hI (in_w 0 32 (in_c 0 rfl) rfl) (m_in 33 (in_w 0 32 (in_c 0 rfl) rfl) rfl)))

/-- GraphHouseModel.fewest -/
theorem k_313 {Z : AmZ} {A : Nat → Nat} {s : GS} {ex : va_W} {d : Nat} {X : AmX} {x1 : Int32} {x2 : Int32} (hd : 3 ≤ d) (hI : Inv s) (h1 : In x1 0 31) : GC Z d 313 [.ref (A 109), .int x1, .int x2] (WW Z A s ++ ex) 0 0 (fun v u => ∃ t : GS, Inv t ∧ v = none ∧ u = WW Z A t ++ ex) X := by
  intro post xp hP hX
  have ct36 : ∀ (k36 : Nat) (s : GS) (y36_3 : Int32), Inv s → In y36_3 0 32 → 32 - (y36_3).toInt < (k36 : Int) → GG Z (d - 1) 313 post (gx xp) (1 + k36 * 363601) 36 (fun j => xlook j [(0, .ref (A 109)), (1, .int x1), (2, .int x2), (3, .int y36_3)]) [] (WW Z A s ++ ex) 0 0 := by
    intro k36
    induction k36 with
    | zero => intro s y36_3 hI j36_3 mm36; exact m_no mm36 j36_3 rfl
    | succ k36 ih36 =>
      intro s y36_3 hI j36_3 mm36
      refine gg_w (M := 1 + k36 * 363601 + 363601) (by omega) ?_
      have ct50 : ∀ (k50 : Nat) (s : GS) (y50_4 : Int32), Inv s → In y36_3 0 31 → In y50_4 0 400 → 400 - (y50_4).toInt < (k50 : Int) → GG Z (d - 1) 313 post (gx xp) (1 + k36 * 363601 + 1 + k50 * 900) 50 (fun j => xlook j [(0, .ref (A 109)), (1, .int x1), (2, .int x2), (3, .int y36_3), (4, .int y50_4)]) [] (WW Z A s ++ ex) 0 0 := by
        intro k50
        induction k50 with
        | zero => intro s y50_4 hI j50_3 j50_4 mm50; exact m_no mm50 j50_4 rfl
        | succ k50 ih50 =>
          intro s y50_4 hI j50_3 j50_4 mm50
          refine gg_w (M := 1 + k36 * 363601 + 1 + k50 * 900 + 900) (by omega) ?_
          refine g_iload 52 (gd rfl) rfl rfl ?_
          refine g_aload_n 53 (gd rfl) rfl rfl ?_
          refine g_getI 56 (gd rfl) rfl rfl rfl (fun z1 e2 => ?_)
          have i3 := inv_F hI 0 160 rfl e2
          refine g_sipush 160 59 (gd rfl) rfl rfl ?_
          refine g_iadd 60 (gd rfl) rfl (fun z4 e5 => ?_)
          have i6 := in_add 160 320 e5 i3 (in_c 160 rfl) rfl rfl
          refine g_cmp_ge 63 225 (gd rfl) rfl rfl (fun c7 => ?_) (fun c7 => ?_)
          · skip
            have i8 := r_le2 160 400 c7 i6 j50_4 rfl
            refine g_iinc 228 (gd rfl) rfl rfl (Nat.le_of_ble_eq_true rfl) (fun z9 e10 => ?_)
            have i11 := in_add 1 32 e10 j50_3 (in_c 1 rfl) rfl rfl
            refine g_goto 36 (gd rfl) rfl ?_
            exact gg_w (by omega) (gg_f (gf_cons rfl (gf_cons rfl (gf_cons rfl (gf_cons rfl gf_nil)))) (ih36 s z9 hI (in_w 0 32 i11 rfl) (m_up mm36 (t_add e10 j50_3 (in_c 1 rfl) rfl) (in_w 1 1 (in_c 1 rfl) rfl))))
          · skip
            have i12 := r_lt1 0 319 c7 j50_4 i6 rfl
            refine g_aload_n 64 (gd rfl) rfl rfl ?_
            refine g_getA (q2 := 112) 67 (gd rfl) rfl rfl rfl rfl rfl ?_
            refine g_iload 69 (gd rfl) rfl rfl ?_
            refine g_baload 70 (gd rfl) rfl (n := 480) rfl (in_ix i12 rfl) (fun z13 e14 => ?_)
            have i15 := inv_I hI (n := 480) (t := 3) 0 1 rfl (in_ix i12 rfl) rfl e14
            refine g_if_eq 73 219 (gd rfl) rfl rfl (fun c16 => ?_) (fun c16 => ?_)
            · skip
              have i17 := z_eq 0 0 c16 i15 rfl
              refine g_iinc 222 (gd rfl) rfl rfl (Nat.le_of_ble_eq_true rfl) (fun z18 e19 => ?_)
              have i20 := in_add 1 320 e19 i12 (in_c 1 rfl) rfl rfl
              refine g_goto 50 (gd rfl) rfl ?_
              exact gg_w (by omega) (gg_f (gf_cons rfl (gf_cons rfl (gf_cons rfl (gf_cons rfl (gf_cons rfl gf_nil))))) (ih50 s z18 hI (in_w 0 31 j50_3 rfl) (in_w 0 400 i20 rfl) (m_up mm50 (t_add e19 i12 (in_c 1 rfl) rfl) (in_w 1 1 (in_c 1 rfl) rfl))))
            · skip
              have i21 := z_ne 1 1 c16 i15 rfl
              refine g_iload_n 74 (gd rfl) rfl rfl ?_
              refine g_aload_n 75 (gd rfl) rfl rfl ?_
              refine g_getA (q2 := 113) 78 (gd rfl) rfl rfl rfl rfl rfl ?_
              refine g_iload 80 (gd rfl) rfl rfl ?_
              refine g_iaload 81 (gd rfl) rfl (n := 480) rfl (in_ix i12 rfl) (fun z22 e23 => ?_)
              have i24 := inv_I hI (n := 480) (t := 0) 0 31 rfl (in_ix i12 rfl) rfl e23
              refine g_calls (As := [.int x2, .int z22]) (r := []) 84 (gd rfl) rfl rfl rfl rfl rfl (Nat.le_of_ble_eq_true rfl) (mc := 0) (ms := 0) (Nat.zero_le _) (Nat.zero_le _) (P := fun v u => _) ?_ (fun v u h => h)
              intro po25 xx26 hp27 hx28
              refine g_enter2 (k := 311) (N := 300) (by omega) rfl (Nat.le_of_ble_eq_true rfl) ?_
              refine g_iload_n 1 (gd rfl) rfl rfl ?_
              refine g_iload_n 2 (gd rfl) rfl rfl ?_
              refine g_ishr 3 (gd rfl) rfl (fun z29 e30 => ?_)
              refine g_iconst 1 4 (gd rfl) rfl rfl ?_
              refine g_iand 5 (gd rfl) rfl (fun z31 e32 => ?_)
              have i33 := in_and2 e32 (in_c 1 rfl) rfl
              refine g_iconst 1 6 (gd rfl) rfl rfl ?_
              refine g_cmp_ne 9 13 (gd rfl) rfl rfl (fun c34 => ?_) (fun c34 => ?_)
              · skip
                have i35 := r_ne1 0 0 c34 i33 (in_c 1 rfl) rfl
                refine g_iconst 0 14 (gd rfl) rfl rfl ?_
                refine g_ireturn (gd rfl) rfl (nb01 (in_w 0 1 (in_c 0 rfl) rfl)) (hp27 _ _ ?_)
                show GG _ _ _ _ _ _ _ _ [.int (Int32.ofInt 0)] _ _ _
                refine g_if_eq 87 219 (gd rfl) rfl rfl (fun c36 => ?_) (fun c36 => ?_)
                · skip
                  refine g_iinc 222 (gd rfl) rfl rfl (Nat.le_of_ble_eq_true rfl) (fun z37 e38 => ?_)
                  have i39 := in_add 1 320 e38 i12 (in_c 1 rfl) rfl rfl
                  refine g_goto 50 (gd rfl) rfl ?_
                  exact gg_w (by omega) (gg_f (gf_cons rfl (gf_cons rfl (gf_cons rfl (gf_cons rfl (gf_cons rfl gf_nil))))) (ih50 s z37 hI (in_w 0 31 j50_3 rfl) (in_w 0 400 i39 rfl) (m_up mm50 (t_add e38 i12 (in_c 1 rfl) rfl) (in_w 1 1 (in_c 1 rfl) rfl))))
                · skip
                  exact zn_ne c36 (in_c 0 rfl) rfl
              · skip
                have i40 := r_eq1 1 1 c34 i33 (in_c 1 rfl) rfl
                refine g_iconst 1 10 (gd rfl) rfl rfl ?_
                refine g_goto 14 (gd rfl) rfl ?_
                refine g_ireturn (gd rfl) rfl (nb01 (in_w 0 1 (in_c 1 rfl) rfl)) (hp27 _ _ ?_)
                show GG _ _ _ _ _ _ _ _ [.int (Int32.ofInt 1)] _ _ _
                refine g_if_eq 87 219 (gd rfl) rfl rfl (fun c41 => ?_) (fun c41 => ?_)
                · skip
                  exact zn_eq c41 (in_c 1 rfl) rfl
                · skip
                  refine g_iload_n 88 (gd rfl) rfl rfl ?_
                  refine g_aload_n 89 (gd rfl) rfl rfl ?_
                  refine g_getA (q2 := 114) 92 (gd rfl) rfl rfl rfl rfl rfl ?_
                  refine g_iload 94 (gd rfl) rfl rfl ?_
                  refine g_iaload 95 (gd rfl) rfl (n := 480) rfl (in_ix i12 rfl) (fun z42 e43 => ?_)
                  have i44 := inv_I hI (n := 480) (t := 0) 0 31 rfl (in_ix i12 rfl) rfl e43
                  refine g_calls (As := [.int x2, .int z42]) (r := []) 98 (gd rfl) rfl rfl rfl rfl rfl (Nat.le_of_ble_eq_true rfl) (mc := 0) (ms := 0) (Nat.zero_le _) (Nat.zero_le _) (P := fun v u => _) ?_ (fun v u h => h)
                  intro po45 xx46 hp47 hx48
                  refine g_enter2 (k := 311) (N := 300) (by omega) rfl (Nat.le_of_ble_eq_true rfl) ?_
                  refine g_iload_n 1 (gd rfl) rfl rfl ?_
                  refine g_iload_n 2 (gd rfl) rfl rfl ?_
                  refine g_ishr 3 (gd rfl) rfl (fun z49 e50 => ?_)
                  refine g_iconst 1 4 (gd rfl) rfl rfl ?_
                  refine g_iand 5 (gd rfl) rfl (fun z51 e52 => ?_)
                  have i53 := in_and2 e52 (in_c 1 rfl) rfl
                  refine g_iconst 1 6 (gd rfl) rfl rfl ?_
                  refine g_cmp_ne 9 13 (gd rfl) rfl rfl (fun c54 => ?_) (fun c54 => ?_)
                  · skip
                    have i55 := r_ne1 0 0 c54 i53 (in_c 1 rfl) rfl
                    refine g_iconst 0 14 (gd rfl) rfl rfl ?_
                    refine g_ireturn (gd rfl) rfl (nb01 (in_w 0 1 (in_c 0 rfl) rfl)) (hp47 _ _ ?_)
                    show GG _ _ _ _ _ _ _ _ [.int (Int32.ofInt 0)] _ _ _
                    refine g_if_eq 101 219 (gd rfl) rfl rfl (fun c56 => ?_) (fun c56 => ?_)
                    · skip
                      refine g_iinc 222 (gd rfl) rfl rfl (Nat.le_of_ble_eq_true rfl) (fun z57 e58 => ?_)
                      have i59 := in_add 1 320 e58 i12 (in_c 1 rfl) rfl rfl
                      refine g_goto 50 (gd rfl) rfl ?_
                      exact gg_w (by omega) (gg_f (gf_cons rfl (gf_cons rfl (gf_cons rfl (gf_cons rfl (gf_cons rfl gf_nil))))) (ih50 s z57 hI (in_w 0 31 j50_3 rfl) (in_w 0 400 i59 rfl) (m_up mm50 (t_add e58 i12 (in_c 1 rfl) rfl) (in_w 1 1 (in_c 1 rfl) rfl))))
                    · skip
                      exact zn_ne c56 (in_c 0 rfl) rfl
                  · skip
                    have i60 := r_eq1 1 1 c54 i53 (in_c 1 rfl) rfl
                    refine g_iconst 1 10 (gd rfl) rfl rfl ?_
                    refine g_goto 14 (gd rfl) rfl ?_
                    refine g_ireturn (gd rfl) rfl (nb01 (in_w 0 1 (in_c 1 rfl) rfl)) (hp47 _ _ ?_)
                    show GG _ _ _ _ _ _ _ _ [.int (Int32.ofInt 1)] _ _ _
                    refine g_if_eq 101 219 (gd rfl) rfl rfl (fun c61 => ?_) (fun c61 => ?_)
                    · skip
                      exact zn_eq c61 (in_c 1 rfl) rfl
                    · skip
                      refine g_aload_n 102 (gd rfl) rfl rfl ?_
                      refine g_getA (q2 := 130) 105 (gd rfl) rfl rfl rfl rfl rfl ?_
                      refine g_aload_n 106 (gd rfl) rfl rfl ?_
                      refine g_getA (q2 := 114) 109 (gd rfl) rfl rfl rfl rfl rfl ?_
                      refine g_iload 111 (gd rfl) rfl rfl ?_
                      refine g_iaload 112 (gd rfl) rfl (n := 480) rfl (in_ix i12 rfl) (fun z62 e63 => ?_)
                      have q64 : z42 = z62 := (e43).trans e63.symm
                      subst q64
                      refine g_laload 113 (gd rfl) rfl (n := 32) rfl (in_ix i44 rfl) (fun z65 e66 => ?_)
                      refine g_ldc2_w 9000000000000000 116 (gd rfl) rfl rfl ?_
                      refine g_lcmp 117 (gd rfl) rfl (fun z67 e68 => ?_)
                      have i69 := lc_in e68
                      refine g_if_ge 120 219 (gd rfl) rfl rfl (fun c70 => ?_) (fun c70 => ?_)
                      · skip
                        have i71 := z_ge 0 1 c70 i69 rfl
                        have c72 := lc_ge e68 c70
                        have i73 := lr_le2 9000000000000000 9223372036854775807 c72 (l_c 9000000000000000 rfl) (l_rng z65) rfl
                        refine g_iinc 222 (gd rfl) rfl rfl (Nat.le_of_ble_eq_true rfl) (fun z74 e75 => ?_)
                        have i76 := in_add 1 320 e75 i12 (in_c 1 rfl) rfl rfl
                        refine g_goto 50 (gd rfl) rfl ?_
                        exact gg_w (by omega) (gg_f (gf_cons rfl (gf_cons rfl (gf_cons rfl (gf_cons rfl (gf_cons rfl gf_nil))))) (ih50 s z74 hI (in_w 0 31 j50_3 rfl) (in_w 0 400 i76 rfl) (m_up mm50 (t_add e75 i12 (in_c 1 rfl) rfl) (in_w 1 1 (in_c 1 rfl) rfl))))
                      · skip
                        have i77 := z_lt (-1) (-1) c70 i69 rfl
                        have c78 := lc_lt e68 c70
                        have i79 := lr_lt1 (-9223372036854775808) 8999999999999999 c78 (l_rng z65) (l_c 9000000000000000 rfl) rfl
                        refine g_aload_n 121 (gd rfl) rfl rfl ?_
                        refine g_getA (q2 := 130) 124 (gd rfl) rfl rfl rfl rfl rfl ?_
                        refine g_aload_n 125 (gd rfl) rfl rfl ?_
                        refine g_getA (q2 := 113) 128 (gd rfl) rfl rfl rfl rfl rfl ?_
                        refine g_iload 130 (gd rfl) rfl rfl ?_
                        refine g_iaload 131 (gd rfl) rfl (n := 480) rfl (in_ix i12 rfl) (fun z80 e81 => ?_)
                        have q82 : z22 = z80 := (e23).trans e81.symm
                        subst q82
                        refine g_laload 132 (gd rfl) rfl (n := 32) rfl (in_ix i24 rfl) (fun z83 e84 => ?_)
                        refine g_aload_n 133 (gd rfl) rfl rfl ?_
                        refine g_getA (q2 := 130) 136 (gd rfl) rfl rfl rfl rfl rfl ?_
                        refine g_aload_n 137 (gd rfl) rfl rfl ?_
                        refine g_getA (q2 := 114) 140 (gd rfl) rfl rfl rfl rfl rfl ?_
                        refine g_iload 142 (gd rfl) rfl rfl ?_
                        refine g_iaload 143 (gd rfl) rfl (n := 480) rfl (in_ix i12 rfl) (fun z85 e86 => ?_)
                        have q87 : z42 = z85 := (e43).trans e86.symm
                        subst q87
                        refine g_laload 144 (gd rfl) rfl (n := 32) rfl (in_ix i44 rfl) (fun z88 e89 => ?_)
                        refine g_aload_n 145 (gd rfl) rfl rfl ?_
                        refine g_getA (q2 := 115) 148 (gd rfl) rfl rfl rfl rfl rfl ?_
                        refine g_iload 150 (gd rfl) rfl rfl ?_
                        refine g_iaload 151 (gd rfl) rfl (n := 480) rfl (in_ix i12 rfl) (fun z90 e91 => ?_)
                        have i92 := inv_I hI (n := 480) (t := 0) (-1000000) 1000000 rfl (in_ix i12 rfl) rfl e91
                        refine g_i2l 152 (gd rfl) rfl (fun z93 e94 => ?_)
                        have i95 := l_i e94 i92
                        refine g_ladd 153 (gd rfl) rfl (fun z96 e97 => ?_)
                        refine g_lcmp 154 (gd rfl) rfl (fun z98 e99 => ?_)
                        have i100 := lc_in e99
                        refine g_if_ne 157 219 (gd rfl) rfl rfl (fun c101 => ?_) (fun c101 => ?_)
                        · skip
                          have c102 := lc_ne e99 c101
                          refine g_iinc 222 (gd rfl) rfl rfl (Nat.le_of_ble_eq_true rfl) (fun z103 e104 => ?_)
                          have i105 := in_add 1 320 e104 i12 (in_c 1 rfl) rfl rfl
                          refine g_goto 50 (gd rfl) rfl ?_
                          exact gg_w (by omega) (gg_f (gf_cons rfl (gf_cons rfl (gf_cons rfl (gf_cons rfl (gf_cons rfl gf_nil))))) (ih50 s z103 hI (in_w 0 31 j50_3 rfl) (in_w 0 400 i105 rfl) (m_up mm50 (t_add e104 i12 (in_c 1 rfl) rfl) (in_w 1 1 (in_c 1 rfl) rfl))))
                        · skip
                          have i106 := z_eq 0 0 c101 i100 rfl
                          have c107 := lc_eq e99 c101
                          refine g_aload_n 158 (gd rfl) rfl rfl ?_
                          refine g_getA (q2 := 131) 161 (gd rfl) rfl rfl rfl rfl rfl ?_
                          refine g_aload_n 162 (gd rfl) rfl rfl ?_
                          refine g_getA (q2 := 114) 165 (gd rfl) rfl rfl rfl rfl rfl ?_
                          refine g_iload 167 (gd rfl) rfl rfl ?_
                          refine g_iaload 168 (gd rfl) rfl (n := 480) rfl (in_ix i12 rfl) (fun z108 e109 => ?_)
                          have q110 : z42 = z108 := (e43).trans e109.symm
                          subst q110
                          refine g_iaload 169 (gd rfl) rfl (n := 32) rfl (in_ix i44 rfl) (fun z111 e112 => ?_)
                          refine g_iconst 1 170 (gd rfl) rfl rfl ?_
                          refine g_iadd 171 (gd rfl) rfl (fun z113 e114 => ?_)
                          refine g_istore 173 (gd rfl) rfl (Nat.le_of_ble_eq_true rfl) ?_
                          refine g_aload_n 174 (gd rfl) rfl rfl ?_
                          refine g_getA (q2 := 131) 177 (gd rfl) rfl rfl rfl rfl rfl ?_
                          refine g_aload_n 178 (gd rfl) rfl rfl ?_
                          refine g_getA (q2 := 113) 181 (gd rfl) rfl rfl rfl rfl rfl ?_
                          refine g_iload 183 (gd rfl) rfl rfl ?_
                          refine g_iaload 184 (gd rfl) rfl (n := 480) rfl (in_ix i12 rfl) (fun z115 e116 => ?_)
                          have q117 : z22 = z115 := (e23).trans e116.symm
                          subst q117
                          refine g_iload 186 (gd rfl) rfl rfl ?_
                          refine g_aload_n 187 (gd rfl) rfl rfl ?_
                          refine g_getA (q2 := 131) 190 (gd rfl) rfl rfl rfl rfl rfl ?_
                          refine g_aload_n 191 (gd rfl) rfl rfl ?_
                          refine g_getA (q2 := 113) 194 (gd rfl) rfl rfl rfl rfl rfl ?_
                          refine g_iload 196 (gd rfl) rfl rfl ?_
                          refine g_iaload 197 (gd rfl) rfl (n := 480) rfl (in_ix i12 rfl) (fun z118 e119 => ?_)
                          have q120 : z22 = z118 := (e23).trans e119.symm
                          subst q120
                          refine g_iaload 198 (gd rfl) rfl (n := 32) rfl (in_ix i24 rfl) (fun z121 e122 => ?_)
                          refine g_cmp_ge 201 206 (gd rfl) rfl rfl (fun c123 => ?_) (fun c123 => ?_)
                          · skip
                            refine g_aload_n 207 (gd rfl) rfl rfl ?_
                            refine g_getA (q2 := 131) 210 (gd rfl) rfl rfl rfl rfl rfl ?_
                            refine g_aload_n 211 (gd rfl) rfl rfl ?_
                            refine g_getA (q2 := 113) 214 (gd rfl) rfl rfl rfl rfl rfl ?_
                            refine g_iload 216 (gd rfl) rfl rfl ?_
                            refine g_iaload 217 (gd rfl) rfl (n := 480) rfl (in_ix i12 rfl) (fun z124 e125 => ?_)
                            have q126 : z22 = z124 := (e23).trans e125.symm
                            subst q126
                            refine g_iaload 218 (gd rfl) rfl (n := 32) rfl (in_ix i24 rfl) (fun z127 e128 => ?_)
                            have q129 : z121 = z127 := (e122).trans e128.symm
                            subst q129
                            refine g_iastore 219 (gd rfl) rfl (n := 32) rfl (in_ix i24 rfl) ?_
                            have hI130 := inv_sI (q := 131) (j := z22.toNatClampNeg) hI rfl (in_w (-2147483648) 2147483647 (i_rng z121) rfl)
                            refine g_iinc 222 (gd rfl) rfl rfl (Nat.le_of_ble_eq_true rfl) (fun z131 e132 => ?_)
                            have i133 := in_add 1 320 e132 i12 (in_c 1 rfl) rfl rfl
                            refine g_goto 50 (gd rfl) rfl ?_
                            exact gg_w (by omega) (gg_f (gf_cons rfl (gf_cons rfl (gf_cons rfl (gf_cons rfl (gf_cons rfl gf_nil))))) (ih50 (sI s 131 z22.toNatClampNeg z121) z131 hI130 (in_w 0 31 j50_3 rfl) (in_w 0 400 i133 rfl) (m_up mm50 (t_add e132 i12 (in_c 1 rfl) rfl) (in_w 1 1 (in_c 1 rfl) rfl))))
                          · skip
                            have i134 := r_lt1 (-2147483648) 2147483646 c123 (i_rng z113) (i_rng z121) rfl
                            have i135 := r_lt2 (-2147483647) 2147483647 c123 (i_rng z113) (i_rng z121) rfl
                            refine g_iload 203 (gd rfl) rfl rfl ?_
                            refine g_goto 218 (gd rfl) rfl ?_
                            refine g_iastore 219 (gd rfl) rfl (n := 32) rfl (in_ix i24 rfl) ?_
                            have hI136 := inv_sI (q := 131) (j := z22.toNatClampNeg) hI rfl (in_w (-2147483648) 2147483647 i134 rfl)
                            refine g_iinc 222 (gd rfl) rfl rfl (Nat.le_of_ble_eq_true rfl) (fun z137 e138 => ?_)
                            have i139 := in_add 1 320 e138 i12 (in_c 1 rfl) rfl rfl
                            refine g_goto 50 (gd rfl) rfl ?_
                            exact gg_w (by omega) (gg_f (gf_cons rfl (gf_cons rfl (gf_cons rfl (gf_cons rfl (gf_cons rfl gf_nil))))) (ih50 (sI s 131 z22.toNatClampNeg z113) z137 hI136 (in_w 0 31 j50_3 rfl) (in_w 0 400 i139 rfl) (m_up mm50 (t_add e138 i12 (in_c 1 rfl) rfl) (in_w 1 1 (in_c 1 rfl) rfl))))
      refine g_iload_n 37 (gd rfl) rfl rfl ?_
      refine g_aload_n 38 (gd rfl) rfl rfl ?_
      refine g_getI 41 (gd rfl) rfl rfl rfl (fun z140 e141 => ?_)
      have i142 := inv_F hI 0 32 rfl e141
      refine g_cmp_ge 44 231 (gd rfl) rfl rfl (fun c143 => ?_) (fun c143 => ?_)
      · skip
        exact g_return (gd rfl) rfl (hP _ _ ⟨s, hI, rfl, rfl⟩)
      · skip
        have i144 := r_lt1 0 31 c143 j36_3 i142 rfl
        have i145 := r_lt2 1 32 c143 j36_3 i142 rfl
        refine g_aload_n 45 (gd rfl) rfl rfl ?_
        refine g_getI 48 (gd rfl) rfl rfl rfl (fun z146 e147 => ?_)
        have i148 := inv_F hI 0 160 rfl e147
        refine g_istore 50 (gd rfl) rfl (Nat.le_of_ble_eq_true rfl) ?_
        exact gg_w (by omega) (gg_f (gf_cons rfl (gf_cons rfl (gf_cons rfl (gf_cons rfl (gf_cons rfl gf_nil))))) (ct50 401 s z146 hI (in_w 0 31 i144 rfl) (in_w 0 400 i148 rfl) (m_in 401 (in_w 0 400 i148 rfl) rfl)))
  have ct2 : ∀ (k2 : Nat) (s : GS) (y2_3 : Int32), Inv s → In y2_3 0 32 → 32 - (y2_3).toInt < (k2 : Int) → GG Z (d - 1) 313 post (gx xp) (11998835 + k2 * 900) 2 (fun j => xlook j [(0, .ref (A 109)), (1, .int x1), (2, .int x2), (3, .int y2_3)]) [] (WW Z A s ++ ex) 0 0 := by
    intro k2
    induction k2 with
    | zero => intro s y2_3 hI j2_3 mm2; exact m_no mm2 j2_3 rfl
    | succ k2 ih2 =>
      intro s y2_3 hI j2_3 mm2
      refine gg_w (M := 11998835 + k2 * 900 + 900) (by omega) ?_
      refine g_iload_n 3 (gd rfl) rfl rfl ?_
      refine g_aload_n 4 (gd rfl) rfl rfl ?_
      refine g_getI 7 (gd rfl) rfl rfl rfl (fun z149 e150 => ?_)
      have i151 := inv_F hI 0 32 rfl e150
      refine g_cmp_ge 10 34 (gd rfl) rfl rfl (fun c152 => ?_) (fun c152 => ?_)
      · skip
        refine g_iconst 0 35 (gd rfl) rfl rfl ?_
        refine g_istore_n 36 (gd rfl) rfl (Nat.le_of_ble_eq_true rfl) ?_
        exact gg_w (by omega) (gg_f (gf_cons rfl (gf_cons rfl (gf_cons rfl (gf_cons rfl gf_nil)))) (ct36 33 s (Int32.ofInt 0) hI (in_w 0 32 (in_c 0 rfl) rfl) (m_in 33 (in_w 0 32 (in_c 0 rfl) rfl) rfl)))
      · skip
        have i153 := r_lt1 0 31 c152 j2_3 i151 rfl
        have i154 := r_lt2 1 32 c152 j2_3 i151 rfl
        refine g_aload_n 11 (gd rfl) rfl rfl ?_
        refine g_getA (q2 := 131) 14 (gd rfl) rfl rfl rfl rfl rfl ?_
        refine g_iload_n 15 (gd rfl) rfl rfl ?_
        refine g_iload_n 16 (gd rfl) rfl rfl ?_
        refine g_iload_n 17 (gd rfl) rfl rfl ?_
        refine g_cmp_ne 20 24 (gd rfl) rfl rfl (fun c155 => ?_) (fun c155 => ?_)
        · skip
          refine g_sipush 1000 27 (gd rfl) rfl rfl ?_
          refine g_iastore 28 (gd rfl) rfl (n := 32) rfl (in_ix i153 rfl) ?_
          have hI156 := inv_sI (q := 131) (j := y2_3.toNatClampNeg) hI rfl (in_w (-2147483648) 2147483647 (in_c 1000 rfl) rfl)
          refine g_iinc 31 (gd rfl) rfl rfl (Nat.le_of_ble_eq_true rfl) (fun z157 e158 => ?_)
          have i159 := in_add 1 32 e158 i153 (in_c 1 rfl) rfl rfl
          refine g_goto 2 (gd rfl) rfl ?_
          exact gg_w (by omega) (gg_f (gf_cons rfl (gf_cons rfl (gf_cons rfl (gf_cons rfl gf_nil)))) (ih2 (sI s 131 y2_3.toNatClampNeg (Int32.ofInt 1000)) z157 hI156 (in_w 0 32 i159 rfl) (m_up mm2 (t_add e158 i153 (in_c 1 rfl) rfl) (in_w 1 1 (in_c 1 rfl) rfl))))
        · skip
          refine g_iconst 0 21 (gd rfl) rfl rfl ?_
          refine g_goto 27 (gd rfl) rfl ?_
          refine g_iastore 28 (gd rfl) rfl (n := 32) rfl (in_ix i153 rfl) ?_
          have hI160 := inv_sI (q := 131) (j := y2_3.toNatClampNeg) hI rfl (in_w (-2147483648) 2147483647 (in_c 0 rfl) rfl)
          refine g_iinc 31 (gd rfl) rfl rfl (Nat.le_of_ble_eq_true rfl) (fun z161 e162 => ?_)
          have i163 := in_add 1 32 e162 i153 (in_c 1 rfl) rfl rfl
          refine g_goto 2 (gd rfl) rfl ?_
          exact gg_w (by omega) (gg_f (gf_cons rfl (gf_cons rfl (gf_cons rfl (gf_cons rfl gf_nil)))) (ih2 (sI s 131 y2_3.toNatClampNeg (Int32.ofInt 0)) z161 hI160 (in_w 0 32 i163 rfl) (m_up mm2 (t_add e162 i153 (in_c 1 rfl) rfl) (in_w 1 1 (in_c 1 rfl) rfl))))
  refine g_enter2 (k := 313) (N := 12029435) (by omega) rfl (Nat.le_of_ble_eq_true rfl) ?_
  refine g_iconst 0 1 (gd rfl) rfl rfl ?_
  refine g_istore_n 2 (gd rfl) rfl (Nat.le_of_ble_eq_true rfl) ?_
  exact gg_w (by omega) (gg_f (gf_cons rfl (gf_cons rfl (gf_cons rfl (gf_cons rfl gf_nil)))) (ct2 33 s (Int32.ofInt 0) hI (in_w 0 32 (in_c 0 rfl) rfl) (m_in 33 (in_w 0 32 (in_c 0 rfl) rfl) rfl)))

/-- GraphHouseModel.between -/
theorem k_314 {Z : AmZ} {A : Nat → Nat} {s : GS} {ex : va_W} {d : Nat} {X : AmX} {x1 : Int32} {x2 : Int32} (hd : 3 ≤ d) (hI : Inv s) (h1 : In x1 0 31) (h2 : In x2 0 31) : GC Z d 314 [.ref (A 109), .int x1, .int x2] (WW Z A s ++ ex) 0 0 (fun v u => ∃ t : GS, Inv t ∧ ∃ z : Int32, v = some (.int z) ∧ u = WW Z A t ++ ex ∧ In z (-2147483648) 2147483647) X := by
  intro post xp hP hX
  have ct12 : ∀ (k12 : Nat) (s : GS) (y12_3 : Int32) (y12_4 : Int32), Inv s → In y12_4 0 32 → 32 - (y12_4).toInt < (k12 : Int) → GG Z (d - 1) 314 post (gx xp) (1 + k12 * 900) 12 (fun j => xlook j [(0, .ref (A 109)), (1, .int x1), (2, .int x2), (3, .int y12_3), (4, .int y12_4)]) [] (WW Z A s ++ ex) 0 0 := by
    intro k12
    induction k12 with
    | zero => intro s y12_3 y12_4 hI j12_4 mm12; exact m_no mm12 j12_4 rfl
    | succ k12 ih12 =>
      intro s y12_3 y12_4 hI j12_4 mm12
      refine gg_w (M := 1 + k12 * 900 + 900) (by omega) ?_
      refine g_iload 14 (gd rfl) rfl rfl ?_
      refine g_aload_n 15 (gd rfl) rfl rfl ?_
      refine g_getI 18 (gd rfl) rfl rfl rfl (fun z1 e2 => ?_)
      have i3 := inv_F hI 0 32 rfl e2
      refine g_cmp_ge 21 66 (gd rfl) rfl rfl (fun c4 => ?_) (fun c4 => ?_)
      · skip
        refine g_iload_n 67 (gd rfl) rfl rfl ?_
        exact g_ireturn (gd rfl) rfl rfl (hP _ _ ⟨s, hI, y12_3, rfl, rfl, in_w (-2147483648) 2147483647 (i_rng y12_3) rfl⟩)
      · skip
        have i5 := r_lt1 0 31 c4 j12_4 i3 rfl
        have i6 := r_lt2 1 32 c4 j12_4 i3 rfl
        refine g_iload_n 22 (gd rfl) rfl rfl ?_
        refine g_aload_n 23 (gd rfl) rfl rfl ?_
        refine g_getA (q2 := 129) 26 (gd rfl) rfl rfl rfl rfl rfl ?_
        refine g_iload_n 27 (gd rfl) rfl rfl ?_
        refine g_iaload 28 (gd rfl) rfl (n := 32) rfl (in_ix h1 rfl) (fun z7 e8 => ?_)
        refine g_iload 30 (gd rfl) rfl rfl ?_
        refine g_calls (As := [.int z7, .int y12_4]) (r := [.int y12_3]) 33 (gd rfl) rfl rfl rfl rfl rfl (Nat.le_of_ble_eq_true rfl) (mc := 0) (ms := 0) (Nat.zero_le _) (Nat.zero_le _) (P := fun v u => _) ?_ (fun v u h => h)
        intro po9 xx10 hp11 hx12
        refine g_enter2 (k := 311) (N := 300) (by omega) rfl (Nat.le_of_ble_eq_true rfl) ?_
        refine g_iload_n 1 (gd rfl) rfl rfl ?_
        refine g_iload_n 2 (gd rfl) rfl rfl ?_
        refine g_ishr 3 (gd rfl) rfl (fun z13 e14 => ?_)
        refine g_iconst 1 4 (gd rfl) rfl rfl ?_
        refine g_iand 5 (gd rfl) rfl (fun z15 e16 => ?_)
        have i17 := in_and2 e16 (in_c 1 rfl) rfl
        refine g_iconst 1 6 (gd rfl) rfl rfl ?_
        refine g_cmp_ne 9 13 (gd rfl) rfl rfl (fun c18 => ?_) (fun c18 => ?_)
        · skip
          have i19 := r_ne1 0 0 c18 i17 (in_c 1 rfl) rfl
          refine g_iconst 0 14 (gd rfl) rfl rfl ?_
          refine g_ireturn (gd rfl) rfl (nb01 (in_w 0 1 (in_c 0 rfl) rfl)) (hp11 _ _ ?_)
          show GG _ _ _ _ _ _ _ _ [.int (Int32.ofInt 0), .int y12_3] _ _ _
          refine g_if_eq 36 57 (gd rfl) rfl rfl (fun c20 => ?_) (fun c20 => ?_)
          · skip
            refine g_iconst 0 58 (gd rfl) rfl rfl ?_
            refine g_ior 59 (gd rfl) rfl (fun z21 e22 => ?_)
            refine g_istore_n 60 (gd rfl) rfl (Nat.le_of_ble_eq_true rfl) ?_
            refine g_iinc 63 (gd rfl) rfl rfl (Nat.le_of_ble_eq_true rfl) (fun z23 e24 => ?_)
            have i25 := in_add 1 32 e24 i5 (in_c 1 rfl) rfl rfl
            refine g_goto 12 (gd rfl) rfl ?_
            exact gg_w (by omega) (gg_f (gf_cons rfl (gf_cons rfl (gf_cons rfl (gf_cons rfl (gf_cons rfl gf_nil))))) (ih12 s z21 z23 hI (in_w 0 32 i25 rfl) (m_up mm12 (t_add e24 i5 (in_c 1 rfl) rfl) (in_w 1 1 (in_c 1 rfl) rfl))))
          · skip
            exact zn_ne c20 (in_c 0 rfl) rfl
        · skip
          have i26 := r_eq1 1 1 c18 i17 (in_c 1 rfl) rfl
          refine g_iconst 1 10 (gd rfl) rfl rfl ?_
          refine g_goto 14 (gd rfl) rfl ?_
          refine g_ireturn (gd rfl) rfl (nb01 (in_w 0 1 (in_c 1 rfl) rfl)) (hp11 _ _ ?_)
          show GG _ _ _ _ _ _ _ _ [.int (Int32.ofInt 1), .int y12_3] _ _ _
          refine g_if_eq 36 57 (gd rfl) rfl rfl (fun c27 => ?_) (fun c27 => ?_)
          · skip
            exact zn_eq c27 (in_c 1 rfl) rfl
          · skip
            refine g_aload_n 37 (gd rfl) rfl rfl ?_
            refine g_getA (q2 := 129) 40 (gd rfl) rfl rfl rfl rfl rfl ?_
            refine g_iload 42 (gd rfl) rfl rfl ?_
            refine g_iaload 43 (gd rfl) rfl (n := 32) rfl (in_ix i5 rfl) (fun z28 e29 => ?_)
            refine g_iload_n 44 (gd rfl) rfl rfl ?_
            refine g_calls (As := [.int z28, .int x2]) (r := [.int y12_3]) 47 (gd rfl) rfl rfl rfl rfl rfl (Nat.le_of_ble_eq_true rfl) (mc := 0) (ms := 0) (Nat.zero_le _) (Nat.zero_le _) (P := fun v u => _) ?_ (fun v u h => h)
            intro po30 xx31 hp32 hx33
            refine g_enter2 (k := 311) (N := 300) (by omega) rfl (Nat.le_of_ble_eq_true rfl) ?_
            refine g_iload_n 1 (gd rfl) rfl rfl ?_
            refine g_iload_n 2 (gd rfl) rfl rfl ?_
            refine g_ishr 3 (gd rfl) rfl (fun z34 e35 => ?_)
            refine g_iconst 1 4 (gd rfl) rfl rfl ?_
            refine g_iand 5 (gd rfl) rfl (fun z36 e37 => ?_)
            have i38 := in_and2 e37 (in_c 1 rfl) rfl
            refine g_iconst 1 6 (gd rfl) rfl rfl ?_
            refine g_cmp_ne 9 13 (gd rfl) rfl rfl (fun c39 => ?_) (fun c39 => ?_)
            · skip
              have i40 := r_ne1 0 0 c39 i38 (in_c 1 rfl) rfl
              refine g_iconst 0 14 (gd rfl) rfl rfl ?_
              refine g_ireturn (gd rfl) rfl (nb01 (in_w 0 1 (in_c 0 rfl) rfl)) (hp32 _ _ ?_)
              show GG _ _ _ _ _ _ _ _ [.int (Int32.ofInt 0), .int y12_3] _ _ _
              refine g_if_eq 50 57 (gd rfl) rfl rfl (fun c41 => ?_) (fun c41 => ?_)
              · skip
                refine g_iconst 0 58 (gd rfl) rfl rfl ?_
                refine g_ior 59 (gd rfl) rfl (fun z42 e43 => ?_)
                refine g_istore_n 60 (gd rfl) rfl (Nat.le_of_ble_eq_true rfl) ?_
                refine g_iinc 63 (gd rfl) rfl rfl (Nat.le_of_ble_eq_true rfl) (fun z44 e45 => ?_)
                have i46 := in_add 1 32 e45 i5 (in_c 1 rfl) rfl rfl
                refine g_goto 12 (gd rfl) rfl ?_
                exact gg_w (by omega) (gg_f (gf_cons rfl (gf_cons rfl (gf_cons rfl (gf_cons rfl (gf_cons rfl gf_nil))))) (ih12 s z42 z44 hI (in_w 0 32 i46 rfl) (m_up mm12 (t_add e45 i5 (in_c 1 rfl) rfl) (in_w 1 1 (in_c 1 rfl) rfl))))
              · skip
                exact zn_ne c41 (in_c 0 rfl) rfl
            · skip
              have i47 := r_eq1 1 1 c39 i38 (in_c 1 rfl) rfl
              refine g_iconst 1 10 (gd rfl) rfl rfl ?_
              refine g_goto 14 (gd rfl) rfl ?_
              refine g_ireturn (gd rfl) rfl (nb01 (in_w 0 1 (in_c 1 rfl) rfl)) (hp32 _ _ ?_)
              show GG _ _ _ _ _ _ _ _ [.int (Int32.ofInt 1), .int y12_3] _ _ _
              refine g_if_eq 50 57 (gd rfl) rfl rfl (fun c48 => ?_) (fun c48 => ?_)
              · skip
                exact zn_eq c48 (in_c 1 rfl) rfl
              · skip
                refine g_iconst 1 51 (gd rfl) rfl rfl ?_
                refine g_iload 53 (gd rfl) rfl rfl ?_
                refine g_ishl 54 (gd rfl) rfl (fun z49 e50 => ?_)
                refine g_goto 58 (gd rfl) rfl ?_
                refine g_ior 59 (gd rfl) rfl (fun z51 e52 => ?_)
                refine g_istore_n 60 (gd rfl) rfl (Nat.le_of_ble_eq_true rfl) ?_
                refine g_iinc 63 (gd rfl) rfl rfl (Nat.le_of_ble_eq_true rfl) (fun z53 e54 => ?_)
                have i55 := in_add 1 32 e54 i5 (in_c 1 rfl) rfl rfl
                refine g_goto 12 (gd rfl) rfl ?_
                exact gg_w (by omega) (gg_f (gf_cons rfl (gf_cons rfl (gf_cons rfl (gf_cons rfl (gf_cons rfl gf_nil))))) (ih12 s z51 z53 hI (in_w 0 32 i55 rfl) (m_up mm12 (t_add e54 i5 (in_c 1 rfl) rfl) (in_w 1 1 (in_c 1 rfl) rfl))))
  refine g_enter2 (k := 314) (N := 30601) (by omega) rfl (Nat.le_of_ble_eq_true rfl) ?_
  refine g_aload_n 1 (gd rfl) rfl rfl ?_
  refine g_iconst 0 2 (gd rfl) rfl rfl ?_
  refine g_iconst (-1) 3 (gd rfl) rfl rfl ?_
  refine g_iconst (-1) 4 (gd rfl) rfl rfl ?_
  refine g_callv (X := _) (As := [.int (Int32.ofInt 0), .int (Int32.ofInt (-1)), .int (Int32.ofInt (-1))]) (r := []) (b := A 109) (q := 109) 7 (gd rfl) rfl rfl rfl rfl rfl (ww_o rfl) (Nat.le_of_ble_eq_true rfl) (Nat.zero_le _) (Nat.zero_le _) (k_310 (by omega) hI (in_w 0 1 (in_c 0 rfl) rfl) (in_w (-1) 159 (in_c (-1) rfl) rfl) (in_w (-1) 31 (in_c (-1) rfl) rfl)) (fun e u h => h) (fun v u h => ?_)
  obtain ⟨s56, hI57, rfl, rfl⟩ := h
  show GG _ _ _ _ _ _ _ _ [] _ _ _
  refine g_iconst 0 8 (gd rfl) rfl rfl ?_
  refine g_istore_n 9 (gd rfl) rfl (Nat.le_of_ble_eq_true rfl) ?_
  refine g_iconst 0 10 (gd rfl) rfl rfl ?_
  refine g_istore 12 (gd rfl) rfl (Nat.le_of_ble_eq_true rfl) ?_
  exact gg_w (by omega) (gg_f (gf_cons rfl (gf_cons rfl (gf_cons rfl (gf_cons rfl (gf_cons rfl gf_nil))))) (ct12 33 s56 (Int32.ofInt 0) (Int32.ofInt 0) hI57 (in_w 0 32 (in_c 0 rfl) rfl) (m_in 33 (in_w 0 32 (in_c 0 rfl) rfl) rfl)))
