/-! methods, by vc.py -/
/-- GraphHouseModel.width -/
theorem k_317 {Z : AmZ} {A : Nat → Nat} {s : GS} {ex : va_W} {d : Nat} {X : AmX} {x1 : Int32} {x2 : Int32} (hd : 4 ≤ d) (hI : Inv s)  : GC Z d 317 [.ref (A 109), .int x1, .int x2] (WW Z A s ++ ex) 0 0 (fun v u => ∃ t : GS, Inv t ∧ ∃ z : Int32, v = some (.int z) ∧ u = WW Z A t ++ ex ∧ In z (-2147483648) 2147483647) X := by
  intro post xp hP hX
  have ct66 : ∀ (k66 : Nat) (s : GS) (y66_3 : Int32), Inv s → In x1 0 31 → In x2 0 31 → In y66_3 0 32 → 32 - (y66_3).toInt < (k66 : Int) → GG Z (d - 1) 317 post (gx xp) (1 + k66 * 725803) 66 (fun j => xlook j [(0, .ref (A 109)), (1, .int x1), (2, .int x2), (3, .int y66_3)]) [] (WW Z A s ++ ex) 0 0 := by
    intro k66
    induction k66 with
    | zero => intro s y66_3 hI j66_1 j66_2 j66_3 mm66; exact m_no mm66 j66_3 rfl
    | succ k66 ih66 =>
      intro s y66_3 hI j66_1 j66_2 j66_3 mm66
      refine gg_w (M := 1 + k66 * 725803 + 725803) (by omega) ?_
      have ct80 : ∀ (k80 : Nat) (s : GS) (y80_4 : Int32), Inv s → In y66_3 0 31 → In y80_4 0 400 → 400 - (y80_4).toInt < (k80 : Int) → GG Z (d - 1) 317 post (gx xp) (1 + k66 * 725803 + 1 + k80 * 1801) 80 (fun j => xlook j [(0, .ref (A 109)), (1, .int x1), (2, .int x2), (3, .int y66_3), (4, .int y80_4)]) [] (WW Z A s ++ ex) 0 0 := by
        intro k80
        induction k80 with
        | zero => intro s y80_4 hI j80_3 j80_4 mm80; exact m_no mm80 j80_4 rfl
        | succ k80 ih80 =>
          intro s y80_4 hI j80_3 j80_4 mm80
          refine gg_w (M := 1 + k66 * 725803 + 1 + k80 * 1801 + 1801) (by omega) ?_
          have ct210 : ∀ (s : GS) , Inv s → In y80_4 0 319 → GG Z (d - 1) 317 post (gx xp) (1 + k66 * 725803 + 1 + k80 * 1801 + 901) 210 (fun j => xlook j [(0, .ref (A 109)), (1, .int x1), (2, .int x2), (3, .int y66_3), (4, .int y80_4)]) [] (WW Z A s ++ ex) 0 0 := by
            intro s  hI j210_4
            refine g_iinc 213 (gd rfl) rfl rfl (Nat.le_of_ble_eq_true rfl) (fun z1 e2 => ?_)
            have i3 := in_add 1 320 e2 j210_4 (in_c 1 rfl) rfl rfl
            refine g_goto 80 (gd rfl) rfl ?_
            exact gg_w (by omega) (gg_f (gf_cons rfl (gf_cons rfl (gf_cons rfl (gf_cons rfl (gf_cons rfl gf_nil))))) (ih80 s z1 hI (in_w 0 31 j80_3 rfl) (in_w 0 400 i3 rfl) (m_up mm80 (t_add e2 j210_4 (in_c 1 rfl) rfl) (in_w 1 1 (in_c 1 rfl) rfl))))
          refine g_iload 82 (gd rfl) rfl rfl ?_
          refine g_aload_n 83 (gd rfl) rfl rfl ?_
          refine g_getI 86 (gd rfl) rfl rfl rfl (fun z4 e5 => ?_)
          have i6 := inv_F hI 0 160 rfl e5
          refine g_sipush 160 89 (gd rfl) rfl rfl ?_
          refine g_iadd 90 (gd rfl) rfl (fun z7 e8 => ?_)
          have i9 := in_add 160 320 e8 i6 (in_c 160 rfl) rfl rfl
          refine g_cmp_ge 93 216 (gd rfl) rfl rfl (fun c10 => ?_) (fun c10 => ?_)
          · skip
            have i11 := r_le2 160 400 c10 i9 j80_4 rfl
            refine g_iinc 219 (gd rfl) rfl rfl (Nat.le_of_ble_eq_true rfl) (fun z12 e13 => ?_)
            have i14 := in_add 1 32 e13 j80_3 (in_c 1 rfl) rfl rfl
            refine g_goto 66 (gd rfl) rfl ?_
            exact gg_w (by omega) (gg_f (gf_cons rfl (gf_cons rfl (gf_cons rfl (gf_cons rfl gf_nil)))) (ih66 s z12 hI (in_w 0 31 j66_1 rfl) (in_w 0 31 j66_2 rfl) (in_w 0 32 i14 rfl) (m_up mm66 (t_add e13 j80_3 (in_c 1 rfl) rfl) (in_w 1 1 (in_c 1 rfl) rfl))))
          · skip
            have i15 := r_lt1 0 319 c10 j80_4 i9 rfl
            refine g_aload_n 94 (gd rfl) rfl rfl ?_
            refine g_getA (q2 := 112) 97 (gd rfl) rfl rfl rfl rfl rfl ?_
            refine g_iload 99 (gd rfl) rfl rfl ?_
            refine g_baload 100 (gd rfl) rfl (n := 480) rfl (in_ix i15 rfl) (fun z16 e17 => ?_)
            have i18 := inv_I hI (n := 480) (t := 3) 0 1 rfl (in_ix i15 rfl) rfl e17
            refine g_if_eq 103 210 (gd rfl) rfl rfl (fun c19 => ?_) (fun c19 => ?_)
            · skip
              have i20 := z_eq 0 0 c19 i18 rfl
              exact gg_w (by omega) (gg_f (gf_cons rfl (gf_cons rfl (gf_cons rfl (gf_cons rfl (gf_cons rfl gf_nil))))) (ct210 s  hI (in_w 0 319 i15 rfl)))
            · skip
              have i21 := z_ne 1 1 c19 i18 rfl
              refine g_aload_n 104 (gd rfl) rfl rfl ?_
              refine g_getA (q2 := 133) 107 (gd rfl) rfl rfl rfl rfl rfl ?_
              refine g_aload_n 108 (gd rfl) rfl rfl ?_
              refine g_getA (q2 := 113) 111 (gd rfl) rfl rfl rfl rfl rfl ?_
              refine g_iload 113 (gd rfl) rfl rfl ?_
              refine g_iaload 114 (gd rfl) rfl (n := 480) rfl (in_ix i15 rfl) (fun z22 e23 => ?_)
              have i24 := inv_I hI (n := 480) (t := 0) 0 31 rfl (in_ix i15 rfl) rfl e23
              refine g_iaload 115 (gd rfl) rfl (n := 32) rfl (in_ix i24 rfl) (fun z25 e26 => ?_)
              refine g_if_lt 118 210 (gd rfl) rfl rfl (fun c27 => ?_) (fun c27 => ?_)
              · skip
                have i28 := z_lt (-2147483648) (-1) c27 (i_rng z25) rfl
                exact gg_w (by omega) (gg_f (gf_cons rfl (gf_cons rfl (gf_cons rfl (gf_cons rfl (gf_cons rfl gf_nil))))) (ct210 s  hI (in_w 0 319 i15 rfl)))
              · skip
                have i29 := z_ge 0 2147483647 c27 (i_rng z25) rfl
                refine g_aload_n 119 (gd rfl) rfl rfl ?_
                refine g_getA (q2 := 116) 122 (gd rfl) rfl rfl rfl rfl rfl ?_
                refine g_iload 124 (gd rfl) rfl rfl ?_
                refine g_iaload 125 (gd rfl) rfl (n := 480) rfl (in_ix i15 rfl) (fun z30 e31 => ?_)
                have i32 := inv_I hI (n := 480) (t := 0) 0 1000000 rfl (in_ix i15 rfl) rfl e31
                refine g_aload_n 126 (gd rfl) rfl rfl ?_
                refine g_getA (q2 := 133) 129 (gd rfl) rfl rfl rfl rfl rfl ?_
                refine g_aload_n 130 (gd rfl) rfl rfl ?_
                refine g_getA (q2 := 113) 133 (gd rfl) rfl rfl rfl rfl rfl ?_
                refine g_iload 135 (gd rfl) rfl rfl ?_
                refine g_iaload 136 (gd rfl) rfl (n := 480) rfl (in_ix i15 rfl) (fun z33 e34 => ?_)
                have q35 : z22 = z33 := (e23).trans e34.symm
                subst q35
                refine g_iaload 137 (gd rfl) rfl (n := 32) rfl (in_ix i24 rfl) (fun z36 e37 => ?_)
                have q38 : z25 = z36 := (e26).trans e37.symm
                subst q38
                refine g_cmp_ge 140 150 (gd rfl) rfl rfl (fun c39 => ?_) (fun c39 => ?_)
                · skip
                  have i40 := r_le1 0 1000000 c39 i29 i32 rfl
                  refine g_aload_n 151 (gd rfl) rfl rfl ?_
                  refine g_getA (q2 := 133) 154 (gd rfl) rfl rfl rfl rfl rfl ?_
                  refine g_aload_n 155 (gd rfl) rfl rfl ?_
                  refine g_getA (q2 := 113) 158 (gd rfl) rfl rfl rfl rfl rfl ?_
                  refine g_iload 160 (gd rfl) rfl rfl ?_
                  refine g_iaload 161 (gd rfl) rfl (n := 480) rfl (in_ix i15 rfl) (fun z41 e42 => ?_)
                  have q43 : z22 = z41 := (e23).trans e42.symm
                  subst q43
                  refine g_iaload 162 (gd rfl) rfl (n := 32) rfl (in_ix i24 rfl) (fun z44 e45 => ?_)
                  have q46 : z25 = z44 := (e26).trans e45.symm
                  subst q46
                  refine g_istore 164 (gd rfl) rfl (Nat.le_of_ble_eq_true rfl) ?_
                  refine g_aload_n 165 (gd rfl) rfl rfl ?_
                  refine g_getA (q2 := 133) 168 (gd rfl) rfl rfl rfl rfl rfl ?_
                  refine g_aload_n 169 (gd rfl) rfl rfl ?_
                  refine g_getA (q2 := 114) 172 (gd rfl) rfl rfl rfl rfl rfl ?_
                  refine g_iload 174 (gd rfl) rfl rfl ?_
                  refine g_iaload 175 (gd rfl) rfl (n := 480) rfl (in_ix i15 rfl) (fun z47 e48 => ?_)
                  have i49 := inv_I hI (n := 480) (t := 0) 0 31 rfl (in_ix i15 rfl) rfl e48
                  refine g_iload 177 (gd rfl) rfl rfl ?_
                  refine g_aload_n 178 (gd rfl) rfl rfl ?_
                  refine g_getA (q2 := 133) 181 (gd rfl) rfl rfl rfl rfl rfl ?_
                  refine g_aload_n 182 (gd rfl) rfl rfl ?_
                  refine g_getA (q2 := 114) 185 (gd rfl) rfl rfl rfl rfl rfl ?_
                  refine g_iload 187 (gd rfl) rfl rfl ?_
                  refine g_iaload 188 (gd rfl) rfl (n := 480) rfl (in_ix i15 rfl) (fun z50 e51 => ?_)
                  have q52 : z47 = z50 := (e48).trans e51.symm
                  subst q52
                  refine g_iaload 189 (gd rfl) rfl (n := 32) rfl (in_ix i49 rfl) (fun z53 e54 => ?_)
                  refine g_cmp_le 192 197 (gd rfl) rfl rfl (fun c55 => ?_) (fun c55 => ?_)
                  · skip
                    have i56 := r_le2 0 2147483647 c55 i40 (i_rng z53) rfl
                    refine g_aload_n 198 (gd rfl) rfl rfl ?_
                    refine g_getA (q2 := 133) 201 (gd rfl) rfl rfl rfl rfl rfl ?_
                    refine g_aload_n 202 (gd rfl) rfl rfl ?_
                    refine g_getA (q2 := 114) 205 (gd rfl) rfl rfl rfl rfl rfl ?_
                    refine g_iload 207 (gd rfl) rfl rfl ?_
                    refine g_iaload 208 (gd rfl) rfl (n := 480) rfl (in_ix i15 rfl) (fun z57 e58 => ?_)
                    have q59 : z47 = z57 := (e48).trans e58.symm
                    subst q59
                    refine g_iaload 209 (gd rfl) rfl (n := 32) rfl (in_ix i49 rfl) (fun z60 e61 => ?_)
                    have q62 : z53 = z60 := (e54).trans e61.symm
                    subst q62
                    refine g_iastore 210 (gd rfl) rfl (n := 32) rfl (in_ix i49 rfl) ?_
                    have hI63 := inv_sI (q := 133) (j := z47.toNatClampNeg) hI rfl (in_w (-2147483648) 2147483647 i56 rfl)
                    exact gg_w (by omega) (gg_f (gf_cons rfl (gf_cons rfl (gf_cons rfl (gf_cons rfl (gf_cons rfl gf_nil))))) (ct210 (sI s 133 z47.toNatClampNeg z53)  hI63 (in_w 0 319 i15 rfl)))
                  · skip
                    have i64 := r_lt1 (-2147483648) 999999 c55 (i_rng z53) i40 rfl
                    refine g_iload 194 (gd rfl) rfl rfl ?_
                    refine g_goto 209 (gd rfl) rfl ?_
                    refine g_iastore 210 (gd rfl) rfl (n := 32) rfl (in_ix i49 rfl) ?_
                    have hI65 := inv_sI (q := 133) (j := z47.toNatClampNeg) hI rfl (in_w (-2147483648) 2147483647 i40 rfl)
                    exact gg_w (by omega) (gg_f (gf_cons rfl (gf_cons rfl (gf_cons rfl (gf_cons rfl (gf_cons rfl gf_nil))))) (ct210 (sI s 133 z47.toNatClampNeg z25)  hI65 (in_w 0 319 i15 rfl)))
                · skip
                  have i66 := r_lt2 1 2147483647 c39 i32 i29 rfl
                  refine g_aload_n 141 (gd rfl) rfl rfl ?_
                  refine g_getA (q2 := 116) 144 (gd rfl) rfl rfl rfl rfl rfl ?_
                  refine g_iload 146 (gd rfl) rfl rfl ?_
                  refine g_iaload 147 (gd rfl) rfl (n := 480) rfl (in_ix i15 rfl) (fun z67 e68 => ?_)
                  have q69 : z30 = z67 := (e31).trans e68.symm
                  subst q69
                  refine g_goto 162 (gd rfl) rfl ?_
                  refine g_istore 164 (gd rfl) rfl (Nat.le_of_ble_eq_true rfl) ?_
                  refine g_aload_n 165 (gd rfl) rfl rfl ?_
                  refine g_getA (q2 := 133) 168 (gd rfl) rfl rfl rfl rfl rfl ?_
                  refine g_aload_n 169 (gd rfl) rfl rfl ?_
                  refine g_getA (q2 := 114) 172 (gd rfl) rfl rfl rfl rfl rfl ?_
                  refine g_iload 174 (gd rfl) rfl rfl ?_
                  refine g_iaload 175 (gd rfl) rfl (n := 480) rfl (in_ix i15 rfl) (fun z70 e71 => ?_)
                  have i72 := inv_I hI (n := 480) (t := 0) 0 31 rfl (in_ix i15 rfl) rfl e71
                  refine g_iload 177 (gd rfl) rfl rfl ?_
                  refine g_aload_n 178 (gd rfl) rfl rfl ?_
                  refine g_getA (q2 := 133) 181 (gd rfl) rfl rfl rfl rfl rfl ?_
                  refine g_aload_n 182 (gd rfl) rfl rfl ?_
                  refine g_getA (q2 := 114) 185 (gd rfl) rfl rfl rfl rfl rfl ?_
                  refine g_iload 187 (gd rfl) rfl rfl ?_
                  refine g_iaload 188 (gd rfl) rfl (n := 480) rfl (in_ix i15 rfl) (fun z73 e74 => ?_)
                  have q75 : z70 = z73 := (e71).trans e74.symm
                  subst q75
                  refine g_iaload 189 (gd rfl) rfl (n := 32) rfl (in_ix i72 rfl) (fun z76 e77 => ?_)
                  refine g_cmp_le 192 197 (gd rfl) rfl rfl (fun c78 => ?_) (fun c78 => ?_)
                  · skip
                    have i79 := r_le2 0 2147483647 c78 i32 (i_rng z76) rfl
                    refine g_aload_n 198 (gd rfl) rfl rfl ?_
                    refine g_getA (q2 := 133) 201 (gd rfl) rfl rfl rfl rfl rfl ?_
                    refine g_aload_n 202 (gd rfl) rfl rfl ?_
                    refine g_getA (q2 := 114) 205 (gd rfl) rfl rfl rfl rfl rfl ?_
                    refine g_iload 207 (gd rfl) rfl rfl ?_
                    refine g_iaload 208 (gd rfl) rfl (n := 480) rfl (in_ix i15 rfl) (fun z80 e81 => ?_)
                    have q82 : z70 = z80 := (e71).trans e81.symm
                    subst q82
                    refine g_iaload 209 (gd rfl) rfl (n := 32) rfl (in_ix i72 rfl) (fun z83 e84 => ?_)
                    have q85 : z76 = z83 := (e77).trans e84.symm
                    subst q85
                    refine g_iastore 210 (gd rfl) rfl (n := 32) rfl (in_ix i72 rfl) ?_
                    have hI86 := inv_sI (q := 133) (j := z70.toNatClampNeg) hI rfl (in_w (-2147483648) 2147483647 i79 rfl)
                    exact gg_w (by omega) (gg_f (gf_cons rfl (gf_cons rfl (gf_cons rfl (gf_cons rfl (gf_cons rfl gf_nil))))) (ct210 (sI s 133 z70.toNatClampNeg z76)  hI86 (in_w 0 319 i15 rfl)))
                  · skip
                    have i87 := r_lt1 (-2147483648) 999999 c78 (i_rng z76) i32 rfl
                    refine g_iload 194 (gd rfl) rfl rfl ?_
                    refine g_goto 209 (gd rfl) rfl ?_
                    refine g_iastore 210 (gd rfl) rfl (n := 32) rfl (in_ix i72 rfl) ?_
                    have hI88 := inv_sI (q := 133) (j := z70.toNatClampNeg) hI rfl (in_w (-2147483648) 2147483647 i32 rfl)
                    exact gg_w (by omega) (gg_f (gf_cons rfl (gf_cons rfl (gf_cons rfl (gf_cons rfl (gf_cons rfl gf_nil))))) (ct210 (sI s 133 z70.toNatClampNeg z30)  hI88 (in_w 0 319 i15 rfl)))
      refine g_iload_n 67 (gd rfl) rfl rfl ?_
      refine g_aload_n 68 (gd rfl) rfl rfl ?_
      refine g_getI 71 (gd rfl) rfl rfl rfl (fun z89 e90 => ?_)
      have i91 := inv_F hI 0 32 rfl e90
      refine g_cmp_ge 74 222 (gd rfl) rfl rfl (fun c92 => ?_) (fun c92 => ?_)
      · skip
        refine g_aload_n 223 (gd rfl) rfl rfl ?_
        refine g_getA (q2 := 133) 226 (gd rfl) rfl rfl rfl rfl rfl ?_
        refine g_iload_n 227 (gd rfl) rfl rfl ?_
        refine g_iaload 228 (gd rfl) rfl (n := 32) rfl (in_ix j66_2 rfl) (fun z93 e94 => ?_)
        exact g_ireturn (gd rfl) rfl rfl (hP _ _ ⟨s, hI, z93, rfl, rfl, in_w (-2147483648) 2147483647 (i_rng z93) rfl⟩)
      · skip
        have i95 := r_lt1 0 31 c92 j66_3 i91 rfl
        have i96 := r_lt2 1 32 c92 j66_3 i91 rfl
        refine g_aload_n 75 (gd rfl) rfl rfl ?_
        refine g_getI 78 (gd rfl) rfl rfl rfl (fun z97 e98 => ?_)
        have i99 := inv_F hI 0 160 rfl e98
        refine g_istore 80 (gd rfl) rfl (Nat.le_of_ble_eq_true rfl) ?_
        exact gg_w (by omega) (gg_f (gf_cons rfl (gf_cons rfl (gf_cons rfl (gf_cons rfl (gf_cons rfl gf_nil))))) (ct80 401 s z97 hI (in_w 0 31 i95 rfl) (in_w 0 400 i99 rfl) (m_in 401 (in_w 0 400 i99 rfl) rfl)))
  have ct32 : ∀ (k32 : Nat) (s : GS) (y32_3 : Int32), Inv s → In x1 0 31 → In x2 0 31 → In y32_3 0 32 → 32 - (y32_3).toInt < (k32 : Int) → GG Z (d - 1) 317 post (gx xp) (23951501 + k32 * 900) 32 (fun j => xlook j [(0, .ref (A 109)), (1, .int x1), (2, .int x2), (3, .int y32_3)]) [] (WW Z A s ++ ex) 0 0 := by
    intro k32
    induction k32 with
    | zero => intro s y32_3 hI j32_1 j32_2 j32_3 mm32; exact m_no mm32 j32_3 rfl
    | succ k32 ih32 =>
      intro s y32_3 hI j32_1 j32_2 j32_3 mm32
      refine gg_w (M := 23951501 + k32 * 900 + 900) (by omega) ?_
      refine g_iload_n 33 (gd rfl) rfl rfl ?_
      refine g_aload_n 34 (gd rfl) rfl rfl ?_
      refine g_getI 37 (gd rfl) rfl rfl rfl (fun z100 e101 => ?_)
      have i102 := inv_F hI 0 32 rfl e101
      refine g_cmp_ge 40 64 (gd rfl) rfl rfl (fun c103 => ?_) (fun c103 => ?_)
      · skip
        refine g_iconst 0 65 (gd rfl) rfl rfl ?_
        refine g_istore_n 66 (gd rfl) rfl (Nat.le_of_ble_eq_true rfl) ?_
        exact gg_w (by omega) (gg_f (gf_cons rfl (gf_cons rfl (gf_cons rfl (gf_cons rfl gf_nil)))) (ct66 33 s (Int32.ofInt 0) hI (in_w 0 31 j32_1 rfl) (in_w 0 31 j32_2 rfl) (in_w 0 32 (in_c 0 rfl) rfl) (m_in 33 (in_w 0 32 (in_c 0 rfl) rfl) rfl)))
      · skip
        have i104 := r_lt1 0 31 c103 j32_3 i102 rfl
        have i105 := r_lt2 1 32 c103 j32_3 i102 rfl
        refine g_aload_n 41 (gd rfl) rfl rfl ?_
        refine g_getA (q2 := 133) 44 (gd rfl) rfl rfl rfl rfl rfl ?_
        refine g_iload_n 45 (gd rfl) rfl rfl ?_
        refine g_iload_n 46 (gd rfl) rfl rfl ?_
        refine g_iload_n 47 (gd rfl) rfl rfl ?_
        refine g_cmp_ne 50 56 (gd rfl) rfl rfl (fun c106 => ?_) (fun c106 => ?_)
        · skip
          refine g_iconst (-1) 57 (gd rfl) rfl rfl ?_
          refine g_iastore 58 (gd rfl) rfl (n := 32) rfl (in_ix i104 rfl) ?_
          have hI107 := inv_sI (q := 133) (j := y32_3.toNatClampNeg) hI rfl (in_w (-2147483648) 2147483647 (in_c (-1) rfl) rfl)
          refine g_iinc 61 (gd rfl) rfl rfl (Nat.le_of_ble_eq_true rfl) (fun z108 e109 => ?_)
          have i110 := in_add 1 32 e109 i104 (in_c 1 rfl) rfl rfl
          refine g_goto 32 (gd rfl) rfl ?_
          exact gg_w (by omega) (gg_f (gf_cons rfl (gf_cons rfl (gf_cons rfl (gf_cons rfl gf_nil)))) (ih32 (sI s 133 y32_3.toNatClampNeg (Int32.ofInt (-1))) z108 hI107 (in_w 0 31 j32_1 rfl) (in_w 0 31 j32_2 rfl) (in_w 0 32 i110 rfl) (m_up mm32 (t_add e109 i104 (in_c 1 rfl) rfl) (in_w 1 1 (in_c 1 rfl) rfl))))
        · skip
          refine g_ldc_w 1000001 53 (gd rfl) rfl rfl ?_
          refine g_goto 57 (gd rfl) rfl ?_
          refine g_iastore 58 (gd rfl) rfl (n := 32) rfl (in_ix i104 rfl) ?_
          have hI111 := inv_sI (q := 133) (j := y32_3.toNatClampNeg) hI rfl (in_w (-2147483648) 2147483647 (in_c 1000001 rfl) rfl)
          refine g_iinc 61 (gd rfl) rfl rfl (Nat.le_of_ble_eq_true rfl) (fun z112 e113 => ?_)
          have i114 := in_add 1 32 e113 i104 (in_c 1 rfl) rfl rfl
          refine g_goto 32 (gd rfl) rfl ?_
          exact gg_w (by omega) (gg_f (gf_cons rfl (gf_cons rfl (gf_cons rfl (gf_cons rfl gf_nil)))) (ih32 (sI s 133 y32_3.toNatClampNeg (Int32.ofInt 1000001)) z112 hI111 (in_w 0 31 j32_1 rfl) (in_w 0 31 j32_2 rfl) (in_w 0 32 i114 rfl) (m_up mm32 (t_add e113 i104 (in_c 1 rfl) rfl) (in_w 1 1 (in_c 1 rfl) rfl))))
  refine g_enter2 (k := 317) (N := 23982101) (by omega) rfl (Nat.le_of_ble_eq_true rfl) ?_
  refine g_aload_n 1 (gd rfl) rfl rfl ?_
  refine g_aload_n 2 (gd rfl) rfl rfl ?_
  refine g_iload_n 3 (gd rfl) rfl rfl ?_
  refine g_callv (X := _) (As := [.int x1]) (r := [.ref (A 109)]) (b := A 109) (q := 109) 6 (gd rfl) rfl rfl rfl rfl rfl (ww_o rfl) (Nat.le_of_ble_eq_true rfl) (mc := 0) (ms := 0) (Nat.zero_le _) (Nat.zero_le _) (P := fun v u => _) ?_ (fun e u h => h) (fun v u h => h)
  intro po115 xx116 hp117 hx118
  refine g_enter2 (k := 272) (N := 300) (by omega) rfl (Nat.le_of_ble_eq_true rfl) ?_
  refine g_iload_n 1 (gd rfl) rfl rfl ?_
  refine g_if_lt 4 16 (gd rfl) rfl rfl (fun c119 => ?_) (fun c119 => ?_)
  · skip
    have i120 := z_lt (-2147483648) (-1) c119 (i_rng x1) rfl
    refine g_iconst 0 17 (gd rfl) rfl rfl ?_
    refine g_ireturn (gd rfl) rfl (nb01 (in_w 0 1 (in_c 0 rfl) rfl)) (hp117 _ _ ?_)
    show GG _ _ _ _ _ _ _ _ [.int (Int32.ofInt 0), .ref (A 109)] _ _ _
    refine g_if_eq 9 21 (gd rfl) rfl rfl (fun c121 => ?_) (fun c121 => ?_)
    · skip
      refine g_iconst 0 22 (gd rfl) rfl rfl ?_
      refine g_callv (X := _) (As := [.int (Int32.ofInt 0)]) (r := []) (b := A 109) (q := 109) 25 (gd rfl) rfl rfl rfl rfl rfl (ww_o rfl) (Nat.le_of_ble_eq_true rfl) (mc := 0) (ms := 0) (Nat.zero_le _) (Nat.zero_le _) (P := fun v u => _) ?_ (fun e u h => h) (fun v u h => h)
      intro po122 xx123 hp124 hx125
      refine g_enter2 (k := 271) (N := 300) (by omega) rfl (Nat.le_of_ble_eq_true rfl) ?_
      refine g_aload_n 1 (gd rfl) rfl rfl ?_
      refine g_iload_n 2 (gd rfl) rfl rfl ?_
      refine g_iconst 1 3 (gd rfl) rfl rfl ?_
      refine g_callv (X := _) (As := [.int (Int32.ofInt 0), .int (Int32.ofInt 1)]) (r := []) (b := A 109) (q := 109) 6 (gd rfl) rfl rfl rfl rfl rfl (ww_o rfl) (Nat.le_of_ble_eq_true rfl) (mc := 0) (ms := 0) (Nat.zero_le _) (Nat.zero_le _) (P := fun v u => _) ?_ (fun e u h => h) (fun v u h => h)
      intro po126 xx127 hp128 hx129
      refine g_enter2 (k := 270) (N := 300) (by omega) rfl (Nat.le_of_ble_eq_true rfl) ?_
      refine g_aload_n 1 (gd rfl) rfl rfl ?_
      refine g_iload_n 2 (gd rfl) rfl rfl ?_
      refine g_if_ne 5 9 (gd rfl) rfl rfl (fun c130 => ?_) (fun c130 => ?_)
      · skip
        exact zn_ne c130 (in_c 0 rfl) rfl
      · skip
        refine g_iconst 1 6 (gd rfl) rfl rfl ?_
        refine g_goto 18 (gd rfl) rfl ?_
        refine g_putI 21 (gd rfl) rfl rfl rfl rfl ?_
        have hI131 := inv_sF (q := 109) (j := 0) hI rfl (in_w 0 2 (in_c 1 rfl) rfl)
        refine g_aload_n 22 (gd rfl) rfl rfl ?_
        refine g_getI 25 (gd rfl) rfl rfl rfl (fun z132 e133 => ?_)
        have q134 : (Int32.ofInt 1) = z132 := (sF_get).trans e133.symm
        subst q134
        refine g_if_le 28 32 (gd rfl) rfl rfl (fun c135 => ?_) (fun c135 => ?_)
        · skip
          exact zn_le c135 (in_c 1 rfl) rfl
        · skip
          refine g_iconst 1 29 (gd rfl) rfl rfl ?_
          refine g_goto 33 (gd rfl) rfl ?_
          refine g_ireturn (gd rfl) rfl (nb01 (in_w 0 1 (in_c 1 rfl) rfl)) (hp128 _ _ ?_)
          show GG _ _ _ _ _ _ _ _ [.int (Int32.ofInt 1)] _ _ _
          refine g_ireturn (gd rfl) rfl (nb01 (in_w 0 1 (in_c 1 rfl) rfl)) (hp124 _ _ ?_)
          show GG _ _ _ _ _ _ _ _ [.int (Int32.ofInt 1)] _ _ _
          refine g_if_eq 28 30 (gd rfl) rfl rfl (fun c136 => ?_) (fun c136 => ?_)
          · skip
            exact zn_eq c136 (in_c 1 rfl) rfl
          · skip
            refine g_iconst 0 29 (gd rfl) rfl rfl ?_
            exact g_ireturn (gd rfl) rfl rfl (hP _ _ ⟨(sF s 109 0 (Int32.ofInt 1)), hI131, (Int32.ofInt 0), rfl, rfl, in_w (-2147483648) 2147483647 (in_c 0 rfl) rfl⟩)
    · skip
      exact zn_ne c121 (in_c 0 rfl) rfl
  · skip
    have i137 := z_ge 0 2147483647 c119 (i_rng x1) rfl
    refine g_iload_n 5 (gd rfl) rfl rfl ?_
    refine g_aload_n 6 (gd rfl) rfl rfl ?_
    refine g_getI 9 (gd rfl) rfl rfl rfl (fun z138 e139 => ?_)
    have i140 := inv_F hI 0 32 rfl e139
    refine g_cmp_ge 12 16 (gd rfl) rfl rfl (fun c141 => ?_) (fun c141 => ?_)
    · skip
      refine g_iconst 0 17 (gd rfl) rfl rfl ?_
      refine g_ireturn (gd rfl) rfl (nb01 (in_w 0 1 (in_c 0 rfl) rfl)) (hp117 _ _ ?_)
      show GG _ _ _ _ _ _ _ _ [.int (Int32.ofInt 0), .ref (A 109)] _ _ _
      refine g_if_eq 9 21 (gd rfl) rfl rfl (fun c142 => ?_) (fun c142 => ?_)
      · skip
        refine g_iconst 0 22 (gd rfl) rfl rfl ?_
        refine g_callv (X := _) (As := [.int (Int32.ofInt 0)]) (r := []) (b := A 109) (q := 109) 25 (gd rfl) rfl rfl rfl rfl rfl (ww_o rfl) (Nat.le_of_ble_eq_true rfl) (mc := 0) (ms := 0) (Nat.zero_le _) (Nat.zero_le _) (P := fun v u => _) ?_ (fun e u h => h) (fun v u h => h)
        intro po143 xx144 hp145 hx146
        refine g_enter2 (k := 271) (N := 300) (by omega) rfl (Nat.le_of_ble_eq_true rfl) ?_
        refine g_aload_n 1 (gd rfl) rfl rfl ?_
        refine g_iload_n 2 (gd rfl) rfl rfl ?_
        refine g_iconst 1 3 (gd rfl) rfl rfl ?_
        refine g_callv (X := _) (As := [.int (Int32.ofInt 0), .int (Int32.ofInt 1)]) (r := []) (b := A 109) (q := 109) 6 (gd rfl) rfl rfl rfl rfl rfl (ww_o rfl) (Nat.le_of_ble_eq_true rfl) (mc := 0) (ms := 0) (Nat.zero_le _) (Nat.zero_le _) (P := fun v u => _) ?_ (fun e u h => h) (fun v u h => h)
        intro po147 xx148 hp149 hx150
        refine g_enter2 (k := 270) (N := 300) (by omega) rfl (Nat.le_of_ble_eq_true rfl) ?_
        refine g_aload_n 1 (gd rfl) rfl rfl ?_
        refine g_iload_n 2 (gd rfl) rfl rfl ?_
        refine g_if_ne 5 9 (gd rfl) rfl rfl (fun c151 => ?_) (fun c151 => ?_)
        · skip
          exact zn_ne c151 (in_c 0 rfl) rfl
        · skip
          refine g_iconst 1 6 (gd rfl) rfl rfl ?_
          refine g_goto 18 (gd rfl) rfl ?_
          refine g_putI 21 (gd rfl) rfl rfl rfl rfl ?_
          have hI152 := inv_sF (q := 109) (j := 0) hI rfl (in_w 0 2 (in_c 1 rfl) rfl)
          refine g_aload_n 22 (gd rfl) rfl rfl ?_
          refine g_getI 25 (gd rfl) rfl rfl rfl (fun z153 e154 => ?_)
          have q155 : (Int32.ofInt 1) = z153 := (sF_get).trans e154.symm
          subst q155
          refine g_if_le 28 32 (gd rfl) rfl rfl (fun c156 => ?_) (fun c156 => ?_)
          · skip
            exact zn_le c156 (in_c 1 rfl) rfl
          · skip
            refine g_iconst 1 29 (gd rfl) rfl rfl ?_
            refine g_goto 33 (gd rfl) rfl ?_
            refine g_ireturn (gd rfl) rfl (nb01 (in_w 0 1 (in_c 1 rfl) rfl)) (hp149 _ _ ?_)
            show GG _ _ _ _ _ _ _ _ [.int (Int32.ofInt 1)] _ _ _
            refine g_ireturn (gd rfl) rfl (nb01 (in_w 0 1 (in_c 1 rfl) rfl)) (hp145 _ _ ?_)
            show GG _ _ _ _ _ _ _ _ [.int (Int32.ofInt 1)] _ _ _
            refine g_if_eq 28 30 (gd rfl) rfl rfl (fun c157 => ?_) (fun c157 => ?_)
            · skip
              exact zn_eq c157 (in_c 1 rfl) rfl
            · skip
              refine g_iconst 0 29 (gd rfl) rfl rfl ?_
              exact g_ireturn (gd rfl) rfl rfl (hP _ _ ⟨(sF s 109 0 (Int32.ofInt 1)), hI152, (Int32.ofInt 0), rfl, rfl, in_w (-2147483648) 2147483647 (in_c 0 rfl) rfl⟩)
      · skip
        exact zn_ne c142 (in_c 0 rfl) rfl
    · skip
      have i158 := r_lt1 0 31 c141 i137 i140 rfl
      have i159 := r_lt2 1 32 c141 i137 i140 rfl
      refine g_iconst 1 13 (gd rfl) rfl rfl ?_
      refine g_goto 17 (gd rfl) rfl ?_
      refine g_ireturn (gd rfl) rfl (nb01 (in_w 0 1 (in_c 1 rfl) rfl)) (hp117 _ _ ?_)
      show GG _ _ _ _ _ _ _ _ [.int (Int32.ofInt 1), .ref (A 109)] _ _ _
      refine g_if_eq 9 21 (gd rfl) rfl rfl (fun c160 => ?_) (fun c160 => ?_)
      · skip
        exact zn_eq c160 (in_c 1 rfl) rfl
      · skip
        refine g_aload_n 10 (gd rfl) rfl rfl ?_
        refine g_iload_n 11 (gd rfl) rfl rfl ?_
        refine g_callv (X := _) (As := [.int x2]) (r := [.ref (A 109)]) (b := A 109) (q := 109) 14 (gd rfl) rfl rfl rfl rfl rfl (ww_o rfl) (Nat.le_of_ble_eq_true rfl) (mc := 0) (ms := 0) (Nat.zero_le _) (Nat.zero_le _) (P := fun v u => _) ?_ (fun e u h => h) (fun v u h => h)
        intro po161 xx162 hp163 hx164
        refine g_enter2 (k := 272) (N := 300) (by omega) rfl (Nat.le_of_ble_eq_true rfl) ?_
        refine g_iload_n 1 (gd rfl) rfl rfl ?_
        refine g_if_lt 4 16 (gd rfl) rfl rfl (fun c165 => ?_) (fun c165 => ?_)
        · skip
          have i166 := z_lt (-2147483648) (-1) c165 (i_rng x2) rfl
          refine g_iconst 0 17 (gd rfl) rfl rfl ?_
          refine g_ireturn (gd rfl) rfl (nb01 (in_w 0 1 (in_c 0 rfl) rfl)) (hp163 _ _ ?_)
          show GG _ _ _ _ _ _ _ _ [.int (Int32.ofInt 0), .ref (A 109)] _ _ _
          refine g_if_eq 17 21 (gd rfl) rfl rfl (fun c167 => ?_) (fun c167 => ?_)
          · skip
            refine g_iconst 0 22 (gd rfl) rfl rfl ?_
            refine g_callv (X := _) (As := [.int (Int32.ofInt 0)]) (r := []) (b := A 109) (q := 109) 25 (gd rfl) rfl rfl rfl rfl rfl (ww_o rfl) (Nat.le_of_ble_eq_true rfl) (mc := 0) (ms := 0) (Nat.zero_le _) (Nat.zero_le _) (P := fun v u => _) ?_ (fun e u h => h) (fun v u h => h)
            intro po168 xx169 hp170 hx171
            refine g_enter2 (k := 271) (N := 300) (by omega) rfl (Nat.le_of_ble_eq_true rfl) ?_
            refine g_aload_n 1 (gd rfl) rfl rfl ?_
            refine g_iload_n 2 (gd rfl) rfl rfl ?_
            refine g_iconst 1 3 (gd rfl) rfl rfl ?_
            refine g_callv (X := _) (As := [.int (Int32.ofInt 0), .int (Int32.ofInt 1)]) (r := []) (b := A 109) (q := 109) 6 (gd rfl) rfl rfl rfl rfl rfl (ww_o rfl) (Nat.le_of_ble_eq_true rfl) (mc := 0) (ms := 0) (Nat.zero_le _) (Nat.zero_le _) (P := fun v u => _) ?_ (fun e u h => h) (fun v u h => h)
            intro po172 xx173 hp174 hx175
            refine g_enter2 (k := 270) (N := 300) (by omega) rfl (Nat.le_of_ble_eq_true rfl) ?_
            refine g_aload_n 1 (gd rfl) rfl rfl ?_
            refine g_iload_n 2 (gd rfl) rfl rfl ?_
            refine g_if_ne 5 9 (gd rfl) rfl rfl (fun c176 => ?_) (fun c176 => ?_)
            · skip
              exact zn_ne c176 (in_c 0 rfl) rfl
            · skip
              refine g_iconst 1 6 (gd rfl) rfl rfl ?_
              refine g_goto 18 (gd rfl) rfl ?_
              refine g_putI 21 (gd rfl) rfl rfl rfl rfl ?_
              have hI177 := inv_sF (q := 109) (j := 0) hI rfl (in_w 0 2 (in_c 1 rfl) rfl)
              refine g_aload_n 22 (gd rfl) rfl rfl ?_
              refine g_getI 25 (gd rfl) rfl rfl rfl (fun z178 e179 => ?_)
              have q180 : (Int32.ofInt 1) = z178 := (sF_get).trans e179.symm
              subst q180
              refine g_if_le 28 32 (gd rfl) rfl rfl (fun c181 => ?_) (fun c181 => ?_)
              · skip
                exact zn_le c181 (in_c 1 rfl) rfl
              · skip
                refine g_iconst 1 29 (gd rfl) rfl rfl ?_
                refine g_goto 33 (gd rfl) rfl ?_
                refine g_ireturn (gd rfl) rfl (nb01 (in_w 0 1 (in_c 1 rfl) rfl)) (hp174 _ _ ?_)
                show GG _ _ _ _ _ _ _ _ [.int (Int32.ofInt 1)] _ _ _
                refine g_ireturn (gd rfl) rfl (nb01 (in_w 0 1 (in_c 1 rfl) rfl)) (hp170 _ _ ?_)
                show GG _ _ _ _ _ _ _ _ [.int (Int32.ofInt 1)] _ _ _
                refine g_if_eq 28 30 (gd rfl) rfl rfl (fun c182 => ?_) (fun c182 => ?_)
                · skip
                  exact zn_eq c182 (in_c 1 rfl) rfl
                · skip
                  refine g_iconst 0 29 (gd rfl) rfl rfl ?_
                  exact g_ireturn (gd rfl) rfl rfl (hP _ _ ⟨(sF s 109 0 (Int32.ofInt 1)), hI177, (Int32.ofInt 0), rfl, rfl, in_w (-2147483648) 2147483647 (in_c 0 rfl) rfl⟩)
          · skip
            exact zn_ne c167 (in_c 0 rfl) rfl
        · skip
          have i183 := z_ge 0 2147483647 c165 (i_rng x2) rfl
          refine g_iload_n 5 (gd rfl) rfl rfl ?_
          refine g_aload_n 6 (gd rfl) rfl rfl ?_
          refine g_getI 9 (gd rfl) rfl rfl rfl (fun z184 e185 => ?_)
          have q186 : z138 = z184 := (e139).trans e185.symm
          subst q186
          refine g_cmp_ge 12 16 (gd rfl) rfl rfl (fun c187 => ?_) (fun c187 => ?_)
          · skip
            have i188 := r_le2 1 2147483647 c187 i159 i183 rfl
            refine g_iconst 0 17 (gd rfl) rfl rfl ?_
            refine g_ireturn (gd rfl) rfl (nb01 (in_w 0 1 (in_c 0 rfl) rfl)) (hp163 _ _ ?_)
            show GG _ _ _ _ _ _ _ _ [.int (Int32.ofInt 0), .ref (A 109)] _ _ _
            refine g_if_eq 17 21 (gd rfl) rfl rfl (fun c189 => ?_) (fun c189 => ?_)
            · skip
              refine g_iconst 0 22 (gd rfl) rfl rfl ?_
              refine g_callv (X := _) (As := [.int (Int32.ofInt 0)]) (r := []) (b := A 109) (q := 109) 25 (gd rfl) rfl rfl rfl rfl rfl (ww_o rfl) (Nat.le_of_ble_eq_true rfl) (mc := 0) (ms := 0) (Nat.zero_le _) (Nat.zero_le _) (P := fun v u => _) ?_ (fun e u h => h) (fun v u h => h)
              intro po190 xx191 hp192 hx193
              refine g_enter2 (k := 271) (N := 300) (by omega) rfl (Nat.le_of_ble_eq_true rfl) ?_
              refine g_aload_n 1 (gd rfl) rfl rfl ?_
              refine g_iload_n 2 (gd rfl) rfl rfl ?_
              refine g_iconst 1 3 (gd rfl) rfl rfl ?_
              refine g_callv (X := _) (As := [.int (Int32.ofInt 0), .int (Int32.ofInt 1)]) (r := []) (b := A 109) (q := 109) 6 (gd rfl) rfl rfl rfl rfl rfl (ww_o rfl) (Nat.le_of_ble_eq_true rfl) (mc := 0) (ms := 0) (Nat.zero_le _) (Nat.zero_le _) (P := fun v u => _) ?_ (fun e u h => h) (fun v u h => h)
              intro po194 xx195 hp196 hx197
              refine g_enter2 (k := 270) (N := 300) (by omega) rfl (Nat.le_of_ble_eq_true rfl) ?_
              refine g_aload_n 1 (gd rfl) rfl rfl ?_
              refine g_iload_n 2 (gd rfl) rfl rfl ?_
              refine g_if_ne 5 9 (gd rfl) rfl rfl (fun c198 => ?_) (fun c198 => ?_)
              · skip
                exact zn_ne c198 (in_c 0 rfl) rfl
              · skip
                refine g_iconst 1 6 (gd rfl) rfl rfl ?_
                refine g_goto 18 (gd rfl) rfl ?_
                refine g_putI 21 (gd rfl) rfl rfl rfl rfl ?_
                have hI199 := inv_sF (q := 109) (j := 0) hI rfl (in_w 0 2 (in_c 1 rfl) rfl)
                refine g_aload_n 22 (gd rfl) rfl rfl ?_
                refine g_getI 25 (gd rfl) rfl rfl rfl (fun z200 e201 => ?_)
                have q202 : (Int32.ofInt 1) = z200 := (sF_get).trans e201.symm
                subst q202
                refine g_if_le 28 32 (gd rfl) rfl rfl (fun c203 => ?_) (fun c203 => ?_)
                · skip
                  exact zn_le c203 (in_c 1 rfl) rfl
                · skip
                  refine g_iconst 1 29 (gd rfl) rfl rfl ?_
                  refine g_goto 33 (gd rfl) rfl ?_
                  refine g_ireturn (gd rfl) rfl (nb01 (in_w 0 1 (in_c 1 rfl) rfl)) (hp196 _ _ ?_)
                  show GG _ _ _ _ _ _ _ _ [.int (Int32.ofInt 1)] _ _ _
                  refine g_ireturn (gd rfl) rfl (nb01 (in_w 0 1 (in_c 1 rfl) rfl)) (hp192 _ _ ?_)
                  show GG _ _ _ _ _ _ _ _ [.int (Int32.ofInt 1)] _ _ _
                  refine g_if_eq 28 30 (gd rfl) rfl rfl (fun c204 => ?_) (fun c204 => ?_)
                  · skip
                    exact zn_eq c204 (in_c 1 rfl) rfl
                  · skip
                    refine g_iconst 0 29 (gd rfl) rfl rfl ?_
                    exact g_ireturn (gd rfl) rfl rfl (hP _ _ ⟨(sF s 109 0 (Int32.ofInt 1)), hI199, (Int32.ofInt 0), rfl, rfl, in_w (-2147483648) 2147483647 (in_c 0 rfl) rfl⟩)
            · skip
              exact zn_ne c189 (in_c 0 rfl) rfl
          · skip
            have i205 := r_lt1 0 31 c187 i183 i159 rfl
            refine g_iconst 1 13 (gd rfl) rfl rfl ?_
            refine g_goto 17 (gd rfl) rfl ?_
            refine g_ireturn (gd rfl) rfl (nb01 (in_w 0 1 (in_c 1 rfl) rfl)) (hp163 _ _ ?_)
            show GG _ _ _ _ _ _ _ _ [.int (Int32.ofInt 1), .ref (A 109)] _ _ _
            refine g_if_eq 17 21 (gd rfl) rfl rfl (fun c206 => ?_) (fun c206 => ?_)
            · skip
              exact zn_eq c206 (in_c 1 rfl) rfl
            · skip
              refine g_iconst 1 18 (gd rfl) rfl rfl ?_
              refine g_goto 22 (gd rfl) rfl ?_
              refine g_callv (X := _) (As := [.int (Int32.ofInt 1)]) (r := []) (b := A 109) (q := 109) 25 (gd rfl) rfl rfl rfl rfl rfl (ww_o rfl) (Nat.le_of_ble_eq_true rfl) (mc := 0) (ms := 0) (Nat.zero_le _) (Nat.zero_le _) (P := fun v u => _) ?_ (fun e u h => h) (fun v u h => h)
              intro po207 xx208 hp209 hx210
              refine g_enter2 (k := 271) (N := 300) (by omega) rfl (Nat.le_of_ble_eq_true rfl) ?_
              refine g_aload_n 1 (gd rfl) rfl rfl ?_
              refine g_iload_n 2 (gd rfl) rfl rfl ?_
              refine g_iconst 1 3 (gd rfl) rfl rfl ?_
              refine g_callv (X := _) (As := [.int (Int32.ofInt 1), .int (Int32.ofInt 1)]) (r := []) (b := A 109) (q := 109) 6 (gd rfl) rfl rfl rfl rfl rfl (ww_o rfl) (Nat.le_of_ble_eq_true rfl) (mc := 0) (ms := 0) (Nat.zero_le _) (Nat.zero_le _) (P := fun v u => _) ?_ (fun e u h => h) (fun v u h => h)
              intro po211 xx212 hp213 hx214
              refine g_enter2 (k := 270) (N := 300) (by omega) rfl (Nat.le_of_ble_eq_true rfl) ?_
              refine g_aload_n 1 (gd rfl) rfl rfl ?_
              refine g_iload_n 2 (gd rfl) rfl rfl ?_
              refine g_if_ne 5 9 (gd rfl) rfl rfl (fun c215 => ?_) (fun c215 => ?_)
              · skip
                refine g_iload_n 10 (gd rfl) rfl rfl ?_
                refine g_if_ne 13 17 (gd rfl) rfl rfl (fun c216 => ?_) (fun c216 => ?_)
                · skip
                  refine g_iconst 0 18 (gd rfl) rfl rfl ?_
                  refine g_putI 21 (gd rfl) rfl rfl rfl rfl ?_
                  have hI217 := inv_sF (q := 109) (j := 0) hI rfl (in_w 0 2 (in_c 0 rfl) rfl)
                  refine g_aload_n 22 (gd rfl) rfl rfl ?_
                  refine g_getI 25 (gd rfl) rfl rfl rfl (fun z218 e219 => ?_)
                  have q220 : (Int32.ofInt 0) = z218 := (sF_get).trans e219.symm
                  subst q220
                  refine g_if_le 28 32 (gd rfl) rfl rfl (fun c221 => ?_) (fun c221 => ?_)
                  · skip
                    refine g_iconst 0 33 (gd rfl) rfl rfl ?_
                    refine g_ireturn (gd rfl) rfl (nb01 (in_w 0 1 (in_c 0 rfl) rfl)) (hp213 _ _ ?_)
                    show GG _ _ _ _ _ _ _ _ [.int (Int32.ofInt 0)] _ _ _
                    refine g_ireturn (gd rfl) rfl (nb01 (in_w 0 1 (in_c 0 rfl) rfl)) (hp209 _ _ ?_)
                    show GG _ _ _ _ _ _ _ _ [.int (Int32.ofInt 0)] _ _ _
                    refine g_if_eq 28 30 (gd rfl) rfl rfl (fun c222 => ?_) (fun c222 => ?_)
                    · skip
                      refine g_iconst 0 31 (gd rfl) rfl rfl ?_
                      refine g_istore_n 32 (gd rfl) rfl (Nat.le_of_ble_eq_true rfl) ?_
                      exact gg_w (by omega) (gg_f (gf_cons rfl (gf_cons rfl (gf_cons rfl (gf_cons rfl gf_nil)))) (ct32 33 (sF s 109 0 (Int32.ofInt 0)) (Int32.ofInt 0) hI217 (in_w 0 31 i158 rfl) (in_w 0 31 i205 rfl) (in_w 0 32 (in_c 0 rfl) rfl) (m_in 33 (in_w 0 32 (in_c 0 rfl) rfl) rfl)))
                    · skip
                      exact zn_ne c222 (in_c 0 rfl) rfl
                  · skip
                    exact zn_gt c221 (in_c 0 rfl) rfl
                · skip
                  exact zn_eq c216 (in_c 1 rfl) rfl
              · skip
                exact zn_eq c215 (in_c 1 rfl) rfl

/-- GraphHouseModel.order -/
theorem k_332 {Z : AmZ} {A : Nat → Nat} {s : GS} {ex : va_W} {d : Nat} {X : AmX} {x1 : Int32} (hd : 4 ≤ d) (hI : Inv s)  : GC Z d 332 [.ref (A 109), .int x1] (WW Z A s ++ ex) 0 0 (fun v u => ∃ t : GS, Inv t ∧ ∃ z : Int32, v = some (.int z) ∧ u = WW Z A t ++ ex ∧ In z (-1) 31) X := by
  intro post xp hP hX
  have ct28 : ∀ (k28 : Nat) (s : GS) (y28_2 : Int32) (y28_3 : Int32) (y28_4 : Int32) (y28_5 : Int32), Inv s → In x1 0 2147483647 → In y28_3 (-1) 31 → In y28_4 (-1) 31 → In y28_5 0 32 → 32 - (y28_5).toInt < (k28 : Int) → GG Z (d - 1) 332 post (gx xp) (1 + k28 * 29547223) 28 (fun j => xlook j [(0, .ref (A 109)), (1, .int x1), (2, .int y28_2), (3, .int y28_3), (4, .int y28_4), (5, .int y28_5)]) [] (WW Z A s ++ ex) 0 0 := by
    intro k28
    induction k28 with
    | zero => intro s y28_2 y28_3 y28_4 y28_5 hI j28_1 j28_3 j28_4 j28_5 mm28; exact m_no mm28 j28_5 rfl
    | succ k28 ih28 =>
      intro s y28_2 y28_3 y28_4 y28_5 hI j28_1 j28_3 j28_4 j28_5 mm28
      refine gg_w (M := 1 + k28 * 29547223 + 29547223) (by omega) ?_
      have ct47 : ∀ (k47 : Nat) (s : GS) (y47_3 : Int32) (y47_6 : Int32), Inv s → In y47_3 (-1) 31 → In y28_5 0 31 → In y47_6 (-1) 31 → (y47_6).toInt - (-1) < (k47 : Int) → GG Z (d - 1) 332 post (gx xp) (1 + k28 * 29547223 + 1 + k47 * 868983) 47 (fun j => xlook j [(0, .ref (A 109)), (1, .int x1), (2, .int y28_2), (3, .int y47_3), (4, .int y28_4), (5, .int y28_5), (6, .int y47_6)]) [] (WW Z A s ++ ex) 0 0 := by
        intro k47
        induction k47 with
        | zero => intro s y47_3 y47_6 hI j47_3 j47_5 j47_6 mm47; exact m_nod mm47 j47_6 rfl
        | succ k47 ih47 =>
          intro s y47_3 y47_6 hI j47_3 j47_5 j47_6 mm47
          refine gg_w (M := 1 + k28 * 29547223 + 1 + k47 * 868983 + 868983) (by omega) ?_
          have ct141 : ∀ (s : GS) (y141_7 : Int32) (y141_8 : Int32), Inv s → In y47_6 0 31 → In y141_7 0 1 → In y141_8 0 479 → GG Z (d - 1) 332 post (gx xp) (1 + k28 * 29547223 + 1 + k47 * 868983 + 901) 141 (fun j => xlook j [(0, .ref (A 109)), (1, .int x1), (2, .int y28_2), (3, .int y47_3), (4, .int y28_4), (5, .int y28_5), (6, .int y47_6), (7, .int y141_7), (8, .int y141_8)]) [] (WW Z A s ++ ex) 0 0 := by
            intro s y141_7 y141_8 hI j141_6 j141_7 j141_8
            refine g_iload 143 (gd rfl) rfl rfl ?_
            refine g_if_eq 146 151 (gd rfl) rfl rfl (fun c1 => ?_) (fun c1 => ?_)
            · skip
              have i2 := z_eq 0 0 c1 j141_7 rfl
              refine g_iload_n 152 (gd rfl) rfl rfl ?_
              refine g_istore_n 153 (gd rfl) rfl (Nat.le_of_ble_eq_true rfl) ?_
              refine g_iinc 156 (gd rfl) rfl rfl (Nat.le_of_ble_eq_true rfl) (fun z3 e4 => ?_)
              have i5 := in_add (-1) 30 e4 j141_6 (in_c (-1) rfl) rfl rfl
              refine g_goto 47 (gd rfl) rfl ?_
              exact gg_w (by omega) (gg_f (gf_cons rfl (gf_cons rfl (gf_cons rfl (gf_cons rfl (gf_cons rfl (gf_cons rfl (gf_cons rfl gf_nil))))))) (ih47 s y47_3 z3 hI (in_w (-1) 31 j47_3 rfl) (in_w 0 31 j47_5 rfl) (in_w (-1) 31 i5 rfl) (m_dn mm47 (t_add e4 j141_6 (in_c (-1) rfl) rfl) (in_w (-1) (-1) (in_c (-1) rfl) rfl))))
            · skip
              have i6 := z_ne 1 1 c1 j141_7 rfl
              refine g_iload 148 (gd rfl) rfl rfl ?_
              refine g_goto 152 (gd rfl) rfl ?_
              refine g_istore_n 153 (gd rfl) rfl (Nat.le_of_ble_eq_true rfl) ?_
              refine g_iinc 156 (gd rfl) rfl rfl (Nat.le_of_ble_eq_true rfl) (fun z7 e8 => ?_)
              have i9 := in_add (-1) 30 e8 j141_6 (in_c (-1) rfl) rfl rfl
              refine g_goto 47 (gd rfl) rfl ?_
              exact gg_w (by omega) (gg_f (gf_cons rfl (gf_cons rfl (gf_cons rfl (gf_cons rfl (gf_cons rfl (gf_cons rfl (gf_cons rfl gf_nil))))))) (ih47 s y47_6 z7 hI (in_w (-1) 31 j141_6 rfl) (in_w 0 31 j47_5 rfl) (in_w (-1) 31 i9 rfl) (m_dn mm47 (t_add e8 j141_6 (in_c (-1) rfl) rfl) (in_w (-1) (-1) (in_c (-1) rfl) rfl))))
          have ct74 : ∀ (k74 : Nat) (s : GS) (y74_7 : Int32) (y74_8 : Int32), Inv s → In y47_6 0 31 → In y74_7 0 1 → In y74_8 0 479 → 479 - (y74_8).toInt < (k74 : Int) → GG Z (d - 1) 332 post (gx xp) (1 + k28 * 29547223 + 1 + k47 * 868983 + 902 + k74 * 1801) 74 (fun j => xlook j [(0, .ref (A 109)), (1, .int x1), (2, .int y28_2), (3, .int y47_3), (4, .int y28_4), (5, .int y28_5), (6, .int y47_6), (7, .int y74_7), (8, .int y74_8)]) [] (WW Z A s ++ ex) 0 0 := by
            intro k74
            induction k74 with
            | zero => intro s y74_7 y74_8 hI j74_6 j74_7 j74_8 mm74; exact m_no mm74 j74_8 rfl
            | succ k74 ih74 =>
              intro s y74_7 y74_8 hI j74_6 j74_7 j74_8 mm74
              refine gg_w (M := 1 + k28 * 29547223 + 1 + k47 * 868983 + 902 + k74 * 1801 + 1801) (by omega) ?_
              have ct128 : ∀ (s : GS) , Inv s → In y74_7 1 1 → In y74_8 0 400 → GG Z (d - 1) 332 post (gx xp) (1 + k28 * 29547223 + 1 + k47 * 868983 + 902 + k74 * 1801 + 901) 128 (fun j => xlook j [(0, .ref (A 109)), (1, .int x1), (2, .int y28_2), (3, .int y47_3), (4, .int y28_4), (5, .int y28_5), (6, .int y47_6), (7, .int y74_7), (8, .int y74_8)]) [] (WW Z A s ++ ex) 0 0 := by
                intro s  hI j128_7 j128_8
                refine g_iconst 1 129 (gd rfl) rfl rfl ?_
                refine g_goto 133 (gd rfl) rfl ?_
                refine g_istore 135 (gd rfl) rfl (Nat.le_of_ble_eq_true rfl) ?_
                refine g_iinc 138 (gd rfl) rfl rfl (Nat.le_of_ble_eq_true rfl) (fun z10 e11 => ?_)
                have i12 := in_add 1 401 e11 j128_8 (in_c 1 rfl) rfl rfl
                refine g_goto 74 (gd rfl) rfl ?_
                exact gg_w (by omega) (gg_f (gf_cons rfl (gf_cons rfl (gf_cons rfl (gf_cons rfl (gf_cons rfl (gf_cons rfl (gf_cons rfl (gf_cons rfl (gf_cons rfl gf_nil))))))))) (ih74 s (Int32.ofInt 1) z10 hI (in_w 0 31 j74_6 rfl) (in_w 0 1 (in_c 1 rfl) rfl) (in_w 0 479 i12 rfl) (m_up mm74 (t_add e11 j128_8 (in_c 1 rfl) rfl) (in_w 1 1 (in_c 1 rfl) rfl))))
              refine g_iload 76 (gd rfl) rfl rfl ?_
              refine g_aload_n 77 (gd rfl) rfl rfl ?_
              refine g_getI 80 (gd rfl) rfl rfl rfl (fun z13 e14 => ?_)
              have i15 := inv_F hI 0 160 rfl e14
              refine g_sipush 160 83 (gd rfl) rfl rfl ?_
              refine g_iadd 84 (gd rfl) rfl (fun z16 e17 => ?_)
              have i18 := in_add 160 320 e17 i15 (in_c 160 rfl) rfl rfl
              refine g_cmp_ge 87 141 (gd rfl) rfl rfl (fun c19 => ?_) (fun c19 => ?_)
              · skip
                have i20 := r_le2 160 479 c19 i18 j74_8 rfl
                exact gg_w (by omega) (gg_f (gf_cons rfl (gf_cons rfl (gf_cons rfl (gf_cons rfl (gf_cons rfl (gf_cons rfl (gf_cons rfl (gf_cons rfl (gf_cons rfl gf_nil))))))))) (ct141 s y74_7 y74_8 hI (in_w 0 31 j74_6 rfl) (in_w 0 1 j74_7 rfl) (in_w 0 479 i20 rfl)))
              · skip
                have i21 := r_lt1 0 319 c19 j74_8 i18 rfl
                refine g_iload 89 (gd rfl) rfl rfl ?_
                refine g_if_eq 92 141 (gd rfl) rfl rfl (fun c22 => ?_) (fun c22 => ?_)
                · skip
                  have i23 := z_eq 0 0 c22 j74_7 rfl
                  exact gg_w (by omega) (gg_f (gf_cons rfl (gf_cons rfl (gf_cons rfl (gf_cons rfl (gf_cons rfl (gf_cons rfl (gf_cons rfl (gf_cons rfl (gf_cons rfl gf_nil))))))))) (ct141 s y74_7 y74_8 hI (in_w 0 31 j74_6 rfl) (in_w 0 1 i23 rfl) (in_w 0 479 i21 rfl)))
                · skip
                  have i24 := z_ne 1 1 c22 j74_7 rfl
                  refine g_aload_n 93 (gd rfl) rfl rfl ?_
                  refine g_getA (q2 := 112) 96 (gd rfl) rfl rfl rfl rfl rfl ?_
                  refine g_iload 98 (gd rfl) rfl rfl ?_
                  refine g_baload 99 (gd rfl) rfl (n := 480) rfl (in_ix i21 rfl) (fun z25 e26 => ?_)
                  have i27 := inv_I hI (n := 480) (t := 3) 0 1 rfl (in_ix i21 rfl) rfl e26
                  refine g_if_eq 102 128 (gd rfl) rfl rfl (fun c28 => ?_) (fun c28 => ?_)
                  · skip
                    have i29 := z_eq 0 0 c28 i27 rfl
                    exact gg_w (by omega) (gg_f (gf_cons rfl (gf_cons rfl (gf_cons rfl (gf_cons rfl (gf_cons rfl (gf_cons rfl (gf_cons rfl (gf_cons rfl (gf_cons rfl gf_nil))))))))) (ct128 s  hI (in_w 1 1 i24 rfl) (in_w 0 400 i21 rfl)))
                  · skip
                    have i30 := z_ne 1 1 c28 i27 rfl
                    refine g_aload_n 103 (gd rfl) rfl rfl ?_
                    refine g_getA (q2 := 114) 106 (gd rfl) rfl rfl rfl rfl rfl ?_
                    refine g_iload 108 (gd rfl) rfl rfl ?_
                    refine g_iaload 109 (gd rfl) rfl (n := 480) rfl (in_ix i21 rfl) (fun z31 e32 => ?_)
                    have i33 := inv_I hI (n := 480) (t := 0) 0 31 rfl (in_ix i21 rfl) rfl e32
                    refine g_iload 111 (gd rfl) rfl rfl ?_
                    refine g_cmp_ne 114 128 (gd rfl) rfl rfl (fun c34 => ?_) (fun c34 => ?_)
                    · skip
                      exact gg_w (by omega) (gg_f (gf_cons rfl (gf_cons rfl (gf_cons rfl (gf_cons rfl (gf_cons rfl (gf_cons rfl (gf_cons rfl (gf_cons rfl (gf_cons rfl gf_nil))))))))) (ct128 s  hI (in_w 1 1 i24 rfl) (in_w 0 400 i21 rfl)))
                    · skip
                      refine g_iload_n 115 (gd rfl) rfl rfl ?_
                      refine g_aload_n 116 (gd rfl) rfl rfl ?_
                      refine g_getA (q2 := 113) 119 (gd rfl) rfl rfl rfl rfl rfl ?_
                      refine g_iload 121 (gd rfl) rfl rfl ?_
                      refine g_iaload 122 (gd rfl) rfl (n := 480) rfl (in_ix i21 rfl) (fun z35 e36 => ?_)
                      have i37 := inv_I hI (n := 480) (t := 0) 0 31 rfl (in_ix i21 rfl) rfl e36
                      refine g_calls (As := [.int y28_2, .int z35]) (r := []) 125 (gd rfl) rfl rfl rfl rfl rfl (Nat.le_of_ble_eq_true rfl) (mc := 0) (ms := 0) (Nat.zero_le _) (Nat.zero_le _) (P := fun v u => _) ?_ (fun v u h => h)
                      intro po38 xx39 hp40 hx41
                      refine g_enter2 (k := 311) (N := 300) (by omega) rfl (Nat.le_of_ble_eq_true rfl) ?_
                      refine g_iload_n 1 (gd rfl) rfl rfl ?_
                      refine g_iload_n 2 (gd rfl) rfl rfl ?_
                      refine g_ishr 3 (gd rfl) rfl (fun z42 e43 => ?_)
                      refine g_iconst 1 4 (gd rfl) rfl rfl ?_
                      refine g_iand 5 (gd rfl) rfl (fun z44 e45 => ?_)
                      have i46 := in_and2 e45 (in_c 1 rfl) rfl
                      refine g_iconst 1 6 (gd rfl) rfl rfl ?_
                      refine g_cmp_ne 9 13 (gd rfl) rfl rfl (fun c47 => ?_) (fun c47 => ?_)
                      · skip
                        have i48 := r_ne1 0 0 c47 i46 (in_c 1 rfl) rfl
                        refine g_iconst 0 14 (gd rfl) rfl rfl ?_
                        refine g_ireturn (gd rfl) rfl (nb01 (in_w 0 1 (in_c 0 rfl) rfl)) (hp40 _ _ ?_)
                        show GG _ _ _ _ _ _ _ _ [.int (Int32.ofInt 0)] _ _ _
                        refine g_if_eq 128 132 (gd rfl) rfl rfl (fun c49 => ?_) (fun c49 => ?_)
                        · skip
                          refine g_iconst 0 133 (gd rfl) rfl rfl ?_
                          refine g_istore 135 (gd rfl) rfl (Nat.le_of_ble_eq_true rfl) ?_
                          refine g_iinc 138 (gd rfl) rfl rfl (Nat.le_of_ble_eq_true rfl) (fun z50 e51 => ?_)
                          have i52 := in_add 1 320 e51 i21 (in_c 1 rfl) rfl rfl
                          refine g_goto 74 (gd rfl) rfl ?_
                          exact gg_w (by omega) (gg_f (gf_cons rfl (gf_cons rfl (gf_cons rfl (gf_cons rfl (gf_cons rfl (gf_cons rfl (gf_cons rfl (gf_cons rfl (gf_cons rfl gf_nil))))))))) (ih74 s (Int32.ofInt 0) z50 hI (in_w 0 31 j74_6 rfl) (in_w 0 1 (in_c 0 rfl) rfl) (in_w 0 479 i52 rfl) (m_up mm74 (t_add e51 i21 (in_c 1 rfl) rfl) (in_w 1 1 (in_c 1 rfl) rfl))))
                        · skip
                          exact zn_ne c49 (in_c 0 rfl) rfl
                      · skip
                        have i53 := r_eq1 1 1 c47 i46 (in_c 1 rfl) rfl
                        refine g_iconst 1 10 (gd rfl) rfl rfl ?_
                        refine g_goto 14 (gd rfl) rfl ?_
                        refine g_ireturn (gd rfl) rfl (nb01 (in_w 0 1 (in_c 1 rfl) rfl)) (hp40 _ _ ?_)
                        show GG _ _ _ _ _ _ _ _ [.int (Int32.ofInt 1)] _ _ _
                        refine g_if_eq 128 132 (gd rfl) rfl rfl (fun c54 => ?_) (fun c54 => ?_)
                        · skip
                          exact zn_eq c54 (in_c 1 rfl) rfl
                        · skip
                          exact gg_w (by omega) (gg_f (gf_cons rfl (gf_cons rfl (gf_cons rfl (gf_cons rfl (gf_cons rfl (gf_cons rfl (gf_cons rfl (gf_cons rfl (gf_cons rfl gf_nil))))))))) (ct128 s  hI (in_w 1 1 i24 rfl) (in_w 0 400 i21 rfl)))
          refine g_iload 49 (gd rfl) rfl rfl ?_
          refine g_if_lt 52 159 (gd rfl) rfl rfl (fun c55 => ?_) (fun c55 => ?_)
          · skip
            have i56 := z_lt (-1) (-1) c55 j47_6 rfl
            refine g_iload_n 160 (gd rfl) rfl rfl ?_
            refine g_iconst (-1) 161 (gd rfl) rfl rfl ?_
            refine g_cmp_ne 164 166 (gd rfl) rfl rfl (fun c57 => ?_) (fun c57 => ?_)
            · skip
              have i58 := r_ne1 0 31 c57 j47_3 (in_c (-1) rfl) rfl
              refine g_iload_n 167 (gd rfl) rfl rfl ?_
              refine g_iconst 1 168 (gd rfl) rfl rfl ?_
              refine g_iload_n 169 (gd rfl) rfl rfl ?_
              refine g_ishl 170 (gd rfl) rfl (fun z59 e60 => ?_)
              refine g_ior 171 (gd rfl) rfl (fun z61 e62 => ?_)
              refine g_istore_n 172 (gd rfl) rfl (Nat.le_of_ble_eq_true rfl) ?_
              refine g_iload 174 (gd rfl) rfl rfl ?_
              refine g_iload_n 175 (gd rfl) rfl rfl ?_
              refine g_cmp_ne 178 182 (gd rfl) rfl rfl (fun c63 => ?_) (fun c63 => ?_)
              · skip
                refine g_iload 184 (gd rfl) rfl rfl ?_
                refine g_istore 186 (gd rfl) rfl (Nat.le_of_ble_eq_true rfl) ?_
                refine g_iinc 189 (gd rfl) rfl rfl (Nat.le_of_ble_eq_true rfl) (fun z64 e65 => ?_)
                have i66 := in_add 1 32 e65 j47_5 (in_c 1 rfl) rfl rfl
                refine g_goto 28 (gd rfl) rfl ?_
                exact gg_w (by omega) (gg_f (gf_cons rfl (gf_cons rfl (gf_cons rfl (gf_cons rfl (gf_cons rfl (gf_cons rfl gf_nil)))))) (ih28 s z61 y47_3 y28_4 z64 hI (in_w 0 2147483647 j28_1 rfl) (in_w (-1) 31 i58 rfl) (in_w (-1) 31 j28_4 rfl) (in_w 0 32 i66 rfl) (m_up mm28 (t_add e65 j47_5 (in_c 1 rfl) rfl) (in_w 1 1 (in_c 1 rfl) rfl))))
              · skip
                have i67 := r_eq2 0 31 c63 j47_5 j28_1 rfl
                refine g_iload_n 179 (gd rfl) rfl rfl ?_
                refine g_goto 184 (gd rfl) rfl ?_
                refine g_istore 186 (gd rfl) rfl (Nat.le_of_ble_eq_true rfl) ?_
                refine g_iinc 189 (gd rfl) rfl rfl (Nat.le_of_ble_eq_true rfl) (fun z68 e69 => ?_)
                have i70 := in_add 1 32 e69 j47_5 (in_c 1 rfl) rfl rfl
                refine g_goto 28 (gd rfl) rfl ?_
                exact gg_w (by omega) (gg_f (gf_cons rfl (gf_cons rfl (gf_cons rfl (gf_cons rfl (gf_cons rfl (gf_cons rfl gf_nil)))))) (ih28 s z61 y47_3 y47_3 z68 hI (in_w 0 2147483647 i67 rfl) (in_w (-1) 31 i58 rfl) (in_w (-1) 31 i58 rfl) (in_w 0 32 i70 rfl) (m_up mm28 (t_add e69 j47_5 (in_c 1 rfl) rfl) (in_w 1 1 (in_c 1 rfl) rfl))))
            · skip
              have i71 := r_eq1 (-1) (-1) c57 j47_3 (in_c (-1) rfl) rfl
              refine g_iconst (-1) 165 (gd rfl) rfl rfl ?_
              exact g_ireturn (gd rfl) rfl rfl (hP _ _ ⟨s, hI, (Int32.ofInt (-1)), rfl, rfl, in_w (-1) 31 (in_c (-1) rfl) rfl⟩)
          · skip
            have i72 := z_ge 0 31 c55 j47_6 rfl
            refine g_iload_n 53 (gd rfl) rfl rfl ?_
            refine g_iload 55 (gd rfl) rfl rfl ?_
            refine g_calls (As := [.int y28_2, .int y47_6]) (r := []) 58 (gd rfl) rfl rfl rfl rfl rfl (Nat.le_of_ble_eq_true rfl) (mc := 0) (ms := 0) (Nat.zero_le _) (Nat.zero_le _) (P := fun v u => _) ?_ (fun v u h => h)
            intro po73 xx74 hp75 hx76
            refine g_enter2 (k := 311) (N := 300) (by omega) rfl (Nat.le_of_ble_eq_true rfl) ?_
            refine g_iload_n 1 (gd rfl) rfl rfl ?_
            refine g_iload_n 2 (gd rfl) rfl rfl ?_
            refine g_ishr 3 (gd rfl) rfl (fun z77 e78 => ?_)
            refine g_iconst 1 4 (gd rfl) rfl rfl ?_
            refine g_iand 5 (gd rfl) rfl (fun z79 e80 => ?_)
            have i81 := in_and2 e80 (in_c 1 rfl) rfl
            refine g_iconst 1 6 (gd rfl) rfl rfl ?_
            refine g_cmp_ne 9 13 (gd rfl) rfl rfl (fun c82 => ?_) (fun c82 => ?_)
            · skip
              have i83 := r_ne1 0 0 c82 i81 (in_c 1 rfl) rfl
              refine g_iconst 0 14 (gd rfl) rfl rfl ?_
              refine g_ireturn (gd rfl) rfl (nb01 (in_w 0 1 (in_c 0 rfl) rfl)) (hp75 _ _ ?_)
              show GG _ _ _ _ _ _ _ _ [.int (Int32.ofInt 0)] _ _ _
              refine g_if_ne 61 65 (gd rfl) rfl rfl (fun c84 => ?_) (fun c84 => ?_)
              · skip
                exact zn_ne c84 (in_c 0 rfl) rfl
              · skip
                refine g_iconst 1 62 (gd rfl) rfl rfl ?_
                refine g_goto 66 (gd rfl) rfl ?_
                refine g_istore 68 (gd rfl) rfl (Nat.le_of_ble_eq_true rfl) ?_
                refine g_aload_n 69 (gd rfl) rfl rfl ?_
                refine g_getI 72 (gd rfl) rfl rfl rfl (fun z85 e86 => ?_)
                have i87 := inv_F hI 0 160 rfl e86
                refine g_istore 74 (gd rfl) rfl (Nat.le_of_ble_eq_true rfl) ?_
                exact gg_w (by omega) (gg_f (gf_cons rfl (gf_cons rfl (gf_cons rfl (gf_cons rfl (gf_cons rfl (gf_cons rfl (gf_cons rfl (gf_cons rfl (gf_cons rfl gf_nil))))))))) (ct74 480 s (Int32.ofInt 1) z85 hI (in_w 0 31 i72 rfl) (in_w 0 1 (in_c 1 rfl) rfl) (in_w 0 479 i87 rfl) (m_in 480 (in_w 0 479 i87 rfl) rfl)))
            · skip
              have i88 := r_eq1 1 1 c82 i81 (in_c 1 rfl) rfl
              refine g_iconst 1 10 (gd rfl) rfl rfl ?_
              refine g_goto 14 (gd rfl) rfl ?_
              refine g_ireturn (gd rfl) rfl (nb01 (in_w 0 1 (in_c 1 rfl) rfl)) (hp75 _ _ ?_)
              show GG _ _ _ _ _ _ _ _ [.int (Int32.ofInt 1)] _ _ _
              refine g_if_ne 61 65 (gd rfl) rfl rfl (fun c89 => ?_) (fun c89 => ?_)
              · skip
                refine g_iconst 0 66 (gd rfl) rfl rfl ?_
                refine g_istore 68 (gd rfl) rfl (Nat.le_of_ble_eq_true rfl) ?_
                refine g_aload_n 69 (gd rfl) rfl rfl ?_
                refine g_getI 72 (gd rfl) rfl rfl rfl (fun z90 e91 => ?_)
                have i92 := inv_F hI 0 160 rfl e91
                refine g_istore 74 (gd rfl) rfl (Nat.le_of_ble_eq_true rfl) ?_
                exact gg_w (by omega) (gg_f (gf_cons rfl (gf_cons rfl (gf_cons rfl (gf_cons rfl (gf_cons rfl (gf_cons rfl (gf_cons rfl (gf_cons rfl (gf_cons rfl gf_nil))))))))) (ct74 480 s (Int32.ofInt 0) z90 hI (in_w 0 31 i72 rfl) (in_w 0 1 (in_c 0 rfl) rfl) (in_w 0 479 i92 rfl) (m_in 480 (in_w 0 479 i92 rfl) rfl)))
              · skip
                exact zn_eq c89 (in_c 1 rfl) rfl
      refine g_iload 30 (gd rfl) rfl rfl ?_
      refine g_aload_n 31 (gd rfl) rfl rfl ?_
      refine g_getI 34 (gd rfl) rfl rfl rfl (fun z93 e94 => ?_)
      have i95 := inv_F hI 0 32 rfl e94
      refine g_cmp_ge 37 192 (gd rfl) rfl rfl (fun c96 => ?_) (fun c96 => ?_)
      · skip
        refine g_iload 194 (gd rfl) rfl rfl ?_
        exact g_ireturn (gd rfl) rfl rfl (hP _ _ ⟨s, hI, y28_4, rfl, rfl, in_w (-1) 31 j28_4 rfl⟩)
      · skip
        have i97 := r_lt1 0 31 c96 j28_5 i95 rfl
        have i98 := r_lt2 1 32 c96 j28_5 i95 rfl
        refine g_iconst (-1) 38 (gd rfl) rfl rfl ?_
        refine g_istore_n 39 (gd rfl) rfl (Nat.le_of_ble_eq_true rfl) ?_
        refine g_aload_n 40 (gd rfl) rfl rfl ?_
        refine g_getI 43 (gd rfl) rfl rfl rfl (fun z99 e100 => ?_)
        have q101 : z93 = z99 := (e94).trans e100.symm
        subst q101
        refine g_iconst 1 44 (gd rfl) rfl rfl ?_
        refine g_isub 45 (gd rfl) rfl (fun z102 e103 => ?_)
        have i104 := in_sub 0 31 e103 i98 (in_c 1 rfl) rfl rfl
        refine g_istore 47 (gd rfl) rfl (Nat.le_of_ble_eq_true rfl) ?_
        exact gg_w (by omega) (gg_f (gf_cons rfl (gf_cons rfl (gf_cons rfl (gf_cons rfl (gf_cons rfl (gf_cons rfl (gf_cons rfl gf_nil))))))) (ct47 33 s (Int32.ofInt (-1)) z102 hI (in_w (-1) 31 (in_c (-1) rfl) rfl) (in_w 0 31 i97 rfl) (in_w (-1) 31 i104 rfl) (m_ind 33 (in_w (-1) 31 i104 rfl) rfl)))
  refine g_enter2 (k := 332) (N := 975059260) (by omega) rfl (Nat.le_of_ble_eq_true rfl) ?_
  refine g_aload_n 1 (gd rfl) rfl rfl ?_
  refine g_iload_n 2 (gd rfl) rfl rfl ?_
  refine g_if_lt 5 9 (gd rfl) rfl rfl (fun c105 => ?_) (fun c105 => ?_)
  · skip
    have i106 := z_lt (-2147483648) (-1) c105 (i_rng x1) rfl
    refine g_iconst 0 10 (gd rfl) rfl rfl ?_
    refine g_callv (X := _) (As := [.int (Int32.ofInt 0)]) (r := []) (b := A 109) (q := 109) 13 (gd rfl) rfl rfl rfl rfl rfl (ww_o rfl) (Nat.le_of_ble_eq_true rfl) (mc := 0) (ms := 0) (Nat.zero_le _) (Nat.zero_le _) (P := fun v u => _) ?_ (fun e u h => h) (fun v u h => h)
    intro po107 xx108 hp109 hx110
    refine g_enter2 (k := 271) (N := 300) (by omega) rfl (Nat.le_of_ble_eq_true rfl) ?_
    refine g_aload_n 1 (gd rfl) rfl rfl ?_
    refine g_iload_n 2 (gd rfl) rfl rfl ?_
    refine g_iconst 1 3 (gd rfl) rfl rfl ?_
    refine g_callv (X := _) (As := [.int (Int32.ofInt 0), .int (Int32.ofInt 1)]) (r := []) (b := A 109) (q := 109) 6 (gd rfl) rfl rfl rfl rfl rfl (ww_o rfl) (Nat.le_of_ble_eq_true rfl) (mc := 0) (ms := 0) (Nat.zero_le _) (Nat.zero_le _) (P := fun v u => _) ?_ (fun e u h => h) (fun v u h => h)
    intro po111 xx112 hp113 hx114
    refine g_enter2 (k := 270) (N := 300) (by omega) rfl (Nat.le_of_ble_eq_true rfl) ?_
    refine g_aload_n 1 (gd rfl) rfl rfl ?_
    refine g_iload_n 2 (gd rfl) rfl rfl ?_
    refine g_if_ne 5 9 (gd rfl) rfl rfl (fun c115 => ?_) (fun c115 => ?_)
    · skip
      exact zn_ne c115 (in_c 0 rfl) rfl
    · skip
      refine g_iconst 1 6 (gd rfl) rfl rfl ?_
      refine g_goto 18 (gd rfl) rfl ?_
      refine g_putI 21 (gd rfl) rfl rfl rfl rfl ?_
      have hI116 := inv_sF (q := 109) (j := 0) hI rfl (in_w 0 2 (in_c 1 rfl) rfl)
      refine g_aload_n 22 (gd rfl) rfl rfl ?_
      refine g_getI 25 (gd rfl) rfl rfl rfl (fun z117 e118 => ?_)
      have q119 : (Int32.ofInt 1) = z117 := (sF_get).trans e118.symm
      subst q119
      refine g_if_le 28 32 (gd rfl) rfl rfl (fun c120 => ?_) (fun c120 => ?_)
      · skip
        exact zn_le c120 (in_c 1 rfl) rfl
      · skip
        refine g_iconst 1 29 (gd rfl) rfl rfl ?_
        refine g_goto 33 (gd rfl) rfl ?_
        refine g_ireturn (gd rfl) rfl (nb01 (in_w 0 1 (in_c 1 rfl) rfl)) (hp113 _ _ ?_)
        show GG _ _ _ _ _ _ _ _ [.int (Int32.ofInt 1)] _ _ _
        refine g_ireturn (gd rfl) rfl (nb01 (in_w 0 1 (in_c 1 rfl) rfl)) (hp109 _ _ ?_)
        show GG _ _ _ _ _ _ _ _ [.int (Int32.ofInt 1)] _ _ _
        refine g_if_eq 16 18 (gd rfl) rfl rfl (fun c121 => ?_) (fun c121 => ?_)
        · skip
          exact zn_eq c121 (in_c 1 rfl) rfl
        · skip
          refine g_iconst 0 17 (gd rfl) rfl rfl ?_
          exact g_ireturn (gd rfl) rfl rfl (hP _ _ ⟨(sF s 109 0 (Int32.ofInt 1)), hI116, (Int32.ofInt 0), rfl, rfl, in_w (-1) 31 (in_c 0 rfl) rfl⟩)
  · skip
    have i122 := z_ge 0 2147483647 c105 (i_rng x1) rfl
    refine g_iconst 1 6 (gd rfl) rfl rfl ?_
    refine g_goto 10 (gd rfl) rfl ?_
    refine g_callv (X := _) (As := [.int (Int32.ofInt 1)]) (r := []) (b := A 109) (q := 109) 13 (gd rfl) rfl rfl rfl rfl rfl (ww_o rfl) (Nat.le_of_ble_eq_true rfl) (mc := 0) (ms := 0) (Nat.zero_le _) (Nat.zero_le _) (P := fun v u => _) ?_ (fun e u h => h) (fun v u h => h)
    intro po123 xx124 hp125 hx126
    refine g_enter2 (k := 271) (N := 300) (by omega) rfl (Nat.le_of_ble_eq_true rfl) ?_
    refine g_aload_n 1 (gd rfl) rfl rfl ?_
    refine g_iload_n 2 (gd rfl) rfl rfl ?_
    refine g_iconst 1 3 (gd rfl) rfl rfl ?_
    refine g_callv (X := _) (As := [.int (Int32.ofInt 1), .int (Int32.ofInt 1)]) (r := []) (b := A 109) (q := 109) 6 (gd rfl) rfl rfl rfl rfl rfl (ww_o rfl) (Nat.le_of_ble_eq_true rfl) (mc := 0) (ms := 0) (Nat.zero_le _) (Nat.zero_le _) (P := fun v u => _) ?_ (fun e u h => h) (fun v u h => h)
    intro po127 xx128 hp129 hx130
    refine g_enter2 (k := 270) (N := 300) (by omega) rfl (Nat.le_of_ble_eq_true rfl) ?_
    refine g_aload_n 1 (gd rfl) rfl rfl ?_
    refine g_iload_n 2 (gd rfl) rfl rfl ?_
    refine g_if_ne 5 9 (gd rfl) rfl rfl (fun c131 => ?_) (fun c131 => ?_)
    · skip
      refine g_iload_n 10 (gd rfl) rfl rfl ?_
      refine g_if_ne 13 17 (gd rfl) rfl rfl (fun c132 => ?_) (fun c132 => ?_)
      · skip
        refine g_iconst 0 18 (gd rfl) rfl rfl ?_
        refine g_putI 21 (gd rfl) rfl rfl rfl rfl ?_
        have hI133 := inv_sF (q := 109) (j := 0) hI rfl (in_w 0 2 (in_c 0 rfl) rfl)
        refine g_aload_n 22 (gd rfl) rfl rfl ?_
        refine g_getI 25 (gd rfl) rfl rfl rfl (fun z134 e135 => ?_)
        have q136 : (Int32.ofInt 0) = z134 := (sF_get).trans e135.symm
        subst q136
        refine g_if_le 28 32 (gd rfl) rfl rfl (fun c137 => ?_) (fun c137 => ?_)
        · skip
          refine g_iconst 0 33 (gd rfl) rfl rfl ?_
          refine g_ireturn (gd rfl) rfl (nb01 (in_w 0 1 (in_c 0 rfl) rfl)) (hp129 _ _ ?_)
          show GG _ _ _ _ _ _ _ _ [.int (Int32.ofInt 0)] _ _ _
          refine g_ireturn (gd rfl) rfl (nb01 (in_w 0 1 (in_c 0 rfl) rfl)) (hp125 _ _ ?_)
          show GG _ _ _ _ _ _ _ _ [.int (Int32.ofInt 0)] _ _ _
          refine g_if_eq 16 18 (gd rfl) rfl rfl (fun c138 => ?_) (fun c138 => ?_)
          · skip
            refine g_iconst 0 19 (gd rfl) rfl rfl ?_
            refine g_istore_n 20 (gd rfl) rfl (Nat.le_of_ble_eq_true rfl) ?_
            refine g_iconst (-1) 21 (gd rfl) rfl rfl ?_
            refine g_istore_n 22 (gd rfl) rfl (Nat.le_of_ble_eq_true rfl) ?_
            refine g_iconst (-1) 23 (gd rfl) rfl rfl ?_
            refine g_istore 25 (gd rfl) rfl (Nat.le_of_ble_eq_true rfl) ?_
            refine g_iconst 0 26 (gd rfl) rfl rfl ?_
            refine g_istore 28 (gd rfl) rfl (Nat.le_of_ble_eq_true rfl) ?_
            exact gg_w (by omega) (gg_f (gf_cons rfl (gf_cons rfl (gf_cons rfl (gf_cons rfl (gf_cons rfl (gf_cons rfl gf_nil)))))) (ct28 33 (sF s 109 0 (Int32.ofInt 0)) (Int32.ofInt 0) (Int32.ofInt (-1)) (Int32.ofInt (-1)) (Int32.ofInt 0) hI133 (in_w 0 2147483647 i122 rfl) (in_w (-1) 31 (in_c (-1) rfl) rfl) (in_w (-1) 31 (in_c (-1) rfl) rfl) (in_w 0 32 (in_c 0 rfl) rfl) (m_in 33 (in_w 0 32 (in_c 0 rfl) rfl) rfl)))
          · skip
            exact zn_ne c138 (in_c 0 rfl) rfl
        · skip
          exact zn_gt c137 (in_c 0 rfl) rfl
      · skip
        exact zn_eq c132 (in_c 1 rfl) rfl
    · skip
      exact zn_eq c131 (in_c 1 rfl) rfl

/-- GraphHouseModel.jointsWith -/
theorem k_333 {Z : AmZ} {A : Nat → Nat} {s : GS} {ex : va_W} {d : Nat} {X : AmX} {x1 : Int32} {x2 : Int32} (hd : 3 ≤ d) (hI : Inv s) (h1 : In x1 0 31) : GC Z d 333 [.ref (A 109), .int x1, .int x2] (WW Z A s ++ ex) 0 0 (fun v u => ∃ z : Int32, v = some (.int z) ∧ u = WW Z A s ++ ex ∧ In z 0 160) X := by
  intro post xp hP hX
  have ct5 : ∀ (k5 : Nat) (y5_3 : Int32) (y5_4 : Int32), In y5_3 0 160 → In y5_4 0 160 → (y5_3).toInt ≤ (y5_4).toInt + 0 → 160 - (y5_4).toInt < (k5 : Int) → GG Z (d - 1) 333 post (gx xp) (1 + k5 * 900) 5 (fun j => xlook j [(0, .ref (A 109)), (1, .int x1), (2, .int x2), (3, .int y5_3), (4, .int y5_4)]) [] (WW Z A s ++ ex) 0 0 := by
    intro k5
    induction k5 with
    | zero => intro y5_3 y5_4 j5_3 j5_4 l5_3 mm5; exact m_no mm5 j5_4 rfl
    | succ k5 ih5 =>
      intro y5_3 y5_4 j5_3 j5_4 l5_3 mm5
      refine gg_w (M := 1 + k5 * 900 + 900) (by omega) ?_
      refine g_iload 7 (gd rfl) rfl rfl ?_
      refine g_sipush 160 10 (gd rfl) rfl rfl ?_
      refine g_cmp_ge 13 94 (gd rfl) rfl rfl (fun c1 => ?_) (fun c1 => ?_)
      · skip
        have i2 := r_le2 160 160 c1 (in_c 160 rfl) j5_4 rfl
        refine g_iload_n 95 (gd rfl) rfl rfl ?_
        exact g_ireturn (gd rfl) rfl rfl (hP _ _ ⟨y5_3, rfl, rfl, in_w 0 160 j5_3 rfl⟩)
      · skip
        have i3 := r_lt1 0 159 c1 j5_4 (in_c 160 rfl) rfl
        refine g_aload_n 14 (gd rfl) rfl rfl ?_
        refine g_iload 16 (gd rfl) rfl rfl ?_
        refine g_callv (X := _) (As := [.int y5_4]) (r := []) (b := A 109) (q := 109) 19 (gd rfl) rfl rfl rfl rfl rfl (ww_o rfl) (Nat.le_of_ble_eq_true rfl) (mc := 0) (ms := 0) (Nat.zero_le _) (Nat.zero_le _) (P := fun v u => _) ?_ (fun e u h => h) (fun v u h => h)
        intro po4 xx5 hp6 hx7
        refine g_enter2 (k := 288) (N := 300) (by omega) rfl (Nat.le_of_ble_eq_true rfl) ?_
        refine g_aload_n 1 (gd rfl) rfl rfl ?_
        refine g_getA (q2 := 112) 4 (gd rfl) rfl rfl rfl rfl rfl ?_
        refine g_aload_n 5 (gd rfl) rfl rfl ?_
        refine g_getI 8 (gd rfl) rfl rfl rfl (fun z8 e9 => ?_)
        have i10 := inv_F hI 0 160 rfl e9
        refine g_iload_n 9 (gd rfl) rfl rfl ?_
        refine g_iadd 10 (gd rfl) rfl (fun z11 e12 => ?_)
        have i13 := in_add 0 319 e12 i10 i3 rfl rfl
        refine g_baload 11 (gd rfl) rfl (n := 480) rfl (in_ix i13 rfl) (fun z14 e15 => ?_)
        have i16 := inv_I hI (n := 480) (t := 3) 0 1 rfl (in_ix i13 rfl) rfl e15
        refine g_if_eq 14 43 (gd rfl) rfl rfl (fun c17 => ?_) (fun c17 => ?_)
        · skip
          have i18 := z_eq 0 0 c17 i16 rfl
          refine g_iconst 0 44 (gd rfl) rfl rfl ?_
          refine g_ireturn (gd rfl) rfl (nb01 (in_w 0 1 (in_c 0 rfl) rfl)) (hp6 _ _ ?_)
          show GG _ _ _ _ _ _ _ _ [.int (Int32.ofInt 0)] _ _ _
          refine g_if_eq 22 88 (gd rfl) rfl rfl (fun c19 => ?_) (fun c19 => ?_)
          · skip
            refine g_iinc 91 (gd rfl) rfl rfl (Nat.le_of_ble_eq_true rfl) (fun z20 e21 => ?_)
            have i22 := in_add 1 160 e21 i3 (in_c 1 rfl) rfl rfl
            refine g_goto 5 (gd rfl) rfl ?_
            have l23 := rl_0 l5_3 (t_add e21 i3 (in_c 1 rfl) rfl) (in_w 0 1 (in_c 1 rfl) rfl)
            exact gg_w (by omega) (gg_f (gf_cons rfl (gf_cons rfl (gf_cons rfl (gf_cons rfl (gf_cons rfl gf_nil))))) (ih5  y5_3 z20  (rl_w 0 160 l23 j5_3 (in_w 0 160 i22 rfl) rfl) (in_w 0 160 i22 rfl) l23 (m_up mm5 (t_add e21 i3 (in_c 1 rfl) rfl) (in_w 1 1 (in_c 1 rfl) rfl))))
          · skip
            exact zn_ne c19 (in_c 0 rfl) rfl
        · skip
          have i24 := z_ne 1 1 c17 i16 rfl
          refine g_aload_n 15 (gd rfl) rfl rfl ?_
          refine g_getA (q2 := 113) 18 (gd rfl) rfl rfl rfl rfl rfl ?_
          refine g_aload_n 19 (gd rfl) rfl rfl ?_
          refine g_getI 22 (gd rfl) rfl rfl rfl (fun z25 e26 => ?_)
          have q27 : z8 = z25 := (e9).trans e26.symm
          subst q27
          refine g_iload_n 23 (gd rfl) rfl rfl ?_
          refine g_iadd 24 (gd rfl) rfl (fun z28 e29 => ?_)
          have i30 := in_add 0 319 e29 i10 i3 rfl rfl
          refine g_iaload 25 (gd rfl) rfl (n := 480) rfl (in_ix i30 rfl) (fun z31 e32 => ?_)
          have i33 := inv_I hI (n := 480) (t := 0) 0 31 rfl (in_ix i30 rfl) rfl e32
          refine g_aload_n 26 (gd rfl) rfl rfl ?_
          refine g_getA (q2 := 114) 29 (gd rfl) rfl rfl rfl rfl rfl ?_
          refine g_aload_n 30 (gd rfl) rfl rfl ?_
          refine g_getI 33 (gd rfl) rfl rfl rfl (fun z34 e35 => ?_)
          have q36 : z8 = z34 := (e9).trans e35.symm
          subst q36
          refine g_iload_n 34 (gd rfl) rfl rfl ?_
          refine g_iadd 35 (gd rfl) rfl (fun z37 e38 => ?_)
          have i39 := in_add 0 319 e38 i10 i3 rfl rfl
          refine g_iaload 36 (gd rfl) rfl (n := 480) rfl (in_ix i39 rfl) (fun z40 e41 => ?_)
          have i42 := inv_I hI (n := 480) (t := 0) 0 31 rfl (in_ix i39 rfl) rfl e41
          refine g_cmp_eq 39 43 (gd rfl) rfl rfl (fun c43 => ?_) (fun c43 => ?_)
          · skip
            refine g_iconst 0 44 (gd rfl) rfl rfl ?_
            refine g_ireturn (gd rfl) rfl (nb01 (in_w 0 1 (in_c 0 rfl) rfl)) (hp6 _ _ ?_)
            show GG _ _ _ _ _ _ _ _ [.int (Int32.ofInt 0)] _ _ _
            refine g_if_eq 22 88 (gd rfl) rfl rfl (fun c44 => ?_) (fun c44 => ?_)
            · skip
              refine g_iinc 91 (gd rfl) rfl rfl (Nat.le_of_ble_eq_true rfl) (fun z45 e46 => ?_)
              have i47 := in_add 1 160 e46 i3 (in_c 1 rfl) rfl rfl
              refine g_goto 5 (gd rfl) rfl ?_
              have l48 := rl_0 l5_3 (t_add e46 i3 (in_c 1 rfl) rfl) (in_w 0 1 (in_c 1 rfl) rfl)
              exact gg_w (by omega) (gg_f (gf_cons rfl (gf_cons rfl (gf_cons rfl (gf_cons rfl (gf_cons rfl gf_nil))))) (ih5  y5_3 z45  (rl_w 0 160 l48 j5_3 (in_w 0 160 i47 rfl) rfl) (in_w 0 160 i47 rfl) l48 (m_up mm5 (t_add e46 i3 (in_c 1 rfl) rfl) (in_w 1 1 (in_c 1 rfl) rfl))))
            · skip
              exact zn_ne c44 (in_c 0 rfl) rfl
          · skip
            refine g_iconst 1 40 (gd rfl) rfl rfl ?_
            refine g_goto 44 (gd rfl) rfl ?_
            refine g_ireturn (gd rfl) rfl (nb01 (in_w 0 1 (in_c 1 rfl) rfl)) (hp6 _ _ ?_)
            show GG _ _ _ _ _ _ _ _ [.int (Int32.ofInt 1)] _ _ _
            refine g_if_eq 22 88 (gd rfl) rfl rfl (fun c49 => ?_) (fun c49 => ?_)
            · skip
              exact zn_eq c49 (in_c 1 rfl) rfl
            · skip
              refine g_aload_n 23 (gd rfl) rfl rfl ?_
              refine g_getA (q2 := 113) 26 (gd rfl) rfl rfl rfl rfl rfl ?_
              refine g_aload_n 27 (gd rfl) rfl rfl ?_
              refine g_getI 30 (gd rfl) rfl rfl rfl (fun z50 e51 => ?_)
              have q52 : z8 = z50 := (e9).trans e51.symm
              subst q52
              refine g_iload 32 (gd rfl) rfl rfl ?_
              refine g_iadd 33 (gd rfl) rfl (fun z53 e54 => ?_)
              have i55 := in_add 0 319 e54 i10 i3 rfl rfl
              refine g_iaload 34 (gd rfl) rfl (n := 480) rfl (in_ix i55 rfl) (fun z56 e57 => ?_)
              have i58 := inv_I hI (n := 480) (t := 0) 0 31 rfl (in_ix i55 rfl) rfl e57
              refine g_istore 36 (gd rfl) rfl (Nat.le_of_ble_eq_true rfl) ?_
              refine g_aload_n 37 (gd rfl) rfl rfl ?_
              refine g_getA (q2 := 114) 40 (gd rfl) rfl rfl rfl rfl rfl ?_
              refine g_aload_n 41 (gd rfl) rfl rfl ?_
              refine g_getI 44 (gd rfl) rfl rfl rfl (fun z59 e60 => ?_)
              have q61 : z8 = z59 := (e9).trans e60.symm
              subst q61
              refine g_iload 46 (gd rfl) rfl rfl ?_
              refine g_iadd 47 (gd rfl) rfl (fun z62 e63 => ?_)
              have i64 := in_add 0 319 e63 i10 i3 rfl rfl
              refine g_iaload 48 (gd rfl) rfl (n := 480) rfl (in_ix i64 rfl) (fun z65 e66 => ?_)
              have i67 := inv_I hI (n := 480) (t := 0) 0 31 rfl (in_ix i64 rfl) rfl e66
              refine g_istore 50 (gd rfl) rfl (Nat.le_of_ble_eq_true rfl) ?_
              refine g_iload_n 51 (gd rfl) rfl rfl ?_
              refine g_iload 53 (gd rfl) rfl rfl ?_
              refine g_iload_n 54 (gd rfl) rfl rfl ?_
              refine g_cmp_ne 57 66 (gd rfl) rfl rfl (fun c68 => ?_) (fun c68 => ?_)
              · skip
                refine g_iload 68 (gd rfl) rfl rfl ?_
                refine g_iload_n 69 (gd rfl) rfl rfl ?_
                refine g_cmp_ne 72 85 (gd rfl) rfl rfl (fun c69 => ?_) (fun c69 => ?_)
                · skip
                  refine g_iconst 0 86 (gd rfl) rfl rfl ?_
                  refine g_iadd 87 (gd rfl) rfl (fun z70 e71 => ?_)
                  have i72 := in_add 0 160 e71 j5_3 (in_c 0 rfl) rfl rfl
                  refine g_istore_n 88 (gd rfl) rfl (Nat.le_of_ble_eq_true rfl) ?_
                  refine g_iinc 91 (gd rfl) rfl rfl (Nat.le_of_ble_eq_true rfl) (fun z73 e74 => ?_)
                  have i75 := in_add 1 160 e74 i3 (in_c 1 rfl) rfl rfl
                  refine g_goto 5 (gd rfl) rfl ?_
                  have l76 := rl_1 l5_3 (t_add e71 j5_3 (in_c 0 rfl) rfl) (in_c 0 rfl) (t_add e74 i3 (in_c 1 rfl) rfl) (in_c 1 rfl) rfl
                  exact gg_w (by omega) (gg_f (gf_cons rfl (gf_cons rfl (gf_cons rfl (gf_cons rfl (gf_cons rfl gf_nil))))) (ih5  z70 z73  (rl_w 0 160 l76 i72 (in_w 0 160 i75 rfl) rfl) (in_w 0 160 i75 rfl) l76 (m_up mm5 (t_add e74 i3 (in_c 1 rfl) rfl) (in_w 1 1 (in_c 1 rfl) rfl))))
                · skip
                  refine g_iload_n 73 (gd rfl) rfl rfl ?_
                  refine g_iload 75 (gd rfl) rfl rfl ?_
                  refine g_calls (As := [.int x2, .int z56]) (r := [.int y5_3]) 78 (gd rfl) rfl rfl rfl rfl rfl (Nat.le_of_ble_eq_true rfl) (mc := 0) (ms := 0) (Nat.zero_le _) (Nat.zero_le _) (P := fun v u => _) ?_ (fun v u h => h)
                  intro po77 xx78 hp79 hx80
                  refine g_enter2 (k := 311) (N := 300) (by omega) rfl (Nat.le_of_ble_eq_true rfl) ?_
                  refine g_iload_n 1 (gd rfl) rfl rfl ?_
                  refine g_iload_n 2 (gd rfl) rfl rfl ?_
                  refine g_ishr 3 (gd rfl) rfl (fun z81 e82 => ?_)
                  refine g_iconst 1 4 (gd rfl) rfl rfl ?_
                  refine g_iand 5 (gd rfl) rfl (fun z83 e84 => ?_)
                  have i85 := in_and2 e84 (in_c 1 rfl) rfl
                  refine g_iconst 1 6 (gd rfl) rfl rfl ?_
                  refine g_cmp_ne 9 13 (gd rfl) rfl rfl (fun c86 => ?_) (fun c86 => ?_)
                  · skip
                    have i87 := r_ne1 0 0 c86 i85 (in_c 1 rfl) rfl
                    refine g_iconst 0 14 (gd rfl) rfl rfl ?_
                    refine g_ireturn (gd rfl) rfl (nb01 (in_w 0 1 (in_c 0 rfl) rfl)) (hp79 _ _ ?_)
                    show GG _ _ _ _ _ _ _ _ [.int (Int32.ofInt 0), .int y5_3] _ _ _
                    refine g_if_eq 81 85 (gd rfl) rfl rfl (fun c88 => ?_) (fun c88 => ?_)
                    · skip
                      refine g_iconst 0 86 (gd rfl) rfl rfl ?_
                      refine g_iadd 87 (gd rfl) rfl (fun z89 e90 => ?_)
                      have i91 := in_add 0 160 e90 j5_3 (in_c 0 rfl) rfl rfl
                      refine g_istore_n 88 (gd rfl) rfl (Nat.le_of_ble_eq_true rfl) ?_
                      refine g_iinc 91 (gd rfl) rfl rfl (Nat.le_of_ble_eq_true rfl) (fun z92 e93 => ?_)
                      have i94 := in_add 1 160 e93 i3 (in_c 1 rfl) rfl rfl
                      refine g_goto 5 (gd rfl) rfl ?_
                      have l95 := rl_1 l5_3 (t_add e90 j5_3 (in_c 0 rfl) rfl) (in_c 0 rfl) (t_add e93 i3 (in_c 1 rfl) rfl) (in_c 1 rfl) rfl
                      exact gg_w (by omega) (gg_f (gf_cons rfl (gf_cons rfl (gf_cons rfl (gf_cons rfl (gf_cons rfl gf_nil))))) (ih5  z89 z92  (rl_w 0 160 l95 i91 (in_w 0 160 i94 rfl) rfl) (in_w 0 160 i94 rfl) l95 (m_up mm5 (t_add e93 i3 (in_c 1 rfl) rfl) (in_w 1 1 (in_c 1 rfl) rfl))))
                    · skip
                      exact zn_ne c88 (in_c 0 rfl) rfl
                  · skip
                    have i96 := r_eq1 1 1 c86 i85 (in_c 1 rfl) rfl
                    refine g_iconst 1 10 (gd rfl) rfl rfl ?_
                    refine g_goto 14 (gd rfl) rfl ?_
                    refine g_ireturn (gd rfl) rfl (nb01 (in_w 0 1 (in_c 1 rfl) rfl)) (hp79 _ _ ?_)
                    show GG _ _ _ _ _ _ _ _ [.int (Int32.ofInt 1), .int y5_3] _ _ _
                    refine g_if_eq 81 85 (gd rfl) rfl rfl (fun c97 => ?_) (fun c97 => ?_)
                    · skip
                      exact zn_eq c97 (in_c 1 rfl) rfl
                    · skip
                      refine g_iconst 1 82 (gd rfl) rfl rfl ?_
                      refine g_goto 86 (gd rfl) rfl ?_
                      refine g_iadd 87 (gd rfl) rfl (fun z98 e99 => ?_)
                      have i100 := in_add 1 161 e99 j5_3 (in_c 1 rfl) rfl rfl
                      refine g_istore_n 88 (gd rfl) rfl (Nat.le_of_ble_eq_true rfl) ?_
                      refine g_iinc 91 (gd rfl) rfl rfl (Nat.le_of_ble_eq_true rfl) (fun z101 e102 => ?_)
                      have i103 := in_add 1 160 e102 i3 (in_c 1 rfl) rfl rfl
                      refine g_goto 5 (gd rfl) rfl ?_
                      have l104 := rl_1 l5_3 (t_add e99 j5_3 (in_c 1 rfl) rfl) (in_c 1 rfl) (t_add e102 i3 (in_c 1 rfl) rfl) (in_c 1 rfl) rfl
                      exact gg_w (by omega) (gg_f (gf_cons rfl (gf_cons rfl (gf_cons rfl (gf_cons rfl (gf_cons rfl gf_nil))))) (ih5  z98 z101  (rl_w 0 160 l104 i100 (in_w 0 160 i103 rfl) rfl) (in_w 0 160 i103 rfl) l104 (m_up mm5 (t_add e102 i3 (in_c 1 rfl) rfl) (in_w 1 1 (in_c 1 rfl) rfl))))
              · skip
                refine g_iload_n 58 (gd rfl) rfl rfl ?_
                refine g_iload 60 (gd rfl) rfl rfl ?_
                refine g_calls (As := [.int x2, .int z65]) (r := [.int y5_3]) 63 (gd rfl) rfl rfl rfl rfl rfl (Nat.le_of_ble_eq_true rfl) (mc := 0) (ms := 0) (Nat.zero_le _) (Nat.zero_le _) (P := fun v u => _) ?_ (fun v u h => h)
                intro po105 xx106 hp107 hx108
                refine g_enter2 (k := 311) (N := 300) (by omega) rfl (Nat.le_of_ble_eq_true rfl) ?_
                refine g_iload_n 1 (gd rfl) rfl rfl ?_
                refine g_iload_n 2 (gd rfl) rfl rfl ?_
                refine g_ishr 3 (gd rfl) rfl (fun z109 e110 => ?_)
                refine g_iconst 1 4 (gd rfl) rfl rfl ?_
                refine g_iand 5 (gd rfl) rfl (fun z111 e112 => ?_)
                have i113 := in_and2 e112 (in_c 1 rfl) rfl
                refine g_iconst 1 6 (gd rfl) rfl rfl ?_
                refine g_cmp_ne 9 13 (gd rfl) rfl rfl (fun c114 => ?_) (fun c114 => ?_)
                · skip
                  have i115 := r_ne1 0 0 c114 i113 (in_c 1 rfl) rfl
                  refine g_iconst 0 14 (gd rfl) rfl rfl ?_
                  refine g_ireturn (gd rfl) rfl (nb01 (in_w 0 1 (in_c 0 rfl) rfl)) (hp107 _ _ ?_)
                  show GG _ _ _ _ _ _ _ _ [.int (Int32.ofInt 0), .int y5_3] _ _ _
                  refine g_if_ne 66 81 (gd rfl) rfl rfl (fun c116 => ?_) (fun c116 => ?_)
                  · skip
                    exact zn_ne c116 (in_c 0 rfl) rfl
                  · skip
                    refine g_iload 68 (gd rfl) rfl rfl ?_
                    refine g_iload_n 69 (gd rfl) rfl rfl ?_
                    refine g_cmp_ne 72 85 (gd rfl) rfl rfl (fun c117 => ?_) (fun c117 => ?_)
                    · skip
                      refine g_iconst 0 86 (gd rfl) rfl rfl ?_
                      refine g_iadd 87 (gd rfl) rfl (fun z118 e119 => ?_)
                      have i120 := in_add 0 160 e119 j5_3 (in_c 0 rfl) rfl rfl
                      refine g_istore_n 88 (gd rfl) rfl (Nat.le_of_ble_eq_true rfl) ?_
                      refine g_iinc 91 (gd rfl) rfl rfl (Nat.le_of_ble_eq_true rfl) (fun z121 e122 => ?_)
                      have i123 := in_add 1 160 e122 i3 (in_c 1 rfl) rfl rfl
                      refine g_goto 5 (gd rfl) rfl ?_
                      have l124 := rl_1 l5_3 (t_add e119 j5_3 (in_c 0 rfl) rfl) (in_c 0 rfl) (t_add e122 i3 (in_c 1 rfl) rfl) (in_c 1 rfl) rfl
                      exact gg_w (by omega) (gg_f (gf_cons rfl (gf_cons rfl (gf_cons rfl (gf_cons rfl (gf_cons rfl gf_nil))))) (ih5  z118 z121  (rl_w 0 160 l124 i120 (in_w 0 160 i123 rfl) rfl) (in_w 0 160 i123 rfl) l124 (m_up mm5 (t_add e122 i3 (in_c 1 rfl) rfl) (in_w 1 1 (in_c 1 rfl) rfl))))
                    · skip
                      refine g_iload_n 73 (gd rfl) rfl rfl ?_
                      refine g_iload 75 (gd rfl) rfl rfl ?_
                      refine g_calls (As := [.int x2, .int z56]) (r := [.int y5_3]) 78 (gd rfl) rfl rfl rfl rfl rfl (Nat.le_of_ble_eq_true rfl) (mc := 0) (ms := 0) (Nat.zero_le _) (Nat.zero_le _) (P := fun v u => _) ?_ (fun v u h => h)
                      intro po125 xx126 hp127 hx128
                      refine g_enter2 (k := 311) (N := 300) (by omega) rfl (Nat.le_of_ble_eq_true rfl) ?_
                      refine g_iload_n 1 (gd rfl) rfl rfl ?_
                      refine g_iload_n 2 (gd rfl) rfl rfl ?_
                      refine g_ishr 3 (gd rfl) rfl (fun z129 e130 => ?_)
                      refine g_iconst 1 4 (gd rfl) rfl rfl ?_
                      refine g_iand 5 (gd rfl) rfl (fun z131 e132 => ?_)
                      have i133 := in_and2 e132 (in_c 1 rfl) rfl
                      refine g_iconst 1 6 (gd rfl) rfl rfl ?_
                      refine g_cmp_ne 9 13 (gd rfl) rfl rfl (fun c134 => ?_) (fun c134 => ?_)
                      · skip
                        have i135 := r_ne1 0 0 c134 i133 (in_c 1 rfl) rfl
                        refine g_iconst 0 14 (gd rfl) rfl rfl ?_
                        refine g_ireturn (gd rfl) rfl (nb01 (in_w 0 1 (in_c 0 rfl) rfl)) (hp127 _ _ ?_)
                        show GG _ _ _ _ _ _ _ _ [.int (Int32.ofInt 0), .int y5_3] _ _ _
                        refine g_if_eq 81 85 (gd rfl) rfl rfl (fun c136 => ?_) (fun c136 => ?_)
                        · skip
                          refine g_iconst 0 86 (gd rfl) rfl rfl ?_
                          refine g_iadd 87 (gd rfl) rfl (fun z137 e138 => ?_)
                          have i139 := in_add 0 160 e138 j5_3 (in_c 0 rfl) rfl rfl
                          refine g_istore_n 88 (gd rfl) rfl (Nat.le_of_ble_eq_true rfl) ?_
                          refine g_iinc 91 (gd rfl) rfl rfl (Nat.le_of_ble_eq_true rfl) (fun z140 e141 => ?_)
                          have i142 := in_add 1 160 e141 i3 (in_c 1 rfl) rfl rfl
                          refine g_goto 5 (gd rfl) rfl ?_
                          have l143 := rl_1 l5_3 (t_add e138 j5_3 (in_c 0 rfl) rfl) (in_c 0 rfl) (t_add e141 i3 (in_c 1 rfl) rfl) (in_c 1 rfl) rfl
                          exact gg_w (by omega) (gg_f (gf_cons rfl (gf_cons rfl (gf_cons rfl (gf_cons rfl (gf_cons rfl gf_nil))))) (ih5  z137 z140  (rl_w 0 160 l143 i139 (in_w 0 160 i142 rfl) rfl) (in_w 0 160 i142 rfl) l143 (m_up mm5 (t_add e141 i3 (in_c 1 rfl) rfl) (in_w 1 1 (in_c 1 rfl) rfl))))
                        · skip
                          exact zn_ne c136 (in_c 0 rfl) rfl
                      · skip
                        have i144 := r_eq1 1 1 c134 i133 (in_c 1 rfl) rfl
                        refine g_iconst 1 10 (gd rfl) rfl rfl ?_
                        refine g_goto 14 (gd rfl) rfl ?_
                        refine g_ireturn (gd rfl) rfl (nb01 (in_w 0 1 (in_c 1 rfl) rfl)) (hp127 _ _ ?_)
                        show GG _ _ _ _ _ _ _ _ [.int (Int32.ofInt 1), .int y5_3] _ _ _
                        refine g_if_eq 81 85 (gd rfl) rfl rfl (fun c145 => ?_) (fun c145 => ?_)
                        · skip
                          exact zn_eq c145 (in_c 1 rfl) rfl
                        · skip
                          refine g_iconst 1 82 (gd rfl) rfl rfl ?_
                          refine g_goto 86 (gd rfl) rfl ?_
                          refine g_iadd 87 (gd rfl) rfl (fun z146 e147 => ?_)
                          have i148 := in_add 1 161 e147 j5_3 (in_c 1 rfl) rfl rfl
                          refine g_istore_n 88 (gd rfl) rfl (Nat.le_of_ble_eq_true rfl) ?_
                          refine g_iinc 91 (gd rfl) rfl rfl (Nat.le_of_ble_eq_true rfl) (fun z149 e150 => ?_)
                          have i151 := in_add 1 160 e150 i3 (in_c 1 rfl) rfl rfl
                          refine g_goto 5 (gd rfl) rfl ?_
                          have l152 := rl_1 l5_3 (t_add e147 j5_3 (in_c 1 rfl) rfl) (in_c 1 rfl) (t_add e150 i3 (in_c 1 rfl) rfl) (in_c 1 rfl) rfl
                          exact gg_w (by omega) (gg_f (gf_cons rfl (gf_cons rfl (gf_cons rfl (gf_cons rfl (gf_cons rfl gf_nil))))) (ih5  z146 z149  (rl_w 0 160 l152 i148 (in_w 0 160 i151 rfl) rfl) (in_w 0 160 i151 rfl) l152 (m_up mm5 (t_add e150 i3 (in_c 1 rfl) rfl) (in_w 1 1 (in_c 1 rfl) rfl))))
                · skip
                  have i153 := r_eq1 1 1 c114 i113 (in_c 1 rfl) rfl
                  refine g_iconst 1 10 (gd rfl) rfl rfl ?_
                  refine g_goto 14 (gd rfl) rfl ?_
                  refine g_ireturn (gd rfl) rfl (nb01 (in_w 0 1 (in_c 1 rfl) rfl)) (hp107 _ _ ?_)
                  show GG _ _ _ _ _ _ _ _ [.int (Int32.ofInt 1), .int y5_3] _ _ _
                  refine g_if_ne 66 81 (gd rfl) rfl rfl (fun c154 => ?_) (fun c154 => ?_)
                  · skip
                    refine g_iconst 1 82 (gd rfl) rfl rfl ?_
                    refine g_goto 86 (gd rfl) rfl ?_
                    refine g_iadd 87 (gd rfl) rfl (fun z155 e156 => ?_)
                    have i157 := in_add 1 161 e156 j5_3 (in_c 1 rfl) rfl rfl
                    refine g_istore_n 88 (gd rfl) rfl (Nat.le_of_ble_eq_true rfl) ?_
                    refine g_iinc 91 (gd rfl) rfl rfl (Nat.le_of_ble_eq_true rfl) (fun z158 e159 => ?_)
                    have i160 := in_add 1 160 e159 i3 (in_c 1 rfl) rfl rfl
                    refine g_goto 5 (gd rfl) rfl ?_
                    have l161 := rl_1 l5_3 (t_add e156 j5_3 (in_c 1 rfl) rfl) (in_c 1 rfl) (t_add e159 i3 (in_c 1 rfl) rfl) (in_c 1 rfl) rfl
                    exact gg_w (by omega) (gg_f (gf_cons rfl (gf_cons rfl (gf_cons rfl (gf_cons rfl (gf_cons rfl gf_nil))))) (ih5  z155 z158  (rl_w 0 160 l161 i157 (in_w 0 160 i160 rfl) rfl) (in_w 0 160 i160 rfl) l161 (m_up mm5 (t_add e159 i3 (in_c 1 rfl) rfl) (in_w 1 1 (in_c 1 rfl) rfl))))
                  · skip
                    exact zn_eq c154 (in_c 1 rfl) rfl
  refine g_enter2 (k := 333) (N := 145801) (by omega) rfl (Nat.le_of_ble_eq_true rfl) ?_
  refine g_iconst 0 1 (gd rfl) rfl rfl ?_
  refine g_istore_n 2 (gd rfl) rfl (Nat.le_of_ble_eq_true rfl) ?_
  refine g_iconst 0 3 (gd rfl) rfl rfl ?_
  refine g_istore 5 (gd rfl) rfl (Nat.le_of_ble_eq_true rfl) ?_
  have l162 := rl_in 0 (in_c 0 rfl) (in_c 0 rfl) rfl
  exact gg_w (by omega) (gg_f (gf_cons rfl (gf_cons rfl (gf_cons rfl (gf_cons rfl (gf_cons rfl gf_nil))))) (ct5 161  (Int32.ofInt 0) (Int32.ofInt 0)  (rl_w 0 160 l162 (in_c 0 rfl) (in_w 0 160 (in_c 0 rfl) rfl) rfl) (in_w 0 160 (in_c 0 rfl) rfl) l162 (m_in 161 (in_w 0 160 (in_c 0 rfl) rfl) rfl)))

/-- GraphHouseModel.findBeside -/
theorem k_335 {Z : AmZ} {A : Nat → Nat} {s : GS} {ex : va_W} {d : Nat} {X : AmX}  (hd : 3 ≤ d) (hI : Inv s)  : GC Z d 335 [.ref (A 109)] (WW Z A s ++ ex) 0 0 (fun v u => ∃ t : GS, Inv t ∧ v = none ∧ u = WW Z A t ++ ex) X := by
  intro post xp hP hX
  have ct25 : ∀ (k25 : Nat) (s : GS) (y25_1 : Int32), Inv s → In y25_1 0 160 → 160 - (y25_1).toInt < (k25 : Int) → GG Z (d - 1) 335 post (gx xp) (1 + k25 * 900) 25 (fun j => xlook j [(0, .ref (A 109)), (1, .int y25_1)]) [] (WW Z A s ++ ex) 0 0 := by
    intro k25
    induction k25 with
    | zero => intro s y25_1 hI j25_1 mm25; exact m_no mm25 j25_1 rfl
    | succ k25 ih25 =>
      intro s y25_1 hI j25_1 mm25
      refine gg_w (M := 1 + k25 * 900 + 900) (by omega) ?_
      refine g_iload_n 26 (gd rfl) rfl rfl ?_
      refine g_sipush 160 29 (gd rfl) rfl rfl ?_
      refine g_cmp_ge 32 110 (gd rfl) rfl rfl (fun c1 => ?_) (fun c1 => ?_)
      · skip
        have i2 := r_le2 160 160 c1 (in_c 160 rfl) j25_1 rfl
        exact g_return (gd rfl) rfl (hP _ _ ⟨s, hI, rfl, rfl⟩)
      · skip
        have i3 := r_lt1 0 159 c1 j25_1 (in_c 160 rfl) rfl
        refine g_aload_n 33 (gd rfl) rfl rfl ?_
        refine g_iload_n 34 (gd rfl) rfl rfl ?_
        refine g_callv (X := _) (As := [.int y25_1]) (r := []) (b := A 109) (q := 109) 37 (gd rfl) rfl rfl rfl rfl rfl (ww_o rfl) (Nat.le_of_ble_eq_true rfl) (mc := 0) (ms := 0) (Nat.zero_le _) (Nat.zero_le _) (P := fun v u => _) ?_ (fun e u h => h) (fun v u h => h)
        intro po4 xx5 hp6 hx7
        refine g_enter2 (k := 288) (N := 300) (by omega) rfl (Nat.le_of_ble_eq_true rfl) ?_
        refine g_aload_n 1 (gd rfl) rfl rfl ?_
        refine g_getA (q2 := 112) 4 (gd rfl) rfl rfl rfl rfl rfl ?_
        refine g_aload_n 5 (gd rfl) rfl rfl ?_
        refine g_getI 8 (gd rfl) rfl rfl rfl (fun z8 e9 => ?_)
        have i10 := inv_F hI 0 160 rfl e9
        refine g_iload_n 9 (gd rfl) rfl rfl ?_
        refine g_iadd 10 (gd rfl) rfl (fun z11 e12 => ?_)
        have i13 := in_add 0 319 e12 i10 i3 rfl rfl
        refine g_baload 11 (gd rfl) rfl (n := 480) rfl (in_ix i13 rfl) (fun z14 e15 => ?_)
        have i16 := inv_I hI (n := 480) (t := 3) 0 1 rfl (in_ix i13 rfl) rfl e15
        refine g_if_eq 14 43 (gd rfl) rfl rfl (fun c17 => ?_) (fun c17 => ?_)
        · skip
          have i18 := z_eq 0 0 c17 i16 rfl
          refine g_iconst 0 44 (gd rfl) rfl rfl ?_
          refine g_ireturn (gd rfl) rfl (nb01 (in_w 0 1 (in_c 0 rfl) rfl)) (hp6 _ _ ?_)
          show GG _ _ _ _ _ _ _ _ [.int (Int32.ofInt 0)] _ _ _
          refine g_if_eq 40 104 (gd rfl) rfl rfl (fun c19 => ?_) (fun c19 => ?_)
          · skip
            refine g_iinc 107 (gd rfl) rfl rfl (Nat.le_of_ble_eq_true rfl) (fun z20 e21 => ?_)
            have i22 := in_add 1 160 e21 i3 (in_c 1 rfl) rfl rfl
            refine g_goto 25 (gd rfl) rfl ?_
            exact gg_w (by omega) (gg_f (gf_cons rfl (gf_cons rfl gf_nil)) (ih25 s z20 hI (in_w 0 160 i22 rfl) (m_up mm25 (t_add e21 i3 (in_c 1 rfl) rfl) (in_w 1 1 (in_c 1 rfl) rfl))))
          · skip
            exact zn_ne c19 (in_c 0 rfl) rfl
        · skip
          have i23 := z_ne 1 1 c17 i16 rfl
          refine g_aload_n 15 (gd rfl) rfl rfl ?_
          refine g_getA (q2 := 113) 18 (gd rfl) rfl rfl rfl rfl rfl ?_
          refine g_aload_n 19 (gd rfl) rfl rfl ?_
          refine g_getI 22 (gd rfl) rfl rfl rfl (fun z24 e25 => ?_)
          have q26 : z8 = z24 := (e9).trans e25.symm
          subst q26
          refine g_iload_n 23 (gd rfl) rfl rfl ?_
          refine g_iadd 24 (gd rfl) rfl (fun z27 e28 => ?_)
          have i29 := in_add 0 319 e28 i10 i3 rfl rfl
          refine g_iaload 25 (gd rfl) rfl (n := 480) rfl (in_ix i29 rfl) (fun z30 e31 => ?_)
          have i32 := inv_I hI (n := 480) (t := 0) 0 31 rfl (in_ix i29 rfl) rfl e31
          refine g_aload_n 26 (gd rfl) rfl rfl ?_
          refine g_getA (q2 := 114) 29 (gd rfl) rfl rfl rfl rfl rfl ?_
          refine g_aload_n 30 (gd rfl) rfl rfl ?_
          refine g_getI 33 (gd rfl) rfl rfl rfl (fun z33 e34 => ?_)
          have q35 : z8 = z33 := (e9).trans e34.symm
          subst q35
          refine g_iload_n 34 (gd rfl) rfl rfl ?_
          refine g_iadd 35 (gd rfl) rfl (fun z36 e37 => ?_)
          have i38 := in_add 0 319 e37 i10 i3 rfl rfl
          refine g_iaload 36 (gd rfl) rfl (n := 480) rfl (in_ix i38 rfl) (fun z39 e40 => ?_)
          have i41 := inv_I hI (n := 480) (t := 0) 0 31 rfl (in_ix i38 rfl) rfl e40
          refine g_cmp_eq 39 43 (gd rfl) rfl rfl (fun c42 => ?_) (fun c42 => ?_)
          · skip
            refine g_iconst 0 44 (gd rfl) rfl rfl ?_
            refine g_ireturn (gd rfl) rfl (nb01 (in_w 0 1 (in_c 0 rfl) rfl)) (hp6 _ _ ?_)
            show GG _ _ _ _ _ _ _ _ [.int (Int32.ofInt 0)] _ _ _
            refine g_if_eq 40 104 (gd rfl) rfl rfl (fun c43 => ?_) (fun c43 => ?_)
            · skip
              refine g_iinc 107 (gd rfl) rfl rfl (Nat.le_of_ble_eq_true rfl) (fun z44 e45 => ?_)
              have i46 := in_add 1 160 e45 i3 (in_c 1 rfl) rfl rfl
              refine g_goto 25 (gd rfl) rfl ?_
              exact gg_w (by omega) (gg_f (gf_cons rfl (gf_cons rfl gf_nil)) (ih25 s z44 hI (in_w 0 160 i46 rfl) (m_up mm25 (t_add e45 i3 (in_c 1 rfl) rfl) (in_w 1 1 (in_c 1 rfl) rfl))))
            · skip
              exact zn_ne c43 (in_c 0 rfl) rfl
          · skip
            refine g_iconst 1 40 (gd rfl) rfl rfl ?_
            refine g_goto 44 (gd rfl) rfl ?_
            refine g_ireturn (gd rfl) rfl (nb01 (in_w 0 1 (in_c 1 rfl) rfl)) (hp6 _ _ ?_)
            show GG _ _ _ _ _ _ _ _ [.int (Int32.ofInt 1)] _ _ _
            refine g_if_eq 40 104 (gd rfl) rfl rfl (fun c47 => ?_) (fun c47 => ?_)
            · skip
              exact zn_eq c47 (in_c 1 rfl) rfl
            · skip
              refine g_aload_n 41 (gd rfl) rfl rfl ?_
              refine g_getA (q2 := 138) 44 (gd rfl) rfl rfl rfl rfl rfl ?_
              refine g_aload_n 45 (gd rfl) rfl rfl ?_
              refine g_getA (q2 := 113) 48 (gd rfl) rfl rfl rfl rfl rfl ?_
              refine g_aload_n 49 (gd rfl) rfl rfl ?_
              refine g_getI 52 (gd rfl) rfl rfl rfl (fun z48 e49 => ?_)
              have q50 : z8 = z48 := (e9).trans e49.symm
              subst q50
              refine g_iload_n 53 (gd rfl) rfl rfl ?_
              refine g_iadd 54 (gd rfl) rfl (fun z51 e52 => ?_)
              have i53 := in_add 0 319 e52 i10 i3 rfl rfl
              refine g_iaload 55 (gd rfl) rfl (n := 480) rfl (in_ix i53 rfl) (fun z54 e55 => ?_)
              have i56 := inv_I hI (n := 480) (t := 0) 0 31 rfl (in_ix i53 rfl) rfl e55
              refine g_dup2 56 (gd rfl) rfl rfl rfl ?_
              refine g_iaload 57 (gd rfl) rfl (n := 32) rfl (in_ix i56 rfl) (fun z57 e58 => ?_)
              refine g_iconst 1 58 (gd rfl) rfl rfl ?_
              refine g_aload_n 59 (gd rfl) rfl rfl ?_
              refine g_getA (q2 := 114) 62 (gd rfl) rfl rfl rfl rfl rfl ?_
              refine g_aload_n 63 (gd rfl) rfl rfl ?_
              refine g_getI 66 (gd rfl) rfl rfl rfl (fun z59 e60 => ?_)
              have q61 : z8 = z59 := (e9).trans e60.symm
              subst q61
              refine g_iload_n 67 (gd rfl) rfl rfl ?_
              refine g_iadd 68 (gd rfl) rfl (fun z62 e63 => ?_)
              have i64 := in_add 0 319 e63 i10 i3 rfl rfl
              refine g_iaload 69 (gd rfl) rfl (n := 480) rfl (in_ix i64 rfl) (fun z65 e66 => ?_)
              have i67 := inv_I hI (n := 480) (t := 0) 0 31 rfl (in_ix i64 rfl) rfl e66
              refine g_ishl 70 (gd rfl) rfl (fun z68 e69 => ?_)
              refine g_ior 71 (gd rfl) rfl (fun z70 e71 => ?_)
              refine g_iastore 72 (gd rfl) rfl (n := 32) rfl (in_ix i56 rfl) ?_
              have hI72 := inv_sI (q := 138) (j := z54.toNatClampNeg) hI rfl (in_w (-2147483648) 2147483647 (i_rng z70) rfl)
              refine g_aload_n 73 (gd rfl) rfl rfl ?_
              refine g_getA (q2 := 138) 76 (gd rfl) rfl rfl rfl rfl rfl ?_
              refine g_aload_n 77 (gd rfl) rfl rfl ?_
              refine g_getA (q2 := 114) 80 (gd rfl) rfl rfl rfl rfl rfl ?_
              refine g_aload_n 81 (gd rfl) rfl rfl ?_
              refine g_getI 84 (gd rfl) rfl rfl rfl (fun z73 e74 => ?_)
              have q75 : z8 = z73 := (e9).trans e74.symm
              subst q75
              refine g_iload_n 85 (gd rfl) rfl rfl ?_
              refine g_iadd 86 (gd rfl) rfl (fun z76 e77 => ?_)
              have i78 := in_add 0 319 e77 i10 i3 rfl rfl
              refine g_iaload 87 (gd rfl) rfl (n := 480) rfl (in_ix i78 rfl) (fun z79 e80 => ?_)
              have i81 := inv_I hI72 (n := 480) (t := 0) 0 31 rfl (in_ix i78 rfl) rfl e80
              refine g_dup2 88 (gd rfl) rfl rfl rfl ?_
              refine g_iaload 89 (gd rfl) rfl (n := 32) rfl (in_ix i81 rfl) (fun z82 e83 => ?_)
              refine g_iconst 1 90 (gd rfl) rfl rfl ?_
              refine g_aload_n 91 (gd rfl) rfl rfl ?_
              refine g_getA (q2 := 113) 94 (gd rfl) rfl rfl rfl rfl rfl ?_
              refine g_aload_n 95 (gd rfl) rfl rfl ?_
              refine g_getI 98 (gd rfl) rfl rfl rfl (fun z84 e85 => ?_)
              have q86 : z8 = z84 := (e9).trans e85.symm
              subst q86
              refine g_iload_n 99 (gd rfl) rfl rfl ?_
              refine g_iadd 100 (gd rfl) rfl (fun z87 e88 => ?_)
              have i89 := in_add 0 319 e88 i10 i3 rfl rfl
              refine g_iaload 101 (gd rfl) rfl (n := 480) rfl (in_ix i89 rfl) (fun z90 e91 => ?_)
              have i92 := inv_I hI72 (n := 480) (t := 0) 0 31 rfl (in_ix i89 rfl) rfl e91
              refine g_ishl 102 (gd rfl) rfl (fun z93 e94 => ?_)
              refine g_ior 103 (gd rfl) rfl (fun z95 e96 => ?_)
              refine g_iastore 104 (gd rfl) rfl (n := 32) rfl (in_ix i81 rfl) ?_
              have hI97 := inv_sI (q := 138) (j := z79.toNatClampNeg) hI72 rfl (in_w (-2147483648) 2147483647 (i_rng z95) rfl)
              refine g_iinc 107 (gd rfl) rfl rfl (Nat.le_of_ble_eq_true rfl) (fun z98 e99 => ?_)
              have i100 := in_add 1 160 e99 i3 (in_c 1 rfl) rfl rfl
              refine g_goto 25 (gd rfl) rfl ?_
              exact gg_w (by omega) (gg_f (gf_cons rfl (gf_cons rfl gf_nil)) (ih25 (sI (sI s 138 z54.toNatClampNeg z70) 138 z79.toNatClampNeg z95) z98 hI97 (in_w 0 160 i100 rfl) (m_up mm25 (t_add e99 i3 (in_c 1 rfl) rfl) (in_w 1 1 (in_c 1 rfl) rfl))))
  have ct2 : ∀ (k2 : Nat) (s : GS) (y2_1 : Int32), Inv s → In y2_1 0 32 → 32 - (y2_1).toInt < (k2 : Int) → GG Z (d - 1) 335 post (gx xp) (144902 + k2 * 900) 2 (fun j => xlook j [(0, .ref (A 109)), (1, .int y2_1)]) [] (WW Z A s ++ ex) 0 0 := by
    intro k2
    induction k2 with
    | zero => intro s y2_1 hI j2_1 mm2; exact m_no mm2 j2_1 rfl
    | succ k2 ih2 =>
      intro s y2_1 hI j2_1 mm2
      refine gg_w (M := 144902 + k2 * 900 + 900) (by omega) ?_
      refine g_iload_n 3 (gd rfl) rfl rfl ?_
      refine g_aload_n 4 (gd rfl) rfl rfl ?_
      refine g_getI 7 (gd rfl) rfl rfl rfl (fun z101 e102 => ?_)
      have i103 := inv_F hI 0 32 rfl e102
      refine g_cmp_ge 10 23 (gd rfl) rfl rfl (fun c104 => ?_) (fun c104 => ?_)
      · skip
        refine g_iconst 0 24 (gd rfl) rfl rfl ?_
        refine g_istore_n 25 (gd rfl) rfl (Nat.le_of_ble_eq_true rfl) ?_
        exact gg_w (by omega) (gg_f (gf_cons rfl (gf_cons rfl gf_nil)) (ct25 161 s (Int32.ofInt 0) hI (in_w 0 160 (in_c 0 rfl) rfl) (m_in 161 (in_w 0 160 (in_c 0 rfl) rfl) rfl)))
      · skip
        have i105 := r_lt1 0 31 c104 j2_1 i103 rfl
        have i106 := r_lt2 1 32 c104 j2_1 i103 rfl
        refine g_aload_n 11 (gd rfl) rfl rfl ?_
        refine g_getA (q2 := 138) 14 (gd rfl) rfl rfl rfl rfl rfl ?_
        refine g_iload_n 15 (gd rfl) rfl rfl ?_
        refine g_iconst 0 16 (gd rfl) rfl rfl ?_
        refine g_iastore 17 (gd rfl) rfl (n := 32) rfl (in_ix i105 rfl) ?_
        have hI107 := inv_sI (q := 138) (j := y2_1.toNatClampNeg) hI rfl (in_w (-2147483648) 2147483647 (in_c 0 rfl) rfl)
        refine g_iinc 20 (gd rfl) rfl rfl (Nat.le_of_ble_eq_true rfl) (fun z108 e109 => ?_)
        have i110 := in_add 1 32 e109 i105 (in_c 1 rfl) rfl rfl
        refine g_goto 2 (gd rfl) rfl ?_
        exact gg_w (by omega) (gg_f (gf_cons rfl (gf_cons rfl gf_nil)) (ih2 (sI s 138 y2_1.toNatClampNeg (Int32.ofInt 0)) z108 hI107 (in_w 0 32 i110 rfl) (m_up mm2 (t_add e109 i105 (in_c 1 rfl) rfl) (in_w 1 1 (in_c 1 rfl) rfl))))
  refine g_enter2 (k := 335) (N := 175502) (by omega) rfl (Nat.le_of_ble_eq_true rfl) ?_
  refine g_iconst 0 1 (gd rfl) rfl rfl ?_
  refine g_istore_n 2 (gd rfl) rfl (Nat.le_of_ble_eq_true rfl) ?_
  exact gg_w (by omega) (gg_f (gf_cons rfl (gf_cons rfl gf_nil)) (ct2 33 s (Int32.ofInt 0) hI (in_w 0 32 (in_c 0 rfl) rfl) (m_in 33 (in_w 0 32 (in_c 0 rfl) rfl) rfl)))

/-- GraphHouseModel.count -/
theorem k_336 {Z : AmZ} {A : Nat → Nat} {s : GS} {ex : va_W} {d : Nat} {X : AmX} {x0 : Int32} (hd : 1 ≤ d) (hI : Inv s)  : GC Z d 336 [.int x0] (WW Z A s ++ ex) 0 0 (fun v u => ∃ z : Int32, v = some (.int z) ∧ u = WW Z A s ++ ex ∧ In z 0 32) X := by
  intro post xp hP hX
  have ct4 : ∀ (k4 : Nat) (y4_1 : Int32) (y4_2 : Int32), In y4_1 0 32 → In y4_2 0 32 → (y4_1).toInt ≤ (y4_2).toInt + 0 → 32 - (y4_2).toInt < (k4 : Int) → GG Z (d - 1) 336 post (gx xp) (1 + k4 * 900) 4 (fun j => xlook j [(0, .int x0), (1, .int y4_1), (2, .int y4_2)]) [] (WW Z A s ++ ex) 0 0 := by
    intro k4
    induction k4 with
    | zero => intro y4_1 y4_2 j4_1 j4_2 l4_1 mm4; exact m_no mm4 j4_2 rfl
    | succ k4 ih4 =>
      intro y4_1 y4_2 j4_1 j4_2 l4_1 mm4
      refine gg_w (M := 1 + k4 * 900 + 900) (by omega) ?_
      refine g_iload_n 5 (gd rfl) rfl rfl ?_
      refine g_bipush 32 7 (gd rfl) rfl rfl ?_
      refine g_cmp_ge 10 24 (gd rfl) rfl rfl (fun c1 => ?_) (fun c1 => ?_)
      · skip
        have i2 := r_le2 32 32 c1 (in_c 32 rfl) j4_2 rfl
        refine g_iload_n 25 (gd rfl) rfl rfl ?_
        exact g_ireturn (gd rfl) rfl rfl (hP _ _ ⟨y4_1, rfl, rfl, in_w 0 32 j4_1 rfl⟩)
      · skip
        have i3 := r_lt1 0 31 c1 j4_2 (in_c 32 rfl) rfl
        refine g_iload_n 11 (gd rfl) rfl rfl ?_
        refine g_iload_n 12 (gd rfl) rfl rfl ?_
        refine g_iload_n 13 (gd rfl) rfl rfl ?_
        refine g_ishr 14 (gd rfl) rfl (fun z4 e5 => ?_)
        refine g_iconst 1 15 (gd rfl) rfl rfl ?_
        refine g_iand 16 (gd rfl) rfl (fun z6 e7 => ?_)
        have i8 := in_and2 e7 (in_c 1 rfl) rfl
        refine g_iadd 17 (gd rfl) rfl (fun z9 e10 => ?_)
        have i11 := in_add 0 33 e10 j4_1 i8 rfl rfl
        refine g_istore_n 18 (gd rfl) rfl (Nat.le_of_ble_eq_true rfl) ?_
        refine g_iinc 21 (gd rfl) rfl rfl (Nat.le_of_ble_eq_true rfl) (fun z12 e13 => ?_)
        have i14 := in_add 1 32 e13 i3 (in_c 1 rfl) rfl rfl
        refine g_goto 4 (gd rfl) rfl ?_
        have l15 := rl_1 l4_1 (t_add e10 j4_1 i8 rfl) i8 (t_add e13 i3 (in_c 1 rfl) rfl) (in_c 1 rfl) rfl
        exact gg_w (by omega) (gg_f (gf_cons rfl (gf_cons rfl (gf_cons rfl gf_nil))) (ih4  z9 z12  (rl_w 0 32 l15 i11 (in_w 0 32 i14 rfl) rfl) (in_w 0 32 i14 rfl) l15 (m_up mm4 (t_add e13 i3 (in_c 1 rfl) rfl) (in_w 1 1 (in_c 1 rfl) rfl))))
  refine g_enter2 (k := 336) (N := 30601) (by omega) rfl (Nat.le_of_ble_eq_true rfl) ?_
  refine g_iconst 0 1 (gd rfl) rfl rfl ?_
  refine g_istore_n 2 (gd rfl) rfl (Nat.le_of_ble_eq_true rfl) ?_
  refine g_iconst 0 3 (gd rfl) rfl rfl ?_
  refine g_istore_n 4 (gd rfl) rfl (Nat.le_of_ble_eq_true rfl) ?_
  have l16 := rl_in 0 (in_c 0 rfl) (in_c 0 rfl) rfl
  exact gg_w (by omega) (gg_f (gf_cons rfl (gf_cons rfl (gf_cons rfl gf_nil))) (ct4 33  (Int32.ofInt 0) (Int32.ofInt 0)  (rl_w 0 32 l16 (in_c 0 rfl) (in_w 0 32 (in_c 0 rfl) rfl) rfl) (in_w 0 32 (in_c 0 rfl) rfl) l16 (m_in 33 (in_w 0 32 (in_c 0 rfl) rfl) rfl)))

/-- GraphHouseModel.barsOf -/
theorem k_339 {Z : AmZ} {A : Nat → Nat} {s : GS} {ex : va_W} {d : Nat} {X : AmX} {x1 : Int32} (hd : 3 ≤ d) (hI : Inv s) (h1 : In x1 0 31) : GC Z d 339 [.ref (A 109), .int x1] (WW Z A s ++ ex) 0 0 (fun v u => ∃ z : Int32, v = some (.int z) ∧ u = WW Z A s ++ ex ∧ In z (-2147483648) 2147483647) X := by
  intro post xp hP hX
  have ct4 : ∀ (k4 : Nat) (y4_2 : Int32) (y4_3 : Int32), In y4_3 0 32 → 32 - (y4_3).toInt < (k4 : Int) → GG Z (d - 1) 339 post (gx xp) (1 + k4 * 900) 4 (fun j => xlook j [(0, .ref (A 109)), (1, .int x1), (2, .int y4_2), (3, .int y4_3)]) [] (WW Z A s ++ ex) 0 0 := by
    intro k4
    induction k4 with
    | zero => intro y4_2 y4_3 j4_3 mm4; exact m_no mm4 j4_3 rfl
    | succ k4 ih4 =>
      intro y4_2 y4_3 j4_3 mm4
      refine gg_w (M := 1 + k4 * 900 + 900) (by omega) ?_
      refine g_iload_n 5 (gd rfl) rfl rfl ?_
      refine g_aload_n 6 (gd rfl) rfl rfl ?_
      refine g_getI 9 (gd rfl) rfl rfl rfl (fun z1 e2 => ?_)
      have i3 := inv_F hI 0 32 rfl e2
      refine g_cmp_ge 12 55 (gd rfl) rfl rfl (fun c4 => ?_) (fun c4 => ?_)
      · skip
        refine g_iload_n 56 (gd rfl) rfl rfl ?_
        exact g_ireturn (gd rfl) rfl rfl (hP _ _ ⟨y4_2, rfl, rfl, in_w (-2147483648) 2147483647 (i_rng y4_2) rfl⟩)
      · skip
        have i5 := r_lt1 0 31 c4 j4_3 i3 rfl
        have i6 := r_lt2 1 32 c4 j4_3 i3 rfl
        refine g_iload_n 13 (gd rfl) rfl rfl ?_
        refine g_aload_n 14 (gd rfl) rfl rfl ?_
        refine g_getA (q2 := 138) 17 (gd rfl) rfl rfl rfl rfl rfl ?_
        refine g_iload_n 18 (gd rfl) rfl rfl ?_
        refine g_iaload 19 (gd rfl) rfl (n := 32) rfl (in_ix h1 rfl) (fun z7 e8 => ?_)
        refine g_iload_n 20 (gd rfl) rfl rfl ?_
        refine g_calls (As := [.int z7, .int y4_3]) (r := [.int y4_2]) 23 (gd rfl) rfl rfl rfl rfl rfl (Nat.le_of_ble_eq_true rfl) (mc := 0) (ms := 0) (Nat.zero_le _) (Nat.zero_le _) (P := fun v u => _) ?_ (fun v u h => h)
        intro po9 xx10 hp11 hx12
        refine g_enter2 (k := 311) (N := 300) (by omega) rfl (Nat.le_of_ble_eq_true rfl) ?_
        refine g_iload_n 1 (gd rfl) rfl rfl ?_
        refine g_iload_n 2 (gd rfl) rfl rfl ?_
        refine g_ishr 3 (gd rfl) rfl (fun z13 e14 => ?_)
        refine g_iconst 1 4 (gd rfl) rfl rfl ?_
        refine g_iand 5 (gd rfl) rfl (fun z15 e16 => ?_)
        have i17 := in_and2 e16 (in_c 1 rfl) rfl
        refine g_iconst 1 6 (gd rfl) rfl rfl ?_
        refine g_cmp_ne 9 13 (gd rfl) rfl rfl (fun c18 => ?_) (fun c18 => ?_)
        · skip
          have i19 := r_ne1 0 0 c18 i17 (in_c 1 rfl) rfl
          refine g_iconst 0 14 (gd rfl) rfl rfl ?_
          refine g_ireturn (gd rfl) rfl (nb01 (in_w 0 1 (in_c 0 rfl) rfl)) (hp11 _ _ ?_)
          show GG _ _ _ _ _ _ _ _ [.int (Int32.ofInt 0), .int y4_2] _ _ _
          refine g_if_eq 26 46 (gd rfl) rfl rfl (fun c20 => ?_) (fun c20 => ?_)
          · skip
            refine g_iconst 0 47 (gd rfl) rfl rfl ?_
            refine g_ior 48 (gd rfl) rfl (fun z21 e22 => ?_)
            refine g_istore_n 49 (gd rfl) rfl (Nat.le_of_ble_eq_true rfl) ?_
            refine g_iinc 52 (gd rfl) rfl rfl (Nat.le_of_ble_eq_true rfl) (fun z23 e24 => ?_)
            have i25 := in_add 1 32 e24 i5 (in_c 1 rfl) rfl rfl
            refine g_goto 4 (gd rfl) rfl ?_
            exact gg_w (by omega) (gg_f (gf_cons rfl (gf_cons rfl (gf_cons rfl (gf_cons rfl gf_nil)))) (ih4  z21 z23  (in_w 0 32 i25 rfl) (m_up mm4 (t_add e24 i5 (in_c 1 rfl) rfl) (in_w 1 1 (in_c 1 rfl) rfl))))
          · skip
            exact zn_ne c20 (in_c 0 rfl) rfl
        · skip
          have i26 := r_eq1 1 1 c18 i17 (in_c 1 rfl) rfl
          refine g_iconst 1 10 (gd rfl) rfl rfl ?_
          refine g_goto 14 (gd rfl) rfl ?_
          refine g_ireturn (gd rfl) rfl (nb01 (in_w 0 1 (in_c 1 rfl) rfl)) (hp11 _ _ ?_)
          show GG _ _ _ _ _ _ _ _ [.int (Int32.ofInt 1), .int y4_2] _ _ _
          refine g_if_eq 26 46 (gd rfl) rfl rfl (fun c27 => ?_) (fun c27 => ?_)
          · skip
            exact zn_eq c27 (in_c 1 rfl) rfl
          · skip
            refine g_aload_n 27 (gd rfl) rfl rfl ?_
            refine g_getA (q2 := 142) 30 (gd rfl) rfl rfl rfl rfl rfl ?_
            refine g_iload_n 31 (gd rfl) rfl rfl ?_
            refine g_iaload 32 (gd rfl) rfl (n := 32) rfl (in_ix i5 rfl) (fun z28 e29 => ?_)
            have i30 := inv_I hI (n := 32) (t := 0) (-2147483648) 31 rfl (in_ix i5 rfl) rfl e29
            refine g_if_lt 35 46 (gd rfl) rfl rfl (fun c31 => ?_) (fun c31 => ?_)
            · skip
              have i32 := z_lt (-2147483648) (-1) c31 i30 rfl
              refine g_iconst 0 47 (gd rfl) rfl rfl ?_
              refine g_ior 48 (gd rfl) rfl (fun z33 e34 => ?_)
              refine g_istore_n 49 (gd rfl) rfl (Nat.le_of_ble_eq_true rfl) ?_
              refine g_iinc 52 (gd rfl) rfl rfl (Nat.le_of_ble_eq_true rfl) (fun z35 e36 => ?_)
              have i37 := in_add 1 32 e36 i5 (in_c 1 rfl) rfl rfl
              refine g_goto 4 (gd rfl) rfl ?_
              exact gg_w (by omega) (gg_f (gf_cons rfl (gf_cons rfl (gf_cons rfl (gf_cons rfl gf_nil)))) (ih4  z33 z35  (in_w 0 32 i37 rfl) (m_up mm4 (t_add e36 i5 (in_c 1 rfl) rfl) (in_w 1 1 (in_c 1 rfl) rfl))))
            · skip
              have i38 := z_ge 0 31 c31 i30 rfl
              refine g_iconst 1 36 (gd rfl) rfl rfl ?_
              refine g_aload_n 37 (gd rfl) rfl rfl ?_
              refine g_getA (q2 := 142) 40 (gd rfl) rfl rfl rfl rfl rfl ?_
              refine g_iload_n 41 (gd rfl) rfl rfl ?_
              refine g_iaload 42 (gd rfl) rfl (n := 32) rfl (in_ix i5 rfl) (fun z39 e40 => ?_)
              have q41 : z28 = z39 := (e29).trans e40.symm
              subst q41
              refine g_ishl 43 (gd rfl) rfl (fun z42 e43 => ?_)
              refine g_goto 47 (gd rfl) rfl ?_
              refine g_ior 48 (gd rfl) rfl (fun z44 e45 => ?_)
              refine g_istore_n 49 (gd rfl) rfl (Nat.le_of_ble_eq_true rfl) ?_
              refine g_iinc 52 (gd rfl) rfl rfl (Nat.le_of_ble_eq_true rfl) (fun z46 e47 => ?_)
              have i48 := in_add 1 32 e47 i5 (in_c 1 rfl) rfl rfl
              refine g_goto 4 (gd rfl) rfl ?_
              exact gg_w (by omega) (gg_f (gf_cons rfl (gf_cons rfl (gf_cons rfl (gf_cons rfl gf_nil)))) (ih4  z44 z46  (in_w 0 32 i48 rfl) (m_up mm4 (t_add e47 i5 (in_c 1 rfl) rfl) (in_w 1 1 (in_c 1 rfl) rfl))))
  refine g_enter2 (k := 339) (N := 30601) (by omega) rfl (Nat.le_of_ble_eq_true rfl) ?_
  refine g_iconst 0 1 (gd rfl) rfl rfl ?_
  refine g_istore_n 2 (gd rfl) rfl (Nat.le_of_ble_eq_true rfl) ?_
  refine g_iconst 0 3 (gd rfl) rfl rfl ?_
  refine g_istore_n 4 (gd rfl) rfl (Nat.le_of_ble_eq_true rfl) ?_
  exact gg_w (by omega) (gg_f (gf_cons rfl (gf_cons rfl (gf_cons rfl (gf_cons rfl gf_nil)))) (ct4 33  (Int32.ofInt 0) (Int32.ofInt 0)  (in_w 0 32 (in_c 0 rfl) rfl) (m_in 33 (in_w 0 32 (in_c 0 rfl) rfl) rfl)))

/-- GraphHouseModel.tightest -/
theorem k_340 {Z : AmZ} {A : Nat → Nat} {s : GS} {ex : va_W} {d : Nat} {X : AmX} {x1 : Int32} (hd : 4 ≤ d) (hI : Inv s) (h1 : In x1 0 200) : GC Z d 340 [.ref (A 109), .int x1] (WW Z A s ++ ex) 0 0 (fun v u => ∃ z : Int32, v = some (.int z) ∧ u = WW Z A s ++ ex ∧ In z (-1) 31) X := by
  intro post xp hP hX
  have ct10 : ∀ (k10 : Nat) (y10_2 : Int32) (y10_3 : Int32) (y10_4 : Int32) (y10_5 : Int32), In y10_2 (-1) 31 → In y10_3 (-32) 200 → In y10_4 0 32 → In y10_5 0 32 → 32 - (y10_5).toInt < (k10 : Int) → GG Z (d - 1) 340 post (gx xp) (1 + k10 * 900) 10 (fun j => xlook j [(0, .ref (A 109)), (1, .int x1), (2, .int y10_2), (3, .int y10_3), (4, .int y10_4), (5, .int y10_5)]) [] (WW Z A s ++ ex) 0 0 := by
    intro k10
    induction k10 with
    | zero => intro y10_2 y10_3 y10_4 y10_5 j10_2 j10_3 j10_4 j10_5 mm10; exact m_no mm10 j10_5 rfl
    | succ k10 ih10 =>
      intro y10_2 y10_3 y10_4 y10_5 j10_2 j10_3 j10_4 j10_5 mm10
      refine gg_w (M := 1 + k10 * 900 + 900) (by omega) ?_
      refine g_iload 12 (gd rfl) rfl rfl ?_
      refine g_aload_n 13 (gd rfl) rfl rfl ?_
      refine g_getI 16 (gd rfl) rfl rfl rfl (fun z1 e2 => ?_)
      have i3 := inv_F hI 0 32 rfl e2
      refine g_cmp_ge 19 105 (gd rfl) rfl rfl (fun c4 => ?_) (fun c4 => ?_)
      · skip
        refine g_iload_n 106 (gd rfl) rfl rfl ?_
        exact g_ireturn (gd rfl) rfl rfl (hP _ _ ⟨y10_2, rfl, rfl, in_w (-1) 31 j10_2 rfl⟩)
      · skip
        have i5 := r_lt1 0 31 c4 j10_5 i3 rfl
        have i6 := r_lt2 1 32 c4 j10_5 i3 rfl
        refine g_aload_n 20 (gd rfl) rfl rfl ?_
        refine g_getI 23 (gd rfl) rfl rfl rfl (fun z7 e8 => ?_)
        refine g_iload 25 (gd rfl) rfl rfl ?_
        refine g_calls (As := [.int z7, .int y10_5]) (r := []) 28 (gd rfl) rfl rfl rfl rfl rfl (Nat.le_of_ble_eq_true rfl) (mc := 0) (ms := 0) (Nat.zero_le _) (Nat.zero_le _) (P := fun v u => _) ?_ (fun v u h => h)
        intro po9 xx10 hp11 hx12
        refine g_enter2 (k := 311) (N := 300) (by omega) rfl (Nat.le_of_ble_eq_true rfl) ?_
        refine g_iload_n 1 (gd rfl) rfl rfl ?_
        refine g_iload_n 2 (gd rfl) rfl rfl ?_
        refine g_ishr 3 (gd rfl) rfl (fun z13 e14 => ?_)
        refine g_iconst 1 4 (gd rfl) rfl rfl ?_
        refine g_iand 5 (gd rfl) rfl (fun z15 e16 => ?_)
        have i17 := in_and2 e16 (in_c 1 rfl) rfl
        refine g_iconst 1 6 (gd rfl) rfl rfl ?_
        refine g_cmp_ne 9 13 (gd rfl) rfl rfl (fun c18 => ?_) (fun c18 => ?_)
        · skip
          have i19 := r_ne1 0 0 c18 i17 (in_c 1 rfl) rfl
          refine g_iconst 0 14 (gd rfl) rfl rfl ?_
          refine g_ireturn (gd rfl) rfl (nb01 (in_w 0 1 (in_c 0 rfl) rfl)) (hp11 _ _ ?_)
          show GG _ _ _ _ _ _ _ _ [.int (Int32.ofInt 0)] _ _ _
          refine g_if_eq 31 99 (gd rfl) rfl rfl (fun c20 => ?_) (fun c20 => ?_)
          · skip
            refine g_iinc 102 (gd rfl) rfl rfl (Nat.le_of_ble_eq_true rfl) (fun z21 e22 => ?_)
            have i23 := in_add 1 32 e22 i5 (in_c 1 rfl) rfl rfl
            refine g_goto 10 (gd rfl) rfl ?_
            exact gg_w (by omega) (gg_f (gf_cons rfl (gf_cons rfl (gf_cons rfl (gf_cons rfl (gf_cons rfl (gf_cons rfl gf_nil)))))) (ih10  y10_2 y10_3 y10_4 z21  (in_w (-1) 31 j10_2 rfl) (in_w (-32) 200 j10_3 rfl) (in_w 0 32 j10_4 rfl) (in_w 0 32 i23 rfl) (m_up mm10 (t_add e22 i5 (in_c 1 rfl) rfl) (in_w 1 1 (in_c 1 rfl) rfl))))
          · skip
            exact zn_ne c20 (in_c 0 rfl) rfl
        · skip
          have i24 := r_eq1 1 1 c18 i17 (in_c 1 rfl) rfl
          refine g_iconst 1 10 (gd rfl) rfl rfl ?_
          refine g_goto 14 (gd rfl) rfl ?_
          refine g_ireturn (gd rfl) rfl (nb01 (in_w 0 1 (in_c 1 rfl) rfl)) (hp11 _ _ ?_)
          show GG _ _ _ _ _ _ _ _ [.int (Int32.ofInt 1)] _ _ _
          refine g_if_eq 31 99 (gd rfl) rfl rfl (fun c25 => ?_) (fun c25 => ?_)
          · skip
            exact zn_eq c25 (in_c 1 rfl) rfl
          · skip
            refine g_aload_n 32 (gd rfl) rfl rfl ?_
            refine g_getA (q2 := 142) 35 (gd rfl) rfl rfl rfl rfl rfl ?_
            refine g_iload 37 (gd rfl) rfl rfl ?_
            refine g_iaload 38 (gd rfl) rfl (n := 32) rfl (in_ix i5 rfl) (fun z26 e27 => ?_)
            have i28 := inv_I hI (n := 32) (t := 0) (-2147483648) 31 rfl (in_ix i5 rfl) rfl e27
            refine g_if_ge 41 99 (gd rfl) rfl rfl (fun c29 => ?_) (fun c29 => ?_)
            · skip
              have i30 := z_ge 0 31 c29 i28 rfl
              refine g_iinc 102 (gd rfl) rfl rfl (Nat.le_of_ble_eq_true rfl) (fun z31 e32 => ?_)
              have i33 := in_add 1 32 e32 i5 (in_c 1 rfl) rfl rfl
              refine g_goto 10 (gd rfl) rfl ?_
              exact gg_w (by omega) (gg_f (gf_cons rfl (gf_cons rfl (gf_cons rfl (gf_cons rfl (gf_cons rfl (gf_cons rfl gf_nil)))))) (ih10  y10_2 y10_3 y10_4 z31  (in_w (-1) 31 j10_2 rfl) (in_w (-32) 200 j10_3 rfl) (in_w 0 32 j10_4 rfl) (in_w 0 32 i33 rfl) (m_up mm10 (t_add e32 i5 (in_c 1 rfl) rfl) (in_w 1 1 (in_c 1 rfl) rfl))))
            · skip
              have i34 := z_lt (-2147483648) (-1) c29 i28 rfl
              refine g_iload_n 42 (gd rfl) rfl rfl ?_
              refine g_aload_n 43 (gd rfl) rfl rfl ?_
              refine g_iload 45 (gd rfl) rfl rfl ?_
              refine g_callv (X := _) (As := [.int y10_5]) (r := [.int x1]) (b := A 109) (q := 109) 48 (gd rfl) rfl rfl rfl rfl rfl (ww_o rfl) (Nat.le_of_ble_eq_true rfl) (Nat.zero_le _) (Nat.zero_le _) (k_339 (by omega) hI (in_w 0 31 i5 rfl)) (fun e u h => h) (fun v u h => ?_)
              obtain ⟨z35, rfl, rfl, i36⟩ := h
              show GG _ _ _ _ _ _ _ _ [.int z35, .int x1] _ _ _
              refine g_calls (As := [.int z35]) (r := [.int x1]) 51 (gd rfl) rfl rfl rfl rfl rfl (Nat.le_of_ble_eq_true rfl) (Nat.zero_le _) (Nat.zero_le _) (k_336 (by omega) hI ) (fun v u h => ?_)
              obtain ⟨z37, rfl, rfl, i38⟩ := h
              show GG _ _ _ _ _ _ _ _ [.int z37, .int x1] _ _ _
              refine g_isub 52 (gd rfl) rfl (fun z39 e40 => ?_)
              have i41 := in_sub (-32) 200 e40 h1 i38 rfl rfl
              refine g_istore 54 (gd rfl) rfl (Nat.le_of_ble_eq_true rfl) ?_
              refine g_aload_n 55 (gd rfl) rfl rfl ?_
              refine g_getA (q2 := 138) 58 (gd rfl) rfl rfl rfl rfl rfl ?_
              refine g_iload 60 (gd rfl) rfl rfl ?_
              refine g_iaload 61 (gd rfl) rfl (n := 32) rfl (in_ix i5 rfl) (fun z42 e43 => ?_)
              refine g_calls (As := [.int z42]) (r := []) 64 (gd rfl) rfl rfl rfl rfl rfl (Nat.le_of_ble_eq_true rfl) (Nat.zero_le _) (Nat.zero_le _) (k_336 (by omega) hI ) (fun v u h => ?_)
              obtain ⟨z44, rfl, rfl, i45⟩ := h
              show GG _ _ _ _ _ _ _ _ [.int z44] _ _ _
              refine g_istore 66 (gd rfl) rfl (Nat.le_of_ble_eq_true rfl) ?_
              refine g_iload_n 67 (gd rfl) rfl rfl ?_
              refine g_if_lt 70 89 (gd rfl) rfl rfl (fun c46 => ?_) (fun c46 => ?_)
              · skip
                have i47 := z_lt (-1) (-1) c46 j10_2 rfl
                refine g_iload 91 (gd rfl) rfl rfl ?_
                refine g_istore_n 92 (gd rfl) rfl (Nat.le_of_ble_eq_true rfl) ?_
                refine g_iload 94 (gd rfl) rfl rfl ?_
                refine g_istore_n 95 (gd rfl) rfl (Nat.le_of_ble_eq_true rfl) ?_
                refine g_iload 97 (gd rfl) rfl rfl ?_
                refine g_istore 99 (gd rfl) rfl (Nat.le_of_ble_eq_true rfl) ?_
                refine g_iinc 102 (gd rfl) rfl rfl (Nat.le_of_ble_eq_true rfl) (fun z48 e49 => ?_)
                have i50 := in_add 1 32 e49 i5 (in_c 1 rfl) rfl rfl
                refine g_goto 10 (gd rfl) rfl ?_
                exact gg_w (by omega) (gg_f (gf_cons rfl (gf_cons rfl (gf_cons rfl (gf_cons rfl (gf_cons rfl (gf_cons rfl gf_nil)))))) (ih10  y10_5 z39 z44 z48  (in_w (-1) 31 i5 rfl) (in_w (-32) 200 i41 rfl) (in_w 0 32 i45 rfl) (in_w 0 32 i50 rfl) (m_up mm10 (t_add e49 i5 (in_c 1 rfl) rfl) (in_w 1 1 (in_c 1 rfl) rfl))))
              · skip
                have i51 := z_ge 0 31 c46 j10_2 rfl
                refine g_iload 72 (gd rfl) rfl rfl ?_
                refine g_iload_n 73 (gd rfl) rfl rfl ?_
                refine g_cmp_lt 76 89 (gd rfl) rfl rfl (fun c52 => ?_) (fun c52 => ?_)
                · skip
                  have i53 := r_lt1 (-32) 199 c52 i41 j10_3 rfl
                  have i54 := r_lt2 (-31) 200 c52 i41 j10_3 rfl
                  refine g_iload 91 (gd rfl) rfl rfl ?_
                  refine g_istore_n 92 (gd rfl) rfl (Nat.le_of_ble_eq_true rfl) ?_
                  refine g_iload 94 (gd rfl) rfl rfl ?_
                  refine g_istore_n 95 (gd rfl) rfl (Nat.le_of_ble_eq_true rfl) ?_
                  refine g_iload 97 (gd rfl) rfl rfl ?_
                  refine g_istore 99 (gd rfl) rfl (Nat.le_of_ble_eq_true rfl) ?_
                  refine g_iinc 102 (gd rfl) rfl rfl (Nat.le_of_ble_eq_true rfl) (fun z55 e56 => ?_)
                  have i57 := in_add 1 32 e56 i5 (in_c 1 rfl) rfl rfl
                  refine g_goto 10 (gd rfl) rfl ?_
                  exact gg_w (by omega) (gg_f (gf_cons rfl (gf_cons rfl (gf_cons rfl (gf_cons rfl (gf_cons rfl (gf_cons rfl gf_nil)))))) (ih10  y10_5 z39 z44 z55  (in_w (-1) 31 i5 rfl) (in_w (-32) 200 i53 rfl) (in_w 0 32 i45 rfl) (in_w 0 32 i57 rfl) (m_up mm10 (t_add e56 i5 (in_c 1 rfl) rfl) (in_w 1 1 (in_c 1 rfl) rfl))))
                · skip
                  refine g_iload 78 (gd rfl) rfl rfl ?_
                  refine g_iload_n 79 (gd rfl) rfl rfl ?_
                  refine g_cmp_ne 82 99 (gd rfl) rfl rfl (fun c58 => ?_) (fun c58 => ?_)
                  · skip
                    refine g_iinc 102 (gd rfl) rfl rfl (Nat.le_of_ble_eq_true rfl) (fun z59 e60 => ?_)
                    have i61 := in_add 1 32 e60 i5 (in_c 1 rfl) rfl rfl
                    refine g_goto 10 (gd rfl) rfl ?_
                    exact gg_w (by omega) (gg_f (gf_cons rfl (gf_cons rfl (gf_cons rfl (gf_cons rfl (gf_cons rfl (gf_cons rfl gf_nil)))))) (ih10  y10_2 y10_3 y10_4 z59  (in_w (-1) 31 i51 rfl) (in_w (-32) 200 j10_3 rfl) (in_w 0 32 j10_4 rfl) (in_w 0 32 i61 rfl) (m_up mm10 (t_add e60 i5 (in_c 1 rfl) rfl) (in_w 1 1 (in_c 1 rfl) rfl))))
                  · skip
                    refine g_iload 84 (gd rfl) rfl rfl ?_
                    refine g_iload 86 (gd rfl) rfl rfl ?_
                    refine g_cmp_le 89 99 (gd rfl) rfl rfl (fun c62 => ?_) (fun c62 => ?_)
                    · skip
                      refine g_iinc 102 (gd rfl) rfl rfl (Nat.le_of_ble_eq_true rfl) (fun z63 e64 => ?_)
                      have i65 := in_add 1 32 e64 i5 (in_c 1 rfl) rfl rfl
                      refine g_goto 10 (gd rfl) rfl ?_
                      exact gg_w (by omega) (gg_f (gf_cons rfl (gf_cons rfl (gf_cons rfl (gf_cons rfl (gf_cons rfl (gf_cons rfl gf_nil)))))) (ih10  y10_2 y10_3 y10_4 z63  (in_w (-1) 31 i51 rfl) (in_w (-32) 200 j10_3 rfl) (in_w 0 32 j10_4 rfl) (in_w 0 32 i65 rfl) (m_up mm10 (t_add e64 i5 (in_c 1 rfl) rfl) (in_w 1 1 (in_c 1 rfl) rfl))))
                    · skip
                      have i66 := r_lt1 0 31 c62 j10_4 i45 rfl
                      have i67 := r_lt2 1 32 c62 j10_4 i45 rfl
                      refine g_iload 91 (gd rfl) rfl rfl ?_
                      refine g_istore_n 92 (gd rfl) rfl (Nat.le_of_ble_eq_true rfl) ?_
                      refine g_iload 94 (gd rfl) rfl rfl ?_
                      refine g_istore_n 95 (gd rfl) rfl (Nat.le_of_ble_eq_true rfl) ?_
                      refine g_iload 97 (gd rfl) rfl rfl ?_
                      refine g_istore 99 (gd rfl) rfl (Nat.le_of_ble_eq_true rfl) ?_
                      refine g_iinc 102 (gd rfl) rfl rfl (Nat.le_of_ble_eq_true rfl) (fun z68 e69 => ?_)
                      have i70 := in_add 1 32 e69 i5 (in_c 1 rfl) rfl rfl
                      refine g_goto 10 (gd rfl) rfl ?_
                      exact gg_w (by omega) (gg_f (gf_cons rfl (gf_cons rfl (gf_cons rfl (gf_cons rfl (gf_cons rfl (gf_cons rfl gf_nil)))))) (ih10  y10_5 z39 z44 z68  (in_w (-1) 31 i5 rfl) (in_w (-32) 200 i41 rfl) (in_w 0 32 i67 rfl) (in_w 0 32 i70 rfl) (m_up mm10 (t_add e69 i5 (in_c 1 rfl) rfl) (in_w 1 1 (in_c 1 rfl) rfl))))
  refine g_enter2 (k := 340) (N := 30601) (by omega) rfl (Nat.le_of_ble_eq_true rfl) ?_
  refine g_iconst (-1) 1 (gd rfl) rfl rfl ?_
  refine g_istore_n 2 (gd rfl) rfl (Nat.le_of_ble_eq_true rfl) ?_
  refine g_iconst 0 3 (gd rfl) rfl rfl ?_
  refine g_istore_n 4 (gd rfl) rfl (Nat.le_of_ble_eq_true rfl) ?_
  refine g_iconst 0 5 (gd rfl) rfl rfl ?_
  refine g_istore 7 (gd rfl) rfl (Nat.le_of_ble_eq_true rfl) ?_
  refine g_iconst 0 8 (gd rfl) rfl rfl ?_
  refine g_istore 10 (gd rfl) rfl (Nat.le_of_ble_eq_true rfl) ?_
  exact gg_w (by omega) (gg_f (gf_cons rfl (gf_cons rfl (gf_cons rfl (gf_cons rfl (gf_cons rfl (gf_cons rfl gf_nil)))))) (ct10 33  (Int32.ofInt (-1)) (Int32.ofInt 0) (Int32.ofInt 0) (Int32.ofInt 0)  (in_w (-1) 31 (in_c (-1) rfl) rfl) (in_w (-32) 200 (in_c 0 rfl) rfl) (in_w 0 32 (in_c 0 rfl) rfl) (in_w 0 32 (in_c 0 rfl) rfl) (m_in 33 (in_w 0 32 (in_c 0 rfl) rfl) rfl)))

/-- GraphHouseModel.span -/
theorem k_365 {Z : AmZ} {A : Nat → Nat} {s : GS} {ex : va_W} {d : Nat} {X : AmX} {x1 : Int32} (hd : 4 ≤ d) (hI : Inv s)  : GC Z d 365 [.ref (A 109), .int x1] (WW Z A s ++ ex) 0 0 (fun v u => ∃ t : GS, Inv t ∧ ∃ z : Int32, v = some (.int z) ∧ u = WW Z A t ++ ex ∧ In z 0 1) X := by
  intro post xp hP hX
  have ct62 : ∀ (k62 : Nat) (s : GS) (y62_2 : Int64) (y62_4 : Int32), Inv s → In x1 0 159 → In y62_4 0 32 → 32 - (y62_4).toInt < (k62 : Int) → GG Z (d - 1) 365 post (gx xp) (1 + k62 * 293563) 62 (fun j => xlook j [(0, .ref (A 109)), (1, .int x1), (2, .long y62_2), (4, .int y62_4)]) [] (WW Z A s ++ ex) 0 0 := by
    intro k62
    induction k62 with
    | zero => intro s y62_2 y62_4 hI j62_1 j62_4 mm62; exact m_no mm62 j62_4 rfl
    | succ k62 ih62 =>
      intro s y62_2 y62_4 hI j62_1 j62_4 mm62
      refine gg_w (M := 1 + k62 * 293563 + 293563) (by omega) ?_
      have ct74 : ∀ (k74 : Nat) (s : GS) (y74_5 : Int32), Inv s → In y62_4 0 31 → In y74_5 0 160 → 160 - (y74_5).toInt < (k74 : Int) → GG Z (d - 1) 365 post (gx xp) (1 + k62 * 293563 + 1 + k74 * 1801) 74 (fun j => xlook j [(0, .ref (A 109)), (1, .int x1), (2, .long y62_2), (4, .int y62_4), (5, .int y74_5)]) [] (WW Z A s ++ ex) 0 0 := by
        intro k74
        induction k74 with
        | zero => intro s y74_5 hI j74_4 j74_5 mm74; exact m_no mm74 j74_5 rfl
        | succ k74 ih74 =>
          intro s y74_5 hI j74_4 j74_5 mm74
          refine gg_w (M := 1 + k62 * 293563 + 1 + k74 * 1801 + 1801) (by omega) ?_
          have ct201 : ∀ (s : GS) , Inv s → In y74_5 0 159 → GG Z (d - 1) 365 post (gx xp) (1 + k62 * 293563 + 1 + k74 * 1801 + 901) 201 (fun j => xlook j [(0, .ref (A 109)), (1, .int x1), (2, .long y62_2), (4, .int y62_4), (5, .int y74_5)]) [] (WW Z A s ++ ex) 0 0 := by
            intro s  hI j201_5
            refine g_iinc 204 (gd rfl) rfl rfl (Nat.le_of_ble_eq_true rfl) (fun z1 e2 => ?_)
            have i3 := in_add 1 160 e2 j201_5 (in_c 1 rfl) rfl rfl
            refine g_goto 74 (gd rfl) rfl ?_
            exact gg_w (by omega) (gg_f (gf_cons rfl (gf_cons rfl (gf_cons rfl (gf_cons rfl (gf_cons rfl gf_nil))))) (ih74 s z1 hI (in_w 0 31 j74_4 rfl) (in_w 0 160 i3 rfl) (m_up mm74 (t_add e2 j201_5 (in_c 1 rfl) rfl) (in_w 1 1 (in_c 1 rfl) rfl))))
          refine g_iload 76 (gd rfl) rfl rfl ?_
          refine g_sipush 160 79 (gd rfl) rfl rfl ?_
          refine g_cmp_ge 82 207 (gd rfl) rfl rfl (fun c4 => ?_) (fun c4 => ?_)
          · skip
            have i5 := r_le2 160 160 c4 (in_c 160 rfl) j74_5 rfl
            refine g_iinc 210 (gd rfl) rfl rfl (Nat.le_of_ble_eq_true rfl) (fun z6 e7 => ?_)
            have i8 := in_add 1 32 e7 j74_4 (in_c 1 rfl) rfl rfl
            refine g_goto 62 (gd rfl) rfl ?_
            exact gg_w (by omega) (gg_f (gf_cons rfl (gf_cons rfl (gf_cons rfl (gf_cons rfl gf_nil)))) (ih62 s y62_2 z6 hI (in_w 0 159 j62_1 rfl) (in_w 0 32 i8 rfl) (m_up mm62 (t_add e7 j74_4 (in_c 1 rfl) rfl) (in_w 1 1 (in_c 1 rfl) rfl))))
          · skip
            have i9 := r_lt1 0 159 c4 j74_5 (in_c 160 rfl) rfl
            refine g_aload_n 83 (gd rfl) rfl rfl ?_
            refine g_iload 85 (gd rfl) rfl rfl ?_
            refine g_callv (X := _) (As := [.int y74_5]) (r := []) (b := A 109) (q := 109) 88 (gd rfl) rfl rfl rfl rfl rfl (ww_o rfl) (Nat.le_of_ble_eq_true rfl) (mc := 0) (ms := 0) (Nat.zero_le _) (Nat.zero_le _) (P := fun v u => _) ?_ (fun e u h => h) (fun v u h => h)
            intro po10 xx11 hp12 hx13
            refine g_enter2 (k := 288) (N := 300) (by omega) rfl (Nat.le_of_ble_eq_true rfl) ?_
            refine g_aload_n 1 (gd rfl) rfl rfl ?_
            refine g_getA (q2 := 112) 4 (gd rfl) rfl rfl rfl rfl rfl ?_
            refine g_aload_n 5 (gd rfl) rfl rfl ?_
            refine g_getI 8 (gd rfl) rfl rfl rfl (fun z14 e15 => ?_)
            have i16 := inv_F hI 0 160 rfl e15
            refine g_iload_n 9 (gd rfl) rfl rfl ?_
            refine g_iadd 10 (gd rfl) rfl (fun z17 e18 => ?_)
            have i19 := in_add 0 319 e18 i16 i9 rfl rfl
            refine g_baload 11 (gd rfl) rfl (n := 480) rfl (in_ix i19 rfl) (fun z20 e21 => ?_)
            have i22 := inv_I hI (n := 480) (t := 3) 0 1 rfl (in_ix i19 rfl) rfl e21
            refine g_if_eq 14 43 (gd rfl) rfl rfl (fun c23 => ?_) (fun c23 => ?_)
            · skip
              have i24 := z_eq 0 0 c23 i22 rfl
              refine g_iconst 0 44 (gd rfl) rfl rfl ?_
              refine g_ireturn (gd rfl) rfl (nb01 (in_w 0 1 (in_c 0 rfl) rfl)) (hp12 _ _ ?_)
              show GG _ _ _ _ _ _ _ _ [.int (Int32.ofInt 0)] _ _ _
              refine g_if_eq 91 201 (gd rfl) rfl rfl (fun c25 => ?_) (fun c25 => ?_)
              · skip
                exact gg_w (by omega) (gg_f (gf_cons rfl (gf_cons rfl (gf_cons rfl (gf_cons rfl (gf_cons rfl gf_nil))))) (ct201 s  hI (in_w 0 159 i9 rfl)))
              · skip
                exact zn_ne c25 (in_c 0 rfl) rfl
            · skip
              have i26 := z_ne 1 1 c23 i22 rfl
              refine g_aload_n 15 (gd rfl) rfl rfl ?_
              refine g_getA (q2 := 113) 18 (gd rfl) rfl rfl rfl rfl rfl ?_
              refine g_aload_n 19 (gd rfl) rfl rfl ?_
              refine g_getI 22 (gd rfl) rfl rfl rfl (fun z27 e28 => ?_)
              have q29 : z14 = z27 := (e15).trans e28.symm
              subst q29
              refine g_iload_n 23 (gd rfl) rfl rfl ?_
              refine g_iadd 24 (gd rfl) rfl (fun z30 e31 => ?_)
              have i32 := in_add 0 319 e31 i16 i9 rfl rfl
              refine g_iaload 25 (gd rfl) rfl (n := 480) rfl (in_ix i32 rfl) (fun z33 e34 => ?_)
              have i35 := inv_I hI (n := 480) (t := 0) 0 31 rfl (in_ix i32 rfl) rfl e34
              refine g_aload_n 26 (gd rfl) rfl rfl ?_
              refine g_getA (q2 := 114) 29 (gd rfl) rfl rfl rfl rfl rfl ?_
              refine g_aload_n 30 (gd rfl) rfl rfl ?_
              refine g_getI 33 (gd rfl) rfl rfl rfl (fun z36 e37 => ?_)
              have q38 : z14 = z36 := (e15).trans e37.symm
              subst q38
              refine g_iload_n 34 (gd rfl) rfl rfl ?_
              refine g_iadd 35 (gd rfl) rfl (fun z39 e40 => ?_)
              have i41 := in_add 0 319 e40 i16 i9 rfl rfl
              refine g_iaload 36 (gd rfl) rfl (n := 480) rfl (in_ix i41 rfl) (fun z42 e43 => ?_)
              have i44 := inv_I hI (n := 480) (t := 0) 0 31 rfl (in_ix i41 rfl) rfl e43
              refine g_cmp_eq 39 43 (gd rfl) rfl rfl (fun c45 => ?_) (fun c45 => ?_)
              · skip
                refine g_iconst 0 44 (gd rfl) rfl rfl ?_
                refine g_ireturn (gd rfl) rfl (nb01 (in_w 0 1 (in_c 0 rfl) rfl)) (hp12 _ _ ?_)
                show GG _ _ _ _ _ _ _ _ [.int (Int32.ofInt 0)] _ _ _
                refine g_if_eq 91 201 (gd rfl) rfl rfl (fun c46 => ?_) (fun c46 => ?_)
                · skip
                  exact gg_w (by omega) (gg_f (gf_cons rfl (gf_cons rfl (gf_cons rfl (gf_cons rfl (gf_cons rfl gf_nil))))) (ct201 s  hI (in_w 0 159 i9 rfl)))
                · skip
                  exact zn_ne c46 (in_c 0 rfl) rfl
              · skip
                refine g_iconst 1 40 (gd rfl) rfl rfl ?_
                refine g_goto 44 (gd rfl) rfl ?_
                refine g_ireturn (gd rfl) rfl (nb01 (in_w 0 1 (in_c 1 rfl) rfl)) (hp12 _ _ ?_)
                show GG _ _ _ _ _ _ _ _ [.int (Int32.ofInt 1)] _ _ _
                refine g_if_eq 91 201 (gd rfl) rfl rfl (fun c47 => ?_) (fun c47 => ?_)
                · skip
                  exact zn_eq c47 (in_c 1 rfl) rfl
                · skip
                  refine g_aload_n 92 (gd rfl) rfl rfl ?_
                  refine g_aload_n 93 (gd rfl) rfl rfl ?_
                  refine g_getI 96 (gd rfl) rfl rfl rfl (fun z48 e49 => ?_)
                  have q50 : z14 = z48 := (e15).trans e49.symm
                  subst q50
                  refine g_iload 98 (gd rfl) rfl rfl ?_
                  refine g_iadd 99 (gd rfl) rfl (fun z51 e52 => ?_)
                  have i53 := in_add 0 319 e52 i16 i9 rfl rfl
                  refine g_iload 101 (gd rfl) rfl rfl ?_
                  refine g_callv (X := _) (As := [.int z51, .int y74_5]) (r := []) (b := A 109) (q := 109) 104 (gd rfl) rfl rfl rfl rfl rfl (ww_o rfl) (Nat.le_of_ble_eq_true rfl) (mc := 0) (ms := 0) (Nat.zero_le _) (Nat.zero_le _) (P := fun v u => _) ?_ (fun e u h => h) (fun v u h => h)
                  intro po54 xx55 hp56 hx57
                  refine g_enter2 (k := 366) (N := 300) (by omega) rfl (Nat.le_of_ble_eq_true rfl) ?_
                  refine g_ldc2_w 1000 3 (gd rfl) rfl rfl ?_
                  refine g_aload_n 4 (gd rfl) rfl rfl ?_
                  refine g_getA (q2 := 115) 7 (gd rfl) rfl rfl rfl rfl rfl ?_
                  refine g_iload_n 8 (gd rfl) rfl rfl ?_
                  refine g_iaload 9 (gd rfl) rfl (n := 480) rfl (in_ix i53 rfl) (fun z58 e59 => ?_)
                  have i60 := inv_I hI (n := 480) (t := 0) (-1000000) 1000000 rfl (in_ix i53 rfl) rfl e59
                  refine g_i2l 10 (gd rfl) rfl (fun z61 e62 => ?_)
                  have i63 := l_i e62 i60
                  refine g_ldc2_w 1000000 13 (gd rfl) rfl rfl ?_
                  refine g_ladd 14 (gd rfl) rfl (fun z64 e65 => ?_)
                  refine g_lmul 15 (gd rfl) rfl (fun z66 e67 => ?_)
                  refine g_iload_n 16 (gd rfl) rfl rfl ?_
                  refine g_i2l 17 (gd rfl) rfl (fun z68 e69 => ?_)
                  have i70 := l_i e69 i9
                  refine g_ladd 18 (gd rfl) rfl (fun z71 e72 => ?_)
                  refine g_lreturn (gd rfl) rfl (hp56 _ _ ?_)
                  show GG _ _ _ _ _ _ _ _ [.long z71] _ _ _
                  refine g_lload_n 105 (gd rfl) rfl rfl ?_
                  refine g_lcmp 106 (gd rfl) rfl (fun z73 e74 => ?_)
                  have i75 := lc_in e74
                  refine g_if_ge 109 201 (gd rfl) rfl rfl (fun c76 => ?_) (fun c76 => ?_)
                  · skip
                    have i77 := z_ge 0 1 c76 i75 rfl
                    have c78 := lc_ge e74 c76
                    exact gg_w (by omega) (gg_f (gf_cons rfl (gf_cons rfl (gf_cons rfl (gf_cons rfl (gf_cons rfl gf_nil))))) (ct201 s  hI (in_w 0 159 i9 rfl)))
                  · skip
                    have i79 := z_lt (-1) (-1) c76 i75 rfl
                    have c80 := lc_lt e74 c76
                    have i81 := lr_lt1 (-9223372036854775808) 9223372036854775806 c80 (l_rng z71) (l_rng y62_2) rfl
                    have i82 := lr_lt2 (-9223372036854775807) 9223372036854775807 c80 (l_rng z71) (l_rng y62_2) rfl
                    refine g_aload_n 110 (gd rfl) rfl rfl ?_
                    refine g_getA (q2 := 160) 113 (gd rfl) rfl rfl rfl rfl rfl ?_
                    refine g_aload_n 114 (gd rfl) rfl rfl ?_
                    refine g_getA (q2 := 113) 117 (gd rfl) rfl rfl rfl rfl rfl ?_
                    refine g_aload_n 118 (gd rfl) rfl rfl ?_
                    refine g_getI 121 (gd rfl) rfl rfl rfl (fun z83 e84 => ?_)
                    have q85 : z14 = z83 := (e15).trans e84.symm
                    subst q85
                    refine g_iload 123 (gd rfl) rfl rfl ?_
                    refine g_iadd 124 (gd rfl) rfl (fun z86 e87 => ?_)
                    have i88 := in_add 0 319 e87 i16 i9 rfl rfl
                    refine g_iaload 125 (gd rfl) rfl (n := 480) rfl (in_ix i88 rfl) (fun z89 e90 => ?_)
                    have i91 := inv_I hI (n := 480) (t := 0) 0 31 rfl (in_ix i88 rfl) rfl e90
                    refine g_iaload 126 (gd rfl) rfl (n := 32) rfl (in_ix i91 rfl) (fun z92 e93 => ?_)
                    have i94 := inv_I hI (n := 32) (t := 0) 0 31 rfl (in_ix i91 rfl) rfl e93
                    refine g_istore 128 (gd rfl) rfl (Nat.le_of_ble_eq_true rfl) ?_
                    refine g_aload_n 129 (gd rfl) rfl rfl ?_
                    refine g_getA (q2 := 160) 132 (gd rfl) rfl rfl rfl rfl rfl ?_
                    refine g_aload_n 133 (gd rfl) rfl rfl ?_
                    refine g_getA (q2 := 114) 136 (gd rfl) rfl rfl rfl rfl rfl ?_
                    refine g_aload_n 137 (gd rfl) rfl rfl ?_
                    refine g_getI 140 (gd rfl) rfl rfl rfl (fun z95 e96 => ?_)
                    have q97 : z14 = z95 := (e15).trans e96.symm
                    subst q97
                    refine g_iload 142 (gd rfl) rfl rfl ?_
                    refine g_iadd 143 (gd rfl) rfl (fun z98 e99 => ?_)
                    have i100 := in_add 0 319 e99 i16 i9 rfl rfl
                    refine g_iaload 144 (gd rfl) rfl (n := 480) rfl (in_ix i100 rfl) (fun z101 e102 => ?_)
                    have i103 := inv_I hI (n := 480) (t := 0) 0 31 rfl (in_ix i100 rfl) rfl e102
                    refine g_iaload 145 (gd rfl) rfl (n := 32) rfl (in_ix i103 rfl) (fun z104 e105 => ?_)
                    have i106 := inv_I hI (n := 32) (t := 0) 0 31 rfl (in_ix i103 rfl) rfl e105
                    refine g_istore 147 (gd rfl) rfl (Nat.le_of_ble_eq_true rfl) ?_
                    refine g_iload 149 (gd rfl) rfl rfl ?_
                    refine g_iload 151 (gd rfl) rfl rfl ?_
                    refine g_cmp_ge 154 159 (gd rfl) rfl rfl (fun c107 => ?_) (fun c107 => ?_)
                    · skip
                      refine g_iload 161 (gd rfl) rfl rfl ?_
                      refine g_istore 163 (gd rfl) rfl (Nat.le_of_ble_eq_true rfl) ?_
                      refine g_aload_n 164 (gd rfl) rfl rfl ?_
                      refine g_getA (q2 := 160) 167 (gd rfl) rfl rfl rfl rfl rfl ?_
                      refine g_aload_n 168 (gd rfl) rfl rfl ?_
                      refine g_getA (q2 := 113) 171 (gd rfl) rfl rfl rfl rfl rfl ?_
                      refine g_aload_n 172 (gd rfl) rfl rfl ?_
                      refine g_getI 175 (gd rfl) rfl rfl rfl (fun z108 e109 => ?_)
                      have q110 : z14 = z108 := (e15).trans e109.symm
                      subst q110
                      refine g_iload 177 (gd rfl) rfl rfl ?_
                      refine g_iadd 178 (gd rfl) rfl (fun z111 e112 => ?_)
                      have i113 := in_add 0 319 e112 i16 i9 rfl rfl
                      refine g_iaload 179 (gd rfl) rfl (n := 480) rfl (in_ix i113 rfl) (fun z114 e115 => ?_)
                      have i116 := inv_I hI (n := 480) (t := 0) 0 31 rfl (in_ix i113 rfl) rfl e115
                      refine g_iload 181 (gd rfl) rfl rfl ?_
                      refine g_iastore 182 (gd rfl) rfl (n := 32) rfl (in_ix i116 rfl) ?_
                      have hI117 := inv_sI (q := 160) (j := z114.toNatClampNeg) hI rfl (in_w 0 31 i106 rfl)
                      refine g_aload_n 183 (gd rfl) rfl rfl ?_
                      refine g_getA (q2 := 160) 186 (gd rfl) rfl rfl rfl rfl rfl ?_
                      refine g_aload_n 187 (gd rfl) rfl rfl ?_
                      refine g_getA (q2 := 114) 190 (gd rfl) rfl rfl rfl rfl rfl ?_
                      refine g_aload_n 191 (gd rfl) rfl rfl ?_
                      refine g_getI 194 (gd rfl) rfl rfl rfl (fun z118 e119 => ?_)
                      have q120 : z14 = z118 := (e15).trans e119.symm
                      subst q120
                      refine g_iload 196 (gd rfl) rfl rfl ?_
                      refine g_iadd 197 (gd rfl) rfl (fun z121 e122 => ?_)
                      have i123 := in_add 0 319 e122 i16 i9 rfl rfl
                      refine g_iaload 198 (gd rfl) rfl (n := 480) rfl (in_ix i123 rfl) (fun z124 e125 => ?_)
                      have i126 := inv_I hI117 (n := 480) (t := 0) 0 31 rfl (in_ix i123 rfl) rfl e125
                      refine g_iload 200 (gd rfl) rfl rfl ?_
                      refine g_iastore 201 (gd rfl) rfl (n := 32) rfl (in_ix i126 rfl) ?_
                      have hI127 := inv_sI (q := 160) (j := z124.toNatClampNeg) hI117 rfl (in_w 0 31 i106 rfl)
                      exact gg_w (by omega) (gg_f (gf_cons rfl (gf_cons rfl (gf_cons rfl (gf_cons rfl (gf_cons rfl gf_nil))))) (ct201 (sI (sI s 160 z114.toNatClampNeg z104) 160 z124.toNatClampNeg z104)  hI127 (in_w 0 159 i9 rfl)))
                    · skip
                      have i128 := r_lt1 0 30 c107 i94 i106 rfl
                      have i129 := r_lt2 1 31 c107 i94 i106 rfl
                      refine g_iload 156 (gd rfl) rfl rfl ?_
                      refine g_goto 161 (gd rfl) rfl ?_
                      refine g_istore 163 (gd rfl) rfl (Nat.le_of_ble_eq_true rfl) ?_
                      refine g_aload_n 164 (gd rfl) rfl rfl ?_
                      refine g_getA (q2 := 160) 167 (gd rfl) rfl rfl rfl rfl rfl ?_
                      refine g_aload_n 168 (gd rfl) rfl rfl ?_
                      refine g_getA (q2 := 113) 171 (gd rfl) rfl rfl rfl rfl rfl ?_
                      refine g_aload_n 172 (gd rfl) rfl rfl ?_
                      refine g_getI 175 (gd rfl) rfl rfl rfl (fun z130 e131 => ?_)
                      have q132 : z14 = z130 := (e15).trans e131.symm
                      subst q132
                      refine g_iload 177 (gd rfl) rfl rfl ?_
                      refine g_iadd 178 (gd rfl) rfl (fun z133 e134 => ?_)
                      have i135 := in_add 0 319 e134 i16 i9 rfl rfl
                      refine g_iaload 179 (gd rfl) rfl (n := 480) rfl (in_ix i135 rfl) (fun z136 e137 => ?_)
                      have i138 := inv_I hI (n := 480) (t := 0) 0 31 rfl (in_ix i135 rfl) rfl e137
                      refine g_iload 181 (gd rfl) rfl rfl ?_
                      refine g_iastore 182 (gd rfl) rfl (n := 32) rfl (in_ix i138 rfl) ?_
                      have hI139 := inv_sI (q := 160) (j := z136.toNatClampNeg) hI rfl (in_w 0 31 i128 rfl)
                      refine g_aload_n 183 (gd rfl) rfl rfl ?_
                      refine g_getA (q2 := 160) 186 (gd rfl) rfl rfl rfl rfl rfl ?_
                      refine g_aload_n 187 (gd rfl) rfl rfl ?_
                      refine g_getA (q2 := 114) 190 (gd rfl) rfl rfl rfl rfl rfl ?_
                      refine g_aload_n 191 (gd rfl) rfl rfl ?_
                      refine g_getI 194 (gd rfl) rfl rfl rfl (fun z140 e141 => ?_)
                      have q142 : z14 = z140 := (e15).trans e141.symm
                      subst q142
                      refine g_iload 196 (gd rfl) rfl rfl ?_
                      refine g_iadd 197 (gd rfl) rfl (fun z143 e144 => ?_)
                      have i145 := in_add 0 319 e144 i16 i9 rfl rfl
                      refine g_iaload 198 (gd rfl) rfl (n := 480) rfl (in_ix i145 rfl) (fun z146 e147 => ?_)
                      have i148 := inv_I hI139 (n := 480) (t := 0) 0 31 rfl (in_ix i145 rfl) rfl e147
                      refine g_iload 200 (gd rfl) rfl rfl ?_
                      refine g_iastore 201 (gd rfl) rfl (n := 32) rfl (in_ix i148 rfl) ?_
                      have hI149 := inv_sI (q := 160) (j := z146.toNatClampNeg) hI139 rfl (in_w 0 31 i128 rfl)
                      exact gg_w (by omega) (gg_f (gf_cons rfl (gf_cons rfl (gf_cons rfl (gf_cons rfl (gf_cons rfl gf_nil))))) (ct201 (sI (sI s 160 z136.toNatClampNeg z92) 160 z146.toNatClampNeg z92)  hI149 (in_w 0 159 i9 rfl)))
      refine g_iload 64 (gd rfl) rfl rfl ?_
      refine g_aload_n 65 (gd rfl) rfl rfl ?_
      refine g_getI 68 (gd rfl) rfl rfl rfl (fun z150 e151 => ?_)
      have i152 := inv_F hI 0 32 rfl e151
      refine g_cmp_ge 71 213 (gd rfl) rfl rfl (fun c153 => ?_) (fun c153 => ?_)
      · skip
        refine g_aload_n 214 (gd rfl) rfl rfl ?_
        refine g_getA (q2 := 160) 217 (gd rfl) rfl rfl rfl rfl rfl ?_
        refine g_aload_n 218 (gd rfl) rfl rfl ?_
        refine g_getA (q2 := 113) 221 (gd rfl) rfl rfl rfl rfl rfl ?_
        refine g_aload_n 222 (gd rfl) rfl rfl ?_
        refine g_getI 225 (gd rfl) rfl rfl rfl (fun z154 e155 => ?_)
        have i156 := inv_F hI 0 160 rfl e155
        refine g_iload_n 226 (gd rfl) rfl rfl ?_
        refine g_iadd 227 (gd rfl) rfl (fun z157 e158 => ?_)
        have i159 := in_add 0 319 e158 i156 j62_1 rfl rfl
        refine g_iaload 228 (gd rfl) rfl (n := 480) rfl (in_ix i159 rfl) (fun z160 e161 => ?_)
        have i162 := inv_I hI (n := 480) (t := 0) 0 31 rfl (in_ix i159 rfl) rfl e161
        refine g_iaload 229 (gd rfl) rfl (n := 32) rfl (in_ix i162 rfl) (fun z163 e164 => ?_)
        have i165 := inv_I hI (n := 32) (t := 0) 0 31 rfl (in_ix i162 rfl) rfl e164
        refine g_aload_n 230 (gd rfl) rfl rfl ?_
        refine g_getA (q2 := 160) 233 (gd rfl) rfl rfl rfl rfl rfl ?_
        refine g_aload_n 234 (gd rfl) rfl rfl ?_
        refine g_getA (q2 := 114) 237 (gd rfl) rfl rfl rfl rfl rfl ?_
        refine g_aload_n 238 (gd rfl) rfl rfl ?_
        refine g_getI 241 (gd rfl) rfl rfl rfl (fun z166 e167 => ?_)
        have q168 : z154 = z166 := (e155).trans e167.symm
        subst q168
        refine g_iload_n 242 (gd rfl) rfl rfl ?_
        refine g_iadd 243 (gd rfl) rfl (fun z169 e170 => ?_)
        have i171 := in_add 0 319 e170 i156 j62_1 rfl rfl
        refine g_iaload 244 (gd rfl) rfl (n := 480) rfl (in_ix i171 rfl) (fun z172 e173 => ?_)
        have i174 := inv_I hI (n := 480) (t := 0) 0 31 rfl (in_ix i171 rfl) rfl e173
        refine g_iaload 245 (gd rfl) rfl (n := 32) rfl (in_ix i174 rfl) (fun z175 e176 => ?_)
        have i177 := inv_I hI (n := 32) (t := 0) 0 31 rfl (in_ix i174 rfl) rfl e176
        refine g_cmp_eq 248 252 (gd rfl) rfl rfl (fun c178 => ?_) (fun c178 => ?_)
        · skip
          refine g_iconst 0 253 (gd rfl) rfl rfl ?_
          exact g_ireturn (gd rfl) rfl (nb01 (in_w 0 1 (in_c 0 rfl) rfl)) (hP _ _ ⟨s, hI, (Int32.ofInt 0), rfl, rfl, in_w 0 1 (in_c 0 rfl) rfl⟩)
        · skip
          refine g_iconst 1 249 (gd rfl) rfl rfl ?_
          refine g_goto 253 (gd rfl) rfl ?_
          exact g_ireturn (gd rfl) rfl (nb01 (in_w 0 1 (in_c 1 rfl) rfl)) (hP _ _ ⟨s, hI, (Int32.ofInt 1), rfl, rfl, in_w 0 1 (in_c 1 rfl) rfl⟩)
      · skip
        have i179 := r_lt1 0 31 c153 j62_4 i152 rfl
        have i180 := r_lt2 1 32 c153 j62_4 i152 rfl
        refine g_iconst 0 72 (gd rfl) rfl rfl ?_
        refine g_istore 74 (gd rfl) rfl (Nat.le_of_ble_eq_true rfl) ?_
        exact gg_w (by omega) (gg_f (gf_cons rfl (gf_cons rfl (gf_cons rfl (gf_cons rfl (gf_cons rfl gf_nil))))) (ct74 161 s (Int32.ofInt 0) hI (in_w 0 31 i179 rfl) (in_w 0 160 (in_c 0 rfl) rfl) (m_in 161 (in_w 0 160 (in_c 0 rfl) rfl) rfl)))
  have ct26 : ∀ (k26 : Nat) (s : GS) (y26_2 : Int32), Inv s → In x1 0 159 → In y26_2 0 32 → 32 - (y26_2).toInt < (k26 : Int) → GG Z (d - 1) 365 post (gx xp) (9687581 + k26 * 900) 26 (fun j => xlook j [(0, .ref (A 109)), (1, .int x1), (2, .int y26_2)]) [] (WW Z A s ++ ex) 0 0 := by
    intro k26
    induction k26 with
    | zero => intro s y26_2 hI j26_1 j26_2 mm26; exact m_no mm26 j26_2 rfl
    | succ k26 ih26 =>
      intro s y26_2 hI j26_1 j26_2 mm26
      refine gg_w (M := 9687581 + k26 * 900 + 900) (by omega) ?_
      refine g_iload_n 27 (gd rfl) rfl rfl ?_
      refine g_aload_n 28 (gd rfl) rfl rfl ?_
      refine g_getI 31 (gd rfl) rfl rfl rfl (fun z181 e182 => ?_)
      have i183 := inv_F hI 0 32 rfl e182
      refine g_cmp_ge 34 47 (gd rfl) rfl rfl (fun c184 => ?_) (fun c184 => ?_)
      · skip
        refine g_aload_n 48 (gd rfl) rfl rfl ?_
        refine g_aload_n 49 (gd rfl) rfl rfl ?_
        refine g_getI 52 (gd rfl) rfl rfl rfl (fun z185 e186 => ?_)
        have i187 := inv_F hI 0 160 rfl e186
        refine g_iload_n 53 (gd rfl) rfl rfl ?_
        refine g_iadd 54 (gd rfl) rfl (fun z188 e189 => ?_)
        have i190 := in_add 0 319 e189 i187 j26_1 rfl rfl
        refine g_iload_n 55 (gd rfl) rfl rfl ?_
        refine g_callv (X := _) (As := [.int z188, .int x1]) (r := []) (b := A 109) (q := 109) 58 (gd rfl) rfl rfl rfl rfl rfl (ww_o rfl) (Nat.le_of_ble_eq_true rfl) (mc := 0) (ms := 0) (Nat.zero_le _) (Nat.zero_le _) (P := fun v u => _) ?_ (fun e u h => h) (fun v u h => h)
        intro po191 xx192 hp193 hx194
        refine g_enter2 (k := 366) (N := 300) (by omega) rfl (Nat.le_of_ble_eq_true rfl) ?_
        refine g_ldc2_w 1000 3 (gd rfl) rfl rfl ?_
        refine g_aload_n 4 (gd rfl) rfl rfl ?_
        refine g_getA (q2 := 115) 7 (gd rfl) rfl rfl rfl rfl rfl ?_
        refine g_iload_n 8 (gd rfl) rfl rfl ?_
        refine g_iaload 9 (gd rfl) rfl (n := 480) rfl (in_ix i190 rfl) (fun z195 e196 => ?_)
        have i197 := inv_I hI (n := 480) (t := 0) (-1000000) 1000000 rfl (in_ix i190 rfl) rfl e196
        refine g_i2l 10 (gd rfl) rfl (fun z198 e199 => ?_)
        have i200 := l_i e199 i197
        refine g_ldc2_w 1000000 13 (gd rfl) rfl rfl ?_
        refine g_ladd 14 (gd rfl) rfl (fun z201 e202 => ?_)
        refine g_lmul 15 (gd rfl) rfl (fun z203 e204 => ?_)
        refine g_iload_n 16 (gd rfl) rfl rfl ?_
        refine g_i2l 17 (gd rfl) rfl (fun z205 e206 => ?_)
        have i207 := l_i e206 j26_1
        refine g_ladd 18 (gd rfl) rfl (fun z208 e209 => ?_)
        refine g_lreturn (gd rfl) rfl (hp193 _ _ ?_)
        show GG _ _ _ _ _ _ _ _ [.long z208] _ _ _
        refine g_lstore_n 59 (gd rfl) rfl (Nat.le_of_ble_eq_true rfl) ?_
        refine g_iconst 0 60 (gd rfl) rfl rfl ?_
        refine g_istore 62 (gd rfl) rfl (Nat.le_of_ble_eq_true rfl) ?_
        exact gg_w (by omega) (gg_f (gf_cons rfl (gf_cons rfl (gf_cons rfl (gf_cons rfl gf_nil)))) (ct62 33 s z208 (Int32.ofInt 0) hI (in_w 0 159 j26_1 rfl) (in_w 0 32 (in_c 0 rfl) rfl) (m_in 33 (in_w 0 32 (in_c 0 rfl) rfl) rfl)))
      · skip
        have i210 := r_lt1 0 31 c184 j26_2 i183 rfl
        have i211 := r_lt2 1 32 c184 j26_2 i183 rfl
        refine g_aload_n 35 (gd rfl) rfl rfl ?_
        refine g_getA (q2 := 160) 38 (gd rfl) rfl rfl rfl rfl rfl ?_
        refine g_iload_n 39 (gd rfl) rfl rfl ?_
        refine g_iload_n 40 (gd rfl) rfl rfl ?_
        refine g_iastore 41 (gd rfl) rfl (n := 32) rfl (in_ix i210 rfl) ?_
        have hI212 := inv_sI (q := 160) (j := y26_2.toNatClampNeg) hI rfl (in_w 0 31 i210 rfl)
        refine g_iinc 44 (gd rfl) rfl rfl (Nat.le_of_ble_eq_true rfl) (fun z213 e214 => ?_)
        have i215 := in_add 1 32 e214 i210 (in_c 1 rfl) rfl rfl
        refine g_goto 26 (gd rfl) rfl ?_
        exact gg_w (by omega) (gg_f (gf_cons rfl (gf_cons rfl (gf_cons rfl gf_nil))) (ih26 (sI s 160 y26_2.toNatClampNeg y26_2) z213 hI212 (in_w 0 159 j26_1 rfl) (in_w 0 32 i215 rfl) (m_up mm26 (t_add e214 i210 (in_c 1 rfl) rfl) (in_w 1 1 (in_c 1 rfl) rfl))))
  refine g_enter2 (k := 365) (N := 9718181) (by omega) rfl (Nat.le_of_ble_eq_true rfl) ?_
  refine g_aload_n 1 (gd rfl) rfl rfl ?_
  refine g_aload_n 2 (gd rfl) rfl rfl ?_
  refine g_iload_n 3 (gd rfl) rfl rfl ?_
  refine g_callv (X := _) (As := [.int x1]) (r := [.ref (A 109)]) (b := A 109) (q := 109) 6 (gd rfl) rfl rfl rfl rfl rfl (ww_o rfl) (Nat.le_of_ble_eq_true rfl) (mc := 0) (ms := 0) (Nat.zero_le _) (Nat.zero_le _) (P := fun v u => _) ?_ (fun e u h => h) (fun v u h => h)
  intro po216 xx217 hp218 hx219
  refine g_enter2 (k := 273) (N := 300) (by omega) rfl (Nat.le_of_ble_eq_true rfl) ?_
  refine g_iload_n 1 (gd rfl) rfl rfl ?_
  refine g_if_lt 4 29 (gd rfl) rfl rfl (fun c220 => ?_) (fun c220 => ?_)
  · skip
    have i221 := z_lt (-2147483648) (-1) c220 (i_rng x1) rfl
    refine g_iconst 0 30 (gd rfl) rfl rfl ?_
    refine g_ireturn (gd rfl) rfl (nb01 (in_w 0 1 (in_c 0 rfl) rfl)) (hp218 _ _ ?_)
    show GG _ _ _ _ _ _ _ _ [.int (Int32.ofInt 0), .ref (A 109)] _ _ _
    refine g_callv (X := _) (As := [.int (Int32.ofInt 0)]) (r := []) (b := A 109) (q := 109) 9 (gd rfl) rfl rfl rfl rfl rfl (ww_o rfl) (Nat.le_of_ble_eq_true rfl) (mc := 0) (ms := 0) (Nat.zero_le _) (Nat.zero_le _) (P := fun v u => _) ?_ (fun e u h => h) (fun v u h => h)
    intro po222 xx223 hp224 hx225
    refine g_enter2 (k := 271) (N := 300) (by omega) rfl (Nat.le_of_ble_eq_true rfl) ?_
    refine g_aload_n 1 (gd rfl) rfl rfl ?_
    refine g_iload_n 2 (gd rfl) rfl rfl ?_
    refine g_iconst 1 3 (gd rfl) rfl rfl ?_
    refine g_callv (X := _) (As := [.int (Int32.ofInt 0), .int (Int32.ofInt 1)]) (r := []) (b := A 109) (q := 109) 6 (gd rfl) rfl rfl rfl rfl rfl (ww_o rfl) (Nat.le_of_ble_eq_true rfl) (mc := 0) (ms := 0) (Nat.zero_le _) (Nat.zero_le _) (P := fun v u => _) ?_ (fun e u h => h) (fun v u h => h)
    intro po226 xx227 hp228 hx229
    refine g_enter2 (k := 270) (N := 300) (by omega) rfl (Nat.le_of_ble_eq_true rfl) ?_
    refine g_aload_n 1 (gd rfl) rfl rfl ?_
    refine g_iload_n 2 (gd rfl) rfl rfl ?_
    refine g_if_ne 5 9 (gd rfl) rfl rfl (fun c230 => ?_) (fun c230 => ?_)
    · skip
      exact zn_ne c230 (in_c 0 rfl) rfl
    · skip
      refine g_iconst 1 6 (gd rfl) rfl rfl ?_
      refine g_goto 18 (gd rfl) rfl ?_
      refine g_putI 21 (gd rfl) rfl rfl rfl rfl ?_
      have hI231 := inv_sF (q := 109) (j := 0) hI rfl (in_w 0 2 (in_c 1 rfl) rfl)
      refine g_aload_n 22 (gd rfl) rfl rfl ?_
      refine g_getI 25 (gd rfl) rfl rfl rfl (fun z232 e233 => ?_)
      have q234 : (Int32.ofInt 1) = z232 := (sF_get).trans e233.symm
      subst q234
      refine g_if_le 28 32 (gd rfl) rfl rfl (fun c235 => ?_) (fun c235 => ?_)
      · skip
        exact zn_le c235 (in_c 1 rfl) rfl
      · skip
        refine g_iconst 1 29 (gd rfl) rfl rfl ?_
        refine g_goto 33 (gd rfl) rfl ?_
        refine g_ireturn (gd rfl) rfl (nb01 (in_w 0 1 (in_c 1 rfl) rfl)) (hp228 _ _ ?_)
        show GG _ _ _ _ _ _ _ _ [.int (Int32.ofInt 1)] _ _ _
        refine g_ireturn (gd rfl) rfl (nb01 (in_w 0 1 (in_c 1 rfl) rfl)) (hp224 _ _ ?_)
        show GG _ _ _ _ _ _ _ _ [.int (Int32.ofInt 1)] _ _ _
        refine g_if_eq 12 14 (gd rfl) rfl rfl (fun c236 => ?_) (fun c236 => ?_)
        · skip
          exact zn_eq c236 (in_c 1 rfl) rfl
        · skip
          refine g_iconst 0 13 (gd rfl) rfl rfl ?_
          exact g_ireturn (gd rfl) rfl (nb01 (in_w 0 1 (in_c 0 rfl) rfl)) (hP _ _ ⟨(sF s 109 0 (Int32.ofInt 1)), hI231, (Int32.ofInt 0), rfl, rfl, in_w 0 1 (in_c 0 rfl) rfl⟩)
  · skip
    have i237 := z_ge 0 2147483647 c220 (i_rng x1) rfl
    refine g_iload_n 5 (gd rfl) rfl rfl ?_
    refine g_sipush 160 8 (gd rfl) rfl rfl ?_
    refine g_cmp_ge 11 29 (gd rfl) rfl rfl (fun c238 => ?_) (fun c238 => ?_)
    · skip
      have i239 := r_le2 160 2147483647 c238 (in_c 160 rfl) i237 rfl
      refine g_iconst 0 30 (gd rfl) rfl rfl ?_
      refine g_ireturn (gd rfl) rfl (nb01 (in_w 0 1 (in_c 0 rfl) rfl)) (hp218 _ _ ?_)
      show GG _ _ _ _ _ _ _ _ [.int (Int32.ofInt 0), .ref (A 109)] _ _ _
      refine g_callv (X := _) (As := [.int (Int32.ofInt 0)]) (r := []) (b := A 109) (q := 109) 9 (gd rfl) rfl rfl rfl rfl rfl (ww_o rfl) (Nat.le_of_ble_eq_true rfl) (mc := 0) (ms := 0) (Nat.zero_le _) (Nat.zero_le _) (P := fun v u => _) ?_ (fun e u h => h) (fun v u h => h)
      intro po240 xx241 hp242 hx243
      refine g_enter2 (k := 271) (N := 300) (by omega) rfl (Nat.le_of_ble_eq_true rfl) ?_
      refine g_aload_n 1 (gd rfl) rfl rfl ?_
      refine g_iload_n 2 (gd rfl) rfl rfl ?_
      refine g_iconst 1 3 (gd rfl) rfl rfl ?_
      refine g_callv (X := _) (As := [.int (Int32.ofInt 0), .int (Int32.ofInt 1)]) (r := []) (b := A 109) (q := 109) 6 (gd rfl) rfl rfl rfl rfl rfl (ww_o rfl) (Nat.le_of_ble_eq_true rfl) (mc := 0) (ms := 0) (Nat.zero_le _) (Nat.zero_le _) (P := fun v u => _) ?_ (fun e u h => h) (fun v u h => h)
      intro po244 xx245 hp246 hx247
      refine g_enter2 (k := 270) (N := 300) (by omega) rfl (Nat.le_of_ble_eq_true rfl) ?_
      refine g_aload_n 1 (gd rfl) rfl rfl ?_
      refine g_iload_n 2 (gd rfl) rfl rfl ?_
      refine g_if_ne 5 9 (gd rfl) rfl rfl (fun c248 => ?_) (fun c248 => ?_)
      · skip
        exact zn_ne c248 (in_c 0 rfl) rfl
      · skip
        refine g_iconst 1 6 (gd rfl) rfl rfl ?_
        refine g_goto 18 (gd rfl) rfl ?_
        refine g_putI 21 (gd rfl) rfl rfl rfl rfl ?_
        have hI249 := inv_sF (q := 109) (j := 0) hI rfl (in_w 0 2 (in_c 1 rfl) rfl)
        refine g_aload_n 22 (gd rfl) rfl rfl ?_
        refine g_getI 25 (gd rfl) rfl rfl rfl (fun z250 e251 => ?_)
        have q252 : (Int32.ofInt 1) = z250 := (sF_get).trans e251.symm
        subst q252
        refine g_if_le 28 32 (gd rfl) rfl rfl (fun c253 => ?_) (fun c253 => ?_)
        · skip
          exact zn_le c253 (in_c 1 rfl) rfl
        · skip
          refine g_iconst 1 29 (gd rfl) rfl rfl ?_
          refine g_goto 33 (gd rfl) rfl ?_
          refine g_ireturn (gd rfl) rfl (nb01 (in_w 0 1 (in_c 1 rfl) rfl)) (hp246 _ _ ?_)
          show GG _ _ _ _ _ _ _ _ [.int (Int32.ofInt 1)] _ _ _
          refine g_ireturn (gd rfl) rfl (nb01 (in_w 0 1 (in_c 1 rfl) rfl)) (hp242 _ _ ?_)
          show GG _ _ _ _ _ _ _ _ [.int (Int32.ofInt 1)] _ _ _
          refine g_if_eq 12 14 (gd rfl) rfl rfl (fun c254 => ?_) (fun c254 => ?_)
          · skip
            exact zn_eq c254 (in_c 1 rfl) rfl
          · skip
            refine g_iconst 0 13 (gd rfl) rfl rfl ?_
            exact g_ireturn (gd rfl) rfl (nb01 (in_w 0 1 (in_c 0 rfl) rfl)) (hP _ _ ⟨(sF s 109 0 (Int32.ofInt 1)), hI249, (Int32.ofInt 0), rfl, rfl, in_w 0 1 (in_c 0 rfl) rfl⟩)
    · skip
      have i255 := r_lt1 0 159 c238 i237 (in_c 160 rfl) rfl
      refine g_aload_n 12 (gd rfl) rfl rfl ?_
      refine g_getA (q2 := 112) 15 (gd rfl) rfl rfl rfl rfl rfl ?_
      refine g_aload_n 16 (gd rfl) rfl rfl ?_
      refine g_getI 19 (gd rfl) rfl rfl rfl (fun z256 e257 => ?_)
      have i258 := inv_F hI 0 160 rfl e257
      refine g_iload_n 20 (gd rfl) rfl rfl ?_
      refine g_iadd 21 (gd rfl) rfl (fun z259 e260 => ?_)
      have i261 := in_add 0 319 e260 i258 i255 rfl rfl
      refine g_baload 22 (gd rfl) rfl (n := 480) rfl (in_ix i261 rfl) (fun z262 e263 => ?_)
      have i264 := inv_I hI (n := 480) (t := 3) 0 1 rfl (in_ix i261 rfl) rfl e263
      refine g_if_eq 25 29 (gd rfl) rfl rfl (fun c265 => ?_) (fun c265 => ?_)
      · skip
        have i266 := z_eq 0 0 c265 i264 rfl
        refine g_iconst 0 30 (gd rfl) rfl rfl ?_
        refine g_ireturn (gd rfl) rfl (nb01 (in_w 0 1 (in_c 0 rfl) rfl)) (hp218 _ _ ?_)
        show GG _ _ _ _ _ _ _ _ [.int (Int32.ofInt 0), .ref (A 109)] _ _ _
        refine g_callv (X := _) (As := [.int (Int32.ofInt 0)]) (r := []) (b := A 109) (q := 109) 9 (gd rfl) rfl rfl rfl rfl rfl (ww_o rfl) (Nat.le_of_ble_eq_true rfl) (mc := 0) (ms := 0) (Nat.zero_le _) (Nat.zero_le _) (P := fun v u => _) ?_ (fun e u h => h) (fun v u h => h)
        intro po267 xx268 hp269 hx270
        refine g_enter2 (k := 271) (N := 300) (by omega) rfl (Nat.le_of_ble_eq_true rfl) ?_
        refine g_aload_n 1 (gd rfl) rfl rfl ?_
        refine g_iload_n 2 (gd rfl) rfl rfl ?_
        refine g_iconst 1 3 (gd rfl) rfl rfl ?_
        refine g_callv (X := _) (As := [.int (Int32.ofInt 0), .int (Int32.ofInt 1)]) (r := []) (b := A 109) (q := 109) 6 (gd rfl) rfl rfl rfl rfl rfl (ww_o rfl) (Nat.le_of_ble_eq_true rfl) (mc := 0) (ms := 0) (Nat.zero_le _) (Nat.zero_le _) (P := fun v u => _) ?_ (fun e u h => h) (fun v u h => h)
        intro po271 xx272 hp273 hx274
        refine g_enter2 (k := 270) (N := 300) (by omega) rfl (Nat.le_of_ble_eq_true rfl) ?_
        refine g_aload_n 1 (gd rfl) rfl rfl ?_
        refine g_iload_n 2 (gd rfl) rfl rfl ?_
        refine g_if_ne 5 9 (gd rfl) rfl rfl (fun c275 => ?_) (fun c275 => ?_)
        · skip
          exact zn_ne c275 (in_c 0 rfl) rfl
        · skip
          refine g_iconst 1 6 (gd rfl) rfl rfl ?_
          refine g_goto 18 (gd rfl) rfl ?_
          refine g_putI 21 (gd rfl) rfl rfl rfl rfl ?_
          have hI276 := inv_sF (q := 109) (j := 0) hI rfl (in_w 0 2 (in_c 1 rfl) rfl)
          refine g_aload_n 22 (gd rfl) rfl rfl ?_
          refine g_getI 25 (gd rfl) rfl rfl rfl (fun z277 e278 => ?_)
          have q279 : (Int32.ofInt 1) = z277 := (sF_get).trans e278.symm
          subst q279
          refine g_if_le 28 32 (gd rfl) rfl rfl (fun c280 => ?_) (fun c280 => ?_)
          · skip
            exact zn_le c280 (in_c 1 rfl) rfl
          · skip
            refine g_iconst 1 29 (gd rfl) rfl rfl ?_
            refine g_goto 33 (gd rfl) rfl ?_
            refine g_ireturn (gd rfl) rfl (nb01 (in_w 0 1 (in_c 1 rfl) rfl)) (hp273 _ _ ?_)
            show GG _ _ _ _ _ _ _ _ [.int (Int32.ofInt 1)] _ _ _
            refine g_ireturn (gd rfl) rfl (nb01 (in_w 0 1 (in_c 1 rfl) rfl)) (hp269 _ _ ?_)
            show GG _ _ _ _ _ _ _ _ [.int (Int32.ofInt 1)] _ _ _
            refine g_if_eq 12 14 (gd rfl) rfl rfl (fun c281 => ?_) (fun c281 => ?_)
            · skip
              exact zn_eq c281 (in_c 1 rfl) rfl
            · skip
              refine g_iconst 0 13 (gd rfl) rfl rfl ?_
              exact g_ireturn (gd rfl) rfl (nb01 (in_w 0 1 (in_c 0 rfl) rfl)) (hP _ _ ⟨(sF s 109 0 (Int32.ofInt 1)), hI276, (Int32.ofInt 0), rfl, rfl, in_w 0 1 (in_c 0 rfl) rfl⟩)
      · skip
        have i282 := z_ne 1 1 c265 i264 rfl
        refine g_iconst 1 26 (gd rfl) rfl rfl ?_
        refine g_goto 30 (gd rfl) rfl ?_
        refine g_ireturn (gd rfl) rfl (nb01 (in_w 0 1 (in_c 1 rfl) rfl)) (hp218 _ _ ?_)
        show GG _ _ _ _ _ _ _ _ [.int (Int32.ofInt 1), .ref (A 109)] _ _ _
        refine g_callv (X := _) (As := [.int (Int32.ofInt 1)]) (r := []) (b := A 109) (q := 109) 9 (gd rfl) rfl rfl rfl rfl rfl (ww_o rfl) (Nat.le_of_ble_eq_true rfl) (mc := 0) (ms := 0) (Nat.zero_le _) (Nat.zero_le _) (P := fun v u => _) ?_ (fun e u h => h) (fun v u h => h)
        intro po283 xx284 hp285 hx286
        refine g_enter2 (k := 271) (N := 300) (by omega) rfl (Nat.le_of_ble_eq_true rfl) ?_
        refine g_aload_n 1 (gd rfl) rfl rfl ?_
        refine g_iload_n 2 (gd rfl) rfl rfl ?_
        refine g_iconst 1 3 (gd rfl) rfl rfl ?_
        refine g_callv (X := _) (As := [.int (Int32.ofInt 1), .int (Int32.ofInt 1)]) (r := []) (b := A 109) (q := 109) 6 (gd rfl) rfl rfl rfl rfl rfl (ww_o rfl) (Nat.le_of_ble_eq_true rfl) (mc := 0) (ms := 0) (Nat.zero_le _) (Nat.zero_le _) (P := fun v u => _) ?_ (fun e u h => h) (fun v u h => h)
        intro po287 xx288 hp289 hx290
        refine g_enter2 (k := 270) (N := 300) (by omega) rfl (Nat.le_of_ble_eq_true rfl) ?_
        refine g_aload_n 1 (gd rfl) rfl rfl ?_
        refine g_iload_n 2 (gd rfl) rfl rfl ?_
        refine g_if_ne 5 9 (gd rfl) rfl rfl (fun c291 => ?_) (fun c291 => ?_)
        · skip
          refine g_iload_n 10 (gd rfl) rfl rfl ?_
          refine g_if_ne 13 17 (gd rfl) rfl rfl (fun c292 => ?_) (fun c292 => ?_)
          · skip
            refine g_iconst 0 18 (gd rfl) rfl rfl ?_
            refine g_putI 21 (gd rfl) rfl rfl rfl rfl ?_
            have hI293 := inv_sF (q := 109) (j := 0) hI rfl (in_w 0 2 (in_c 0 rfl) rfl)
            refine g_aload_n 22 (gd rfl) rfl rfl ?_
            refine g_getI 25 (gd rfl) rfl rfl rfl (fun z294 e295 => ?_)
            have q296 : (Int32.ofInt 0) = z294 := (sF_get).trans e295.symm
            subst q296
            refine g_if_le 28 32 (gd rfl) rfl rfl (fun c297 => ?_) (fun c297 => ?_)
            · skip
              refine g_iconst 0 33 (gd rfl) rfl rfl ?_
              refine g_ireturn (gd rfl) rfl (nb01 (in_w 0 1 (in_c 0 rfl) rfl)) (hp289 _ _ ?_)
              show GG _ _ _ _ _ _ _ _ [.int (Int32.ofInt 0)] _ _ _
              refine g_ireturn (gd rfl) rfl (nb01 (in_w 0 1 (in_c 0 rfl) rfl)) (hp285 _ _ ?_)
              show GG _ _ _ _ _ _ _ _ [.int (Int32.ofInt 0)] _ _ _
              refine g_if_eq 12 14 (gd rfl) rfl rfl (fun c298 => ?_) (fun c298 => ?_)
              · skip
                refine g_aload_n 15 (gd rfl) rfl rfl ?_
                refine g_iload_n 16 (gd rfl) rfl rfl ?_
                refine g_callv (X := _) (As := [.int x1]) (r := []) (b := A 109) (q := 109) 19 (gd rfl) rfl rfl rfl rfl rfl (ww_o rfl) (Nat.le_of_ble_eq_true rfl) (mc := 0) (ms := 0) (Nat.zero_le _) (Nat.zero_le _) (P := fun v u => _) ?_ (fun e u h => h) (fun v u h => h)
                intro po299 xx300 hp301 hx302
                refine g_enter2 (k := 288) (N := 300) (by omega) rfl (Nat.le_of_ble_eq_true rfl) ?_
                refine g_aload_n 1 (gd rfl) rfl rfl ?_
                refine g_getA (q2 := 112) 4 (gd rfl) rfl rfl rfl rfl rfl ?_
                refine g_aload_n 5 (gd rfl) rfl rfl ?_
                refine g_getI 8 (gd rfl) rfl rfl rfl (fun z303 e304 => ?_)
                have q305 : z256 = z303 := (sF_ne rfl (e257)).trans e304.symm
                subst q305
                refine g_iload_n 9 (gd rfl) rfl rfl ?_
                refine g_iadd 10 (gd rfl) rfl (fun z306 e307 => ?_)
                have i308 := in_add 0 319 e307 i258 i255 rfl rfl
                refine g_baload 11 (gd rfl) rfl (n := 480) rfl (in_ix i308 rfl) (fun z309 e310 => ?_)
                have i311 := inv_I hI293 (n := 480) (t := 3) 0 1 rfl (in_ix i308 rfl) rfl e310
                refine g_if_eq 14 43 (gd rfl) rfl rfl (fun c312 => ?_) (fun c312 => ?_)
                · skip
                  have i313 := z_eq 0 0 c312 i311 rfl
                  refine g_iconst 0 44 (gd rfl) rfl rfl ?_
                  refine g_ireturn (gd rfl) rfl (nb01 (in_w 0 1 (in_c 0 rfl) rfl)) (hp301 _ _ ?_)
                  show GG _ _ _ _ _ _ _ _ [.int (Int32.ofInt 0)] _ _ _
                  refine g_if_ne 22 24 (gd rfl) rfl rfl (fun c314 => ?_) (fun c314 => ?_)
                  · skip
                    exact zn_ne c314 (in_c 0 rfl) rfl
                  · skip
                    refine g_iconst 0 23 (gd rfl) rfl rfl ?_
                    exact g_ireturn (gd rfl) rfl (nb01 (in_w 0 1 (in_c 0 rfl) rfl)) (hP _ _ ⟨(sF s 109 0 (Int32.ofInt 0)), hI293, (Int32.ofInt 0), rfl, rfl, in_w 0 1 (in_c 0 rfl) rfl⟩)
                · skip
                  have i315 := z_ne 1 1 c312 i311 rfl
                  refine g_aload_n 15 (gd rfl) rfl rfl ?_
                  refine g_getA (q2 := 113) 18 (gd rfl) rfl rfl rfl rfl rfl ?_
                  refine g_aload_n 19 (gd rfl) rfl rfl ?_
                  refine g_getI 22 (gd rfl) rfl rfl rfl (fun z316 e317 => ?_)
                  have q318 : z256 = z316 := (sF_ne rfl (e257)).trans e317.symm
                  subst q318
                  refine g_iload_n 23 (gd rfl) rfl rfl ?_
                  refine g_iadd 24 (gd rfl) rfl (fun z319 e320 => ?_)
                  have i321 := in_add 0 319 e320 i258 i255 rfl rfl
                  refine g_iaload 25 (gd rfl) rfl (n := 480) rfl (in_ix i321 rfl) (fun z322 e323 => ?_)
                  have i324 := inv_I hI293 (n := 480) (t := 0) 0 31 rfl (in_ix i321 rfl) rfl e323
                  refine g_aload_n 26 (gd rfl) rfl rfl ?_
                  refine g_getA (q2 := 114) 29 (gd rfl) rfl rfl rfl rfl rfl ?_
                  refine g_aload_n 30 (gd rfl) rfl rfl ?_
                  refine g_getI 33 (gd rfl) rfl rfl rfl (fun z325 e326 => ?_)
                  have q327 : z256 = z325 := (sF_ne rfl (e257)).trans e326.symm
                  subst q327
                  refine g_iload_n 34 (gd rfl) rfl rfl ?_
                  refine g_iadd 35 (gd rfl) rfl (fun z328 e329 => ?_)
                  have i330 := in_add 0 319 e329 i258 i255 rfl rfl
                  refine g_iaload 36 (gd rfl) rfl (n := 480) rfl (in_ix i330 rfl) (fun z331 e332 => ?_)
                  have i333 := inv_I hI293 (n := 480) (t := 0) 0 31 rfl (in_ix i330 rfl) rfl e332
                  refine g_cmp_eq 39 43 (gd rfl) rfl rfl (fun c334 => ?_) (fun c334 => ?_)
                  · skip
                    refine g_iconst 0 44 (gd rfl) rfl rfl ?_
                    refine g_ireturn (gd rfl) rfl (nb01 (in_w 0 1 (in_c 0 rfl) rfl)) (hp301 _ _ ?_)
                    show GG _ _ _ _ _ _ _ _ [.int (Int32.ofInt 0)] _ _ _
                    refine g_if_ne 22 24 (gd rfl) rfl rfl (fun c335 => ?_) (fun c335 => ?_)
                    · skip
                      exact zn_ne c335 (in_c 0 rfl) rfl
                    · skip
                      refine g_iconst 0 23 (gd rfl) rfl rfl ?_
                      exact g_ireturn (gd rfl) rfl (nb01 (in_w 0 1 (in_c 0 rfl) rfl)) (hP _ _ ⟨(sF s 109 0 (Int32.ofInt 0)), hI293, (Int32.ofInt 0), rfl, rfl, in_w 0 1 (in_c 0 rfl) rfl⟩)
                  · skip
                    refine g_iconst 1 40 (gd rfl) rfl rfl ?_
                    refine g_goto 44 (gd rfl) rfl ?_
                    refine g_ireturn (gd rfl) rfl (nb01 (in_w 0 1 (in_c 1 rfl) rfl)) (hp301 _ _ ?_)
                    show GG _ _ _ _ _ _ _ _ [.int (Int32.ofInt 1)] _ _ _
                    refine g_if_ne 22 24 (gd rfl) rfl rfl (fun c336 => ?_) (fun c336 => ?_)
                    · skip
                      refine g_iconst 0 25 (gd rfl) rfl rfl ?_
                      refine g_istore_n 26 (gd rfl) rfl (Nat.le_of_ble_eq_true rfl) ?_
                      exact gg_w (by omega) (gg_f (gf_cons rfl (gf_cons rfl (gf_cons rfl gf_nil))) (ct26 33 (sF s 109 0 (Int32.ofInt 0)) (Int32.ofInt 0) hI293 (in_w 0 159 i255 rfl) (in_w 0 32 (in_c 0 rfl) rfl) (m_in 33 (in_w 0 32 (in_c 0 rfl) rfl) rfl)))
                    · skip
                      exact zn_eq c336 (in_c 1 rfl) rfl
              · skip
                exact zn_ne c298 (in_c 0 rfl) rfl
            · skip
              exact zn_gt c297 (in_c 0 rfl) rfl
          · skip
            exact zn_eq c292 (in_c 1 rfl) rfl
        · skip
          exact zn_eq c291 (in_c 1 rfl) rfl

/-- GraphHouseModel.power -/
theorem k_367 {Z : AmZ} {A : Nat → Nat} {s : GS} {ex : va_W} {d : Nat} {X : AmX} {x0 : Int64} {x1 : Int64} (hd : 1 ≤ d) (hI : Inv s)  : GC Z d 367 [.long x0, .long x1] (WW Z A s ++ ex) 0 0 (fun v u => ∃ z : Int64, v = some (.long z) ∧ u = WW Z A s ++ ex) X := by
  intro post xp hP hX
  have ct9 : ∀ (k9 : Nat) (y9_4 : Int64) (y9_6 : Int64) (y9_8 : Int64), ((y9_8.toInt.toNat : Nat) : Int) < (k9 : Int) → GG Z (d - 1) 367 post (gx xp) (1 + k9 * 900) 9 (fun j => xlook j [(0, .long x0), (2, .long x1), (4, .long y9_4), (6, .long y9_6), (8, .long y9_8)]) [] (WW Z A s ++ ex) 0 0 := by
    intro k9
    induction k9 with
    | zero => intro y9_4 y9_6 y9_8  mm9; exact absurd mm9 (Int.not_lt.mpr (Int.natCast_nonneg _))
    | succ k9 ih9 =>
      intro y9_4 y9_6 y9_8  mm9
      refine gg_w (M := 1 + k9 * 900 + 900) (by omega) ?_
      refine g_lload 11 (gd rfl) rfl rfl ?_
      refine g_lconst 0 12 (gd rfl) rfl rfl ?_
      refine g_lcmp 13 (gd rfl) rfl (fun z1 e2 => ?_)
      have i3 := lc_in e2
      refine g_if_le 16 65 (gd rfl) rfl rfl (fun c4 => ?_) (fun c4 => ?_)
      · skip
        have i5 := z_le (-1) 0 c4 i3 rfl
        have c6 := lc_le e2 c4
        have i7 := lr_le1 (-9223372036854775808) 0 c6 (l_rng y9_8) (l_c 0 rfl) rfl
        refine g_lload 67 (gd rfl) rfl rfl ?_
        exact g_lreturn (gd rfl) rfl (hP _ _ ⟨y9_4, rfl, rfl⟩)
      · skip
        have i8 := z_gt 1 1 c4 i3 rfl
        have c9 := lc_gt e2 c4
        have i10 := lr_lt2 1 9223372036854775807 c9 (l_c 0 rfl) (l_rng y9_8) rfl
        refine g_lload 18 (gd rfl) rfl rfl ?_
        refine g_ldc2_w 2 21 (gd rfl) rfl rfl ?_
        refine g_lrem 22 (gd rfl) rfl (by decide) (fun z11 e12 => ?_)
        refine g_lconst 1 23 (gd rfl) rfl rfl ?_
        refine g_lcmp 24 (gd rfl) rfl (fun z13 e14 => ?_)
        have i15 := lc_in e14
        refine g_if_ne 27 39 (gd rfl) rfl rfl (fun c16 => ?_) (fun c16 => ?_)
        · skip
          have c17 := lc_ne e14 c16
          refine g_lload 41 (gd rfl) rfl rfl ?_
          refine g_lstore 43 (gd rfl) rfl (Nat.le_of_ble_eq_true rfl) ?_
          refine g_lload 45 (gd rfl) rfl rfl ?_
          refine g_lload 47 (gd rfl) rfl rfl ?_
          refine g_lmul 48 (gd rfl) rfl (fun z18 e19 => ?_)
          refine g_ldc2_w 1000000007 51 (gd rfl) rfl rfl ?_
          refine g_lrem 52 (gd rfl) rfl (by decide) (fun z20 e21 => ?_)
          refine g_lstore 54 (gd rfl) rfl (Nat.le_of_ble_eq_true rfl) ?_
          refine g_lload 56 (gd rfl) rfl rfl ?_
          refine g_ldc2_w 2 59 (gd rfl) rfl rfl ?_
          refine g_ldiv 60 (gd rfl) rfl (by decide) (fun z22 e23 => ?_)
          refine g_lstore 62 (gd rfl) rfl (Nat.le_of_ble_eq_true rfl) ?_
          refine g_goto 9 (gd rfl) rfl ?_
          exact gg_w (by omega) (gg_f (gf_cons rfl (gf_cons rfl (gf_cons rfl (gf_cons rfl (gf_cons rfl gf_nil))))) (ih9  y9_4 z20 z22   (mh e23 i10 rfl mm9)))
        · skip
          have i24 := z_eq 0 0 c16 i15 rfl
          have c25 := lc_eq e14 c16
          have i26 := lr_eq1 1 1 c25 (l_rng z11) (l_c 1 rfl) rfl
          refine g_lload 29 (gd rfl) rfl rfl ?_
          refine g_lload 31 (gd rfl) rfl rfl ?_
          refine g_lmul 32 (gd rfl) rfl (fun z27 e28 => ?_)
          refine g_ldc2_w 1000000007 35 (gd rfl) rfl rfl ?_
          refine g_lrem 36 (gd rfl) rfl (by decide) (fun z29 e30 => ?_)
          refine g_goto 41 (gd rfl) rfl ?_
          refine g_lstore 43 (gd rfl) rfl (Nat.le_of_ble_eq_true rfl) ?_
          refine g_lload 45 (gd rfl) rfl rfl ?_
          refine g_lload 47 (gd rfl) rfl rfl ?_
          refine g_lmul 48 (gd rfl) rfl (fun z31 e32 => ?_)
          refine g_ldc2_w 1000000007 51 (gd rfl) rfl rfl ?_
          refine g_lrem 52 (gd rfl) rfl (by decide) (fun z33 e34 => ?_)
          refine g_lstore 54 (gd rfl) rfl (Nat.le_of_ble_eq_true rfl) ?_
          refine g_lload 56 (gd rfl) rfl rfl ?_
          refine g_ldc2_w 2 59 (gd rfl) rfl rfl ?_
          refine g_ldiv 60 (gd rfl) rfl (by decide) (fun z35 e36 => ?_)
          refine g_lstore 62 (gd rfl) rfl (Nat.le_of_ble_eq_true rfl) ?_
          refine g_goto 9 (gd rfl) rfl ?_
          exact gg_w (by omega) (gg_f (gf_cons rfl (gf_cons rfl (gf_cons rfl (gf_cons rfl (gf_cons rfl gf_nil))))) (ih9  z29 z33 z35   (mh e36 i10 rfl mm9)))
  refine g_enter2 (k := 367) (N := 16602069666338596455301) (by omega) rfl (Nat.le_of_ble_eq_true rfl) ?_
  refine g_lconst 1 1 (gd rfl) rfl rfl ?_
  refine g_lstore 3 (gd rfl) rfl (Nat.le_of_ble_eq_true rfl) ?_
  refine g_lload_n 4 (gd rfl) rfl rfl ?_
  refine g_lstore 6 (gd rfl) rfl (Nat.le_of_ble_eq_true rfl) ?_
  refine g_lload_n 7 (gd rfl) rfl rfl ?_
  refine g_lstore 9 (gd rfl) rfl (Nat.le_of_ble_eq_true rfl) ?_
  exact gg_w (by omega) (gg_f (gf_cons rfl (gf_cons rfl (gf_cons rfl (gf_cons rfl (gf_cons rfl gf_nil))))) (ct9 18446744073709551616  (Int64.ofInt 1) x0 x1   (mh_in _)))

/-- GraphHouseModel.hop -/
theorem k_370_109_165_166 {Z : AmZ} {A : Nat → Nat} {s : GS} {ex : va_W} {d : Nat} {X : AmX} {x1 : Int32} {x2 : Int32} (hd : 1 ≤ d) (hI : Inv s) (h1 : In x1 0 31) (h2 : In x2 0 0) : GC Z d 370 [.ref (A 109), .int x1, .int x2, .ref (A 165), .ref (A 166)] (WW Z A s ++ ex) 0 0 (fun v u => ∃ t : GS, Inv t ∧ v = none ∧ u = WW Z A t ++ ex) X := by
  intro post xp hP hX
  have ct52 : ∀ (k52 : Nat) (s : GS) (y52_5 : Int32), Inv s → In y52_5 0 32 → 32 - (y52_5).toInt < (k52 : Int) → GG Z (d - 1) 370 post (gx xp) (1 + k52 * 363601) 52 (fun j => xlook j [(0, .ref (A 109)), (1, .int x1), (2, .int x2), (3, .ref (A 165)), (4, .ref (A 166)), (5, .int y52_5)]) [] (WW Z A s ++ ex) 0 0 := by
    intro k52
    induction k52 with
    | zero => intro s y52_5 hI j52_5 mm52; exact m_no mm52 j52_5 rfl
    | succ k52 ih52 =>
      intro s y52_5 hI j52_5 mm52
      refine gg_w (M := 1 + k52 * 363601 + 363601) (by omega) ?_
      have ct67 : ∀ (k67 : Nat) (s : GS) (y67_6 : Int32), Inv s → In y52_5 0 31 → In y67_6 0 400 → 400 - (y67_6).toInt < (k67 : Int) → GG Z (d - 1) 370 post (gx xp) (1 + k52 * 363601 + 1 + k67 * 900) 67 (fun j => xlook j [(0, .ref (A 109)), (1, .int x1), (2, .int x2), (3, .ref (A 165)), (4, .ref (A 166)), (5, .int y52_5), (6, .int y67_6)]) [] (WW Z A s ++ ex) 0 0 := by
        intro k67
        induction k67 with
        | zero => intro s y67_6 hI j67_5 j67_6 mm67; exact m_no mm67 j67_6 rfl
        | succ k67 ih67 =>
          intro s y67_6 hI j67_5 j67_6 mm67
          refine gg_w (M := 1 + k52 * 363601 + 1 + k67 * 900 + 900) (by omega) ?_
          refine g_iload 69 (gd rfl) rfl rfl ?_
          refine g_aload_n 70 (gd rfl) rfl rfl ?_
          refine g_getI 73 (gd rfl) rfl rfl rfl (fun z1 e2 => ?_)
          have i3 := inv_F hI 0 160 rfl e2
          refine g_sipush 160 76 (gd rfl) rfl rfl ?_
          refine g_iadd 77 (gd rfl) rfl (fun z4 e5 => ?_)
          have i6 := in_add 160 320 e5 i3 (in_c 160 rfl) rfl rfl
          refine g_cmp_ge 80 197 (gd rfl) rfl rfl (fun c7 => ?_) (fun c7 => ?_)
          · skip
            have i8 := r_le2 160 400 c7 i6 j67_6 rfl
            refine g_iinc 200 (gd rfl) rfl rfl (Nat.le_of_ble_eq_true rfl) (fun z9 e10 => ?_)
            have i11 := in_add 1 32 e10 j67_5 (in_c 1 rfl) rfl rfl
            refine g_goto 52 (gd rfl) rfl ?_
            exact gg_w (by omega) (gg_f (gf_cons rfl (gf_cons rfl (gf_cons rfl (gf_cons rfl (gf_cons rfl (gf_cons rfl gf_nil)))))) (ih52 s z9 hI (in_w 0 32 i11 rfl) (m_up mm52 (t_add e10 j67_5 (in_c 1 rfl) rfl) (in_w 1 1 (in_c 1 rfl) rfl))))
          · skip
            have i12 := r_lt1 0 319 c7 j67_6 i6 rfl
            refine g_iload_n 81 (gd rfl) rfl rfl ?_
            refine g_if_eq 84 94 (gd rfl) rfl rfl (fun c13 => ?_) (fun c13 => ?_)
            · skip
              refine g_aload_n 95 (gd rfl) rfl rfl ?_
              refine g_getA (q2 := 113) 98 (gd rfl) rfl rfl rfl rfl rfl ?_
              refine g_iload 100 (gd rfl) rfl rfl ?_
              refine g_iaload 101 (gd rfl) rfl (n := 480) rfl (in_ix i12 rfl) (fun z14 e15 => ?_)
              have i16 := inv_I hI (n := 480) (t := 0) 0 31 rfl (in_ix i12 rfl) rfl e15
              refine g_istore 103 (gd rfl) rfl (Nat.le_of_ble_eq_true rfl) ?_
              refine g_iload_n 104 (gd rfl) rfl rfl ?_
              refine g_if_eq 107 117 (gd rfl) rfl rfl (fun c17 => ?_) (fun c17 => ?_)
              · skip
                refine g_aload_n 118 (gd rfl) rfl rfl ?_
                refine g_getA (q2 := 114) 121 (gd rfl) rfl rfl rfl rfl rfl ?_
                refine g_iload 123 (gd rfl) rfl rfl ?_
                refine g_iaload 124 (gd rfl) rfl (n := 480) rfl (in_ix i12 rfl) (fun z18 e19 => ?_)
                have i20 := inv_I hI (n := 480) (t := 0) 0 31 rfl (in_ix i12 rfl) rfl e19
                refine g_istore 126 (gd rfl) rfl (Nat.le_of_ble_eq_true rfl) ?_
                refine g_aload_n 127 (gd rfl) rfl rfl ?_
                refine g_getA (q2 := 112) 130 (gd rfl) rfl rfl rfl rfl rfl ?_
                refine g_iload 132 (gd rfl) rfl rfl ?_
                refine g_baload 133 (gd rfl) rfl (n := 480) rfl (in_ix i12 rfl) (fun z21 e22 => ?_)
                have i23 := inv_I hI (n := 480) (t := 3) 0 1 rfl (in_ix i12 rfl) rfl e22
                refine g_if_eq 136 191 (gd rfl) rfl rfl (fun c24 => ?_) (fun c24 => ?_)
                · skip
                  have i25 := z_eq 0 0 c24 i23 rfl
                  refine g_iinc 194 (gd rfl) rfl rfl (Nat.le_of_ble_eq_true rfl) (fun z26 e27 => ?_)
                  have i28 := in_add 1 320 e27 i12 (in_c 1 rfl) rfl rfl
                  refine g_goto 67 (gd rfl) rfl ?_
                  exact gg_w (by omega) (gg_f (gf_cons rfl (gf_cons rfl (gf_cons rfl (gf_cons rfl (gf_cons rfl (gf_cons rfl (gf_cons rfl gf_nil))))))) (ih67 s z26 hI (in_w 0 31 j67_5 rfl) (in_w 0 400 i28 rfl) (m_up mm67 (t_add e27 i12 (in_c 1 rfl) rfl) (in_w 1 1 (in_c 1 rfl) rfl))))
                · skip
                  have i29 := z_ne 1 1 c24 i23 rfl
                  refine g_aload_n 137 (gd rfl) rfl rfl ?_
                  refine g_iload 139 (gd rfl) rfl rfl ?_
                  refine g_iaload 140 (gd rfl) rfl (n := 32) rfl (in_ix i16 rfl) (fun z30 e31 => ?_)
                  refine g_iload 142 (gd rfl) rfl rfl ?_
                  refine g_cmp_ne 145 191 (gd rfl) rfl rfl (fun c32 => ?_) (fun c32 => ?_)
                  · skip
                    refine g_iinc 194 (gd rfl) rfl rfl (Nat.le_of_ble_eq_true rfl) (fun z33 e34 => ?_)
                    have i35 := in_add 1 320 e34 i12 (in_c 1 rfl) rfl rfl
                    refine g_goto 67 (gd rfl) rfl ?_
                    exact gg_w (by omega) (gg_f (gf_cons rfl (gf_cons rfl (gf_cons rfl (gf_cons rfl (gf_cons rfl (gf_cons rfl (gf_cons rfl gf_nil))))))) (ih67 s z33 hI (in_w 0 31 j67_5 rfl) (in_w 0 400 i35 rfl) (m_up mm67 (t_add e34 i12 (in_c 1 rfl) rfl) (in_w 1 1 (in_c 1 rfl) rfl))))
                  · skip
                    have i36 := r_eq1 0 31 c32 (i_rng z30) j67_5 rfl
                    refine g_aload_n 146 (gd rfl) rfl rfl ?_
                    refine g_iload 148 (gd rfl) rfl rfl ?_
                    refine g_iaload 149 (gd rfl) rfl (n := 32) rfl (in_ix i20 rfl) (fun z37 e38 => ?_)
                    refine g_if_lt 152 163 (gd rfl) rfl rfl (fun c39 => ?_) (fun c39 => ?_)
                    · skip
                      have i40 := z_lt (-2147483648) (-1) c39 (i_rng z37) rfl
                      refine g_aload_n 164 (gd rfl) rfl rfl ?_
                      refine g_iload 166 (gd rfl) rfl rfl ?_
                      refine g_iload 168 (gd rfl) rfl rfl ?_
                      refine g_iconst 1 169 (gd rfl) rfl rfl ?_
                      refine g_iadd 170 (gd rfl) rfl (fun z41 e42 => ?_)
                      have i43 := in_add 1 32 e42 j67_5 (in_c 1 rfl) rfl rfl
                      refine g_iastore 171 (gd rfl) rfl (n := 32) rfl (in_ix i20 rfl) ?_
                      have hI44 := inv_sI (q := 165) (j := z18.toNatClampNeg) hI rfl (in_w (-2147483648) 2147483647 i43 rfl)
                      refine g_aload 173 (gd rfl) rfl rfl ?_
                      refine g_iload 175 (gd rfl) rfl rfl ?_
                      refine g_aload 177 (gd rfl) rfl rfl ?_
                      refine g_iload 179 (gd rfl) rfl rfl ?_
                      refine g_laload 180 (gd rfl) rfl (n := 32) rfl (in_ix i20 rfl) (fun z45 e46 => ?_)
                      refine g_aload 182 (gd rfl) rfl rfl ?_
                      refine g_iload 184 (gd rfl) rfl rfl ?_
                      refine g_laload 185 (gd rfl) rfl (n := 32) rfl (in_ix i16 rfl) (fun z47 e48 => ?_)
                      refine g_ladd 186 (gd rfl) rfl (fun z49 e50 => ?_)
                      refine g_ldc2_w 1000000007 189 (gd rfl) rfl rfl ?_
                      refine g_lrem 190 (gd rfl) rfl (by decide) (fun z51 e52 => ?_)
                      refine g_lastore 191 (gd rfl) rfl (n := 32) rfl (in_ix i20 rfl) ?_
                      have hI53 := inv_sL (q := 166) (j := z18.toNatClampNeg) (x := z51) hI44
                      refine g_iinc 194 (gd rfl) rfl rfl (Nat.le_of_ble_eq_true rfl) (fun z54 e55 => ?_)
                      have i56 := in_add 1 320 e55 i12 (in_c 1 rfl) rfl rfl
                      refine g_goto 67 (gd rfl) rfl ?_
                      exact gg_w (by omega) (gg_f (gf_cons rfl (gf_cons rfl (gf_cons rfl (gf_cons rfl (gf_cons rfl (gf_cons rfl (gf_cons rfl gf_nil))))))) (ih67 (sL (sI s 165 z18.toNatClampNeg z41) 166 z18.toNatClampNeg z51) z54 hI53 (in_w 0 31 j67_5 rfl) (in_w 0 400 i56 rfl) (m_up mm67 (t_add e55 i12 (in_c 1 rfl) rfl) (in_w 1 1 (in_c 1 rfl) rfl))))
                    · skip
                      have i57 := z_ge 0 2147483647 c39 (i_rng z37) rfl
                      refine g_aload_n 153 (gd rfl) rfl rfl ?_
                      refine g_iload 155 (gd rfl) rfl rfl ?_
                      refine g_iaload 156 (gd rfl) rfl (n := 32) rfl (in_ix i20 rfl) (fun z58 e59 => ?_)
                      have q60 : z37 = z58 := (e38).trans e59.symm
                      subst q60
                      refine g_iload 158 (gd rfl) rfl rfl ?_
                      refine g_iconst 1 159 (gd rfl) rfl rfl ?_
                      refine g_iadd 160 (gd rfl) rfl (fun z61 e62 => ?_)
                      have i63 := in_add 1 32 e62 j67_5 (in_c 1 rfl) rfl rfl
                      refine g_cmp_ne 163 191 (gd rfl) rfl rfl (fun c64 => ?_) (fun c64 => ?_)
                      · skip
                        refine g_iinc 194 (gd rfl) rfl rfl (Nat.le_of_ble_eq_true rfl) (fun z65 e66 => ?_)
                        have i67 := in_add 1 320 e66 i12 (in_c 1 rfl) rfl rfl
                        refine g_goto 67 (gd rfl) rfl ?_
                        exact gg_w (by omega) (gg_f (gf_cons rfl (gf_cons rfl (gf_cons rfl (gf_cons rfl (gf_cons rfl (gf_cons rfl (gf_cons rfl gf_nil))))))) (ih67 s z65 hI (in_w 0 31 j67_5 rfl) (in_w 0 400 i67 rfl) (m_up mm67 (t_add e66 i12 (in_c 1 rfl) rfl) (in_w 1 1 (in_c 1 rfl) rfl))))
                      · skip
                        have i68 := r_eq1 1 32 c64 i57 i63 rfl
                        refine g_aload_n 164 (gd rfl) rfl rfl ?_
                        refine g_iload 166 (gd rfl) rfl rfl ?_
                        refine g_iload 168 (gd rfl) rfl rfl ?_
                        refine g_iconst 1 169 (gd rfl) rfl rfl ?_
                        refine g_iadd 170 (gd rfl) rfl (fun z69 e70 => ?_)
                        have i71 := in_add 1 32 e70 j67_5 (in_c 1 rfl) rfl rfl
                        refine g_iastore 171 (gd rfl) rfl (n := 32) rfl (in_ix i20 rfl) ?_
                        have hI72 := inv_sI (q := 165) (j := z18.toNatClampNeg) hI rfl (in_w (-2147483648) 2147483647 i71 rfl)
                        refine g_aload 173 (gd rfl) rfl rfl ?_
                        refine g_iload 175 (gd rfl) rfl rfl ?_
                        refine g_aload 177 (gd rfl) rfl rfl ?_
                        refine g_iload 179 (gd rfl) rfl rfl ?_
                        refine g_laload 180 (gd rfl) rfl (n := 32) rfl (in_ix i20 rfl) (fun z73 e74 => ?_)
                        refine g_aload 182 (gd rfl) rfl rfl ?_
                        refine g_iload 184 (gd rfl) rfl rfl ?_
                        refine g_laload 185 (gd rfl) rfl (n := 32) rfl (in_ix i16 rfl) (fun z75 e76 => ?_)
                        refine g_ladd 186 (gd rfl) rfl (fun z77 e78 => ?_)
                        refine g_ldc2_w 1000000007 189 (gd rfl) rfl rfl ?_
                        refine g_lrem 190 (gd rfl) rfl (by decide) (fun z79 e80 => ?_)
                        refine g_lastore 191 (gd rfl) rfl (n := 32) rfl (in_ix i20 rfl) ?_
                        have hI81 := inv_sL (q := 166) (j := z18.toNatClampNeg) (x := z79) hI72
                        refine g_iinc 194 (gd rfl) rfl rfl (Nat.le_of_ble_eq_true rfl) (fun z82 e83 => ?_)
                        have i84 := in_add 1 320 e83 i12 (in_c 1 rfl) rfl rfl
                        refine g_goto 67 (gd rfl) rfl ?_
                        exact gg_w (by omega) (gg_f (gf_cons rfl (gf_cons rfl (gf_cons rfl (gf_cons rfl (gf_cons rfl (gf_cons rfl (gf_cons rfl gf_nil))))))) (ih67 (sL (sI s 165 z18.toNatClampNeg z69) 166 z18.toNatClampNeg z79) z82 hI81 (in_w 0 31 j67_5 rfl) (in_w 0 400 i84 rfl) (m_up mm67 (t_add e83 i12 (in_c 1 rfl) rfl) (in_w 1 1 (in_c 1 rfl) rfl))))
              · skip
                exact zn_ne c17 h2 rfl
            · skip
              exact zn_ne c13 h2 rfl
      refine g_iload 54 (gd rfl) rfl rfl ?_
      refine g_aload_n 55 (gd rfl) rfl rfl ?_
      refine g_getI 58 (gd rfl) rfl rfl rfl (fun z85 e86 => ?_)
      have i87 := inv_F hI 0 32 rfl e86
      refine g_cmp_ge 61 203 (gd rfl) rfl rfl (fun c88 => ?_) (fun c88 => ?_)
      · skip
        exact g_return (gd rfl) rfl (hP _ _ ⟨s, hI, rfl, rfl⟩)
      · skip
        have i89 := r_lt1 0 31 c88 j52_5 i87 rfl
        have i90 := r_lt2 1 32 c88 j52_5 i87 rfl
        refine g_aload_n 62 (gd rfl) rfl rfl ?_
        refine g_getI 65 (gd rfl) rfl rfl rfl (fun z91 e92 => ?_)
        have i93 := inv_F hI 0 160 rfl e92
        refine g_istore 67 (gd rfl) rfl (Nat.le_of_ble_eq_true rfl) ?_
        exact gg_w (by omega) (gg_f (gf_cons rfl (gf_cons rfl (gf_cons rfl (gf_cons rfl (gf_cons rfl (gf_cons rfl (gf_cons rfl gf_nil))))))) (ct67 401 s z91 hI (in_w 0 31 i89 rfl) (in_w 0 400 i93 rfl) (m_in 401 (in_w 0 400 i93 rfl) rfl)))
  have ct3 : ∀ (k3 : Nat) (s : GS) (y3_5 : Int32), Inv s → In y3_5 0 32 → 32 - (y3_5).toInt < (k3 : Int) → GG Z (d - 1) 370 post (gx xp) (11998835 + k3 * 900) 3 (fun j => xlook j [(0, .ref (A 109)), (1, .int x1), (2, .int x2), (3, .ref (A 165)), (4, .ref (A 166)), (5, .int y3_5)]) [] (WW Z A s ++ ex) 0 0 := by
    intro k3
    induction k3 with
    | zero => intro s y3_5 hI j3_5 mm3; exact m_no mm3 j3_5 rfl
    | succ k3 ih3 =>
      intro s y3_5 hI j3_5 mm3
      refine gg_w (M := 11998835 + k3 * 900 + 900) (by omega) ?_
      refine g_iload 5 (gd rfl) rfl rfl ?_
      refine g_aload_n 6 (gd rfl) rfl rfl ?_
      refine g_getI 9 (gd rfl) rfl rfl rfl (fun z94 e95 => ?_)
      have i96 := inv_F hI 0 32 rfl e95
      refine g_cmp_ge 12 49 (gd rfl) rfl rfl (fun c97 => ?_) (fun c97 => ?_)
      · skip
        refine g_iconst 0 50 (gd rfl) rfl rfl ?_
        refine g_istore 52 (gd rfl) rfl (Nat.le_of_ble_eq_true rfl) ?_
        exact gg_w (by omega) (gg_f (gf_cons rfl (gf_cons rfl (gf_cons rfl (gf_cons rfl (gf_cons rfl (gf_cons rfl gf_nil)))))) (ct52 33 s (Int32.ofInt 0) hI (in_w 0 32 (in_c 0 rfl) rfl) (m_in 33 (in_w 0 32 (in_c 0 rfl) rfl) rfl)))
      · skip
        have i98 := r_lt1 0 31 c97 j3_5 i96 rfl
        have i99 := r_lt2 1 32 c97 j3_5 i96 rfl
        refine g_aload_n 13 (gd rfl) rfl rfl ?_
        refine g_iload 15 (gd rfl) rfl rfl ?_
        refine g_iload 17 (gd rfl) rfl rfl ?_
        refine g_iload_n 18 (gd rfl) rfl rfl ?_
        refine g_cmp_ne 21 25 (gd rfl) rfl rfl (fun c100 => ?_) (fun c100 => ?_)
        · skip
          refine g_iconst (-1) 26 (gd rfl) rfl rfl ?_
          refine g_iastore 27 (gd rfl) rfl (n := 32) rfl (in_ix i98 rfl) ?_
          have hI101 := inv_sI (q := 165) (j := y3_5.toNatClampNeg) hI rfl (in_w (-2147483648) 2147483647 (in_c (-1) rfl) rfl)
          refine g_aload 29 (gd rfl) rfl rfl ?_
          refine g_iload 31 (gd rfl) rfl rfl ?_
          refine g_iload 33 (gd rfl) rfl rfl ?_
          refine g_iload_n 34 (gd rfl) rfl rfl ?_
          refine g_cmp_ne 37 41 (gd rfl) rfl rfl (fun c102 => ?_) (fun c102 => ?_)
          · skip
            refine g_lconst 0 42 (gd rfl) rfl rfl ?_
            refine g_lastore 43 (gd rfl) rfl (n := 32) rfl (in_ix i98 rfl) ?_
            have hI103 := inv_sL (q := 166) (j := y3_5.toNatClampNeg) (x := (Int64.ofInt 0)) hI101
            refine g_iinc 46 (gd rfl) rfl rfl (Nat.le_of_ble_eq_true rfl) (fun z104 e105 => ?_)
            have i106 := in_add 1 32 e105 i98 (in_c 1 rfl) rfl rfl
            refine g_goto 3 (gd rfl) rfl ?_
            exact gg_w (by omega) (gg_f (gf_cons rfl (gf_cons rfl (gf_cons rfl (gf_cons rfl (gf_cons rfl (gf_cons rfl gf_nil)))))) (ih3 (sL (sI s 165 y3_5.toNatClampNeg (Int32.ofInt (-1))) 166 y3_5.toNatClampNeg (Int64.ofInt 0)) z104 hI103 (in_w 0 32 i106 rfl) (m_up mm3 (t_add e105 i98 (in_c 1 rfl) rfl) (in_w 1 1 (in_c 1 rfl) rfl))))
          · skip
            refine g_lconst 1 38 (gd rfl) rfl rfl ?_
            refine g_goto 42 (gd rfl) rfl ?_
            refine g_lastore 43 (gd rfl) rfl (n := 32) rfl (in_ix i98 rfl) ?_
            have hI107 := inv_sL (q := 166) (j := y3_5.toNatClampNeg) (x := (Int64.ofInt 1)) hI101
            refine g_iinc 46 (gd rfl) rfl rfl (Nat.le_of_ble_eq_true rfl) (fun z108 e109 => ?_)
            have i110 := in_add 1 32 e109 i98 (in_c 1 rfl) rfl rfl
            refine g_goto 3 (gd rfl) rfl ?_
            exact gg_w (by omega) (gg_f (gf_cons rfl (gf_cons rfl (gf_cons rfl (gf_cons rfl (gf_cons rfl (gf_cons rfl gf_nil)))))) (ih3 (sL (sI s 165 y3_5.toNatClampNeg (Int32.ofInt (-1))) 166 y3_5.toNatClampNeg (Int64.ofInt 1)) z108 hI107 (in_w 0 32 i110 rfl) (m_up mm3 (t_add e109 i98 (in_c 1 rfl) rfl) (in_w 1 1 (in_c 1 rfl) rfl))))
        · skip
          refine g_iconst 0 22 (gd rfl) rfl rfl ?_
          refine g_goto 26 (gd rfl) rfl ?_
          refine g_iastore 27 (gd rfl) rfl (n := 32) rfl (in_ix i98 rfl) ?_
          have hI111 := inv_sI (q := 165) (j := y3_5.toNatClampNeg) hI rfl (in_w (-2147483648) 2147483647 (in_c 0 rfl) rfl)
          refine g_aload 29 (gd rfl) rfl rfl ?_
          refine g_iload 31 (gd rfl) rfl rfl ?_
          refine g_iload 33 (gd rfl) rfl rfl ?_
          refine g_iload_n 34 (gd rfl) rfl rfl ?_
          refine g_cmp_ne 37 41 (gd rfl) rfl rfl (fun c112 => ?_) (fun c112 => ?_)
          · skip
            refine g_lconst 0 42 (gd rfl) rfl rfl ?_
            refine g_lastore 43 (gd rfl) rfl (n := 32) rfl (in_ix i98 rfl) ?_
            have hI113 := inv_sL (q := 166) (j := y3_5.toNatClampNeg) (x := (Int64.ofInt 0)) hI111
            refine g_iinc 46 (gd rfl) rfl rfl (Nat.le_of_ble_eq_true rfl) (fun z114 e115 => ?_)
            have i116 := in_add 1 32 e115 i98 (in_c 1 rfl) rfl rfl
            refine g_goto 3 (gd rfl) rfl ?_
            exact gg_w (by omega) (gg_f (gf_cons rfl (gf_cons rfl (gf_cons rfl (gf_cons rfl (gf_cons rfl (gf_cons rfl gf_nil)))))) (ih3 (sL (sI s 165 y3_5.toNatClampNeg (Int32.ofInt 0)) 166 y3_5.toNatClampNeg (Int64.ofInt 0)) z114 hI113 (in_w 0 32 i116 rfl) (m_up mm3 (t_add e115 i98 (in_c 1 rfl) rfl) (in_w 1 1 (in_c 1 rfl) rfl))))
          · skip
            refine g_lconst 1 38 (gd rfl) rfl rfl ?_
            refine g_goto 42 (gd rfl) rfl ?_
            refine g_lastore 43 (gd rfl) rfl (n := 32) rfl (in_ix i98 rfl) ?_
            have hI117 := inv_sL (q := 166) (j := y3_5.toNatClampNeg) (x := (Int64.ofInt 1)) hI111
            refine g_iinc 46 (gd rfl) rfl rfl (Nat.le_of_ble_eq_true rfl) (fun z118 e119 => ?_)
            have i120 := in_add 1 32 e119 i98 (in_c 1 rfl) rfl rfl
            refine g_goto 3 (gd rfl) rfl ?_
            exact gg_w (by omega) (gg_f (gf_cons rfl (gf_cons rfl (gf_cons rfl (gf_cons rfl (gf_cons rfl (gf_cons rfl gf_nil)))))) (ih3 (sL (sI s 165 y3_5.toNatClampNeg (Int32.ofInt 0)) 166 y3_5.toNatClampNeg (Int64.ofInt 1)) z118 hI117 (in_w 0 32 i120 rfl) (m_up mm3 (t_add e119 i98 (in_c 1 rfl) rfl) (in_w 1 1 (in_c 1 rfl) rfl))))
  refine g_enter2 (k := 370) (N := 12029435) (by omega) rfl (Nat.le_of_ble_eq_true rfl) ?_
  refine g_iconst 0 1 (gd rfl) rfl rfl ?_
  refine g_istore 3 (gd rfl) rfl (Nat.le_of_ble_eq_true rfl) ?_
  exact gg_w (by omega) (gg_f (gf_cons rfl (gf_cons rfl (gf_cons rfl (gf_cons rfl (gf_cons rfl (gf_cons rfl gf_nil)))))) (ct3 33 s (Int32.ofInt 0) hI (in_w 0 32 (in_c 0 rfl) rfl) (m_in 33 (in_w 0 32 (in_c 0 rfl) rfl) rfl)))

/-- GraphHouseModel.hop -/
theorem k_370_109_167_168 {Z : AmZ} {A : Nat → Nat} {s : GS} {ex : va_W} {d : Nat} {X : AmX} {x1 : Int32} {x2 : Int32} (hd : 1 ≤ d) (hI : Inv s) (h1 : In x1 0 31) (h2 : In x2 1 1) : GC Z d 370 [.ref (A 109), .int x1, .int x2, .ref (A 167), .ref (A 168)] (WW Z A s ++ ex) 0 0 (fun v u => ∃ t : GS, Inv t ∧ v = none ∧ u = WW Z A t ++ ex) X := by
  intro post xp hP hX
  have ct52 : ∀ (k52 : Nat) (s : GS) (y52_5 : Int32), Inv s → In y52_5 0 32 → 32 - (y52_5).toInt < (k52 : Int) → GG Z (d - 1) 370 post (gx xp) (1 + k52 * 363601) 52 (fun j => xlook j [(0, .ref (A 109)), (1, .int x1), (2, .int x2), (3, .ref (A 167)), (4, .ref (A 168)), (5, .int y52_5)]) [] (WW Z A s ++ ex) 0 0 := by
    intro k52
    induction k52 with
    | zero => intro s y52_5 hI j52_5 mm52; exact m_no mm52 j52_5 rfl
    | succ k52 ih52 =>
      intro s y52_5 hI j52_5 mm52
      refine gg_w (M := 1 + k52 * 363601 + 363601) (by omega) ?_
      have ct67 : ∀ (k67 : Nat) (s : GS) (y67_6 : Int32), Inv s → In y52_5 0 31 → In y67_6 0 400 → 400 - (y67_6).toInt < (k67 : Int) → GG Z (d - 1) 370 post (gx xp) (1 + k52 * 363601 + 1 + k67 * 900) 67 (fun j => xlook j [(0, .ref (A 109)), (1, .int x1), (2, .int x2), (3, .ref (A 167)), (4, .ref (A 168)), (5, .int y52_5), (6, .int y67_6)]) [] (WW Z A s ++ ex) 0 0 := by
        intro k67
        induction k67 with
        | zero => intro s y67_6 hI j67_5 j67_6 mm67; exact m_no mm67 j67_6 rfl
        | succ k67 ih67 =>
          intro s y67_6 hI j67_5 j67_6 mm67
          refine gg_w (M := 1 + k52 * 363601 + 1 + k67 * 900 + 900) (by omega) ?_
          refine g_iload 69 (gd rfl) rfl rfl ?_
          refine g_aload_n 70 (gd rfl) rfl rfl ?_
          refine g_getI 73 (gd rfl) rfl rfl rfl (fun z1 e2 => ?_)
          have i3 := inv_F hI 0 160 rfl e2
          refine g_sipush 160 76 (gd rfl) rfl rfl ?_
          refine g_iadd 77 (gd rfl) rfl (fun z4 e5 => ?_)
          have i6 := in_add 160 320 e5 i3 (in_c 160 rfl) rfl rfl
          refine g_cmp_ge 80 197 (gd rfl) rfl rfl (fun c7 => ?_) (fun c7 => ?_)
          · skip
            have i8 := r_le2 160 400 c7 i6 j67_6 rfl
            refine g_iinc 200 (gd rfl) rfl rfl (Nat.le_of_ble_eq_true rfl) (fun z9 e10 => ?_)
            have i11 := in_add 1 32 e10 j67_5 (in_c 1 rfl) rfl rfl
            refine g_goto 52 (gd rfl) rfl ?_
            exact gg_w (by omega) (gg_f (gf_cons rfl (gf_cons rfl (gf_cons rfl (gf_cons rfl (gf_cons rfl (gf_cons rfl gf_nil)))))) (ih52 s z9 hI (in_w 0 32 i11 rfl) (m_up mm52 (t_add e10 j67_5 (in_c 1 rfl) rfl) (in_w 1 1 (in_c 1 rfl) rfl))))
          · skip
            have i12 := r_lt1 0 319 c7 j67_6 i6 rfl
            refine g_iload_n 81 (gd rfl) rfl rfl ?_
            refine g_if_eq 84 94 (gd rfl) rfl rfl (fun c13 => ?_) (fun c13 => ?_)
            · skip
              exact zn_eq c13 h2 rfl
            · skip
              refine g_aload_n 85 (gd rfl) rfl rfl ?_
              refine g_getA (q2 := 114) 88 (gd rfl) rfl rfl rfl rfl rfl ?_
              refine g_iload 90 (gd rfl) rfl rfl ?_
              refine g_iaload 91 (gd rfl) rfl (n := 480) rfl (in_ix i12 rfl) (fun z14 e15 => ?_)
              have i16 := inv_I hI (n := 480) (t := 0) 0 31 rfl (in_ix i12 rfl) rfl e15
              refine g_goto 101 (gd rfl) rfl ?_
              refine g_istore 103 (gd rfl) rfl (Nat.le_of_ble_eq_true rfl) ?_
              refine g_iload_n 104 (gd rfl) rfl rfl ?_
              refine g_if_eq 107 117 (gd rfl) rfl rfl (fun c17 => ?_) (fun c17 => ?_)
              · skip
                exact zn_eq c17 h2 rfl
              · skip
                refine g_aload_n 108 (gd rfl) rfl rfl ?_
                refine g_getA (q2 := 113) 111 (gd rfl) rfl rfl rfl rfl rfl ?_
                refine g_iload 113 (gd rfl) rfl rfl ?_
                refine g_iaload 114 (gd rfl) rfl (n := 480) rfl (in_ix i12 rfl) (fun z18 e19 => ?_)
                have i20 := inv_I hI (n := 480) (t := 0) 0 31 rfl (in_ix i12 rfl) rfl e19
                refine g_goto 124 (gd rfl) rfl ?_
                refine g_istore 126 (gd rfl) rfl (Nat.le_of_ble_eq_true rfl) ?_
                refine g_aload_n 127 (gd rfl) rfl rfl ?_
                refine g_getA (q2 := 112) 130 (gd rfl) rfl rfl rfl rfl rfl ?_
                refine g_iload 132 (gd rfl) rfl rfl ?_
                refine g_baload 133 (gd rfl) rfl (n := 480) rfl (in_ix i12 rfl) (fun z21 e22 => ?_)
                have i23 := inv_I hI (n := 480) (t := 3) 0 1 rfl (in_ix i12 rfl) rfl e22
                refine g_if_eq 136 191 (gd rfl) rfl rfl (fun c24 => ?_) (fun c24 => ?_)
                · skip
                  have i25 := z_eq 0 0 c24 i23 rfl
                  refine g_iinc 194 (gd rfl) rfl rfl (Nat.le_of_ble_eq_true rfl) (fun z26 e27 => ?_)
                  have i28 := in_add 1 320 e27 i12 (in_c 1 rfl) rfl rfl
                  refine g_goto 67 (gd rfl) rfl ?_
                  exact gg_w (by omega) (gg_f (gf_cons rfl (gf_cons rfl (gf_cons rfl (gf_cons rfl (gf_cons rfl (gf_cons rfl (gf_cons rfl gf_nil))))))) (ih67 s z26 hI (in_w 0 31 j67_5 rfl) (in_w 0 400 i28 rfl) (m_up mm67 (t_add e27 i12 (in_c 1 rfl) rfl) (in_w 1 1 (in_c 1 rfl) rfl))))
                · skip
                  have i29 := z_ne 1 1 c24 i23 rfl
                  refine g_aload_n 137 (gd rfl) rfl rfl ?_
                  refine g_iload 139 (gd rfl) rfl rfl ?_
                  refine g_iaload 140 (gd rfl) rfl (n := 32) rfl (in_ix i16 rfl) (fun z30 e31 => ?_)
                  refine g_iload 142 (gd rfl) rfl rfl ?_
                  refine g_cmp_ne 145 191 (gd rfl) rfl rfl (fun c32 => ?_) (fun c32 => ?_)
                  · skip
                    refine g_iinc 194 (gd rfl) rfl rfl (Nat.le_of_ble_eq_true rfl) (fun z33 e34 => ?_)
                    have i35 := in_add 1 320 e34 i12 (in_c 1 rfl) rfl rfl
                    refine g_goto 67 (gd rfl) rfl ?_
                    exact gg_w (by omega) (gg_f (gf_cons rfl (gf_cons rfl (gf_cons rfl (gf_cons rfl (gf_cons rfl (gf_cons rfl (gf_cons rfl gf_nil))))))) (ih67 s z33 hI (in_w 0 31 j67_5 rfl) (in_w 0 400 i35 rfl) (m_up mm67 (t_add e34 i12 (in_c 1 rfl) rfl) (in_w 1 1 (in_c 1 rfl) rfl))))
                  · skip
                    have i36 := r_eq1 0 31 c32 (i_rng z30) j67_5 rfl
                    refine g_aload_n 146 (gd rfl) rfl rfl ?_
                    refine g_iload 148 (gd rfl) rfl rfl ?_
                    refine g_iaload 149 (gd rfl) rfl (n := 32) rfl (in_ix i20 rfl) (fun z37 e38 => ?_)
                    refine g_if_lt 152 163 (gd rfl) rfl rfl (fun c39 => ?_) (fun c39 => ?_)
                    · skip
                      have i40 := z_lt (-2147483648) (-1) c39 (i_rng z37) rfl
                      refine g_aload_n 164 (gd rfl) rfl rfl ?_
                      refine g_iload 166 (gd rfl) rfl rfl ?_
                      refine g_iload 168 (gd rfl) rfl rfl ?_
                      refine g_iconst 1 169 (gd rfl) rfl rfl ?_
                      refine g_iadd 170 (gd rfl) rfl (fun z41 e42 => ?_)
                      have i43 := in_add 1 32 e42 j67_5 (in_c 1 rfl) rfl rfl
                      refine g_iastore 171 (gd rfl) rfl (n := 32) rfl (in_ix i20 rfl) ?_
                      have hI44 := inv_sI (q := 167) (j := z18.toNatClampNeg) hI rfl (in_w (-2147483648) 2147483647 i43 rfl)
                      refine g_aload 173 (gd rfl) rfl rfl ?_
                      refine g_iload 175 (gd rfl) rfl rfl ?_
                      refine g_aload 177 (gd rfl) rfl rfl ?_
                      refine g_iload 179 (gd rfl) rfl rfl ?_
                      refine g_laload 180 (gd rfl) rfl (n := 32) rfl (in_ix i20 rfl) (fun z45 e46 => ?_)
                      refine g_aload 182 (gd rfl) rfl rfl ?_
                      refine g_iload 184 (gd rfl) rfl rfl ?_
                      refine g_laload 185 (gd rfl) rfl (n := 32) rfl (in_ix i16 rfl) (fun z47 e48 => ?_)
                      refine g_ladd 186 (gd rfl) rfl (fun z49 e50 => ?_)
                      refine g_ldc2_w 1000000007 189 (gd rfl) rfl rfl ?_
                      refine g_lrem 190 (gd rfl) rfl (by decide) (fun z51 e52 => ?_)
                      refine g_lastore 191 (gd rfl) rfl (n := 32) rfl (in_ix i20 rfl) ?_
                      have hI53 := inv_sL (q := 168) (j := z18.toNatClampNeg) (x := z51) hI44
                      refine g_iinc 194 (gd rfl) rfl rfl (Nat.le_of_ble_eq_true rfl) (fun z54 e55 => ?_)
                      have i56 := in_add 1 320 e55 i12 (in_c 1 rfl) rfl rfl
                      refine g_goto 67 (gd rfl) rfl ?_
                      exact gg_w (by omega) (gg_f (gf_cons rfl (gf_cons rfl (gf_cons rfl (gf_cons rfl (gf_cons rfl (gf_cons rfl (gf_cons rfl gf_nil))))))) (ih67 (sL (sI s 167 z18.toNatClampNeg z41) 168 z18.toNatClampNeg z51) z54 hI53 (in_w 0 31 j67_5 rfl) (in_w 0 400 i56 rfl) (m_up mm67 (t_add e55 i12 (in_c 1 rfl) rfl) (in_w 1 1 (in_c 1 rfl) rfl))))
                    · skip
                      have i57 := z_ge 0 2147483647 c39 (i_rng z37) rfl
                      refine g_aload_n 153 (gd rfl) rfl rfl ?_
                      refine g_iload 155 (gd rfl) rfl rfl ?_
                      refine g_iaload 156 (gd rfl) rfl (n := 32) rfl (in_ix i20 rfl) (fun z58 e59 => ?_)
                      have q60 : z37 = z58 := (e38).trans e59.symm
                      subst q60
                      refine g_iload 158 (gd rfl) rfl rfl ?_
                      refine g_iconst 1 159 (gd rfl) rfl rfl ?_
                      refine g_iadd 160 (gd rfl) rfl (fun z61 e62 => ?_)
                      have i63 := in_add 1 32 e62 j67_5 (in_c 1 rfl) rfl rfl
                      refine g_cmp_ne 163 191 (gd rfl) rfl rfl (fun c64 => ?_) (fun c64 => ?_)
                      · skip
                        refine g_iinc 194 (gd rfl) rfl rfl (Nat.le_of_ble_eq_true rfl) (fun z65 e66 => ?_)
                        have i67 := in_add 1 320 e66 i12 (in_c 1 rfl) rfl rfl
                        refine g_goto 67 (gd rfl) rfl ?_
                        exact gg_w (by omega) (gg_f (gf_cons rfl (gf_cons rfl (gf_cons rfl (gf_cons rfl (gf_cons rfl (gf_cons rfl (gf_cons rfl gf_nil))))))) (ih67 s z65 hI (in_w 0 31 j67_5 rfl) (in_w 0 400 i67 rfl) (m_up mm67 (t_add e66 i12 (in_c 1 rfl) rfl) (in_w 1 1 (in_c 1 rfl) rfl))))
                      · skip
                        have i68 := r_eq1 1 32 c64 i57 i63 rfl
                        refine g_aload_n 164 (gd rfl) rfl rfl ?_
                        refine g_iload 166 (gd rfl) rfl rfl ?_
                        refine g_iload 168 (gd rfl) rfl rfl ?_
                        refine g_iconst 1 169 (gd rfl) rfl rfl ?_
                        refine g_iadd 170 (gd rfl) rfl (fun z69 e70 => ?_)
                        have i71 := in_add 1 32 e70 j67_5 (in_c 1 rfl) rfl rfl
                        refine g_iastore 171 (gd rfl) rfl (n := 32) rfl (in_ix i20 rfl) ?_
                        have hI72 := inv_sI (q := 167) (j := z18.toNatClampNeg) hI rfl (in_w (-2147483648) 2147483647 i71 rfl)
                        refine g_aload 173 (gd rfl) rfl rfl ?_
                        refine g_iload 175 (gd rfl) rfl rfl ?_
                        refine g_aload 177 (gd rfl) rfl rfl ?_
                        refine g_iload 179 (gd rfl) rfl rfl ?_
                        refine g_laload 180 (gd rfl) rfl (n := 32) rfl (in_ix i20 rfl) (fun z73 e74 => ?_)
                        refine g_aload 182 (gd rfl) rfl rfl ?_
                        refine g_iload 184 (gd rfl) rfl rfl ?_
                        refine g_laload 185 (gd rfl) rfl (n := 32) rfl (in_ix i16 rfl) (fun z75 e76 => ?_)
                        refine g_ladd 186 (gd rfl) rfl (fun z77 e78 => ?_)
                        refine g_ldc2_w 1000000007 189 (gd rfl) rfl rfl ?_
                        refine g_lrem 190 (gd rfl) rfl (by decide) (fun z79 e80 => ?_)
                        refine g_lastore 191 (gd rfl) rfl (n := 32) rfl (in_ix i20 rfl) ?_
                        have hI81 := inv_sL (q := 168) (j := z18.toNatClampNeg) (x := z79) hI72
                        refine g_iinc 194 (gd rfl) rfl rfl (Nat.le_of_ble_eq_true rfl) (fun z82 e83 => ?_)
                        have i84 := in_add 1 320 e83 i12 (in_c 1 rfl) rfl rfl
                        refine g_goto 67 (gd rfl) rfl ?_
                        exact gg_w (by omega) (gg_f (gf_cons rfl (gf_cons rfl (gf_cons rfl (gf_cons rfl (gf_cons rfl (gf_cons rfl (gf_cons rfl gf_nil))))))) (ih67 (sL (sI s 167 z18.toNatClampNeg z69) 168 z18.toNatClampNeg z79) z82 hI81 (in_w 0 31 j67_5 rfl) (in_w 0 400 i84 rfl) (m_up mm67 (t_add e83 i12 (in_c 1 rfl) rfl) (in_w 1 1 (in_c 1 rfl) rfl))))
      refine g_iload 54 (gd rfl) rfl rfl ?_
      refine g_aload_n 55 (gd rfl) rfl rfl ?_
      refine g_getI 58 (gd rfl) rfl rfl rfl (fun z85 e86 => ?_)
      have i87 := inv_F hI 0 32 rfl e86
      refine g_cmp_ge 61 203 (gd rfl) rfl rfl (fun c88 => ?_) (fun c88 => ?_)
      · skip
        exact g_return (gd rfl) rfl (hP _ _ ⟨s, hI, rfl, rfl⟩)
      · skip
        have i89 := r_lt1 0 31 c88 j52_5 i87 rfl
        have i90 := r_lt2 1 32 c88 j52_5 i87 rfl
        refine g_aload_n 62 (gd rfl) rfl rfl ?_
        refine g_getI 65 (gd rfl) rfl rfl rfl (fun z91 e92 => ?_)
        have i93 := inv_F hI 0 160 rfl e92
        refine g_istore 67 (gd rfl) rfl (Nat.le_of_ble_eq_true rfl) ?_
        exact gg_w (by omega) (gg_f (gf_cons rfl (gf_cons rfl (gf_cons rfl (gf_cons rfl (gf_cons rfl (gf_cons rfl (gf_cons rfl gf_nil))))))) (ct67 401 s z91 hI (in_w 0 31 i89 rfl) (in_w 0 400 i93 rfl) (m_in 401 (in_w 0 400 i93 rfl) rfl)))
  have ct3 : ∀ (k3 : Nat) (s : GS) (y3_5 : Int32), Inv s → In y3_5 0 32 → 32 - (y3_5).toInt < (k3 : Int) → GG Z (d - 1) 370 post (gx xp) (11998835 + k3 * 900) 3 (fun j => xlook j [(0, .ref (A 109)), (1, .int x1), (2, .int x2), (3, .ref (A 167)), (4, .ref (A 168)), (5, .int y3_5)]) [] (WW Z A s ++ ex) 0 0 := by
    intro k3
    induction k3 with
    | zero => intro s y3_5 hI j3_5 mm3; exact m_no mm3 j3_5 rfl
    | succ k3 ih3 =>
      intro s y3_5 hI j3_5 mm3
      refine gg_w (M := 11998835 + k3 * 900 + 900) (by omega) ?_
      refine g_iload 5 (gd rfl) rfl rfl ?_
      refine g_aload_n 6 (gd rfl) rfl rfl ?_
      refine g_getI 9 (gd rfl) rfl rfl rfl (fun z94 e95 => ?_)
      have i96 := inv_F hI 0 32 rfl e95
      refine g_cmp_ge 12 49 (gd rfl) rfl rfl (fun c97 => ?_) (fun c97 => ?_)
      · skip
        refine g_iconst 0 50 (gd rfl) rfl rfl ?_
        refine g_istore 52 (gd rfl) rfl (Nat.le_of_ble_eq_true rfl) ?_
        exact gg_w (by omega) (gg_f (gf_cons rfl (gf_cons rfl (gf_cons rfl (gf_cons rfl (gf_cons rfl (gf_cons rfl gf_nil)))))) (ct52 33 s (Int32.ofInt 0) hI (in_w 0 32 (in_c 0 rfl) rfl) (m_in 33 (in_w 0 32 (in_c 0 rfl) rfl) rfl)))
      · skip
        have i98 := r_lt1 0 31 c97 j3_5 i96 rfl
        have i99 := r_lt2 1 32 c97 j3_5 i96 rfl
        refine g_aload_n 13 (gd rfl) rfl rfl ?_
        refine g_iload 15 (gd rfl) rfl rfl ?_
        refine g_iload 17 (gd rfl) rfl rfl ?_
        refine g_iload_n 18 (gd rfl) rfl rfl ?_
        refine g_cmp_ne 21 25 (gd rfl) rfl rfl (fun c100 => ?_) (fun c100 => ?_)
        · skip
          refine g_iconst (-1) 26 (gd rfl) rfl rfl ?_
          refine g_iastore 27 (gd rfl) rfl (n := 32) rfl (in_ix i98 rfl) ?_
          have hI101 := inv_sI (q := 167) (j := y3_5.toNatClampNeg) hI rfl (in_w (-2147483648) 2147483647 (in_c (-1) rfl) rfl)
          refine g_aload 29 (gd rfl) rfl rfl ?_
          refine g_iload 31 (gd rfl) rfl rfl ?_
          refine g_iload 33 (gd rfl) rfl rfl ?_
          refine g_iload_n 34 (gd rfl) rfl rfl ?_
          refine g_cmp_ne 37 41 (gd rfl) rfl rfl (fun c102 => ?_) (fun c102 => ?_)
          · skip
            refine g_lconst 0 42 (gd rfl) rfl rfl ?_
            refine g_lastore 43 (gd rfl) rfl (n := 32) rfl (in_ix i98 rfl) ?_
            have hI103 := inv_sL (q := 168) (j := y3_5.toNatClampNeg) (x := (Int64.ofInt 0)) hI101
            refine g_iinc 46 (gd rfl) rfl rfl (Nat.le_of_ble_eq_true rfl) (fun z104 e105 => ?_)
            have i106 := in_add 1 32 e105 i98 (in_c 1 rfl) rfl rfl
            refine g_goto 3 (gd rfl) rfl ?_
            exact gg_w (by omega) (gg_f (gf_cons rfl (gf_cons rfl (gf_cons rfl (gf_cons rfl (gf_cons rfl (gf_cons rfl gf_nil)))))) (ih3 (sL (sI s 167 y3_5.toNatClampNeg (Int32.ofInt (-1))) 168 y3_5.toNatClampNeg (Int64.ofInt 0)) z104 hI103 (in_w 0 32 i106 rfl) (m_up mm3 (t_add e105 i98 (in_c 1 rfl) rfl) (in_w 1 1 (in_c 1 rfl) rfl))))
          · skip
            refine g_lconst 1 38 (gd rfl) rfl rfl ?_
            refine g_goto 42 (gd rfl) rfl ?_
            refine g_lastore 43 (gd rfl) rfl (n := 32) rfl (in_ix i98 rfl) ?_
            have hI107 := inv_sL (q := 168) (j := y3_5.toNatClampNeg) (x := (Int64.ofInt 1)) hI101
            refine g_iinc 46 (gd rfl) rfl rfl (Nat.le_of_ble_eq_true rfl) (fun z108 e109 => ?_)
            have i110 := in_add 1 32 e109 i98 (in_c 1 rfl) rfl rfl
            refine g_goto 3 (gd rfl) rfl ?_
            exact gg_w (by omega) (gg_f (gf_cons rfl (gf_cons rfl (gf_cons rfl (gf_cons rfl (gf_cons rfl (gf_cons rfl gf_nil)))))) (ih3 (sL (sI s 167 y3_5.toNatClampNeg (Int32.ofInt (-1))) 168 y3_5.toNatClampNeg (Int64.ofInt 1)) z108 hI107 (in_w 0 32 i110 rfl) (m_up mm3 (t_add e109 i98 (in_c 1 rfl) rfl) (in_w 1 1 (in_c 1 rfl) rfl))))
        · skip
          refine g_iconst 0 22 (gd rfl) rfl rfl ?_
          refine g_goto 26 (gd rfl) rfl ?_
          refine g_iastore 27 (gd rfl) rfl (n := 32) rfl (in_ix i98 rfl) ?_
          have hI111 := inv_sI (q := 167) (j := y3_5.toNatClampNeg) hI rfl (in_w (-2147483648) 2147483647 (in_c 0 rfl) rfl)
          refine g_aload 29 (gd rfl) rfl rfl ?_
          refine g_iload 31 (gd rfl) rfl rfl ?_
          refine g_iload 33 (gd rfl) rfl rfl ?_
          refine g_iload_n 34 (gd rfl) rfl rfl ?_
          refine g_cmp_ne 37 41 (gd rfl) rfl rfl (fun c112 => ?_) (fun c112 => ?_)
          · skip
            refine g_lconst 0 42 (gd rfl) rfl rfl ?_
            refine g_lastore 43 (gd rfl) rfl (n := 32) rfl (in_ix i98 rfl) ?_
            have hI113 := inv_sL (q := 168) (j := y3_5.toNatClampNeg) (x := (Int64.ofInt 0)) hI111
            refine g_iinc 46 (gd rfl) rfl rfl (Nat.le_of_ble_eq_true rfl) (fun z114 e115 => ?_)
            have i116 := in_add 1 32 e115 i98 (in_c 1 rfl) rfl rfl
            refine g_goto 3 (gd rfl) rfl ?_
            exact gg_w (by omega) (gg_f (gf_cons rfl (gf_cons rfl (gf_cons rfl (gf_cons rfl (gf_cons rfl (gf_cons rfl gf_nil)))))) (ih3 (sL (sI s 167 y3_5.toNatClampNeg (Int32.ofInt 0)) 168 y3_5.toNatClampNeg (Int64.ofInt 0)) z114 hI113 (in_w 0 32 i116 rfl) (m_up mm3 (t_add e115 i98 (in_c 1 rfl) rfl) (in_w 1 1 (in_c 1 rfl) rfl))))
          · skip
            refine g_lconst 1 38 (gd rfl) rfl rfl ?_
            refine g_goto 42 (gd rfl) rfl ?_
            refine g_lastore 43 (gd rfl) rfl (n := 32) rfl (in_ix i98 rfl) ?_
            have hI117 := inv_sL (q := 168) (j := y3_5.toNatClampNeg) (x := (Int64.ofInt 1)) hI111
            refine g_iinc 46 (gd rfl) rfl rfl (Nat.le_of_ble_eq_true rfl) (fun z118 e119 => ?_)
            have i120 := in_add 1 32 e119 i98 (in_c 1 rfl) rfl rfl
            refine g_goto 3 (gd rfl) rfl ?_
            exact gg_w (by omega) (gg_f (gf_cons rfl (gf_cons rfl (gf_cons rfl (gf_cons rfl (gf_cons rfl (gf_cons rfl gf_nil)))))) (ih3 (sL (sI s 167 y3_5.toNatClampNeg (Int32.ofInt 0)) 168 y3_5.toNatClampNeg (Int64.ofInt 1)) z118 hI117 (in_w 0 32 i120 rfl) (m_up mm3 (t_add e119 i98 (in_c 1 rfl) rfl) (in_w 1 1 (in_c 1 rfl) rfl))))
  refine g_enter2 (k := 370) (N := 12029435) (by omega) rfl (Nat.le_of_ble_eq_true rfl) ?_
  refine g_iconst 0 1 (gd rfl) rfl rfl ?_
  refine g_istore 3 (gd rfl) rfl (Nat.le_of_ble_eq_true rfl) ?_
  exact gg_w (by omega) (gg_f (gf_cons rfl (gf_cons rfl (gf_cons rfl (gf_cons rfl (gf_cons rfl (gf_cons rfl gf_nil)))))) (ct3 33 s (Int32.ofInt 0) hI (in_w 0 32 (in_c 0 rfl) rfl) (m_in 33 (in_w 0 32 (in_c 0 rfl) rfl) rfl)))
