/-! methods, by vc.py -/
def fm_289 : FM := ([], [], [(109, 0)], [])
/-- GraphHouseModel.size -/
theorem k_289 {Z : AmZ} {A : Nat → Nat} {s : GS} {ex : va_W} {d : Nat} {X : AmX} {x1 : Int32} (hd : 4 ≤ d) (hI : Inv s)  : GC Z d 289 [.ref (A 109), .int x1] (WW Z A s ++ ex) 0 0 (fun v u => ∃ t : GS, Inv t ∧ Fr fm_289 s t ∧ ∃ z : Int32, v = some (.int z) ∧ u = WW Z A t ++ ex ∧ In z (-1) 160) X := by
  intro post xp hP hX
  obtain ⟨u_109_19, e_109_19⟩ : ∃ w, w = s.2.2.1 109 19 := ⟨_, rfl⟩
  have ro_109_19 := inv_F hI 0 160 rfl e_109_19
  obtain ⟨u_109_20, e_109_20⟩ : ∃ w, w = s.2.2.1 109 20 := ⟨_, rfl⟩
  have ro_109_20 := inv_F hI 0 32 rfl e_109_20
  have ct28 : ∀ (k28 : Nat) (sc28 : GS) (y28_2 : Int32) (y28_3 : Int32) (y28_4 : Int32) (y28_5 : Int32), Inv sc28 → Fr fm_289 s sc28 → (In x1 0 3) → (In y28_2 0 160) → (In y28_3 0 160) → (In y28_4 (-1) 159) → (In y28_5 0 160) → ((y28_2).toInt ≤ (y28_5).toInt + 0) → ((y28_3).toInt ≤ (y28_5).toInt + 0) → 160 - (y28_5).toInt < (k28 : Int) → GG Z (d - 1) 289 post (gx xp) (1 + k28 * 900) 28 (fun j => xlook j [(0, .ref (A 109)), (1, .int x1), (2, .int y28_2), (3, .int y28_3), (4, .int y28_4), (5, .int y28_5)]) [] (WW Z A sc28 ++ ex) 0 0 := by
    intro k28
    induction k28 with
    | zero => intro sc28 y28_2 y28_3 y28_4 y28_5 hIc28 hFc28 j28_1 j28_2 j28_3 j28_4 j28_5 l28_2 l28_3 mm28; exact m_no mm28 j28_5 rfl
    | succ k28 ih28 =>
      intro sc28 y28_2 y28_3 y28_4 y28_5 hIc28 hFc28 j28_1 j28_2 j28_3 j28_4 j28_5 l28_2 l28_3 mm28
      refine gg_w (M := 1 + k28 * 900 + 900) (by omega) ?_
      refine g_iload 30 (gd rfl) rfl rfl ?_
      refine g_sipush 160 33 (gd rfl) rfl rfl ?_
      refine g_cmp_ge 36 106 (gd rfl) rfl rfl (fun c33 => ?_) (fun c33 => ?_)
      · skip
        have i33 := r_le2 160 160 c33 (in_c 160 rfl) j28_5 rfl
        refine g_iload_n 107 (gd rfl) rfl rfl ?_
        refine g_if_ne 110 117 (gd rfl) rfl rfl (fun c107 => ?_) (fun c107 => ?_)
        · skip
          have i107 := z_ne 1 3 c107 j28_1 rfl
          refine g_iload_n 118 (gd rfl) rfl rfl ?_
          refine g_iconst 1 119 (gd rfl) rfl rfl ?_
          refine g_cmp_ne 122 126 (gd rfl) rfl rfl (fun c119 => ?_) (fun c119 => ?_)
          · skip
            have i119 := r_ne1 2 3 c119 i107 (in_c 1 rfl) rfl
            refine g_iload_n 127 (gd rfl) rfl rfl ?_
            refine g_iconst 2 128 (gd rfl) rfl rfl ?_
            refine g_cmp_ne 131 135 (gd rfl) rfl rfl (fun c128 => ?_) (fun c128 => ?_)
            · skip
              have i128 := r_ne1 3 3 c128 i119 (in_c 2 rfl) rfl
              refine g_iload 137 (gd rfl) rfl rfl ?_
              exact g_ireturn (gd rfl) rfl rfl (hP _ _ ⟨sc28, hIc28, hFc28, y28_4, rfl, rfl, in_w (-1) 160 j28_4 rfl⟩)
            · skip
              have i128 := r_eq1 2 2 c128 i119 (in_c 2 rfl) rfl
              refine g_iload_n 132 (gd rfl) rfl rfl ?_
              refine g_goto 137 (gd rfl) rfl ?_
              exact g_ireturn (gd rfl) rfl rfl (hP _ _ ⟨sc28, hIc28, hFc28, y28_3, rfl, rfl, in_w (-1) 160 j28_3 rfl⟩)
          · skip
            have i119 := r_eq1 1 1 c119 i107 (in_c 1 rfl) rfl
            refine g_iload_n 123 (gd rfl) rfl rfl ?_
            refine g_goto 137 (gd rfl) rfl ?_
            exact g_ireturn (gd rfl) rfl rfl (hP _ _ ⟨sc28, hIc28, hFc28, y28_2, rfl, rfl, in_w (-1) 160 j28_2 rfl⟩)
        · skip
          have i107 := z_eq 0 0 c107 j28_1 rfl
          refine g_aload_n 111 (gd rfl) rfl rfl ?_
          refine g_getI 114 (gd rfl) rfl rfl rfl (fun z111 e111 => ?_)
          have q111 : u_109_20 = z111 := (fr_F e_109_20 hFc28 rfl).trans e111.symm
          subst q111
          refine g_goto 137 (gd rfl) rfl ?_
          exact g_ireturn (gd rfl) rfl rfl (hP _ _ ⟨sc28, hIc28, hFc28, u_109_20, rfl, rfl, in_w (-1) 160 ro_109_20 rfl⟩)
      · skip
        have i33 := r_lt1 0 159 c33 j28_5 (in_c 160 rfl) rfl
        refine g_iload_n 37 (gd rfl) rfl rfl ?_
        refine g_aload_n 38 (gd rfl) rfl rfl ?_
        refine g_getA (q2 := 112) 41 (gd rfl) rfl rfl rfl rfl ?_
        refine g_aload_n 42 (gd rfl) rfl rfl ?_
        refine g_getI 45 (gd rfl) rfl rfl rfl (fun z42 e42 => ?_)
        have q42 : u_109_19 = z42 := (fr_F e_109_19 hFc28 rfl).trans e42.symm
        subst q42
        refine g_iload 47 (gd rfl) rfl rfl ?_
        refine g_iadd 48 (gd rfl) rfl (fun z47 e47 => ?_)
        have i47 := in_add 0 319 e47 ro_109_19 i33 rfl rfl
        refine g_baload 49 (gd rfl) rfl (n := 480) rfl (in_ix i47 rfl) (fun z48 e48 => ?_)
        have i48 := inv_I hIc28 (n := 480) (t := 3) 0 1 rfl (in_ix i47 rfl) rfl e48
        refine g_if_eq 52 56 (gd rfl) rfl rfl (fun c49 => ?_) (fun c49 => ?_)
        · skip
          have i49 := z_eq 0 0 c49 i48 rfl
          refine g_iconst 0 57 (gd rfl) rfl rfl ?_
          refine g_iadd 58 (gd rfl) rfl (fun z57 e57 => ?_)
          have i57 := in_add 0 160 e57 j28_2 (in_c 0 rfl) rfl rfl
          refine g_istore_n 59 (gd rfl) rfl (Nat.le_of_ble_eq_true rfl) ?_
          refine g_iload_n 60 (gd rfl) rfl rfl ?_
          refine g_aload_n 61 (gd rfl) rfl rfl ?_
          refine g_iload 63 (gd rfl) rfl rfl ?_
          refine g_callv (X := _) (As := [.int y28_5]) (r := [.int y28_3]) (b := A 109) (q := 109) 66 (gd rfl) rfl rfl rfl rfl rfl (ww_o rfl) (Nat.le_of_ble_eq_true rfl) (mc := 0) (ms := 0) (Nat.zero_le _) (Nat.zero_le _) (P := fun v u => _) ?_ (fun e u h => h) (fun v u h => h)
          intro po63 xx63 hp63 hx63
          refine g_enter2 (k := 288) (N := 300) (by omega) rfl (Nat.le_of_ble_eq_true rfl) ?_
          refine g_aload_n 1 (gd rfl) rfl rfl ?_
          refine g_getA (q2 := 112) 4 (gd rfl) rfl rfl rfl rfl ?_
          refine g_aload_n 5 (gd rfl) rfl rfl ?_
          refine g_getI 8 (gd rfl) rfl rfl rfl (fun z63x5 e63x5 => ?_)
          have q63x5 : u_109_19 = z63x5 := (fr_F e_109_19 hFc28 rfl).trans e63x5.symm
          subst q63x5
          refine g_iload_n 9 (gd rfl) rfl rfl ?_
          refine g_iadd 10 (gd rfl) rfl (fun z63x9 e63x9 => ?_)
          have i63x9 := in_add 0 319 e63x9 ro_109_19 i33 rfl rfl
          refine g_baload 11 (gd rfl) rfl (n := 480) rfl (in_ix i63x9 rfl) (fun z63x10 e63x10 => ?_)
          have i63x10 := inv_I hIc28 (n := 480) (t := 3) 0 1 rfl (in_ix i63x9 rfl) rfl e63x10
          refine g_if_eq 14 43 (gd rfl) rfl rfl (fun c63x11 => ?_) (fun c63x11 => ?_)
          · skip
            have i63x11 := z_eq 0 0 c63x11 i63x10 rfl
            refine g_iconst 0 44 (gd rfl) rfl rfl ?_
            refine g_ireturn (gd rfl) rfl (nb01 (in_w 0 1 (in_c 0 rfl) rfl)) (hp63 _ _ ?_)
            show GG _ _ _ _ _ _ _ _ [.int (Int32.ofInt 0), .int y28_3] _ _ _
            refine g_if_eq 69 73 (gd rfl) rfl rfl (fun c66 => ?_) (fun c66 => ?_)
            · skip
              refine g_iconst 0 74 (gd rfl) rfl rfl ?_
              refine g_iadd 75 (gd rfl) rfl (fun z74 e74 => ?_)
              have i74 := in_add 0 160 e74 j28_3 (in_c 0 rfl) rfl rfl
              refine g_istore_n 76 (gd rfl) rfl (Nat.le_of_ble_eq_true rfl) ?_
              refine g_aload_n 77 (gd rfl) rfl rfl ?_
              refine g_getA (q2 := 112) 80 (gd rfl) rfl rfl rfl rfl ?_
              refine g_aload_n 81 (gd rfl) rfl rfl ?_
              refine g_getI 84 (gd rfl) rfl rfl rfl (fun z81 e81 => ?_)
              have q81 : u_109_19 = z81 := (fr_F e_109_19 hFc28 rfl).trans e81.symm
              subst q81
              refine g_iload 86 (gd rfl) rfl rfl ?_
              refine g_iadd 87 (gd rfl) rfl (fun z86 e86 => ?_)
              have i86 := in_add 0 319 e86 ro_109_19 i33 rfl rfl
              refine g_baload 88 (gd rfl) rfl (n := 480) rfl (in_ix i86 rfl) (fun z87 e87 => ?_)
              have i87 := inv_I hIc28 (n := 480) (t := 3) 0 1 rfl (in_ix i86 rfl) rfl e87
              refine g_if_eq 91 96 (gd rfl) rfl rfl (fun c88 => ?_) (fun c88 => ?_)
              · skip
                have i88 := z_eq 0 0 c88 i87 rfl
                refine g_iload 98 (gd rfl) rfl rfl ?_
                refine g_istore 100 (gd rfl) rfl (Nat.le_of_ble_eq_true rfl) ?_
                refine g_iinc 103 (gd rfl) rfl rfl (Nat.le_of_ble_eq_true rfl) (fun z100 e100 => ?_)
                have i100 := in_add 1 160 e100 i33 (in_c 1 rfl) rfl rfl
                refine g_goto 28 (gd rfl) rfl ?_
                have l28 := rl_1 l28_2 (t_add e57 j28_2 (in_c 0 rfl) rfl) (in_c 0 rfl) (t_add e100 i33 (in_c 1 rfl) rfl) (in_c 1 rfl) rfl
                have l28a := rl_1 l28_3 (t_add e74 j28_3 (in_c 0 rfl) rfl) (in_c 0 rfl) (t_add e100 i33 (in_c 1 rfl) rfl) (in_c 1 rfl) rfl
                exact gg_w (by omega) (gg_f (gf_cons rfl (gf_cons rfl (gf_cons rfl (gf_cons rfl (gf_cons rfl (gf_cons rfl gf_nil)))))) (ih28 sc28 z57 z74 y28_4 z100 hIc28 hFc28 (in_w 0 3 j28_1 rfl) (rl_w 0 160 l28 i57 (in_w 0 160 i100 rfl) rfl) (rl_w 0 160 l28a i74 (in_w 0 160 i100 rfl) rfl) (in_w (-1) 159 j28_4 rfl) (in_w 0 160 i100 rfl) l28 l28a (m_up mm28 (t_add e100 i33 (in_c 1 rfl) rfl) (in_w 1 1 (in_c 1 rfl) rfl))))
              · skip
                have i88 := z_ne 1 1 c88 i87 rfl
                refine g_iload 93 (gd rfl) rfl rfl ?_
                refine g_goto 98 (gd rfl) rfl ?_
                refine g_istore 100 (gd rfl) rfl (Nat.le_of_ble_eq_true rfl) ?_
                refine g_iinc 103 (gd rfl) rfl rfl (Nat.le_of_ble_eq_true rfl) (fun z100 e100 => ?_)
                have i100 := in_add 1 160 e100 i33 (in_c 1 rfl) rfl rfl
                refine g_goto 28 (gd rfl) rfl ?_
                have l28 := rl_1 l28_2 (t_add e57 j28_2 (in_c 0 rfl) rfl) (in_c 0 rfl) (t_add e100 i33 (in_c 1 rfl) rfl) (in_c 1 rfl) rfl
                have l28a := rl_1 l28_3 (t_add e74 j28_3 (in_c 0 rfl) rfl) (in_c 0 rfl) (t_add e100 i33 (in_c 1 rfl) rfl) (in_c 1 rfl) rfl
                exact gg_w (by omega) (gg_f (gf_cons rfl (gf_cons rfl (gf_cons rfl (gf_cons rfl (gf_cons rfl (gf_cons rfl gf_nil)))))) (ih28 sc28 z57 z74 y28_5 z100 hIc28 hFc28 (in_w 0 3 j28_1 rfl) (rl_w 0 160 l28 i57 (in_w 0 160 i100 rfl) rfl) (rl_w 0 160 l28a i74 (in_w 0 160 i100 rfl) rfl) (in_w (-1) 159 i33 rfl) (in_w 0 160 i100 rfl) l28 l28a (m_up mm28 (t_add e100 i33 (in_c 1 rfl) rfl) (in_w 1 1 (in_c 1 rfl) rfl))))
            · skip
              exact zn_ne c66 (in_c 0 rfl) rfl
          · skip
            have i63x11 := z_ne 1 1 c63x11 i63x10 rfl
            refine g_aload_n 15 (gd rfl) rfl rfl ?_
            refine g_getA (q2 := 113) 18 (gd rfl) rfl rfl rfl rfl ?_
            refine g_aload_n 19 (gd rfl) rfl rfl ?_
            refine g_getI 22 (gd rfl) rfl rfl rfl (fun z63x19 e63x19 => ?_)
            have q63x19 : u_109_19 = z63x19 := (fr_F e_109_19 hFc28 rfl).trans e63x19.symm
            subst q63x19
            refine g_iload_n 23 (gd rfl) rfl rfl ?_
            refine g_iadd 24 (gd rfl) rfl (fun z63x23 e63x23 => ?_)
            have i63x23 := in_add 0 319 e63x23 ro_109_19 i33 rfl rfl
            refine g_iaload 25 (gd rfl) rfl (n := 480) rfl (in_ix i63x23 rfl) (fun z63x24 e63x24 => ?_)
            have i63x24 := inv_I hIc28 (n := 480) (t := 0) 0 31 rfl (in_ix i63x23 rfl) rfl e63x24
            refine g_aload_n 26 (gd rfl) rfl rfl ?_
            refine g_getA (q2 := 114) 29 (gd rfl) rfl rfl rfl rfl ?_
            refine g_aload_n 30 (gd rfl) rfl rfl ?_
            refine g_getI 33 (gd rfl) rfl rfl rfl (fun z63x30 e63x30 => ?_)
            have q63x30 : u_109_19 = z63x30 := (fr_F e_109_19 hFc28 rfl).trans e63x30.symm
            subst q63x30
            refine g_iload_n 34 (gd rfl) rfl rfl ?_
            refine g_iadd 35 (gd rfl) rfl (fun z63x34 e63x34 => ?_)
            have i63x34 := in_add 0 319 e63x34 ro_109_19 i33 rfl rfl
            refine g_iaload 36 (gd rfl) rfl (n := 480) rfl (in_ix i63x34 rfl) (fun z63x35 e63x35 => ?_)
            have i63x35 := inv_I hIc28 (n := 480) (t := 0) 0 31 rfl (in_ix i63x34 rfl) rfl e63x35
            refine g_cmp_eq 39 43 (gd rfl) rfl rfl (fun c63x36 => ?_) (fun c63x36 => ?_)
            · skip
              refine g_iconst 0 44 (gd rfl) rfl rfl ?_
              refine g_ireturn (gd rfl) rfl (nb01 (in_w 0 1 (in_c 0 rfl) rfl)) (hp63 _ _ ?_)
              show GG _ _ _ _ _ _ _ _ [.int (Int32.ofInt 0), .int y28_3] _ _ _
              refine g_if_eq 69 73 (gd rfl) rfl rfl (fun c66 => ?_) (fun c66 => ?_)
              · skip
                refine g_iconst 0 74 (gd rfl) rfl rfl ?_
                refine g_iadd 75 (gd rfl) rfl (fun z74 e74 => ?_)
                have i74 := in_add 0 160 e74 j28_3 (in_c 0 rfl) rfl rfl
                refine g_istore_n 76 (gd rfl) rfl (Nat.le_of_ble_eq_true rfl) ?_
                refine g_aload_n 77 (gd rfl) rfl rfl ?_
                refine g_getA (q2 := 112) 80 (gd rfl) rfl rfl rfl rfl ?_
                refine g_aload_n 81 (gd rfl) rfl rfl ?_
                refine g_getI 84 (gd rfl) rfl rfl rfl (fun z81 e81 => ?_)
                have q81 : u_109_19 = z81 := (fr_F e_109_19 hFc28 rfl).trans e81.symm
                subst q81
                refine g_iload 86 (gd rfl) rfl rfl ?_
                refine g_iadd 87 (gd rfl) rfl (fun z86 e86 => ?_)
                have i86 := in_add 0 319 e86 ro_109_19 i33 rfl rfl
                refine g_baload 88 (gd rfl) rfl (n := 480) rfl (in_ix i86 rfl) (fun z87 e87 => ?_)
                have i87 := inv_I hIc28 (n := 480) (t := 3) 0 1 rfl (in_ix i86 rfl) rfl e87
                refine g_if_eq 91 96 (gd rfl) rfl rfl (fun c88 => ?_) (fun c88 => ?_)
                · skip
                  have i88 := z_eq 0 0 c88 i87 rfl
                  refine g_iload 98 (gd rfl) rfl rfl ?_
                  refine g_istore 100 (gd rfl) rfl (Nat.le_of_ble_eq_true rfl) ?_
                  refine g_iinc 103 (gd rfl) rfl rfl (Nat.le_of_ble_eq_true rfl) (fun z100 e100 => ?_)
                  have i100 := in_add 1 160 e100 i33 (in_c 1 rfl) rfl rfl
                  refine g_goto 28 (gd rfl) rfl ?_
                  have l28 := rl_1 l28_2 (t_add e57 j28_2 (in_c 0 rfl) rfl) (in_c 0 rfl) (t_add e100 i33 (in_c 1 rfl) rfl) (in_c 1 rfl) rfl
                  have l28a := rl_1 l28_3 (t_add e74 j28_3 (in_c 0 rfl) rfl) (in_c 0 rfl) (t_add e100 i33 (in_c 1 rfl) rfl) (in_c 1 rfl) rfl
                  exact gg_w (by omega) (gg_f (gf_cons rfl (gf_cons rfl (gf_cons rfl (gf_cons rfl (gf_cons rfl (gf_cons rfl gf_nil)))))) (ih28 sc28 z57 z74 y28_4 z100 hIc28 hFc28 (in_w 0 3 j28_1 rfl) (rl_w 0 160 l28 i57 (in_w 0 160 i100 rfl) rfl) (rl_w 0 160 l28a i74 (in_w 0 160 i100 rfl) rfl) (in_w (-1) 159 j28_4 rfl) (in_w 0 160 i100 rfl) l28 l28a (m_up mm28 (t_add e100 i33 (in_c 1 rfl) rfl) (in_w 1 1 (in_c 1 rfl) rfl))))
                · skip
                  have i88 := z_ne 1 1 c88 i87 rfl
                  refine g_iload 93 (gd rfl) rfl rfl ?_
                  refine g_goto 98 (gd rfl) rfl ?_
                  refine g_istore 100 (gd rfl) rfl (Nat.le_of_ble_eq_true rfl) ?_
                  refine g_iinc 103 (gd rfl) rfl rfl (Nat.le_of_ble_eq_true rfl) (fun z100 e100 => ?_)
                  have i100 := in_add 1 160 e100 i33 (in_c 1 rfl) rfl rfl
                  refine g_goto 28 (gd rfl) rfl ?_
                  have l28 := rl_1 l28_2 (t_add e57 j28_2 (in_c 0 rfl) rfl) (in_c 0 rfl) (t_add e100 i33 (in_c 1 rfl) rfl) (in_c 1 rfl) rfl
                  have l28a := rl_1 l28_3 (t_add e74 j28_3 (in_c 0 rfl) rfl) (in_c 0 rfl) (t_add e100 i33 (in_c 1 rfl) rfl) (in_c 1 rfl) rfl
                  exact gg_w (by omega) (gg_f (gf_cons rfl (gf_cons rfl (gf_cons rfl (gf_cons rfl (gf_cons rfl (gf_cons rfl gf_nil)))))) (ih28 sc28 z57 z74 y28_5 z100 hIc28 hFc28 (in_w 0 3 j28_1 rfl) (rl_w 0 160 l28 i57 (in_w 0 160 i100 rfl) rfl) (rl_w 0 160 l28a i74 (in_w 0 160 i100 rfl) rfl) (in_w (-1) 159 i33 rfl) (in_w 0 160 i100 rfl) l28 l28a (m_up mm28 (t_add e100 i33 (in_c 1 rfl) rfl) (in_w 1 1 (in_c 1 rfl) rfl))))
              · skip
                exact zn_ne c66 (in_c 0 rfl) rfl
            · skip
              refine g_iconst 1 40 (gd rfl) rfl rfl ?_
              refine g_goto 44 (gd rfl) rfl ?_
              refine g_ireturn (gd rfl) rfl (nb01 (in_w 0 1 (in_c 1 rfl) rfl)) (hp63 _ _ ?_)
              show GG _ _ _ _ _ _ _ _ [.int (Int32.ofInt 1), .int y28_3] _ _ _
              refine g_if_eq 69 73 (gd rfl) rfl rfl (fun c66 => ?_) (fun c66 => ?_)
              · skip
                exact zn_eq c66 (in_c 1 rfl) rfl
              · skip
                refine g_iconst 1 70 (gd rfl) rfl rfl ?_
                refine g_goto 74 (gd rfl) rfl ?_
                refine g_iadd 75 (gd rfl) rfl (fun z74 e74 => ?_)
                have i74 := in_add 1 161 e74 j28_3 (in_c 1 rfl) rfl rfl
                refine g_istore_n 76 (gd rfl) rfl (Nat.le_of_ble_eq_true rfl) ?_
                refine g_aload_n 77 (gd rfl) rfl rfl ?_
                refine g_getA (q2 := 112) 80 (gd rfl) rfl rfl rfl rfl ?_
                refine g_aload_n 81 (gd rfl) rfl rfl ?_
                refine g_getI 84 (gd rfl) rfl rfl rfl (fun z81 e81 => ?_)
                have q81 : u_109_19 = z81 := (fr_F e_109_19 hFc28 rfl).trans e81.symm
                subst q81
                refine g_iload 86 (gd rfl) rfl rfl ?_
                refine g_iadd 87 (gd rfl) rfl (fun z86 e86 => ?_)
                have i86 := in_add 0 319 e86 ro_109_19 i33 rfl rfl
                refine g_baload 88 (gd rfl) rfl (n := 480) rfl (in_ix i86 rfl) (fun z87 e87 => ?_)
                have i87 := inv_I hIc28 (n := 480) (t := 3) 0 1 rfl (in_ix i86 rfl) rfl e87
                refine g_if_eq 91 96 (gd rfl) rfl rfl (fun c88 => ?_) (fun c88 => ?_)
                · skip
                  have i88 := z_eq 0 0 c88 i87 rfl
                  refine g_iload 98 (gd rfl) rfl rfl ?_
                  refine g_istore 100 (gd rfl) rfl (Nat.le_of_ble_eq_true rfl) ?_
                  refine g_iinc 103 (gd rfl) rfl rfl (Nat.le_of_ble_eq_true rfl) (fun z100 e100 => ?_)
                  have i100 := in_add 1 160 e100 i33 (in_c 1 rfl) rfl rfl
                  refine g_goto 28 (gd rfl) rfl ?_
                  have l28 := rl_1 l28_2 (t_add e57 j28_2 (in_c 0 rfl) rfl) (in_c 0 rfl) (t_add e100 i33 (in_c 1 rfl) rfl) (in_c 1 rfl) rfl
                  have l28a := rl_1 l28_3 (t_add e74 j28_3 (in_c 1 rfl) rfl) (in_c 1 rfl) (t_add e100 i33 (in_c 1 rfl) rfl) (in_c 1 rfl) rfl
                  exact gg_w (by omega) (gg_f (gf_cons rfl (gf_cons rfl (gf_cons rfl (gf_cons rfl (gf_cons rfl (gf_cons rfl gf_nil)))))) (ih28 sc28 z57 z74 y28_4 z100 hIc28 hFc28 (in_w 0 3 j28_1 rfl) (rl_w 0 160 l28 i57 (in_w 0 160 i100 rfl) rfl) (rl_w 0 160 l28a i74 (in_w 0 160 i100 rfl) rfl) (in_w (-1) 159 j28_4 rfl) (in_w 0 160 i100 rfl) l28 l28a (m_up mm28 (t_add e100 i33 (in_c 1 rfl) rfl) (in_w 1 1 (in_c 1 rfl) rfl))))
                · skip
                  have i88 := z_ne 1 1 c88 i87 rfl
                  refine g_iload 93 (gd rfl) rfl rfl ?_
                  refine g_goto 98 (gd rfl) rfl ?_
                  refine g_istore 100 (gd rfl) rfl (Nat.le_of_ble_eq_true rfl) ?_
                  refine g_iinc 103 (gd rfl) rfl rfl (Nat.le_of_ble_eq_true rfl) (fun z100 e100 => ?_)
                  have i100 := in_add 1 160 e100 i33 (in_c 1 rfl) rfl rfl
                  refine g_goto 28 (gd rfl) rfl ?_
                  have l28 := rl_1 l28_2 (t_add e57 j28_2 (in_c 0 rfl) rfl) (in_c 0 rfl) (t_add e100 i33 (in_c 1 rfl) rfl) (in_c 1 rfl) rfl
                  have l28a := rl_1 l28_3 (t_add e74 j28_3 (in_c 1 rfl) rfl) (in_c 1 rfl) (t_add e100 i33 (in_c 1 rfl) rfl) (in_c 1 rfl) rfl
                  exact gg_w (by omega) (gg_f (gf_cons rfl (gf_cons rfl (gf_cons rfl (gf_cons rfl (gf_cons rfl (gf_cons rfl gf_nil)))))) (ih28 sc28 z57 z74 y28_5 z100 hIc28 hFc28 (in_w 0 3 j28_1 rfl) (rl_w 0 160 l28 i57 (in_w 0 160 i100 rfl) rfl) (rl_w 0 160 l28a i74 (in_w 0 160 i100 rfl) rfl) (in_w (-1) 159 i33 rfl) (in_w 0 160 i100 rfl) l28 l28a (m_up mm28 (t_add e100 i33 (in_c 1 rfl) rfl) (in_w 1 1 (in_c 1 rfl) rfl))))
        · skip
          have i49 := z_ne 1 1 c49 i48 rfl
          refine g_iconst 1 53 (gd rfl) rfl rfl ?_
          refine g_goto 57 (gd rfl) rfl ?_
          refine g_iadd 58 (gd rfl) rfl (fun z57 e57 => ?_)
          have i57 := in_add 1 161 e57 j28_2 (in_c 1 rfl) rfl rfl
          refine g_istore_n 59 (gd rfl) rfl (Nat.le_of_ble_eq_true rfl) ?_
          refine g_iload_n 60 (gd rfl) rfl rfl ?_
          refine g_aload_n 61 (gd rfl) rfl rfl ?_
          refine g_iload 63 (gd rfl) rfl rfl ?_
          refine g_callv (X := _) (As := [.int y28_5]) (r := [.int y28_3]) (b := A 109) (q := 109) 66 (gd rfl) rfl rfl rfl rfl rfl (ww_o rfl) (Nat.le_of_ble_eq_true rfl) (mc := 0) (ms := 0) (Nat.zero_le _) (Nat.zero_le _) (P := fun v u => _) ?_ (fun e u h => h) (fun v u h => h)
          intro po63 xx63 hp63 hx63
          refine g_enter2 (k := 288) (N := 300) (by omega) rfl (Nat.le_of_ble_eq_true rfl) ?_
          refine g_aload_n 1 (gd rfl) rfl rfl ?_
          refine g_getA (q2 := 112) 4 (gd rfl) rfl rfl rfl rfl ?_
          refine g_aload_n 5 (gd rfl) rfl rfl ?_
          refine g_getI 8 (gd rfl) rfl rfl rfl (fun z63x5 e63x5 => ?_)
          have q63x5 : u_109_19 = z63x5 := (fr_F e_109_19 hFc28 rfl).trans e63x5.symm
          subst q63x5
          refine g_iload_n 9 (gd rfl) rfl rfl ?_
          refine g_iadd 10 (gd rfl) rfl (fun z63x9 e63x9 => ?_)
          have i63x9 := in_add 0 319 e63x9 ro_109_19 i33 rfl rfl
          refine g_baload 11 (gd rfl) rfl (n := 480) rfl (in_ix i63x9 rfl) (fun z63x10 e63x10 => ?_)
          have i63x10 := inv_I hIc28 (n := 480) (t := 3) 0 1 rfl (in_ix i63x9 rfl) rfl e63x10
          refine g_if_eq 14 43 (gd rfl) rfl rfl (fun c63x11 => ?_) (fun c63x11 => ?_)
          · skip
            have i63x11 := z_eq 0 0 c63x11 i63x10 rfl
            refine g_iconst 0 44 (gd rfl) rfl rfl ?_
            refine g_ireturn (gd rfl) rfl (nb01 (in_w 0 1 (in_c 0 rfl) rfl)) (hp63 _ _ ?_)
            show GG _ _ _ _ _ _ _ _ [.int (Int32.ofInt 0), .int y28_3] _ _ _
            refine g_if_eq 69 73 (gd rfl) rfl rfl (fun c66 => ?_) (fun c66 => ?_)
            · skip
              refine g_iconst 0 74 (gd rfl) rfl rfl ?_
              refine g_iadd 75 (gd rfl) rfl (fun z74 e74 => ?_)
              have i74 := in_add 0 160 e74 j28_3 (in_c 0 rfl) rfl rfl
              refine g_istore_n 76 (gd rfl) rfl (Nat.le_of_ble_eq_true rfl) ?_
              refine g_aload_n 77 (gd rfl) rfl rfl ?_
              refine g_getA (q2 := 112) 80 (gd rfl) rfl rfl rfl rfl ?_
              refine g_aload_n 81 (gd rfl) rfl rfl ?_
              refine g_getI 84 (gd rfl) rfl rfl rfl (fun z81 e81 => ?_)
              have q81 : u_109_19 = z81 := (fr_F e_109_19 hFc28 rfl).trans e81.symm
              subst q81
              refine g_iload 86 (gd rfl) rfl rfl ?_
              refine g_iadd 87 (gd rfl) rfl (fun z86 e86 => ?_)
              have i86 := in_add 0 319 e86 ro_109_19 i33 rfl rfl
              refine g_baload 88 (gd rfl) rfl (n := 480) rfl (in_ix i86 rfl) (fun z87 e87 => ?_)
              have i87 := inv_I hIc28 (n := 480) (t := 3) 0 1 rfl (in_ix i86 rfl) rfl e87
              refine g_if_eq 91 96 (gd rfl) rfl rfl (fun c88 => ?_) (fun c88 => ?_)
              · skip
                have i88 := z_eq 0 0 c88 i87 rfl
                refine g_iload 98 (gd rfl) rfl rfl ?_
                refine g_istore 100 (gd rfl) rfl (Nat.le_of_ble_eq_true rfl) ?_
                refine g_iinc 103 (gd rfl) rfl rfl (Nat.le_of_ble_eq_true rfl) (fun z100 e100 => ?_)
                have i100 := in_add 1 160 e100 i33 (in_c 1 rfl) rfl rfl
                refine g_goto 28 (gd rfl) rfl ?_
                have l28 := rl_1 l28_2 (t_add e57 j28_2 (in_c 1 rfl) rfl) (in_c 1 rfl) (t_add e100 i33 (in_c 1 rfl) rfl) (in_c 1 rfl) rfl
                have l28a := rl_1 l28_3 (t_add e74 j28_3 (in_c 0 rfl) rfl) (in_c 0 rfl) (t_add e100 i33 (in_c 1 rfl) rfl) (in_c 1 rfl) rfl
                exact gg_w (by omega) (gg_f (gf_cons rfl (gf_cons rfl (gf_cons rfl (gf_cons rfl (gf_cons rfl (gf_cons rfl gf_nil)))))) (ih28 sc28 z57 z74 y28_4 z100 hIc28 hFc28 (in_w 0 3 j28_1 rfl) (rl_w 0 160 l28 i57 (in_w 0 160 i100 rfl) rfl) (rl_w 0 160 l28a i74 (in_w 0 160 i100 rfl) rfl) (in_w (-1) 159 j28_4 rfl) (in_w 0 160 i100 rfl) l28 l28a (m_up mm28 (t_add e100 i33 (in_c 1 rfl) rfl) (in_w 1 1 (in_c 1 rfl) rfl))))
              · skip
                have i88 := z_ne 1 1 c88 i87 rfl
                refine g_iload 93 (gd rfl) rfl rfl ?_
                refine g_goto 98 (gd rfl) rfl ?_
                refine g_istore 100 (gd rfl) rfl (Nat.le_of_ble_eq_true rfl) ?_
                refine g_iinc 103 (gd rfl) rfl rfl (Nat.le_of_ble_eq_true rfl) (fun z100 e100 => ?_)
                have i100 := in_add 1 160 e100 i33 (in_c 1 rfl) rfl rfl
                refine g_goto 28 (gd rfl) rfl ?_
                have l28 := rl_1 l28_2 (t_add e57 j28_2 (in_c 1 rfl) rfl) (in_c 1 rfl) (t_add e100 i33 (in_c 1 rfl) rfl) (in_c 1 rfl) rfl
                have l28a := rl_1 l28_3 (t_add e74 j28_3 (in_c 0 rfl) rfl) (in_c 0 rfl) (t_add e100 i33 (in_c 1 rfl) rfl) (in_c 1 rfl) rfl
                exact gg_w (by omega) (gg_f (gf_cons rfl (gf_cons rfl (gf_cons rfl (gf_cons rfl (gf_cons rfl (gf_cons rfl gf_nil)))))) (ih28 sc28 z57 z74 y28_5 z100 hIc28 hFc28 (in_w 0 3 j28_1 rfl) (rl_w 0 160 l28 i57 (in_w 0 160 i100 rfl) rfl) (rl_w 0 160 l28a i74 (in_w 0 160 i100 rfl) rfl) (in_w (-1) 159 i33 rfl) (in_w 0 160 i100 rfl) l28 l28a (m_up mm28 (t_add e100 i33 (in_c 1 rfl) rfl) (in_w 1 1 (in_c 1 rfl) rfl))))
            · skip
              exact zn_ne c66 (in_c 0 rfl) rfl
          · skip
            have i63x11 := z_ne 1 1 c63x11 i63x10 rfl
            refine g_aload_n 15 (gd rfl) rfl rfl ?_
            refine g_getA (q2 := 113) 18 (gd rfl) rfl rfl rfl rfl ?_
            refine g_aload_n 19 (gd rfl) rfl rfl ?_
            refine g_getI 22 (gd rfl) rfl rfl rfl (fun z63x19 e63x19 => ?_)
            have q63x19 : u_109_19 = z63x19 := (fr_F e_109_19 hFc28 rfl).trans e63x19.symm
            subst q63x19
            refine g_iload_n 23 (gd rfl) rfl rfl ?_
            refine g_iadd 24 (gd rfl) rfl (fun z63x23 e63x23 => ?_)
            have i63x23 := in_add 0 319 e63x23 ro_109_19 i33 rfl rfl
            refine g_iaload 25 (gd rfl) rfl (n := 480) rfl (in_ix i63x23 rfl) (fun z63x24 e63x24 => ?_)
            have i63x24 := inv_I hIc28 (n := 480) (t := 0) 0 31 rfl (in_ix i63x23 rfl) rfl e63x24
            refine g_aload_n 26 (gd rfl) rfl rfl ?_
            refine g_getA (q2 := 114) 29 (gd rfl) rfl rfl rfl rfl ?_
            refine g_aload_n 30 (gd rfl) rfl rfl ?_
            refine g_getI 33 (gd rfl) rfl rfl rfl (fun z63x30 e63x30 => ?_)
            have q63x30 : u_109_19 = z63x30 := (fr_F e_109_19 hFc28 rfl).trans e63x30.symm
            subst q63x30
            refine g_iload_n 34 (gd rfl) rfl rfl ?_
            refine g_iadd 35 (gd rfl) rfl (fun z63x34 e63x34 => ?_)
            have i63x34 := in_add 0 319 e63x34 ro_109_19 i33 rfl rfl
            refine g_iaload 36 (gd rfl) rfl (n := 480) rfl (in_ix i63x34 rfl) (fun z63x35 e63x35 => ?_)
            have i63x35 := inv_I hIc28 (n := 480) (t := 0) 0 31 rfl (in_ix i63x34 rfl) rfl e63x35
            refine g_cmp_eq 39 43 (gd rfl) rfl rfl (fun c63x36 => ?_) (fun c63x36 => ?_)
            · skip
              refine g_iconst 0 44 (gd rfl) rfl rfl ?_
              refine g_ireturn (gd rfl) rfl (nb01 (in_w 0 1 (in_c 0 rfl) rfl)) (hp63 _ _ ?_)
              show GG _ _ _ _ _ _ _ _ [.int (Int32.ofInt 0), .int y28_3] _ _ _
              refine g_if_eq 69 73 (gd rfl) rfl rfl (fun c66 => ?_) (fun c66 => ?_)
              · skip
                refine g_iconst 0 74 (gd rfl) rfl rfl ?_
                refine g_iadd 75 (gd rfl) rfl (fun z74 e74 => ?_)
                have i74 := in_add 0 160 e74 j28_3 (in_c 0 rfl) rfl rfl
                refine g_istore_n 76 (gd rfl) rfl (Nat.le_of_ble_eq_true rfl) ?_
                refine g_aload_n 77 (gd rfl) rfl rfl ?_
                refine g_getA (q2 := 112) 80 (gd rfl) rfl rfl rfl rfl ?_
                refine g_aload_n 81 (gd rfl) rfl rfl ?_
                refine g_getI 84 (gd rfl) rfl rfl rfl (fun z81 e81 => ?_)
                have q81 : u_109_19 = z81 := (fr_F e_109_19 hFc28 rfl).trans e81.symm
                subst q81
                refine g_iload 86 (gd rfl) rfl rfl ?_
                refine g_iadd 87 (gd rfl) rfl (fun z86 e86 => ?_)
                have i86 := in_add 0 319 e86 ro_109_19 i33 rfl rfl
                refine g_baload 88 (gd rfl) rfl (n := 480) rfl (in_ix i86 rfl) (fun z87 e87 => ?_)
                have i87 := inv_I hIc28 (n := 480) (t := 3) 0 1 rfl (in_ix i86 rfl) rfl e87
                refine g_if_eq 91 96 (gd rfl) rfl rfl (fun c88 => ?_) (fun c88 => ?_)
                · skip
                  have i88 := z_eq 0 0 c88 i87 rfl
                  refine g_iload 98 (gd rfl) rfl rfl ?_
                  refine g_istore 100 (gd rfl) rfl (Nat.le_of_ble_eq_true rfl) ?_
                  refine g_iinc 103 (gd rfl) rfl rfl (Nat.le_of_ble_eq_true rfl) (fun z100 e100 => ?_)
                  have i100 := in_add 1 160 e100 i33 (in_c 1 rfl) rfl rfl
                  refine g_goto 28 (gd rfl) rfl ?_
                  have l28 := rl_1 l28_2 (t_add e57 j28_2 (in_c 1 rfl) rfl) (in_c 1 rfl) (t_add e100 i33 (in_c 1 rfl) rfl) (in_c 1 rfl) rfl
                  have l28a := rl_1 l28_3 (t_add e74 j28_3 (in_c 0 rfl) rfl) (in_c 0 rfl) (t_add e100 i33 (in_c 1 rfl) rfl) (in_c 1 rfl) rfl
                  exact gg_w (by omega) (gg_f (gf_cons rfl (gf_cons rfl (gf_cons rfl (gf_cons rfl (gf_cons rfl (gf_cons rfl gf_nil)))))) (ih28 sc28 z57 z74 y28_4 z100 hIc28 hFc28 (in_w 0 3 j28_1 rfl) (rl_w 0 160 l28 i57 (in_w 0 160 i100 rfl) rfl) (rl_w 0 160 l28a i74 (in_w 0 160 i100 rfl) rfl) (in_w (-1) 159 j28_4 rfl) (in_w 0 160 i100 rfl) l28 l28a (m_up mm28 (t_add e100 i33 (in_c 1 rfl) rfl) (in_w 1 1 (in_c 1 rfl) rfl))))
                · skip
                  have i88 := z_ne 1 1 c88 i87 rfl
                  refine g_iload 93 (gd rfl) rfl rfl ?_
                  refine g_goto 98 (gd rfl) rfl ?_
                  refine g_istore 100 (gd rfl) rfl (Nat.le_of_ble_eq_true rfl) ?_
                  refine g_iinc 103 (gd rfl) rfl rfl (Nat.le_of_ble_eq_true rfl) (fun z100 e100 => ?_)
                  have i100 := in_add 1 160 e100 i33 (in_c 1 rfl) rfl rfl
                  refine g_goto 28 (gd rfl) rfl ?_
                  have l28 := rl_1 l28_2 (t_add e57 j28_2 (in_c 1 rfl) rfl) (in_c 1 rfl) (t_add e100 i33 (in_c 1 rfl) rfl) (in_c 1 rfl) rfl
                  have l28a := rl_1 l28_3 (t_add e74 j28_3 (in_c 0 rfl) rfl) (in_c 0 rfl) (t_add e100 i33 (in_c 1 rfl) rfl) (in_c 1 rfl) rfl
                  exact gg_w (by omega) (gg_f (gf_cons rfl (gf_cons rfl (gf_cons rfl (gf_cons rfl (gf_cons rfl (gf_cons rfl gf_nil)))))) (ih28 sc28 z57 z74 y28_5 z100 hIc28 hFc28 (in_w 0 3 j28_1 rfl) (rl_w 0 160 l28 i57 (in_w 0 160 i100 rfl) rfl) (rl_w 0 160 l28a i74 (in_w 0 160 i100 rfl) rfl) (in_w (-1) 159 i33 rfl) (in_w 0 160 i100 rfl) l28 l28a (m_up mm28 (t_add e100 i33 (in_c 1 rfl) rfl) (in_w 1 1 (in_c 1 rfl) rfl))))
              · skip
                exact zn_ne c66 (in_c 0 rfl) rfl
            · skip
              refine g_iconst 1 40 (gd rfl) rfl rfl ?_
              refine g_goto 44 (gd rfl) rfl ?_
              refine g_ireturn (gd rfl) rfl (nb01 (in_w 0 1 (in_c 1 rfl) rfl)) (hp63 _ _ ?_)
              show GG _ _ _ _ _ _ _ _ [.int (Int32.ofInt 1), .int y28_3] _ _ _
              refine g_if_eq 69 73 (gd rfl) rfl rfl (fun c66 => ?_) (fun c66 => ?_)
              · skip
                exact zn_eq c66 (in_c 1 rfl) rfl
              · skip
                refine g_iconst 1 70 (gd rfl) rfl rfl ?_
                refine g_goto 74 (gd rfl) rfl ?_
                refine g_iadd 75 (gd rfl) rfl (fun z74 e74 => ?_)
                have i74 := in_add 1 161 e74 j28_3 (in_c 1 rfl) rfl rfl
                refine g_istore_n 76 (gd rfl) rfl (Nat.le_of_ble_eq_true rfl) ?_
                refine g_aload_n 77 (gd rfl) rfl rfl ?_
                refine g_getA (q2 := 112) 80 (gd rfl) rfl rfl rfl rfl ?_
                refine g_aload_n 81 (gd rfl) rfl rfl ?_
                refine g_getI 84 (gd rfl) rfl rfl rfl (fun z81 e81 => ?_)
                have q81 : u_109_19 = z81 := (fr_F e_109_19 hFc28 rfl).trans e81.symm
                subst q81
                refine g_iload 86 (gd rfl) rfl rfl ?_
                refine g_iadd 87 (gd rfl) rfl (fun z86 e86 => ?_)
                have i86 := in_add 0 319 e86 ro_109_19 i33 rfl rfl
                refine g_baload 88 (gd rfl) rfl (n := 480) rfl (in_ix i86 rfl) (fun z87 e87 => ?_)
                have i87 := inv_I hIc28 (n := 480) (t := 3) 0 1 rfl (in_ix i86 rfl) rfl e87
                refine g_if_eq 91 96 (gd rfl) rfl rfl (fun c88 => ?_) (fun c88 => ?_)
                · skip
                  have i88 := z_eq 0 0 c88 i87 rfl
                  refine g_iload 98 (gd rfl) rfl rfl ?_
                  refine g_istore 100 (gd rfl) rfl (Nat.le_of_ble_eq_true rfl) ?_
                  refine g_iinc 103 (gd rfl) rfl rfl (Nat.le_of_ble_eq_true rfl) (fun z100 e100 => ?_)
                  have i100 := in_add 1 160 e100 i33 (in_c 1 rfl) rfl rfl
                  refine g_goto 28 (gd rfl) rfl ?_
                  have l28 := rl_1 l28_2 (t_add e57 j28_2 (in_c 1 rfl) rfl) (in_c 1 rfl) (t_add e100 i33 (in_c 1 rfl) rfl) (in_c 1 rfl) rfl
                  have l28a := rl_1 l28_3 (t_add e74 j28_3 (in_c 1 rfl) rfl) (in_c 1 rfl) (t_add e100 i33 (in_c 1 rfl) rfl) (in_c 1 rfl) rfl
                  exact gg_w (by omega) (gg_f (gf_cons rfl (gf_cons rfl (gf_cons rfl (gf_cons rfl (gf_cons rfl (gf_cons rfl gf_nil)))))) (ih28 sc28 z57 z74 y28_4 z100 hIc28 hFc28 (in_w 0 3 j28_1 rfl) (rl_w 0 160 l28 i57 (in_w 0 160 i100 rfl) rfl) (rl_w 0 160 l28a i74 (in_w 0 160 i100 rfl) rfl) (in_w (-1) 159 j28_4 rfl) (in_w 0 160 i100 rfl) l28 l28a (m_up mm28 (t_add e100 i33 (in_c 1 rfl) rfl) (in_w 1 1 (in_c 1 rfl) rfl))))
                · skip
                  have i88 := z_ne 1 1 c88 i87 rfl
                  refine g_iload 93 (gd rfl) rfl rfl ?_
                  refine g_goto 98 (gd rfl) rfl ?_
                  refine g_istore 100 (gd rfl) rfl (Nat.le_of_ble_eq_true rfl) ?_
                  refine g_iinc 103 (gd rfl) rfl rfl (Nat.le_of_ble_eq_true rfl) (fun z100 e100 => ?_)
                  have i100 := in_add 1 160 e100 i33 (in_c 1 rfl) rfl rfl
                  refine g_goto 28 (gd rfl) rfl ?_
                  have l28 := rl_1 l28_2 (t_add e57 j28_2 (in_c 1 rfl) rfl) (in_c 1 rfl) (t_add e100 i33 (in_c 1 rfl) rfl) (in_c 1 rfl) rfl
                  have l28a := rl_1 l28_3 (t_add e74 j28_3 (in_c 1 rfl) rfl) (in_c 1 rfl) (t_add e100 i33 (in_c 1 rfl) rfl) (in_c 1 rfl) rfl
                  exact gg_w (by omega) (gg_f (gf_cons rfl (gf_cons rfl (gf_cons rfl (gf_cons rfl (gf_cons rfl (gf_cons rfl gf_nil)))))) (ih28 sc28 z57 z74 y28_5 z100 hIc28 hFc28 (in_w 0 3 j28_1 rfl) (rl_w 0 160 l28 i57 (in_w 0 160 i100 rfl) rfl) (rl_w 0 160 l28a i74 (in_w 0 160 i100 rfl) rfl) (in_w (-1) 159 i33 rfl) (in_w 0 160 i100 rfl) l28 l28a (m_up mm28 (t_add e100 i33 (in_c 1 rfl) rfl) (in_w 1 1 (in_c 1 rfl) rfl))))
  refine g_enter2 (k := 289) (N := 145801) (by omega) rfl (Nat.le_of_ble_eq_true rfl) ?_
  refine g_aload_n 1 (gd rfl) rfl rfl ?_
  refine g_iload_n 2 (gd rfl) rfl rfl ?_
  refine g_i2l 3 (gd rfl) rfl (fun z2 e2 => ?_)
  have i2 := l_i e2 (i_rng x1)
  refine g_lconst 0 4 (gd rfl) rfl rfl ?_
  refine g_ldc2_w 3 7 (gd rfl) rfl rfl ?_
  refine g_calls (As := [.long z2, .long (Int64.ofInt 0), .long (Int64.ofInt 3)]) (r := [.ref (A 109)]) 10 (gd rfl) rfl rfl rfl rfl rfl (Nat.le_of_ble_eq_true rfl) (mc := 0) (ms := 0) (Nat.zero_le _) (Nat.zero_le _) (P := fun v u => _) ?_ (fun v u h => h)
  intro po7 xx7 hp7 hx7
  refine g_enter2 (k := 269) (N := 300) (by omega) rfl (Nat.le_of_ble_eq_true rfl) ?_
  refine g_lload_n 1 (gd rfl) rfl rfl ?_
  refine g_lload_n 2 (gd rfl) rfl rfl ?_
  refine g_lcmp 3 (gd rfl) rfl (fun z7x2 e7x2 => ?_)
  have i7x2 := lc_in e7x2
  refine g_if_lt 6 17 (gd rfl) rfl rfl (fun c7x3 => ?_) (fun c7x3 => ?_)
  · skip
    have i7x3 := z_lt (-1) (-1) c7x3 i7x2 rfl
    have c7x3a := lc_lt e7x2 c7x3
    have i7x3a := lr_lt1 (-2147483648) (-1) c7x3a i2 (l_c 0 rfl) rfl
    have i7x3b := l_b e2 i7x3a
    refine g_iconst 0 18 (gd rfl) rfl rfl ?_
    refine g_ireturn (gd rfl) rfl (nb01 (in_w 0 1 (in_c 0 rfl) rfl)) (hp7 _ _ ?_)
    show GG _ _ _ _ _ _ _ _ [.int (Int32.ofInt 0), .ref (A 109)] _ _ _
    refine g_callv (X := _) (As := [.int (Int32.ofInt 0)]) (r := []) (b := A 109) (q := 109) 13 (gd rfl) rfl rfl rfl rfl rfl (ww_o rfl) (Nat.le_of_ble_eq_true rfl) (mc := 0) (ms := 0) (Nat.zero_le _) (Nat.zero_le _) (P := fun v u => _) ?_ (fun e u h => h) (fun v u h => h)
    intro po10 xx10 hp10 hx10
    refine g_enter2 (k := 271) (N := 300) (by omega) rfl (Nat.le_of_ble_eq_true rfl) ?_
    refine g_aload_n 1 (gd rfl) rfl rfl ?_
    refine g_iload_n 2 (gd rfl) rfl rfl ?_
    refine g_iconst 1 3 (gd rfl) rfl rfl ?_
    refine g_callv (X := _) (As := [.int (Int32.ofInt 0), .int (Int32.ofInt 1)]) (r := []) (b := A 109) (q := 109) 6 (gd rfl) rfl rfl rfl rfl rfl (ww_o rfl) (Nat.le_of_ble_eq_true rfl) (mc := 0) (ms := 0) (Nat.zero_le _) (Nat.zero_le _) (P := fun v u => _) ?_ (fun e u h => h) (fun v u h => h)
    intro po10x3 xx10x3 hp10x3 hx10x3
    refine g_enter2 (k := 270) (N := 300) (by omega) rfl (Nat.le_of_ble_eq_true rfl) ?_
    refine g_aload_n 1 (gd rfl) rfl rfl ?_
    refine g_iload_n 2 (gd rfl) rfl rfl ?_
    refine g_if_ne 5 9 (gd rfl) rfl rfl (fun c10x3x2 => ?_) (fun c10x3x2 => ?_)
    · skip
      exact zn_ne c10x3x2 (in_c 0 rfl) rfl
    · skip
      refine g_iconst 1 6 (gd rfl) rfl rfl ?_
      refine g_goto 18 (gd rfl) rfl ?_
      refine g_putI 21 (gd rfl) rfl rfl rfl rfl ?_
      have hI10x3x18 := inv_sF (q := 109) (j := 0) hI rfl (in_w 0 2 (in_c 1 rfl) rfl)
      refine g_aload_n 22 (gd rfl) rfl rfl ?_
      refine g_getI 25 (gd rfl) rfl rfl rfl (fun z10x3x22 e10x3x22 => ?_)
      have q10x3x22 : (Int32.ofInt 1) = z10x3x22 := (sF_get).trans e10x3x22.symm
      subst q10x3x22
      refine g_if_le 28 32 (gd rfl) rfl rfl (fun c10x3x25 => ?_) (fun c10x3x25 => ?_)
      · skip
        exact zn_le c10x3x25 (in_c 1 rfl) rfl
      · skip
        refine g_iconst 1 29 (gd rfl) rfl rfl ?_
        refine g_goto 33 (gd rfl) rfl ?_
        refine g_ireturn (gd rfl) rfl (nb01 (in_w 0 1 (in_c 1 rfl) rfl)) (hp10x3 _ _ ?_)
        show GG _ _ _ _ _ _ _ _ [.int (Int32.ofInt 1)] _ _ _
        refine g_ireturn (gd rfl) rfl (nb01 (in_w 0 1 (in_c 1 rfl) rfl)) (hp10 _ _ ?_)
        show GG _ _ _ _ _ _ _ _ [.int (Int32.ofInt 1)] _ _ _
        refine g_if_eq 16 18 (gd rfl) rfl rfl (fun c13 => ?_) (fun c13 => ?_)
        · skip
          exact zn_eq c13 (in_c 1 rfl) rfl
        · skip
          refine g_iconst 0 17 (gd rfl) rfl rfl ?_
          exact g_ireturn (gd rfl) rfl rfl (hP _ _ ⟨(sF s 109 0 (Int32.ofInt 1)), hI10x3x18, (fr_sF rfl fr_rf), (Int32.ofInt 0), rfl, rfl, in_w (-1) 160 (in_c 0 rfl) rfl⟩)
  · skip
    have i7x3 := z_ge 0 1 c7x3 i7x2 rfl
    have c7x3a := lc_ge e7x2 c7x3
    have i7x3a := lr_le2 0 2147483647 c7x3a (l_c 0 rfl) i2 rfl
    have i7x3b := l_b e2 i7x3a
    refine g_lload_n 7 (gd rfl) rfl rfl ?_
    refine g_lload 9 (gd rfl) rfl rfl ?_
    refine g_lcmp 10 (gd rfl) rfl (fun z7x9 e7x9 => ?_)
    have i7x9 := lc_in e7x9
    refine g_if_gt 13 17 (gd rfl) rfl rfl (fun c7x10 => ?_) (fun c7x10 => ?_)
    · skip
      have i7x10 := z_gt 1 1 c7x10 i7x9 rfl
      have c7x10a := lc_gt e7x9 c7x10
      have i7x10a := lr_lt2 4 2147483647 c7x10a (l_c 3 rfl) i7x3a rfl
      have i7x10b := l_b e2 i7x10a
      refine g_iconst 0 18 (gd rfl) rfl rfl ?_
      refine g_ireturn (gd rfl) rfl (nb01 (in_w 0 1 (in_c 0 rfl) rfl)) (hp7 _ _ ?_)
      show GG _ _ _ _ _ _ _ _ [.int (Int32.ofInt 0), .ref (A 109)] _ _ _
      refine g_callv (X := _) (As := [.int (Int32.ofInt 0)]) (r := []) (b := A 109) (q := 109) 13 (gd rfl) rfl rfl rfl rfl rfl (ww_o rfl) (Nat.le_of_ble_eq_true rfl) (mc := 0) (ms := 0) (Nat.zero_le _) (Nat.zero_le _) (P := fun v u => _) ?_ (fun e u h => h) (fun v u h => h)
      intro po10 xx10 hp10 hx10
      refine g_enter2 (k := 271) (N := 300) (by omega) rfl (Nat.le_of_ble_eq_true rfl) ?_
      refine g_aload_n 1 (gd rfl) rfl rfl ?_
      refine g_iload_n 2 (gd rfl) rfl rfl ?_
      refine g_iconst 1 3 (gd rfl) rfl rfl ?_
      refine g_callv (X := _) (As := [.int (Int32.ofInt 0), .int (Int32.ofInt 1)]) (r := []) (b := A 109) (q := 109) 6 (gd rfl) rfl rfl rfl rfl rfl (ww_o rfl) (Nat.le_of_ble_eq_true rfl) (mc := 0) (ms := 0) (Nat.zero_le _) (Nat.zero_le _) (P := fun v u => _) ?_ (fun e u h => h) (fun v u h => h)
      intro po10x3 xx10x3 hp10x3 hx10x3
      refine g_enter2 (k := 270) (N := 300) (by omega) rfl (Nat.le_of_ble_eq_true rfl) ?_
      refine g_aload_n 1 (gd rfl) rfl rfl ?_
      refine g_iload_n 2 (gd rfl) rfl rfl ?_
      refine g_if_ne 5 9 (gd rfl) rfl rfl (fun c10x3x2 => ?_) (fun c10x3x2 => ?_)
      · skip
        exact zn_ne c10x3x2 (in_c 0 rfl) rfl
      · skip
        refine g_iconst 1 6 (gd rfl) rfl rfl ?_
        refine g_goto 18 (gd rfl) rfl ?_
        refine g_putI 21 (gd rfl) rfl rfl rfl rfl ?_
        have hI10x3x18 := inv_sF (q := 109) (j := 0) hI rfl (in_w 0 2 (in_c 1 rfl) rfl)
        refine g_aload_n 22 (gd rfl) rfl rfl ?_
        refine g_getI 25 (gd rfl) rfl rfl rfl (fun z10x3x22 e10x3x22 => ?_)
        have q10x3x22 : (Int32.ofInt 1) = z10x3x22 := (sF_get).trans e10x3x22.symm
        subst q10x3x22
        refine g_if_le 28 32 (gd rfl) rfl rfl (fun c10x3x25 => ?_) (fun c10x3x25 => ?_)
        · skip
          exact zn_le c10x3x25 (in_c 1 rfl) rfl
        · skip
          refine g_iconst 1 29 (gd rfl) rfl rfl ?_
          refine g_goto 33 (gd rfl) rfl ?_
          refine g_ireturn (gd rfl) rfl (nb01 (in_w 0 1 (in_c 1 rfl) rfl)) (hp10x3 _ _ ?_)
          show GG _ _ _ _ _ _ _ _ [.int (Int32.ofInt 1)] _ _ _
          refine g_ireturn (gd rfl) rfl (nb01 (in_w 0 1 (in_c 1 rfl) rfl)) (hp10 _ _ ?_)
          show GG _ _ _ _ _ _ _ _ [.int (Int32.ofInt 1)] _ _ _
          refine g_if_eq 16 18 (gd rfl) rfl rfl (fun c13 => ?_) (fun c13 => ?_)
          · skip
            exact zn_eq c13 (in_c 1 rfl) rfl
          · skip
            refine g_iconst 0 17 (gd rfl) rfl rfl ?_
            exact g_ireturn (gd rfl) rfl rfl (hP _ _ ⟨(sF s 109 0 (Int32.ofInt 1)), hI10x3x18, (fr_sF rfl fr_rf), (Int32.ofInt 0), rfl, rfl, in_w (-1) 160 (in_c 0 rfl) rfl⟩)
    · skip
      have i7x10 := z_le (-1) 0 c7x10 i7x9 rfl
      have c7x10a := lc_le e7x9 c7x10
      have i7x10a := lr_le1 0 3 c7x10a i7x3a (l_c 3 rfl) rfl
      have i7x10b := l_b e2 i7x10a
      refine g_iconst 1 14 (gd rfl) rfl rfl ?_
      refine g_goto 18 (gd rfl) rfl ?_
      refine g_ireturn (gd rfl) rfl (nb01 (in_w 0 1 (in_c 1 rfl) rfl)) (hp7 _ _ ?_)
      show GG _ _ _ _ _ _ _ _ [.int (Int32.ofInt 1), .ref (A 109)] _ _ _
      refine g_callv (X := _) (As := [.int (Int32.ofInt 1)]) (r := []) (b := A 109) (q := 109) 13 (gd rfl) rfl rfl rfl rfl rfl (ww_o rfl) (Nat.le_of_ble_eq_true rfl) (mc := 0) (ms := 0) (Nat.zero_le _) (Nat.zero_le _) (P := fun v u => _) ?_ (fun e u h => h) (fun v u h => h)
      intro po10 xx10 hp10 hx10
      refine g_enter2 (k := 271) (N := 300) (by omega) rfl (Nat.le_of_ble_eq_true rfl) ?_
      refine g_aload_n 1 (gd rfl) rfl rfl ?_
      refine g_iload_n 2 (gd rfl) rfl rfl ?_
      refine g_iconst 1 3 (gd rfl) rfl rfl ?_
      refine g_callv (X := _) (As := [.int (Int32.ofInt 1), .int (Int32.ofInt 1)]) (r := []) (b := A 109) (q := 109) 6 (gd rfl) rfl rfl rfl rfl rfl (ww_o rfl) (Nat.le_of_ble_eq_true rfl) (mc := 0) (ms := 0) (Nat.zero_le _) (Nat.zero_le _) (P := fun v u => _) ?_ (fun e u h => h) (fun v u h => h)
      intro po10x3 xx10x3 hp10x3 hx10x3
      refine g_enter2 (k := 270) (N := 300) (by omega) rfl (Nat.le_of_ble_eq_true rfl) ?_
      refine g_aload_n 1 (gd rfl) rfl rfl ?_
      refine g_iload_n 2 (gd rfl) rfl rfl ?_
      refine g_if_ne 5 9 (gd rfl) rfl rfl (fun c10x3x2 => ?_) (fun c10x3x2 => ?_)
      · skip
        refine g_iload_n 10 (gd rfl) rfl rfl ?_
        refine g_if_ne 13 17 (gd rfl) rfl rfl (fun c10x3x10 => ?_) (fun c10x3x10 => ?_)
        · skip
          refine g_iconst 0 18 (gd rfl) rfl rfl ?_
          refine g_putI 21 (gd rfl) rfl rfl rfl rfl ?_
          have hI10x3x18 := inv_sF (q := 109) (j := 0) hI rfl (in_w 0 2 (in_c 0 rfl) rfl)
          refine g_aload_n 22 (gd rfl) rfl rfl ?_
          refine g_getI 25 (gd rfl) rfl rfl rfl (fun z10x3x22 e10x3x22 => ?_)
          have q10x3x22 : (Int32.ofInt 0) = z10x3x22 := (sF_get).trans e10x3x22.symm
          subst q10x3x22
          refine g_if_le 28 32 (gd rfl) rfl rfl (fun c10x3x25 => ?_) (fun c10x3x25 => ?_)
          · skip
            refine g_iconst 0 33 (gd rfl) rfl rfl ?_
            refine g_ireturn (gd rfl) rfl (nb01 (in_w 0 1 (in_c 0 rfl) rfl)) (hp10x3 _ _ ?_)
            show GG _ _ _ _ _ _ _ _ [.int (Int32.ofInt 0)] _ _ _
            refine g_ireturn (gd rfl) rfl (nb01 (in_w 0 1 (in_c 0 rfl) rfl)) (hp10 _ _ ?_)
            show GG _ _ _ _ _ _ _ _ [.int (Int32.ofInt 0)] _ _ _
            refine g_if_eq 16 18 (gd rfl) rfl rfl (fun c13 => ?_) (fun c13 => ?_)
            · skip
              refine g_iconst 0 19 (gd rfl) rfl rfl ?_
              refine g_istore_n 20 (gd rfl) rfl (Nat.le_of_ble_eq_true rfl) ?_
              refine g_iconst 0 21 (gd rfl) rfl rfl ?_
              refine g_istore_n 22 (gd rfl) rfl (Nat.le_of_ble_eq_true rfl) ?_
              refine g_iconst (-1) 23 (gd rfl) rfl rfl ?_
              refine g_istore 25 (gd rfl) rfl (Nat.le_of_ble_eq_true rfl) ?_
              refine g_iconst 0 26 (gd rfl) rfl rfl ?_
              refine g_istore 28 (gd rfl) rfl (Nat.le_of_ble_eq_true rfl) ?_
              have l28 := rl_in 0 (in_c 0 rfl) (in_c 0 rfl) rfl
              have l28a := rl_in 0 (in_c 0 rfl) (in_c 0 rfl) rfl
              exact gg_w (by omega) (gg_f (gf_cons rfl (gf_cons rfl (gf_cons rfl (gf_cons rfl (gf_cons rfl (gf_cons rfl gf_nil)))))) (ct28 161 (sF s 109 0 (Int32.ofInt 0)) (Int32.ofInt 0) (Int32.ofInt 0) (Int32.ofInt (-1)) (Int32.ofInt 0) hI10x3x18 (fr_sF rfl fr_rf) (in_w 0 3 i7x10b rfl) (rl_w 0 160 l28 (in_c 0 rfl) (in_w 0 160 (in_c 0 rfl) rfl) rfl) (rl_w 0 160 l28a (in_c 0 rfl) (in_w 0 160 (in_c 0 rfl) rfl) rfl) (in_w (-1) 159 (in_c (-1) rfl) rfl) (in_w 0 160 (in_c 0 rfl) rfl) l28 l28a (m_in 161 (in_w 0 160 (in_c 0 rfl) rfl) rfl)))
            · skip
              exact zn_ne c13 (in_c 0 rfl) rfl
          · skip
            exact zn_gt c10x3x25 (in_c 0 rfl) rfl
        · skip
          exact zn_eq c10x3x10 (in_c 1 rfl) rfl
      · skip
        exact zn_eq c10x3x2 (in_c 1 rfl) rfl

def fm_290 : FM := ([], [], [(109, 0)], [])
/-- GraphHouseModel.told -/
theorem k_290 {Z : AmZ} {A : Nat → Nat} {s : GS} {ex : va_W} {d : Nat} {X : AmX} {x1 : Int32} {x2 : Int32} (hd : 4 ≤ d) (hI : Inv s)  : GC Z d 290 [.ref (A 109), .int x1, .int x2] (WW Z A s ++ ex) 0 0 (fun v u => ∃ t : GS, Inv t ∧ Fr fm_290 s t ∧ ∃ z : Int64, v = some (.long z) ∧ u = WW Z A t ++ ex) X := by
  intro post xp hP hX
  obtain ⟨u_109_19, e_109_19⟩ : ∃ w, w = s.2.2.1 109 19 := ⟨_, rfl⟩
  have ro_109_19 := inv_F hI 0 160 rfl e_109_19
  refine g_enter2 (k := 290) (N := 900) (by omega) rfl (Nat.le_of_ble_eq_true rfl) ?_
  refine g_aload_n 1 (gd rfl) rfl rfl ?_
  refine g_iload_n 2 (gd rfl) rfl rfl ?_
  refine g_i2l 3 (gd rfl) rfl (fun z2 e2 => ?_)
  have i2 := l_i e2 (i_rng x1)
  refine g_lconst 0 4 (gd rfl) rfl rfl ?_
  refine g_ldc2_w 159 7 (gd rfl) rfl rfl ?_
  refine g_calls (As := [.long z2, .long (Int64.ofInt 0), .long (Int64.ofInt 159)]) (r := [.ref (A 109)]) 10 (gd rfl) rfl rfl rfl rfl rfl (Nat.le_of_ble_eq_true rfl) (mc := 0) (ms := 0) (Nat.zero_le _) (Nat.zero_le _) (P := fun v u => _) ?_ (fun v u h => h)
  intro po7 xx7 hp7 hx7
  refine g_enter2 (k := 269) (N := 300) (by omega) rfl (Nat.le_of_ble_eq_true rfl) ?_
  refine g_lload_n 1 (gd rfl) rfl rfl ?_
  refine g_lload_n 2 (gd rfl) rfl rfl ?_
  refine g_lcmp 3 (gd rfl) rfl (fun z7x2 e7x2 => ?_)
  have i7x2 := lc_in e7x2
  refine g_if_lt 6 17 (gd rfl) rfl rfl (fun c7x3 => ?_) (fun c7x3 => ?_)
  · skip
    have i7x3 := z_lt (-1) (-1) c7x3 i7x2 rfl
    have c7x3a := lc_lt e7x2 c7x3
    have i7x3a := lr_lt1 (-2147483648) (-1) c7x3a i2 (l_c 0 rfl) rfl
    have i7x3b := l_b e2 i7x3a
    refine g_iconst 0 18 (gd rfl) rfl rfl ?_
    refine g_ireturn (gd rfl) rfl (nb01 (in_w 0 1 (in_c 0 rfl) rfl)) (hp7 _ _ ?_)
    show GG _ _ _ _ _ _ _ _ [.int (Int32.ofInt 0), .ref (A 109)] _ _ _
    refine g_if_eq 13 29 (gd rfl) rfl rfl (fun c10 => ?_) (fun c10 => ?_)
    · skip
      refine g_iconst 0 30 (gd rfl) rfl rfl ?_
      refine g_callv (X := _) (As := [.int (Int32.ofInt 0)]) (r := []) (b := A 109) (q := 109) 33 (gd rfl) rfl rfl rfl rfl rfl (ww_o rfl) (Nat.le_of_ble_eq_true rfl) (mc := 0) (ms := 0) (Nat.zero_le _) (Nat.zero_le _) (P := fun v u => _) ?_ (fun e u h => h) (fun v u h => h)
      intro po30 xx30 hp30 hx30
      refine g_enter2 (k := 271) (N := 300) (by omega) rfl (Nat.le_of_ble_eq_true rfl) ?_
      refine g_aload_n 1 (gd rfl) rfl rfl ?_
      refine g_iload_n 2 (gd rfl) rfl rfl ?_
      refine g_iconst 1 3 (gd rfl) rfl rfl ?_
      refine g_callv (X := _) (As := [.int (Int32.ofInt 0), .int (Int32.ofInt 1)]) (r := []) (b := A 109) (q := 109) 6 (gd rfl) rfl rfl rfl rfl rfl (ww_o rfl) (Nat.le_of_ble_eq_true rfl) (mc := 0) (ms := 0) (Nat.zero_le _) (Nat.zero_le _) (P := fun v u => _) ?_ (fun e u h => h) (fun v u h => h)
      intro po30x3 xx30x3 hp30x3 hx30x3
      refine g_enter2 (k := 270) (N := 300) (by omega) rfl (Nat.le_of_ble_eq_true rfl) ?_
      refine g_aload_n 1 (gd rfl) rfl rfl ?_
      refine g_iload_n 2 (gd rfl) rfl rfl ?_
      refine g_if_ne 5 9 (gd rfl) rfl rfl (fun c30x3x2 => ?_) (fun c30x3x2 => ?_)
      · skip
        exact zn_ne c30x3x2 (in_c 0 rfl) rfl
      · skip
        refine g_iconst 1 6 (gd rfl) rfl rfl ?_
        refine g_goto 18 (gd rfl) rfl ?_
        refine g_putI 21 (gd rfl) rfl rfl rfl rfl ?_
        have hI30x3x18 := inv_sF (q := 109) (j := 0) hI rfl (in_w 0 2 (in_c 1 rfl) rfl)
        refine g_aload_n 22 (gd rfl) rfl rfl ?_
        refine g_getI 25 (gd rfl) rfl rfl rfl (fun z30x3x22 e30x3x22 => ?_)
        have q30x3x22 : (Int32.ofInt 1) = z30x3x22 := (sF_get).trans e30x3x22.symm
        subst q30x3x22
        refine g_if_le 28 32 (gd rfl) rfl rfl (fun c30x3x25 => ?_) (fun c30x3x25 => ?_)
        · skip
          exact zn_le c30x3x25 (in_c 1 rfl) rfl
        · skip
          refine g_iconst 1 29 (gd rfl) rfl rfl ?_
          refine g_goto 33 (gd rfl) rfl ?_
          refine g_ireturn (gd rfl) rfl (nb01 (in_w 0 1 (in_c 1 rfl) rfl)) (hp30x3 _ _ ?_)
          show GG _ _ _ _ _ _ _ _ [.int (Int32.ofInt 1)] _ _ _
          refine g_ireturn (gd rfl) rfl (nb01 (in_w 0 1 (in_c 1 rfl) rfl)) (hp30 _ _ ?_)
          show GG _ _ _ _ _ _ _ _ [.int (Int32.ofInt 1)] _ _ _
          refine g_if_eq 36 38 (gd rfl) rfl rfl (fun c33 => ?_) (fun c33 => ?_)
          · skip
            exact zn_eq c33 (in_c 1 rfl) rfl
          · skip
            refine g_lconst 0 37 (gd rfl) rfl rfl ?_
            exact g_lreturn (gd rfl) rfl (hP _ _ ⟨(sF s 109 0 (Int32.ofInt 1)), hI30x3x18, (fr_sF rfl fr_rf), (Int64.ofInt 0), rfl, rfl⟩)
    · skip
      exact zn_ne c10 (in_c 0 rfl) rfl
  · skip
    have i7x3 := z_ge 0 1 c7x3 i7x2 rfl
    have c7x3a := lc_ge e7x2 c7x3
    have i7x3a := lr_le2 0 2147483647 c7x3a (l_c 0 rfl) i2 rfl
    have i7x3b := l_b e2 i7x3a
    refine g_lload_n 7 (gd rfl) rfl rfl ?_
    refine g_lload 9 (gd rfl) rfl rfl ?_
    refine g_lcmp 10 (gd rfl) rfl (fun z7x9 e7x9 => ?_)
    have i7x9 := lc_in e7x9
    refine g_if_gt 13 17 (gd rfl) rfl rfl (fun c7x10 => ?_) (fun c7x10 => ?_)
    · skip
      have i7x10 := z_gt 1 1 c7x10 i7x9 rfl
      have c7x10a := lc_gt e7x9 c7x10
      have i7x10a := lr_lt2 160 2147483647 c7x10a (l_c 159 rfl) i7x3a rfl
      have i7x10b := l_b e2 i7x10a
      refine g_iconst 0 18 (gd rfl) rfl rfl ?_
      refine g_ireturn (gd rfl) rfl (nb01 (in_w 0 1 (in_c 0 rfl) rfl)) (hp7 _ _ ?_)
      show GG _ _ _ _ _ _ _ _ [.int (Int32.ofInt 0), .ref (A 109)] _ _ _
      refine g_if_eq 13 29 (gd rfl) rfl rfl (fun c10 => ?_) (fun c10 => ?_)
      · skip
        refine g_iconst 0 30 (gd rfl) rfl rfl ?_
        refine g_callv (X := _) (As := [.int (Int32.ofInt 0)]) (r := []) (b := A 109) (q := 109) 33 (gd rfl) rfl rfl rfl rfl rfl (ww_o rfl) (Nat.le_of_ble_eq_true rfl) (mc := 0) (ms := 0) (Nat.zero_le _) (Nat.zero_le _) (P := fun v u => _) ?_ (fun e u h => h) (fun v u h => h)
        intro po30 xx30 hp30 hx30
        refine g_enter2 (k := 271) (N := 300) (by omega) rfl (Nat.le_of_ble_eq_true rfl) ?_
        refine g_aload_n 1 (gd rfl) rfl rfl ?_
        refine g_iload_n 2 (gd rfl) rfl rfl ?_
        refine g_iconst 1 3 (gd rfl) rfl rfl ?_
        refine g_callv (X := _) (As := [.int (Int32.ofInt 0), .int (Int32.ofInt 1)]) (r := []) (b := A 109) (q := 109) 6 (gd rfl) rfl rfl rfl rfl rfl (ww_o rfl) (Nat.le_of_ble_eq_true rfl) (mc := 0) (ms := 0) (Nat.zero_le _) (Nat.zero_le _) (P := fun v u => _) ?_ (fun e u h => h) (fun v u h => h)
        intro po30x3 xx30x3 hp30x3 hx30x3
        refine g_enter2 (k := 270) (N := 300) (by omega) rfl (Nat.le_of_ble_eq_true rfl) ?_
        refine g_aload_n 1 (gd rfl) rfl rfl ?_
        refine g_iload_n 2 (gd rfl) rfl rfl ?_
        refine g_if_ne 5 9 (gd rfl) rfl rfl (fun c30x3x2 => ?_) (fun c30x3x2 => ?_)
        · skip
          exact zn_ne c30x3x2 (in_c 0 rfl) rfl
        · skip
          refine g_iconst 1 6 (gd rfl) rfl rfl ?_
          refine g_goto 18 (gd rfl) rfl ?_
          refine g_putI 21 (gd rfl) rfl rfl rfl rfl ?_
          have hI30x3x18 := inv_sF (q := 109) (j := 0) hI rfl (in_w 0 2 (in_c 1 rfl) rfl)
          refine g_aload_n 22 (gd rfl) rfl rfl ?_
          refine g_getI 25 (gd rfl) rfl rfl rfl (fun z30x3x22 e30x3x22 => ?_)
          have q30x3x22 : (Int32.ofInt 1) = z30x3x22 := (sF_get).trans e30x3x22.symm
          subst q30x3x22
          refine g_if_le 28 32 (gd rfl) rfl rfl (fun c30x3x25 => ?_) (fun c30x3x25 => ?_)
          · skip
            exact zn_le c30x3x25 (in_c 1 rfl) rfl
          · skip
            refine g_iconst 1 29 (gd rfl) rfl rfl ?_
            refine g_goto 33 (gd rfl) rfl ?_
            refine g_ireturn (gd rfl) rfl (nb01 (in_w 0 1 (in_c 1 rfl) rfl)) (hp30x3 _ _ ?_)
            show GG _ _ _ _ _ _ _ _ [.int (Int32.ofInt 1)] _ _ _
            refine g_ireturn (gd rfl) rfl (nb01 (in_w 0 1 (in_c 1 rfl) rfl)) (hp30 _ _ ?_)
            show GG _ _ _ _ _ _ _ _ [.int (Int32.ofInt 1)] _ _ _
            refine g_if_eq 36 38 (gd rfl) rfl rfl (fun c33 => ?_) (fun c33 => ?_)
            · skip
              exact zn_eq c33 (in_c 1 rfl) rfl
            · skip
              refine g_lconst 0 37 (gd rfl) rfl rfl ?_
              exact g_lreturn (gd rfl) rfl (hP _ _ ⟨(sF s 109 0 (Int32.ofInt 1)), hI30x3x18, (fr_sF rfl fr_rf), (Int64.ofInt 0), rfl, rfl⟩)
      · skip
        exact zn_ne c10 (in_c 0 rfl) rfl
    · skip
      have i7x10 := z_le (-1) 0 c7x10 i7x9 rfl
      have c7x10a := lc_le e7x9 c7x10
      have i7x10a := lr_le1 0 159 c7x10a i7x3a (l_c 159 rfl) rfl
      have i7x10b := l_b e2 i7x10a
      refine g_iconst 1 14 (gd rfl) rfl rfl ?_
      refine g_goto 18 (gd rfl) rfl ?_
      refine g_ireturn (gd rfl) rfl (nb01 (in_w 0 1 (in_c 1 rfl) rfl)) (hp7 _ _ ?_)
      show GG _ _ _ _ _ _ _ _ [.int (Int32.ofInt 1), .ref (A 109)] _ _ _
      refine g_if_eq 13 29 (gd rfl) rfl rfl (fun c10 => ?_) (fun c10 => ?_)
      · skip
        exact zn_eq c10 (in_c 1 rfl) rfl
      · skip
        refine g_iload_n 14 (gd rfl) rfl rfl ?_
        refine g_i2l 15 (gd rfl) rfl (fun z14 e14 => ?_)
        have i14 := l_i e14 (i_rng x2)
        refine g_lconst 0 16 (gd rfl) rfl rfl ?_
        refine g_ldc2_w 4 19 (gd rfl) rfl rfl ?_
        refine g_calls (As := [.long z14, .long (Int64.ofInt 0), .long (Int64.ofInt 4)]) (r := [.ref (A 109)]) 22 (gd rfl) rfl rfl rfl rfl rfl (Nat.le_of_ble_eq_true rfl) (mc := 0) (ms := 0) (Nat.zero_le _) (Nat.zero_le _) (P := fun v u => _) ?_ (fun v u h => h)
        intro po19 xx19 hp19 hx19
        refine g_enter2 (k := 269) (N := 300) (by omega) rfl (Nat.le_of_ble_eq_true rfl) ?_
        refine g_lload_n 1 (gd rfl) rfl rfl ?_
        refine g_lload_n 2 (gd rfl) rfl rfl ?_
        refine g_lcmp 3 (gd rfl) rfl (fun z19x2 e19x2 => ?_)
        have i19x2 := lc_in e19x2
        refine g_if_lt 6 17 (gd rfl) rfl rfl (fun c19x3 => ?_) (fun c19x3 => ?_)
        · skip
          have i19x3 := z_lt (-1) (-1) c19x3 i19x2 rfl
          have c19x3a := lc_lt e19x2 c19x3
          have i19x3a := lr_lt1 (-2147483648) (-1) c19x3a i14 (l_c 0 rfl) rfl
          have i19x3b := l_b e14 i19x3a
          refine g_iconst 0 18 (gd rfl) rfl rfl ?_
          refine g_ireturn (gd rfl) rfl (nb01 (in_w 0 1 (in_c 0 rfl) rfl)) (hp19 _ _ ?_)
          show GG _ _ _ _ _ _ _ _ [.int (Int32.ofInt 0), .ref (A 109)] _ _ _
          refine g_if_eq 25 29 (gd rfl) rfl rfl (fun c22 => ?_) (fun c22 => ?_)
          · skip
            refine g_iconst 0 30 (gd rfl) rfl rfl ?_
            refine g_callv (X := _) (As := [.int (Int32.ofInt 0)]) (r := []) (b := A 109) (q := 109) 33 (gd rfl) rfl rfl rfl rfl rfl (ww_o rfl) (Nat.le_of_ble_eq_true rfl) (mc := 0) (ms := 0) (Nat.zero_le _) (Nat.zero_le _) (P := fun v u => _) ?_ (fun e u h => h) (fun v u h => h)
            intro po30 xx30 hp30 hx30
            refine g_enter2 (k := 271) (N := 300) (by omega) rfl (Nat.le_of_ble_eq_true rfl) ?_
            refine g_aload_n 1 (gd rfl) rfl rfl ?_
            refine g_iload_n 2 (gd rfl) rfl rfl ?_
            refine g_iconst 1 3 (gd rfl) rfl rfl ?_
            refine g_callv (X := _) (As := [.int (Int32.ofInt 0), .int (Int32.ofInt 1)]) (r := []) (b := A 109) (q := 109) 6 (gd rfl) rfl rfl rfl rfl rfl (ww_o rfl) (Nat.le_of_ble_eq_true rfl) (mc := 0) (ms := 0) (Nat.zero_le _) (Nat.zero_le _) (P := fun v u => _) ?_ (fun e u h => h) (fun v u h => h)
            intro po30x3 xx30x3 hp30x3 hx30x3
            refine g_enter2 (k := 270) (N := 300) (by omega) rfl (Nat.le_of_ble_eq_true rfl) ?_
            refine g_aload_n 1 (gd rfl) rfl rfl ?_
            refine g_iload_n 2 (gd rfl) rfl rfl ?_
            refine g_if_ne 5 9 (gd rfl) rfl rfl (fun c30x3x2 => ?_) (fun c30x3x2 => ?_)
            · skip
              exact zn_ne c30x3x2 (in_c 0 rfl) rfl
            · skip
              refine g_iconst 1 6 (gd rfl) rfl rfl ?_
              refine g_goto 18 (gd rfl) rfl ?_
              refine g_putI 21 (gd rfl) rfl rfl rfl rfl ?_
              have hI30x3x18 := inv_sF (q := 109) (j := 0) hI rfl (in_w 0 2 (in_c 1 rfl) rfl)
              refine g_aload_n 22 (gd rfl) rfl rfl ?_
              refine g_getI 25 (gd rfl) rfl rfl rfl (fun z30x3x22 e30x3x22 => ?_)
              have q30x3x22 : (Int32.ofInt 1) = z30x3x22 := (sF_get).trans e30x3x22.symm
              subst q30x3x22
              refine g_if_le 28 32 (gd rfl) rfl rfl (fun c30x3x25 => ?_) (fun c30x3x25 => ?_)
              · skip
                exact zn_le c30x3x25 (in_c 1 rfl) rfl
              · skip
                refine g_iconst 1 29 (gd rfl) rfl rfl ?_
                refine g_goto 33 (gd rfl) rfl ?_
                refine g_ireturn (gd rfl) rfl (nb01 (in_w 0 1 (in_c 1 rfl) rfl)) (hp30x3 _ _ ?_)
                show GG _ _ _ _ _ _ _ _ [.int (Int32.ofInt 1)] _ _ _
                refine g_ireturn (gd rfl) rfl (nb01 (in_w 0 1 (in_c 1 rfl) rfl)) (hp30 _ _ ?_)
                show GG _ _ _ _ _ _ _ _ [.int (Int32.ofInt 1)] _ _ _
                refine g_if_eq 36 38 (gd rfl) rfl rfl (fun c33 => ?_) (fun c33 => ?_)
                · skip
                  exact zn_eq c33 (in_c 1 rfl) rfl
                · skip
                  refine g_lconst 0 37 (gd rfl) rfl rfl ?_
                  exact g_lreturn (gd rfl) rfl (hP _ _ ⟨(sF s 109 0 (Int32.ofInt 1)), hI30x3x18, (fr_sF rfl fr_rf), (Int64.ofInt 0), rfl, rfl⟩)
          · skip
            exact zn_ne c22 (in_c 0 rfl) rfl
        · skip
          have i19x3 := z_ge 0 1 c19x3 i19x2 rfl
          have c19x3a := lc_ge e19x2 c19x3
          have i19x3a := lr_le2 0 2147483647 c19x3a (l_c 0 rfl) i14 rfl
          have i19x3b := l_b e14 i19x3a
          refine g_lload_n 7 (gd rfl) rfl rfl ?_
          refine g_lload 9 (gd rfl) rfl rfl ?_
          refine g_lcmp 10 (gd rfl) rfl (fun z19x9 e19x9 => ?_)
          have i19x9 := lc_in e19x9
          refine g_if_gt 13 17 (gd rfl) rfl rfl (fun c19x10 => ?_) (fun c19x10 => ?_)
          · skip
            have i19x10 := z_gt 1 1 c19x10 i19x9 rfl
            have c19x10a := lc_gt e19x9 c19x10
            have i19x10a := lr_lt2 5 2147483647 c19x10a (l_c 4 rfl) i19x3a rfl
            have i19x10b := l_b e14 i19x10a
            refine g_iconst 0 18 (gd rfl) rfl rfl ?_
            refine g_ireturn (gd rfl) rfl (nb01 (in_w 0 1 (in_c 0 rfl) rfl)) (hp19 _ _ ?_)
            show GG _ _ _ _ _ _ _ _ [.int (Int32.ofInt 0), .ref (A 109)] _ _ _
            refine g_if_eq 25 29 (gd rfl) rfl rfl (fun c22 => ?_) (fun c22 => ?_)
            · skip
              refine g_iconst 0 30 (gd rfl) rfl rfl ?_
              refine g_callv (X := _) (As := [.int (Int32.ofInt 0)]) (r := []) (b := A 109) (q := 109) 33 (gd rfl) rfl rfl rfl rfl rfl (ww_o rfl) (Nat.le_of_ble_eq_true rfl) (mc := 0) (ms := 0) (Nat.zero_le _) (Nat.zero_le _) (P := fun v u => _) ?_ (fun e u h => h) (fun v u h => h)
              intro po30 xx30 hp30 hx30
              refine g_enter2 (k := 271) (N := 300) (by omega) rfl (Nat.le_of_ble_eq_true rfl) ?_
              refine g_aload_n 1 (gd rfl) rfl rfl ?_
              refine g_iload_n 2 (gd rfl) rfl rfl ?_
              refine g_iconst 1 3 (gd rfl) rfl rfl ?_
              refine g_callv (X := _) (As := [.int (Int32.ofInt 0), .int (Int32.ofInt 1)]) (r := []) (b := A 109) (q := 109) 6 (gd rfl) rfl rfl rfl rfl rfl (ww_o rfl) (Nat.le_of_ble_eq_true rfl) (mc := 0) (ms := 0) (Nat.zero_le _) (Nat.zero_le _) (P := fun v u => _) ?_ (fun e u h => h) (fun v u h => h)
              intro po30x3 xx30x3 hp30x3 hx30x3
              refine g_enter2 (k := 270) (N := 300) (by omega) rfl (Nat.le_of_ble_eq_true rfl) ?_
              refine g_aload_n 1 (gd rfl) rfl rfl ?_
              refine g_iload_n 2 (gd rfl) rfl rfl ?_
              refine g_if_ne 5 9 (gd rfl) rfl rfl (fun c30x3x2 => ?_) (fun c30x3x2 => ?_)
              · skip
                exact zn_ne c30x3x2 (in_c 0 rfl) rfl
              · skip
                refine g_iconst 1 6 (gd rfl) rfl rfl ?_
                refine g_goto 18 (gd rfl) rfl ?_
                refine g_putI 21 (gd rfl) rfl rfl rfl rfl ?_
                have hI30x3x18 := inv_sF (q := 109) (j := 0) hI rfl (in_w 0 2 (in_c 1 rfl) rfl)
                refine g_aload_n 22 (gd rfl) rfl rfl ?_
                refine g_getI 25 (gd rfl) rfl rfl rfl (fun z30x3x22 e30x3x22 => ?_)
                have q30x3x22 : (Int32.ofInt 1) = z30x3x22 := (sF_get).trans e30x3x22.symm
                subst q30x3x22
                refine g_if_le 28 32 (gd rfl) rfl rfl (fun c30x3x25 => ?_) (fun c30x3x25 => ?_)
                · skip
                  exact zn_le c30x3x25 (in_c 1 rfl) rfl
                · skip
                  refine g_iconst 1 29 (gd rfl) rfl rfl ?_
                  refine g_goto 33 (gd rfl) rfl ?_
                  refine g_ireturn (gd rfl) rfl (nb01 (in_w 0 1 (in_c 1 rfl) rfl)) (hp30x3 _ _ ?_)
                  show GG _ _ _ _ _ _ _ _ [.int (Int32.ofInt 1)] _ _ _
                  refine g_ireturn (gd rfl) rfl (nb01 (in_w 0 1 (in_c 1 rfl) rfl)) (hp30 _ _ ?_)
                  show GG _ _ _ _ _ _ _ _ [.int (Int32.ofInt 1)] _ _ _
                  refine g_if_eq 36 38 (gd rfl) rfl rfl (fun c33 => ?_) (fun c33 => ?_)
                  · skip
                    exact zn_eq c33 (in_c 1 rfl) rfl
                  · skip
                    refine g_lconst 0 37 (gd rfl) rfl rfl ?_
                    exact g_lreturn (gd rfl) rfl (hP _ _ ⟨(sF s 109 0 (Int32.ofInt 1)), hI30x3x18, (fr_sF rfl fr_rf), (Int64.ofInt 0), rfl, rfl⟩)
            · skip
              exact zn_ne c22 (in_c 0 rfl) rfl
          · skip
            have i19x10 := z_le (-1) 0 c19x10 i19x9 rfl
            have c19x10a := lc_le e19x9 c19x10
            have i19x10a := lr_le1 0 4 c19x10a i19x3a (l_c 4 rfl) rfl
            have i19x10b := l_b e14 i19x10a
            refine g_iconst 1 14 (gd rfl) rfl rfl ?_
            refine g_goto 18 (gd rfl) rfl ?_
            refine g_ireturn (gd rfl) rfl (nb01 (in_w 0 1 (in_c 1 rfl) rfl)) (hp19 _ _ ?_)
            show GG _ _ _ _ _ _ _ _ [.int (Int32.ofInt 1), .ref (A 109)] _ _ _
            refine g_if_eq 25 29 (gd rfl) rfl rfl (fun c22 => ?_) (fun c22 => ?_)
            · skip
              exact zn_eq c22 (in_c 1 rfl) rfl
            · skip
              refine g_iconst 1 26 (gd rfl) rfl rfl ?_
              refine g_goto 30 (gd rfl) rfl ?_
              refine g_callv (X := _) (As := [.int (Int32.ofInt 1)]) (r := []) (b := A 109) (q := 109) 33 (gd rfl) rfl rfl rfl rfl rfl (ww_o rfl) (Nat.le_of_ble_eq_true rfl) (mc := 0) (ms := 0) (Nat.zero_le _) (Nat.zero_le _) (P := fun v u => _) ?_ (fun e u h => h) (fun v u h => h)
              intro po30 xx30 hp30 hx30
              refine g_enter2 (k := 271) (N := 300) (by omega) rfl (Nat.le_of_ble_eq_true rfl) ?_
              refine g_aload_n 1 (gd rfl) rfl rfl ?_
              refine g_iload_n 2 (gd rfl) rfl rfl ?_
              refine g_iconst 1 3 (gd rfl) rfl rfl ?_
              refine g_callv (X := _) (As := [.int (Int32.ofInt 1), .int (Int32.ofInt 1)]) (r := []) (b := A 109) (q := 109) 6 (gd rfl) rfl rfl rfl rfl rfl (ww_o rfl) (Nat.le_of_ble_eq_true rfl) (mc := 0) (ms := 0) (Nat.zero_le _) (Nat.zero_le _) (P := fun v u => _) ?_ (fun e u h => h) (fun v u h => h)
              intro po30x3 xx30x3 hp30x3 hx30x3
              refine g_enter2 (k := 270) (N := 300) (by omega) rfl (Nat.le_of_ble_eq_true rfl) ?_
              refine g_aload_n 1 (gd rfl) rfl rfl ?_
              refine g_iload_n 2 (gd rfl) rfl rfl ?_
              refine g_if_ne 5 9 (gd rfl) rfl rfl (fun c30x3x2 => ?_) (fun c30x3x2 => ?_)
              · skip
                refine g_iload_n 10 (gd rfl) rfl rfl ?_
                refine g_if_ne 13 17 (gd rfl) rfl rfl (fun c30x3x10 => ?_) (fun c30x3x10 => ?_)
                · skip
                  refine g_iconst 0 18 (gd rfl) rfl rfl ?_
                  refine g_putI 21 (gd rfl) rfl rfl rfl rfl ?_
                  have hI30x3x18 := inv_sF (q := 109) (j := 0) hI rfl (in_w 0 2 (in_c 0 rfl) rfl)
                  refine g_aload_n 22 (gd rfl) rfl rfl ?_
                  refine g_getI 25 (gd rfl) rfl rfl rfl (fun z30x3x22 e30x3x22 => ?_)
                  have q30x3x22 : (Int32.ofInt 0) = z30x3x22 := (sF_get).trans e30x3x22.symm
                  subst q30x3x22
                  refine g_if_le 28 32 (gd rfl) rfl rfl (fun c30x3x25 => ?_) (fun c30x3x25 => ?_)
                  · skip
                    refine g_iconst 0 33 (gd rfl) rfl rfl ?_
                    refine g_ireturn (gd rfl) rfl (nb01 (in_w 0 1 (in_c 0 rfl) rfl)) (hp30x3 _ _ ?_)
                    show GG _ _ _ _ _ _ _ _ [.int (Int32.ofInt 0)] _ _ _
                    refine g_ireturn (gd rfl) rfl (nb01 (in_w 0 1 (in_c 0 rfl) rfl)) (hp30 _ _ ?_)
                    show GG _ _ _ _ _ _ _ _ [.int (Int32.ofInt 0)] _ _ _
                    refine g_if_eq 36 38 (gd rfl) rfl rfl (fun c33 => ?_) (fun c33 => ?_)
                    · skip
                      refine g_aload_n 39 (gd rfl) rfl rfl ?_
                      refine g_getI 42 (gd rfl) rfl rfl rfl (fun z39 e39 => ?_)
                      have q39 : u_109_19 = z39 := (sF_ne rfl (e_109_19)).trans e39.symm
                      subst q39
                      refine g_iload_n 43 (gd rfl) rfl rfl ?_
                      refine g_iadd 44 (gd rfl) rfl (fun z43 e43 => ?_)
                      have i43 := in_add 0 319 e43 ro_109_19 i7x10b rfl rfl
                      refine g_istore_n 45 (gd rfl) rfl (Nat.le_of_ble_eq_true rfl) ?_
                      refine g_aload_n 46 (gd rfl) rfl rfl ?_
                      refine g_getA (q2 := 112) 49 (gd rfl) rfl rfl rfl rfl ?_
                      refine g_iload_n 50 (gd rfl) rfl rfl ?_
                      refine g_baload 51 (gd rfl) rfl (n := 480) rfl (in_ix i43 rfl) (fun z50 e50 => ?_)
                      have i50 := inv_I hI30x3x18 (n := 480) (t := 3) 0 1 rfl (in_ix i43 rfl) rfl e50
                      refine g_if_ne 54 58 (gd rfl) rfl rfl (fun c51 => ?_) (fun c51 => ?_)
                      · skip
                        have i51 := z_ne 1 1 c51 i50 rfl
                        refine g_iload_n 59 (gd rfl) rfl rfl ?_
                        refine g_if_ne 62 72 (gd rfl) rfl rfl (fun c59 => ?_) (fun c59 => ?_)
                        · skip
                          have i59 := z_ne 1 4 c59 i19x10b rfl
                          refine g_iload_n 73 (gd rfl) rfl rfl ?_
                          refine g_iconst 1 74 (gd rfl) rfl rfl ?_
                          refine g_cmp_ne 77 87 (gd rfl) rfl rfl (fun c74 => ?_) (fun c74 => ?_)
                          · skip
                            have i74 := r_ne1 2 4 c74 i59 (in_c 1 rfl) rfl
                            refine g_iload_n 88 (gd rfl) rfl rfl ?_
                            refine g_iconst 2 89 (gd rfl) rfl rfl ?_
                            refine g_cmp_ne 92 102 (gd rfl) rfl rfl (fun c89 => ?_) (fun c89 => ?_)
                            · skip
                              have i89 := r_ne1 3 4 c89 i74 (in_c 2 rfl) rfl
                              refine g_iload_n 103 (gd rfl) rfl rfl ?_
                              refine g_iconst 3 104 (gd rfl) rfl rfl ?_
                              refine g_cmp_ne 107 117 (gd rfl) rfl rfl (fun c104 => ?_) (fun c104 => ?_)
                              · skip
                                have i104 := r_ne1 4 4 c104 i89 (in_c 3 rfl) rfl
                                refine g_aload_n 118 (gd rfl) rfl rfl ?_
                                refine g_getA (q2 := 117) 121 (gd rfl) rfl rfl rfl rfl ?_
                                refine g_iload_n 122 (gd rfl) rfl rfl ?_
                                refine g_iaload 123 (gd rfl) rfl (n := 480) rfl (in_ix i43 rfl) (fun z122 e122 => ?_)
                                have i122 := inv_I hI30x3x18 (n := 480) (t := 0) 0 25 rfl (in_ix i43 rfl) rfl e122
                                refine g_i2l 124 (gd rfl) rfl (fun z123 e123 => ?_)
                                have i123 := l_i e123 i122
                                exact g_lreturn (gd rfl) rfl (hP _ _ ⟨(sF s 109 0 (Int32.ofInt 0)), hI30x3x18, (fr_sF rfl fr_rf), z123, rfl, rfl⟩)
                              · skip
                                have i104 := r_eq1 3 3 c104 i89 (in_c 3 rfl) rfl
                                refine g_aload_n 108 (gd rfl) rfl rfl ?_
                                refine g_getA (q2 := 116) 111 (gd rfl) rfl rfl rfl rfl ?_
                                refine g_iload_n 112 (gd rfl) rfl rfl ?_
                                refine g_iaload 113 (gd rfl) rfl (n := 480) rfl (in_ix i43 rfl) (fun z112 e112 => ?_)
                                have i112 := inv_I hI30x3x18 (n := 480) (t := 0) 0 1000000 rfl (in_ix i43 rfl) rfl e112
                                refine g_i2l 114 (gd rfl) rfl (fun z113 e113 => ?_)
                                have i113 := l_i e113 i112
                                refine g_goto 124 (gd rfl) rfl ?_
                                exact g_lreturn (gd rfl) rfl (hP _ _ ⟨(sF s 109 0 (Int32.ofInt 0)), hI30x3x18, (fr_sF rfl fr_rf), z113, rfl, rfl⟩)
                            · skip
                              have i89 := r_eq1 2 2 c89 i74 (in_c 2 rfl) rfl
                              refine g_aload_n 93 (gd rfl) rfl rfl ?_
                              refine g_getA (q2 := 115) 96 (gd rfl) rfl rfl rfl rfl ?_
                              refine g_iload_n 97 (gd rfl) rfl rfl ?_
                              refine g_iaload 98 (gd rfl) rfl (n := 480) rfl (in_ix i43 rfl) (fun z97 e97 => ?_)
                              have i97 := inv_I hI30x3x18 (n := 480) (t := 0) (-1000000) 1000000 rfl (in_ix i43 rfl) rfl e97
                              refine g_i2l 99 (gd rfl) rfl (fun z98 e98 => ?_)
                              have i98 := l_i e98 i97
                              refine g_goto 124 (gd rfl) rfl ?_
                              exact g_lreturn (gd rfl) rfl (hP _ _ ⟨(sF s 109 0 (Int32.ofInt 0)), hI30x3x18, (fr_sF rfl fr_rf), z98, rfl, rfl⟩)
                          · skip
                            have i74 := r_eq1 1 1 c74 i59 (in_c 1 rfl) rfl
                            refine g_aload_n 78 (gd rfl) rfl rfl ?_
                            refine g_getA (q2 := 114) 81 (gd rfl) rfl rfl rfl rfl ?_
                            refine g_iload_n 82 (gd rfl) rfl rfl ?_
                            refine g_iaload 83 (gd rfl) rfl (n := 480) rfl (in_ix i43 rfl) (fun z82 e82 => ?_)
                            have i82 := inv_I hI30x3x18 (n := 480) (t := 0) 0 31 rfl (in_ix i43 rfl) rfl e82
                            refine g_i2l 84 (gd rfl) rfl (fun z83 e83 => ?_)
                            have i83 := l_i e83 i82
                            refine g_goto 124 (gd rfl) rfl ?_
                            exact g_lreturn (gd rfl) rfl (hP _ _ ⟨(sF s 109 0 (Int32.ofInt 0)), hI30x3x18, (fr_sF rfl fr_rf), z83, rfl, rfl⟩)
                        · skip
                          have i59 := z_eq 0 0 c59 i19x10b rfl
                          refine g_aload_n 63 (gd rfl) rfl rfl ?_
                          refine g_getA (q2 := 113) 66 (gd rfl) rfl rfl rfl rfl ?_
                          refine g_iload_n 67 (gd rfl) rfl rfl ?_
                          refine g_iaload 68 (gd rfl) rfl (n := 480) rfl (in_ix i43 rfl) (fun z67 e67 => ?_)
                          have i67 := inv_I hI30x3x18 (n := 480) (t := 0) 0 31 rfl (in_ix i43 rfl) rfl e67
                          refine g_i2l 69 (gd rfl) rfl (fun z68 e68 => ?_)
                          have i68 := l_i e68 i67
                          refine g_goto 124 (gd rfl) rfl ?_
                          exact g_lreturn (gd rfl) rfl (hP _ _ ⟨(sF s 109 0 (Int32.ofInt 0)), hI30x3x18, (fr_sF rfl fr_rf), z68, rfl, rfl⟩)
                      · skip
                        have i51 := z_eq 0 0 c51 i50 rfl
                        refine g_ldc2_w 9000000000000000 57 (gd rfl) rfl rfl ?_
                        exact g_lreturn (gd rfl) rfl (hP _ _ ⟨(sF s 109 0 (Int32.ofInt 0)), hI30x3x18, (fr_sF rfl fr_rf), (Int64.ofInt 9000000000000000), rfl, rfl⟩)
                    · skip
                      exact zn_ne c33 (in_c 0 rfl) rfl
                  · skip
                    exact zn_gt c30x3x25 (in_c 0 rfl) rfl
                · skip
                  exact zn_eq c30x3x10 (in_c 1 rfl) rfl
              · skip
                exact zn_eq c30x3x2 (in_c 1 rfl) rfl

def fm_291 : FM := ([], [], [(109, 0)], [])
/-- GraphHouseModel.labelOf -/
theorem k_291 {Z : AmZ} {A : Nat → Nat} {s : GS} {ex : va_W} {d : Nat} {X : AmX} {x1 : Int32} (hd : 4 ≤ d) (hI : Inv s)  : GC Z d 291 [.ref (A 109), .int x1] (WW Z A s ++ ex) 0 0 (fun v u => ∃ t : GS, Inv t ∧ Fr fm_291 s t ∧ ∃ z : Int32, v = some (.int z) ∧ u = WW Z A t ++ ex ∧ In z 0 25) X := by
  intro post xp hP hX
  obtain ⟨u_109_18, e_109_18⟩ : ∃ w, w = s.2.2.1 109 18 := ⟨_, rfl⟩
  have ro_109_18 := inv_F hI 0 1 rfl e_109_18
  obtain ⟨u_109_20, e_109_20⟩ : ∃ w, w = s.2.2.1 109 20 := ⟨_, rfl⟩
  have ro_109_20 := inv_F hI 0 32 rfl e_109_20
  refine g_enter2 (k := 291) (N := 900) (by omega) rfl (Nat.le_of_ble_eq_true rfl) ?_
  refine g_aload_n 1 (gd rfl) rfl rfl ?_
  refine g_aload_n 2 (gd rfl) rfl rfl ?_
  refine g_iload_n 3 (gd rfl) rfl rfl ?_
  refine g_callv (X := _) (As := [.int x1]) (r := [.ref (A 109)]) (b := A 109) (q := 109) 6 (gd rfl) rfl rfl rfl rfl rfl (ww_o rfl) (Nat.le_of_ble_eq_true rfl) (mc := 0) (ms := 0) (Nat.zero_le _) (Nat.zero_le _) (P := fun v u => _) ?_ (fun e u h => h) (fun v u h => h)
  intro po3 xx3 hp3 hx3
  refine g_enter2 (k := 272) (N := 300) (by omega) rfl (Nat.le_of_ble_eq_true rfl) ?_
  refine g_iload_n 1 (gd rfl) rfl rfl ?_
  refine g_if_lt 4 16 (gd rfl) rfl rfl (fun c3x1 => ?_) (fun c3x1 => ?_)
  · skip
    have i3x1 := z_lt (-2147483648) (-1) c3x1 (i_rng x1) rfl
    refine g_iconst 0 17 (gd rfl) rfl rfl ?_
    refine g_ireturn (gd rfl) rfl (nb01 (in_w 0 1 (in_c 0 rfl) rfl)) (hp3 _ _ ?_)
    show GG _ _ _ _ _ _ _ _ [.int (Int32.ofInt 0), .ref (A 109)] _ _ _
    refine g_callv (X := _) (As := [.int (Int32.ofInt 0)]) (r := []) (b := A 109) (q := 109) 9 (gd rfl) rfl rfl rfl rfl rfl (ww_o rfl) (Nat.le_of_ble_eq_true rfl) (mc := 0) (ms := 0) (Nat.zero_le _) (Nat.zero_le _) (P := fun v u => _) ?_ (fun e u h => h) (fun v u h => h)
    intro po6 xx6 hp6 hx6
    refine g_enter2 (k := 271) (N := 300) (by omega) rfl (Nat.le_of_ble_eq_true rfl) ?_
    refine g_aload_n 1 (gd rfl) rfl rfl ?_
    refine g_iload_n 2 (gd rfl) rfl rfl ?_
    refine g_iconst 1 3 (gd rfl) rfl rfl ?_
    refine g_callv (X := _) (As := [.int (Int32.ofInt 0), .int (Int32.ofInt 1)]) (r := []) (b := A 109) (q := 109) 6 (gd rfl) rfl rfl rfl rfl rfl (ww_o rfl) (Nat.le_of_ble_eq_true rfl) (mc := 0) (ms := 0) (Nat.zero_le _) (Nat.zero_le _) (P := fun v u => _) ?_ (fun e u h => h) (fun v u h => h)
    intro po6x3 xx6x3 hp6x3 hx6x3
    refine g_enter2 (k := 270) (N := 300) (by omega) rfl (Nat.le_of_ble_eq_true rfl) ?_
    refine g_aload_n 1 (gd rfl) rfl rfl ?_
    refine g_iload_n 2 (gd rfl) rfl rfl ?_
    refine g_if_ne 5 9 (gd rfl) rfl rfl (fun c6x3x2 => ?_) (fun c6x3x2 => ?_)
    · skip
      exact zn_ne c6x3x2 (in_c 0 rfl) rfl
    · skip
      refine g_iconst 1 6 (gd rfl) rfl rfl ?_
      refine g_goto 18 (gd rfl) rfl ?_
      refine g_putI 21 (gd rfl) rfl rfl rfl rfl ?_
      have hI6x3x18 := inv_sF (q := 109) (j := 0) hI rfl (in_w 0 2 (in_c 1 rfl) rfl)
      refine g_aload_n 22 (gd rfl) rfl rfl ?_
      refine g_getI 25 (gd rfl) rfl rfl rfl (fun z6x3x22 e6x3x22 => ?_)
      have q6x3x22 : (Int32.ofInt 1) = z6x3x22 := (sF_get).trans e6x3x22.symm
      subst q6x3x22
      refine g_if_le 28 32 (gd rfl) rfl rfl (fun c6x3x25 => ?_) (fun c6x3x25 => ?_)
      · skip
        exact zn_le c6x3x25 (in_c 1 rfl) rfl
      · skip
        refine g_iconst 1 29 (gd rfl) rfl rfl ?_
        refine g_goto 33 (gd rfl) rfl ?_
        refine g_ireturn (gd rfl) rfl (nb01 (in_w 0 1 (in_c 1 rfl) rfl)) (hp6x3 _ _ ?_)
        show GG _ _ _ _ _ _ _ _ [.int (Int32.ofInt 1)] _ _ _
        refine g_ireturn (gd rfl) rfl (nb01 (in_w 0 1 (in_c 1 rfl) rfl)) (hp6 _ _ ?_)
        show GG _ _ _ _ _ _ _ _ [.int (Int32.ofInt 1)] _ _ _
        refine g_if_eq 12 16 (gd rfl) rfl rfl (fun c9 => ?_) (fun c9 => ?_)
        · skip
          exact zn_eq c9 (in_c 1 rfl) rfl
        · skip
          refine g_iconst 0 13 (gd rfl) rfl rfl ?_
          refine g_goto 30 (gd rfl) rfl ?_
          exact g_ireturn (gd rfl) rfl rfl (hP _ _ ⟨(sF s 109 0 (Int32.ofInt 1)), hI6x3x18, (fr_sF rfl fr_rf), (Int32.ofInt 0), rfl, rfl, in_w 0 25 (in_c 0 rfl) rfl⟩)
  · skip
    have i3x1 := z_ge 0 2147483647 c3x1 (i_rng x1) rfl
    refine g_iload_n 5 (gd rfl) rfl rfl ?_
    refine g_aload_n 6 (gd rfl) rfl rfl ?_
    refine g_getI 9 (gd rfl) rfl rfl rfl (fun z3x6 e3x6 => ?_)
    have q3x6 : u_109_20 = z3x6 := (e_109_20).trans e3x6.symm
    subst q3x6
    refine g_cmp_ge 12 16 (gd rfl) rfl rfl (fun c3x9 => ?_) (fun c3x9 => ?_)
    · skip
      refine g_iconst 0 17 (gd rfl) rfl rfl ?_
      refine g_ireturn (gd rfl) rfl (nb01 (in_w 0 1 (in_c 0 rfl) rfl)) (hp3 _ _ ?_)
      show GG _ _ _ _ _ _ _ _ [.int (Int32.ofInt 0), .ref (A 109)] _ _ _
      refine g_callv (X := _) (As := [.int (Int32.ofInt 0)]) (r := []) (b := A 109) (q := 109) 9 (gd rfl) rfl rfl rfl rfl rfl (ww_o rfl) (Nat.le_of_ble_eq_true rfl) (mc := 0) (ms := 0) (Nat.zero_le _) (Nat.zero_le _) (P := fun v u => _) ?_ (fun e u h => h) (fun v u h => h)
      intro po6 xx6 hp6 hx6
      refine g_enter2 (k := 271) (N := 300) (by omega) rfl (Nat.le_of_ble_eq_true rfl) ?_
      refine g_aload_n 1 (gd rfl) rfl rfl ?_
      refine g_iload_n 2 (gd rfl) rfl rfl ?_
      refine g_iconst 1 3 (gd rfl) rfl rfl ?_
      refine g_callv (X := _) (As := [.int (Int32.ofInt 0), .int (Int32.ofInt 1)]) (r := []) (b := A 109) (q := 109) 6 (gd rfl) rfl rfl rfl rfl rfl (ww_o rfl) (Nat.le_of_ble_eq_true rfl) (mc := 0) (ms := 0) (Nat.zero_le _) (Nat.zero_le _) (P := fun v u => _) ?_ (fun e u h => h) (fun v u h => h)
      intro po6x3 xx6x3 hp6x3 hx6x3
      refine g_enter2 (k := 270) (N := 300) (by omega) rfl (Nat.le_of_ble_eq_true rfl) ?_
      refine g_aload_n 1 (gd rfl) rfl rfl ?_
      refine g_iload_n 2 (gd rfl) rfl rfl ?_
      refine g_if_ne 5 9 (gd rfl) rfl rfl (fun c6x3x2 => ?_) (fun c6x3x2 => ?_)
      · skip
        exact zn_ne c6x3x2 (in_c 0 rfl) rfl
      · skip
        refine g_iconst 1 6 (gd rfl) rfl rfl ?_
        refine g_goto 18 (gd rfl) rfl ?_
        refine g_putI 21 (gd rfl) rfl rfl rfl rfl ?_
        have hI6x3x18 := inv_sF (q := 109) (j := 0) hI rfl (in_w 0 2 (in_c 1 rfl) rfl)
        refine g_aload_n 22 (gd rfl) rfl rfl ?_
        refine g_getI 25 (gd rfl) rfl rfl rfl (fun z6x3x22 e6x3x22 => ?_)
        have q6x3x22 : (Int32.ofInt 1) = z6x3x22 := (sF_get).trans e6x3x22.symm
        subst q6x3x22
        refine g_if_le 28 32 (gd rfl) rfl rfl (fun c6x3x25 => ?_) (fun c6x3x25 => ?_)
        · skip
          exact zn_le c6x3x25 (in_c 1 rfl) rfl
        · skip
          refine g_iconst 1 29 (gd rfl) rfl rfl ?_
          refine g_goto 33 (gd rfl) rfl ?_
          refine g_ireturn (gd rfl) rfl (nb01 (in_w 0 1 (in_c 1 rfl) rfl)) (hp6x3 _ _ ?_)
          show GG _ _ _ _ _ _ _ _ [.int (Int32.ofInt 1)] _ _ _
          refine g_ireturn (gd rfl) rfl (nb01 (in_w 0 1 (in_c 1 rfl) rfl)) (hp6 _ _ ?_)
          show GG _ _ _ _ _ _ _ _ [.int (Int32.ofInt 1)] _ _ _
          refine g_if_eq 12 16 (gd rfl) rfl rfl (fun c9 => ?_) (fun c9 => ?_)
          · skip
            exact zn_eq c9 (in_c 1 rfl) rfl
          · skip
            refine g_iconst 0 13 (gd rfl) rfl rfl ?_
            refine g_goto 30 (gd rfl) rfl ?_
            exact g_ireturn (gd rfl) rfl rfl (hP _ _ ⟨(sF s 109 0 (Int32.ofInt 1)), hI6x3x18, (fr_sF rfl fr_rf), (Int32.ofInt 0), rfl, rfl, in_w 0 25 (in_c 0 rfl) rfl⟩)
    · skip
      have i3x9 := r_lt1 0 31 c3x9 i3x1 ro_109_20 rfl
      have i3x9a := r_lt2 1 32 c3x9 i3x1 ro_109_20 rfl
      refine g_iconst 1 13 (gd rfl) rfl rfl ?_
      refine g_goto 17 (gd rfl) rfl ?_
      refine g_ireturn (gd rfl) rfl (nb01 (in_w 0 1 (in_c 1 rfl) rfl)) (hp3 _ _ ?_)
      show GG _ _ _ _ _ _ _ _ [.int (Int32.ofInt 1), .ref (A 109)] _ _ _
      refine g_callv (X := _) (As := [.int (Int32.ofInt 1)]) (r := []) (b := A 109) (q := 109) 9 (gd rfl) rfl rfl rfl rfl rfl (ww_o rfl) (Nat.le_of_ble_eq_true rfl) (mc := 0) (ms := 0) (Nat.zero_le _) (Nat.zero_le _) (P := fun v u => _) ?_ (fun e u h => h) (fun v u h => h)
      intro po6 xx6 hp6 hx6
      refine g_enter2 (k := 271) (N := 300) (by omega) rfl (Nat.le_of_ble_eq_true rfl) ?_
      refine g_aload_n 1 (gd rfl) rfl rfl ?_
      refine g_iload_n 2 (gd rfl) rfl rfl ?_
      refine g_iconst 1 3 (gd rfl) rfl rfl ?_
      refine g_callv (X := _) (As := [.int (Int32.ofInt 1), .int (Int32.ofInt 1)]) (r := []) (b := A 109) (q := 109) 6 (gd rfl) rfl rfl rfl rfl rfl (ww_o rfl) (Nat.le_of_ble_eq_true rfl) (mc := 0) (ms := 0) (Nat.zero_le _) (Nat.zero_le _) (P := fun v u => _) ?_ (fun e u h => h) (fun v u h => h)
      intro po6x3 xx6x3 hp6x3 hx6x3
      refine g_enter2 (k := 270) (N := 300) (by omega) rfl (Nat.le_of_ble_eq_true rfl) ?_
      refine g_aload_n 1 (gd rfl) rfl rfl ?_
      refine g_iload_n 2 (gd rfl) rfl rfl ?_
      refine g_if_ne 5 9 (gd rfl) rfl rfl (fun c6x3x2 => ?_) (fun c6x3x2 => ?_)
      · skip
        refine g_iload_n 10 (gd rfl) rfl rfl ?_
        refine g_if_ne 13 17 (gd rfl) rfl rfl (fun c6x3x10 => ?_) (fun c6x3x10 => ?_)
        · skip
          refine g_iconst 0 18 (gd rfl) rfl rfl ?_
          refine g_putI 21 (gd rfl) rfl rfl rfl rfl ?_
          have hI6x3x18 := inv_sF (q := 109) (j := 0) hI rfl (in_w 0 2 (in_c 0 rfl) rfl)
          refine g_aload_n 22 (gd rfl) rfl rfl ?_
          refine g_getI 25 (gd rfl) rfl rfl rfl (fun z6x3x22 e6x3x22 => ?_)
          have q6x3x22 : (Int32.ofInt 0) = z6x3x22 := (sF_get).trans e6x3x22.symm
          subst q6x3x22
          refine g_if_le 28 32 (gd rfl) rfl rfl (fun c6x3x25 => ?_) (fun c6x3x25 => ?_)
          · skip
            refine g_iconst 0 33 (gd rfl) rfl rfl ?_
            refine g_ireturn (gd rfl) rfl (nb01 (in_w 0 1 (in_c 0 rfl) rfl)) (hp6x3 _ _ ?_)
            show GG _ _ _ _ _ _ _ _ [.int (Int32.ofInt 0)] _ _ _
            refine g_ireturn (gd rfl) rfl (nb01 (in_w 0 1 (in_c 0 rfl) rfl)) (hp6 _ _ ?_)
            show GG _ _ _ _ _ _ _ _ [.int (Int32.ofInt 0)] _ _ _
            refine g_if_eq 12 16 (gd rfl) rfl rfl (fun c9 => ?_) (fun c9 => ?_)
            · skip
              refine g_aload_n 17 (gd rfl) rfl rfl ?_
              refine g_getA (q2 := 111) 20 (gd rfl) rfl rfl rfl rfl ?_
              refine g_bipush 32 22 (gd rfl) rfl rfl ?_
              refine g_aload_n 23 (gd rfl) rfl rfl ?_
              refine g_getI 26 (gd rfl) rfl rfl rfl (fun z23 e23 => ?_)
              have q23 : u_109_18 = z23 := (sF_ne rfl (e_109_18)).trans e23.symm
              subst q23
              refine g_imul 27 (gd rfl) rfl (fun z26 e26 => ?_)
              have i26 := in_mulc 32 0 32 (Or.inl e26) ro_109_18 rfl rfl
              refine g_iload_n 28 (gd rfl) rfl rfl ?_
              refine g_iadd 29 (gd rfl) rfl (fun z28 e28 => ?_)
              have i28 := in_add 0 63 e28 i26 i3x9 rfl rfl
              refine g_iaload 30 (gd rfl) rfl (n := 96) rfl (in_ix i28 rfl) (fun z29 e29 => ?_)
              have i29 := inv_I hI6x3x18 (n := 96) (t := 0) 0 25 rfl (in_ix i28 rfl) rfl e29
              exact g_ireturn (gd rfl) rfl rfl (hP _ _ ⟨(sF s 109 0 (Int32.ofInt 0)), hI6x3x18, (fr_sF rfl fr_rf), z29, rfl, rfl, in_w 0 25 i29 rfl⟩)
            · skip
              exact zn_ne c9 (in_c 0 rfl) rfl
          · skip
            exact zn_gt c6x3x25 (in_c 0 rfl) rfl
        · skip
          exact zn_eq c6x3x10 (in_c 1 rfl) rfl
      · skip
        exact zn_eq c6x3x2 (in_c 1 rfl) rfl

def fm_292 : FM := ([], [], [(109, 0)], [])
/-- GraphHouseModel.arcAt -/
theorem k_292 {Z : AmZ} {A : Nat → Nat} {s : GS} {ex : va_W} {d : Nat} {X : AmX} {x1 : Int32} {x2 : Int32} {x3 : Int32} (hd : 4 ≤ d) (hI : Inv s)  : GC Z d 292 [.ref (A 109), .int x1, .int x2, .int x3] (WW Z A s ++ ex) 0 0 (fun v u => ∃ t : GS, Inv t ∧ Fr fm_292 s t ∧ ∃ z : Int32, v = some (.int z) ∧ u = WW Z A t ++ ex ∧ In z (-1) 159) X := by
  intro post xp hP hX
  obtain ⟨u_109_19, e_109_19⟩ : ∃ w, w = s.2.2.1 109 19 := ⟨_, rfl⟩
  have ro_109_19 := inv_F hI 0 160 rfl e_109_19
  obtain ⟨u_109_20, e_109_20⟩ : ∃ w, w = s.2.2.1 109 20 := ⟨_, rfl⟩
  have ro_109_20 := inv_F hI 0 32 rfl e_109_20
  have ct42 : ∀ (k42 : Nat) (sc42 : GS) (y42_4 : Int32) (y42_5 : Int32), Inv sc42 → Fr fm_292 s sc42 → (In x1 0 31) → (In x2 0 1) → (In x3 0 2147483647) → (In y42_5 0 160) → 160 - (y42_5).toInt < (k42 : Int) → GG Z (d - 1) 292 post (gx xp) (1 + k42 * 1801) 42 (fun j => xlook j [(0, .ref (A 109)), (1, .int x1), (2, .int x2), (3, .int x3), (4, .int y42_4), (5, .int y42_5)]) [] (WW Z A sc42 ++ ex) 0 0 := by
    intro k42
    induction k42 with
    | zero => intro sc42 y42_4 y42_5 hIc42 hFc42 j42_1 j42_2 j42_3 j42_5 mm42; exact m_no mm42 j42_5 rfl
    | succ k42 ih42 =>
      intro sc42 y42_4 y42_5 hIc42 hFc42 j42_1 j42_2 j42_3 j42_5 mm42
      refine gg_w (M := 1 + k42 * 1801 + 1801) (by omega) ?_
      have ct112 : ∀ (sc112 : GS) (y112_4 : Int32), Inv sc112 → Fr fm_292 s sc112 → (In y42_5 0 159) → GG Z (d - 1) 292 post (gx xp) (1 + k42 * 1801 + 901) 112 (fun j => xlook j [(0, .ref (A 109)), (1, .int x1), (2, .int x2), (3, .int x3), (4, .int y112_4), (5, .int y42_5)]) [] (WW Z A sc112 ++ ex) 0 0 := by
        intro sc112 y112_4 hIc112 hFc112 j112_5
        refine g_iinc 115 (gd rfl) rfl rfl (Nat.le_of_ble_eq_true rfl) (fun z112 e112 => ?_)
        have i112 := in_add 1 160 e112 j112_5 (in_c 1 rfl) rfl rfl
        refine g_goto 42 (gd rfl) rfl ?_
        exact gg_w (by omega) (gg_f (gf_cons rfl (gf_cons rfl (gf_cons rfl (gf_cons rfl (gf_cons rfl (gf_cons rfl gf_nil)))))) (ih42 sc112 y112_4 z112 hIc112 hFc112 (in_w 0 31 j42_1 rfl) (in_w 0 1 j42_2 rfl) (in_w 0 2147483647 j42_3 rfl) (in_w 0 160 i112 rfl) (m_up mm42 (t_add e112 j112_5 (in_c 1 rfl) rfl) (in_w 1 1 (in_c 1 rfl) rfl))))
      refine g_iload 44 (gd rfl) rfl rfl ?_
      refine g_sipush 160 47 (gd rfl) rfl rfl ?_
      refine g_cmp_ge 50 118 (gd rfl) rfl rfl (fun c47 => ?_) (fun c47 => ?_)
      · skip
        have i47 := r_le2 160 160 c47 (in_c 160 rfl) j42_5 rfl
        refine g_iconst (-1) 119 (gd rfl) rfl rfl ?_
        exact g_ireturn (gd rfl) rfl rfl (hP _ _ ⟨sc42, hIc42, hFc42, (Int32.ofInt (-1)), rfl, rfl, in_w (-1) 159 (in_c (-1) rfl) rfl⟩)
      · skip
        have i47 := r_lt1 0 159 c47 j42_5 (in_c 160 rfl) rfl
        refine g_aload_n 51 (gd rfl) rfl rfl ?_
        refine g_getA (q2 := 112) 54 (gd rfl) rfl rfl rfl rfl ?_
        refine g_aload_n 55 (gd rfl) rfl rfl ?_
        refine g_getI 58 (gd rfl) rfl rfl rfl (fun z55 e55 => ?_)
        have q55 : u_109_19 = z55 := (fr_F e_109_19 hFc42 rfl).trans e55.symm
        subst q55
        refine g_iload 60 (gd rfl) rfl rfl ?_
        refine g_iadd 61 (gd rfl) rfl (fun z60 e60 => ?_)
        have i60 := in_add 0 319 e60 ro_109_19 i47 rfl rfl
        refine g_baload 62 (gd rfl) rfl (n := 480) rfl (in_ix i60 rfl) (fun z61 e61 => ?_)
        have i61 := inv_I hIc42 (n := 480) (t := 3) 0 1 rfl (in_ix i60 rfl) rfl e61
        refine g_if_eq 65 112 (gd rfl) rfl rfl (fun c62 => ?_) (fun c62 => ?_)
        · skip
          have i62 := z_eq 0 0 c62 i61 rfl
          exact gg_w (by omega) (gg_f (gf_cons rfl (gf_cons rfl (gf_cons rfl (gf_cons rfl (gf_cons rfl (gf_cons rfl gf_nil)))))) (ct112 sc42 y42_4 hIc42 hFc42 (in_w 0 159 i47 rfl)))
        · skip
          have i62 := z_ne 1 1 c62 i61 rfl
          refine g_iload_n 66 (gd rfl) rfl rfl ?_
          refine g_if_ne 69 84 (gd rfl) rfl rfl (fun c66 => ?_) (fun c66 => ?_)
          · skip
            have i66 := z_ne 1 1 c66 j42_2 rfl
            refine g_aload_n 85 (gd rfl) rfl rfl ?_
            refine g_getA (q2 := 114) 88 (gd rfl) rfl rfl rfl rfl ?_
            refine g_aload_n 89 (gd rfl) rfl rfl ?_
            refine g_getI 92 (gd rfl) rfl rfl rfl (fun z89 e89 => ?_)
            have q89 : u_109_19 = z89 := (fr_F e_109_19 hFc42 rfl).trans e89.symm
            subst q89
            refine g_iload 94 (gd rfl) rfl rfl ?_
            refine g_iadd 95 (gd rfl) rfl (fun z94 e94 => ?_)
            have i94 := in_add 0 319 e94 ro_109_19 i47 rfl rfl
            refine g_iaload 96 (gd rfl) rfl (n := 480) rfl (in_ix i94 rfl) (fun z95 e95 => ?_)
            have i95 := inv_I hIc42 (n := 480) (t := 0) 0 31 rfl (in_ix i94 rfl) rfl e95
            refine g_iload_n 97 (gd rfl) rfl rfl ?_
            refine g_cmp_ne 100 112 (gd rfl) rfl rfl (fun c97 => ?_) (fun c97 => ?_)
            · skip
              exact gg_w (by omega) (gg_f (gf_cons rfl (gf_cons rfl (gf_cons rfl (gf_cons rfl (gf_cons rfl (gf_cons rfl gf_nil)))))) (ct112 sc42 y42_4 hIc42 hFc42 (in_w 0 159 i47 rfl)))
            · skip
              refine g_iload 102 (gd rfl) rfl rfl ?_
              refine g_iload_n 103 (gd rfl) rfl rfl ?_
              refine g_cmp_ne 106 109 (gd rfl) rfl rfl (fun c103 => ?_) (fun c103 => ?_)
              · skip
                refine g_iinc 112 (gd rfl) rfl rfl (Nat.le_of_ble_eq_true rfl) (fun z109 e109 => ?_)
                exact gg_w (by omega) (gg_f (gf_cons rfl (gf_cons rfl (gf_cons rfl (gf_cons rfl (gf_cons rfl (gf_cons rfl gf_nil)))))) (ct112 sc42 z109 hIc42 hFc42 (in_w 0 159 i47 rfl)))
              · skip
                have i103 := r_eq1 0 2147483647 c103 (i_rng y42_4) j42_3 rfl
                refine g_iload 108 (gd rfl) rfl rfl ?_
                exact g_ireturn (gd rfl) rfl rfl (hP _ _ ⟨sc42, hIc42, hFc42, y42_5, rfl, rfl, in_w (-1) 159 i47 rfl⟩)
          · skip
            have i66 := z_eq 0 0 c66 j42_2 rfl
            refine g_aload_n 70 (gd rfl) rfl rfl ?_
            refine g_getA (q2 := 113) 73 (gd rfl) rfl rfl rfl rfl ?_
            refine g_aload_n 74 (gd rfl) rfl rfl ?_
            refine g_getI 77 (gd rfl) rfl rfl rfl (fun z74 e74 => ?_)
            have q74 : u_109_19 = z74 := (fr_F e_109_19 hFc42 rfl).trans e74.symm
            subst q74
            refine g_iload 79 (gd rfl) rfl rfl ?_
            refine g_iadd 80 (gd rfl) rfl (fun z79 e79 => ?_)
            have i79 := in_add 0 319 e79 ro_109_19 i47 rfl rfl
            refine g_iaload 81 (gd rfl) rfl (n := 480) rfl (in_ix i79 rfl) (fun z80 e80 => ?_)
            have i80 := inv_I hIc42 (n := 480) (t := 0) 0 31 rfl (in_ix i79 rfl) rfl e80
            refine g_goto 96 (gd rfl) rfl ?_
            refine g_iload_n 97 (gd rfl) rfl rfl ?_
            refine g_cmp_ne 100 112 (gd rfl) rfl rfl (fun c97 => ?_) (fun c97 => ?_)
            · skip
              exact gg_w (by omega) (gg_f (gf_cons rfl (gf_cons rfl (gf_cons rfl (gf_cons rfl (gf_cons rfl (gf_cons rfl gf_nil)))))) (ct112 sc42 y42_4 hIc42 hFc42 (in_w 0 159 i47 rfl)))
            · skip
              refine g_iload 102 (gd rfl) rfl rfl ?_
              refine g_iload_n 103 (gd rfl) rfl rfl ?_
              refine g_cmp_ne 106 109 (gd rfl) rfl rfl (fun c103 => ?_) (fun c103 => ?_)
              · skip
                refine g_iinc 112 (gd rfl) rfl rfl (Nat.le_of_ble_eq_true rfl) (fun z109 e109 => ?_)
                exact gg_w (by omega) (gg_f (gf_cons rfl (gf_cons rfl (gf_cons rfl (gf_cons rfl (gf_cons rfl (gf_cons rfl gf_nil)))))) (ct112 sc42 z109 hIc42 hFc42 (in_w 0 159 i47 rfl)))
              · skip
                have i103 := r_eq1 0 2147483647 c103 (i_rng y42_4) j42_3 rfl
                refine g_iload 108 (gd rfl) rfl rfl ?_
                exact g_ireturn (gd rfl) rfl rfl (hP _ _ ⟨sc42, hIc42, hFc42, y42_5, rfl, rfl, in_w (-1) 159 i47 rfl⟩)
  refine g_enter2 (k := 292) (N := 290862) (by omega) rfl (Nat.le_of_ble_eq_true rfl) ?_
  refine g_aload_n 1 (gd rfl) rfl rfl ?_
  refine g_aload_n 2 (gd rfl) rfl rfl ?_
  refine g_iload_n 3 (gd rfl) rfl rfl ?_
  refine g_callv (X := _) (As := [.int x1]) (r := [.ref (A 109)]) (b := A 109) (q := 109) 6 (gd rfl) rfl rfl rfl rfl rfl (ww_o rfl) (Nat.le_of_ble_eq_true rfl) (mc := 0) (ms := 0) (Nat.zero_le _) (Nat.zero_le _) (P := fun v u => _) ?_ (fun e u h => h) (fun v u h => h)
  intro po3 xx3 hp3 hx3
  refine g_enter2 (k := 272) (N := 300) (by omega) rfl (Nat.le_of_ble_eq_true rfl) ?_
  refine g_iload_n 1 (gd rfl) rfl rfl ?_
  refine g_if_lt 4 16 (gd rfl) rfl rfl (fun c3x1 => ?_) (fun c3x1 => ?_)
  · skip
    have i3x1 := z_lt (-2147483648) (-1) c3x1 (i_rng x1) rfl
    refine g_iconst 0 17 (gd rfl) rfl rfl ?_
    refine g_ireturn (gd rfl) rfl (nb01 (in_w 0 1 (in_c 0 rfl) rfl)) (hp3 _ _ ?_)
    show GG _ _ _ _ _ _ _ _ [.int (Int32.ofInt 0), .ref (A 109)] _ _ _
    refine g_if_eq 9 27 (gd rfl) rfl rfl (fun c6 => ?_) (fun c6 => ?_)
    · skip
      refine g_iconst 0 28 (gd rfl) rfl rfl ?_
      refine g_callv (X := _) (As := [.int (Int32.ofInt 0)]) (r := []) (b := A 109) (q := 109) 31 (gd rfl) rfl rfl rfl rfl rfl (ww_o rfl) (Nat.le_of_ble_eq_true rfl) (mc := 0) (ms := 0) (Nat.zero_le _) (Nat.zero_le _) (P := fun v u => _) ?_ (fun e u h => h) (fun v u h => h)
      intro po28 xx28 hp28 hx28
      refine g_enter2 (k := 271) (N := 300) (by omega) rfl (Nat.le_of_ble_eq_true rfl) ?_
      refine g_aload_n 1 (gd rfl) rfl rfl ?_
      refine g_iload_n 2 (gd rfl) rfl rfl ?_
      refine g_iconst 1 3 (gd rfl) rfl rfl ?_
      refine g_callv (X := _) (As := [.int (Int32.ofInt 0), .int (Int32.ofInt 1)]) (r := []) (b := A 109) (q := 109) 6 (gd rfl) rfl rfl rfl rfl rfl (ww_o rfl) (Nat.le_of_ble_eq_true rfl) (mc := 0) (ms := 0) (Nat.zero_le _) (Nat.zero_le _) (P := fun v u => _) ?_ (fun e u h => h) (fun v u h => h)
      intro po28x3 xx28x3 hp28x3 hx28x3
      refine g_enter2 (k := 270) (N := 300) (by omega) rfl (Nat.le_of_ble_eq_true rfl) ?_
      refine g_aload_n 1 (gd rfl) rfl rfl ?_
      refine g_iload_n 2 (gd rfl) rfl rfl ?_
      refine g_if_ne 5 9 (gd rfl) rfl rfl (fun c28x3x2 => ?_) (fun c28x3x2 => ?_)
      · skip
        exact zn_ne c28x3x2 (in_c 0 rfl) rfl
      · skip
        refine g_iconst 1 6 (gd rfl) rfl rfl ?_
        refine g_goto 18 (gd rfl) rfl ?_
        refine g_putI 21 (gd rfl) rfl rfl rfl rfl ?_
        have hI28x3x18 := inv_sF (q := 109) (j := 0) hI rfl (in_w 0 2 (in_c 1 rfl) rfl)
        refine g_aload_n 22 (gd rfl) rfl rfl ?_
        refine g_getI 25 (gd rfl) rfl rfl rfl (fun z28x3x22 e28x3x22 => ?_)
        have q28x3x22 : (Int32.ofInt 1) = z28x3x22 := (sF_get).trans e28x3x22.symm
        subst q28x3x22
        refine g_if_le 28 32 (gd rfl) rfl rfl (fun c28x3x25 => ?_) (fun c28x3x25 => ?_)
        · skip
          exact zn_le c28x3x25 (in_c 1 rfl) rfl
        · skip
          refine g_iconst 1 29 (gd rfl) rfl rfl ?_
          refine g_goto 33 (gd rfl) rfl ?_
          refine g_ireturn (gd rfl) rfl (nb01 (in_w 0 1 (in_c 1 rfl) rfl)) (hp28x3 _ _ ?_)
          show GG _ _ _ _ _ _ _ _ [.int (Int32.ofInt 1)] _ _ _
          refine g_ireturn (gd rfl) rfl (nb01 (in_w 0 1 (in_c 1 rfl) rfl)) (hp28 _ _ ?_)
          show GG _ _ _ _ _ _ _ _ [.int (Int32.ofInt 1)] _ _ _
          refine g_if_eq 34 36 (gd rfl) rfl rfl (fun c31 => ?_) (fun c31 => ?_)
          · skip
            exact zn_eq c31 (in_c 1 rfl) rfl
          · skip
            refine g_iconst 0 35 (gd rfl) rfl rfl ?_
            exact g_ireturn (gd rfl) rfl rfl (hP _ _ ⟨(sF s 109 0 (Int32.ofInt 1)), hI28x3x18, (fr_sF rfl fr_rf), (Int32.ofInt 0), rfl, rfl, in_w (-1) 159 (in_c 0 rfl) rfl⟩)
    · skip
      exact zn_ne c6 (in_c 0 rfl) rfl
  · skip
    have i3x1 := z_ge 0 2147483647 c3x1 (i_rng x1) rfl
    refine g_iload_n 5 (gd rfl) rfl rfl ?_
    refine g_aload_n 6 (gd rfl) rfl rfl ?_
    refine g_getI 9 (gd rfl) rfl rfl rfl (fun z3x6 e3x6 => ?_)
    have q3x6 : u_109_20 = z3x6 := (e_109_20).trans e3x6.symm
    subst q3x6
    refine g_cmp_ge 12 16 (gd rfl) rfl rfl (fun c3x9 => ?_) (fun c3x9 => ?_)
    · skip
      refine g_iconst 0 17 (gd rfl) rfl rfl ?_
      refine g_ireturn (gd rfl) rfl (nb01 (in_w 0 1 (in_c 0 rfl) rfl)) (hp3 _ _ ?_)
      show GG _ _ _ _ _ _ _ _ [.int (Int32.ofInt 0), .ref (A 109)] _ _ _
      refine g_if_eq 9 27 (gd rfl) rfl rfl (fun c6 => ?_) (fun c6 => ?_)
      · skip
        refine g_iconst 0 28 (gd rfl) rfl rfl ?_
        refine g_callv (X := _) (As := [.int (Int32.ofInt 0)]) (r := []) (b := A 109) (q := 109) 31 (gd rfl) rfl rfl rfl rfl rfl (ww_o rfl) (Nat.le_of_ble_eq_true rfl) (mc := 0) (ms := 0) (Nat.zero_le _) (Nat.zero_le _) (P := fun v u => _) ?_ (fun e u h => h) (fun v u h => h)
        intro po28 xx28 hp28 hx28
        refine g_enter2 (k := 271) (N := 300) (by omega) rfl (Nat.le_of_ble_eq_true rfl) ?_
        refine g_aload_n 1 (gd rfl) rfl rfl ?_
        refine g_iload_n 2 (gd rfl) rfl rfl ?_
        refine g_iconst 1 3 (gd rfl) rfl rfl ?_
        refine g_callv (X := _) (As := [.int (Int32.ofInt 0), .int (Int32.ofInt 1)]) (r := []) (b := A 109) (q := 109) 6 (gd rfl) rfl rfl rfl rfl rfl (ww_o rfl) (Nat.le_of_ble_eq_true rfl) (mc := 0) (ms := 0) (Nat.zero_le _) (Nat.zero_le _) (P := fun v u => _) ?_ (fun e u h => h) (fun v u h => h)
        intro po28x3 xx28x3 hp28x3 hx28x3
        refine g_enter2 (k := 270) (N := 300) (by omega) rfl (Nat.le_of_ble_eq_true rfl) ?_
        refine g_aload_n 1 (gd rfl) rfl rfl ?_
        refine g_iload_n 2 (gd rfl) rfl rfl ?_
        refine g_if_ne 5 9 (gd rfl) rfl rfl (fun c28x3x2 => ?_) (fun c28x3x2 => ?_)
        · skip
          exact zn_ne c28x3x2 (in_c 0 rfl) rfl
        · skip
          refine g_iconst 1 6 (gd rfl) rfl rfl ?_
          refine g_goto 18 (gd rfl) rfl ?_
          refine g_putI 21 (gd rfl) rfl rfl rfl rfl ?_
          have hI28x3x18 := inv_sF (q := 109) (j := 0) hI rfl (in_w 0 2 (in_c 1 rfl) rfl)
          refine g_aload_n 22 (gd rfl) rfl rfl ?_
          refine g_getI 25 (gd rfl) rfl rfl rfl (fun z28x3x22 e28x3x22 => ?_)
          have q28x3x22 : (Int32.ofInt 1) = z28x3x22 := (sF_get).trans e28x3x22.symm
          subst q28x3x22
          refine g_if_le 28 32 (gd rfl) rfl rfl (fun c28x3x25 => ?_) (fun c28x3x25 => ?_)
          · skip
            exact zn_le c28x3x25 (in_c 1 rfl) rfl
          · skip
            refine g_iconst 1 29 (gd rfl) rfl rfl ?_
            refine g_goto 33 (gd rfl) rfl ?_
            refine g_ireturn (gd rfl) rfl (nb01 (in_w 0 1 (in_c 1 rfl) rfl)) (hp28x3 _ _ ?_)
            show GG _ _ _ _ _ _ _ _ [.int (Int32.ofInt 1)] _ _ _
            refine g_ireturn (gd rfl) rfl (nb01 (in_w 0 1 (in_c 1 rfl) rfl)) (hp28 _ _ ?_)
            show GG _ _ _ _ _ _ _ _ [.int (Int32.ofInt 1)] _ _ _
            refine g_if_eq 34 36 (gd rfl) rfl rfl (fun c31 => ?_) (fun c31 => ?_)
            · skip
              exact zn_eq c31 (in_c 1 rfl) rfl
            · skip
              refine g_iconst 0 35 (gd rfl) rfl rfl ?_
              exact g_ireturn (gd rfl) rfl rfl (hP _ _ ⟨(sF s 109 0 (Int32.ofInt 1)), hI28x3x18, (fr_sF rfl fr_rf), (Int32.ofInt 0), rfl, rfl, in_w (-1) 159 (in_c 0 rfl) rfl⟩)
      · skip
        exact zn_ne c6 (in_c 0 rfl) rfl
    · skip
      have i3x9 := r_lt1 0 31 c3x9 i3x1 ro_109_20 rfl
      have i3x9a := r_lt2 1 32 c3x9 i3x1 ro_109_20 rfl
      refine g_iconst 1 13 (gd rfl) rfl rfl ?_
      refine g_goto 17 (gd rfl) rfl ?_
      refine g_ireturn (gd rfl) rfl (nb01 (in_w 0 1 (in_c 1 rfl) rfl)) (hp3 _ _ ?_)
      show GG _ _ _ _ _ _ _ _ [.int (Int32.ofInt 1), .ref (A 109)] _ _ _
      refine g_if_eq 9 27 (gd rfl) rfl rfl (fun c6 => ?_) (fun c6 => ?_)
      · skip
        exact zn_eq c6 (in_c 1 rfl) rfl
      · skip
        refine g_iload_n 10 (gd rfl) rfl rfl ?_
        refine g_i2l 11 (gd rfl) rfl (fun z10 e10 => ?_)
        have i10 := l_i e10 (i_rng x2)
        refine g_lconst 0 12 (gd rfl) rfl rfl ?_
        refine g_lconst 1 13 (gd rfl) rfl rfl ?_
        refine g_calls (As := [.long z10, .long (Int64.ofInt 0), .long (Int64.ofInt 1)]) (r := [.ref (A 109)]) 16 (gd rfl) rfl rfl rfl rfl rfl (Nat.le_of_ble_eq_true rfl) (mc := 0) (ms := 0) (Nat.zero_le _) (Nat.zero_le _) (P := fun v u => _) ?_ (fun v u h => h)
        intro po13 xx13 hp13 hx13
        refine g_enter2 (k := 269) (N := 300) (by omega) rfl (Nat.le_of_ble_eq_true rfl) ?_
        refine g_lload_n 1 (gd rfl) rfl rfl ?_
        refine g_lload_n 2 (gd rfl) rfl rfl ?_
        refine g_lcmp 3 (gd rfl) rfl (fun z13x2 e13x2 => ?_)
        have i13x2 := lc_in e13x2
        refine g_if_lt 6 17 (gd rfl) rfl rfl (fun c13x3 => ?_) (fun c13x3 => ?_)
        · skip
          have i13x3 := z_lt (-1) (-1) c13x3 i13x2 rfl
          have c13x3a := lc_lt e13x2 c13x3
          have i13x3a := lr_lt1 (-2147483648) (-1) c13x3a i10 (l_c 0 rfl) rfl
          have i13x3b := l_b e10 i13x3a
          refine g_iconst 0 18 (gd rfl) rfl rfl ?_
          refine g_ireturn (gd rfl) rfl (nb01 (in_w 0 1 (in_c 0 rfl) rfl)) (hp13 _ _ ?_)
          show GG _ _ _ _ _ _ _ _ [.int (Int32.ofInt 0), .ref (A 109)] _ _ _
          refine g_if_eq 19 27 (gd rfl) rfl rfl (fun c16 => ?_) (fun c16 => ?_)
          · skip
            refine g_iconst 0 28 (gd rfl) rfl rfl ?_
            refine g_callv (X := _) (As := [.int (Int32.ofInt 0)]) (r := []) (b := A 109) (q := 109) 31 (gd rfl) rfl rfl rfl rfl rfl (ww_o rfl) (Nat.le_of_ble_eq_true rfl) (mc := 0) (ms := 0) (Nat.zero_le _) (Nat.zero_le _) (P := fun v u => _) ?_ (fun e u h => h) (fun v u h => h)
            intro po28 xx28 hp28 hx28
            refine g_enter2 (k := 271) (N := 300) (by omega) rfl (Nat.le_of_ble_eq_true rfl) ?_
            refine g_aload_n 1 (gd rfl) rfl rfl ?_
            refine g_iload_n 2 (gd rfl) rfl rfl ?_
            refine g_iconst 1 3 (gd rfl) rfl rfl ?_
            refine g_callv (X := _) (As := [.int (Int32.ofInt 0), .int (Int32.ofInt 1)]) (r := []) (b := A 109) (q := 109) 6 (gd rfl) rfl rfl rfl rfl rfl (ww_o rfl) (Nat.le_of_ble_eq_true rfl) (mc := 0) (ms := 0) (Nat.zero_le _) (Nat.zero_le _) (P := fun v u => _) ?_ (fun e u h => h) (fun v u h => h)
            intro po28x3 xx28x3 hp28x3 hx28x3
            refine g_enter2 (k := 270) (N := 300) (by omega) rfl (Nat.le_of_ble_eq_true rfl) ?_
            refine g_aload_n 1 (gd rfl) rfl rfl ?_
            refine g_iload_n 2 (gd rfl) rfl rfl ?_
            refine g_if_ne 5 9 (gd rfl) rfl rfl (fun c28x3x2 => ?_) (fun c28x3x2 => ?_)
            · skip
              exact zn_ne c28x3x2 (in_c 0 rfl) rfl
            · skip
              refine g_iconst 1 6 (gd rfl) rfl rfl ?_
              refine g_goto 18 (gd rfl) rfl ?_
              refine g_putI 21 (gd rfl) rfl rfl rfl rfl ?_
              have hI28x3x18 := inv_sF (q := 109) (j := 0) hI rfl (in_w 0 2 (in_c 1 rfl) rfl)
              refine g_aload_n 22 (gd rfl) rfl rfl ?_
              refine g_getI 25 (gd rfl) rfl rfl rfl (fun z28x3x22 e28x3x22 => ?_)
              have q28x3x22 : (Int32.ofInt 1) = z28x3x22 := (sF_get).trans e28x3x22.symm
              subst q28x3x22
              refine g_if_le 28 32 (gd rfl) rfl rfl (fun c28x3x25 => ?_) (fun c28x3x25 => ?_)
              · skip
                exact zn_le c28x3x25 (in_c 1 rfl) rfl
              · skip
                refine g_iconst 1 29 (gd rfl) rfl rfl ?_
                refine g_goto 33 (gd rfl) rfl ?_
                refine g_ireturn (gd rfl) rfl (nb01 (in_w 0 1 (in_c 1 rfl) rfl)) (hp28x3 _ _ ?_)
                show GG _ _ _ _ _ _ _ _ [.int (Int32.ofInt 1)] _ _ _
                refine g_ireturn (gd rfl) rfl (nb01 (in_w 0 1 (in_c 1 rfl) rfl)) (hp28 _ _ ?_)
                show GG _ _ _ _ _ _ _ _ [.int (Int32.ofInt 1)] _ _ _
                refine g_if_eq 34 36 (gd rfl) rfl rfl (fun c31 => ?_) (fun c31 => ?_)
                · skip
                  exact zn_eq c31 (in_c 1 rfl) rfl
                · skip
                  refine g_iconst 0 35 (gd rfl) rfl rfl ?_
                  exact g_ireturn (gd rfl) rfl rfl (hP _ _ ⟨(sF s 109 0 (Int32.ofInt 1)), hI28x3x18, (fr_sF rfl fr_rf), (Int32.ofInt 0), rfl, rfl, in_w (-1) 159 (in_c 0 rfl) rfl⟩)
          · skip
            exact zn_ne c16 (in_c 0 rfl) rfl
        · skip
          have i13x3 := z_ge 0 1 c13x3 i13x2 rfl
          have c13x3a := lc_ge e13x2 c13x3
          have i13x3a := lr_le2 0 2147483647 c13x3a (l_c 0 rfl) i10 rfl
          have i13x3b := l_b e10 i13x3a
          refine g_lload_n 7 (gd rfl) rfl rfl ?_
          refine g_lload 9 (gd rfl) rfl rfl ?_
          refine g_lcmp 10 (gd rfl) rfl (fun z13x9 e13x9 => ?_)
          have i13x9 := lc_in e13x9
          refine g_if_gt 13 17 (gd rfl) rfl rfl (fun c13x10 => ?_) (fun c13x10 => ?_)
          · skip
            have i13x10 := z_gt 1 1 c13x10 i13x9 rfl
            have c13x10a := lc_gt e13x9 c13x10
            have i13x10a := lr_lt2 2 2147483647 c13x10a (l_c 1 rfl) i13x3a rfl
            have i13x10b := l_b e10 i13x10a
            refine g_iconst 0 18 (gd rfl) rfl rfl ?_
            refine g_ireturn (gd rfl) rfl (nb01 (in_w 0 1 (in_c 0 rfl) rfl)) (hp13 _ _ ?_)
            show GG _ _ _ _ _ _ _ _ [.int (Int32.ofInt 0), .ref (A 109)] _ _ _
            refine g_if_eq 19 27 (gd rfl) rfl rfl (fun c16 => ?_) (fun c16 => ?_)
            · skip
              refine g_iconst 0 28 (gd rfl) rfl rfl ?_
              refine g_callv (X := _) (As := [.int (Int32.ofInt 0)]) (r := []) (b := A 109) (q := 109) 31 (gd rfl) rfl rfl rfl rfl rfl (ww_o rfl) (Nat.le_of_ble_eq_true rfl) (mc := 0) (ms := 0) (Nat.zero_le _) (Nat.zero_le _) (P := fun v u => _) ?_ (fun e u h => h) (fun v u h => h)
              intro po28 xx28 hp28 hx28
              refine g_enter2 (k := 271) (N := 300) (by omega) rfl (Nat.le_of_ble_eq_true rfl) ?_
              refine g_aload_n 1 (gd rfl) rfl rfl ?_
              refine g_iload_n 2 (gd rfl) rfl rfl ?_
              refine g_iconst 1 3 (gd rfl) rfl rfl ?_
              refine g_callv (X := _) (As := [.int (Int32.ofInt 0), .int (Int32.ofInt 1)]) (r := []) (b := A 109) (q := 109) 6 (gd rfl) rfl rfl rfl rfl rfl (ww_o rfl) (Nat.le_of_ble_eq_true rfl) (mc := 0) (ms := 0) (Nat.zero_le _) (Nat.zero_le _) (P := fun v u => _) ?_ (fun e u h => h) (fun v u h => h)
              intro po28x3 xx28x3 hp28x3 hx28x3
              refine g_enter2 (k := 270) (N := 300) (by omega) rfl (Nat.le_of_ble_eq_true rfl) ?_
              refine g_aload_n 1 (gd rfl) rfl rfl ?_
              refine g_iload_n 2 (gd rfl) rfl rfl ?_
              refine g_if_ne 5 9 (gd rfl) rfl rfl (fun c28x3x2 => ?_) (fun c28x3x2 => ?_)
              · skip
                exact zn_ne c28x3x2 (in_c 0 rfl) rfl
              · skip
                refine g_iconst 1 6 (gd rfl) rfl rfl ?_
                refine g_goto 18 (gd rfl) rfl ?_
                refine g_putI 21 (gd rfl) rfl rfl rfl rfl ?_
                have hI28x3x18 := inv_sF (q := 109) (j := 0) hI rfl (in_w 0 2 (in_c 1 rfl) rfl)
                refine g_aload_n 22 (gd rfl) rfl rfl ?_
                refine g_getI 25 (gd rfl) rfl rfl rfl (fun z28x3x22 e28x3x22 => ?_)
                have q28x3x22 : (Int32.ofInt 1) = z28x3x22 := (sF_get).trans e28x3x22.symm
                subst q28x3x22
                refine g_if_le 28 32 (gd rfl) rfl rfl (fun c28x3x25 => ?_) (fun c28x3x25 => ?_)
                · skip
                  exact zn_le c28x3x25 (in_c 1 rfl) rfl
                · skip
                  refine g_iconst 1 29 (gd rfl) rfl rfl ?_
                  refine g_goto 33 (gd rfl) rfl ?_
                  refine g_ireturn (gd rfl) rfl (nb01 (in_w 0 1 (in_c 1 rfl) rfl)) (hp28x3 _ _ ?_)
                  show GG _ _ _ _ _ _ _ _ [.int (Int32.ofInt 1)] _ _ _
                  refine g_ireturn (gd rfl) rfl (nb01 (in_w 0 1 (in_c 1 rfl) rfl)) (hp28 _ _ ?_)
                  show GG _ _ _ _ _ _ _ _ [.int (Int32.ofInt 1)] _ _ _
                  refine g_if_eq 34 36 (gd rfl) rfl rfl (fun c31 => ?_) (fun c31 => ?_)
                  · skip
                    exact zn_eq c31 (in_c 1 rfl) rfl
                  · skip
                    refine g_iconst 0 35 (gd rfl) rfl rfl ?_
                    exact g_ireturn (gd rfl) rfl rfl (hP _ _ ⟨(sF s 109 0 (Int32.ofInt 1)), hI28x3x18, (fr_sF rfl fr_rf), (Int32.ofInt 0), rfl, rfl, in_w (-1) 159 (in_c 0 rfl) rfl⟩)
            · skip
              exact zn_ne c16 (in_c 0 rfl) rfl
          · skip
            have i13x10 := z_le (-1) 0 c13x10 i13x9 rfl
            have c13x10a := lc_le e13x9 c13x10
            have i13x10a := lr_le1 0 1 c13x10a i13x3a (l_c 1 rfl) rfl
            have i13x10b := l_b e10 i13x10a
            refine g_iconst 1 14 (gd rfl) rfl rfl ?_
            refine g_goto 18 (gd rfl) rfl ?_
            refine g_ireturn (gd rfl) rfl (nb01 (in_w 0 1 (in_c 1 rfl) rfl)) (hp13 _ _ ?_)
            show GG _ _ _ _ _ _ _ _ [.int (Int32.ofInt 1), .ref (A 109)] _ _ _
            refine g_if_eq 19 27 (gd rfl) rfl rfl (fun c16 => ?_) (fun c16 => ?_)
            · skip
              exact zn_eq c16 (in_c 1 rfl) rfl
            · skip
              refine g_iload_n 20 (gd rfl) rfl rfl ?_
              refine g_if_lt 23 27 (gd rfl) rfl rfl (fun c20 => ?_) (fun c20 => ?_)
              · skip
                have i20 := z_lt (-2147483648) (-1) c20 (i_rng x3) rfl
                refine g_iconst 0 28 (gd rfl) rfl rfl ?_
                refine g_callv (X := _) (As := [.int (Int32.ofInt 0)]) (r := []) (b := A 109) (q := 109) 31 (gd rfl) rfl rfl rfl rfl rfl (ww_o rfl) (Nat.le_of_ble_eq_true rfl) (mc := 0) (ms := 0) (Nat.zero_le _) (Nat.zero_le _) (P := fun v u => _) ?_ (fun e u h => h) (fun v u h => h)
                intro po28 xx28 hp28 hx28
                refine g_enter2 (k := 271) (N := 300) (by omega) rfl (Nat.le_of_ble_eq_true rfl) ?_
                refine g_aload_n 1 (gd rfl) rfl rfl ?_
                refine g_iload_n 2 (gd rfl) rfl rfl ?_
                refine g_iconst 1 3 (gd rfl) rfl rfl ?_
                refine g_callv (X := _) (As := [.int (Int32.ofInt 0), .int (Int32.ofInt 1)]) (r := []) (b := A 109) (q := 109) 6 (gd rfl) rfl rfl rfl rfl rfl (ww_o rfl) (Nat.le_of_ble_eq_true rfl) (mc := 0) (ms := 0) (Nat.zero_le _) (Nat.zero_le _) (P := fun v u => _) ?_ (fun e u h => h) (fun v u h => h)
                intro po28x3 xx28x3 hp28x3 hx28x3
                refine g_enter2 (k := 270) (N := 300) (by omega) rfl (Nat.le_of_ble_eq_true rfl) ?_
                refine g_aload_n 1 (gd rfl) rfl rfl ?_
                refine g_iload_n 2 (gd rfl) rfl rfl ?_
                refine g_if_ne 5 9 (gd rfl) rfl rfl (fun c28x3x2 => ?_) (fun c28x3x2 => ?_)
                · skip
                  exact zn_ne c28x3x2 (in_c 0 rfl) rfl
                · skip
                  refine g_iconst 1 6 (gd rfl) rfl rfl ?_
                  refine g_goto 18 (gd rfl) rfl ?_
                  refine g_putI 21 (gd rfl) rfl rfl rfl rfl ?_
                  have hI28x3x18 := inv_sF (q := 109) (j := 0) hI rfl (in_w 0 2 (in_c 1 rfl) rfl)
                  refine g_aload_n 22 (gd rfl) rfl rfl ?_
                  refine g_getI 25 (gd rfl) rfl rfl rfl (fun z28x3x22 e28x3x22 => ?_)
                  have q28x3x22 : (Int32.ofInt 1) = z28x3x22 := (sF_get).trans e28x3x22.symm
                  subst q28x3x22
                  refine g_if_le 28 32 (gd rfl) rfl rfl (fun c28x3x25 => ?_) (fun c28x3x25 => ?_)
                  · skip
                    exact zn_le c28x3x25 (in_c 1 rfl) rfl
                  · skip
                    refine g_iconst 1 29 (gd rfl) rfl rfl ?_
                    refine g_goto 33 (gd rfl) rfl ?_
                    refine g_ireturn (gd rfl) rfl (nb01 (in_w 0 1 (in_c 1 rfl) rfl)) (hp28x3 _ _ ?_)
                    show GG _ _ _ _ _ _ _ _ [.int (Int32.ofInt 1)] _ _ _
                    refine g_ireturn (gd rfl) rfl (nb01 (in_w 0 1 (in_c 1 rfl) rfl)) (hp28 _ _ ?_)
                    show GG _ _ _ _ _ _ _ _ [.int (Int32.ofInt 1)] _ _ _
                    refine g_if_eq 34 36 (gd rfl) rfl rfl (fun c31 => ?_) (fun c31 => ?_)
                    · skip
                      exact zn_eq c31 (in_c 1 rfl) rfl
                    · skip
                      refine g_iconst 0 35 (gd rfl) rfl rfl ?_
                      exact g_ireturn (gd rfl) rfl rfl (hP _ _ ⟨(sF s 109 0 (Int32.ofInt 1)), hI28x3x18, (fr_sF rfl fr_rf), (Int32.ofInt 0), rfl, rfl, in_w (-1) 159 (in_c 0 rfl) rfl⟩)
              · skip
                have i20 := z_ge 0 2147483647 c20 (i_rng x3) rfl
                refine g_iconst 1 24 (gd rfl) rfl rfl ?_
                refine g_goto 28 (gd rfl) rfl ?_
                refine g_callv (X := _) (As := [.int (Int32.ofInt 1)]) (r := []) (b := A 109) (q := 109) 31 (gd rfl) rfl rfl rfl rfl rfl (ww_o rfl) (Nat.le_of_ble_eq_true rfl) (mc := 0) (ms := 0) (Nat.zero_le _) (Nat.zero_le _) (P := fun v u => _) ?_ (fun e u h => h) (fun v u h => h)
                intro po28 xx28 hp28 hx28
                refine g_enter2 (k := 271) (N := 300) (by omega) rfl (Nat.le_of_ble_eq_true rfl) ?_
                refine g_aload_n 1 (gd rfl) rfl rfl ?_
                refine g_iload_n 2 (gd rfl) rfl rfl ?_
                refine g_iconst 1 3 (gd rfl) rfl rfl ?_
                refine g_callv (X := _) (As := [.int (Int32.ofInt 1), .int (Int32.ofInt 1)]) (r := []) (b := A 109) (q := 109) 6 (gd rfl) rfl rfl rfl rfl rfl (ww_o rfl) (Nat.le_of_ble_eq_true rfl) (mc := 0) (ms := 0) (Nat.zero_le _) (Nat.zero_le _) (P := fun v u => _) ?_ (fun e u h => h) (fun v u h => h)
                intro po28x3 xx28x3 hp28x3 hx28x3
                refine g_enter2 (k := 270) (N := 300) (by omega) rfl (Nat.le_of_ble_eq_true rfl) ?_
                refine g_aload_n 1 (gd rfl) rfl rfl ?_
                refine g_iload_n 2 (gd rfl) rfl rfl ?_
                refine g_if_ne 5 9 (gd rfl) rfl rfl (fun c28x3x2 => ?_) (fun c28x3x2 => ?_)
                · skip
                  refine g_iload_n 10 (gd rfl) rfl rfl ?_
                  refine g_if_ne 13 17 (gd rfl) rfl rfl (fun c28x3x10 => ?_) (fun c28x3x10 => ?_)
                  · skip
                    refine g_iconst 0 18 (gd rfl) rfl rfl ?_
                    refine g_putI 21 (gd rfl) rfl rfl rfl rfl ?_
                    have hI28x3x18 := inv_sF (q := 109) (j := 0) hI rfl (in_w 0 2 (in_c 0 rfl) rfl)
                    refine g_aload_n 22 (gd rfl) rfl rfl ?_
                    refine g_getI 25 (gd rfl) rfl rfl rfl (fun z28x3x22 e28x3x22 => ?_)
                    have q28x3x22 : (Int32.ofInt 0) = z28x3x22 := (sF_get).trans e28x3x22.symm
                    subst q28x3x22
                    refine g_if_le 28 32 (gd rfl) rfl rfl (fun c28x3x25 => ?_) (fun c28x3x25 => ?_)
                    · skip
                      refine g_iconst 0 33 (gd rfl) rfl rfl ?_
                      refine g_ireturn (gd rfl) rfl (nb01 (in_w 0 1 (in_c 0 rfl) rfl)) (hp28x3 _ _ ?_)
                      show GG _ _ _ _ _ _ _ _ [.int (Int32.ofInt 0)] _ _ _
                      refine g_ireturn (gd rfl) rfl (nb01 (in_w 0 1 (in_c 0 rfl) rfl)) (hp28 _ _ ?_)
                      show GG _ _ _ _ _ _ _ _ [.int (Int32.ofInt 0)] _ _ _
                      refine g_if_eq 34 36 (gd rfl) rfl rfl (fun c31 => ?_) (fun c31 => ?_)
                      · skip
                        refine g_iconst 0 37 (gd rfl) rfl rfl ?_
                        refine g_istore 39 (gd rfl) rfl (Nat.le_of_ble_eq_true rfl) ?_
                        refine g_iconst 0 40 (gd rfl) rfl rfl ?_
                        refine g_istore 42 (gd rfl) rfl (Nat.le_of_ble_eq_true rfl) ?_
                        exact gg_w (by omega) (gg_f (gf_cons rfl (gf_cons rfl (gf_cons rfl (gf_cons rfl (gf_cons rfl (gf_cons rfl gf_nil)))))) (ct42 161 (sF s 109 0 (Int32.ofInt 0)) (Int32.ofInt 0) (Int32.ofInt 0) hI28x3x18 (fr_sF rfl fr_rf) (in_w 0 31 i3x9 rfl) (in_w 0 1 i13x10b rfl) (in_w 0 2147483647 i20 rfl) (in_w 0 160 (in_c 0 rfl) rfl) (m_in 161 (in_w 0 160 (in_c 0 rfl) rfl) rfl)))
                      · skip
                        exact zn_ne c31 (in_c 0 rfl) rfl
                    · skip
                      exact zn_gt c28x3x25 (in_c 0 rfl) rfl
                  · skip
                    exact zn_eq c28x3x10 (in_c 1 rfl) rfl
                · skip
                  exact zn_eq c28x3x2 (in_c 1 rfl) rfl

def fm_293 : FM := ([125], [], [(109, 0), (109, 22)], [])
/-- GraphHouseModel.type -/
theorem k_293 {Z : AmZ} {A : Nat → Nat} {s : GS} {ex : va_W} {d : Nat} {X : AmX} {x1 : Int32} (hd : 3 ≤ d) (hI : Inv s)  : GC Z d 293 [.ref (A 109), .int x1] (WW Z A s ++ ex) 0 0 (fun v u => ∃ t : GS, Inv t ∧ Fr fm_293 s t ∧ ∃ z : Int32, v = some (.int z) ∧ u = WW Z A t ++ ex ∧ In z 0 1000) X := by
  intro post xp hP hX
  refine g_enter2 (k := 293) (N := 900) (by omega) rfl (Nat.le_of_ble_eq_true rfl) ?_
  refine g_aload_n 1 (gd rfl) rfl rfl ?_
  refine g_iload_n 2 (gd rfl) rfl rfl ?_
  refine g_i2l 3 (gd rfl) rfl (fun z2 e2 => ?_)
  have i2 := l_i e2 (i_rng x1)
  refine g_ldc2_w 32 6 (gd rfl) rfl rfl ?_
  refine g_ldc2_w 126 9 (gd rfl) rfl rfl ?_
  refine g_calls (As := [.long z2, .long (Int64.ofInt 32), .long (Int64.ofInt 126)]) (r := [.ref (A 109)]) 12 (gd rfl) rfl rfl rfl rfl rfl (Nat.le_of_ble_eq_true rfl) (mc := 0) (ms := 0) (Nat.zero_le _) (Nat.zero_le _) (P := fun v u => _) ?_ (fun v u h => h)
  intro po9 xx9 hp9 hx9
  refine g_enter2 (k := 269) (N := 300) (by omega) rfl (Nat.le_of_ble_eq_true rfl) ?_
  refine g_lload_n 1 (gd rfl) rfl rfl ?_
  refine g_lload_n 2 (gd rfl) rfl rfl ?_
  refine g_lcmp 3 (gd rfl) rfl (fun z9x2 e9x2 => ?_)
  have i9x2 := lc_in e9x2
  refine g_if_lt 6 17 (gd rfl) rfl rfl (fun c9x3 => ?_) (fun c9x3 => ?_)
  · skip
    have i9x3 := z_lt (-1) (-1) c9x3 i9x2 rfl
    have c9x3a := lc_lt e9x2 c9x3
    have i9x3a := lr_lt1 (-2147483648) 31 c9x3a i2 (l_c 32 rfl) rfl
    have i9x3b := l_b e2 i9x3a
    refine g_iconst 0 18 (gd rfl) rfl rfl ?_
    refine g_ireturn (gd rfl) rfl (nb01 (in_w 0 1 (in_c 0 rfl) rfl)) (hp9 _ _ ?_)
    show GG _ _ _ _ _ _ _ _ [.int (Int32.ofInt 0), .ref (A 109)] _ _ _
    refine g_aload_n 13 (gd rfl) rfl rfl ?_
    refine g_getI 16 (gd rfl) rfl rfl rfl (fun z13 e13 => ?_)
    have i13 := inv_F hI 0 1000 rfl e13
    refine g_sipush 1000 19 (gd rfl) rfl rfl ?_
    refine g_cmp_ge 22 26 (gd rfl) rfl rfl (fun c19 => ?_) (fun c19 => ?_)
    · skip
      have i19 := r_le2 1000 1000 c19 (in_c 1000 rfl) i13 rfl
      refine g_iconst 0 27 (gd rfl) rfl rfl ?_
      refine g_callv (X := _) (As := [.int (Int32.ofInt 0), .int (Int32.ofInt 0)]) (r := []) (b := A 109) (q := 109) 30 (gd rfl) rfl rfl rfl rfl rfl (ww_o rfl) (Nat.le_of_ble_eq_true rfl) (mc := 0) (ms := 0) (Nat.zero_le _) (Nat.zero_le _) (P := fun v u => _) ?_ (fun e u h => h) (fun v u h => h)
      intro po27 xx27 hp27 hx27
      refine g_enter2 (k := 270) (N := 300) (by omega) rfl (Nat.le_of_ble_eq_true rfl) ?_
      refine g_aload_n 1 (gd rfl) rfl rfl ?_
      refine g_iload_n 2 (gd rfl) rfl rfl ?_
      refine g_if_ne 5 9 (gd rfl) rfl rfl (fun c27x2 => ?_) (fun c27x2 => ?_)
      · skip
        exact zn_ne c27x2 (in_c 0 rfl) rfl
      · skip
        refine g_iconst 1 6 (gd rfl) rfl rfl ?_
        refine g_goto 18 (gd rfl) rfl ?_
        refine g_putI 21 (gd rfl) rfl rfl rfl rfl ?_
        have hI27x18 := inv_sF (q := 109) (j := 0) hI rfl (in_w 0 2 (in_c 1 rfl) rfl)
        refine g_aload_n 22 (gd rfl) rfl rfl ?_
        refine g_getI 25 (gd rfl) rfl rfl rfl (fun z27x22 e27x22 => ?_)
        have q27x22 : (Int32.ofInt 1) = z27x22 := (sF_get).trans e27x22.symm
        subst q27x22
        refine g_if_le 28 32 (gd rfl) rfl rfl (fun c27x25 => ?_) (fun c27x25 => ?_)
        · skip
          exact zn_le c27x25 (in_c 1 rfl) rfl
        · skip
          refine g_iconst 1 29 (gd rfl) rfl rfl ?_
          refine g_goto 33 (gd rfl) rfl ?_
          refine g_ireturn (gd rfl) rfl (nb01 (in_w 0 1 (in_c 1 rfl) rfl)) (hp27 _ _ ?_)
          show GG _ _ _ _ _ _ _ _ [.int (Int32.ofInt 1)] _ _ _
          refine g_if_eq 33 35 (gd rfl) rfl rfl (fun c30 => ?_) (fun c30 => ?_)
          · skip
            exact zn_eq c30 (in_c 1 rfl) rfl
          · skip
            refine g_iconst 0 34 (gd rfl) rfl rfl ?_
            exact g_ireturn (gd rfl) rfl rfl (hP _ _ ⟨(sF s 109 0 (Int32.ofInt 1)), hI27x18, (fr_sF rfl fr_rf), (Int32.ofInt 0), rfl, rfl, in_w 0 1000 (in_c 0 rfl) rfl⟩)
    · skip
      have i19 := r_lt1 0 999 c19 i13 (in_c 1000 rfl) rfl
      refine g_iconst 1 23 (gd rfl) rfl rfl ?_
      refine g_goto 27 (gd rfl) rfl ?_
      refine g_callv (X := _) (As := [.int (Int32.ofInt 0), .int (Int32.ofInt 1)]) (r := []) (b := A 109) (q := 109) 30 (gd rfl) rfl rfl rfl rfl rfl (ww_o rfl) (Nat.le_of_ble_eq_true rfl) (mc := 0) (ms := 0) (Nat.zero_le _) (Nat.zero_le _) (P := fun v u => _) ?_ (fun e u h => h) (fun v u h => h)
      intro po27 xx27 hp27 hx27
      refine g_enter2 (k := 270) (N := 300) (by omega) rfl (Nat.le_of_ble_eq_true rfl) ?_
      refine g_aload_n 1 (gd rfl) rfl rfl ?_
      refine g_iload_n 2 (gd rfl) rfl rfl ?_
      refine g_if_ne 5 9 (gd rfl) rfl rfl (fun c27x2 => ?_) (fun c27x2 => ?_)
      · skip
        exact zn_ne c27x2 (in_c 0 rfl) rfl
      · skip
        refine g_iconst 1 6 (gd rfl) rfl rfl ?_
        refine g_goto 18 (gd rfl) rfl ?_
        refine g_putI 21 (gd rfl) rfl rfl rfl rfl ?_
        have hI27x18 := inv_sF (q := 109) (j := 0) hI rfl (in_w 0 2 (in_c 1 rfl) rfl)
        refine g_aload_n 22 (gd rfl) rfl rfl ?_
        refine g_getI 25 (gd rfl) rfl rfl rfl (fun z27x22 e27x22 => ?_)
        have q27x22 : (Int32.ofInt 1) = z27x22 := (sF_get).trans e27x22.symm
        subst q27x22
        refine g_if_le 28 32 (gd rfl) rfl rfl (fun c27x25 => ?_) (fun c27x25 => ?_)
        · skip
          exact zn_le c27x25 (in_c 1 rfl) rfl
        · skip
          refine g_iconst 1 29 (gd rfl) rfl rfl ?_
          refine g_goto 33 (gd rfl) rfl ?_
          refine g_ireturn (gd rfl) rfl (nb01 (in_w 0 1 (in_c 1 rfl) rfl)) (hp27 _ _ ?_)
          show GG _ _ _ _ _ _ _ _ [.int (Int32.ofInt 1)] _ _ _
          refine g_if_eq 33 35 (gd rfl) rfl rfl (fun c30 => ?_) (fun c30 => ?_)
          · skip
            exact zn_eq c30 (in_c 1 rfl) rfl
          · skip
            refine g_iconst 0 34 (gd rfl) rfl rfl ?_
            exact g_ireturn (gd rfl) rfl rfl (hP _ _ ⟨(sF s 109 0 (Int32.ofInt 1)), hI27x18, (fr_sF rfl fr_rf), (Int32.ofInt 0), rfl, rfl, in_w 0 1000 (in_c 0 rfl) rfl⟩)
  · skip
    have i9x3 := z_ge 0 1 c9x3 i9x2 rfl
    have c9x3a := lc_ge e9x2 c9x3
    have i9x3a := lr_le2 32 2147483647 c9x3a (l_c 32 rfl) i2 rfl
    have i9x3b := l_b e2 i9x3a
    refine g_lload_n 7 (gd rfl) rfl rfl ?_
    refine g_lload 9 (gd rfl) rfl rfl ?_
    refine g_lcmp 10 (gd rfl) rfl (fun z9x9 e9x9 => ?_)
    have i9x9 := lc_in e9x9
    refine g_if_gt 13 17 (gd rfl) rfl rfl (fun c9x10 => ?_) (fun c9x10 => ?_)
    · skip
      have i9x10 := z_gt 1 1 c9x10 i9x9 rfl
      have c9x10a := lc_gt e9x9 c9x10
      have i9x10a := lr_lt2 127 2147483647 c9x10a (l_c 126 rfl) i9x3a rfl
      have i9x10b := l_b e2 i9x10a
      refine g_iconst 0 18 (gd rfl) rfl rfl ?_
      refine g_ireturn (gd rfl) rfl (nb01 (in_w 0 1 (in_c 0 rfl) rfl)) (hp9 _ _ ?_)
      show GG _ _ _ _ _ _ _ _ [.int (Int32.ofInt 0), .ref (A 109)] _ _ _
      refine g_aload_n 13 (gd rfl) rfl rfl ?_
      refine g_getI 16 (gd rfl) rfl rfl rfl (fun z13 e13 => ?_)
      have i13 := inv_F hI 0 1000 rfl e13
      refine g_sipush 1000 19 (gd rfl) rfl rfl ?_
      refine g_cmp_ge 22 26 (gd rfl) rfl rfl (fun c19 => ?_) (fun c19 => ?_)
      · skip
        have i19 := r_le2 1000 1000 c19 (in_c 1000 rfl) i13 rfl
        refine g_iconst 0 27 (gd rfl) rfl rfl ?_
        refine g_callv (X := _) (As := [.int (Int32.ofInt 0), .int (Int32.ofInt 0)]) (r := []) (b := A 109) (q := 109) 30 (gd rfl) rfl rfl rfl rfl rfl (ww_o rfl) (Nat.le_of_ble_eq_true rfl) (mc := 0) (ms := 0) (Nat.zero_le _) (Nat.zero_le _) (P := fun v u => _) ?_ (fun e u h => h) (fun v u h => h)
        intro po27 xx27 hp27 hx27
        refine g_enter2 (k := 270) (N := 300) (by omega) rfl (Nat.le_of_ble_eq_true rfl) ?_
        refine g_aload_n 1 (gd rfl) rfl rfl ?_
        refine g_iload_n 2 (gd rfl) rfl rfl ?_
        refine g_if_ne 5 9 (gd rfl) rfl rfl (fun c27x2 => ?_) (fun c27x2 => ?_)
        · skip
          exact zn_ne c27x2 (in_c 0 rfl) rfl
        · skip
          refine g_iconst 1 6 (gd rfl) rfl rfl ?_
          refine g_goto 18 (gd rfl) rfl ?_
          refine g_putI 21 (gd rfl) rfl rfl rfl rfl ?_
          have hI27x18 := inv_sF (q := 109) (j := 0) hI rfl (in_w 0 2 (in_c 1 rfl) rfl)
          refine g_aload_n 22 (gd rfl) rfl rfl ?_
          refine g_getI 25 (gd rfl) rfl rfl rfl (fun z27x22 e27x22 => ?_)
          have q27x22 : (Int32.ofInt 1) = z27x22 := (sF_get).trans e27x22.symm
          subst q27x22
          refine g_if_le 28 32 (gd rfl) rfl rfl (fun c27x25 => ?_) (fun c27x25 => ?_)
          · skip
            exact zn_le c27x25 (in_c 1 rfl) rfl
          · skip
            refine g_iconst 1 29 (gd rfl) rfl rfl ?_
            refine g_goto 33 (gd rfl) rfl ?_
            refine g_ireturn (gd rfl) rfl (nb01 (in_w 0 1 (in_c 1 rfl) rfl)) (hp27 _ _ ?_)
            show GG _ _ _ _ _ _ _ _ [.int (Int32.ofInt 1)] _ _ _
            refine g_if_eq 33 35 (gd rfl) rfl rfl (fun c30 => ?_) (fun c30 => ?_)
            · skip
              exact zn_eq c30 (in_c 1 rfl) rfl
            · skip
              refine g_iconst 0 34 (gd rfl) rfl rfl ?_
              exact g_ireturn (gd rfl) rfl rfl (hP _ _ ⟨(sF s 109 0 (Int32.ofInt 1)), hI27x18, (fr_sF rfl fr_rf), (Int32.ofInt 0), rfl, rfl, in_w 0 1000 (in_c 0 rfl) rfl⟩)
      · skip
        have i19 := r_lt1 0 999 c19 i13 (in_c 1000 rfl) rfl
        refine g_iconst 1 23 (gd rfl) rfl rfl ?_
        refine g_goto 27 (gd rfl) rfl ?_
        refine g_callv (X := _) (As := [.int (Int32.ofInt 0), .int (Int32.ofInt 1)]) (r := []) (b := A 109) (q := 109) 30 (gd rfl) rfl rfl rfl rfl rfl (ww_o rfl) (Nat.le_of_ble_eq_true rfl) (mc := 0) (ms := 0) (Nat.zero_le _) (Nat.zero_le _) (P := fun v u => _) ?_ (fun e u h => h) (fun v u h => h)
        intro po27 xx27 hp27 hx27
        refine g_enter2 (k := 270) (N := 300) (by omega) rfl (Nat.le_of_ble_eq_true rfl) ?_
        refine g_aload_n 1 (gd rfl) rfl rfl ?_
        refine g_iload_n 2 (gd rfl) rfl rfl ?_
        refine g_if_ne 5 9 (gd rfl) rfl rfl (fun c27x2 => ?_) (fun c27x2 => ?_)
        · skip
          exact zn_ne c27x2 (in_c 0 rfl) rfl
        · skip
          refine g_iconst 1 6 (gd rfl) rfl rfl ?_
          refine g_goto 18 (gd rfl) rfl ?_
          refine g_putI 21 (gd rfl) rfl rfl rfl rfl ?_
          have hI27x18 := inv_sF (q := 109) (j := 0) hI rfl (in_w 0 2 (in_c 1 rfl) rfl)
          refine g_aload_n 22 (gd rfl) rfl rfl ?_
          refine g_getI 25 (gd rfl) rfl rfl rfl (fun z27x22 e27x22 => ?_)
          have q27x22 : (Int32.ofInt 1) = z27x22 := (sF_get).trans e27x22.symm
          subst q27x22
          refine g_if_le 28 32 (gd rfl) rfl rfl (fun c27x25 => ?_) (fun c27x25 => ?_)
          · skip
            exact zn_le c27x25 (in_c 1 rfl) rfl
          · skip
            refine g_iconst 1 29 (gd rfl) rfl rfl ?_
            refine g_goto 33 (gd rfl) rfl ?_
            refine g_ireturn (gd rfl) rfl (nb01 (in_w 0 1 (in_c 1 rfl) rfl)) (hp27 _ _ ?_)
            show GG _ _ _ _ _ _ _ _ [.int (Int32.ofInt 1)] _ _ _
            refine g_if_eq 33 35 (gd rfl) rfl rfl (fun c30 => ?_) (fun c30 => ?_)
            · skip
              exact zn_eq c30 (in_c 1 rfl) rfl
            · skip
              refine g_iconst 0 34 (gd rfl) rfl rfl ?_
              exact g_ireturn (gd rfl) rfl rfl (hP _ _ ⟨(sF s 109 0 (Int32.ofInt 1)), hI27x18, (fr_sF rfl fr_rf), (Int32.ofInt 0), rfl, rfl, in_w 0 1000 (in_c 0 rfl) rfl⟩)
    · skip
      have i9x10 := z_le (-1) 0 c9x10 i9x9 rfl
      have c9x10a := lc_le e9x9 c9x10
      have i9x10a := lr_le1 32 126 c9x10a i9x3a (l_c 126 rfl) rfl
      have i9x10b := l_b e2 i9x10a
      refine g_iconst 1 14 (gd rfl) rfl rfl ?_
      refine g_goto 18 (gd rfl) rfl ?_
      refine g_ireturn (gd rfl) rfl (nb01 (in_w 0 1 (in_c 1 rfl) rfl)) (hp9 _ _ ?_)
      show GG _ _ _ _ _ _ _ _ [.int (Int32.ofInt 1), .ref (A 109)] _ _ _
      refine g_aload_n 13 (gd rfl) rfl rfl ?_
      refine g_getI 16 (gd rfl) rfl rfl rfl (fun z13 e13 => ?_)
      have i13 := inv_F hI 0 1000 rfl e13
      refine g_sipush 1000 19 (gd rfl) rfl rfl ?_
      refine g_cmp_ge 22 26 (gd rfl) rfl rfl (fun c19 => ?_) (fun c19 => ?_)
      · skip
        have i19 := r_le2 1000 1000 c19 (in_c 1000 rfl) i13 rfl
        refine g_iconst 0 27 (gd rfl) rfl rfl ?_
        refine g_callv (X := _) (As := [.int (Int32.ofInt 1), .int (Int32.ofInt 0)]) (r := []) (b := A 109) (q := 109) 30 (gd rfl) rfl rfl rfl rfl rfl (ww_o rfl) (Nat.le_of_ble_eq_true rfl) (mc := 0) (ms := 0) (Nat.zero_le _) (Nat.zero_le _) (P := fun v u => _) ?_ (fun e u h => h) (fun v u h => h)
        intro po27 xx27 hp27 hx27
        refine g_enter2 (k := 270) (N := 300) (by omega) rfl (Nat.le_of_ble_eq_true rfl) ?_
        refine g_aload_n 1 (gd rfl) rfl rfl ?_
        refine g_iload_n 2 (gd rfl) rfl rfl ?_
        refine g_if_ne 5 9 (gd rfl) rfl rfl (fun c27x2 => ?_) (fun c27x2 => ?_)
        · skip
          refine g_iload_n 10 (gd rfl) rfl rfl ?_
          refine g_if_ne 13 17 (gd rfl) rfl rfl (fun c27x10 => ?_) (fun c27x10 => ?_)
          · skip
            exact zn_ne c27x10 (in_c 0 rfl) rfl
          · skip
            refine g_iconst 2 14 (gd rfl) rfl rfl ?_
            refine g_goto 18 (gd rfl) rfl ?_
            refine g_putI 21 (gd rfl) rfl rfl rfl rfl ?_
            have hI27x18 := inv_sF (q := 109) (j := 0) hI rfl (in_w 0 2 (in_c 2 rfl) rfl)
            refine g_aload_n 22 (gd rfl) rfl rfl ?_
            refine g_getI 25 (gd rfl) rfl rfl rfl (fun z27x22 e27x22 => ?_)
            have q27x22 : (Int32.ofInt 2) = z27x22 := (sF_get).trans e27x22.symm
            subst q27x22
            refine g_if_le 28 32 (gd rfl) rfl rfl (fun c27x25 => ?_) (fun c27x25 => ?_)
            · skip
              exact zn_le c27x25 (in_c 2 rfl) rfl
            · skip
              refine g_iconst 1 29 (gd rfl) rfl rfl ?_
              refine g_goto 33 (gd rfl) rfl ?_
              refine g_ireturn (gd rfl) rfl (nb01 (in_w 0 1 (in_c 1 rfl) rfl)) (hp27 _ _ ?_)
              show GG _ _ _ _ _ _ _ _ [.int (Int32.ofInt 1)] _ _ _
              refine g_if_eq 33 35 (gd rfl) rfl rfl (fun c30 => ?_) (fun c30 => ?_)
              · skip
                exact zn_eq c30 (in_c 1 rfl) rfl
              · skip
                refine g_iconst 0 34 (gd rfl) rfl rfl ?_
                exact g_ireturn (gd rfl) rfl rfl (hP _ _ ⟨(sF s 109 0 (Int32.ofInt 2)), hI27x18, (fr_sF rfl fr_rf), (Int32.ofInt 0), rfl, rfl, in_w 0 1000 (in_c 0 rfl) rfl⟩)
        · skip
          exact zn_eq c27x2 (in_c 1 rfl) rfl
      · skip
        have i19 := r_lt1 0 999 c19 i13 (in_c 1000 rfl) rfl
        refine g_iconst 1 23 (gd rfl) rfl rfl ?_
        refine g_goto 27 (gd rfl) rfl ?_
        refine g_callv (X := _) (As := [.int (Int32.ofInt 1), .int (Int32.ofInt 1)]) (r := []) (b := A 109) (q := 109) 30 (gd rfl) rfl rfl rfl rfl rfl (ww_o rfl) (Nat.le_of_ble_eq_true rfl) (mc := 0) (ms := 0) (Nat.zero_le _) (Nat.zero_le _) (P := fun v u => _) ?_ (fun e u h => h) (fun v u h => h)
        intro po27 xx27 hp27 hx27
        refine g_enter2 (k := 270) (N := 300) (by omega) rfl (Nat.le_of_ble_eq_true rfl) ?_
        refine g_aload_n 1 (gd rfl) rfl rfl ?_
        refine g_iload_n 2 (gd rfl) rfl rfl ?_
        refine g_if_ne 5 9 (gd rfl) rfl rfl (fun c27x2 => ?_) (fun c27x2 => ?_)
        · skip
          refine g_iload_n 10 (gd rfl) rfl rfl ?_
          refine g_if_ne 13 17 (gd rfl) rfl rfl (fun c27x10 => ?_) (fun c27x10 => ?_)
          · skip
            refine g_iconst 0 18 (gd rfl) rfl rfl ?_
            refine g_putI 21 (gd rfl) rfl rfl rfl rfl ?_
            have hI27x18 := inv_sF (q := 109) (j := 0) hI rfl (in_w 0 2 (in_c 0 rfl) rfl)
            refine g_aload_n 22 (gd rfl) rfl rfl ?_
            refine g_getI 25 (gd rfl) rfl rfl rfl (fun z27x22 e27x22 => ?_)
            have q27x22 : (Int32.ofInt 0) = z27x22 := (sF_get).trans e27x22.symm
            subst q27x22
            refine g_if_le 28 32 (gd rfl) rfl rfl (fun c27x25 => ?_) (fun c27x25 => ?_)
            · skip
              refine g_iconst 0 33 (gd rfl) rfl rfl ?_
              refine g_ireturn (gd rfl) rfl (nb01 (in_w 0 1 (in_c 0 rfl) rfl)) (hp27 _ _ ?_)
              show GG _ _ _ _ _ _ _ _ [.int (Int32.ofInt 0)] _ _ _
              refine g_if_eq 33 35 (gd rfl) rfl rfl (fun c30 => ?_) (fun c30 => ?_)
              · skip
                refine g_aload_n 36 (gd rfl) rfl rfl ?_
                refine g_getA (q2 := 125) 39 (gd rfl) rfl rfl rfl rfl ?_
                refine g_aload_n 40 (gd rfl) rfl rfl ?_
                refine g_getI 43 (gd rfl) rfl rfl rfl (fun z40 e40 => ?_)
                have q40 : z13 = z40 := (sF_ne rfl (e13)).trans e40.symm
                subst q40
                refine g_iload_n 44 (gd rfl) rfl rfl ?_
                refine g_iastore 45 (gd rfl) rfl (n := 1000) rfl (in_ix i19 rfl) ?_
                have hI44 := inv_sI (q := 125) (j := z13.toNatClampNeg) hI27x18 rfl (in_w 0 126 i9x10b rfl)
                refine g_aload_n 46 (gd rfl) rfl rfl ?_
                refine g_dup 47 (gd rfl) rfl rfl ?_
                refine g_getI 50 (gd rfl) rfl rfl rfl (fun z47 e47 => ?_)
                have q47 : z13 = z47 := (sI_F (sF_ne rfl (e13))).trans e47.symm
                subst q47
                refine g_iconst 1 51 (gd rfl) rfl rfl ?_
                refine g_iadd 52 (gd rfl) rfl (fun z51 e51 => ?_)
                have i51 := in_add 1 1000 e51 i19 (in_c 1 rfl) rfl rfl
                refine g_putI 55 (gd rfl) rfl rfl rfl rfl ?_
                have hI52 := inv_sF (q := 109) (j := 22) hI44 rfl (in_w 0 1000 i51 rfl)
                refine g_aload_n 56 (gd rfl) rfl rfl ?_
                refine g_getI 59 (gd rfl) rfl rfl rfl (fun z56 e56 => ?_)
                have q56 : z51 = z56 := (sF_get).trans e56.symm
                subst q56
                exact g_ireturn (gd rfl) rfl rfl (hP _ _ ⟨(sF (sI (sF s 109 0 (Int32.ofInt 0)) 125 z13.toNatClampNeg x1) 109 22 z51), hI52, (fr_sF rfl (fr_sI rfl (fr_sF rfl fr_rf))), z51, rfl, rfl, in_w 0 1000 i51 rfl⟩)
              · skip
                exact zn_ne c30 (in_c 0 rfl) rfl
            · skip
              exact zn_gt c27x25 (in_c 0 rfl) rfl
          · skip
            exact zn_eq c27x10 (in_c 1 rfl) rfl
        · skip
          exact zn_eq c27x2 (in_c 1 rfl) rfl

def fm_294 : FM := ([], [], [(109, 0), (109, 22)], [])
/-- GraphHouseModel.wipe -/
theorem k_294 {Z : AmZ} {A : Nat → Nat} {s : GS} {ex : va_W} {d : Nat} {X : AmX}  (hd : 1 ≤ d) (hI : Inv s)  : GC Z d 294 [.ref (A 109)] (WW Z A s ++ ex) 0 0 (fun v u => ∃ t : GS, Inv t ∧ Fr fm_294 s t ∧ ∃ z : Int32, v = some (.int z) ∧ u = WW Z A t ++ ex ∧ In z 0 1000) X := by
  intro post xp hP hX
  refine g_enter2 (k := 294) (N := 900) (by omega) rfl (Nat.le_of_ble_eq_true rfl) ?_
  refine g_aload_n 1 (gd rfl) rfl rfl ?_
  refine g_iconst 0 2 (gd rfl) rfl rfl ?_
  refine g_putI 5 (gd rfl) rfl rfl rfl rfl ?_
  have hI2 := inv_sF (q := 109) (j := 0) hI rfl (in_w 0 2 (in_c 0 rfl) rfl)
  refine g_aload_n 6 (gd rfl) rfl rfl ?_
  refine g_getI 9 (gd rfl) rfl rfl rfl (fun z6 e6 => ?_)
  have i6 := inv_F hI2 0 1000 rfl e6
  refine g_istore_n 10 (gd rfl) rfl (Nat.le_of_ble_eq_true rfl) ?_
  refine g_aload_n 11 (gd rfl) rfl rfl ?_
  refine g_iconst 0 12 (gd rfl) rfl rfl ?_
  refine g_putI 15 (gd rfl) rfl rfl rfl rfl ?_
  have hI12 := inv_sF (q := 109) (j := 22) hI2 rfl (in_w 0 1000 (in_c 0 rfl) rfl)
  refine g_iload_n 16 (gd rfl) rfl rfl ?_
  exact g_ireturn (gd rfl) rfl rfl (hP _ _ ⟨(sF (sF s 109 0 (Int32.ofInt 0)) 109 22 (Int32.ofInt 0)), hI12, (fr_sF rfl (fr_sF rfl fr_rf)), z6, rfl, rfl, in_w 0 1000 i6 rfl⟩)

def fm_295 : FM := ([], [], [(109, 0)], [])
/-- GraphHouseModel.fault -/
theorem k_295 {Z : AmZ} {A : Nat → Nat} {s : GS} {ex : va_W} {d : Nat} {X : AmX} {x1 : Int32} (hd : 4 ≤ d) (hI : Inv s)  : GC Z d 295 [.ref (A 109), .int x1] (WW Z A s ++ ex) 0 0 (fun v u => ∃ t : GS, Inv t ∧ Fr fm_295 s t ∧ ∃ z : Int32, v = some (.int z) ∧ u = WW Z A t ++ ex ∧ In z (-2147483648) 2147483647) X := by
  intro post xp hP hX
  obtain ⟨u_109_23, e_109_23⟩ : ∃ w, w = s.2.2.1 109 23 := ⟨_, rfl⟩
  have ro_109_23 := inv_F hI 0 9 rfl e_109_23
  obtain ⟨u_109_24, e_109_24⟩ : ∃ w, w = s.2.2.1 109 24 := ⟨_, rfl⟩
  refine g_enter2 (k := 295) (N := 900) (by omega) rfl (Nat.le_of_ble_eq_true rfl) ?_
  refine g_aload_n 1 (gd rfl) rfl rfl ?_
  refine g_iload_n 2 (gd rfl) rfl rfl ?_
  refine g_i2l 3 (gd rfl) rfl (fun z2 e2 => ?_)
  have i2 := l_i e2 (i_rng x1)
  refine g_lconst 0 4 (gd rfl) rfl rfl ?_
  refine g_lconst 1 5 (gd rfl) rfl rfl ?_
  refine g_calls (As := [.long z2, .long (Int64.ofInt 0), .long (Int64.ofInt 1)]) (r := [.ref (A 109)]) 8 (gd rfl) rfl rfl rfl rfl rfl (Nat.le_of_ble_eq_true rfl) (mc := 0) (ms := 0) (Nat.zero_le _) (Nat.zero_le _) (P := fun v u => _) ?_ (fun v u h => h)
  intro po5 xx5 hp5 hx5
  refine g_enter2 (k := 269) (N := 300) (by omega) rfl (Nat.le_of_ble_eq_true rfl) ?_
  refine g_lload_n 1 (gd rfl) rfl rfl ?_
  refine g_lload_n 2 (gd rfl) rfl rfl ?_
  refine g_lcmp 3 (gd rfl) rfl (fun z5x2 e5x2 => ?_)
  have i5x2 := lc_in e5x2
  refine g_if_lt 6 17 (gd rfl) rfl rfl (fun c5x3 => ?_) (fun c5x3 => ?_)
  · skip
    have i5x3 := z_lt (-1) (-1) c5x3 i5x2 rfl
    have c5x3a := lc_lt e5x2 c5x3
    have i5x3a := lr_lt1 (-2147483648) (-1) c5x3a i2 (l_c 0 rfl) rfl
    have i5x3b := l_b e2 i5x3a
    refine g_iconst 0 18 (gd rfl) rfl rfl ?_
    refine g_ireturn (gd rfl) rfl (nb01 (in_w 0 1 (in_c 0 rfl) rfl)) (hp5 _ _ ?_)
    show GG _ _ _ _ _ _ _ _ [.int (Int32.ofInt 0), .ref (A 109)] _ _ _
    refine g_callv (X := _) (As := [.int (Int32.ofInt 0)]) (r := []) (b := A 109) (q := 109) 11 (gd rfl) rfl rfl rfl rfl rfl (ww_o rfl) (Nat.le_of_ble_eq_true rfl) (mc := 0) (ms := 0) (Nat.zero_le _) (Nat.zero_le _) (P := fun v u => _) ?_ (fun e u h => h) (fun v u h => h)
    intro po8 xx8 hp8 hx8
    refine g_enter2 (k := 271) (N := 300) (by omega) rfl (Nat.le_of_ble_eq_true rfl) ?_
    refine g_aload_n 1 (gd rfl) rfl rfl ?_
    refine g_iload_n 2 (gd rfl) rfl rfl ?_
    refine g_iconst 1 3 (gd rfl) rfl rfl ?_
    refine g_callv (X := _) (As := [.int (Int32.ofInt 0), .int (Int32.ofInt 1)]) (r := []) (b := A 109) (q := 109) 6 (gd rfl) rfl rfl rfl rfl rfl (ww_o rfl) (Nat.le_of_ble_eq_true rfl) (mc := 0) (ms := 0) (Nat.zero_le _) (Nat.zero_le _) (P := fun v u => _) ?_ (fun e u h => h) (fun v u h => h)
    intro po8x3 xx8x3 hp8x3 hx8x3
    refine g_enter2 (k := 270) (N := 300) (by omega) rfl (Nat.le_of_ble_eq_true rfl) ?_
    refine g_aload_n 1 (gd rfl) rfl rfl ?_
    refine g_iload_n 2 (gd rfl) rfl rfl ?_
    refine g_if_ne 5 9 (gd rfl) rfl rfl (fun c8x3x2 => ?_) (fun c8x3x2 => ?_)
    · skip
      exact zn_ne c8x3x2 (in_c 0 rfl) rfl
    · skip
      refine g_iconst 1 6 (gd rfl) rfl rfl ?_
      refine g_goto 18 (gd rfl) rfl ?_
      refine g_putI 21 (gd rfl) rfl rfl rfl rfl ?_
      have hI8x3x18 := inv_sF (q := 109) (j := 0) hI rfl (in_w 0 2 (in_c 1 rfl) rfl)
      refine g_aload_n 22 (gd rfl) rfl rfl ?_
      refine g_getI 25 (gd rfl) rfl rfl rfl (fun z8x3x22 e8x3x22 => ?_)
      have q8x3x22 : (Int32.ofInt 1) = z8x3x22 := (sF_get).trans e8x3x22.symm
      subst q8x3x22
      refine g_if_le 28 32 (gd rfl) rfl rfl (fun c8x3x25 => ?_) (fun c8x3x25 => ?_)
      · skip
        exact zn_le c8x3x25 (in_c 1 rfl) rfl
      · skip
        refine g_iconst 1 29 (gd rfl) rfl rfl ?_
        refine g_goto 33 (gd rfl) rfl ?_
        refine g_ireturn (gd rfl) rfl (nb01 (in_w 0 1 (in_c 1 rfl) rfl)) (hp8x3 _ _ ?_)
        show GG _ _ _ _ _ _ _ _ [.int (Int32.ofInt 1)] _ _ _
        refine g_ireturn (gd rfl) rfl (nb01 (in_w 0 1 (in_c 1 rfl) rfl)) (hp8 _ _ ?_)
        show GG _ _ _ _ _ _ _ _ [.int (Int32.ofInt 1)] _ _ _
        refine g_if_eq 14 16 (gd rfl) rfl rfl (fun c11 => ?_) (fun c11 => ?_)
        · skip
          exact zn_eq c11 (in_c 1 rfl) rfl
        · skip
          refine g_iconst 0 15 (gd rfl) rfl rfl ?_
          exact g_ireturn (gd rfl) rfl rfl (hP _ _ ⟨(sF s 109 0 (Int32.ofInt 1)), hI8x3x18, (fr_sF rfl fr_rf), (Int32.ofInt 0), rfl, rfl, in_w (-2147483648) 2147483647 (in_c 0 rfl) rfl⟩)
  · skip
    have i5x3 := z_ge 0 1 c5x3 i5x2 rfl
    have c5x3a := lc_ge e5x2 c5x3
    have i5x3a := lr_le2 0 2147483647 c5x3a (l_c 0 rfl) i2 rfl
    have i5x3b := l_b e2 i5x3a
    refine g_lload_n 7 (gd rfl) rfl rfl ?_
    refine g_lload 9 (gd rfl) rfl rfl ?_
    refine g_lcmp 10 (gd rfl) rfl (fun z5x9 e5x9 => ?_)
    have i5x9 := lc_in e5x9
    refine g_if_gt 13 17 (gd rfl) rfl rfl (fun c5x10 => ?_) (fun c5x10 => ?_)
    · skip
      have i5x10 := z_gt 1 1 c5x10 i5x9 rfl
      have c5x10a := lc_gt e5x9 c5x10
      have i5x10a := lr_lt2 2 2147483647 c5x10a (l_c 1 rfl) i5x3a rfl
      have i5x10b := l_b e2 i5x10a
      refine g_iconst 0 18 (gd rfl) rfl rfl ?_
      refine g_ireturn (gd rfl) rfl (nb01 (in_w 0 1 (in_c 0 rfl) rfl)) (hp5 _ _ ?_)
      show GG _ _ _ _ _ _ _ _ [.int (Int32.ofInt 0), .ref (A 109)] _ _ _
      refine g_callv (X := _) (As := [.int (Int32.ofInt 0)]) (r := []) (b := A 109) (q := 109) 11 (gd rfl) rfl rfl rfl rfl rfl (ww_o rfl) (Nat.le_of_ble_eq_true rfl) (mc := 0) (ms := 0) (Nat.zero_le _) (Nat.zero_le _) (P := fun v u => _) ?_ (fun e u h => h) (fun v u h => h)
      intro po8 xx8 hp8 hx8
      refine g_enter2 (k := 271) (N := 300) (by omega) rfl (Nat.le_of_ble_eq_true rfl) ?_
      refine g_aload_n 1 (gd rfl) rfl rfl ?_
      refine g_iload_n 2 (gd rfl) rfl rfl ?_
      refine g_iconst 1 3 (gd rfl) rfl rfl ?_
      refine g_callv (X := _) (As := [.int (Int32.ofInt 0), .int (Int32.ofInt 1)]) (r := []) (b := A 109) (q := 109) 6 (gd rfl) rfl rfl rfl rfl rfl (ww_o rfl) (Nat.le_of_ble_eq_true rfl) (mc := 0) (ms := 0) (Nat.zero_le _) (Nat.zero_le _) (P := fun v u => _) ?_ (fun e u h => h) (fun v u h => h)
      intro po8x3 xx8x3 hp8x3 hx8x3
      refine g_enter2 (k := 270) (N := 300) (by omega) rfl (Nat.le_of_ble_eq_true rfl) ?_
      refine g_aload_n 1 (gd rfl) rfl rfl ?_
      refine g_iload_n 2 (gd rfl) rfl rfl ?_
      refine g_if_ne 5 9 (gd rfl) rfl rfl (fun c8x3x2 => ?_) (fun c8x3x2 => ?_)
      · skip
        exact zn_ne c8x3x2 (in_c 0 rfl) rfl
      · skip
        refine g_iconst 1 6 (gd rfl) rfl rfl ?_
        refine g_goto 18 (gd rfl) rfl ?_
        refine g_putI 21 (gd rfl) rfl rfl rfl rfl ?_
        have hI8x3x18 := inv_sF (q := 109) (j := 0) hI rfl (in_w 0 2 (in_c 1 rfl) rfl)
        refine g_aload_n 22 (gd rfl) rfl rfl ?_
        refine g_getI 25 (gd rfl) rfl rfl rfl (fun z8x3x22 e8x3x22 => ?_)
        have q8x3x22 : (Int32.ofInt 1) = z8x3x22 := (sF_get).trans e8x3x22.symm
        subst q8x3x22
        refine g_if_le 28 32 (gd rfl) rfl rfl (fun c8x3x25 => ?_) (fun c8x3x25 => ?_)
        · skip
          exact zn_le c8x3x25 (in_c 1 rfl) rfl
        · skip
          refine g_iconst 1 29 (gd rfl) rfl rfl ?_
          refine g_goto 33 (gd rfl) rfl ?_
          refine g_ireturn (gd rfl) rfl (nb01 (in_w 0 1 (in_c 1 rfl) rfl)) (hp8x3 _ _ ?_)
          show GG _ _ _ _ _ _ _ _ [.int (Int32.ofInt 1)] _ _ _
          refine g_ireturn (gd rfl) rfl (nb01 (in_w 0 1 (in_c 1 rfl) rfl)) (hp8 _ _ ?_)
          show GG _ _ _ _ _ _ _ _ [.int (Int32.ofInt 1)] _ _ _
          refine g_if_eq 14 16 (gd rfl) rfl rfl (fun c11 => ?_) (fun c11 => ?_)
          · skip
            exact zn_eq c11 (in_c 1 rfl) rfl
          · skip
            refine g_iconst 0 15 (gd rfl) rfl rfl ?_
            exact g_ireturn (gd rfl) rfl rfl (hP _ _ ⟨(sF s 109 0 (Int32.ofInt 1)), hI8x3x18, (fr_sF rfl fr_rf), (Int32.ofInt 0), rfl, rfl, in_w (-2147483648) 2147483647 (in_c 0 rfl) rfl⟩)
    · skip
      have i5x10 := z_le (-1) 0 c5x10 i5x9 rfl
      have c5x10a := lc_le e5x9 c5x10
      have i5x10a := lr_le1 0 1 c5x10a i5x3a (l_c 1 rfl) rfl
      have i5x10b := l_b e2 i5x10a
      refine g_iconst 1 14 (gd rfl) rfl rfl ?_
      refine g_goto 18 (gd rfl) rfl ?_
      refine g_ireturn (gd rfl) rfl (nb01 (in_w 0 1 (in_c 1 rfl) rfl)) (hp5 _ _ ?_)
      show GG _ _ _ _ _ _ _ _ [.int (Int32.ofInt 1), .ref (A 109)] _ _ _
      refine g_callv (X := _) (As := [.int (Int32.ofInt 1)]) (r := []) (b := A 109) (q := 109) 11 (gd rfl) rfl rfl rfl rfl rfl (ww_o rfl) (Nat.le_of_ble_eq_true rfl) (mc := 0) (ms := 0) (Nat.zero_le _) (Nat.zero_le _) (P := fun v u => _) ?_ (fun e u h => h) (fun v u h => h)
      intro po8 xx8 hp8 hx8
      refine g_enter2 (k := 271) (N := 300) (by omega) rfl (Nat.le_of_ble_eq_true rfl) ?_
      refine g_aload_n 1 (gd rfl) rfl rfl ?_
      refine g_iload_n 2 (gd rfl) rfl rfl ?_
      refine g_iconst 1 3 (gd rfl) rfl rfl ?_
      refine g_callv (X := _) (As := [.int (Int32.ofInt 1), .int (Int32.ofInt 1)]) (r := []) (b := A 109) (q := 109) 6 (gd rfl) rfl rfl rfl rfl rfl (ww_o rfl) (Nat.le_of_ble_eq_true rfl) (mc := 0) (ms := 0) (Nat.zero_le _) (Nat.zero_le _) (P := fun v u => _) ?_ (fun e u h => h) (fun v u h => h)
      intro po8x3 xx8x3 hp8x3 hx8x3
      refine g_enter2 (k := 270) (N := 300) (by omega) rfl (Nat.le_of_ble_eq_true rfl) ?_
      refine g_aload_n 1 (gd rfl) rfl rfl ?_
      refine g_iload_n 2 (gd rfl) rfl rfl ?_
      refine g_if_ne 5 9 (gd rfl) rfl rfl (fun c8x3x2 => ?_) (fun c8x3x2 => ?_)
      · skip
        refine g_iload_n 10 (gd rfl) rfl rfl ?_
        refine g_if_ne 13 17 (gd rfl) rfl rfl (fun c8x3x10 => ?_) (fun c8x3x10 => ?_)
        · skip
          refine g_iconst 0 18 (gd rfl) rfl rfl ?_
          refine g_putI 21 (gd rfl) rfl rfl rfl rfl ?_
          have hI8x3x18 := inv_sF (q := 109) (j := 0) hI rfl (in_w 0 2 (in_c 0 rfl) rfl)
          refine g_aload_n 22 (gd rfl) rfl rfl ?_
          refine g_getI 25 (gd rfl) rfl rfl rfl (fun z8x3x22 e8x3x22 => ?_)
          have q8x3x22 : (Int32.ofInt 0) = z8x3x22 := (sF_get).trans e8x3x22.symm
          subst q8x3x22
          refine g_if_le 28 32 (gd rfl) rfl rfl (fun c8x3x25 => ?_) (fun c8x3x25 => ?_)
          · skip
            refine g_iconst 0 33 (gd rfl) rfl rfl ?_
            refine g_ireturn (gd rfl) rfl (nb01 (in_w 0 1 (in_c 0 rfl) rfl)) (hp8x3 _ _ ?_)
            show GG _ _ _ _ _ _ _ _ [.int (Int32.ofInt 0)] _ _ _
            refine g_ireturn (gd rfl) rfl (nb01 (in_w 0 1 (in_c 0 rfl) rfl)) (hp8 _ _ ?_)
            show GG _ _ _ _ _ _ _ _ [.int (Int32.ofInt 0)] _ _ _
            refine g_if_eq 14 16 (gd rfl) rfl rfl (fun c11 => ?_) (fun c11 => ?_)
            · skip
              refine g_aload_n 17 (gd rfl) rfl rfl ?_
              refine g_getI 20 (gd rfl) rfl rfl rfl (fun z17 e17 => ?_)
              have q17 : u_109_23 = z17 := (sF_ne rfl (e_109_23)).trans e17.symm
              subst q17
              refine g_if_ne 23 27 (gd rfl) rfl rfl (fun c20 => ?_) (fun c20 => ?_)
              · skip
                have i20 := z_ne 1 9 c20 ro_109_23 rfl
                refine g_iload_n 28 (gd rfl) rfl rfl ?_
                refine g_if_ne 31 38 (gd rfl) rfl rfl (fun c28 => ?_) (fun c28 => ?_)
                · skip
                  have i28 := z_ne 1 1 c28 i5x10b rfl
                  refine g_aload_n 39 (gd rfl) rfl rfl ?_
                  refine g_getI 42 (gd rfl) rfl rfl rfl (fun z39 e39 => ?_)
                  have q39 : u_109_24 = z39 := (sF_ne rfl (e_109_24)).trans e39.symm
                  subst q39
                  exact g_ireturn (gd rfl) rfl rfl (hP _ _ ⟨(sF s 109 0 (Int32.ofInt 0)), hI8x3x18, (fr_sF rfl fr_rf), u_109_24, rfl, rfl, in_w (-2147483648) 2147483647 (i_rng u_109_24) rfl⟩)
                · skip
                  have i28 := z_eq 0 0 c28 i5x10b rfl
                  refine g_aload_n 32 (gd rfl) rfl rfl ?_
                  refine g_getI 35 (gd rfl) rfl rfl rfl (fun z32 e32 => ?_)
                  have q32 : u_109_23 = z32 := (sF_ne rfl (e_109_23)).trans e32.symm
                  subst q32
                  refine g_goto 42 (gd rfl) rfl ?_
                  exact g_ireturn (gd rfl) rfl rfl (hP _ _ ⟨(sF s 109 0 (Int32.ofInt 0)), hI8x3x18, (fr_sF rfl fr_rf), u_109_23, rfl, rfl, in_w (-2147483648) 2147483647 i20 rfl⟩)
              · skip
                have i20 := z_eq 0 0 c20 ro_109_23 rfl
                refine g_iconst (-1) 24 (gd rfl) rfl rfl ?_
                refine g_goto 42 (gd rfl) rfl ?_
                exact g_ireturn (gd rfl) rfl rfl (hP _ _ ⟨(sF s 109 0 (Int32.ofInt 0)), hI8x3x18, (fr_sF rfl fr_rf), (Int32.ofInt (-1)), rfl, rfl, in_w (-2147483648) 2147483647 (in_c (-1) rfl) rfl⟩)
            · skip
              exact zn_ne c11 (in_c 0 rfl) rfl
          · skip
            exact zn_gt c8x3x25 (in_c 0 rfl) rfl
        · skip
          exact zn_eq c8x3x10 (in_c 1 rfl) rfl
      · skip
        exact zn_eq c8x3x2 (in_c 1 rfl) rfl

def fm_303 : FM := ([110, 112], [], [], [])
/-- GraphHouseModel.copyGraph -/
theorem k_303 {Z : AmZ} {A : Nat → Nat} {s : GS} {ex : va_W} {d : Nat} {X : AmX}  (hd : 1 ≤ d) (hI : Inv s)  : GC Z d 303 [.ref (A 109)] (WW Z A s ++ ex) 0 0 (fun v u => ∃ t : GS, Inv t ∧ Fr fm_303 s t ∧ v = none ∧ u = WW Z A t ++ ex ∧ (t.1 110 2 = s.1 110 0 ∧ t.1 110 0 = s.1 110 0 ∧ ∀ i : Nat, i < 160 → t.1 112 (320 + i) = s.1 112 i ∧ t.1 112 i = s.1 112 i)) X := by
  intro post xp hP hX
  have ct14 : ∀ (k14 : Nat) (sc14 : GS) (y14_1 : Int32), Inv sc14 → Fr fm_303 s sc14 → (In y14_1 0 160) → (sc14.1 110 2 = s.1 110 0 ∧ sc14.1 110 0 = s.1 110 0 ∧ (∀ i : Nat, i < 160 → sc14.1 112 i = s.1 112 i) ∧ ∀ i : Nat, (i : Int) < (y14_1).toInt → sc14.1 112 (320 + i) = s.1 112 i) → 160 - (y14_1).toInt < (k14 : Int) → GG Z (d - 1) 303 post (gx xp) (1 + k14 * 900) 14 (fun j => xlook j [(0, .ref (A 109)), (1, .int y14_1)]) [] (WW Z A sc14 ++ ex) 0 0 := by
    intro k14
    induction k14 with
    | zero => intro sc14 y14_1 hIc14 hFc14 j14_1 g14_0 mm14; exact m_no mm14 j14_1 rfl
    | succ k14 ih14 =>
      intro sc14 y14_1 hIc14 hFc14 j14_1 g14_0 mm14
      refine gg_w (M := 1 + k14 * 900 + 900) (by omega) ?_
      refine g_iload_n 15 (gd rfl) rfl rfl ?_
      refine g_sipush 160 18 (gd rfl) rfl rfl ?_
      refine g_cmp_ge 21 43 (gd rfl) rfl rfl (fun c18 => ?_) (fun c18 => ?_)
      · skip
        have i18 := r_le2 160 160 c18 (in_c 160 rfl) j14_1 rfl
        have n43 : sc14.1 110 2 = s.1 110 0 ∧ sc14.1 110 0 = s.1 110 0 ∧ ∀ i : Nat, i < 160 → sc14.1 112 (320 + i) = s.1 112 i ∧ sc14.1 112 i = s.1 112 i := by exact ⟨g14_0.1, g14_0.2.1, fun i hi => ⟨g14_0.2.2.2 i (by have a0 := i18; unfold In at a0; omega), g14_0.2.2.1 i hi⟩⟩
        exact g_return (gd rfl) rfl (hP _ _ ⟨sc14, hIc14, hFc14, rfl, rfl, n43⟩)
      · skip
        have i18 := r_lt1 0 159 c18 j14_1 (in_c 160 rfl) rfl
        refine g_aload_n 22 (gd rfl) rfl rfl ?_
        refine g_getA (q2 := 112) 25 (gd rfl) rfl rfl rfl rfl ?_
        refine g_sipush 320 28 (gd rfl) rfl rfl ?_
        refine g_iload_n 29 (gd rfl) rfl rfl ?_
        refine g_iadd 30 (gd rfl) rfl (fun z29 e29 => ?_)
        have i29 := in_add 320 479 e29 (in_c 320 rfl) i18 rfl rfl
        refine g_aload_n 31 (gd rfl) rfl rfl ?_
        refine g_getA (q2 := 112) 34 (gd rfl) rfl rfl rfl rfl ?_
        refine g_iload_n 35 (gd rfl) rfl rfl ?_
        refine g_baload 36 (gd rfl) rfl (n := 480) rfl (in_ix i18 rfl) (fun z35 e35 => ?_)
        have i35 := inv_I hIc14 (n := 480) (t := 3) 0 1 rfl (in_ix i18 rfl) rfl e35
        refine g_bastore 37 (gd rfl) rfl (n := 480) rfl (in_ix i29 rfl) ?_
        have hI36 : Inv (sI sc14 112 z29.toNatClampNeg (vp_nar .boolean z35)) := by exact inv_t3 hIc14 (by show 320 ≤ (z29).toInt.toNat; have a0 := i18; unfold In at a0; have a1 := i29; unfold In at a1; have a2 := t_add e29 (in_c 320 rfl) i18 rfl; have a3 := (in_c 320 rfl); unfold In at a3; omega) (in_w 0 1 (nar01 (in_w 0 1 i35 rfl)) rfl)
        refine g_iinc 40 (gd rfl) rfl rfl (Nat.le_of_ble_eq_true rfl) (fun z37 e37 => ?_)
        have i37 := in_add 1 160 e37 i18 (in_c 1 rfl) rfl rfl
        refine g_goto 14 (gd rfl) rfl ?_
        have n14 : (sI sc14 112 z29.toNatClampNeg (vp_nar .boolean z35)).1 110 2 = s.1 110 0 ∧ (sI sc14 112 z29.toNatClampNeg (vp_nar .boolean z35)).1 110 0 = s.1 110 0 ∧ (∀ i : Nat, i < 160 → (sI sc14 112 z29.toNatClampNeg (vp_nar .boolean z35)).1 112 i = s.1 112 i) ∧ ∀ i : Nat, (i : Int) < (z37).toInt → (sI sc14 112 z29.toNatClampNeg (vp_nar .boolean z35)).1 112 (320 + i) = s.1 112 i := by (have ez : z29.toNatClampNeg = 320 + y14_1.toNatClampNeg := (by show z29.toInt.toNat = 320 + y14_1.toInt.toNat; have a0 := i18; unfold In at a0; have a1 := i37; unfold In at a1; have a2 := t_add e37 i18 (in_c 1 rfl) rfl; have a3 := (in_c 1 rfl); unfold In at a3; have a4 := i29; unfold In at a4; have a5 := t_add e29 (in_c 320 rfl) i18 rfl; have a6 := (in_c 320 rfl); unfold In at a6; omega); have e1 : y14_1.toNatClampNeg = y14_1.toInt.toNat := rfl; refine ⟨by rw [sI_p rfl]; exact g14_0.1, by rw [sI_p rfl]; exact g14_0.2.1, fun i hi => ?_, fun i hi => ?_⟩ <;> rw [sI_q]; (rw [up_n (by omega)]; exact g14_0.2.2.1 i hi); (by_cases c : i = y14_1.toNatClampNeg; (rw [c, ← ez, up_e, nar_b i35, e35]; exact g14_0.2.2.1 _ (by have a0 := i18; unfold In at a0; have a1 := i37; unfold In at a1; have a2 := t_add e37 i18 (in_c 1 rfl) rfl; have a3 := (in_c 1 rfl); unfold In at a3; have a4 := i29; unfold In at a4; have a5 := t_add e29 (in_c 320 rfl) i18 rfl; have a6 := (in_c 320 rfl); unfold In at a6; omega)); (rw [up_n (by omega)]; exact g14_0.2.2.2 i (by have a0 := i18; unfold In at a0; have a1 := i37; unfold In at a1; have a2 := t_add e37 i18 (in_c 1 rfl) rfl; have a3 := (in_c 1 rfl); unfold In at a3; have a4 := i29; unfold In at a4; have a5 := t_add e29 (in_c 320 rfl) i18 rfl; have a6 := (in_c 320 rfl); unfold In at a6; omega))))
        exact gg_w (by omega) (gg_f (gf_cons rfl (gf_cons rfl gf_nil)) (ih14 (sI sc14 112 z29.toNatClampNeg (vp_nar .boolean z35)) z37 hI36 (fr_sI rfl hFc14) (in_w 0 160 i37 rfl) n14 (m_up mm14 (t_add e37 i18 (in_c 1 rfl) rfl) (in_w 1 1 (in_c 1 rfl) rfl))))
  refine g_enter2 (k := 303) (N := 145801) (by omega) rfl (Nat.le_of_ble_eq_true rfl) ?_
  refine g_aload_n 1 (gd rfl) rfl rfl ?_
  refine g_getA (q2 := 110) 4 (gd rfl) rfl rfl rfl rfl ?_
  refine g_iconst 2 5 (gd rfl) rfl rfl ?_
  refine g_aload_n 6 (gd rfl) rfl rfl ?_
  refine g_getA (q2 := 110) 9 (gd rfl) rfl rfl rfl rfl ?_
  refine g_iconst 0 10 (gd rfl) rfl rfl ?_
  refine g_iaload 11 (gd rfl) rfl (n := 3) rfl (in_ix (in_c 0 rfl) rfl) (fun z10 e10 => ?_)
  have i10 := nn_01 hI (in_c 0 rfl) rfl e10
  refine g_iastore 12 (gd rfl) rfl (n := 3) rfl (in_ix (in_c 2 rfl) rfl) ?_
  have hI11 : Inv (sI s 110 (Int32.ofInt 2).toNatClampNeg z10) := by exact inv_n2 hI (Nat.le_refl 2)
  refine g_iconst 0 13 (gd rfl) rfl rfl ?_
  refine g_istore_n 14 (gd rfl) rfl (Nat.le_of_ble_eq_true rfl) ?_
  have n14 : (sI s 110 (Int32.ofInt 2).toNatClampNeg z10).1 110 2 = s.1 110 0 ∧ (sI s 110 (Int32.ofInt 2).toNatClampNeg z10).1 110 0 = s.1 110 0 ∧ (∀ i : Nat, i < 160 → (sI s 110 (Int32.ofInt 2).toNatClampNeg z10).1 112 i = s.1 112 i) ∧ ∀ i : Nat, (i : Int) < ((Int32.ofInt 0)).toInt → (sI s 110 (Int32.ofInt 2).toNatClampNeg z10).1 112 (320 + i) = s.1 112 i := by exact ⟨by rw [sI_q, e10]; exact up_e, by rw [sI_q]; exact up_n (by decide), fun i _ => by rw [sI_p rfl], fun i hi => (by exfalso; have h0 : (Int32.ofInt 0).toInt = 0 := rfl; omega)⟩
  exact gg_w (by omega) (gg_f (gf_cons rfl (gf_cons rfl gf_nil)) (ct14 161 (sI s 110 (Int32.ofInt 2).toNatClampNeg z10) (Int32.ofInt 0) hI11 (fr_sI rfl fr_rf) (in_w 0 160 (in_c 0 rfl) rfl) n14 (m_in 161 (in_w 0 160 (in_c 0 rfl) rfl) rfl)))

def fm_307 : FM := ([126], [], [(109, 26)], [])
/-- GraphHouseModel.putNumber -/
theorem k_307 {Z : AmZ} {A : Nat → Nat} {s : GS} {ex : va_W} {d : Nat} {X : AmX} {x1 : Int32} {u_109_26 : Int32} (hd : 3 ≤ d) (hI : Inv s) (h1 : In x1 (-1000000) 1000000) (e_109_26 : u_109_26 = s.2.2.1 109 26) (p_0 : (u_109_26).toInt ≤ 7900) : GC Z d 307 [.ref (A 109), .int x1] (WW Z A s ++ ex) 0 0 (fun v u => ∃ t : GS, Inv t ∧ Fr fm_307 s t ∧ ((t.2.2.1 109 26).toInt ≤ (s.2.2.1 109 26).toInt + 9) ∧ v = none ∧ u = WW Z A t ++ ex) X := by
  intro post xp hP hX
  have ct45 : ∀ (k45 : Nat) (sc45 : GS) (y45_2 : Int32) (y45_3 : Int32) (w45_109_26 : Int32), Inv sc45 → Fr fm_307 s sc45 → (In y45_2 0 1000000) → (In y45_3 0 1000000) → (w45_109_26 = sc45.2.2.1 109 26) → ((((y45_3).toInt = 1 ∧ (w45_109_26).toInt ≤ (u_109_26).toInt + 8) ∨ ((y45_3).toInt = 10 ∧ (w45_109_26).toInt ≤ (u_109_26).toInt + 7) ∨ ((y45_3).toInt = 100 ∧ (w45_109_26).toInt ≤ (u_109_26).toInt + 6) ∨ ((y45_3).toInt = 1000 ∧ (w45_109_26).toInt ≤ (u_109_26).toInt + 5) ∨ ((y45_3).toInt = 10000 ∧ (w45_109_26).toInt ≤ (u_109_26).toInt + 4) ∨ ((y45_3).toInt = 100000 ∧ (w45_109_26).toInt ≤ (u_109_26).toInt + 3) ∨ ((y45_3).toInt = 1000000 ∧ (w45_109_26).toInt ≤ (u_109_26).toInt + 2) ∨ ((y45_3).toInt = 0 ∧ (w45_109_26).toInt ≤ (u_109_26).toInt + 9))) → (y45_3).toInt < (k45 : Int) → GG Z (d - 1) 307 post (gx xp) (1 + k45 * 900) 45 (fun j => xlook j [(0, .ref (A 109)), (1, .int x1), (2, .int y45_2), (3, .int y45_3)]) [] (WW Z A sc45 ++ ex) 0 0 := by
    intro k45
    induction k45 with
    | zero => intro sc45 y45_2 y45_3 w45_109_26 hIc45 hFc45 j45_2 j45_3 v45_109_26 n45_0 mm45; exfalso; have a0 := h1; unfold In at a0; have a1 := (inv_F hIc45 0 8000 rfl v45_109_26); unfold In at a1; have a2 := j45_3; unfold In at a2; have a3 := j45_2; unfold In at a3; omega
    | succ k45 ih45 =>
      intro sc45 y45_2 y45_3 w45_109_26 hIc45 hFc45 j45_2 j45_3 v45_109_26 n45_0 mm45
      refine gg_w (M := 1 + k45 * 900 + 900) (by omega) ?_
      refine g_iload_n 46 (gd rfl) rfl rfl ?_
      refine g_if_le 49 70 (gd rfl) rfl rfl (fun c46 => ?_) (fun c46 => ?_)
      · skip
        have i46 := z_le 0 0 c46 j45_3 rfl
        have n70 : (w45_109_26).toInt ≤ (u_109_26).toInt + 9 := by have a0 := h1; unfold In at a0; have a1 := (inv_F hIc45 0 8000 rfl v45_109_26); unfold In at a1; have a2 := i46; unfold In at a2; have a3 := j45_2; unfold In at a3; omega
        have n70a : (sc45.2.2.1 109 26).toInt ≤ (s.2.2.1 109 26).toInt + 9 := by have b0 : w45_109_26 = sc45.2.2.1 109 26 := v45_109_26; first | (rw [← b0, ← e_109_26]; exact n70) | (rw [← b0]; exact n70)
        exact g_return (gd rfl) rfl (hP _ _ ⟨sc45, hIc45, hFc45, n70a, rfl, rfl⟩)
      · skip
        have i46 := z_gt 1 1000000 c46 j45_3 rfl
        refine g_aload_n 50 (gd rfl) rfl rfl ?_
        refine g_bipush 48 52 (gd rfl) rfl rfl ?_
        refine g_iload_n 53 (gd rfl) rfl rfl ?_
        refine g_iload_n 54 (gd rfl) rfl rfl ?_
        refine g_idiv 55 (gd rfl) rfl (dv_nz i46 rfl) (fun z54 e54 => ?_)
        have i54 := in_divv e54 j45_2 i46 rfl
        refine g_bipush 10 57 (gd rfl) rfl rfl ?_
        refine g_irem 58 (gd rfl) rfl (by decide) (fun z57 e57 => ?_)
        have i57 := in_rem 9 e57 i54 rfl rfl
        refine g_iadd 59 (gd rfl) rfl (fun z58 e58 => ?_)
        have i58 := in_add 48 57 e58 (in_c 48 rfl) i57 rfl rfl
        refine g_callv (X := _) (As := [.int z58]) (r := []) (b := A 109) (q := 109) 62 (gd rfl) rfl rfl rfl rfl rfl (ww_o rfl) (Nat.le_of_ble_eq_true rfl) (mc := 0) (ms := 0) (Nat.zero_le _) (Nat.zero_le _) (P := fun v u => _) ?_ (fun e u h => h) (fun v u h => h)
        intro po59 xx59 hp59 hx59
        refine g_enter2 (k := 306) (N := 300) (by omega) rfl (Nat.le_of_ble_eq_true rfl) ?_
        refine g_aload_n 1 (gd rfl) rfl rfl ?_
        refine g_getA (q2 := 126) 4 (gd rfl) rfl rfl rfl rfl ?_
        refine g_aload_n 5 (gd rfl) rfl rfl ?_
        refine g_getI 8 (gd rfl) rfl rfl rfl (fun z59x5 e59x5 => ?_)
        have q59x5 : w45_109_26 = z59x5 := (v45_109_26).trans e59x5.symm
        subst q59x5
        refine g_iload_n 9 (gd rfl) rfl rfl ?_
        have i59x9 : In w45_109_26 0 7999 := by have a0 := h1; unfold In at a0; have a1 := (inv_F hIc45 0 8000 rfl v45_109_26); unfold In at a1; have a2 := i46; unfold In at a2; have a3 := j45_2; unfold In at a3; have a4 := i58; unfold In at a4; have a5 := t_add e58 (in_c 48 rfl) i57 rfl; have a6 := i57; unfold In at a6; have a7 := (in_c 48 rfl); unfold In at a7; exact ⟨by omega, by omega⟩
        refine g_iastore 10 (gd rfl) rfl (n := 8000) rfl (in_ix i59x9 rfl) ?_
        have hI59x9 := inv_sI (q := 126) (j := w45_109_26.toNatClampNeg) hIc45 rfl (in_w (-2147483648) 2147483647 i58 rfl)
        refine g_aload_n 11 (gd rfl) rfl rfl ?_
        refine g_dup 12 (gd rfl) rfl rfl ?_
        refine g_getI 15 (gd rfl) rfl rfl rfl (fun z59x12 e59x12 => ?_)
        have q59x12 : w45_109_26 = z59x12 := (sI_F (v45_109_26)).trans e59x12.symm
        subst q59x12
        refine g_iconst 1 16 (gd rfl) rfl rfl ?_
        refine g_iadd 17 (gd rfl) rfl (fun z59x16 e59x16 => ?_)
        have i59x16 := in_add 1 8000 e59x16 i59x9 (in_c 1 rfl) rfl rfl
        refine g_putI 20 (gd rfl) rfl rfl rfl rfl ?_
        have hI59x17 := inv_sF (q := 109) (j := 26) hI59x9 rfl (in_w 0 8000 i59x16 rfl)
        refine g_return (gd rfl) rfl (hp59 _ _ ?_)
        show GG _ _ _ _ _ _ _ _ [] _ _ _
        refine g_iload_n 63 (gd rfl) rfl rfl ?_
        refine g_bipush 10 65 (gd rfl) rfl rfl ?_
        refine g_idiv 66 (gd rfl) rfl (by decide) (fun z65 e65 => ?_)
        have i65 := in_div 0 100000 e65 i46 rfl rfl
        refine g_istore_n 67 (gd rfl) rfl (Nat.le_of_ble_eq_true rfl) ?_
        refine g_goto 45 (gd rfl) rfl ?_
        have v45 : z59x16 = (sF (sI sc45 126 w45_109_26.toNatClampNeg z58) 109 26 z59x16).2.2.1 109 26 := sF_get
        have n45 : (((z65).toInt = 1 ∧ (z59x16).toInt ≤ (u_109_26).toInt + 8) ∨ ((z65).toInt = 10 ∧ (z59x16).toInt ≤ (u_109_26).toInt + 7) ∨ ((z65).toInt = 100 ∧ (z59x16).toInt ≤ (u_109_26).toInt + 6) ∨ ((z65).toInt = 1000 ∧ (z59x16).toInt ≤ (u_109_26).toInt + 5) ∨ ((z65).toInt = 10000 ∧ (z59x16).toInt ≤ (u_109_26).toInt + 4) ∨ ((z65).toInt = 100000 ∧ (z59x16).toInt ≤ (u_109_26).toInt + 3) ∨ ((z65).toInt = 1000000 ∧ (z59x16).toInt ≤ (u_109_26).toInt + 2) ∨ ((z65).toInt = 0 ∧ (z59x16).toInt ≤ (u_109_26).toInt + 9)) := by have a0 := h1; unfold In at a0; have a1 := i59x9; unfold In at a1; have a2 := i46; unfold In at a2; have a3 := j45_2; unfold In at a3; have a4 := i65; unfold In at a4; have a5 := t_div e65 i46 rfl; have a6 := i59x16; unfold In at a6; have a7 := t_add e59x16 i59x9 (in_c 1 rfl) rfl; have a8 := (in_c 1 rfl); unfold In at a8; have a9 := i58; unfold In at a9; have a10 := t_add e58 (in_c 48 rfl) i57 rfl; have a11 := i57; unfold In at a11; have a12 := (in_c 48 rfl); unfold In at a12; omega
        have m45 : (z65).toInt < ((k45 : Nat) : Int) := by have a0 := h1; unfold In at a0; have a1 := i59x9; unfold In at a1; have a2 := i46; unfold In at a2; have a3 := j45_2; unfold In at a3; have a4 := i65; unfold In at a4; have a5 := t_div e65 i46 rfl; have a6 := i59x16; unfold In at a6; have a7 := t_add e59x16 i59x9 (in_c 1 rfl) rfl; have a8 := (in_c 1 rfl); unfold In at a8; have a9 := i58; unfold In at a9; have a10 := t_add e58 (in_c 48 rfl) i57 rfl; have a11 := i57; unfold In at a11; have a12 := (in_c 48 rfl); unfold In at a12; omega
        exact gg_w (by omega) (gg_f (gf_cons rfl (gf_cons rfl (gf_cons rfl (gf_cons rfl gf_nil)))) (ih45  (sF (sI sc45 126 w45_109_26.toNatClampNeg z58) 109 26 z59x16) y45_2 z65 z59x16 hI59x17 (fr_sF rfl (fr_sI rfl hFc45)) (in_w 0 1000000 j45_2 rfl) (in_w 0 1000000 i65 rfl) v45 n45 m45))
  have ct29 : ∀ (k29 : Nat) (sc29 : GS) (y29_2 : Int32) (y29_3 : Int32) (w29_109_26 : Int32), Inv sc29 → Fr fm_307 s sc29 → (In y29_2 0 1000000) → (In y29_3 1 1000000) → (w29_109_26 = sc29.2.2.1 109 26) → ((w29_109_26).toInt ≤ (u_109_26).toInt + 2) → (((y29_3).toInt = 1 ∨ (y29_3).toInt = 10 ∨ (y29_3).toInt = 100 ∨ (y29_3).toInt = 1000 ∨ (y29_3).toInt = 10000 ∨ (y29_3).toInt = 100000 ∨ (y29_3).toInt = 1000000)) → 2000000 - (y29_3).toInt < (k29 : Int) → GG Z (d - 1) 307 post (gx xp) (900001802 + k29 * 900) 29 (fun j => xlook j [(0, .ref (A 109)), (1, .int x1), (2, .int y29_2), (3, .int y29_3)]) [] (WW Z A sc29 ++ ex) 0 0 := by
    intro k29
    induction k29 with
    | zero => intro sc29 y29_2 y29_3 w29_109_26 hIc29 hFc29 j29_2 j29_3 v29_109_26 n29_0 n29_1 mm29; exfalso; have a0 := h1; unfold In at a0; have a1 := (inv_F hIc29 0 8000 rfl v29_109_26); unfold In at a1; have a2 := j29_3; unfold In at a2; have a3 := j29_2; unfold In at a3; omega
    | succ k29 ih29 =>
      intro sc29 y29_2 y29_3 w29_109_26 hIc29 hFc29 j29_2 j29_3 v29_109_26 n29_0 n29_1 mm29
      refine gg_w (M := 900001802 + k29 * 900 + 900) (by omega) ?_
      refine g_iload_n 30 (gd rfl) rfl rfl ?_
      refine g_iload_n 31 (gd rfl) rfl rfl ?_
      refine g_idiv 32 (gd rfl) rfl (dv_nz j29_3 rfl) (fun z31 e31 => ?_)
      have i31 := in_divv e31 j29_2 j29_3 rfl
      refine g_bipush 10 34 (gd rfl) rfl rfl ?_
      refine g_cmp_lt 37 45 (gd rfl) rfl rfl (fun c34 => ?_) (fun c34 => ?_)
      · skip
        have i34 := r_lt1 0 9 c34 i31 (in_c 10 rfl) rfl
        have n45 : (((y29_3).toInt = 1 ∧ (w29_109_26).toInt ≤ (u_109_26).toInt + 8) ∨ ((y29_3).toInt = 10 ∧ (w29_109_26).toInt ≤ (u_109_26).toInt + 7) ∨ ((y29_3).toInt = 100 ∧ (w29_109_26).toInt ≤ (u_109_26).toInt + 6) ∨ ((y29_3).toInt = 1000 ∧ (w29_109_26).toInt ≤ (u_109_26).toInt + 5) ∨ ((y29_3).toInt = 10000 ∧ (w29_109_26).toInt ≤ (u_109_26).toInt + 4) ∨ ((y29_3).toInt = 100000 ∧ (w29_109_26).toInt ≤ (u_109_26).toInt + 3) ∨ ((y29_3).toInt = 1000000 ∧ (w29_109_26).toInt ≤ (u_109_26).toInt + 2) ∨ ((y29_3).toInt = 0 ∧ (w29_109_26).toInt ≤ (u_109_26).toInt + 9)) := by have a0 := h1; unfold In at a0; have a1 := (inv_F hIc29 0 8000 rfl v29_109_26); unfold In at a1; have a2 := j29_3; unfold In at a2; have a3 := j29_2; unfold In at a3; omega
        have m45 : (y29_3).toInt < ((1000002 : Nat) : Int) := by have a0 := h1; unfold In at a0; have a1 := (inv_F hIc29 0 8000 rfl v29_109_26); unfold In at a1; have a2 := j29_3; unfold In at a2; have a3 := j29_2; unfold In at a3; omega
        exact gg_w (by omega) (gg_f (gf_cons rfl (gf_cons rfl (gf_cons rfl (gf_cons rfl gf_nil)))) (ct45 1000002 sc29 y29_2 y29_3 w29_109_26 hIc29 hFc29 (in_w 0 1000000 j29_2 rfl) (in_w 0 1000000 j29_3 rfl) v29_109_26 n45 m45))
      · skip
        have i34 := r_le2 10 1000000 c34 (in_c 10 rfl) i31 rfl
        refine g_iload_n 38 (gd rfl) rfl rfl ?_
        refine g_bipush 10 40 (gd rfl) rfl rfl ?_
        refine g_imul 41 (gd rfl) rfl (fun z40 e40 => ?_)
        have i40 := in_mulc 10 10 10000000 (Or.inr e40) j29_3 rfl rfl
        refine g_istore_n 42 (gd rfl) rfl (Nat.le_of_ble_eq_true rfl) ?_
        refine g_goto 29 (gd rfl) rfl ?_
        have i29 : In z40 1 1000000 := by have h := t_divv e31 j29_2 j29_3 rfl; have h2 := (t_mulc 10 (Or.inr e40) j29_3 rfl).1; have h10 : (Int32.ofInt 10).toInt = 10 := rfl; rw [h, h10] at c34; have h3 := (Int.le_ediv_iff_mul_le (by have := j29_3.1; omega)).mp c34; have := j29_2.2; have := j29_3.1; exact ⟨by omega, by omega⟩
        have n29 : (w29_109_26).toInt ≤ (u_109_26).toInt + 2 := by have a0 := h1; unfold In at a0; have a1 := (inv_F hIc29 0 8000 rfl v29_109_26); unfold In at a1; have a2 := j29_3; unfold In at a2; have a3 := j29_2; unfold In at a3; have a4 := i29; unfold In at a4; have a5 := (t_mulc 10 (Or.inr e40) j29_3 rfl).1; omega
        have n29a : ((z40).toInt = 1 ∨ (z40).toInt = 10 ∨ (z40).toInt = 100 ∨ (z40).toInt = 1000 ∨ (z40).toInt = 10000 ∨ (z40).toInt = 100000 ∨ (z40).toInt = 1000000) := by have a0 := h1; unfold In at a0; have a1 := (inv_F hIc29 0 8000 rfl v29_109_26); unfold In at a1; have a2 := j29_3; unfold In at a2; have a3 := j29_2; unfold In at a3; have a4 := i29; unfold In at a4; have a5 := (t_mulc 10 (Or.inr e40) j29_3 rfl).1; omega
        have m29 : 2000000 - (z40).toInt < ((k29 : Nat) : Int) := by have a0 := h1; unfold In at a0; have a1 := (inv_F hIc29 0 8000 rfl v29_109_26); unfold In at a1; have a2 := j29_3; unfold In at a2; have a3 := j29_2; unfold In at a3; have a4 := i29; unfold In at a4; have a5 := (t_mulc 10 (Or.inr e40) j29_3 rfl).1; omega
        exact gg_w (by omega) (gg_f (gf_cons rfl (gf_cons rfl (gf_cons rfl (gf_cons rfl gf_nil)))) (ih29  sc29 y29_2 z40 w29_109_26 hIc29 hFc29 (in_w 0 1000000 j29_2 rfl) i29 v29_109_26 n29 n29a m29))
  refine g_enter2 (k := 307) (N := 2700003602) (by omega) rfl (Nat.le_of_ble_eq_true rfl) ?_
  refine g_aload_n 1 (gd rfl) rfl rfl ?_
  refine g_bipush 32 3 (gd rfl) rfl rfl ?_
  refine g_callv (X := _) (As := [.int (Int32.ofInt 32)]) (r := []) (b := A 109) (q := 109) 6 (gd rfl) rfl rfl rfl rfl rfl (ww_o rfl) (Nat.le_of_ble_eq_true rfl) (mc := 0) (ms := 0) (Nat.zero_le _) (Nat.zero_le _) (P := fun v u => _) ?_ (fun e u h => h) (fun v u h => h)
  intro po3 xx3 hp3 hx3
  refine g_enter2 (k := 306) (N := 300) (by omega) rfl (Nat.le_of_ble_eq_true rfl) ?_
  refine g_aload_n 1 (gd rfl) rfl rfl ?_
  refine g_getA (q2 := 126) 4 (gd rfl) rfl rfl rfl rfl ?_
  refine g_aload_n 5 (gd rfl) rfl rfl ?_
  refine g_getI 8 (gd rfl) rfl rfl rfl (fun z3x5 e3x5 => ?_)
  have q3x5 : u_109_26 = z3x5 := (e_109_26).trans e3x5.symm
  subst q3x5
  refine g_iload_n 9 (gd rfl) rfl rfl ?_
  have i3x9 : In u_109_26 0 7999 := by have a0 := (inv_F hI 0 8000 rfl e_109_26); unfold In at a0; have a1 := h1; unfold In at a1; have a2 := (in_c 32 rfl); unfold In at a2; exact ⟨by omega, by omega⟩
  refine g_iastore 10 (gd rfl) rfl (n := 8000) rfl (in_ix i3x9 rfl) ?_
  have hI3x9 := inv_sI (q := 126) (j := u_109_26.toNatClampNeg) hI rfl (in_w (-2147483648) 2147483647 (in_c 32 rfl) rfl)
  refine g_aload_n 11 (gd rfl) rfl rfl ?_
  refine g_dup 12 (gd rfl) rfl rfl ?_
  refine g_getI 15 (gd rfl) rfl rfl rfl (fun z3x12 e3x12 => ?_)
  have q3x12 : u_109_26 = z3x12 := (sI_F (e_109_26)).trans e3x12.symm
  subst q3x12
  refine g_iconst 1 16 (gd rfl) rfl rfl ?_
  refine g_iadd 17 (gd rfl) rfl (fun z3x16 e3x16 => ?_)
  have i3x16 := in_add 1 8000 e3x16 i3x9 (in_c 1 rfl) rfl rfl
  refine g_putI 20 (gd rfl) rfl rfl rfl rfl ?_
  have hI3x17 := inv_sF (q := 109) (j := 26) hI3x9 rfl (in_w 0 8000 i3x16 rfl)
  refine g_return (gd rfl) rfl (hp3 _ _ ?_)
  show GG _ _ _ _ _ _ _ _ [] _ _ _
  refine g_iload_n 7 (gd rfl) rfl rfl ?_
  refine g_if_ge 10 16 (gd rfl) rfl rfl (fun c7 => ?_) (fun c7 => ?_)
  · skip
    have i7 := z_ge 0 1000000 c7 h1 rfl
    refine g_iload_n 17 (gd rfl) rfl rfl ?_
    refine g_if_ge 20 25 (gd rfl) rfl rfl (fun c17 => ?_) (fun c17 => ?_)
    · skip
      refine g_iload_n 26 (gd rfl) rfl rfl ?_
      refine g_istore_n 27 (gd rfl) rfl (Nat.le_of_ble_eq_true rfl) ?_
      refine g_iconst 1 28 (gd rfl) rfl rfl ?_
      refine g_istore_n 29 (gd rfl) rfl (Nat.le_of_ble_eq_true rfl) ?_
      have v29 : z3x16 = (sF (sI s 126 u_109_26.toNatClampNeg (Int32.ofInt 32)) 109 26 z3x16).2.2.1 109 26 := sF_get
      have n29 : (z3x16).toInt ≤ (u_109_26).toInt + 2 := by have a0 := i3x9; unfold In at a0; have a1 := i7; unfold In at a1; have a2 := (in_c 1 rfl); unfold In at a2; have a3 := i3x16; unfold In at a3; have a4 := t_add e3x16 i3x9 (in_c 1 rfl) rfl; omega
      have n29a : (((Int32.ofInt 1)).toInt = 1 ∨ ((Int32.ofInt 1)).toInt = 10 ∨ ((Int32.ofInt 1)).toInt = 100 ∨ ((Int32.ofInt 1)).toInt = 1000 ∨ ((Int32.ofInt 1)).toInt = 10000 ∨ ((Int32.ofInt 1)).toInt = 100000 ∨ ((Int32.ofInt 1)).toInt = 1000000) := by have a0 := i3x9; unfold In at a0; have a1 := i7; unfold In at a1; have a2 := (in_c 1 rfl); unfold In at a2; have a3 := i3x16; unfold In at a3; have a4 := t_add e3x16 i3x9 (in_c 1 rfl) rfl; omega
      have m29 : 2000000 - ((Int32.ofInt 1)).toInt < ((2000001 : Nat) : Int) := by have a0 := i3x9; unfold In at a0; have a1 := i7; unfold In at a1; have a2 := (in_c 1 rfl); unfold In at a2; have a3 := i3x16; unfold In at a3; have a4 := t_add e3x16 i3x9 (in_c 1 rfl) rfl; omega
      exact gg_w (by omega) (gg_f (gf_cons rfl (gf_cons rfl (gf_cons rfl (gf_cons rfl gf_nil)))) (ct29 2000001 (sF (sI s 126 u_109_26.toNatClampNeg (Int32.ofInt 32)) 109 26 z3x16) x1 (Int32.ofInt 1) z3x16 hI3x17 (fr_sF rfl (fr_sI rfl fr_rf)) (in_w 0 1000000 i7 rfl) (in_w 1 1000000 (in_c 1 rfl) rfl) v29 n29 n29a m29))
    · skip
      exact zn_lt c17 i7 rfl
  · skip
    have i7 := z_lt (-1000000) (-1) c7 h1 rfl
    refine g_aload_n 11 (gd rfl) rfl rfl ?_
    refine g_bipush 45 13 (gd rfl) rfl rfl ?_
    refine g_callv (X := _) (As := [.int (Int32.ofInt 45)]) (r := []) (b := A 109) (q := 109) 16 (gd rfl) rfl rfl rfl rfl rfl (ww_o rfl) (Nat.le_of_ble_eq_true rfl) (mc := 0) (ms := 0) (Nat.zero_le _) (Nat.zero_le _) (P := fun v u => _) ?_ (fun e u h => h) (fun v u h => h)
    intro po13 xx13 hp13 hx13
    refine g_enter2 (k := 306) (N := 300) (by omega) rfl (Nat.le_of_ble_eq_true rfl) ?_
    refine g_aload_n 1 (gd rfl) rfl rfl ?_
    refine g_getA (q2 := 126) 4 (gd rfl) rfl rfl rfl rfl ?_
    refine g_aload_n 5 (gd rfl) rfl rfl ?_
    refine g_getI 8 (gd rfl) rfl rfl rfl (fun z13x5 e13x5 => ?_)
    have q13x5 : z3x16 = z13x5 := (sF_get).trans e13x5.symm
    subst q13x5
    refine g_iload_n 9 (gd rfl) rfl rfl ?_
    have i13x9 : In z3x16 0 7999 := by have a0 := i3x9; unfold In at a0; have a1 := i7; unfold In at a1; have a2 := (in_c 45 rfl); unfold In at a2; have a3 := i3x16; unfold In at a3; have a4 := t_add e3x16 i3x9 (in_c 1 rfl) rfl; have a5 := (in_c 1 rfl); unfold In at a5; exact ⟨by omega, by omega⟩
    refine g_iastore 10 (gd rfl) rfl (n := 8000) rfl (in_ix i13x9 rfl) ?_
    have hI13x9 := inv_sI (q := 126) (j := z3x16.toNatClampNeg) hI3x17 rfl (in_w (-2147483648) 2147483647 (in_c 45 rfl) rfl)
    refine g_aload_n 11 (gd rfl) rfl rfl ?_
    refine g_dup 12 (gd rfl) rfl rfl ?_
    refine g_getI 15 (gd rfl) rfl rfl rfl (fun z13x12 e13x12 => ?_)
    have q13x12 : z3x16 = z13x12 := (sI_F (sF_get)).trans e13x12.symm
    subst q13x12
    refine g_iconst 1 16 (gd rfl) rfl rfl ?_
    refine g_iadd 17 (gd rfl) rfl (fun z13x16 e13x16 => ?_)
    have i13x16 := in_add 1 8000 e13x16 i13x9 (in_c 1 rfl) rfl rfl
    refine g_putI 20 (gd rfl) rfl rfl rfl rfl ?_
    have hI13x17 := inv_sF (q := 109) (j := 26) hI13x9 rfl (in_w 0 8000 i13x16 rfl)
    refine g_return (gd rfl) rfl (hp13 _ _ ?_)
    show GG _ _ _ _ _ _ _ _ [] _ _ _
    refine g_iload_n 17 (gd rfl) rfl rfl ?_
    refine g_if_ge 20 25 (gd rfl) rfl rfl (fun c17 => ?_) (fun c17 => ?_)
    · skip
      exact zn_ge c17 i7 rfl
    · skip
      refine g_iload_n 21 (gd rfl) rfl rfl ?_
      refine g_ineg 22 (gd rfl) rfl (fun z21 e21 => ?_)
      have i21 := in_neg 1 1000000 e21 i7 rfl
      refine g_goto 26 (gd rfl) rfl ?_
      refine g_istore_n 27 (gd rfl) rfl (Nat.le_of_ble_eq_true rfl) ?_
      refine g_iconst 1 28 (gd rfl) rfl rfl ?_
      refine g_istore_n 29 (gd rfl) rfl (Nat.le_of_ble_eq_true rfl) ?_
      have v29 : z13x16 = (sF (sI (sF (sI s 126 u_109_26.toNatClampNeg (Int32.ofInt 32)) 109 26 z3x16) 126 z3x16.toNatClampNeg (Int32.ofInt 45)) 109 26 z13x16).2.2.1 109 26 := sF_get
      have n29 : (z13x16).toInt ≤ (u_109_26).toInt + 2 := by have a0 := i3x9; unfold In at a0; have a1 := i7; unfold In at a1; have a2 := (in_c 1 rfl); unfold In at a2; have a3 := i21; unfold In at a3; have a4 := i13x16; unfold In at a4; have a5 := t_add e13x16 i13x9 (in_c 1 rfl) rfl; have a6 := i13x9; unfold In at a6; have a7 := t_add e3x16 i3x9 (in_c 1 rfl) rfl; omega
      have n29a : (((Int32.ofInt 1)).toInt = 1 ∨ ((Int32.ofInt 1)).toInt = 10 ∨ ((Int32.ofInt 1)).toInt = 100 ∨ ((Int32.ofInt 1)).toInt = 1000 ∨ ((Int32.ofInt 1)).toInt = 10000 ∨ ((Int32.ofInt 1)).toInt = 100000 ∨ ((Int32.ofInt 1)).toInt = 1000000) := by have a0 := i3x9; unfold In at a0; have a1 := i7; unfold In at a1; have a2 := (in_c 1 rfl); unfold In at a2; have a3 := i21; unfold In at a3; have a4 := i13x16; unfold In at a4; have a5 := t_add e13x16 i13x9 (in_c 1 rfl) rfl; have a6 := i13x9; unfold In at a6; have a7 := t_add e3x16 i3x9 (in_c 1 rfl) rfl; omega
      have m29 : 2000000 - ((Int32.ofInt 1)).toInt < ((2000001 : Nat) : Int) := by have a0 := i3x9; unfold In at a0; have a1 := i7; unfold In at a1; have a2 := (in_c 1 rfl); unfold In at a2; have a3 := i21; unfold In at a3; have a4 := i13x16; unfold In at a4; have a5 := t_add e13x16 i13x9 (in_c 1 rfl) rfl; have a6 := i13x9; unfold In at a6; have a7 := t_add e3x16 i3x9 (in_c 1 rfl) rfl; omega
      exact gg_w (by omega) (gg_f (gf_cons rfl (gf_cons rfl (gf_cons rfl (gf_cons rfl gf_nil)))) (ct29 2000001 (sF (sI (sF (sI s 126 u_109_26.toNatClampNeg (Int32.ofInt 32)) 109 26 z3x16) 126 z3x16.toNatClampNeg (Int32.ofInt 45)) 109 26 z13x16) z21 (Int32.ofInt 1) z13x16 hI13x17 (fr_sF rfl (fr_sI rfl (fr_sF rfl (fr_sI rfl fr_rf)))) (in_w 0 1000000 i21 rfl) (in_w 1 1000000 (in_c 1 rfl) rfl) v29 n29 n29a m29))

def fm_308 : FM := ([126], [], [(109, 0), (109, 26)], [])
/-- GraphHouseModel.print -/
theorem k_308 {Z : AmZ} {A : Nat → Nat} {s : GS} {ex : va_W} {d : Nat} {X : AmX}  (hd : 4 ≤ d) (hI : Inv s)  : GC Z d 308 [.ref (A 109)] (WW Z A s ++ ex) 0 0 (fun v u => ∃ t : GS, Inv t ∧ Fr fm_308 s t ∧ ∃ z : Int32, v = some (.int z) ∧ u = WW Z A t ++ ex ∧ In z 0 8000) X := by
  intro post xp hP hX
  obtain ⟨u_109_18, e_109_18⟩ : ∃ w, w = s.2.2.1 109 18 := ⟨_, rfl⟩
  have ro_109_18 := inv_F hI 0 1 rfl e_109_18
  obtain ⟨u_109_19, e_109_19⟩ : ∃ w, w = s.2.2.1 109 19 := ⟨_, rfl⟩
  have ro_109_19 := inv_F hI 0 160 rfl e_109_19
  obtain ⟨u_109_20, e_109_20⟩ : ∃ w, w = s.2.2.1 109 20 := ⟨_, rfl⟩
  have ro_109_20 := inv_F hI 0 32 rfl e_109_20
  have ct70 : ∀ (k70 : Nat) (sc70 : GS) (y70_1 : Int32) (w70_109_26 : Int32), Inv sc70 → Fr fm_308 s sc70 → (In y70_1 0 400) → (w70_109_26 = sc70.2.2.1 109 26) → ((w70_109_26).toInt ≤ 128 + 40 * ((y70_1).toInt - (u_109_19).toInt)) → ((u_109_19).toInt ≤ (y70_1).toInt) → 400 - (y70_1).toInt < (k70 : Int) → GG Z (d - 1) 308 post (gx xp) (1 + k70 * 900) 70 (fun j => xlook j [(0, .ref (A 109)), (1, .int y70_1)]) [] (WW Z A sc70 ++ ex) 0 0 := by
    intro k70
    induction k70 with
    | zero => intro sc70 y70_1 w70_109_26 hIc70 hFc70 j70_1 v70_109_26 n70_0 n70_1 mm70; exact m_no mm70 j70_1 rfl
    | succ k70 ih70 =>
      intro sc70 y70_1 w70_109_26 hIc70 hFc70 j70_1 v70_109_26 n70_0 n70_1 mm70
      refine gg_w (M := 1 + k70 * 900 + 900) (by omega) ?_
      refine g_iload_n 71 (gd rfl) rfl rfl ?_
      refine g_aload_n 72 (gd rfl) rfl rfl ?_
      refine g_getI 75 (gd rfl) rfl rfl rfl (fun z72 e72 => ?_)
      have q72 : u_109_19 = z72 := (fr_F e_109_19 hFc70 rfl).trans e72.symm
      subst q72
      refine g_sipush 160 78 (gd rfl) rfl rfl ?_
      refine g_iadd 79 (gd rfl) rfl (fun z78 e78 => ?_)
      have i78 := in_add 160 320 e78 ro_109_19 (in_c 160 rfl) rfl rfl
      refine g_cmp_ge 82 168 (gd rfl) rfl rfl (fun c79 => ?_) (fun c79 => ?_)
      · skip
        have i79 := r_le2 160 400 c79 i78 j70_1 rfl
        refine g_aload_n 169 (gd rfl) rfl rfl ?_
        refine g_getI 172 (gd rfl) rfl rfl rfl (fun z169 e169 => ?_)
        have q169 : w70_109_26 = z169 := (v70_109_26).trans e169.symm
        subst q169
        exact g_ireturn (gd rfl) rfl rfl (hP _ _ ⟨sc70, hIc70, hFc70, w70_109_26, rfl, rfl, in_w 0 8000 (inv_F hIc70 0 8000 rfl v70_109_26) rfl⟩)
      · skip
        have i79 := r_lt1 0 319 c79 j70_1 i78 rfl
        refine g_aload_n 83 (gd rfl) rfl rfl ?_
        refine g_getA (q2 := 112) 86 (gd rfl) rfl rfl rfl rfl ?_
        refine g_iload_n 87 (gd rfl) rfl rfl ?_
        refine g_baload 88 (gd rfl) rfl (n := 480) rfl (in_ix i79 rfl) (fun z87 e87 => ?_)
        have i87 := inv_I hIc70 (n := 480) (t := 3) 0 1 rfl (in_ix i79 rfl) rfl e87
        refine g_if_eq 91 162 (gd rfl) rfl rfl (fun c88 => ?_) (fun c88 => ?_)
        · skip
          have i88 := z_eq 0 0 c88 i87 rfl
          refine g_iinc 165 (gd rfl) rfl rfl (Nat.le_of_ble_eq_true rfl) (fun z162 e162 => ?_)
          have i162 := in_add 1 320 e162 i79 (in_c 1 rfl) rfl rfl
          refine g_goto 70 (gd rfl) rfl ?_
          have n70 : (w70_109_26).toInt ≤ 128 + 40 * ((z162).toInt - (u_109_19).toInt) := by have a0 := ro_109_20; unfold In at a0; have a1 := ro_109_19; unfold In at a1; have a2 := ro_109_18; unfold In at a2; have a3 := (inv_F hIc70 0 8000 rfl v70_109_26); unfold In at a3; have a4 := i79; unfold In at a4; have a5 := i162; unfold In at a5; have a6 := t_add e162 i79 (in_c 1 rfl) rfl; have a7 := (in_c 1 rfl); unfold In at a7; have a8 := i78; unfold In at a8; have a9 := t_add e78 ro_109_19 (in_c 160 rfl) rfl; have a10 := (in_c 160 rfl); unfold In at a10; omega
          have n70a : (u_109_19).toInt ≤ (z162).toInt := by have a0 := ro_109_20; unfold In at a0; have a1 := ro_109_19; unfold In at a1; have a2 := ro_109_18; unfold In at a2; have a3 := (inv_F hIc70 0 8000 rfl v70_109_26); unfold In at a3; have a4 := i79; unfold In at a4; have a5 := i162; unfold In at a5; have a6 := t_add e162 i79 (in_c 1 rfl) rfl; have a7 := (in_c 1 rfl); unfold In at a7; have a8 := i78; unfold In at a8; have a9 := t_add e78 ro_109_19 (in_c 160 rfl) rfl; have a10 := (in_c 160 rfl); unfold In at a10; omega
          exact gg_w (by omega) (gg_f (gf_cons rfl (gf_cons rfl gf_nil)) (ih70 sc70 z162 w70_109_26 hIc70 hFc70 (in_w 0 400 i162 rfl) v70_109_26 n70 n70a (m_up mm70 (t_add e162 i79 (in_c 1 rfl) rfl) (in_w 1 1 (in_c 1 rfl) rfl))))
        · skip
          have i88 := z_ne 1 1 c88 i87 rfl
          refine g_aload_n 92 (gd rfl) rfl rfl ?_
          refine g_bipush 97 94 (gd rfl) rfl rfl ?_
          refine g_callv (X := _) (As := [.int (Int32.ofInt 97)]) (r := []) (b := A 109) (q := 109) 97 (gd rfl) rfl rfl rfl rfl rfl (ww_o rfl) (Nat.le_of_ble_eq_true rfl) (mc := 0) (ms := 0) (Nat.zero_le _) (Nat.zero_le _) (P := fun v u => _) ?_ (fun e u h => h) (fun v u h => h)
          intro po94 xx94 hp94 hx94
          refine g_enter2 (k := 306) (N := 300) (by omega) rfl (Nat.le_of_ble_eq_true rfl) ?_
          refine g_aload_n 1 (gd rfl) rfl rfl ?_
          refine g_getA (q2 := 126) 4 (gd rfl) rfl rfl rfl rfl ?_
          refine g_aload_n 5 (gd rfl) rfl rfl ?_
          refine g_getI 8 (gd rfl) rfl rfl rfl (fun z94x5 e94x5 => ?_)
          have q94x5 : w70_109_26 = z94x5 := (v70_109_26).trans e94x5.symm
          subst q94x5
          refine g_iload_n 9 (gd rfl) rfl rfl ?_
          have i94x9 : In w70_109_26 0 7999 := by have a0 := ro_109_20; unfold In at a0; have a1 := ro_109_19; unfold In at a1; have a2 := ro_109_18; unfold In at a2; have a3 := (inv_F hIc70 0 8000 rfl v70_109_26); unfold In at a3; have a4 := i79; unfold In at a4; have a5 := (in_c 97 rfl); unfold In at a5; have a6 := i78; unfold In at a6; have a7 := t_add e78 ro_109_19 (in_c 160 rfl) rfl; have a8 := (in_c 160 rfl); unfold In at a8; exact ⟨by omega, by omega⟩
          refine g_iastore 10 (gd rfl) rfl (n := 8000) rfl (in_ix i94x9 rfl) ?_
          have hI94x9 := inv_sI (q := 126) (j := w70_109_26.toNatClampNeg) hIc70 rfl (in_w (-2147483648) 2147483647 (in_c 97 rfl) rfl)
          refine g_aload_n 11 (gd rfl) rfl rfl ?_
          refine g_dup 12 (gd rfl) rfl rfl ?_
          refine g_getI 15 (gd rfl) rfl rfl rfl (fun z94x12 e94x12 => ?_)
          have q94x12 : w70_109_26 = z94x12 := (sI_F (v70_109_26)).trans e94x12.symm
          subst q94x12
          refine g_iconst 1 16 (gd rfl) rfl rfl ?_
          refine g_iadd 17 (gd rfl) rfl (fun z94x16 e94x16 => ?_)
          have i94x16 := in_add 1 8000 e94x16 i94x9 (in_c 1 rfl) rfl rfl
          refine g_putI 20 (gd rfl) rfl rfl rfl rfl ?_
          have hI94x17 := inv_sF (q := 109) (j := 26) hI94x9 rfl (in_w 0 8000 i94x16 rfl)
          refine g_return (gd rfl) rfl (hp94 _ _ ?_)
          show GG _ _ _ _ _ _ _ _ [] _ _ _
          refine g_aload_n 98 (gd rfl) rfl rfl ?_
          refine g_aload_n 99 (gd rfl) rfl rfl ?_
          refine g_getA (q2 := 113) 102 (gd rfl) rfl rfl rfl rfl ?_
          refine g_iload_n 103 (gd rfl) rfl rfl ?_
          refine g_iaload 104 (gd rfl) rfl (n := 480) rfl (in_ix i79 rfl) (fun z103 e103 => ?_)
          have i103 := inv_I hI94x17 (n := 480) (t := 0) 0 31 rfl (in_ix i79 rfl) rfl e103
          have v104 : z94x16 = (sF (sI sc70 126 w70_109_26.toNatClampNeg (Int32.ofInt 97)) 109 26 z94x16).2.2.1 109 26 := sF_get
          have n104 : (z94x16).toInt ≤ 7900 := by have a0 := ro_109_20; unfold In at a0; have a1 := ro_109_19; unfold In at a1; have a2 := ro_109_18; unfold In at a2; have a3 := i94x9; unfold In at a3; have a4 := i79; unfold In at a4; have a5 := i94x16; unfold In at a5; have a6 := t_add e94x16 i94x9 (in_c 1 rfl) rfl; have a7 := (in_c 1 rfl); unfold In at a7; have a8 := i78; unfold In at a8; have a9 := t_add e78 ro_109_19 (in_c 160 rfl) rfl; have a10 := (in_c 160 rfl); unfold In at a10; omega
          refine g_callv (X := _) (As := [.int z103]) (r := []) (b := A 109) (q := 109) 107 (gd rfl) rfl rfl rfl rfl rfl (ww_o rfl) (Nat.le_of_ble_eq_true rfl) (Nat.zero_le _) (Nat.zero_le _) (k_307 (by omega) hI94x17 (in_w (-1000000) 1000000 i103 rfl) v104 n104) (fun e u h => h) (fun v u h => ?_)
          obtain ⟨s104, hI104, hF104, n104a, rfl, rfl⟩ := h
          obtain ⟨z104a, e104⟩ : ∃ w, w = s104.2.2.1 109 26 := ⟨_, rfl⟩
          have i104a := inv_F hI104 0 8000 rfl e104
          rw [← (show z94x16 = (sF (sI sc70 126 w70_109_26.toNatClampNeg (Int32.ofInt 97)) 109 26 z94x16).2.2.1 109 26 from sF_get)] at n104a
          rw [← (show z104a = s104.2.2.1 109 26 from e104)] at n104a
          show GG _ _ _ _ _ _ _ _ [] _ _ _
          refine g_aload_n 108 (gd rfl) rfl rfl ?_
          refine g_aload_n 109 (gd rfl) rfl rfl ?_
          refine g_getA (q2 := 114) 112 (gd rfl) rfl rfl rfl rfl ?_
          refine g_iload_n 113 (gd rfl) rfl rfl ?_
          refine g_iaload 114 (gd rfl) rfl (n := 480) rfl (in_ix i79 rfl) (fun z113 e113 => ?_)
          have i113 := inv_I hI104 (n := 480) (t := 0) 0 31 rfl (in_ix i79 rfl) rfl e113
          have n114 : (z104a).toInt ≤ 7900 := by have a0 := ro_109_20; unfold In at a0; have a1 := ro_109_19; unfold In at a1; have a2 := ro_109_18; unfold In at a2; have a3 := i94x9; unfold In at a3; have a4 := i79; unfold In at a4; have a5 := i104a; unfold In at a5; have a6 := i94x16; unfold In at a6; have a7 := t_add e94x16 i94x9 (in_c 1 rfl) rfl; have a8 := (in_c 1 rfl); unfold In at a8; have a9 := i78; unfold In at a9; have a10 := t_add e78 ro_109_19 (in_c 160 rfl) rfl; have a11 := (in_c 160 rfl); unfold In at a11; omega
          refine g_callv (X := _) (As := [.int z113]) (r := []) (b := A 109) (q := 109) 117 (gd rfl) rfl rfl rfl rfl rfl (ww_o rfl) (Nat.le_of_ble_eq_true rfl) (Nat.zero_le _) (Nat.zero_le _) (k_307 (by omega) hI104 (in_w (-1000000) 1000000 i113 rfl) e104 n114) (fun e u h => h) (fun v u h => ?_)
          obtain ⟨s114, hI114, hF114, n114a, rfl, rfl⟩ := h
          obtain ⟨z114a, e114⟩ : ∃ w, w = s114.2.2.1 109 26 := ⟨_, rfl⟩
          have i114a := inv_F hI114 0 8000 rfl e114
          rw [← (show z104a = s104.2.2.1 109 26 from e104)] at n114a
          rw [← (show z114a = s114.2.2.1 109 26 from e114)] at n114a
          show GG _ _ _ _ _ _ _ _ [] _ _ _
          refine g_aload_n 118 (gd rfl) rfl rfl ?_
          refine g_aload_n 119 (gd rfl) rfl rfl ?_
          refine g_getA (q2 := 115) 122 (gd rfl) rfl rfl rfl rfl ?_
          refine g_iload_n 123 (gd rfl) rfl rfl ?_
          refine g_iaload 124 (gd rfl) rfl (n := 480) rfl (in_ix i79 rfl) (fun z123 e123 => ?_)
          have i123 := inv_I hI114 (n := 480) (t := 0) (-1000000) 1000000 rfl (in_ix i79 rfl) rfl e123
          have n124 : (z114a).toInt ≤ 7900 := by have a0 := ro_109_20; unfold In at a0; have a1 := ro_109_19; unfold In at a1; have a2 := ro_109_18; unfold In at a2; have a3 := i94x9; unfold In at a3; have a4 := i79; unfold In at a4; have a5 := i114a; unfold In at a5; have a6 := i94x16; unfold In at a6; have a7 := t_add e94x16 i94x9 (in_c 1 rfl) rfl; have a8 := (in_c 1 rfl); unfold In at a8; have a9 := i78; unfold In at a9; have a10 := t_add e78 ro_109_19 (in_c 160 rfl) rfl; have a11 := (in_c 160 rfl); unfold In at a11; omega
          refine g_callv (X := _) (As := [.int z123]) (r := []) (b := A 109) (q := 109) 127 (gd rfl) rfl rfl rfl rfl rfl (ww_o rfl) (Nat.le_of_ble_eq_true rfl) (Nat.zero_le _) (Nat.zero_le _) (k_307 (by omega) hI114 (in_w (-1000000) 1000000 i123 rfl) e114 n124) (fun e u h => h) (fun v u h => ?_)
          obtain ⟨s124, hI124, hF124, n124a, rfl, rfl⟩ := h
          obtain ⟨z124a, e124⟩ : ∃ w, w = s124.2.2.1 109 26 := ⟨_, rfl⟩
          have i124a := inv_F hI124 0 8000 rfl e124
          rw [← (show z114a = s114.2.2.1 109 26 from e114)] at n124a
          rw [← (show z124a = s124.2.2.1 109 26 from e124)] at n124a
          show GG _ _ _ _ _ _ _ _ [] _ _ _
          refine g_aload_n 128 (gd rfl) rfl rfl ?_
          refine g_aload_n 129 (gd rfl) rfl rfl ?_
          refine g_getA (q2 := 116) 132 (gd rfl) rfl rfl rfl rfl ?_
          refine g_iload_n 133 (gd rfl) rfl rfl ?_
          refine g_iaload 134 (gd rfl) rfl (n := 480) rfl (in_ix i79 rfl) (fun z133 e133 => ?_)
          have i133 := inv_I hI124 (n := 480) (t := 0) 0 1000000 rfl (in_ix i79 rfl) rfl e133
          have n134 : (z124a).toInt ≤ 7900 := by have a0 := ro_109_20; unfold In at a0; have a1 := ro_109_19; unfold In at a1; have a2 := ro_109_18; unfold In at a2; have a3 := i94x9; unfold In at a3; have a4 := i79; unfold In at a4; have a5 := i124a; unfold In at a5; have a6 := i94x16; unfold In at a6; have a7 := t_add e94x16 i94x9 (in_c 1 rfl) rfl; have a8 := (in_c 1 rfl); unfold In at a8; have a9 := i78; unfold In at a9; have a10 := t_add e78 ro_109_19 (in_c 160 rfl) rfl; have a11 := (in_c 160 rfl); unfold In at a11; omega
          refine g_callv (X := _) (As := [.int z133]) (r := []) (b := A 109) (q := 109) 137 (gd rfl) rfl rfl rfl rfl rfl (ww_o rfl) (Nat.le_of_ble_eq_true rfl) (Nat.zero_le _) (Nat.zero_le _) (k_307 (by omega) hI124 (in_w (-1000000) 1000000 i133 rfl) e124 n134) (fun e u h => h) (fun v u h => ?_)
          obtain ⟨s134, hI134, hF134, n134a, rfl, rfl⟩ := h
          obtain ⟨z134a, e134⟩ : ∃ w, w = s134.2.2.1 109 26 := ⟨_, rfl⟩
          have i134a := inv_F hI134 0 8000 rfl e134
          rw [← (show z124a = s124.2.2.1 109 26 from e124)] at n134a
          rw [← (show z134a = s134.2.2.1 109 26 from e134)] at n134a
          show GG _ _ _ _ _ _ _ _ [] _ _ _
          refine g_aload_n 138 (gd rfl) rfl rfl ?_
          refine g_bipush 32 140 (gd rfl) rfl rfl ?_
          refine g_callv (X := _) (As := [.int (Int32.ofInt 32)]) (r := []) (b := A 109) (q := 109) 143 (gd rfl) rfl rfl rfl rfl rfl (ww_o rfl) (Nat.le_of_ble_eq_true rfl) (mc := 0) (ms := 0) (Nat.zero_le _) (Nat.zero_le _) (P := fun v u => _) ?_ (fun e u h => h) (fun v u h => h)
          intro po140 xx140 hp140 hx140
          refine g_enter2 (k := 306) (N := 300) (by omega) rfl (Nat.le_of_ble_eq_true rfl) ?_
          refine g_aload_n 1 (gd rfl) rfl rfl ?_
          refine g_getA (q2 := 126) 4 (gd rfl) rfl rfl rfl rfl ?_
          refine g_aload_n 5 (gd rfl) rfl rfl ?_
          refine g_getI 8 (gd rfl) rfl rfl rfl (fun z140x5 e140x5 => ?_)
          have q140x5 : z134a = z140x5 := (e134).trans e140x5.symm
          subst q140x5
          refine g_iload_n 9 (gd rfl) rfl rfl ?_
          have i140x9 : In z134a 0 7999 := by have a0 := ro_109_20; unfold In at a0; have a1 := ro_109_19; unfold In at a1; have a2 := ro_109_18; unfold In at a2; have a3 := i94x9; unfold In at a3; have a4 := i79; unfold In at a4; have a5 := (in_c 32 rfl); unfold In at a5; have a6 := i134a; unfold In at a6; have a7 := i94x16; unfold In at a7; have a8 := t_add e94x16 i94x9 (in_c 1 rfl) rfl; have a9 := (in_c 1 rfl); unfold In at a9; have a10 := i78; unfold In at a10; have a11 := t_add e78 ro_109_19 (in_c 160 rfl) rfl; have a12 := (in_c 160 rfl); unfold In at a12; exact ⟨by omega, by omega⟩
          refine g_iastore 10 (gd rfl) rfl (n := 8000) rfl (in_ix i140x9 rfl) ?_
          have hI140x9 := inv_sI (q := 126) (j := z134a.toNatClampNeg) hI134 rfl (in_w (-2147483648) 2147483647 (in_c 32 rfl) rfl)
          refine g_aload_n 11 (gd rfl) rfl rfl ?_
          refine g_dup 12 (gd rfl) rfl rfl ?_
          refine g_getI 15 (gd rfl) rfl rfl rfl (fun z140x12 e140x12 => ?_)
          have q140x12 : z134a = z140x12 := (sI_F (e134)).trans e140x12.symm
          subst q140x12
          refine g_iconst 1 16 (gd rfl) rfl rfl ?_
          refine g_iadd 17 (gd rfl) rfl (fun z140x16 e140x16 => ?_)
          have i140x16 := in_add 1 8000 e140x16 i140x9 (in_c 1 rfl) rfl rfl
          refine g_putI 20 (gd rfl) rfl rfl rfl rfl ?_
          have hI140x17 := inv_sF (q := 109) (j := 26) hI140x9 rfl (in_w 0 8000 i140x16 rfl)
          refine g_return (gd rfl) rfl (hp140 _ _ ?_)
          show GG _ _ _ _ _ _ _ _ [] _ _ _
          refine g_aload_n 144 (gd rfl) rfl rfl ?_
          refine g_bipush 97 146 (gd rfl) rfl rfl ?_
          refine g_aload_n 147 (gd rfl) rfl rfl ?_
          refine g_getA (q2 := 117) 150 (gd rfl) rfl rfl rfl rfl ?_
          refine g_iload_n 151 (gd rfl) rfl rfl ?_
          refine g_iaload 152 (gd rfl) rfl (n := 480) rfl (in_ix i79 rfl) (fun z151 e151 => ?_)
          have i151 := inv_I hI140x17 (n := 480) (t := 0) 0 25 rfl (in_ix i79 rfl) rfl e151
          refine g_iadd 153 (gd rfl) rfl (fun z152 e152 => ?_)
          have i152 := in_add 97 122 e152 (in_c 97 rfl) i151 rfl rfl
          refine g_callv (X := _) (As := [.int z152]) (r := []) (b := A 109) (q := 109) 156 (gd rfl) rfl rfl rfl rfl rfl (ww_o rfl) (Nat.le_of_ble_eq_true rfl) (mc := 0) (ms := 0) (Nat.zero_le _) (Nat.zero_le _) (P := fun v u => _) ?_ (fun e u h => h) (fun v u h => h)
          intro po153 xx153 hp153 hx153
          refine g_enter2 (k := 306) (N := 300) (by omega) rfl (Nat.le_of_ble_eq_true rfl) ?_
          refine g_aload_n 1 (gd rfl) rfl rfl ?_
          refine g_getA (q2 := 126) 4 (gd rfl) rfl rfl rfl rfl ?_
          refine g_aload_n 5 (gd rfl) rfl rfl ?_
          refine g_getI 8 (gd rfl) rfl rfl rfl (fun z153x5 e153x5 => ?_)
          have q153x5 : z140x16 = z153x5 := (sF_get).trans e153x5.symm
          subst q153x5
          refine g_iload_n 9 (gd rfl) rfl rfl ?_
          have i153x9 : In z140x16 0 7999 := by have a0 := ro_109_20; unfold In at a0; have a1 := ro_109_19; unfold In at a1; have a2 := ro_109_18; unfold In at a2; have a3 := i94x9; unfold In at a3; have a4 := i79; unfold In at a4; have a5 := i152; unfold In at a5; have a6 := t_add e152 (in_c 97 rfl) i151 rfl; have a7 := i151; unfold In at a7; have a8 := (in_c 97 rfl); unfold In at a8; have a9 := i140x16; unfold In at a9; have a10 := t_add e140x16 i140x9 (in_c 1 rfl) rfl; have a11 := (in_c 1 rfl); unfold In at a11; have a12 := i140x9; unfold In at a12; have a13 := i94x16; unfold In at a13; have a14 := t_add e94x16 i94x9 (in_c 1 rfl) rfl; have a15 := i78; unfold In at a15; have a16 := t_add e78 ro_109_19 (in_c 160 rfl) rfl; have a17 := (in_c 160 rfl); unfold In at a17; exact ⟨by omega, by omega⟩
          refine g_iastore 10 (gd rfl) rfl (n := 8000) rfl (in_ix i153x9 rfl) ?_
          have hI153x9 := inv_sI (q := 126) (j := z140x16.toNatClampNeg) hI140x17 rfl (in_w (-2147483648) 2147483647 i152 rfl)
          refine g_aload_n 11 (gd rfl) rfl rfl ?_
          refine g_dup 12 (gd rfl) rfl rfl ?_
          refine g_getI 15 (gd rfl) rfl rfl rfl (fun z153x12 e153x12 => ?_)
          have q153x12 : z140x16 = z153x12 := (sI_F (sF_get)).trans e153x12.symm
          subst q153x12
          refine g_iconst 1 16 (gd rfl) rfl rfl ?_
          refine g_iadd 17 (gd rfl) rfl (fun z153x16 e153x16 => ?_)
          have i153x16 := in_add 1 8000 e153x16 i153x9 (in_c 1 rfl) rfl rfl
          refine g_putI 20 (gd rfl) rfl rfl rfl rfl ?_
          have hI153x17 := inv_sF (q := 109) (j := 26) hI153x9 rfl (in_w 0 8000 i153x16 rfl)
          refine g_return (gd rfl) rfl (hp153 _ _ ?_)
          show GG _ _ _ _ _ _ _ _ [] _ _ _
          refine g_aload_n 157 (gd rfl) rfl rfl ?_
          refine g_bipush 59 159 (gd rfl) rfl rfl ?_
          refine g_callv (X := _) (As := [.int (Int32.ofInt 59)]) (r := []) (b := A 109) (q := 109) 162 (gd rfl) rfl rfl rfl rfl rfl (ww_o rfl) (Nat.le_of_ble_eq_true rfl) (mc := 0) (ms := 0) (Nat.zero_le _) (Nat.zero_le _) (P := fun v u => _) ?_ (fun e u h => h) (fun v u h => h)
          intro po159 xx159 hp159 hx159
          refine g_enter2 (k := 306) (N := 300) (by omega) rfl (Nat.le_of_ble_eq_true rfl) ?_
          refine g_aload_n 1 (gd rfl) rfl rfl ?_
          refine g_getA (q2 := 126) 4 (gd rfl) rfl rfl rfl rfl ?_
          refine g_aload_n 5 (gd rfl) rfl rfl ?_
          refine g_getI 8 (gd rfl) rfl rfl rfl (fun z159x5 e159x5 => ?_)
          have q159x5 : z153x16 = z159x5 := (sF_get).trans e159x5.symm
          subst q159x5
          refine g_iload_n 9 (gd rfl) rfl rfl ?_
          have i159x9 : In z153x16 0 7999 := by have a0 := ro_109_20; unfold In at a0; have a1 := ro_109_19; unfold In at a1; have a2 := ro_109_18; unfold In at a2; have a3 := i94x9; unfold In at a3; have a4 := i79; unfold In at a4; have a5 := (in_c 59 rfl); unfold In at a5; have a6 := i153x16; unfold In at a6; have a7 := t_add e153x16 i153x9 (in_c 1 rfl) rfl; have a8 := (in_c 1 rfl); unfold In at a8; have a9 := i153x9; unfold In at a9; have a10 := t_add e140x16 i140x9 (in_c 1 rfl) rfl; have a11 := i140x9; unfold In at a11; have a12 := i152; unfold In at a12; have a13 := t_add e152 (in_c 97 rfl) i151 rfl; have a14 := i151; unfold In at a14; have a15 := (in_c 97 rfl); unfold In at a15; have a16 := i94x16; unfold In at a16; have a17 := t_add e94x16 i94x9 (in_c 1 rfl) rfl; have a18 := i78; unfold In at a18; have a19 := t_add e78 ro_109_19 (in_c 160 rfl) rfl; have a20 := (in_c 160 rfl); unfold In at a20; exact ⟨by omega, by omega⟩
          refine g_iastore 10 (gd rfl) rfl (n := 8000) rfl (in_ix i159x9 rfl) ?_
          have hI159x9 := inv_sI (q := 126) (j := z153x16.toNatClampNeg) hI153x17 rfl (in_w (-2147483648) 2147483647 (in_c 59 rfl) rfl)
          refine g_aload_n 11 (gd rfl) rfl rfl ?_
          refine g_dup 12 (gd rfl) rfl rfl ?_
          refine g_getI 15 (gd rfl) rfl rfl rfl (fun z159x12 e159x12 => ?_)
          have q159x12 : z153x16 = z159x12 := (sI_F (sF_get)).trans e159x12.symm
          subst q159x12
          refine g_iconst 1 16 (gd rfl) rfl rfl ?_
          refine g_iadd 17 (gd rfl) rfl (fun z159x16 e159x16 => ?_)
          have i159x16 := in_add 1 8000 e159x16 i159x9 (in_c 1 rfl) rfl rfl
          refine g_putI 20 (gd rfl) rfl rfl rfl rfl ?_
          have hI159x17 := inv_sF (q := 109) (j := 26) hI159x9 rfl (in_w 0 8000 i159x16 rfl)
          refine g_return (gd rfl) rfl (hp159 _ _ ?_)
          show GG _ _ _ _ _ _ _ _ [] _ _ _
          refine g_iinc 165 (gd rfl) rfl rfl (Nat.le_of_ble_eq_true rfl) (fun z162 e162 => ?_)
          have i162 := in_add 1 320 e162 i79 (in_c 1 rfl) rfl rfl
          refine g_goto 70 (gd rfl) rfl ?_
          have v70 : z159x16 = (sF (sI (sF (sI (sF (sI s134 126 z134a.toNatClampNeg (Int32.ofInt 32)) 109 26 z140x16) 126 z140x16.toNatClampNeg z152) 109 26 z153x16) 126 z153x16.toNatClampNeg (Int32.ofInt 59)) 109 26 z159x16).2.2.1 109 26 := sF_get
          have n70 : (z159x16).toInt ≤ 128 + 40 * ((z162).toInt - (u_109_19).toInt) := by have a0 := ro_109_20; unfold In at a0; have a1 := ro_109_19; unfold In at a1; have a2 := ro_109_18; unfold In at a2; have a3 := i94x9; unfold In at a3; have a4 := i79; unfold In at a4; have a5 := i162; unfold In at a5; have a6 := t_add e162 i79 (in_c 1 rfl) rfl; have a7 := (in_c 1 rfl); unfold In at a7; have a8 := i159x16; unfold In at a8; have a9 := t_add e159x16 i159x9 (in_c 1 rfl) rfl; have a10 := i159x9; unfold In at a10; have a11 := t_add e153x16 i153x9 (in_c 1 rfl) rfl; have a12 := i153x9; unfold In at a12; have a13 := t_add e140x16 i140x9 (in_c 1 rfl) rfl; have a14 := i140x9; unfold In at a14; have a15 := i152; unfold In at a15; have a16 := t_add e152 (in_c 97 rfl) i151 rfl; have a17 := i151; unfold In at a17; have a18 := (in_c 97 rfl); unfold In at a18; have a19 := i94x16; unfold In at a19; have a20 := t_add e94x16 i94x9 (in_c 1 rfl) rfl; have a21 := i78; unfold In at a21; have a22 := t_add e78 ro_109_19 (in_c 160 rfl) rfl; have a23 := (in_c 160 rfl); unfold In at a23; omega
          have n70a : (u_109_19).toInt ≤ (z162).toInt := by have a0 := ro_109_20; unfold In at a0; have a1 := ro_109_19; unfold In at a1; have a2 := ro_109_18; unfold In at a2; have a3 := i94x9; unfold In at a3; have a4 := i79; unfold In at a4; have a5 := i162; unfold In at a5; have a6 := t_add e162 i79 (in_c 1 rfl) rfl; have a7 := (in_c 1 rfl); unfold In at a7; have a8 := i159x16; unfold In at a8; have a9 := t_add e159x16 i159x9 (in_c 1 rfl) rfl; have a10 := i159x9; unfold In at a10; have a11 := t_add e153x16 i153x9 (in_c 1 rfl) rfl; have a12 := i153x9; unfold In at a12; have a13 := t_add e140x16 i140x9 (in_c 1 rfl) rfl; have a14 := i140x9; unfold In at a14; have a15 := i152; unfold In at a15; have a16 := t_add e152 (in_c 97 rfl) i151 rfl; have a17 := i151; unfold In at a17; have a18 := (in_c 97 rfl); unfold In at a18; have a19 := i94x16; unfold In at a19; have a20 := t_add e94x16 i94x9 (in_c 1 rfl) rfl; have a21 := i78; unfold In at a21; have a22 := t_add e78 ro_109_19 (in_c 160 rfl) rfl; have a23 := (in_c 160 rfl); unfold In at a23; omega
          exact gg_w (by omega) (gg_f (gf_cons rfl (gf_cons rfl gf_nil)) (ih70 (sF (sI (sF (sI (sF (sI s134 126 z134a.toNatClampNeg (Int32.ofInt 32)) 109 26 z140x16) 126 z140x16.toNatClampNeg z152) 109 26 z153x16) 126 z153x16.toNatClampNeg (Int32.ofInt 59)) 109 26 z159x16) z162 z159x16 hI159x17 (fr_sF rfl (fr_sI rfl (fr_sF rfl (fr_sI rfl (fr_sF rfl (fr_sI rfl (fr_tr rfl (fr_tr rfl (fr_tr rfl (fr_tr rfl (fr_sF rfl (fr_sI rfl hFc70)) hF104) hF114) hF124) hF134))))))) (in_w 0 400 i162 rfl) v70 n70 n70a (m_up mm70 (t_add e162 i79 (in_c 1 rfl) rfl) (in_w 1 1 (in_c 1 rfl) rfl))))
  have ct12 : ∀ (k12 : Nat) (sc12 : GS) (y12_1 : Int32) (w12_109_26 : Int32), Inv sc12 → Fr fm_308 s sc12 → (In y12_1 0 32) → (w12_109_26 = sc12.2.2.1 109 26) → ((w12_109_26).toInt ≤ 4 * (y12_1).toInt) → 32 - (y12_1).toInt < (k12 : Int) → GG Z (d - 1) 308 post (gx xp) (360902 + k12 * 900) 12 (fun j => xlook j [(0, .ref (A 109)), (1, .int y12_1)]) [] (WW Z A sc12 ++ ex) 0 0 := by
    intro k12
    induction k12 with
    | zero => intro sc12 y12_1 w12_109_26 hIc12 hFc12 j12_1 v12_109_26 n12_0 mm12; exact m_no mm12 j12_1 rfl
    | succ k12 ih12 =>
      intro sc12 y12_1 w12_109_26 hIc12 hFc12 j12_1 v12_109_26 n12_0 mm12
      refine gg_w (M := 360902 + k12 * 900 + 900) (by omega) ?_
      refine g_iload_n 13 (gd rfl) rfl rfl ?_
      refine g_aload_n 14 (gd rfl) rfl rfl ?_
      refine g_getI 17 (gd rfl) rfl rfl rfl (fun z14 e14 => ?_)
      have q14 : u_109_20 = z14 := (fr_F e_109_20 hFc12 rfl).trans e14.symm
      subst q14
      refine g_cmp_ge 20 65 (gd rfl) rfl rfl (fun c17 => ?_) (fun c17 => ?_)
      · skip
        refine g_aload_n 66 (gd rfl) rfl rfl ?_
        refine g_getI 69 (gd rfl) rfl rfl rfl (fun z66 e66 => ?_)
        have q66 : u_109_19 = z66 := (fr_F e_109_19 hFc12 rfl).trans e66.symm
        subst q66
        refine g_istore_n 70 (gd rfl) rfl (Nat.le_of_ble_eq_true rfl) ?_
        have n70 : (w12_109_26).toInt ≤ 128 + 40 * ((u_109_19).toInt - (u_109_19).toInt) := by have a0 := ro_109_20; unfold In at a0; have a1 := ro_109_19; unfold In at a1; have a2 := ro_109_18; unfold In at a2; have a3 := (inv_F hIc12 0 8000 rfl v12_109_26); unfold In at a3; have a4 := j12_1; unfold In at a4; omega
        have n70a : (u_109_19).toInt ≤ (u_109_19).toInt := by have a0 := ro_109_20; unfold In at a0; have a1 := ro_109_19; unfold In at a1; have a2 := ro_109_18; unfold In at a2; have a3 := (inv_F hIc12 0 8000 rfl v12_109_26); unfold In at a3; have a4 := j12_1; unfold In at a4; omega
        exact gg_w (by omega) (gg_f (gf_cons rfl (gf_cons rfl gf_nil)) (ct70 401 sc12 u_109_19 w12_109_26 hIc12 hFc12 (in_w 0 400 ro_109_19 rfl) v12_109_26 n70 n70a (m_in 401 (in_w 0 400 ro_109_19 rfl) rfl)))
      · skip
        have i17 := r_lt1 0 31 c17 j12_1 ro_109_20 rfl
        have i17a := r_lt2 1 32 c17 j12_1 ro_109_20 rfl
        refine g_aload_n 21 (gd rfl) rfl rfl ?_
        refine g_bipush 110 23 (gd rfl) rfl rfl ?_
        refine g_callv (X := _) (As := [.int (Int32.ofInt 110)]) (r := []) (b := A 109) (q := 109) 26 (gd rfl) rfl rfl rfl rfl rfl (ww_o rfl) (Nat.le_of_ble_eq_true rfl) (mc := 0) (ms := 0) (Nat.zero_le _) (Nat.zero_le _) (P := fun v u => _) ?_ (fun e u h => h) (fun v u h => h)
        intro po23 xx23 hp23 hx23
        refine g_enter2 (k := 306) (N := 300) (by omega) rfl (Nat.le_of_ble_eq_true rfl) ?_
        refine g_aload_n 1 (gd rfl) rfl rfl ?_
        refine g_getA (q2 := 126) 4 (gd rfl) rfl rfl rfl rfl ?_
        refine g_aload_n 5 (gd rfl) rfl rfl ?_
        refine g_getI 8 (gd rfl) rfl rfl rfl (fun z23x5 e23x5 => ?_)
        have q23x5 : w12_109_26 = z23x5 := (v12_109_26).trans e23x5.symm
        subst q23x5
        refine g_iload_n 9 (gd rfl) rfl rfl ?_
        have i23x9 : In w12_109_26 0 7999 := by have a0 := i17a; unfold In at a0; have a1 := ro_109_19; unfold In at a1; have a2 := ro_109_18; unfold In at a2; have a3 := (inv_F hIc12 0 8000 rfl v12_109_26); unfold In at a3; have a4 := i17; unfold In at a4; have a5 := (in_c 110 rfl); unfold In at a5; exact ⟨by omega, by omega⟩
        refine g_iastore 10 (gd rfl) rfl (n := 8000) rfl (in_ix i23x9 rfl) ?_
        have hI23x9 := inv_sI (q := 126) (j := w12_109_26.toNatClampNeg) hIc12 rfl (in_w (-2147483648) 2147483647 (in_c 110 rfl) rfl)
        refine g_aload_n 11 (gd rfl) rfl rfl ?_
        refine g_dup 12 (gd rfl) rfl rfl ?_
        refine g_getI 15 (gd rfl) rfl rfl rfl (fun z23x12 e23x12 => ?_)
        have q23x12 : w12_109_26 = z23x12 := (sI_F (v12_109_26)).trans e23x12.symm
        subst q23x12
        refine g_iconst 1 16 (gd rfl) rfl rfl ?_
        refine g_iadd 17 (gd rfl) rfl (fun z23x16 e23x16 => ?_)
        have i23x16 := in_add 1 8000 e23x16 i23x9 (in_c 1 rfl) rfl rfl
        refine g_putI 20 (gd rfl) rfl rfl rfl rfl ?_
        have hI23x17 := inv_sF (q := 109) (j := 26) hI23x9 rfl (in_w 0 8000 i23x16 rfl)
        refine g_return (gd rfl) rfl (hp23 _ _ ?_)
        show GG _ _ _ _ _ _ _ _ [] _ _ _
        refine g_aload_n 27 (gd rfl) rfl rfl ?_
        refine g_bipush 32 29 (gd rfl) rfl rfl ?_
        refine g_callv (X := _) (As := [.int (Int32.ofInt 32)]) (r := []) (b := A 109) (q := 109) 32 (gd rfl) rfl rfl rfl rfl rfl (ww_o rfl) (Nat.le_of_ble_eq_true rfl) (mc := 0) (ms := 0) (Nat.zero_le _) (Nat.zero_le _) (P := fun v u => _) ?_ (fun e u h => h) (fun v u h => h)
        intro po29 xx29 hp29 hx29
        refine g_enter2 (k := 306) (N := 300) (by omega) rfl (Nat.le_of_ble_eq_true rfl) ?_
        refine g_aload_n 1 (gd rfl) rfl rfl ?_
        refine g_getA (q2 := 126) 4 (gd rfl) rfl rfl rfl rfl ?_
        refine g_aload_n 5 (gd rfl) rfl rfl ?_
        refine g_getI 8 (gd rfl) rfl rfl rfl (fun z29x5 e29x5 => ?_)
        have q29x5 : z23x16 = z29x5 := (sF_get).trans e29x5.symm
        subst q29x5
        refine g_iload_n 9 (gd rfl) rfl rfl ?_
        have i29x9 : In z23x16 0 7999 := by have a0 := i17a; unfold In at a0; have a1 := ro_109_19; unfold In at a1; have a2 := ro_109_18; unfold In at a2; have a3 := i23x9; unfold In at a3; have a4 := i17; unfold In at a4; have a5 := (in_c 32 rfl); unfold In at a5; have a6 := i23x16; unfold In at a6; have a7 := t_add e23x16 i23x9 (in_c 1 rfl) rfl; have a8 := (in_c 1 rfl); unfold In at a8; exact ⟨by omega, by omega⟩
        refine g_iastore 10 (gd rfl) rfl (n := 8000) rfl (in_ix i29x9 rfl) ?_
        have hI29x9 := inv_sI (q := 126) (j := z23x16.toNatClampNeg) hI23x17 rfl (in_w (-2147483648) 2147483647 (in_c 32 rfl) rfl)
        refine g_aload_n 11 (gd rfl) rfl rfl ?_
        refine g_dup 12 (gd rfl) rfl rfl ?_
        refine g_getI 15 (gd rfl) rfl rfl rfl (fun z29x12 e29x12 => ?_)
        have q29x12 : z23x16 = z29x12 := (sI_F (sF_get)).trans e29x12.symm
        subst q29x12
        refine g_iconst 1 16 (gd rfl) rfl rfl ?_
        refine g_iadd 17 (gd rfl) rfl (fun z29x16 e29x16 => ?_)
        have i29x16 := in_add 1 8000 e29x16 i29x9 (in_c 1 rfl) rfl rfl
        refine g_putI 20 (gd rfl) rfl rfl rfl rfl ?_
        have hI29x17 := inv_sF (q := 109) (j := 26) hI29x9 rfl (in_w 0 8000 i29x16 rfl)
        refine g_return (gd rfl) rfl (hp29 _ _ ?_)
        show GG _ _ _ _ _ _ _ _ [] _ _ _
        refine g_aload_n 33 (gd rfl) rfl rfl ?_
        refine g_bipush 97 35 (gd rfl) rfl rfl ?_
        refine g_aload_n 36 (gd rfl) rfl rfl ?_
        refine g_getA (q2 := 111) 39 (gd rfl) rfl rfl rfl rfl ?_
        refine g_bipush 32 41 (gd rfl) rfl rfl ?_
        refine g_aload_n 42 (gd rfl) rfl rfl ?_
        refine g_getI 45 (gd rfl) rfl rfl rfl (fun z42 e42 => ?_)
        have q42 : u_109_18 = z42 := (sF_ne rfl (sI_F (sF_ne rfl (sI_F (fr_F e_109_18 hFc12 rfl))))).trans e42.symm
        subst q42
        refine g_imul 46 (gd rfl) rfl (fun z45 e45 => ?_)
        have i45 := in_mulc 32 0 32 (Or.inl e45) ro_109_18 rfl rfl
        refine g_iload_n 47 (gd rfl) rfl rfl ?_
        refine g_iadd 48 (gd rfl) rfl (fun z47 e47 => ?_)
        have i47 := in_add 0 63 e47 i45 i17 rfl rfl
        refine g_iaload 49 (gd rfl) rfl (n := 96) rfl (in_ix i47 rfl) (fun z48 e48 => ?_)
        have i48 := inv_I hI29x17 (n := 96) (t := 0) 0 25 rfl (in_ix i47 rfl) rfl e48
        refine g_iadd 50 (gd rfl) rfl (fun z49 e49 => ?_)
        have i49 := in_add 97 122 e49 (in_c 97 rfl) i48 rfl rfl
        refine g_callv (X := _) (As := [.int z49]) (r := []) (b := A 109) (q := 109) 53 (gd rfl) rfl rfl rfl rfl rfl (ww_o rfl) (Nat.le_of_ble_eq_true rfl) (mc := 0) (ms := 0) (Nat.zero_le _) (Nat.zero_le _) (P := fun v u => _) ?_ (fun e u h => h) (fun v u h => h)
        intro po50 xx50 hp50 hx50
        refine g_enter2 (k := 306) (N := 300) (by omega) rfl (Nat.le_of_ble_eq_true rfl) ?_
        refine g_aload_n 1 (gd rfl) rfl rfl ?_
        refine g_getA (q2 := 126) 4 (gd rfl) rfl rfl rfl rfl ?_
        refine g_aload_n 5 (gd rfl) rfl rfl ?_
        refine g_getI 8 (gd rfl) rfl rfl rfl (fun z50x5 e50x5 => ?_)
        have q50x5 : z29x16 = z50x5 := (sF_get).trans e50x5.symm
        subst q50x5
        refine g_iload_n 9 (gd rfl) rfl rfl ?_
        have i50x9 : In z29x16 0 7999 := by have a0 := i17a; unfold In at a0; have a1 := ro_109_19; unfold In at a1; have a2 := ro_109_18; unfold In at a2; have a3 := i23x9; unfold In at a3; have a4 := i17; unfold In at a4; have a5 := i49; unfold In at a5; have a6 := t_add e49 (in_c 97 rfl) i48 rfl; have a7 := i48; unfold In at a7; have a8 := (in_c 97 rfl); unfold In at a8; have a9 := i29x16; unfold In at a9; have a10 := t_add e29x16 i29x9 (in_c 1 rfl) rfl; have a11 := (in_c 1 rfl); unfold In at a11; have a12 := i29x9; unfold In at a12; have a13 := t_add e23x16 i23x9 (in_c 1 rfl) rfl; have a14 := i47; unfold In at a14; have a15 := t_add e47 i45 i17 rfl; have a16 := i45; unfold In at a16; have a17 := (t_mulc 32 (Or.inl e45) ro_109_18 rfl).1; exact ⟨by omega, by omega⟩
        refine g_iastore 10 (gd rfl) rfl (n := 8000) rfl (in_ix i50x9 rfl) ?_
        have hI50x9 := inv_sI (q := 126) (j := z29x16.toNatClampNeg) hI29x17 rfl (in_w (-2147483648) 2147483647 i49 rfl)
        refine g_aload_n 11 (gd rfl) rfl rfl ?_
        refine g_dup 12 (gd rfl) rfl rfl ?_
        refine g_getI 15 (gd rfl) rfl rfl rfl (fun z50x12 e50x12 => ?_)
        have q50x12 : z29x16 = z50x12 := (sI_F (sF_get)).trans e50x12.symm
        subst q50x12
        refine g_iconst 1 16 (gd rfl) rfl rfl ?_
        refine g_iadd 17 (gd rfl) rfl (fun z50x16 e50x16 => ?_)
        have i50x16 := in_add 1 8000 e50x16 i50x9 (in_c 1 rfl) rfl rfl
        refine g_putI 20 (gd rfl) rfl rfl rfl rfl ?_
        have hI50x17 := inv_sF (q := 109) (j := 26) hI50x9 rfl (in_w 0 8000 i50x16 rfl)
        refine g_return (gd rfl) rfl (hp50 _ _ ?_)
        show GG _ _ _ _ _ _ _ _ [] _ _ _
        refine g_aload_n 54 (gd rfl) rfl rfl ?_
        refine g_bipush 59 56 (gd rfl) rfl rfl ?_
        refine g_callv (X := _) (As := [.int (Int32.ofInt 59)]) (r := []) (b := A 109) (q := 109) 59 (gd rfl) rfl rfl rfl rfl rfl (ww_o rfl) (Nat.le_of_ble_eq_true rfl) (mc := 0) (ms := 0) (Nat.zero_le _) (Nat.zero_le _) (P := fun v u => _) ?_ (fun e u h => h) (fun v u h => h)
        intro po56 xx56 hp56 hx56
        refine g_enter2 (k := 306) (N := 300) (by omega) rfl (Nat.le_of_ble_eq_true rfl) ?_
        refine g_aload_n 1 (gd rfl) rfl rfl ?_
        refine g_getA (q2 := 126) 4 (gd rfl) rfl rfl rfl rfl ?_
        refine g_aload_n 5 (gd rfl) rfl rfl ?_
        refine g_getI 8 (gd rfl) rfl rfl rfl (fun z56x5 e56x5 => ?_)
        have q56x5 : z50x16 = z56x5 := (sF_get).trans e56x5.symm
        subst q56x5
        refine g_iload_n 9 (gd rfl) rfl rfl ?_
        have i56x9 : In z50x16 0 7999 := by have a0 := i17a; unfold In at a0; have a1 := ro_109_19; unfold In at a1; have a2 := ro_109_18; unfold In at a2; have a3 := i23x9; unfold In at a3; have a4 := i17; unfold In at a4; have a5 := (in_c 59 rfl); unfold In at a5; have a6 := i50x16; unfold In at a6; have a7 := t_add e50x16 i50x9 (in_c 1 rfl) rfl; have a8 := (in_c 1 rfl); unfold In at a8; have a9 := i50x9; unfold In at a9; have a10 := t_add e29x16 i29x9 (in_c 1 rfl) rfl; have a11 := i29x9; unfold In at a11; have a12 := t_add e23x16 i23x9 (in_c 1 rfl) rfl; have a13 := i49; unfold In at a13; have a14 := t_add e49 (in_c 97 rfl) i48 rfl; have a15 := i48; unfold In at a15; have a16 := (in_c 97 rfl); unfold In at a16; have a17 := i47; unfold In at a17; have a18 := t_add e47 i45 i17 rfl; have a19 := i45; unfold In at a19; have a20 := (t_mulc 32 (Or.inl e45) ro_109_18 rfl).1; exact ⟨by omega, by omega⟩
        refine g_iastore 10 (gd rfl) rfl (n := 8000) rfl (in_ix i56x9 rfl) ?_
        have hI56x9 := inv_sI (q := 126) (j := z50x16.toNatClampNeg) hI50x17 rfl (in_w (-2147483648) 2147483647 (in_c 59 rfl) rfl)
        refine g_aload_n 11 (gd rfl) rfl rfl ?_
        refine g_dup 12 (gd rfl) rfl rfl ?_
        refine g_getI 15 (gd rfl) rfl rfl rfl (fun z56x12 e56x12 => ?_)
        have q56x12 : z50x16 = z56x12 := (sI_F (sF_get)).trans e56x12.symm
        subst q56x12
        refine g_iconst 1 16 (gd rfl) rfl rfl ?_
        refine g_iadd 17 (gd rfl) rfl (fun z56x16 e56x16 => ?_)
        have i56x16 := in_add 1 8000 e56x16 i56x9 (in_c 1 rfl) rfl rfl
        refine g_putI 20 (gd rfl) rfl rfl rfl rfl ?_
        have hI56x17 := inv_sF (q := 109) (j := 26) hI56x9 rfl (in_w 0 8000 i56x16 rfl)
        refine g_return (gd rfl) rfl (hp56 _ _ ?_)
        show GG _ _ _ _ _ _ _ _ [] _ _ _
        refine g_iinc 62 (gd rfl) rfl rfl (Nat.le_of_ble_eq_true rfl) (fun z59 e59 => ?_)
        have i59 := in_add 1 32 e59 i17 (in_c 1 rfl) rfl rfl
        refine g_goto 12 (gd rfl) rfl ?_
        have v12 : z56x16 = (sF (sI (sF (sI (sF (sI (sF (sI sc12 126 w12_109_26.toNatClampNeg (Int32.ofInt 110)) 109 26 z23x16) 126 z23x16.toNatClampNeg (Int32.ofInt 32)) 109 26 z29x16) 126 z29x16.toNatClampNeg z49) 109 26 z50x16) 126 z50x16.toNatClampNeg (Int32.ofInt 59)) 109 26 z56x16).2.2.1 109 26 := sF_get
        have n12 : (z56x16).toInt ≤ 4 * (z59).toInt := by have a0 := i17a; unfold In at a0; have a1 := ro_109_19; unfold In at a1; have a2 := ro_109_18; unfold In at a2; have a3 := i23x9; unfold In at a3; have a4 := i17; unfold In at a4; have a5 := i59; unfold In at a5; have a6 := t_add e59 i17 (in_c 1 rfl) rfl; have a7 := (in_c 1 rfl); unfold In at a7; have a8 := i56x16; unfold In at a8; have a9 := t_add e56x16 i56x9 (in_c 1 rfl) rfl; have a10 := i56x9; unfold In at a10; have a11 := t_add e50x16 i50x9 (in_c 1 rfl) rfl; have a12 := i50x9; unfold In at a12; have a13 := t_add e29x16 i29x9 (in_c 1 rfl) rfl; have a14 := i29x9; unfold In at a14; have a15 := t_add e23x16 i23x9 (in_c 1 rfl) rfl; have a16 := i49; unfold In at a16; have a17 := t_add e49 (in_c 97 rfl) i48 rfl; have a18 := i48; unfold In at a18; have a19 := (in_c 97 rfl); unfold In at a19; have a20 := i47; unfold In at a20; have a21 := t_add e47 i45 i17 rfl; have a22 := i45; unfold In at a22; have a23 := (t_mulc 32 (Or.inl e45) ro_109_18 rfl).1; omega
        exact gg_w (by omega) (gg_f (gf_cons rfl (gf_cons rfl gf_nil)) (ih12 (sF (sI (sF (sI (sF (sI (sF (sI sc12 126 w12_109_26.toNatClampNeg (Int32.ofInt 110)) 109 26 z23x16) 126 z23x16.toNatClampNeg (Int32.ofInt 32)) 109 26 z29x16) 126 z29x16.toNatClampNeg z49) 109 26 z50x16) 126 z50x16.toNatClampNeg (Int32.ofInt 59)) 109 26 z56x16) z59 z56x16 hI56x17 (fr_sF rfl (fr_sI rfl (fr_sF rfl (fr_sI rfl (fr_sF rfl (fr_sI rfl (fr_sF rfl (fr_sI rfl hFc12)))))))) (in_w 0 32 i59 rfl) v12 n12 (m_up mm12 (t_add e59 i17 (in_c 1 rfl) rfl) (in_w 1 1 (in_c 1 rfl) rfl))))
  refine g_enter2 (k := 308) (N := 391502) (by omega) rfl (Nat.le_of_ble_eq_true rfl) ?_
  refine g_aload_n 1 (gd rfl) rfl rfl ?_
  refine g_iconst 0 2 (gd rfl) rfl rfl ?_
  refine g_putI 5 (gd rfl) rfl rfl rfl rfl ?_
  have hI2 := inv_sF (q := 109) (j := 0) hI rfl (in_w 0 2 (in_c 0 rfl) rfl)
  refine g_aload_n 6 (gd rfl) rfl rfl ?_
  refine g_iconst 0 7 (gd rfl) rfl rfl ?_
  refine g_putI 10 (gd rfl) rfl rfl rfl rfl ?_
  have hI7 := inv_sF (q := 109) (j := 26) hI2 rfl (in_w 0 8000 (in_c 0 rfl) rfl)
  refine g_iconst 0 11 (gd rfl) rfl rfl ?_
  refine g_istore_n 12 (gd rfl) rfl (Nat.le_of_ble_eq_true rfl) ?_
  have v12 : (Int32.ofInt 0) = (sF (sF s 109 0 (Int32.ofInt 0)) 109 26 (Int32.ofInt 0)).2.2.1 109 26 := sF_get
  have n12 : ((Int32.ofInt 0)).toInt ≤ 4 * ((Int32.ofInt 0)).toInt := by have a0 := ro_109_20; unfold In at a0; have a1 := ro_109_19; unfold In at a1; have a2 := ro_109_18; unfold In at a2; have a3 := (in_c 0 rfl); unfold In at a3; omega
  exact gg_w (by omega) (gg_f (gf_cons rfl (gf_cons rfl gf_nil)) (ct12 33 (sF (sF s 109 0 (Int32.ofInt 0)) 109 26 (Int32.ofInt 0)) (Int32.ofInt 0) (Int32.ofInt 0) hI7 (fr_sF rfl (fr_sF rfl fr_rf)) (in_w 0 32 (in_c 0 rfl) rfl) v12 n12 (m_in 33 (in_w 0 32 (in_c 0 rfl) rfl) rfl)))

def fm_309 : FM := ([], [], [(109, 0)], [])
/-- GraphHouseModel.printed -/
theorem k_309 {Z : AmZ} {A : Nat → Nat} {s : GS} {ex : va_W} {d : Nat} {X : AmX} {x1 : Int32} (hd : 4 ≤ d) (hI : Inv s)  : GC Z d 309 [.ref (A 109), .int x1] (WW Z A s ++ ex) 0 0 (fun v u => ∃ t : GS, Inv t ∧ Fr fm_309 s t ∧ ∃ z : Int32, v = some (.int z) ∧ u = WW Z A t ++ ex ∧ In z (-2147483648) 2147483647) X := by
  intro post xp hP hX
  obtain ⟨u_109_26, e_109_26⟩ : ∃ w, w = s.2.2.1 109 26 := ⟨_, rfl⟩
  have ro_109_26 := inv_F hI 0 8000 rfl e_109_26
  refine g_enter2 (k := 309) (N := 900) (by omega) rfl (Nat.le_of_ble_eq_true rfl) ?_
  refine g_aload_n 1 (gd rfl) rfl rfl ?_
  refine g_iload_n 2 (gd rfl) rfl rfl ?_
  refine g_if_lt 5 17 (gd rfl) rfl rfl (fun c2 => ?_) (fun c2 => ?_)
  · skip
    have i2 := z_lt (-2147483648) (-1) c2 (i_rng x1) rfl
    refine g_iconst 0 18 (gd rfl) rfl rfl ?_
    refine g_callv (X := _) (As := [.int (Int32.ofInt 0)]) (r := []) (b := A 109) (q := 109) 21 (gd rfl) rfl rfl rfl rfl rfl (ww_o rfl) (Nat.le_of_ble_eq_true rfl) (mc := 0) (ms := 0) (Nat.zero_le _) (Nat.zero_le _) (P := fun v u => _) ?_ (fun e u h => h) (fun v u h => h)
    intro po18 xx18 hp18 hx18
    refine g_enter2 (k := 271) (N := 300) (by omega) rfl (Nat.le_of_ble_eq_true rfl) ?_
    refine g_aload_n 1 (gd rfl) rfl rfl ?_
    refine g_iload_n 2 (gd rfl) rfl rfl ?_
    refine g_iconst 1 3 (gd rfl) rfl rfl ?_
    refine g_callv (X := _) (As := [.int (Int32.ofInt 0), .int (Int32.ofInt 1)]) (r := []) (b := A 109) (q := 109) 6 (gd rfl) rfl rfl rfl rfl rfl (ww_o rfl) (Nat.le_of_ble_eq_true rfl) (mc := 0) (ms := 0) (Nat.zero_le _) (Nat.zero_le _) (P := fun v u => _) ?_ (fun e u h => h) (fun v u h => h)
    intro po18x3 xx18x3 hp18x3 hx18x3
    refine g_enter2 (k := 270) (N := 300) (by omega) rfl (Nat.le_of_ble_eq_true rfl) ?_
    refine g_aload_n 1 (gd rfl) rfl rfl ?_
    refine g_iload_n 2 (gd rfl) rfl rfl ?_
    refine g_if_ne 5 9 (gd rfl) rfl rfl (fun c18x3x2 => ?_) (fun c18x3x2 => ?_)
    · skip
      exact zn_ne c18x3x2 (in_c 0 rfl) rfl
    · skip
      refine g_iconst 1 6 (gd rfl) rfl rfl ?_
      refine g_goto 18 (gd rfl) rfl ?_
      refine g_putI 21 (gd rfl) rfl rfl rfl rfl ?_
      have hI18x3x18 := inv_sF (q := 109) (j := 0) hI rfl (in_w 0 2 (in_c 1 rfl) rfl)
      refine g_aload_n 22 (gd rfl) rfl rfl ?_
      refine g_getI 25 (gd rfl) rfl rfl rfl (fun z18x3x22 e18x3x22 => ?_)
      have q18x3x22 : (Int32.ofInt 1) = z18x3x22 := (sF_get).trans e18x3x22.symm
      subst q18x3x22
      refine g_if_le 28 32 (gd rfl) rfl rfl (fun c18x3x25 => ?_) (fun c18x3x25 => ?_)
      · skip
        exact zn_le c18x3x25 (in_c 1 rfl) rfl
      · skip
        refine g_iconst 1 29 (gd rfl) rfl rfl ?_
        refine g_goto 33 (gd rfl) rfl ?_
        refine g_ireturn (gd rfl) rfl (nb01 (in_w 0 1 (in_c 1 rfl) rfl)) (hp18x3 _ _ ?_)
        show GG _ _ _ _ _ _ _ _ [.int (Int32.ofInt 1)] _ _ _
        refine g_ireturn (gd rfl) rfl (nb01 (in_w 0 1 (in_c 1 rfl) rfl)) (hp18 _ _ ?_)
        show GG _ _ _ _ _ _ _ _ [.int (Int32.ofInt 1)] _ _ _
        refine g_if_eq 24 28 (gd rfl) rfl rfl (fun c21 => ?_) (fun c21 => ?_)
        · skip
          exact zn_eq c21 (in_c 1 rfl) rfl
        · skip
          refine g_iconst 0 25 (gd rfl) rfl rfl ?_
          refine g_goto 34 (gd rfl) rfl ?_
          exact g_ireturn (gd rfl) rfl rfl (hP _ _ ⟨(sF s 109 0 (Int32.ofInt 1)), hI18x3x18, (fr_sF rfl fr_rf), (Int32.ofInt 0), rfl, rfl, in_w (-2147483648) 2147483647 (in_c 0 rfl) rfl⟩)
  · skip
    have i2 := z_ge 0 2147483647 c2 (i_rng x1) rfl
    refine g_iload_n 6 (gd rfl) rfl rfl ?_
    refine g_aload_n 7 (gd rfl) rfl rfl ?_
    refine g_getI 10 (gd rfl) rfl rfl rfl (fun z7 e7 => ?_)
    have q7 : u_109_26 = z7 := (e_109_26).trans e7.symm
    subst q7
    refine g_cmp_ge 13 17 (gd rfl) rfl rfl (fun c10 => ?_) (fun c10 => ?_)
    · skip
      refine g_iconst 0 18 (gd rfl) rfl rfl ?_
      refine g_callv (X := _) (As := [.int (Int32.ofInt 0)]) (r := []) (b := A 109) (q := 109) 21 (gd rfl) rfl rfl rfl rfl rfl (ww_o rfl) (Nat.le_of_ble_eq_true rfl) (mc := 0) (ms := 0) (Nat.zero_le _) (Nat.zero_le _) (P := fun v u => _) ?_ (fun e u h => h) (fun v u h => h)
      intro po18 xx18 hp18 hx18
      refine g_enter2 (k := 271) (N := 300) (by omega) rfl (Nat.le_of_ble_eq_true rfl) ?_
      refine g_aload_n 1 (gd rfl) rfl rfl ?_
      refine g_iload_n 2 (gd rfl) rfl rfl ?_
      refine g_iconst 1 3 (gd rfl) rfl rfl ?_
      refine g_callv (X := _) (As := [.int (Int32.ofInt 0), .int (Int32.ofInt 1)]) (r := []) (b := A 109) (q := 109) 6 (gd rfl) rfl rfl rfl rfl rfl (ww_o rfl) (Nat.le_of_ble_eq_true rfl) (mc := 0) (ms := 0) (Nat.zero_le _) (Nat.zero_le _) (P := fun v u => _) ?_ (fun e u h => h) (fun v u h => h)
      intro po18x3 xx18x3 hp18x3 hx18x3
      refine g_enter2 (k := 270) (N := 300) (by omega) rfl (Nat.le_of_ble_eq_true rfl) ?_
      refine g_aload_n 1 (gd rfl) rfl rfl ?_
      refine g_iload_n 2 (gd rfl) rfl rfl ?_
      refine g_if_ne 5 9 (gd rfl) rfl rfl (fun c18x3x2 => ?_) (fun c18x3x2 => ?_)
      · skip
        exact zn_ne c18x3x2 (in_c 0 rfl) rfl
      · skip
        refine g_iconst 1 6 (gd rfl) rfl rfl ?_
        refine g_goto 18 (gd rfl) rfl ?_
        refine g_putI 21 (gd rfl) rfl rfl rfl rfl ?_
        have hI18x3x18 := inv_sF (q := 109) (j := 0) hI rfl (in_w 0 2 (in_c 1 rfl) rfl)
        refine g_aload_n 22 (gd rfl) rfl rfl ?_
        refine g_getI 25 (gd rfl) rfl rfl rfl (fun z18x3x22 e18x3x22 => ?_)
        have q18x3x22 : (Int32.ofInt 1) = z18x3x22 := (sF_get).trans e18x3x22.symm
        subst q18x3x22
        refine g_if_le 28 32 (gd rfl) rfl rfl (fun c18x3x25 => ?_) (fun c18x3x25 => ?_)
        · skip
          exact zn_le c18x3x25 (in_c 1 rfl) rfl
        · skip
          refine g_iconst 1 29 (gd rfl) rfl rfl ?_
          refine g_goto 33 (gd rfl) rfl ?_
          refine g_ireturn (gd rfl) rfl (nb01 (in_w 0 1 (in_c 1 rfl) rfl)) (hp18x3 _ _ ?_)
          show GG _ _ _ _ _ _ _ _ [.int (Int32.ofInt 1)] _ _ _
          refine g_ireturn (gd rfl) rfl (nb01 (in_w 0 1 (in_c 1 rfl) rfl)) (hp18 _ _ ?_)
          show GG _ _ _ _ _ _ _ _ [.int (Int32.ofInt 1)] _ _ _
          refine g_if_eq 24 28 (gd rfl) rfl rfl (fun c21 => ?_) (fun c21 => ?_)
          · skip
            exact zn_eq c21 (in_c 1 rfl) rfl
          · skip
            refine g_iconst 0 25 (gd rfl) rfl rfl ?_
            refine g_goto 34 (gd rfl) rfl ?_
            exact g_ireturn (gd rfl) rfl rfl (hP _ _ ⟨(sF s 109 0 (Int32.ofInt 1)), hI18x3x18, (fr_sF rfl fr_rf), (Int32.ofInt 0), rfl, rfl, in_w (-2147483648) 2147483647 (in_c 0 rfl) rfl⟩)
    · skip
      have i10 := r_lt1 0 7999 c10 i2 ro_109_26 rfl
      have i10a := r_lt2 1 8000 c10 i2 ro_109_26 rfl
      refine g_iconst 1 14 (gd rfl) rfl rfl ?_
      refine g_goto 18 (gd rfl) rfl ?_
      refine g_callv (X := _) (As := [.int (Int32.ofInt 1)]) (r := []) (b := A 109) (q := 109) 21 (gd rfl) rfl rfl rfl rfl rfl (ww_o rfl) (Nat.le_of_ble_eq_true rfl) (mc := 0) (ms := 0) (Nat.zero_le _) (Nat.zero_le _) (P := fun v u => _) ?_ (fun e u h => h) (fun v u h => h)
      intro po18 xx18 hp18 hx18
      refine g_enter2 (k := 271) (N := 300) (by omega) rfl (Nat.le_of_ble_eq_true rfl) ?_
      refine g_aload_n 1 (gd rfl) rfl rfl ?_
      refine g_iload_n 2 (gd rfl) rfl rfl ?_
      refine g_iconst 1 3 (gd rfl) rfl rfl ?_
      refine g_callv (X := _) (As := [.int (Int32.ofInt 1), .int (Int32.ofInt 1)]) (r := []) (b := A 109) (q := 109) 6 (gd rfl) rfl rfl rfl rfl rfl (ww_o rfl) (Nat.le_of_ble_eq_true rfl) (mc := 0) (ms := 0) (Nat.zero_le _) (Nat.zero_le _) (P := fun v u => _) ?_ (fun e u h => h) (fun v u h => h)
      intro po18x3 xx18x3 hp18x3 hx18x3
      refine g_enter2 (k := 270) (N := 300) (by omega) rfl (Nat.le_of_ble_eq_true rfl) ?_
      refine g_aload_n 1 (gd rfl) rfl rfl ?_
      refine g_iload_n 2 (gd rfl) rfl rfl ?_
      refine g_if_ne 5 9 (gd rfl) rfl rfl (fun c18x3x2 => ?_) (fun c18x3x2 => ?_)
      · skip
        refine g_iload_n 10 (gd rfl) rfl rfl ?_
        refine g_if_ne 13 17 (gd rfl) rfl rfl (fun c18x3x10 => ?_) (fun c18x3x10 => ?_)
        · skip
          refine g_iconst 0 18 (gd rfl) rfl rfl ?_
          refine g_putI 21 (gd rfl) rfl rfl rfl rfl ?_
          have hI18x3x18 := inv_sF (q := 109) (j := 0) hI rfl (in_w 0 2 (in_c 0 rfl) rfl)
          refine g_aload_n 22 (gd rfl) rfl rfl ?_
          refine g_getI 25 (gd rfl) rfl rfl rfl (fun z18x3x22 e18x3x22 => ?_)
          have q18x3x22 : (Int32.ofInt 0) = z18x3x22 := (sF_get).trans e18x3x22.symm
          subst q18x3x22
          refine g_if_le 28 32 (gd rfl) rfl rfl (fun c18x3x25 => ?_) (fun c18x3x25 => ?_)
          · skip
            refine g_iconst 0 33 (gd rfl) rfl rfl ?_
            refine g_ireturn (gd rfl) rfl (nb01 (in_w 0 1 (in_c 0 rfl) rfl)) (hp18x3 _ _ ?_)
            show GG _ _ _ _ _ _ _ _ [.int (Int32.ofInt 0)] _ _ _
            refine g_ireturn (gd rfl) rfl (nb01 (in_w 0 1 (in_c 0 rfl) rfl)) (hp18 _ _ ?_)
            show GG _ _ _ _ _ _ _ _ [.int (Int32.ofInt 0)] _ _ _
            refine g_if_eq 24 28 (gd rfl) rfl rfl (fun c21 => ?_) (fun c21 => ?_)
            · skip
              refine g_aload_n 29 (gd rfl) rfl rfl ?_
              refine g_getA (q2 := 126) 32 (gd rfl) rfl rfl rfl rfl ?_
              refine g_iload_n 33 (gd rfl) rfl rfl ?_
              refine g_iaload 34 (gd rfl) rfl (n := 8000) rfl (in_ix i10 rfl) (fun z33 e33 => ?_)
              exact g_ireturn (gd rfl) rfl rfl (hP _ _ ⟨(sF s 109 0 (Int32.ofInt 0)), hI18x3x18, (fr_sF rfl fr_rf), z33, rfl, rfl, in_w (-2147483648) 2147483647 (i_rng z33) rfl⟩)
            · skip
              exact zn_ne c21 (in_c 0 rfl) rfl
          · skip
            exact zn_gt c18x3x25 (in_c 0 rfl) rfl
        · skip
          exact zn_eq c18x3x10 (in_c 1 rfl) rfl
      · skip
        exact zn_eq c18x3x2 (in_c 1 rfl) rfl
