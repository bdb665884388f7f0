/-! methods, by vc.py -/
def fm_215_0 : FM := ([3, 4, 5, 6, 7, 8, 30], [], [(2, 0), (2, 1), (2, 2), (2, 3), (30, 0)], [])
/-- GraphHouse.set -/
theorem k_215_0 {Z : AmZ} {A : Nat → Nat} {s : GS} {ex : va_W} {d : Nat} {x1 : Int32} {x2 : Int32} {x3 : Int32} {u_2_0 : Int32} {u_2_1 : Int32} {u_30_0 : Int32} (hd : 8 ≤ d) (hI : Inv s) (e_2_0 : u_2_0 = s.2.2.1 2 0) (e_2_1 : u_2_1 = s.2.2.1 2 1) (e_30_0 : u_30_0 = s.2.2.1 30 0) (q_0 : KL s) : GC Z d 215 [.ref (A 0), .int x1, .int x2, .int x3] (WW Z A s ++ ex) 4 28018 (fun v u => ∃ a : Nat, ∃ t : GS, Inv t ∧ Fr fm_215_0 s t ∧ ∃ z : Int32, v = some (.int z) ∧ u = WW Z (ax A 30 a) t ++ ex ∧ In z (-1000000) 1000000 ∧ (KL t)) (gE2 Z A ex ([], [], [], []) s) := by
  intro post xp hP hX
  refine g_enter2 (k := 215) (N := 900) (by omega) rfl (Nat.le_of_ble_eq_true rfl) ?_
  refine g_aload_n 1 (gd rfl) rfl rfl ?_
  refine g_getA (q2 := 1) 4 (gd rfl) rfl rfl rfl rfl ?_
  refine g_getA (q2 := 2) 7 (gd rfl) rfl rfl rfl rfl ?_
  refine g_iload_n 8 (gd rfl) rfl rfl ?_
  refine g_callv (X := _) (As := [.int x1]) (r := []) (b := A 2) (q := 2) 11 (gd rfl) rfl rfl rfl rfl rfl (ww_o rfl) (Nat.le_of_ble_eq_true rfl) (mc := 0) (ms := 0) (Nat.zero_le _) (Nat.zero_le _) (P := fun v u => _) ?_ (fun e u h => h) (fun v u h => h)
  intro po8 xx8 hp8 hx8
  refine g_enter2 (k := 96) (N := 300) (by omega) rfl (Nat.le_of_ble_eq_true rfl) ?_
  refine g_iload_n 1 (gd rfl) rfl rfl ?_
  refine g_if_lt 4 26 (gd rfl) rfl rfl (fun c8x1 => ?_) (fun c8x1 => ?_)
  · skip
    have i8x1 := z_lt (-2147483648) (-1) c8x1 (i_rng x1) rfl
    refine g_iconst 0 27 (gd rfl) rfl rfl ?_
    refine g_ireturn (gd rfl) rfl (nb01 (in_w 0 1 (in_c 0 rfl) rfl)) (hp8 _ _ ?_)
    show GG _ _ _ _ _ _ _ _ [.int (Int32.ofInt 0)] _ _ _
    refine g_if_eq 14 26 (gd rfl) rfl rfl (fun c11 => ?_) (fun c11 => ?_)
    · skip
      refine g_iconst 0 27 (gd rfl) rfl rfl ?_
      refine g_thr (E := am_IA) (y := yX11_allow) 30 (gd rfl) rfl rfl (Or.inl ⟨rfl, rfl, rfl⟩) (by omega) (Nat.le_of_ble_eq_true rfl) (Nat.le_of_ble_eq_true rfl) (Nat.le_of_ble_eq_true rfl) (fun c27 => ?_) (fun c27 => ?_)
      · skip
        exact zn_ne c27 (in_c 0 rfl) rfl
      · skip
        exact (hX _ _ ⟨Or.inl rfl, s, hI, fr_rf, rfl⟩)
    · skip
      exact zn_ne c11 (in_c 0 rfl) rfl
  · skip
    have i8x1 := z_ge 0 2147483647 c8x1 (i_rng x1) rfl
    refine g_iload_n 5 (gd rfl) rfl rfl ?_
    refine g_aload_n 6 (gd rfl) rfl rfl ?_
    refine g_getI 9 (gd rfl) rfl rfl rfl (fun z8x6 e8x6 => ?_)
    have i8x6 := inv_F hI 0 160 rfl e8x6
    refine g_cmp_ge 12 26 (gd rfl) rfl rfl (fun c8x9 => ?_) (fun c8x9 => ?_)
    · skip
      refine g_iconst 0 27 (gd rfl) rfl rfl ?_
      refine g_ireturn (gd rfl) rfl (nb01 (in_w 0 1 (in_c 0 rfl) rfl)) (hp8 _ _ ?_)
      show GG _ _ _ _ _ _ _ _ [.int (Int32.ofInt 0)] _ _ _
      refine g_if_eq 14 26 (gd rfl) rfl rfl (fun c11 => ?_) (fun c11 => ?_)
      · skip
        refine g_iconst 0 27 (gd rfl) rfl rfl ?_
        refine g_thr (E := am_IA) (y := yX11_allow) 30 (gd rfl) rfl rfl (Or.inl ⟨rfl, rfl, rfl⟩) (by omega) (Nat.le_of_ble_eq_true rfl) (Nat.le_of_ble_eq_true rfl) (Nat.le_of_ble_eq_true rfl) (fun c27 => ?_) (fun c27 => ?_)
        · skip
          exact zn_ne c27 (in_c 0 rfl) rfl
        · skip
          exact (hX _ _ ⟨Or.inl rfl, s, hI, fr_rf, rfl⟩)
      · skip
        exact zn_ne c11 (in_c 0 rfl) rfl
    · skip
      have i8x9 := r_lt1 0 159 c8x9 i8x1 i8x6 rfl
      have i8x9a := r_lt2 1 160 c8x9 i8x1 i8x6 rfl
      refine g_aload_n 13 (gd rfl) rfl rfl ?_
      refine g_getA (q2 := 4) 16 (gd rfl) rfl rfl rfl rfl ?_
      refine g_iload_n 17 (gd rfl) rfl rfl ?_
      refine g_iaload 18 (gd rfl) rfl (n := 160) rfl (in_ix i8x9 rfl) (fun z8x17 e8x17 => ?_)
      have i8x17 := inv_I hI (n := 160) (t := 0) (-1) 31 rfl (in_ix i8x9 rfl) rfl e8x17
      refine g_iconst (-1) 19 (gd rfl) rfl rfl ?_
      refine g_cmp_eq 22 26 (gd rfl) rfl rfl (fun c8x19 => ?_) (fun c8x19 => ?_)
      · skip
        have i8x19 := r_eq1 (-1) (-1) c8x19 i8x17 (in_c (-1) rfl) rfl
        refine g_iconst 0 27 (gd rfl) rfl rfl ?_
        refine g_ireturn (gd rfl) rfl (nb01 (in_w 0 1 (in_c 0 rfl) rfl)) (hp8 _ _ ?_)
        show GG _ _ _ _ _ _ _ _ [.int (Int32.ofInt 0)] _ _ _
        refine g_if_eq 14 26 (gd rfl) rfl rfl (fun c11 => ?_) (fun c11 => ?_)
        · skip
          refine g_iconst 0 27 (gd rfl) rfl rfl ?_
          refine g_thr (E := am_IA) (y := yX11_allow) 30 (gd rfl) rfl rfl (Or.inl ⟨rfl, rfl, rfl⟩) (by omega) (Nat.le_of_ble_eq_true rfl) (Nat.le_of_ble_eq_true rfl) (Nat.le_of_ble_eq_true rfl) (fun c27 => ?_) (fun c27 => ?_)
          · skip
            exact zn_ne c27 (in_c 0 rfl) rfl
          · skip
            exact (hX _ _ ⟨Or.inl rfl, s, hI, fr_rf, rfl⟩)
        · skip
          exact zn_ne c11 (in_c 0 rfl) rfl
      · skip
        have i8x19 := r_ne1 0 31 c8x19 i8x17 (in_c (-1) rfl) rfl
        refine g_iconst 1 23 (gd rfl) rfl rfl ?_
        refine g_goto 27 (gd rfl) rfl ?_
        refine g_ireturn (gd rfl) rfl (nb01 (in_w 0 1 (in_c 1 rfl) rfl)) (hp8 _ _ ?_)
        show GG _ _ _ _ _ _ _ _ [.int (Int32.ofInt 1)] _ _ _
        refine g_if_eq 14 26 (gd rfl) rfl rfl (fun c11 => ?_) (fun c11 => ?_)
        · skip
          exact zn_eq c11 (in_c 1 rfl) rfl
        · skip
          refine g_iload_n 15 (gd rfl) rfl rfl ?_
          refine g_iload_n 16 (gd rfl) rfl rfl ?_
          refine g_calls (As := [.int x2, .int x3]) (r := []) 19 (gd rfl) rfl rfl rfl rfl rfl (Nat.le_of_ble_eq_true rfl) (mc := 0) (ms := 0) (Nat.zero_le _) (Nat.zero_le _) (P := fun v u => _) ?_ (fun v u h => h)
          intro po16 xx16 hp16 hx16
          refine g_enter2 (k := 263) (N := 300) (by omega) rfl (Nat.le_of_ble_eq_true rfl) ?_
          refine g_iload_n 1 (gd rfl) rfl rfl ?_
          refine g_if_ne 4 9 (gd rfl) rfl rfl (fun c16x1 => ?_) (fun c16x1 => ?_)
          · skip
            refine g_iload_n 10 (gd rfl) rfl rfl ?_
            refine g_iconst 1 11 (gd rfl) rfl rfl ?_
            refine g_cmp_ne 14 19 (gd rfl) rfl rfl (fun c16x11 => ?_) (fun c16x11 => ?_)
            · skip
              refine g_iload_n 20 (gd rfl) rfl rfl ?_
              refine g_iconst 2 21 (gd rfl) rfl rfl ?_
              refine g_cmp_ne 24 35 (gd rfl) rfl rfl (fun c16x21 => ?_) (fun c16x21 => ?_)
              · skip
                refine g_iconst 0 36 (gd rfl) rfl rfl ?_
                refine g_ireturn (gd rfl) rfl (nb01 (in_w 0 1 (in_c 0 rfl) rfl)) (hp16 _ _ ?_)
                show GG _ _ _ _ _ _ _ _ [.int (Int32.ofInt 0)] _ _ _
                refine g_if_eq 22 26 (gd rfl) rfl rfl (fun c19 => ?_) (fun c19 => ?_)
                · skip
                  refine g_iconst 0 27 (gd rfl) rfl rfl ?_
                  refine g_thr (E := am_IA) (y := yX11_allow) 30 (gd rfl) rfl rfl (Or.inl ⟨rfl, rfl, rfl⟩) (by omega) (Nat.le_of_ble_eq_true rfl) (Nat.le_of_ble_eq_true rfl) (Nat.le_of_ble_eq_true rfl) (fun c27 => ?_) (fun c27 => ?_)
                  · skip
                    exact zn_ne c27 (in_c 0 rfl) rfl
                  · skip
                    exact (hX _ _ ⟨Or.inl rfl, s, hI, fr_rf, rfl⟩)
                · skip
                  exact zn_ne c19 (in_c 0 rfl) rfl
              · skip
                have i16x21 := r_eq1 2 2 c16x21 (i_rng x2) (in_c 2 rfl) rfl
                refine g_iload_n 25 (gd rfl) rfl rfl ?_
                refine g_calls (As := [.int x3]) (r := []) 28 (gd rfl) rfl rfl rfl rfl rfl (Nat.le_of_ble_eq_true rfl) (mc := 0) (ms := 0) (Nat.zero_le _) (Nat.zero_le _) (P := fun v u => _) ?_ (fun v u h => h)
                intro po16x25 xx16x25 hp16x25 hx16x25
                refine g_enter2 (k := 260) (N := 300) (by omega) rfl (Nat.le_of_ble_eq_true rfl) ?_
                refine g_iload_n 1 (gd rfl) rfl rfl ?_
                refine g_if_lt 4 14 (gd rfl) rfl rfl (fun c16x25x1 => ?_) (fun c16x25x1 => ?_)
                · skip
                  have i16x25x1 := z_lt (-2147483648) (-1) c16x25x1 (i_rng x3) rfl
                  refine g_iconst 0 15 (gd rfl) rfl rfl ?_
                  refine g_ireturn (gd rfl) rfl (nb01 (in_w 0 1 (in_c 0 rfl) rfl)) (hp16x25 _ _ ?_)
                  show GG _ _ _ _ _ _ _ _ [.int (Int32.ofInt 0)] _ _ _
                  refine g_if_eq 31 35 (gd rfl) rfl rfl (fun c16x28 => ?_) (fun c16x28 => ?_)
                  · skip
                    refine g_iconst 0 36 (gd rfl) rfl rfl ?_
                    refine g_ireturn (gd rfl) rfl (nb01 (in_w 0 1 (in_c 0 rfl) rfl)) (hp16 _ _ ?_)
                    show GG _ _ _ _ _ _ _ _ [.int (Int32.ofInt 0)] _ _ _
                    refine g_if_eq 22 26 (gd rfl) rfl rfl (fun c19 => ?_) (fun c19 => ?_)
                    · skip
                      refine g_iconst 0 27 (gd rfl) rfl rfl ?_
                      refine g_thr (E := am_IA) (y := yX11_allow) 30 (gd rfl) rfl rfl (Or.inl ⟨rfl, rfl, rfl⟩) (by omega) (Nat.le_of_ble_eq_true rfl) (Nat.le_of_ble_eq_true rfl) (Nat.le_of_ble_eq_true rfl) (fun c27 => ?_) (fun c27 => ?_)
                      · skip
                        exact zn_ne c27 (in_c 0 rfl) rfl
                      · skip
                        exact (hX _ _ ⟨Or.inl rfl, s, hI, fr_rf, rfl⟩)
                    · skip
                      exact zn_ne c19 (in_c 0 rfl) rfl
                  · skip
                    exact zn_ne c16x28 (in_c 0 rfl) rfl
                · skip
                  have i16x25x1 := z_ge 0 2147483647 c16x25x1 (i_rng x3) rfl
                  refine g_iload_n 5 (gd rfl) rfl rfl ?_
                  refine g_bipush 26 7 (gd rfl) rfl rfl ?_
                  refine g_cmp_ge 10 14 (gd rfl) rfl rfl (fun c16x25x7 => ?_) (fun c16x25x7 => ?_)
                  · skip
                    have i16x25x7 := r_le2 26 2147483647 c16x25x7 (in_c 26 rfl) i16x25x1 rfl
                    refine g_iconst 0 15 (gd rfl) rfl rfl ?_
                    refine g_ireturn (gd rfl) rfl (nb01 (in_w 0 1 (in_c 0 rfl) rfl)) (hp16x25 _ _ ?_)
                    show GG _ _ _ _ _ _ _ _ [.int (Int32.ofInt 0)] _ _ _
                    refine g_if_eq 31 35 (gd rfl) rfl rfl (fun c16x28 => ?_) (fun c16x28 => ?_)
                    · skip
                      refine g_iconst 0 36 (gd rfl) rfl rfl ?_
                      refine g_ireturn (gd rfl) rfl (nb01 (in_w 0 1 (in_c 0 rfl) rfl)) (hp16 _ _ ?_)
                      show GG _ _ _ _ _ _ _ _ [.int (Int32.ofInt 0)] _ _ _
                      refine g_if_eq 22 26 (gd rfl) rfl rfl (fun c19 => ?_) (fun c19 => ?_)
                      · skip
                        refine g_iconst 0 27 (gd rfl) rfl rfl ?_
                        refine g_thr (E := am_IA) (y := yX11_allow) 30 (gd rfl) rfl rfl (Or.inl ⟨rfl, rfl, rfl⟩) (by omega) (Nat.le_of_ble_eq_true rfl) (Nat.le_of_ble_eq_true rfl) (Nat.le_of_ble_eq_true rfl) (fun c27 => ?_) (fun c27 => ?_)
                        · skip
                          exact zn_ne c27 (in_c 0 rfl) rfl
                        · skip
                          exact (hX _ _ ⟨Or.inl rfl, s, hI, fr_rf, rfl⟩)
                      · skip
                        exact zn_ne c19 (in_c 0 rfl) rfl
                    · skip
                      exact zn_ne c16x28 (in_c 0 rfl) rfl
                  · skip
                    have i16x25x7 := r_lt1 0 25 c16x25x7 i16x25x1 (in_c 26 rfl) rfl
                    refine g_iconst 1 11 (gd rfl) rfl rfl ?_
                    refine g_goto 15 (gd rfl) rfl ?_
                    refine g_ireturn (gd rfl) rfl (nb01 (in_w 0 1 (in_c 1 rfl) rfl)) (hp16x25 _ _ ?_)
                    show GG _ _ _ _ _ _ _ _ [.int (Int32.ofInt 1)] _ _ _
                    refine g_if_eq 31 35 (gd rfl) rfl rfl (fun c16x28 => ?_) (fun c16x28 => ?_)
                    · skip
                      exact zn_eq c16x28 (in_c 1 rfl) rfl
                    · skip
                      refine g_iconst 1 32 (gd rfl) rfl rfl ?_
                      refine g_goto 36 (gd rfl) rfl ?_
                      refine g_ireturn (gd rfl) rfl (nb01 (in_w 0 1 (in_c 1 rfl) rfl)) (hp16 _ _ ?_)
                      show GG _ _ _ _ _ _ _ _ [.int (Int32.ofInt 1)] _ _ _
                      refine g_if_eq 22 26 (gd rfl) rfl rfl (fun c19 => ?_) (fun c19 => ?_)
                      · skip
                        exact zn_eq c19 (in_c 1 rfl) rfl
                      · skip
                        refine g_iconst 1 23 (gd rfl) rfl rfl ?_
                        refine g_goto 27 (gd rfl) rfl ?_
                        refine g_thr (E := am_IA) (y := yX11_allow) 30 (gd rfl) rfl rfl (Or.inl ⟨rfl, rfl, rfl⟩) (by omega) (Nat.le_of_ble_eq_true rfl) (Nat.le_of_ble_eq_true rfl) (Nat.le_of_ble_eq_true rfl) (fun c27 => ?_) (fun c27 => ?_)
                        · skip
                          refine g_aload_n 31 (gd rfl) rfl rfl ?_
                          refine g_getA (q2 := 1) 34 (gd rfl) rfl rfl rfl rfl ?_
                          refine g_callv (X := _) (As := []) (r := []) (b := A 1) (q := 1) 37 (gd rfl) rfl rfl rfl rfl rfl (ww_o rfl) (Nat.le_of_ble_eq_true rfl) (mc := 0) (ms := 0) (Nat.zero_le _) (Nat.zero_le _) (P := fun v u => _) ?_ (fun e u h => h) (fun v u h => h)
                          intro po34 xx34 hp34 hx34
                          refine g_enter2 (k := 122) (N := 300) (by omega) rfl (Nat.le_of_ble_eq_true rfl) ?_
                          refine g_aload_n 1 (gd rfl) rfl rfl ?_
                          refine g_getA (q2 := 2) 4 (gd rfl) rfl rfl rfl rfl ?_
                          refine g_getI 7 (gd rfl) rfl rfl rfl (fun z34x4 e34x4 => ?_)
                          have q34x4 : u_2_0 = z34x4 := (e_2_0).trans e34x4.symm
                          subst q34x4
                          refine g_sipush 4000 10 (gd rfl) rfl rfl ?_
                          refine g_cmp_lt 13 17 (gd rfl) rfl rfl (fun c34x10 => ?_) (fun c34x10 => ?_)
                          · skip
                            have i34x10 := r_lt1 0 3999 c34x10 (inv_F hI 0 4000 rfl e_2_0) (in_c 4000 rfl) rfl
                            refine g_iconst 0 18 (gd rfl) rfl rfl ?_
                            refine g_ireturn (gd rfl) rfl (nb01 (in_w 0 1 (in_c 0 rfl) rfl)) (hp34 _ _ ?_)
                            show GG _ _ _ _ _ _ _ _ [.int (Int32.ofInt 0)] _ _ _
                            refine g_if_ne 40 44 (gd rfl) rfl rfl (fun c37 => ?_) (fun c37 => ?_)
                            · skip
                              exact zn_ne c37 (in_c 0 rfl) rfl
                            · skip
                              refine g_iconst 1 41 (gd rfl) rfl rfl ?_
                              refine g_goto 45 (gd rfl) rfl ?_
                              refine g_thr (E := am_IS) (y := yX11_ready) 48 (gd rfl) rfl rfl (Or.inr ⟨rfl, rfl, rfl⟩) (by omega) (Nat.le_of_ble_eq_true rfl) (Nat.le_of_ble_eq_true rfl) (Nat.le_of_ble_eq_true rfl) (fun c45 => ?_) (fun c45 => ?_)
                              · skip
                                refine g_aload_n 49 (gd rfl) rfl rfl ?_
                                refine g_getA (q2 := 1) 52 (gd rfl) rfl rfl rfl rfl ?_
                                refine g_getA (q2 := 2) 55 (gd rfl) rfl rfl rfl rfl ?_
                                refine g_iload_n 56 (gd rfl) rfl rfl ?_
                                refine g_iload_n 57 (gd rfl) rfl rfl ?_
                                refine g_callv (X := _) (As := [.int x1, .int x2]) (r := []) (b := A 2) (q := 2) 60 (gd rfl) rfl rfl rfl rfl rfl (ww_o rfl) (Nat.le_of_ble_eq_true rfl) (mc := 0) (ms := 0) (Nat.zero_le _) (Nat.zero_le _) (P := fun v u => _) ?_ (fun e u h => h) (fun v u h => h)
                                intro po57 xx57 hp57 hx57
                                refine g_enter2 (k := 100) (N := 300) (by omega) rfl (Nat.le_of_ble_eq_true rfl) ?_
                                refine g_iload_n 1 (gd rfl) rfl rfl ?_
                                refine g_if_ne 4 11 (gd rfl) rfl rfl (fun c57x1 => ?_) (fun c57x1 => ?_)
                                · skip
                                  refine g_iload_n 12 (gd rfl) rfl rfl ?_
                                  refine g_iconst 1 13 (gd rfl) rfl rfl ?_
                                  refine g_cmp_ne 16 25 (gd rfl) rfl rfl (fun c57x13 => ?_) (fun c57x13 => ?_)
                                  · skip
                                    refine g_aload_n 26 (gd rfl) rfl rfl ?_
                                    refine g_getA (q2 := 8) 29 (gd rfl) rfl rfl rfl rfl ?_
                                    refine g_iload_n 30 (gd rfl) rfl rfl ?_
                                    refine g_iaload 31 (gd rfl) rfl (n := 160) rfl (in_ix i8x9 rfl) (fun z57x30 e57x30 => ?_)
                                    have i57x30 := inv_I hI (n := 160) (t := 0) 0 25 rfl (in_ix i8x9 rfl) rfl e57x30
                                    refine g_ireturn (gd rfl) rfl rfl (hp57 _ _ ?_)
                                    show GG _ _ _ _ _ _ _ _ [.int z57x30] _ _ _
                                    refine g_istore 62 (gd rfl) rfl (Nat.le_of_ble_eq_true rfl) ?_
                                    refine g_aload_n 63 (gd rfl) rfl rfl ?_
                                    refine g_getA (q2 := 1) 66 (gd rfl) rfl rfl rfl rfl ?_
                                    refine g_iload_n 67 (gd rfl) rfl rfl ?_
                                    refine g_iload_n 68 (gd rfl) rfl rfl ?_
                                    refine g_iload_n 69 (gd rfl) rfl rfl ?_
                                    have p69 : KL s := by exact q_0
                                    have p69a : (x2).toInt = 0 → In x3 (-1000000) 1000000 := by first | (intro h; exact in_w (-1000000) 1000000 i16x25x7 rfl) | (intro h; exfalso; have a0 := i16x25x7; unfold In at a0; have a1 := i16x21; unfold In at a1; have a2 := i8x9; unfold In at a2; have a3 := (inv_F hI 448 28000 rfl e_30_0); unfold In at a3; have a4 := (inv_F hI 0 32 rfl e_2_1); unfold In at a4; have a5 := i34x10; unfold In at a5; have a6 := i57x30; unfold In at a6; have a7 := i8x9a; unfold In at a7; omega)
                                    have p69b : (x2).toInt = 1 → In x3 0 1000000 := by first | (intro h; exact in_w (0) 1000000 i16x25x7 rfl) | (intro h; exfalso; have a0 := i16x25x7; unfold In at a0; have a1 := i16x21; unfold In at a1; have a2 := i8x9; unfold In at a2; have a3 := (inv_F hI 448 28000 rfl e_30_0); unfold In at a3; have a4 := (inv_F hI 0 32 rfl e_2_1); unfold In at a4; have a5 := i34x10; unfold In at a5; have a6 := i57x30; unfold In at a6; have a7 := i8x9a; unfold In at a7; omega)
                                    have p69c : (x2).toInt ≠ 0 → (x2).toInt ≠ 1 → In x3 0 25 := by first | (intro h h0; exact in_w 0 25 i16x25x7 rfl) | (intro h h0; exfalso; have a0 := i16x25x7; unfold In at a0; have a1 := i16x21; unfold In at a1; have a2 := i8x9; unfold In at a2; have a3 := (inv_F hI 448 28000 rfl e_30_0); unfold In at a3; have a4 := (inv_F hI 0 32 rfl e_2_1); unfold In at a4; have a5 := i34x10; unfold In at a5; have a6 := i57x30; unfold In at a6; have a7 := i8x9a; unfold In at a7; omega)
                                    refine g_callv (X := _) (As := [.int x1, .int x2, .int x3]) (r := []) (b := A 1) (q := 1) 72 (gd rfl) rfl rfl rfl rfl rfl (ww_o rfl) (Nat.le_of_ble_eq_true rfl) (Nat.le_trans lgc_le (Nat.le_of_ble_eq_true rfl)) (Nat.le_trans (lsl_le (inv_F hI 448 28000 (q := 30) (j := 0) rfl rfl) (by rw [← (show u_2_0 = s.2.2.1 2 0 from e_2_0)]; exact in_w 0 3999 i34x10 rfl)) (Nat.le_of_ble_eq_true rfl)) (k_127_1 (by omega) hI (in_w 0 159 i8x9 rfl) e_2_0 e_2_1 e_30_0 (in_w 0 3999 i34x10 rfl) p69 p69a p69b p69c) (fun e u h => h) (fun v u h => ?_)
                                    obtain ⟨a69, s69, hI69, hF69, n69, rfl, rfl, p69d, p69e, p69f⟩ := h
                                    obtain ⟨z69a, e69⟩ : ∃ w, w = s69.2.2.1 2 0 := ⟨_, rfl⟩
                                    have i69a := inv_F hI69 0 4000 rfl e69
                                    rw [← (show u_2_0 = s.2.2.1 2 0 from e_2_0)] at n69
                                    rw [← (show z69a = s69.2.2.1 2 0 from e69)] at n69
                                    show GG _ _ _ _ _ _ _ _ [] _ _ _
                                    refine g_iload 74 (gd rfl) rfl rfl ?_
                                    have n74 : KL s69 := by exact p69d
                                    exact g_ireturn (gd rfl) rfl rfl (hP _ _ ⟨a69, s69, hI69, (fr_tr rfl fr_rf hF69), z57x30, rfl, rfl, in_w (-1000000) 1000000 i57x30 rfl, n74⟩)
                                  · skip
                                    exact absurd c57x13 c16x11
                                · skip
                                  exact zn_eq c57x1 i16x21 rfl
                              · skip
                                exact zn_eq c45 (in_c 1 rfl) rfl
                          · skip
                            have i34x10 := r_le2 4000 4000 c34x10 (in_c 4000 rfl) (inv_F hI 0 4000 rfl e_2_0) rfl
                            refine g_iconst 1 14 (gd rfl) rfl rfl ?_
                            refine g_goto 18 (gd rfl) rfl ?_
                            refine g_ireturn (gd rfl) rfl (nb01 (in_w 0 1 (in_c 1 rfl) rfl)) (hp34 _ _ ?_)
                            show GG _ _ _ _ _ _ _ _ [.int (Int32.ofInt 1)] _ _ _
                            refine g_if_ne 40 44 (gd rfl) rfl rfl (fun c37 => ?_) (fun c37 => ?_)
                            · skip
                              refine g_iconst 0 45 (gd rfl) rfl rfl ?_
                              refine g_thr (E := am_IS) (y := yX11_ready) 48 (gd rfl) rfl rfl (Or.inr ⟨rfl, rfl, rfl⟩) (by omega) (Nat.le_of_ble_eq_true rfl) (Nat.le_of_ble_eq_true rfl) (Nat.le_of_ble_eq_true rfl) (fun c45 => ?_) (fun c45 => ?_)
                              · skip
                                exact zn_ne c45 (in_c 0 rfl) rfl
                              · skip
                                exact (hX _ _ ⟨Or.inr rfl, s, hI, fr_rf, rfl⟩)
                            · skip
                              exact zn_eq c37 (in_c 1 rfl) rfl
                        · skip
                          exact zn_eq c27 (in_c 1 rfl) rfl
            · skip
              have i16x11 := r_eq1 1 1 c16x11 (i_rng x2) (in_c 1 rfl) rfl
              refine g_iload_n 15 (gd rfl) rfl rfl ?_
              refine g_calls (As := [.int x3]) (r := []) 18 (gd rfl) rfl rfl rfl rfl rfl (Nat.le_of_ble_eq_true rfl) (mc := 0) (ms := 0) (Nat.zero_le _) (Nat.zero_le _) (P := fun v u => _) ?_ (fun v u h => h)
              intro po16x15 xx16x15 hp16x15 hx16x15
              refine g_enter2 (k := 262) (N := 300) (by omega) rfl (Nat.le_of_ble_eq_true rfl) ?_
              refine g_iload_n 1 (gd rfl) rfl rfl ?_
              refine g_if_lt 4 15 (gd rfl) rfl rfl (fun c16x15x1 => ?_) (fun c16x15x1 => ?_)
              · skip
                have i16x15x1 := z_lt (-2147483648) (-1) c16x15x1 (i_rng x3) rfl
                refine g_iconst 0 16 (gd rfl) rfl rfl ?_
                refine g_ireturn (gd rfl) rfl (nb01 (in_w 0 1 (in_c 0 rfl) rfl)) (hp16x15 _ _ ?_)
                show GG _ _ _ _ _ _ _ _ [.int (Int32.ofInt 0)] _ _ _
                refine g_ireturn (gd rfl) rfl (nb01 (in_w 0 1 (in_c 0 rfl) rfl)) (hp16 _ _ ?_)
                show GG _ _ _ _ _ _ _ _ [.int (Int32.ofInt 0)] _ _ _
                refine g_if_eq 22 26 (gd rfl) rfl rfl (fun c19 => ?_) (fun c19 => ?_)
                · skip
                  refine g_iconst 0 27 (gd rfl) rfl rfl ?_
                  refine g_thr (E := am_IA) (y := yX11_allow) 30 (gd rfl) rfl rfl (Or.inl ⟨rfl, rfl, rfl⟩) (by omega) (Nat.le_of_ble_eq_true rfl) (Nat.le_of_ble_eq_true rfl) (Nat.le_of_ble_eq_true rfl) (fun c27 => ?_) (fun c27 => ?_)
                  · skip
                    exact zn_ne c27 (in_c 0 rfl) rfl
                  · skip
                    exact (hX _ _ ⟨Or.inl rfl, s, hI, fr_rf, rfl⟩)
                · skip
                  exact zn_ne c19 (in_c 0 rfl) rfl
              · skip
                have i16x15x1 := z_ge 0 2147483647 c16x15x1 (i_rng x3) rfl
                refine g_iload_n 5 (gd rfl) rfl rfl ?_
                refine g_ldc_w 1000000 8 (gd rfl) rfl rfl ?_
                refine g_cmp_gt 11 15 (gd rfl) rfl rfl (fun c16x15x8 => ?_) (fun c16x15x8 => ?_)
                · skip
                  have i16x15x8 := r_lt2 1000001 2147483647 c16x15x8 (in_c 1000000 rfl) i16x15x1 rfl
                  refine g_iconst 0 16 (gd rfl) rfl rfl ?_
                  refine g_ireturn (gd rfl) rfl (nb01 (in_w 0 1 (in_c 0 rfl) rfl)) (hp16x15 _ _ ?_)
                  show GG _ _ _ _ _ _ _ _ [.int (Int32.ofInt 0)] _ _ _
                  refine g_ireturn (gd rfl) rfl (nb01 (in_w 0 1 (in_c 0 rfl) rfl)) (hp16 _ _ ?_)
                  show GG _ _ _ _ _ _ _ _ [.int (Int32.ofInt 0)] _ _ _
                  refine g_if_eq 22 26 (gd rfl) rfl rfl (fun c19 => ?_) (fun c19 => ?_)
                  · skip
                    refine g_iconst 0 27 (gd rfl) rfl rfl ?_
                    refine g_thr (E := am_IA) (y := yX11_allow) 30 (gd rfl) rfl rfl (Or.inl ⟨rfl, rfl, rfl⟩) (by omega) (Nat.le_of_ble_eq_true rfl) (Nat.le_of_ble_eq_true rfl) (Nat.le_of_ble_eq_true rfl) (fun c27 => ?_) (fun c27 => ?_)
                    · skip
                      exact zn_ne c27 (in_c 0 rfl) rfl
                    · skip
                      exact (hX _ _ ⟨Or.inl rfl, s, hI, fr_rf, rfl⟩)
                  · skip
                    exact zn_ne c19 (in_c 0 rfl) rfl
                · skip
                  have i16x15x8 := r_le1 0 1000000 c16x15x8 i16x15x1 (in_c 1000000 rfl) rfl
                  refine g_iconst 1 12 (gd rfl) rfl rfl ?_
                  refine g_goto 16 (gd rfl) rfl ?_
                  refine g_ireturn (gd rfl) rfl (nb01 (in_w 0 1 (in_c 1 rfl) rfl)) (hp16x15 _ _ ?_)
                  show GG _ _ _ _ _ _ _ _ [.int (Int32.ofInt 1)] _ _ _
                  refine g_ireturn (gd rfl) rfl (nb01 (in_w 0 1 (in_c 1 rfl) rfl)) (hp16 _ _ ?_)
                  show GG _ _ _ _ _ _ _ _ [.int (Int32.ofInt 1)] _ _ _
                  refine g_if_eq 22 26 (gd rfl) rfl rfl (fun c19 => ?_) (fun c19 => ?_)
                  · skip
                    exact zn_eq c19 (in_c 1 rfl) rfl
                  · skip
                    refine g_iconst 1 23 (gd rfl) rfl rfl ?_
                    refine g_goto 27 (gd rfl) rfl ?_
                    refine g_thr (E := am_IA) (y := yX11_allow) 30 (gd rfl) rfl rfl (Or.inl ⟨rfl, rfl, rfl⟩) (by omega) (Nat.le_of_ble_eq_true rfl) (Nat.le_of_ble_eq_true rfl) (Nat.le_of_ble_eq_true rfl) (fun c27 => ?_) (fun c27 => ?_)
                    · skip
                      refine g_aload_n 31 (gd rfl) rfl rfl ?_
                      refine g_getA (q2 := 1) 34 (gd rfl) rfl rfl rfl rfl ?_
                      refine g_callv (X := _) (As := []) (r := []) (b := A 1) (q := 1) 37 (gd rfl) rfl rfl rfl rfl rfl (ww_o rfl) (Nat.le_of_ble_eq_true rfl) (mc := 0) (ms := 0) (Nat.zero_le _) (Nat.zero_le _) (P := fun v u => _) ?_ (fun e u h => h) (fun v u h => h)
                      intro po34 xx34 hp34 hx34
                      refine g_enter2 (k := 122) (N := 300) (by omega) rfl (Nat.le_of_ble_eq_true rfl) ?_
                      refine g_aload_n 1 (gd rfl) rfl rfl ?_
                      refine g_getA (q2 := 2) 4 (gd rfl) rfl rfl rfl rfl ?_
                      refine g_getI 7 (gd rfl) rfl rfl rfl (fun z34x4 e34x4 => ?_)
                      have q34x4 : u_2_0 = z34x4 := (e_2_0).trans e34x4.symm
                      subst q34x4
                      refine g_sipush 4000 10 (gd rfl) rfl rfl ?_
                      refine g_cmp_lt 13 17 (gd rfl) rfl rfl (fun c34x10 => ?_) (fun c34x10 => ?_)
                      · skip
                        have i34x10 := r_lt1 0 3999 c34x10 (inv_F hI 0 4000 rfl e_2_0) (in_c 4000 rfl) rfl
                        refine g_iconst 0 18 (gd rfl) rfl rfl ?_
                        refine g_ireturn (gd rfl) rfl (nb01 (in_w 0 1 (in_c 0 rfl) rfl)) (hp34 _ _ ?_)
                        show GG _ _ _ _ _ _ _ _ [.int (Int32.ofInt 0)] _ _ _
                        refine g_if_ne 40 44 (gd rfl) rfl rfl (fun c37 => ?_) (fun c37 => ?_)
                        · skip
                          exact zn_ne c37 (in_c 0 rfl) rfl
                        · skip
                          refine g_iconst 1 41 (gd rfl) rfl rfl ?_
                          refine g_goto 45 (gd rfl) rfl ?_
                          refine g_thr (E := am_IS) (y := yX11_ready) 48 (gd rfl) rfl rfl (Or.inr ⟨rfl, rfl, rfl⟩) (by omega) (Nat.le_of_ble_eq_true rfl) (Nat.le_of_ble_eq_true rfl) (Nat.le_of_ble_eq_true rfl) (fun c45 => ?_) (fun c45 => ?_)
                          · skip
                            refine g_aload_n 49 (gd rfl) rfl rfl ?_
                            refine g_getA (q2 := 1) 52 (gd rfl) rfl rfl rfl rfl ?_
                            refine g_getA (q2 := 2) 55 (gd rfl) rfl rfl rfl rfl ?_
                            refine g_iload_n 56 (gd rfl) rfl rfl ?_
                            refine g_iload_n 57 (gd rfl) rfl rfl ?_
                            refine g_callv (X := _) (As := [.int x1, .int x2]) (r := []) (b := A 2) (q := 2) 60 (gd rfl) rfl rfl rfl rfl rfl (ww_o rfl) (Nat.le_of_ble_eq_true rfl) (mc := 0) (ms := 0) (Nat.zero_le _) (Nat.zero_le _) (P := fun v u => _) ?_ (fun e u h => h) (fun v u h => h)
                            intro po57 xx57 hp57 hx57
                            refine g_enter2 (k := 100) (N := 300) (by omega) rfl (Nat.le_of_ble_eq_true rfl) ?_
                            refine g_iload_n 1 (gd rfl) rfl rfl ?_
                            refine g_if_ne 4 11 (gd rfl) rfl rfl (fun c57x1 => ?_) (fun c57x1 => ?_)
                            · skip
                              refine g_iload_n 12 (gd rfl) rfl rfl ?_
                              refine g_iconst 1 13 (gd rfl) rfl rfl ?_
                              refine g_cmp_ne 16 25 (gd rfl) rfl rfl (fun c57x13 => ?_) (fun c57x13 => ?_)
                              · skip
                                exact n_ne c57x13 i16x11 (in_c 1 rfl) rfl
                              · skip
                                refine g_aload_n 17 (gd rfl) rfl rfl ?_
                                refine g_getA (q2 := 7) 20 (gd rfl) rfl rfl rfl rfl ?_
                                refine g_iload_n 21 (gd rfl) rfl rfl ?_
                                refine g_iaload 22 (gd rfl) rfl (n := 160) rfl (in_ix i8x9 rfl) (fun z57x21 e57x21 => ?_)
                                have i57x21 := inv_I hI (n := 160) (t := 0) 0 1000000 rfl (in_ix i8x9 rfl) rfl e57x21
                                refine g_goto 31 (gd rfl) rfl ?_
                                refine g_ireturn (gd rfl) rfl rfl (hp57 _ _ ?_)
                                show GG _ _ _ _ _ _ _ _ [.int z57x21] _ _ _
                                refine g_istore 62 (gd rfl) rfl (Nat.le_of_ble_eq_true rfl) ?_
                                refine g_aload_n 63 (gd rfl) rfl rfl ?_
                                refine g_getA (q2 := 1) 66 (gd rfl) rfl rfl rfl rfl ?_
                                refine g_iload_n 67 (gd rfl) rfl rfl ?_
                                refine g_iload_n 68 (gd rfl) rfl rfl ?_
                                refine g_iload_n 69 (gd rfl) rfl rfl ?_
                                have p69 : KL s := by exact q_0
                                have p69a : (x2).toInt = 0 → In x3 (-1000000) 1000000 := by first | (intro h; exact in_w (-1000000) 1000000 i16x15x8 rfl) | (intro h; exfalso; have a0 := i16x15x8; unfold In at a0; have a1 := i16x11; unfold In at a1; have a2 := i8x9; unfold In at a2; have a3 := (inv_F hI 448 28000 rfl e_30_0); unfold In at a3; have a4 := (inv_F hI 0 32 rfl e_2_1); unfold In at a4; have a5 := i34x10; unfold In at a5; have a6 := i57x21; unfold In at a6; have a7 := i8x9a; unfold In at a7; omega)
                                have p69b : (x2).toInt = 1 → In x3 0 1000000 := by first | (intro h; exact in_w (0) 1000000 i16x15x8 rfl) | (intro h; exfalso; have a0 := i16x15x8; unfold In at a0; have a1 := i16x11; unfold In at a1; have a2 := i8x9; unfold In at a2; have a3 := (inv_F hI 448 28000 rfl e_30_0); unfold In at a3; have a4 := (inv_F hI 0 32 rfl e_2_1); unfold In at a4; have a5 := i34x10; unfold In at a5; have a6 := i57x21; unfold In at a6; have a7 := i8x9a; unfold In at a7; omega)
                                have p69c : (x2).toInt ≠ 0 → (x2).toInt ≠ 1 → In x3 0 25 := by first | (intro h h0; exact in_w 0 25 i16x15x8 rfl) | (intro h h0; exfalso; have a0 := i16x15x8; unfold In at a0; have a1 := i16x11; unfold In at a1; have a2 := i8x9; unfold In at a2; have a3 := (inv_F hI 448 28000 rfl e_30_0); unfold In at a3; have a4 := (inv_F hI 0 32 rfl e_2_1); unfold In at a4; have a5 := i34x10; unfold In at a5; have a6 := i57x21; unfold In at a6; have a7 := i8x9a; unfold In at a7; omega)
                                refine g_callv (X := _) (As := [.int x1, .int x2, .int x3]) (r := []) (b := A 1) (q := 1) 72 (gd rfl) rfl rfl rfl rfl rfl (ww_o rfl) (Nat.le_of_ble_eq_true rfl) (Nat.le_trans lgc_le (Nat.le_of_ble_eq_true rfl)) (Nat.le_trans (lsl_le (inv_F hI 448 28000 (q := 30) (j := 0) rfl rfl) (by rw [← (show u_2_0 = s.2.2.1 2 0 from e_2_0)]; exact in_w 0 3999 i34x10 rfl)) (Nat.le_of_ble_eq_true rfl)) (k_127_1 (by omega) hI (in_w 0 159 i8x9 rfl) e_2_0 e_2_1 e_30_0 (in_w 0 3999 i34x10 rfl) p69 p69a p69b p69c) (fun e u h => h) (fun v u h => ?_)
                                obtain ⟨a69, s69, hI69, hF69, n69, rfl, rfl, p69d, p69e, p69f⟩ := h
                                obtain ⟨z69a, e69⟩ : ∃ w, w = s69.2.2.1 2 0 := ⟨_, rfl⟩
                                have i69a := inv_F hI69 0 4000 rfl e69
                                rw [← (show u_2_0 = s.2.2.1 2 0 from e_2_0)] at n69
                                rw [← (show z69a = s69.2.2.1 2 0 from e69)] at n69
                                show GG _ _ _ _ _ _ _ _ [] _ _ _
                                refine g_iload 74 (gd rfl) rfl rfl ?_
                                have n74 : KL s69 := by exact p69d
                                exact g_ireturn (gd rfl) rfl rfl (hP _ _ ⟨a69, s69, hI69, (fr_tr rfl fr_rf hF69), z57x21, rfl, rfl, in_w (-1000000) 1000000 i57x21 rfl, n74⟩)
                            · skip
                              exact zn_eq c57x1 i16x11 rfl
                          · skip
                            exact zn_eq c45 (in_c 1 rfl) rfl
                      · skip
                        have i34x10 := r_le2 4000 4000 c34x10 (in_c 4000 rfl) (inv_F hI 0 4000 rfl e_2_0) rfl
                        refine g_iconst 1 14 (gd rfl) rfl rfl ?_
                        refine g_goto 18 (gd rfl) rfl ?_
                        refine g_ireturn (gd rfl) rfl (nb01 (in_w 0 1 (in_c 1 rfl) rfl)) (hp34 _ _ ?_)
                        show GG _ _ _ _ _ _ _ _ [.int (Int32.ofInt 1)] _ _ _
                        refine g_if_ne 40 44 (gd rfl) rfl rfl (fun c37 => ?_) (fun c37 => ?_)
                        · skip
                          refine g_iconst 0 45 (gd rfl) rfl rfl ?_
                          refine g_thr (E := am_IS) (y := yX11_ready) 48 (gd rfl) rfl rfl (Or.inr ⟨rfl, rfl, rfl⟩) (by omega) (Nat.le_of_ble_eq_true rfl) (Nat.le_of_ble_eq_true rfl) (Nat.le_of_ble_eq_true rfl) (fun c45 => ?_) (fun c45 => ?_)
                          · skip
                            exact zn_ne c45 (in_c 0 rfl) rfl
                          · skip
                            exact (hX _ _ ⟨Or.inr rfl, s, hI, fr_rf, rfl⟩)
                        · skip
                          exact zn_eq c37 (in_c 1 rfl) rfl
                    · skip
                      exact zn_eq c27 (in_c 1 rfl) rfl
          · skip
            have i16x1 := z_eq 0 0 c16x1 (i_rng x2) rfl
            refine g_iload_n 5 (gd rfl) rfl rfl ?_
            refine g_calls (As := [.int x3]) (r := []) 8 (gd rfl) rfl rfl rfl rfl rfl (Nat.le_of_ble_eq_true rfl) (mc := 0) (ms := 0) (Nat.zero_le _) (Nat.zero_le _) (P := fun v u => _) ?_ (fun v u h => h)
            intro po16x5 xx16x5 hp16x5 hx16x5
            refine g_enter2 (k := 261) (N := 300) (by omega) rfl (Nat.le_of_ble_eq_true rfl) ?_
            refine g_iload_n 1 (gd rfl) rfl rfl ?_
            refine g_ldc_w (-1000000) 4 (gd rfl) rfl rfl ?_
            refine g_cmp_lt 7 18 (gd rfl) rfl rfl (fun c16x5x4 => ?_) (fun c16x5x4 => ?_)
            · skip
              have i16x5x4 := r_lt1 (-2147483648) (-1000001) c16x5x4 (i_rng x3) (in_c (-1000000) rfl) rfl
              refine g_iconst 0 19 (gd rfl) rfl rfl ?_
              refine g_ireturn (gd rfl) rfl (nb01 (in_w 0 1 (in_c 0 rfl) rfl)) (hp16x5 _ _ ?_)
              show GG _ _ _ _ _ _ _ _ [.int (Int32.ofInt 0)] _ _ _
              refine g_ireturn (gd rfl) rfl (nb01 (in_w 0 1 (in_c 0 rfl) rfl)) (hp16 _ _ ?_)
              show GG _ _ _ _ _ _ _ _ [.int (Int32.ofInt 0)] _ _ _
              refine g_if_eq 22 26 (gd rfl) rfl rfl (fun c19 => ?_) (fun c19 => ?_)
              · skip
                refine g_iconst 0 27 (gd rfl) rfl rfl ?_
                refine g_thr (E := am_IA) (y := yX11_allow) 30 (gd rfl) rfl rfl (Or.inl ⟨rfl, rfl, rfl⟩) (by omega) (Nat.le_of_ble_eq_true rfl) (Nat.le_of_ble_eq_true rfl) (Nat.le_of_ble_eq_true rfl) (fun c27 => ?_) (fun c27 => ?_)
                · skip
                  exact zn_ne c27 (in_c 0 rfl) rfl
                · skip
                  exact (hX _ _ ⟨Or.inl rfl, s, hI, fr_rf, rfl⟩)
              · skip
                exact zn_ne c19 (in_c 0 rfl) rfl
            · skip
              have i16x5x4 := r_le2 (-1000000) 2147483647 c16x5x4 (in_c (-1000000) rfl) (i_rng x3) rfl
              refine g_iload_n 8 (gd rfl) rfl rfl ?_
              refine g_ldc_w 1000000 11 (gd rfl) rfl rfl ?_
              refine g_cmp_gt 14 18 (gd rfl) rfl rfl (fun c16x5x11 => ?_) (fun c16x5x11 => ?_)
              · skip
                have i16x5x11 := r_lt2 1000001 2147483647 c16x5x11 (in_c 1000000 rfl) i16x5x4 rfl
                refine g_iconst 0 19 (gd rfl) rfl rfl ?_
                refine g_ireturn (gd rfl) rfl (nb01 (in_w 0 1 (in_c 0 rfl) rfl)) (hp16x5 _ _ ?_)
                show GG _ _ _ _ _ _ _ _ [.int (Int32.ofInt 0)] _ _ _
                refine g_ireturn (gd rfl) rfl (nb01 (in_w 0 1 (in_c 0 rfl) rfl)) (hp16 _ _ ?_)
                show GG _ _ _ _ _ _ _ _ [.int (Int32.ofInt 0)] _ _ _
                refine g_if_eq 22 26 (gd rfl) rfl rfl (fun c19 => ?_) (fun c19 => ?_)
                · skip
                  refine g_iconst 0 27 (gd rfl) rfl rfl ?_
                  refine g_thr (E := am_IA) (y := yX11_allow) 30 (gd rfl) rfl rfl (Or.inl ⟨rfl, rfl, rfl⟩) (by omega) (Nat.le_of_ble_eq_true rfl) (Nat.le_of_ble_eq_true rfl) (Nat.le_of_ble_eq_true rfl) (fun c27 => ?_) (fun c27 => ?_)
                  · skip
                    exact zn_ne c27 (in_c 0 rfl) rfl
                  · skip
                    exact (hX _ _ ⟨Or.inl rfl, s, hI, fr_rf, rfl⟩)
                · skip
                  exact zn_ne c19 (in_c 0 rfl) rfl
              · skip
                have i16x5x11 := r_le1 (-1000000) 1000000 c16x5x11 i16x5x4 (in_c 1000000 rfl) rfl
                refine g_iconst 1 15 (gd rfl) rfl rfl ?_
                refine g_goto 19 (gd rfl) rfl ?_
                refine g_ireturn (gd rfl) rfl (nb01 (in_w 0 1 (in_c 1 rfl) rfl)) (hp16x5 _ _ ?_)
                show GG _ _ _ _ _ _ _ _ [.int (Int32.ofInt 1)] _ _ _
                refine g_ireturn (gd rfl) rfl (nb01 (in_w 0 1 (in_c 1 rfl) rfl)) (hp16 _ _ ?_)
                show GG _ _ _ _ _ _ _ _ [.int (Int32.ofInt 1)] _ _ _
                refine g_if_eq 22 26 (gd rfl) rfl rfl (fun c19 => ?_) (fun c19 => ?_)
                · skip
                  exact zn_eq c19 (in_c 1 rfl) rfl
                · skip
                  refine g_iconst 1 23 (gd rfl) rfl rfl ?_
                  refine g_goto 27 (gd rfl) rfl ?_
                  refine g_thr (E := am_IA) (y := yX11_allow) 30 (gd rfl) rfl rfl (Or.inl ⟨rfl, rfl, rfl⟩) (by omega) (Nat.le_of_ble_eq_true rfl) (Nat.le_of_ble_eq_true rfl) (Nat.le_of_ble_eq_true rfl) (fun c27 => ?_) (fun c27 => ?_)
                  · skip
                    refine g_aload_n 31 (gd rfl) rfl rfl ?_
                    refine g_getA (q2 := 1) 34 (gd rfl) rfl rfl rfl rfl ?_
                    refine g_callv (X := _) (As := []) (r := []) (b := A 1) (q := 1) 37 (gd rfl) rfl rfl rfl rfl rfl (ww_o rfl) (Nat.le_of_ble_eq_true rfl) (mc := 0) (ms := 0) (Nat.zero_le _) (Nat.zero_le _) (P := fun v u => _) ?_ (fun e u h => h) (fun v u h => h)
                    intro po34 xx34 hp34 hx34
                    refine g_enter2 (k := 122) (N := 300) (by omega) rfl (Nat.le_of_ble_eq_true rfl) ?_
                    refine g_aload_n 1 (gd rfl) rfl rfl ?_
                    refine g_getA (q2 := 2) 4 (gd rfl) rfl rfl rfl rfl ?_
                    refine g_getI 7 (gd rfl) rfl rfl rfl (fun z34x4 e34x4 => ?_)
                    have q34x4 : u_2_0 = z34x4 := (e_2_0).trans e34x4.symm
                    subst q34x4
                    refine g_sipush 4000 10 (gd rfl) rfl rfl ?_
                    refine g_cmp_lt 13 17 (gd rfl) rfl rfl (fun c34x10 => ?_) (fun c34x10 => ?_)
                    · skip
                      have i34x10 := r_lt1 0 3999 c34x10 (inv_F hI 0 4000 rfl e_2_0) (in_c 4000 rfl) rfl
                      refine g_iconst 0 18 (gd rfl) rfl rfl ?_
                      refine g_ireturn (gd rfl) rfl (nb01 (in_w 0 1 (in_c 0 rfl) rfl)) (hp34 _ _ ?_)
                      show GG _ _ _ _ _ _ _ _ [.int (Int32.ofInt 0)] _ _ _
                      refine g_if_ne 40 44 (gd rfl) rfl rfl (fun c37 => ?_) (fun c37 => ?_)
                      · skip
                        exact zn_ne c37 (in_c 0 rfl) rfl
                      · skip
                        refine g_iconst 1 41 (gd rfl) rfl rfl ?_
                        refine g_goto 45 (gd rfl) rfl ?_
                        refine g_thr (E := am_IS) (y := yX11_ready) 48 (gd rfl) rfl rfl (Or.inr ⟨rfl, rfl, rfl⟩) (by omega) (Nat.le_of_ble_eq_true rfl) (Nat.le_of_ble_eq_true rfl) (Nat.le_of_ble_eq_true rfl) (fun c45 => ?_) (fun c45 => ?_)
                        · skip
                          refine g_aload_n 49 (gd rfl) rfl rfl ?_
                          refine g_getA (q2 := 1) 52 (gd rfl) rfl rfl rfl rfl ?_
                          refine g_getA (q2 := 2) 55 (gd rfl) rfl rfl rfl rfl ?_
                          refine g_iload_n 56 (gd rfl) rfl rfl ?_
                          refine g_iload_n 57 (gd rfl) rfl rfl ?_
                          refine g_callv (X := _) (As := [.int x1, .int x2]) (r := []) (b := A 2) (q := 2) 60 (gd rfl) rfl rfl rfl rfl rfl (ww_o rfl) (Nat.le_of_ble_eq_true rfl) (mc := 0) (ms := 0) (Nat.zero_le _) (Nat.zero_le _) (P := fun v u => _) ?_ (fun e u h => h) (fun v u h => h)
                          intro po57 xx57 hp57 hx57
                          refine g_enter2 (k := 100) (N := 300) (by omega) rfl (Nat.le_of_ble_eq_true rfl) ?_
                          refine g_iload_n 1 (gd rfl) rfl rfl ?_
                          refine g_if_ne 4 11 (gd rfl) rfl rfl (fun c57x1 => ?_) (fun c57x1 => ?_)
                          · skip
                            exact zn_ne c57x1 i16x1 rfl
                          · skip
                            refine g_aload_n 5 (gd rfl) rfl rfl ?_
                            refine g_getA (q2 := 6) 8 (gd rfl) rfl rfl rfl rfl ?_
                            refine g_iload_n 9 (gd rfl) rfl rfl ?_
                            refine g_iaload 10 (gd rfl) rfl (n := 160) rfl (in_ix i8x9 rfl) (fun z57x9 e57x9 => ?_)
                            have i57x9 := inv_I hI (n := 160) (t := 0) (-1000000) 1000000 rfl (in_ix i8x9 rfl) rfl e57x9
                            refine g_ireturn (gd rfl) rfl rfl (hp57 _ _ ?_)
                            show GG _ _ _ _ _ _ _ _ [.int z57x9] _ _ _
                            refine g_istore 62 (gd rfl) rfl (Nat.le_of_ble_eq_true rfl) ?_
                            refine g_aload_n 63 (gd rfl) rfl rfl ?_
                            refine g_getA (q2 := 1) 66 (gd rfl) rfl rfl rfl rfl ?_
                            refine g_iload_n 67 (gd rfl) rfl rfl ?_
                            refine g_iload_n 68 (gd rfl) rfl rfl ?_
                            refine g_iload_n 69 (gd rfl) rfl rfl ?_
                            have p69 : KL s := by exact q_0
                            have p69a : (x2).toInt = 0 → In x3 (-1000000) 1000000 := by first | (intro h; exact in_w (-1000000) 1000000 i16x5x11 rfl) | (intro h; exfalso; have a0 := i16x5x11; unfold In at a0; have a1 := i16x1; unfold In at a1; have a2 := i8x9; unfold In at a2; have a3 := (inv_F hI 448 28000 rfl e_30_0); unfold In at a3; have a4 := (inv_F hI 0 32 rfl e_2_1); unfold In at a4; have a5 := i34x10; unfold In at a5; have a6 := i57x9; unfold In at a6; have a7 := i8x9a; unfold In at a7; omega)
                            have p69b : (x2).toInt = 1 → In x3 0 1000000 := by first | (intro h; exact in_w (0) 1000000 i16x5x11 rfl) | (intro h; exfalso; have a0 := i16x5x11; unfold In at a0; have a1 := i16x1; unfold In at a1; have a2 := i8x9; unfold In at a2; have a3 := (inv_F hI 448 28000 rfl e_30_0); unfold In at a3; have a4 := (inv_F hI 0 32 rfl e_2_1); unfold In at a4; have a5 := i34x10; unfold In at a5; have a6 := i57x9; unfold In at a6; have a7 := i8x9a; unfold In at a7; omega)
                            have p69c : (x2).toInt ≠ 0 → (x2).toInt ≠ 1 → In x3 0 25 := by first | (intro h h0; exact in_w 0 25 i16x5x11 rfl) | (intro h h0; exfalso; have a0 := i16x5x11; unfold In at a0; have a1 := i16x1; unfold In at a1; have a2 := i8x9; unfold In at a2; have a3 := (inv_F hI 448 28000 rfl e_30_0); unfold In at a3; have a4 := (inv_F hI 0 32 rfl e_2_1); unfold In at a4; have a5 := i34x10; unfold In at a5; have a6 := i57x9; unfold In at a6; have a7 := i8x9a; unfold In at a7; omega)
                            refine g_callv (X := _) (As := [.int x1, .int x2, .int x3]) (r := []) (b := A 1) (q := 1) 72 (gd rfl) rfl rfl rfl rfl rfl (ww_o rfl) (Nat.le_of_ble_eq_true rfl) (Nat.le_trans lgc_le (Nat.le_of_ble_eq_true rfl)) (Nat.le_trans (lsl_le (inv_F hI 448 28000 (q := 30) (j := 0) rfl rfl) (by rw [← (show u_2_0 = s.2.2.1 2 0 from e_2_0)]; exact in_w 0 3999 i34x10 rfl)) (Nat.le_of_ble_eq_true rfl)) (k_127_1 (by omega) hI (in_w 0 159 i8x9 rfl) e_2_0 e_2_1 e_30_0 (in_w 0 3999 i34x10 rfl) p69 p69a p69b p69c) (fun e u h => h) (fun v u h => ?_)
                            obtain ⟨a69, s69, hI69, hF69, n69, rfl, rfl, p69d, p69e, p69f⟩ := h
                            obtain ⟨z69a, e69⟩ : ∃ w, w = s69.2.2.1 2 0 := ⟨_, rfl⟩
                            have i69a := inv_F hI69 0 4000 rfl e69
                            rw [← (show u_2_0 = s.2.2.1 2 0 from e_2_0)] at n69
                            rw [← (show z69a = s69.2.2.1 2 0 from e69)] at n69
                            show GG _ _ _ _ _ _ _ _ [] _ _ _
                            refine g_iload 74 (gd rfl) rfl rfl ?_
                            have n74 : KL s69 := by exact p69d
                            exact g_ireturn (gd rfl) rfl rfl (hP _ _ ⟨a69, s69, hI69, (fr_tr rfl fr_rf hF69), z57x9, rfl, rfl, in_w (-1000000) 1000000 i57x9 rfl, n74⟩)
                        · skip
                          exact zn_eq c45 (in_c 1 rfl) rfl
                    · skip
                      have i34x10 := r_le2 4000 4000 c34x10 (in_c 4000 rfl) (inv_F hI 0 4000 rfl e_2_0) rfl
                      refine g_iconst 1 14 (gd rfl) rfl rfl ?_
                      refine g_goto 18 (gd rfl) rfl ?_
                      refine g_ireturn (gd rfl) rfl (nb01 (in_w 0 1 (in_c 1 rfl) rfl)) (hp34 _ _ ?_)
                      show GG _ _ _ _ _ _ _ _ [.int (Int32.ofInt 1)] _ _ _
                      refine g_if_ne 40 44 (gd rfl) rfl rfl (fun c37 => ?_) (fun c37 => ?_)
                      · skip
                        refine g_iconst 0 45 (gd rfl) rfl rfl ?_
                        refine g_thr (E := am_IS) (y := yX11_ready) 48 (gd rfl) rfl rfl (Or.inr ⟨rfl, rfl, rfl⟩) (by omega) (Nat.le_of_ble_eq_true rfl) (Nat.le_of_ble_eq_true rfl) (Nat.le_of_ble_eq_true rfl) (fun c45 => ?_) (fun c45 => ?_)
                        · skip
                          exact zn_ne c45 (in_c 0 rfl) rfl
                        · skip
                          exact (hX _ _ ⟨Or.inr rfl, s, hI, fr_rf, rfl⟩)
                      · skip
                        exact zn_eq c37 (in_c 1 rfl) rfl
                  · skip
                    exact zn_eq c27 (in_c 1 rfl) rfl

def fm_216_0 : FM := ([3, 4, 5, 6, 7, 8, 30], [], [(2, 0), (2, 1), (2, 2), (2, 3), (30, 0)], [])
/-- GraphHouse.label -/
theorem k_216_0 {Z : AmZ} {A : Nat → Nat} {s : GS} {ex : va_W} {d : Nat} {x1 : Int32} {x2 : Int32} {u_2_0 : Int32} {u_2_1 : Int32} {u_30_0 : Int32} (hd : 8 ≤ d) (hI : Inv s) (e_2_0 : u_2_0 = s.2.2.1 2 0) (e_2_1 : u_2_1 = s.2.2.1 2 1) (e_30_0 : u_30_0 = s.2.2.1 30 0) (q_0 : KL s) : GC Z d 216 [.ref (A 0), .int x1, .int x2] (WW Z A s ++ ex) 4 28018 (fun v u => ∃ a : Nat, ∃ t : GS, Inv t ∧ Fr fm_216_0 s t ∧ ∃ z : Int32, v = some (.int z) ∧ u = WW Z (ax A 30 a) t ++ ex ∧ In z 0 25 ∧ (KL t)) (gE2 Z A ex ([], [], [], []) s) := by
  intro post xp hP hX
  refine g_enter2 (k := 216) (N := 900) (by omega) rfl (Nat.le_of_ble_eq_true rfl) ?_
  refine g_aload_n 1 (gd rfl) rfl rfl ?_
  refine g_getA (q2 := 1) 4 (gd rfl) rfl rfl rfl rfl ?_
  refine g_getA (q2 := 2) 7 (gd rfl) rfl rfl rfl rfl ?_
  refine g_iload_n 8 (gd rfl) rfl rfl ?_
  refine g_callv (X := _) (As := [.int x1]) (r := []) (b := A 2) (q := 2) 11 (gd rfl) rfl rfl rfl rfl rfl (ww_o rfl) (Nat.le_of_ble_eq_true rfl) (mc := 0) (ms := 0) (Nat.zero_le _) (Nat.zero_le _) (P := fun v u => _) ?_ (fun e u h => h) (fun v u h => h)
  intro po8 xx8 hp8 hx8
  refine g_enter2 (k := 94) (N := 300) (by omega) rfl (Nat.le_of_ble_eq_true rfl) ?_
  refine g_iload_n 1 (gd rfl) rfl rfl ?_
  refine g_if_lt 4 16 (gd rfl) rfl rfl (fun c8x1 => ?_) (fun c8x1 => ?_)
  · skip
    have i8x1 := z_lt (-2147483648) (-1) c8x1 (i_rng x1) rfl
    refine g_iconst 0 17 (gd rfl) rfl rfl ?_
    refine g_ireturn (gd rfl) rfl (nb01 (in_w 0 1 (in_c 0 rfl) rfl)) (hp8 _ _ ?_)
    show GG _ _ _ _ _ _ _ _ [.int (Int32.ofInt 0)] _ _ _
    refine g_if_eq 14 25 (gd rfl) rfl rfl (fun c11 => ?_) (fun c11 => ?_)
    · skip
      refine g_iconst 0 26 (gd rfl) rfl rfl ?_
      refine g_thr (E := am_IA) (y := yX11_allow) 29 (gd rfl) rfl rfl (Or.inl ⟨rfl, rfl, rfl⟩) (by omega) (Nat.le_of_ble_eq_true rfl) (Nat.le_of_ble_eq_true rfl) (Nat.le_of_ble_eq_true rfl) (fun c26 => ?_) (fun c26 => ?_)
      · skip
        exact zn_ne c26 (in_c 0 rfl) rfl
      · skip
        exact (hX _ _ ⟨Or.inl rfl, s, hI, fr_rf, rfl⟩)
    · skip
      exact zn_ne c11 (in_c 0 rfl) rfl
  · skip
    have i8x1 := z_ge 0 2147483647 c8x1 (i_rng x1) rfl
    refine g_iload_n 5 (gd rfl) rfl rfl ?_
    refine g_aload_n 6 (gd rfl) rfl rfl ?_
    refine g_getI 9 (gd rfl) rfl rfl rfl (fun z8x6 e8x6 => ?_)
    have q8x6 : u_2_1 = z8x6 := (e_2_1).trans e8x6.symm
    subst q8x6
    refine g_cmp_ge 12 16 (gd rfl) rfl rfl (fun c8x9 => ?_) (fun c8x9 => ?_)
    · skip
      refine g_iconst 0 17 (gd rfl) rfl rfl ?_
      refine g_ireturn (gd rfl) rfl (nb01 (in_w 0 1 (in_c 0 rfl) rfl)) (hp8 _ _ ?_)
      show GG _ _ _ _ _ _ _ _ [.int (Int32.ofInt 0)] _ _ _
      refine g_if_eq 14 25 (gd rfl) rfl rfl (fun c11 => ?_) (fun c11 => ?_)
      · skip
        refine g_iconst 0 26 (gd rfl) rfl rfl ?_
        refine g_thr (E := am_IA) (y := yX11_allow) 29 (gd rfl) rfl rfl (Or.inl ⟨rfl, rfl, rfl⟩) (by omega) (Nat.le_of_ble_eq_true rfl) (Nat.le_of_ble_eq_true rfl) (Nat.le_of_ble_eq_true rfl) (fun c26 => ?_) (fun c26 => ?_)
        · skip
          exact zn_ne c26 (in_c 0 rfl) rfl
        · skip
          exact (hX _ _ ⟨Or.inl rfl, s, hI, fr_rf, rfl⟩)
      · skip
        exact zn_ne c11 (in_c 0 rfl) rfl
    · skip
      have i8x9 := r_lt1 0 31 c8x9 i8x1 (inv_F hI 0 32 rfl e_2_1) rfl
      have i8x9a := r_lt2 1 32 c8x9 i8x1 (inv_F hI 0 32 rfl e_2_1) rfl
      refine g_iconst 1 13 (gd rfl) rfl rfl ?_
      refine g_goto 17 (gd rfl) rfl ?_
      refine g_ireturn (gd rfl) rfl (nb01 (in_w 0 1 (in_c 1 rfl) rfl)) (hp8 _ _ ?_)
      show GG _ _ _ _ _ _ _ _ [.int (Int32.ofInt 1)] _ _ _
      refine g_if_eq 14 25 (gd rfl) rfl rfl (fun c11 => ?_) (fun c11 => ?_)
      · skip
        exact zn_eq c11 (in_c 1 rfl) rfl
      · skip
        refine g_iload_n 15 (gd rfl) rfl rfl ?_
        refine g_calls (As := [.int x2]) (r := []) 18 (gd rfl) rfl rfl rfl rfl rfl (Nat.le_of_ble_eq_true rfl) (mc := 0) (ms := 0) (Nat.zero_le _) (Nat.zero_le _) (P := fun v u => _) ?_ (fun v u h => h)
        intro po15 xx15 hp15 hx15
        refine g_enter2 (k := 260) (N := 300) (by omega) rfl (Nat.le_of_ble_eq_true rfl) ?_
        refine g_iload_n 1 (gd rfl) rfl rfl ?_
        refine g_if_lt 4 14 (gd rfl) rfl rfl (fun c15x1 => ?_) (fun c15x1 => ?_)
        · skip
          have i15x1 := z_lt (-2147483648) (-1) c15x1 (i_rng x2) rfl
          refine g_iconst 0 15 (gd rfl) rfl rfl ?_
          refine g_ireturn (gd rfl) rfl (nb01 (in_w 0 1 (in_c 0 rfl) rfl)) (hp15 _ _ ?_)
          show GG _ _ _ _ _ _ _ _ [.int (Int32.ofInt 0)] _ _ _
          refine g_if_eq 21 25 (gd rfl) rfl rfl (fun c18 => ?_) (fun c18 => ?_)
          · skip
            refine g_iconst 0 26 (gd rfl) rfl rfl ?_
            refine g_thr (E := am_IA) (y := yX11_allow) 29 (gd rfl) rfl rfl (Or.inl ⟨rfl, rfl, rfl⟩) (by omega) (Nat.le_of_ble_eq_true rfl) (Nat.le_of_ble_eq_true rfl) (Nat.le_of_ble_eq_true rfl) (fun c26 => ?_) (fun c26 => ?_)
            · skip
              exact zn_ne c26 (in_c 0 rfl) rfl
            · skip
              exact (hX _ _ ⟨Or.inl rfl, s, hI, fr_rf, rfl⟩)
          · skip
            exact zn_ne c18 (in_c 0 rfl) rfl
        · skip
          have i15x1 := z_ge 0 2147483647 c15x1 (i_rng x2) rfl
          refine g_iload_n 5 (gd rfl) rfl rfl ?_
          refine g_bipush 26 7 (gd rfl) rfl rfl ?_
          refine g_cmp_ge 10 14 (gd rfl) rfl rfl (fun c15x7 => ?_) (fun c15x7 => ?_)
          · skip
            have i15x7 := r_le2 26 2147483647 c15x7 (in_c 26 rfl) i15x1 rfl
            refine g_iconst 0 15 (gd rfl) rfl rfl ?_
            refine g_ireturn (gd rfl) rfl (nb01 (in_w 0 1 (in_c 0 rfl) rfl)) (hp15 _ _ ?_)
            show GG _ _ _ _ _ _ _ _ [.int (Int32.ofInt 0)] _ _ _
            refine g_if_eq 21 25 (gd rfl) rfl rfl (fun c18 => ?_) (fun c18 => ?_)
            · skip
              refine g_iconst 0 26 (gd rfl) rfl rfl ?_
              refine g_thr (E := am_IA) (y := yX11_allow) 29 (gd rfl) rfl rfl (Or.inl ⟨rfl, rfl, rfl⟩) (by omega) (Nat.le_of_ble_eq_true rfl) (Nat.le_of_ble_eq_true rfl) (Nat.le_of_ble_eq_true rfl) (fun c26 => ?_) (fun c26 => ?_)
              · skip
                exact zn_ne c26 (in_c 0 rfl) rfl
              · skip
                exact (hX _ _ ⟨Or.inl rfl, s, hI, fr_rf, rfl⟩)
            · skip
              exact zn_ne c18 (in_c 0 rfl) rfl
          · skip
            have i15x7 := r_lt1 0 25 c15x7 i15x1 (in_c 26 rfl) rfl
            refine g_iconst 1 11 (gd rfl) rfl rfl ?_
            refine g_goto 15 (gd rfl) rfl ?_
            refine g_ireturn (gd rfl) rfl (nb01 (in_w 0 1 (in_c 1 rfl) rfl)) (hp15 _ _ ?_)
            show GG _ _ _ _ _ _ _ _ [.int (Int32.ofInt 1)] _ _ _
            refine g_if_eq 21 25 (gd rfl) rfl rfl (fun c18 => ?_) (fun c18 => ?_)
            · skip
              exact zn_eq c18 (in_c 1 rfl) rfl
            · skip
              refine g_iconst 1 22 (gd rfl) rfl rfl ?_
              refine g_goto 26 (gd rfl) rfl ?_
              refine g_thr (E := am_IA) (y := yX11_allow) 29 (gd rfl) rfl rfl (Or.inl ⟨rfl, rfl, rfl⟩) (by omega) (Nat.le_of_ble_eq_true rfl) (Nat.le_of_ble_eq_true rfl) (Nat.le_of_ble_eq_true rfl) (fun c26 => ?_) (fun c26 => ?_)
              · skip
                refine g_aload_n 30 (gd rfl) rfl rfl ?_
                refine g_getA (q2 := 1) 33 (gd rfl) rfl rfl rfl rfl ?_
                refine g_callv (X := _) (As := []) (r := []) (b := A 1) (q := 1) 36 (gd rfl) rfl rfl rfl rfl rfl (ww_o rfl) (Nat.le_of_ble_eq_true rfl) (mc := 0) (ms := 0) (Nat.zero_le _) (Nat.zero_le _) (P := fun v u => _) ?_ (fun e u h => h) (fun v u h => h)
                intro po33 xx33 hp33 hx33
                refine g_enter2 (k := 122) (N := 300) (by omega) rfl (Nat.le_of_ble_eq_true rfl) ?_
                refine g_aload_n 1 (gd rfl) rfl rfl ?_
                refine g_getA (q2 := 2) 4 (gd rfl) rfl rfl rfl rfl ?_
                refine g_getI 7 (gd rfl) rfl rfl rfl (fun z33x4 e33x4 => ?_)
                have q33x4 : u_2_0 = z33x4 := (e_2_0).trans e33x4.symm
                subst q33x4
                refine g_sipush 4000 10 (gd rfl) rfl rfl ?_
                refine g_cmp_lt 13 17 (gd rfl) rfl rfl (fun c33x10 => ?_) (fun c33x10 => ?_)
                · skip
                  have i33x10 := r_lt1 0 3999 c33x10 (inv_F hI 0 4000 rfl e_2_0) (in_c 4000 rfl) rfl
                  refine g_iconst 0 18 (gd rfl) rfl rfl ?_
                  refine g_ireturn (gd rfl) rfl (nb01 (in_w 0 1 (in_c 0 rfl) rfl)) (hp33 _ _ ?_)
                  show GG _ _ _ _ _ _ _ _ [.int (Int32.ofInt 0)] _ _ _
                  refine g_if_ne 39 43 (gd rfl) rfl rfl (fun c36 => ?_) (fun c36 => ?_)
                  · skip
                    exact zn_ne c36 (in_c 0 rfl) rfl
                  · skip
                    refine g_iconst 1 40 (gd rfl) rfl rfl ?_
                    refine g_goto 44 (gd rfl) rfl ?_
                    refine g_thr (E := am_IS) (y := yX11_ready) 47 (gd rfl) rfl rfl (Or.inr ⟨rfl, rfl, rfl⟩) (by omega) (Nat.le_of_ble_eq_true rfl) (Nat.le_of_ble_eq_true rfl) (Nat.le_of_ble_eq_true rfl) (fun c44 => ?_) (fun c44 => ?_)
                    · skip
                      refine g_aload_n 48 (gd rfl) rfl rfl ?_
                      refine g_getA (q2 := 1) 51 (gd rfl) rfl rfl rfl rfl ?_
                      refine g_getA (q2 := 2) 54 (gd rfl) rfl rfl rfl rfl ?_
                      refine g_getA (q2 := 3) 57 (gd rfl) rfl rfl rfl rfl ?_
                      refine g_iload_n 58 (gd rfl) rfl rfl ?_
                      refine g_iaload 59 (gd rfl) rfl (n := 32) rfl (in_ix i8x9 rfl) (fun z58 e58 => ?_)
                      have i58 := inv_I hI (n := 32) (t := 0) 0 25 rfl (in_ix i8x9 rfl) rfl e58
                      refine g_istore_n 60 (gd rfl) rfl (Nat.le_of_ble_eq_true rfl) ?_
                      refine g_aload_n 61 (gd rfl) rfl rfl ?_
                      refine g_getA (q2 := 1) 64 (gd rfl) rfl rfl rfl rfl ?_
                      refine g_iload_n 65 (gd rfl) rfl rfl ?_
                      refine g_iload_n 66 (gd rfl) rfl rfl ?_
                      have p66 : KL s := by exact q_0
                      refine g_callv (X := _) (As := [.int x1, .int x2]) (r := []) (b := A 1) (q := 1) 69 (gd rfl) rfl rfl rfl rfl rfl (ww_o rfl) (Nat.le_of_ble_eq_true rfl) (Nat.le_trans lgc_le (Nat.le_of_ble_eq_true rfl)) (Nat.le_trans (lsl_le (inv_F hI 448 28000 (q := 30) (j := 0) rfl rfl) (by rw [← (show u_2_0 = s.2.2.1 2 0 from e_2_0)]; exact in_w 0 3999 i33x10 rfl)) (Nat.le_of_ble_eq_true rfl)) (k_128_1 (by omega) hI (in_w 0 31 i8x9 rfl) (in_w 0 25 i15x7 rfl) e_2_0 e_2_1 e_30_0 (in_w 0 3999 i33x10 rfl) p66) (fun e u h => h) (fun v u h => ?_)
                      obtain ⟨a66, s66, hI66, hF66, n66, rfl, rfl, p66a, p66b, p66c⟩ := h
                      obtain ⟨z66a, e66⟩ : ∃ w, w = s66.2.2.1 2 0 := ⟨_, rfl⟩
                      have i66a := inv_F hI66 0 4000 rfl e66
                      rw [← (show u_2_0 = s.2.2.1 2 0 from e_2_0)] at n66
                      rw [← (show z66a = s66.2.2.1 2 0 from e66)] at n66
                      show GG _ _ _ _ _ _ _ _ [] _ _ _
                      refine g_iload_n 70 (gd rfl) rfl rfl ?_
                      have n70 : KL s66 := by exact p66a
                      exact g_ireturn (gd rfl) rfl rfl (hP _ _ ⟨a66, s66, hI66, (fr_tr rfl fr_rf hF66), z58, rfl, rfl, in_w 0 25 i58 rfl, n70⟩)
                    · skip
                      exact zn_eq c44 (in_c 1 rfl) rfl
                · skip
                  have i33x10 := r_le2 4000 4000 c33x10 (in_c 4000 rfl) (inv_F hI 0 4000 rfl e_2_0) rfl
                  refine g_iconst 1 14 (gd rfl) rfl rfl ?_
                  refine g_goto 18 (gd rfl) rfl ?_
                  refine g_ireturn (gd rfl) rfl (nb01 (in_w 0 1 (in_c 1 rfl) rfl)) (hp33 _ _ ?_)
                  show GG _ _ _ _ _ _ _ _ [.int (Int32.ofInt 1)] _ _ _
                  refine g_if_ne 39 43 (gd rfl) rfl rfl (fun c36 => ?_) (fun c36 => ?_)
                  · skip
                    refine g_iconst 0 44 (gd rfl) rfl rfl ?_
                    refine g_thr (E := am_IS) (y := yX11_ready) 47 (gd rfl) rfl rfl (Or.inr ⟨rfl, rfl, rfl⟩) (by omega) (Nat.le_of_ble_eq_true rfl) (Nat.le_of_ble_eq_true rfl) (Nat.le_of_ble_eq_true rfl) (fun c44 => ?_) (fun c44 => ?_)
                    · skip
                      exact zn_ne c44 (in_c 0 rfl) rfl
                    · skip
                      exact (hX _ _ ⟨Or.inr rfl, s, hI, fr_rf, rfl⟩)
                  · skip
                    exact zn_eq c36 (in_c 1 rfl) rfl
              · skip
                exact zn_eq c26 (in_c 1 rfl) rfl

def fm_110_86_2 : FM := ([], [87, 88], [], [])
/-- GraphHouse$Groups.shareOut -/
theorem k_110_86_2 {Z : AmZ} {A : Nat → Nat} {s : GS} {ex : va_W} {d : Nat} {X : AmX} {u_2_4 : Int32} {u_2_0 : Int32} (hd : 3 ≤ d) (hI : Inv s) (e_2_4 : u_2_4 = s.2.2.1 2 4) (e_2_0 : u_2_0 = s.2.2.1 2 0) (p_0 : (u_2_4).toInt = (u_2_0).toInt) : GC Z d 110 [.ref (A 86), .ref (A 2)] (WW Z A s ++ ex) 0 0 (fun v u => ∃ xa ya : Nat, ∃ t : GS, Inv t ∧ Fr fm_110_86_2 s t ∧ v = none ∧ u = WW Z (a2 A xa ya) t ++ ex) X := by
  intro post xp hP hX
  obtain ⟨u_2_1, e_2_1⟩ : ∃ w, w = s.2.2.1 2 1 := ⟨_, rfl⟩
  have ro_2_1 := inv_F hI 0 32 rfl e_2_1
  have ro_2_4 := inv_F hI (-1) 4000 rfl e_2_4
  have ro_2_0 := inv_F hI 0 4000 rfl e_2_0
  have ct137 : ∀ (k137 : Nat) (sc137 : GS) (y137_2 : Int64) (y137_4 : Int32) (w137_2_4 : Int32) (w137_2_0 : Int32), Inv sc137 → Fr fm_110_86_2 s sc137 → (In y137_4 0 32) → (w137_2_4 = sc137.2.2.1 2 4) → (w137_2_0 = sc137.2.2.1 2 0) → ((w137_2_4).toInt = (w137_2_0).toInt) → 32 - (y137_4).toInt < (k137 : Int) → GG Z (d - 1) 110 post (gx xp) (1 + k137 * 900) 137 (fun j => xlook j [(0, .ref (A 86)), (1, .ref (A 2)), (2, .long y137_2), (4, .int y137_4)]) [] (WW Z A sc137 ++ ex) 0 0 := by
    intro k137
    induction k137 with
    | zero => intro sc137 y137_2 y137_4 w137_2_4 w137_2_0 hIc137 hFc137 j137_4 v137_2_4 v137_2_0 n137_0 mm137; exact m_no mm137 j137_4 rfl
    | succ k137 ih137 =>
      intro sc137 y137_2 y137_4 w137_2_4 w137_2_0 hIc137 hFc137 j137_4 v137_2_4 v137_2_0 n137_0 mm137
      refine gg_w (M := 1 + k137 * 900 + 900) (by omega) ?_
      refine g_iload 139 (gd rfl) rfl rfl ?_
      refine g_aload_n 140 (gd rfl) rfl rfl ?_
      refine g_getI 143 (gd rfl) rfl rfl rfl (fun z140 e140 => ?_)
      have q140 : u_2_1 = z140 := (fr_F e_2_1 hFc137 rfl).trans e140.symm
      subst q140
      refine g_cmp_ge 146 189 (gd rfl) rfl rfl (fun c143 => ?_) (fun c143 => ?_)
      · skip
        refine g_aload_n 190 (gd rfl) rfl rfl ?_
        refine g_getA (q2 := 87) 193 (gd rfl) rfl rfl rfl rfl ?_
        refine g_astore 195 (gd rfl) rfl (Nat.le_of_ble_eq_true rfl) ?_
        refine g_aload_n 196 (gd rfl) rfl rfl ?_
        refine g_aload_n 197 (gd rfl) rfl rfl ?_
        refine g_getA (q2 := 88) 200 (gd rfl) rfl rfl rfl rfl ?_
        refine g_swap rfl rfl ?_
        have hI200 := inv_sws hIc137
        exact g_return (gd rfl) rfl (hP _ _ ⟨(A 88), (A 87), (sws sc137), hI200, (fr_sws rfl rfl hFc137), rfl, rfl⟩)
      · skip
        have i143 := r_lt1 0 31 c143 j137_4 ro_2_1 rfl
        have i143a := r_lt2 1 32 c143 j137_4 ro_2_1 rfl
        refine g_aload_n 147 (gd rfl) rfl rfl ?_
        refine g_getA (q2 := 88) 150 (gd rfl) rfl rfl rfl rfl ?_
        refine g_iload 152 (gd rfl) rfl rfl ?_
        refine g_dup2 153 (gd rfl) rfl rfl rfl ?_
        refine g_laload 154 (gd rfl) rfl (n := 32) rfl (in_ix i143 rfl) (fun z153 e153 => ?_)
        refine g_lload_n 155 (gd rfl) rfl rfl ?_
        refine g_aload_n 156 (gd rfl) rfl rfl ?_
        refine g_getI 159 (gd rfl) rfl rfl rfl (fun z156 e156 => ?_)
        have q156 : u_2_1 = z156 := (fr_F e_2_1 hFc137 rfl).trans e156.symm
        subst q156
        refine g_i2l 160 (gd rfl) rfl (fun z159 e159 => ?_)
        have i159 := l_i e159 i143a
        refine g_ldiv 161 (gd rfl) rfl (ldv_nz i159 rfl) (fun z160 e160 => ?_)
        refine g_iload 163 (gd rfl) rfl rfl ?_
        refine g_i2l 164 (gd rfl) rfl (fun z163 e163 => ?_)
        have i163 := l_i e163 i143
        refine g_lload_n 165 (gd rfl) rfl rfl ?_
        refine g_aload_n 166 (gd rfl) rfl rfl ?_
        refine g_getI 169 (gd rfl) rfl rfl rfl (fun z166 e166 => ?_)
        have q166 : u_2_1 = z166 := (fr_F e_2_1 hFc137 rfl).trans e166.symm
        subst q166
        refine g_i2l 170 (gd rfl) rfl (fun z169 e169 => ?_)
        have i169 := l_i e169 i143a
        refine g_lrem 171 (gd rfl) rfl (ldv_nz i169 rfl) (fun z170 e170 => ?_)
        refine g_lcmp 172 (gd rfl) rfl (fun z171 e171 => ?_)
        have i171 := lc_in e171
        refine g_if_ge 175 179 (gd rfl) rfl rfl (fun c172 => ?_) (fun c172 => ?_)
        · skip
          have i172 := z_ge 0 1 c172 i171 rfl
          have c172a := lc_ge e171 c172
          have i172a := lr_le1 (-9223372036854775808) 31 c172a (l_rng z170) i163 rfl
          refine g_lconst 0 180 (gd rfl) rfl rfl ?_
          refine g_ladd 181 (gd rfl) rfl (fun z180 e180 => ?_)
          refine g_ladd 182 (gd rfl) rfl (fun z181 e181 => ?_)
          refine g_lastore 183 (gd rfl) rfl (n := 32) rfl (in_ix i143 rfl) ?_
          have hI182 := inv_sL (q := 88) (j := y137_4.toNatClampNeg) (x := z181) hIc137 rfl (l_rng z181)
          refine g_iinc 186 (gd rfl) rfl rfl (Nat.le_of_ble_eq_true rfl) (fun z183 e183 => ?_)
          have i183 := in_add 1 32 e183 i143 (in_c 1 rfl) rfl rfl
          refine g_goto 137 (gd rfl) rfl ?_
          have v137 : w137_2_4 = (sL sc137 88 y137_4.toNatClampNeg z181).2.2.1 2 4 := sL_F (v137_2_4)
          have v137a : w137_2_0 = (sL sc137 88 y137_4.toNatClampNeg z181).2.2.1 2 0 := sL_F (v137_2_0)
          have n137 : (w137_2_4).toInt = (w137_2_0).toInt := by have a0 := i143a; unfold In at a0; have a1 := (inv_F hIc137 0 4000 rfl v137_2_0); unfold In at a1; have a2 := (inv_F hIc137 (-1) 4000 rfl v137_2_4); unfold In at a2; have a3 := i143; unfold In at a3; have a4 := i183; unfold In at a4; have a5 := t_add e183 i143 (in_c 1 rfl) rfl; have a6 := (in_c 1 rfl); unfold In at a6; have a7 := tx_i2l e169; have a8 := tx_i2l e163; have a9 := tx_i2l e159; omega
          exact gg_w (by omega) (gg_f (gf_cons rfl (gf_cons rfl (gf_cons rfl (gf_cons rfl gf_nil)))) (ih137 (sL sc137 88 y137_4.toNatClampNeg z181) y137_2 z183 w137_2_4 w137_2_0 hI182 (fr_sL rfl hFc137) (in_w 0 32 i183 rfl) v137 v137a n137 (m_up mm137 (t_add e183 i143 (in_c 1 rfl) rfl) (in_w 1 1 (in_c 1 rfl) rfl))))
        · skip
          have i172 := z_lt (-1) (-1) c172 i171 rfl
          have c172a := lc_lt e171 c172
          have i172a := lr_lt2 1 9223372036854775807 c172a i163 (l_rng z170) rfl
          refine g_lconst 1 176 (gd rfl) rfl rfl ?_
          refine g_goto 180 (gd rfl) rfl ?_
          refine g_ladd 181 (gd rfl) rfl (fun z180 e180 => ?_)
          refine g_ladd 182 (gd rfl) rfl (fun z181 e181 => ?_)
          refine g_lastore 183 (gd rfl) rfl (n := 32) rfl (in_ix i143 rfl) ?_
          have hI182 := inv_sL (q := 88) (j := y137_4.toNatClampNeg) (x := z181) hIc137 rfl (l_rng z181)
          refine g_iinc 186 (gd rfl) rfl rfl (Nat.le_of_ble_eq_true rfl) (fun z183 e183 => ?_)
          have i183 := in_add 1 32 e183 i143 (in_c 1 rfl) rfl rfl
          refine g_goto 137 (gd rfl) rfl ?_
          have v137 : w137_2_4 = (sL sc137 88 y137_4.toNatClampNeg z181).2.2.1 2 4 := sL_F (v137_2_4)
          have v137a : w137_2_0 = (sL sc137 88 y137_4.toNatClampNeg z181).2.2.1 2 0 := sL_F (v137_2_0)
          have n137 : (w137_2_4).toInt = (w137_2_0).toInt := by have a0 := i143a; unfold In at a0; have a1 := (inv_F hIc137 0 4000 rfl v137_2_0); unfold In at a1; have a2 := (inv_F hIc137 (-1) 4000 rfl v137_2_4); unfold In at a2; have a3 := i143; unfold In at a3; have a4 := i183; unfold In at a4; have a5 := t_add e183 i143 (in_c 1 rfl) rfl; have a6 := (in_c 1 rfl); unfold In at a6; have a7 := tx_i2l e169; have a8 := tx_i2l e163; have a9 := tx_i2l e159; omega
          exact gg_w (by omega) (gg_f (gf_cons rfl (gf_cons rfl (gf_cons rfl (gf_cons rfl gf_nil)))) (ih137 (sL sc137 88 y137_4.toNatClampNeg z181) y137_2 z183 w137_2_4 w137_2_0 hI182 (fr_sL rfl hFc137) (in_w 0 32 i183 rfl) v137 v137a n137 (m_up mm137 (t_add e183 i143 (in_c 1 rfl) rfl) (in_w 1 1 (in_c 1 rfl) rfl))))
  have ct13 : ∀ (k13 : Nat) (sc13 : GS) (y13_2 : Int64) (y13_4 : Int32) (w13_2_4 : Int32) (w13_2_0 : Int32), Inv sc13 → Fr fm_110_86_2 s sc13 → (In y13_4 0 32) → (w13_2_4 = sc13.2.2.1 2 4) → (w13_2_0 = sc13.2.2.1 2 0) → ((w13_2_4).toInt = (w13_2_0).toInt) → 32 - (y13_4).toInt < (k13 : Int) → GG Z (d - 1) 110 post (gx xp) (29702 + k13 * 147601) 13 (fun j => xlook j [(0, .ref (A 86)), (1, .ref (A 2)), (2, .long y13_2), (4, .int y13_4)]) [] (WW Z A sc13 ++ ex) 0 0 := by
    intro k13
    induction k13 with
    | zero => intro sc13 y13_2 y13_4 w13_2_4 w13_2_0 hIc13 hFc13 j13_4 v13_2_4 v13_2_0 n13_0 mm13; exact m_no mm13 j13_4 rfl
    | succ k13 ih13 =>
      intro sc13 y13_2 y13_4 w13_2_4 w13_2_0 hIc13 hFc13 j13_4 v13_2_4 v13_2_0 n13_0 mm13
      refine gg_w (M := 29702 + k13 * 147601 + 147601) (by omega) ?_
      have ct69 : ∀ (k69 : Nat) (sc69 : GS) (y69_5 : Int32) (y69_6 : Int64) (y69_8 : Int32) (w69_2_4 : Int32) (w69_2_0 : Int32), Inv sc69 → Fr fm_110_86_2 s sc69 → (In y13_4 0 31) → (In y69_5 (-160) 160) → (In y69_8 0 160) → (w69_2_4 = sc69.2.2.1 2 4) → (w69_2_0 = sc69.2.2.1 2 0) → ((w69_2_4).toInt = (w69_2_0).toInt) → 160 - (y69_8).toInt < (k69 : Int) → GG Z (d - 1) 110 post (gx xp) (29702 + k13 * 147601 + 1 + k69 * 900) 69 (fun j => xlook j [(0, .ref (A 86)), (1, .ref (A 2)), (2, .long y13_2), (4, .int y13_4), (5, .int y69_5), (6, .long y69_6), (8, .int y69_8)]) [] (WW Z A sc69 ++ ex) 0 0 := by
        intro k69
        induction k69 with
        | zero => intro sc69 y69_5 y69_6 y69_8 w69_2_4 w69_2_0 hIc69 hFc69 j69_4 j69_5 j69_8 v69_2_4 v69_2_0 n69_0 mm69; exact m_no mm69 j69_8 rfl
        | succ k69 ih69 =>
          intro sc69 y69_5 y69_6 y69_8 w69_2_4 w69_2_0 hIc69 hFc69 j69_4 j69_5 j69_8 v69_2_4 v69_2_0 n69_0 mm69
          refine gg_w (M := 29702 + k13 * 147601 + 1 + k69 * 900 + 900) (by omega) ?_
          refine g_iload 71 (gd rfl) rfl rfl ?_
          refine g_aload_n 72 (gd rfl) rfl rfl ?_
          refine g_getA (q2 := 12) 75 (gd rfl) rfl rfl rfl rfl ?_
          refine g_iload 77 (gd rfl) rfl rfl ?_
          refine g_iconst 1 78 (gd rfl) rfl rfl ?_
          refine g_iadd 79 (gd rfl) rfl (fun z78 e78 => ?_)
          have i78 := in_add 1 32 e78 j69_4 (in_c 1 rfl) rfl rfl
          refine g_iaload 80 (gd rfl) rfl (n := 33) rfl (in_ix i78 rfl) (fun z79 e79 => ?_)
          have i79 := inv_I hIc69 (n := 33) (t := 0) 0 160 rfl (in_ix i78 rfl) rfl e79
          refine g_cmp_ge 83 111 (gd rfl) rfl rfl (fun c80 => ?_) (fun c80 => ?_)
          · skip
            refine g_lload_n 112 (gd rfl) rfl rfl ?_
            refine g_aload_n 113 (gd rfl) rfl rfl ?_
            refine g_getA (q2 := 87) 116 (gd rfl) rfl rfl rfl rfl ?_
            refine g_iload 118 (gd rfl) rfl rfl ?_
            refine g_laload 119 (gd rfl) rfl (n := 32) rfl (in_ix j69_4 rfl) (fun z118 e118 => ?_)
            refine g_lload 121 (gd rfl) rfl rfl ?_
            refine g_iload 123 (gd rfl) rfl rfl ?_
            refine g_i2l 124 (gd rfl) rfl (fun z123 e123 => ?_)
            have i123 := l_i e123 j69_5
            refine g_lmul 125 (gd rfl) rfl (fun z124 e124 => ?_)
            refine g_lsub 126 (gd rfl) rfl (fun z125 e125 => ?_)
            refine g_ladd 127 (gd rfl) rfl (fun z126 e126 => ?_)
            refine g_lstore_n 128 (gd rfl) rfl (Nat.le_of_ble_eq_true rfl) ?_
            refine g_iinc 131 (gd rfl) rfl rfl (Nat.le_of_ble_eq_true rfl) (fun z128 e128 => ?_)
            have i128 := in_add 1 32 e128 j69_4 (in_c 1 rfl) rfl rfl
            refine g_goto 13 (gd rfl) rfl ?_
            have n13 : (w69_2_4).toInt = (w69_2_0).toInt := by have a0 := j69_4; unfold In at a0; have a1 := ro_2_1; unfold In at a1; have a2 := (inv_F hIc69 0 4000 rfl v69_2_0); unfold In at a2; have a3 := (inv_F hIc69 (-1) 4000 rfl v69_2_4); unfold In at a3; have a4 := j69_8; unfold In at a4; have a5 := j69_5; unfold In at a5; have a6 := i128; unfold In at a6; have a7 := t_add e128 j69_4 (in_c 1 rfl) rfl; have a8 := (in_c 1 rfl); unfold In at a8; have a9 := tx_i2l e123; have a10 := i78; unfold In at a10; have a11 := t_add e78 j69_4 (in_c 1 rfl) rfl; omega
            exact gg_w (by omega) (gg_f (gf_cons rfl (gf_cons rfl (gf_cons rfl (gf_cons rfl gf_nil)))) (ih13 sc69 z126 z128 w69_2_4 w69_2_0 hIc69 hFc69 (in_w 0 32 i128 rfl) v69_2_4 v69_2_0 n13 (m_up mm13 (t_add e128 j69_4 (in_c 1 rfl) rfl) (in_w 1 1 (in_c 1 rfl) rfl))))
          · skip
            have i80 := r_lt1 0 159 c80 j69_8 i79 rfl
            have i80a := r_lt2 1 160 c80 j69_8 i79 rfl
            refine g_aload_n 84 (gd rfl) rfl rfl ?_
            refine g_getA (q2 := 88) 87 (gd rfl) rfl rfl rfl rfl ?_
            refine g_aload_n 88 (gd rfl) rfl rfl ?_
            refine g_getA (q2 := 5) 91 (gd rfl) rfl rfl rfl rfl ?_
            refine g_aload_n 92 (gd rfl) rfl rfl ?_
            refine g_getA (q2 := 13) 95 (gd rfl) rfl rfl rfl rfl ?_
            refine g_iload 97 (gd rfl) rfl rfl ?_
            refine g_iaload 98 (gd rfl) rfl (n := 160) rfl (in_ix i80 rfl) (fun z97 e97 => ?_)
            have i97 := inv_I hIc69 (n := 160) (t := 0) 0 159 rfl (in_ix i80 rfl) rfl e97
            refine g_iaload 99 (gd rfl) rfl (n := 160) rfl (in_ix i97 rfl) (fun z98 e98 => ?_)
            have i98 := inv_I hIc69 (n := 160) (t := 0) 0 31 rfl (in_ix i97 rfl) rfl e98
            refine g_dup2 100 (gd rfl) rfl rfl rfl ?_
            refine g_laload 101 (gd rfl) rfl (n := 32) rfl (in_ix i98 rfl) (fun z100 e100 => ?_)
            refine g_lload 103 (gd rfl) rfl rfl ?_
            refine g_ladd 104 (gd rfl) rfl (fun z103 e103 => ?_)
            refine g_lastore 105 (gd rfl) rfl (n := 32) rfl (in_ix i98 rfl) ?_
            have hI104 := inv_sL (q := 88) (j := z98.toNatClampNeg) (x := z103) hIc69 rfl (l_rng z103)
            refine g_iinc 108 (gd rfl) rfl rfl (Nat.le_of_ble_eq_true rfl) (fun z105 e105 => ?_)
            have i105 := in_add 1 160 e105 i80 (in_c 1 rfl) rfl rfl
            refine g_goto 69 (gd rfl) rfl ?_
            have v69 : w69_2_4 = (sL sc69 88 z98.toNatClampNeg z103).2.2.1 2 4 := sL_F (v69_2_4)
            have v69a : w69_2_0 = (sL sc69 88 z98.toNatClampNeg z103).2.2.1 2 0 := sL_F (v69_2_0)
            have n69 : (w69_2_4).toInt = (w69_2_0).toInt := by have a0 := j69_4; unfold In at a0; have a1 := ro_2_1; unfold In at a1; have a2 := (inv_F hIc69 0 4000 rfl v69_2_0); unfold In at a2; have a3 := (inv_F hIc69 (-1) 4000 rfl v69_2_4); unfold In at a3; have a4 := i80; unfold In at a4; have a5 := j69_5; unfold In at a5; have a6 := i105; unfold In at a6; have a7 := t_add e105 i80 (in_c 1 rfl) rfl; have a8 := (in_c 1 rfl); unfold In at a8; have a9 := i78; unfold In at a9; have a10 := t_add e78 j69_4 (in_c 1 rfl) rfl; omega
            exact gg_w (by omega) (gg_f (gf_cons rfl (gf_cons rfl (gf_cons rfl (gf_cons rfl (gf_cons rfl (gf_cons rfl (gf_cons rfl gf_nil))))))) (ih69 (sL sc69 88 z98.toNatClampNeg z103) y69_5 y69_6 z105 w69_2_4 w69_2_0 hI104 (fr_sL rfl hFc69) (in_w 0 31 j69_4 rfl) (in_w (-160) 160 j69_5 rfl) (in_w 0 160 i105 rfl) v69 v69a n69 (m_up mm69 (t_add e105 i80 (in_c 1 rfl) rfl) (in_w 1 1 (in_c 1 rfl) rfl))))
      refine g_iload 15 (gd rfl) rfl rfl ?_
      refine g_aload_n 16 (gd rfl) rfl rfl ?_
      refine g_getI 19 (gd rfl) rfl rfl rfl (fun z16 e16 => ?_)
      have q16 : u_2_1 = z16 := (fr_F e_2_1 hFc13 rfl).trans e16.symm
      subst q16
      refine g_cmp_ge 22 134 (gd rfl) rfl rfl (fun c19 => ?_) (fun c19 => ?_)
      · skip
        refine g_iconst 0 135 (gd rfl) rfl rfl ?_
        refine g_istore 137 (gd rfl) rfl (Nat.le_of_ble_eq_true rfl) ?_
        have n137 : (w13_2_4).toInt = (w13_2_0).toInt := by have a0 := ro_2_1; unfold In at a0; have a1 := (inv_F hIc13 0 4000 rfl v13_2_0); unfold In at a1; have a2 := (inv_F hIc13 (-1) 4000 rfl v13_2_4); unfold In at a2; have a3 := j13_4; unfold In at a3; have a4 := (in_c 0 rfl); unfold In at a4; omega
        exact gg_w (by omega) (gg_f (gf_cons rfl (gf_cons rfl (gf_cons rfl (gf_cons rfl gf_nil)))) (ct137 33 sc13 y13_2 (Int32.ofInt 0) w13_2_4 w13_2_0 hIc13 hFc13 (in_w 0 32 (in_c 0 rfl) rfl) v13_2_4 v13_2_0 n137 (m_in 33 (in_w 0 32 (in_c 0 rfl) rfl) rfl)))
      · skip
        have i19 := r_lt1 0 31 c19 j13_4 ro_2_1 rfl
        have i19a := r_lt2 1 32 c19 j13_4 ro_2_1 rfl
        refine g_aload_n 23 (gd rfl) rfl rfl ?_
        refine g_iload 25 (gd rfl) rfl rfl ?_
        refine g_callv (X := _) (As := [.int y13_4]) (r := []) (b := A 2) (q := 2) 28 (gd rfl) rfl rfl rfl rfl rfl (ww_o rfl) (Nat.le_of_ble_eq_true rfl) (mc := 0) (ms := 0) (Nat.zero_le _) (Nat.zero_le _) (P := fun v u => _) ?_ (fun e u h => h) (fun v u h => h)
        intro po25 xx25 hp25 hx25
        refine g_enter2 (k := 103) (N := 300) (by omega) rfl (Nat.le_of_ble_eq_true rfl) ?_
        refine g_aload_n 1 (gd rfl) rfl rfl ?_
        refine g_getA (q2 := 12) 4 (gd rfl) rfl rfl rfl rfl ?_
        refine g_iload_n 5 (gd rfl) rfl rfl ?_
        refine g_iconst 1 6 (gd rfl) rfl rfl ?_
        refine g_iadd 7 (gd rfl) rfl (fun z25x6 e25x6 => ?_)
        have i25x6 := in_add 1 32 e25x6 i19 (in_c 1 rfl) rfl rfl
        refine g_iaload 8 (gd rfl) rfl (n := 33) rfl (in_ix i25x6 rfl) (fun z25x7 e25x7 => ?_)
        have i25x7 := inv_I hIc13 (n := 33) (t := 0) 0 160 rfl (in_ix i25x6 rfl) rfl e25x7
        refine g_aload_n 9 (gd rfl) rfl rfl ?_
        refine g_getA (q2 := 12) 12 (gd rfl) rfl rfl rfl rfl ?_
        refine g_iload_n 13 (gd rfl) rfl rfl ?_
        refine g_iaload 14 (gd rfl) rfl (n := 33) rfl (in_ix i19 rfl) (fun z25x13 e25x13 => ?_)
        have i25x13 := inv_I hIc13 (n := 33) (t := 0) 0 160 rfl (in_ix i19 rfl) rfl e25x13
        refine g_isub 15 (gd rfl) rfl (fun z25x14 e25x14 => ?_)
        have i25x14 := in_sub (-160) 160 e25x14 i25x7 i25x13 rfl rfl
        refine g_ireturn (gd rfl) rfl rfl (hp25 _ _ ?_)
        show GG _ _ _ _ _ _ _ _ [.int z25x14] _ _ _
        refine g_istore 30 (gd rfl) rfl (Nat.le_of_ble_eq_true rfl) ?_
        refine g_iload 32 (gd rfl) rfl rfl ?_
        refine g_if_ne 35 39 (gd rfl) rfl rfl (fun c32 => ?_) (fun c32 => ?_)
        · skip
          refine g_aload_n 40 (gd rfl) rfl rfl ?_
          refine g_getA (q2 := 87) 43 (gd rfl) rfl rfl rfl rfl ?_
          refine g_iload 45 (gd rfl) rfl rfl ?_
          refine g_laload 46 (gd rfl) rfl (n := 32) rfl (in_ix i19 rfl) (fun z45 e45 => ?_)
          refine g_ldc2_w 85 49 (gd rfl) rfl rfl ?_
          refine g_lmul 50 (gd rfl) rfl (fun z49 e49 => ?_)
          refine g_ldc2_w 100 53 (gd rfl) rfl rfl ?_
          refine g_iload 55 (gd rfl) rfl rfl ?_
          refine g_i2l 56 (gd rfl) rfl (fun z55 e55 => ?_)
          have i55 := l_i e55 i25x14
          refine g_lmul 57 (gd rfl) rfl (fun z56 e56 => ?_)
          have i56 := l_mulc 100 (-16000) 16000 (Or.inl e56) i55 rfl
          have nz57 : (z56).toInt ≠ 0 := by exact l_nz100 e56 e55 (by have a0 := i19a; unfold In at a0; have a1 := (inv_F hIc13 0 4000 rfl v13_2_0); unfold In at a1; have a2 := (inv_F hIc13 (-1) 4000 rfl v13_2_4); unfold In at a2; have a3 := i19; unfold In at a3; have a4 := i25x14; unfold In at a4; have a5 := t_sub e25x14 i25x7 i25x13 rfl; have a6 := i25x13; unfold In at a6; have a7 := i25x7; unfold In at a7; have a8 := tx_i2l e55; have a9 := i25x6; unfold In at a9; have a10 := t_add e25x6 i19 (in_c 1 rfl) rfl; have a11 := (in_c 1 rfl); unfold In at a11; omega) (by have a0 := i19a; unfold In at a0; have a1 := (inv_F hIc13 0 4000 rfl v13_2_0); unfold In at a1; have a2 := (inv_F hIc13 (-1) 4000 rfl v13_2_4); unfold In at a2; have a3 := i19; unfold In at a3; have a4 := i25x14; unfold In at a4; have a5 := t_sub e25x14 i25x7 i25x13 rfl; have a6 := i25x13; unfold In at a6; have a7 := i25x7; unfold In at a7; have a8 := tx_i2l e55; have a9 := i25x6; unfold In at a9; have a10 := t_add e25x6 i19 (in_c 1 rfl) rfl; have a11 := (in_c 1 rfl); unfold In at a11; omega) (by have a0 := i19a; unfold In at a0; have a1 := (inv_F hIc13 0 4000 rfl v13_2_0); unfold In at a1; have a2 := (inv_F hIc13 (-1) 4000 rfl v13_2_4); unfold In at a2; have a3 := i19; unfold In at a3; have a4 := i25x14; unfold In at a4; have a5 := t_sub e25x14 i25x7 i25x13 rfl; have a6 := i25x13; unfold In at a6; have a7 := i25x7; unfold In at a7; have a8 := tx_i2l e55; have a9 := i25x6; unfold In at a9; have a10 := t_add e25x6 i19 (in_c 1 rfl) rfl; have a11 := (in_c 1 rfl); unfold In at a11; omega)
          refine g_ldiv 58 (gd rfl) rfl (lnz nz57) (fun z57 e57 => ?_)
          refine g_lstore 60 (gd rfl) rfl (Nat.le_of_ble_eq_true rfl) ?_
          refine g_aload_n 61 (gd rfl) rfl rfl ?_
          refine g_getA (q2 := 12) 64 (gd rfl) rfl rfl rfl rfl ?_
          refine g_iload 66 (gd rfl) rfl rfl ?_
          refine g_iaload 67 (gd rfl) rfl (n := 33) rfl (in_ix i19 rfl) (fun z66 e66 => ?_)
          have q66 : z25x13 = z66 := (e25x13).trans e66.symm
          subst q66
          refine g_istore 69 (gd rfl) rfl (Nat.le_of_ble_eq_true rfl) ?_
          have n69 : (w13_2_4).toInt = (w13_2_0).toInt := by have a0 := i19a; unfold In at a0; have a1 := (inv_F hIc13 0 4000 rfl v13_2_0); unfold In at a1; have a2 := (inv_F hIc13 (-1) 4000 rfl v13_2_4); unfold In at a2; have a3 := i19; unfold In at a3; have a4 := i25x13; unfold In at a4; have a5 := i25x14; unfold In at a5; have a6 := t_sub e25x14 i25x7 i25x13 rfl; have a7 := i25x7; unfold In at a7; have a8 := tx_i2l e55; have a9 := i25x6; unfold In at a9; have a10 := t_add e25x6 i19 (in_c 1 rfl) rfl; have a11 := (in_c 1 rfl); unfold In at a11; omega
          exact gg_w (by omega) (gg_f (gf_cons rfl (gf_cons rfl (gf_cons rfl (gf_cons rfl (gf_cons rfl (gf_cons rfl (gf_cons rfl gf_nil))))))) (ct69 161 sc13 z25x14 z57 z25x13 w13_2_4 w13_2_0 hIc13 hFc13 (in_w 0 31 i19 rfl) (in_w (-160) 160 i25x14 rfl) (in_w 0 160 i25x13 rfl) v13_2_4 v13_2_0 n69 (m_in 161 (in_w 0 160 i25x13 rfl) rfl)))
        · skip
          have i32 := z_eq 0 0 c32 i25x14 rfl
          refine g_lconst 0 36 (gd rfl) rfl rfl ?_
          refine g_goto 58 (gd rfl) rfl ?_
          refine g_lstore 60 (gd rfl) rfl (Nat.le_of_ble_eq_true rfl) ?_
          refine g_aload_n 61 (gd rfl) rfl rfl ?_
          refine g_getA (q2 := 12) 64 (gd rfl) rfl rfl rfl rfl ?_
          refine g_iload 66 (gd rfl) rfl rfl ?_
          refine g_iaload 67 (gd rfl) rfl (n := 33) rfl (in_ix i19 rfl) (fun z66 e66 => ?_)
          have q66 : z25x13 = z66 := (e25x13).trans e66.symm
          subst q66
          refine g_istore 69 (gd rfl) rfl (Nat.le_of_ble_eq_true rfl) ?_
          have n69 : (w13_2_4).toInt = (w13_2_0).toInt := by have a0 := i19a; unfold In at a0; have a1 := (inv_F hIc13 0 4000 rfl v13_2_0); unfold In at a1; have a2 := (inv_F hIc13 (-1) 4000 rfl v13_2_4); unfold In at a2; have a3 := i19; unfold In at a3; have a4 := i25x13; unfold In at a4; have a5 := i32; unfold In at a5; have a6 := t_sub e25x14 i25x7 i25x13 rfl; have a7 := i25x7; unfold In at a7; have a8 := i25x6; unfold In at a8; have a9 := t_add e25x6 i19 (in_c 1 rfl) rfl; have a10 := (in_c 1 rfl); unfold In at a10; omega
          exact gg_w (by omega) (gg_f (gf_cons rfl (gf_cons rfl (gf_cons rfl (gf_cons rfl (gf_cons rfl (gf_cons rfl (gf_cons rfl gf_nil))))))) (ct69 161 sc13 z25x14 (Int64.ofInt 0) z25x13 w13_2_4 w13_2_0 hIc13 hFc13 (in_w 0 31 i19 rfl) (in_w (-160) 160 i32 rfl) (in_w 0 160 i25x13 rfl) v13_2_4 v13_2_0 n69 (m_in 161 (in_w 0 160 i25x13 rfl) rfl)))
  refine g_enter2 (k := 110) (N := 4901435) (by omega) rfl (Nat.le_of_ble_eq_true rfl) ?_
  refine g_lconst 0 1 (gd rfl) rfl rfl ?_
  refine g_lstore_n 2 (gd rfl) rfl (Nat.le_of_ble_eq_true rfl) ?_
  refine g_aload_n 3 (gd rfl) rfl rfl ?_
  refine g_getA (q2 := 88) 6 (gd rfl) rfl rfl rfl rfl ?_
  refine g_lconst 0 7 (gd rfl) rfl rfl ?_
  refine g_calls (As := [.ref (A 88), .long (Int64.ofInt 0)]) (r := []) 10 (gd rfl) rfl rfl rfl rfl rfl (Nat.le_of_ble_eq_true rfl) (Nat.zero_le _) (Nat.zero_le _) (k_fillL 88 (by omega) hI (n := 32) rfl rfl rfl (l_rng (Int64.ofInt 0))) (fun v u h => ?_)
  obtain ⟨s7, hI7, hF7, rfl, rfl, fl7⟩ := h
  show GG _ _ _ _ _ _ _ _ [] _ _ _
  refine g_iconst 0 11 (gd rfl) rfl rfl ?_
  refine g_istore 13 (gd rfl) rfl (Nat.le_of_ble_eq_true rfl) ?_
  have v13 : u_2_4 = s7.2.2.1 2 4 := fr_F (e_2_4) hF7 rfl
  have v13a : u_2_0 = s7.2.2.1 2 0 := fr_F (e_2_0) hF7 rfl
  have n13 : (u_2_4).toInt = (u_2_0).toInt := by have a0 := ro_2_1; unfold In at a0; have a1 := (inv_F hI 0 4000 rfl e_2_0); unfold In at a1; have a2 := (inv_F hI (-1) 4000 rfl e_2_4); unfold In at a2; have a3 := (in_c 0 rfl); unfold In at a3; omega
  exact gg_w (by omega) (gg_f (gf_cons rfl (gf_cons rfl (gf_cons rfl (gf_cons rfl gf_nil)))) (ct13 33 s7 (Int64.ofInt 0) (Int32.ofInt 0) u_2_4 u_2_0 hI7 (fr_tr rfl fr_rf hF7) (in_w 0 32 (in_c 0 rfl) rfl) v13 v13a n13 (m_in 33 (in_w 0 32 (in_c 0 rfl) rfl) rfl)))

def fm_110_86_32 : FM := ([], [87, 88], [], [])
/-- GraphHouse$Groups.shareOut -/
theorem k_110_86_32 {Z : AmZ} {A : Nat → Nat} {s : GS} {ex : va_W} {d : Nat} {X : AmX} {u_32_4 : Int32} {u_32_0 : Int32} (hd : 3 ≤ d) (hI : Inv s) (e_32_4 : u_32_4 = s.2.2.1 32 4) (e_32_0 : u_32_0 = s.2.2.1 32 0) (p_0 : (u_32_4).toInt = (u_32_0).toInt) : GC Z d 110 [.ref (A 86), .ref (A 32)] (WW Z A s ++ ex) 0 0 (fun v u => ∃ xa ya : Nat, ∃ t : GS, Inv t ∧ Fr fm_110_86_32 s t ∧ v = none ∧ u = WW Z (a2 A xa ya) t ++ ex) X := by
  intro post xp hP hX
  obtain ⟨u_32_1, e_32_1⟩ : ∃ w, w = s.2.2.1 32 1 := ⟨_, rfl⟩
  have ro_32_1 := inv_F hI 0 32 rfl e_32_1
  have ro_32_4 := inv_F hI (-1) 4000 rfl e_32_4
  have ro_32_0 := inv_F hI 0 4000 rfl e_32_0
  have ct137 : ∀ (k137 : Nat) (sc137 : GS) (y137_2 : Int64) (y137_4 : Int32) (w137_32_4 : Int32) (w137_32_0 : Int32), Inv sc137 → Fr fm_110_86_32 s sc137 → (In y137_4 0 32) → (w137_32_4 = sc137.2.2.1 32 4) → (w137_32_0 = sc137.2.2.1 32 0) → ((w137_32_4).toInt = (w137_32_0).toInt) → 32 - (y137_4).toInt < (k137 : Int) → GG Z (d - 1) 110 post (gx xp) (1 + k137 * 900) 137 (fun j => xlook j [(0, .ref (A 86)), (1, .ref (A 32)), (2, .long y137_2), (4, .int y137_4)]) [] (WW Z A sc137 ++ ex) 0 0 := by
    intro k137
    induction k137 with
    | zero => intro sc137 y137_2 y137_4 w137_32_4 w137_32_0 hIc137 hFc137 j137_4 v137_32_4 v137_32_0 n137_0 mm137; exact m_no mm137 j137_4 rfl
    | succ k137 ih137 =>
      intro sc137 y137_2 y137_4 w137_32_4 w137_32_0 hIc137 hFc137 j137_4 v137_32_4 v137_32_0 n137_0 mm137
      refine gg_w (M := 1 + k137 * 900 + 900) (by omega) ?_
      refine g_iload 139 (gd rfl) rfl rfl ?_
      refine g_aload_n 140 (gd rfl) rfl rfl ?_
      refine g_getI 143 (gd rfl) rfl rfl rfl (fun z140 e140 => ?_)
      have q140 : u_32_1 = z140 := (fr_F e_32_1 hFc137 rfl).trans e140.symm
      subst q140
      refine g_cmp_ge 146 189 (gd rfl) rfl rfl (fun c143 => ?_) (fun c143 => ?_)
      · skip
        refine g_aload_n 190 (gd rfl) rfl rfl ?_
        refine g_getA (q2 := 87) 193 (gd rfl) rfl rfl rfl rfl ?_
        refine g_astore 195 (gd rfl) rfl (Nat.le_of_ble_eq_true rfl) ?_
        refine g_aload_n 196 (gd rfl) rfl rfl ?_
        refine g_aload_n 197 (gd rfl) rfl rfl ?_
        refine g_getA (q2 := 88) 200 (gd rfl) rfl rfl rfl rfl ?_
        refine g_swap rfl rfl ?_
        have hI200 := inv_sws hIc137
        exact g_return (gd rfl) rfl (hP _ _ ⟨(A 88), (A 87), (sws sc137), hI200, (fr_sws rfl rfl hFc137), rfl, rfl⟩)
      · skip
        have i143 := r_lt1 0 31 c143 j137_4 ro_32_1 rfl
        have i143a := r_lt2 1 32 c143 j137_4 ro_32_1 rfl
        refine g_aload_n 147 (gd rfl) rfl rfl ?_
        refine g_getA (q2 := 88) 150 (gd rfl) rfl rfl rfl rfl ?_
        refine g_iload 152 (gd rfl) rfl rfl ?_
        refine g_dup2 153 (gd rfl) rfl rfl rfl ?_
        refine g_laload 154 (gd rfl) rfl (n := 32) rfl (in_ix i143 rfl) (fun z153 e153 => ?_)
        refine g_lload_n 155 (gd rfl) rfl rfl ?_
        refine g_aload_n 156 (gd rfl) rfl rfl ?_
        refine g_getI 159 (gd rfl) rfl rfl rfl (fun z156 e156 => ?_)
        have q156 : u_32_1 = z156 := (fr_F e_32_1 hFc137 rfl).trans e156.symm
        subst q156
        refine g_i2l 160 (gd rfl) rfl (fun z159 e159 => ?_)
        have i159 := l_i e159 i143a
        refine g_ldiv 161 (gd rfl) rfl (ldv_nz i159 rfl) (fun z160 e160 => ?_)
        refine g_iload 163 (gd rfl) rfl rfl ?_
        refine g_i2l 164 (gd rfl) rfl (fun z163 e163 => ?_)
        have i163 := l_i e163 i143
        refine g_lload_n 165 (gd rfl) rfl rfl ?_
        refine g_aload_n 166 (gd rfl) rfl rfl ?_
        refine g_getI 169 (gd rfl) rfl rfl rfl (fun z166 e166 => ?_)
        have q166 : u_32_1 = z166 := (fr_F e_32_1 hFc137 rfl).trans e166.symm
        subst q166
        refine g_i2l 170 (gd rfl) rfl (fun z169 e169 => ?_)
        have i169 := l_i e169 i143a
        refine g_lrem 171 (gd rfl) rfl (ldv_nz i169 rfl) (fun z170 e170 => ?_)
        refine g_lcmp 172 (gd rfl) rfl (fun z171 e171 => ?_)
        have i171 := lc_in e171
        refine g_if_ge 175 179 (gd rfl) rfl rfl (fun c172 => ?_) (fun c172 => ?_)
        · skip
          have i172 := z_ge 0 1 c172 i171 rfl
          have c172a := lc_ge e171 c172
          have i172a := lr_le1 (-9223372036854775808) 31 c172a (l_rng z170) i163 rfl
          refine g_lconst 0 180 (gd rfl) rfl rfl ?_
          refine g_ladd 181 (gd rfl) rfl (fun z180 e180 => ?_)
          refine g_ladd 182 (gd rfl) rfl (fun z181 e181 => ?_)
          refine g_lastore 183 (gd rfl) rfl (n := 32) rfl (in_ix i143 rfl) ?_
          have hI182 := inv_sL (q := 88) (j := y137_4.toNatClampNeg) (x := z181) hIc137 rfl (l_rng z181)
          refine g_iinc 186 (gd rfl) rfl rfl (Nat.le_of_ble_eq_true rfl) (fun z183 e183 => ?_)
          have i183 := in_add 1 32 e183 i143 (in_c 1 rfl) rfl rfl
          refine g_goto 137 (gd rfl) rfl ?_
          have v137 : w137_32_4 = (sL sc137 88 y137_4.toNatClampNeg z181).2.2.1 32 4 := sL_F (v137_32_4)
          have v137a : w137_32_0 = (sL sc137 88 y137_4.toNatClampNeg z181).2.2.1 32 0 := sL_F (v137_32_0)
          have n137 : (w137_32_4).toInt = (w137_32_0).toInt := by have a0 := i143a; unfold In at a0; have a1 := (inv_F hIc137 0 4000 rfl v137_32_0); unfold In at a1; have a2 := (inv_F hIc137 (-1) 4000 rfl v137_32_4); unfold In at a2; have a3 := i143; unfold In at a3; have a4 := i183; unfold In at a4; have a5 := t_add e183 i143 (in_c 1 rfl) rfl; have a6 := (in_c 1 rfl); unfold In at a6; have a7 := tx_i2l e169; have a8 := tx_i2l e163; have a9 := tx_i2l e159; omega
          exact gg_w (by omega) (gg_f (gf_cons rfl (gf_cons rfl (gf_cons rfl (gf_cons rfl gf_nil)))) (ih137 (sL sc137 88 y137_4.toNatClampNeg z181) y137_2 z183 w137_32_4 w137_32_0 hI182 (fr_sL rfl hFc137) (in_w 0 32 i183 rfl) v137 v137a n137 (m_up mm137 (t_add e183 i143 (in_c 1 rfl) rfl) (in_w 1 1 (in_c 1 rfl) rfl))))
        · skip
          have i172 := z_lt (-1) (-1) c172 i171 rfl
          have c172a := lc_lt e171 c172
          have i172a := lr_lt2 1 9223372036854775807 c172a i163 (l_rng z170) rfl
          refine g_lconst 1 176 (gd rfl) rfl rfl ?_
          refine g_goto 180 (gd rfl) rfl ?_
          refine g_ladd 181 (gd rfl) rfl (fun z180 e180 => ?_)
          refine g_ladd 182 (gd rfl) rfl (fun z181 e181 => ?_)
          refine g_lastore 183 (gd rfl) rfl (n := 32) rfl (in_ix i143 rfl) ?_
          have hI182 := inv_sL (q := 88) (j := y137_4.toNatClampNeg) (x := z181) hIc137 rfl (l_rng z181)
          refine g_iinc 186 (gd rfl) rfl rfl (Nat.le_of_ble_eq_true rfl) (fun z183 e183 => ?_)
          have i183 := in_add 1 32 e183 i143 (in_c 1 rfl) rfl rfl
          refine g_goto 137 (gd rfl) rfl ?_
          have v137 : w137_32_4 = (sL sc137 88 y137_4.toNatClampNeg z181).2.2.1 32 4 := sL_F (v137_32_4)
          have v137a : w137_32_0 = (sL sc137 88 y137_4.toNatClampNeg z181).2.2.1 32 0 := sL_F (v137_32_0)
          have n137 : (w137_32_4).toInt = (w137_32_0).toInt := by have a0 := i143a; unfold In at a0; have a1 := (inv_F hIc137 0 4000 rfl v137_32_0); unfold In at a1; have a2 := (inv_F hIc137 (-1) 4000 rfl v137_32_4); unfold In at a2; have a3 := i143; unfold In at a3; have a4 := i183; unfold In at a4; have a5 := t_add e183 i143 (in_c 1 rfl) rfl; have a6 := (in_c 1 rfl); unfold In at a6; have a7 := tx_i2l e169; have a8 := tx_i2l e163; have a9 := tx_i2l e159; omega
          exact gg_w (by omega) (gg_f (gf_cons rfl (gf_cons rfl (gf_cons rfl (gf_cons rfl gf_nil)))) (ih137 (sL sc137 88 y137_4.toNatClampNeg z181) y137_2 z183 w137_32_4 w137_32_0 hI182 (fr_sL rfl hFc137) (in_w 0 32 i183 rfl) v137 v137a n137 (m_up mm137 (t_add e183 i143 (in_c 1 rfl) rfl) (in_w 1 1 (in_c 1 rfl) rfl))))
  have ct13 : ∀ (k13 : Nat) (sc13 : GS) (y13_2 : Int64) (y13_4 : Int32) (w13_32_4 : Int32) (w13_32_0 : Int32), Inv sc13 → Fr fm_110_86_32 s sc13 → (In y13_4 0 32) → (w13_32_4 = sc13.2.2.1 32 4) → (w13_32_0 = sc13.2.2.1 32 0) → ((w13_32_4).toInt = (w13_32_0).toInt) → 32 - (y13_4).toInt < (k13 : Int) → GG Z (d - 1) 110 post (gx xp) (29702 + k13 * 147601) 13 (fun j => xlook j [(0, .ref (A 86)), (1, .ref (A 32)), (2, .long y13_2), (4, .int y13_4)]) [] (WW Z A sc13 ++ ex) 0 0 := by
    intro k13
    induction k13 with
    | zero => intro sc13 y13_2 y13_4 w13_32_4 w13_32_0 hIc13 hFc13 j13_4 v13_32_4 v13_32_0 n13_0 mm13; exact m_no mm13 j13_4 rfl
    | succ k13 ih13 =>
      intro sc13 y13_2 y13_4 w13_32_4 w13_32_0 hIc13 hFc13 j13_4 v13_32_4 v13_32_0 n13_0 mm13
      refine gg_w (M := 29702 + k13 * 147601 + 147601) (by omega) ?_
      have ct69 : ∀ (k69 : Nat) (sc69 : GS) (y69_5 : Int32) (y69_6 : Int64) (y69_8 : Int32) (w69_32_4 : Int32) (w69_32_0 : Int32), Inv sc69 → Fr fm_110_86_32 s sc69 → (In y13_4 0 31) → (In y69_5 (-160) 160) → (In y69_8 0 160) → (w69_32_4 = sc69.2.2.1 32 4) → (w69_32_0 = sc69.2.2.1 32 0) → ((w69_32_4).toInt = (w69_32_0).toInt) → 160 - (y69_8).toInt < (k69 : Int) → GG Z (d - 1) 110 post (gx xp) (29702 + k13 * 147601 + 1 + k69 * 900) 69 (fun j => xlook j [(0, .ref (A 86)), (1, .ref (A 32)), (2, .long y13_2), (4, .int y13_4), (5, .int y69_5), (6, .long y69_6), (8, .int y69_8)]) [] (WW Z A sc69 ++ ex) 0 0 := by
        intro k69
        induction k69 with
        | zero => intro sc69 y69_5 y69_6 y69_8 w69_32_4 w69_32_0 hIc69 hFc69 j69_4 j69_5 j69_8 v69_32_4 v69_32_0 n69_0 mm69; exact m_no mm69 j69_8 rfl
        | succ k69 ih69 =>
          intro sc69 y69_5 y69_6 y69_8 w69_32_4 w69_32_0 hIc69 hFc69 j69_4 j69_5 j69_8 v69_32_4 v69_32_0 n69_0 mm69
          refine gg_w (M := 29702 + k13 * 147601 + 1 + k69 * 900 + 900) (by omega) ?_
          refine g_iload 71 (gd rfl) rfl rfl ?_
          refine g_aload_n 72 (gd rfl) rfl rfl ?_
          refine g_getA (q2 := 42) 75 (gd rfl) rfl rfl rfl rfl ?_
          refine g_iload 77 (gd rfl) rfl rfl ?_
          refine g_iconst 1 78 (gd rfl) rfl rfl ?_
          refine g_iadd 79 (gd rfl) rfl (fun z78 e78 => ?_)
          have i78 := in_add 1 32 e78 j69_4 (in_c 1 rfl) rfl rfl
          refine g_iaload 80 (gd rfl) rfl (n := 33) rfl (in_ix i78 rfl) (fun z79 e79 => ?_)
          have i79 := inv_I hIc69 (n := 33) (t := 0) 0 160 rfl (in_ix i78 rfl) rfl e79
          refine g_cmp_ge 83 111 (gd rfl) rfl rfl (fun c80 => ?_) (fun c80 => ?_)
          · skip
            refine g_lload_n 112 (gd rfl) rfl rfl ?_
            refine g_aload_n 113 (gd rfl) rfl rfl ?_
            refine g_getA (q2 := 87) 116 (gd rfl) rfl rfl rfl rfl ?_
            refine g_iload 118 (gd rfl) rfl rfl ?_
            refine g_laload 119 (gd rfl) rfl (n := 32) rfl (in_ix j69_4 rfl) (fun z118 e118 => ?_)
            refine g_lload 121 (gd rfl) rfl rfl ?_
            refine g_iload 123 (gd rfl) rfl rfl ?_
            refine g_i2l 124 (gd rfl) rfl (fun z123 e123 => ?_)
            have i123 := l_i e123 j69_5
            refine g_lmul 125 (gd rfl) rfl (fun z124 e124 => ?_)
            refine g_lsub 126 (gd rfl) rfl (fun z125 e125 => ?_)
            refine g_ladd 127 (gd rfl) rfl (fun z126 e126 => ?_)
            refine g_lstore_n 128 (gd rfl) rfl (Nat.le_of_ble_eq_true rfl) ?_
            refine g_iinc 131 (gd rfl) rfl rfl (Nat.le_of_ble_eq_true rfl) (fun z128 e128 => ?_)
            have i128 := in_add 1 32 e128 j69_4 (in_c 1 rfl) rfl rfl
            refine g_goto 13 (gd rfl) rfl ?_
            have n13 : (w69_32_4).toInt = (w69_32_0).toInt := by have a0 := j69_4; unfold In at a0; have a1 := ro_32_1; unfold In at a1; have a2 := (inv_F hIc69 0 4000 rfl v69_32_0); unfold In at a2; have a3 := (inv_F hIc69 (-1) 4000 rfl v69_32_4); unfold In at a3; have a4 := j69_8; unfold In at a4; have a5 := j69_5; unfold In at a5; have a6 := i128; unfold In at a6; have a7 := t_add e128 j69_4 (in_c 1 rfl) rfl; have a8 := (in_c 1 rfl); unfold In at a8; have a9 := tx_i2l e123; have a10 := i78; unfold In at a10; have a11 := t_add e78 j69_4 (in_c 1 rfl) rfl; omega
            exact gg_w (by omega) (gg_f (gf_cons rfl (gf_cons rfl (gf_cons rfl (gf_cons rfl gf_nil)))) (ih13 sc69 z126 z128 w69_32_4 w69_32_0 hIc69 hFc69 (in_w 0 32 i128 rfl) v69_32_4 v69_32_0 n13 (m_up mm13 (t_add e128 j69_4 (in_c 1 rfl) rfl) (in_w 1 1 (in_c 1 rfl) rfl))))
          · skip
            have i80 := r_lt1 0 159 c80 j69_8 i79 rfl
            have i80a := r_lt2 1 160 c80 j69_8 i79 rfl
            refine g_aload_n 84 (gd rfl) rfl rfl ?_
            refine g_getA (q2 := 88) 87 (gd rfl) rfl rfl rfl rfl ?_
            refine g_aload_n 88 (gd rfl) rfl rfl ?_
            refine g_getA (q2 := 35) 91 (gd rfl) rfl rfl rfl rfl ?_
            refine g_aload_n 92 (gd rfl) rfl rfl ?_
            refine g_getA (q2 := 43) 95 (gd rfl) rfl rfl rfl rfl ?_
            refine g_iload 97 (gd rfl) rfl rfl ?_
            refine g_iaload 98 (gd rfl) rfl (n := 160) rfl (in_ix i80 rfl) (fun z97 e97 => ?_)
            have i97 := inv_I hIc69 (n := 160) (t := 0) 0 159 rfl (in_ix i80 rfl) rfl e97
            refine g_iaload 99 (gd rfl) rfl (n := 160) rfl (in_ix i97 rfl) (fun z98 e98 => ?_)
            have i98 := inv_I hIc69 (n := 160) (t := 0) 0 31 rfl (in_ix i97 rfl) rfl e98
            refine g_dup2 100 (gd rfl) rfl rfl rfl ?_
            refine g_laload 101 (gd rfl) rfl (n := 32) rfl (in_ix i98 rfl) (fun z100 e100 => ?_)
            refine g_lload 103 (gd rfl) rfl rfl ?_
            refine g_ladd 104 (gd rfl) rfl (fun z103 e103 => ?_)
            refine g_lastore 105 (gd rfl) rfl (n := 32) rfl (in_ix i98 rfl) ?_
            have hI104 := inv_sL (q := 88) (j := z98.toNatClampNeg) (x := z103) hIc69 rfl (l_rng z103)
            refine g_iinc 108 (gd rfl) rfl rfl (Nat.le_of_ble_eq_true rfl) (fun z105 e105 => ?_)
            have i105 := in_add 1 160 e105 i80 (in_c 1 rfl) rfl rfl
            refine g_goto 69 (gd rfl) rfl ?_
            have v69 : w69_32_4 = (sL sc69 88 z98.toNatClampNeg z103).2.2.1 32 4 := sL_F (v69_32_4)
            have v69a : w69_32_0 = (sL sc69 88 z98.toNatClampNeg z103).2.2.1 32 0 := sL_F (v69_32_0)
            have n69 : (w69_32_4).toInt = (w69_32_0).toInt := by have a0 := j69_4; unfold In at a0; have a1 := ro_32_1; unfold In at a1; have a2 := (inv_F hIc69 0 4000 rfl v69_32_0); unfold In at a2; have a3 := (inv_F hIc69 (-1) 4000 rfl v69_32_4); unfold In at a3; have a4 := i80; unfold In at a4; have a5 := j69_5; unfold In at a5; have a6 := i105; unfold In at a6; have a7 := t_add e105 i80 (in_c 1 rfl) rfl; have a8 := (in_c 1 rfl); unfold In at a8; have a9 := i78; unfold In at a9; have a10 := t_add e78 j69_4 (in_c 1 rfl) rfl; omega
            exact gg_w (by omega) (gg_f (gf_cons rfl (gf_cons rfl (gf_cons rfl (gf_cons rfl (gf_cons rfl (gf_cons rfl (gf_cons rfl gf_nil))))))) (ih69 (sL sc69 88 z98.toNatClampNeg z103) y69_5 y69_6 z105 w69_32_4 w69_32_0 hI104 (fr_sL rfl hFc69) (in_w 0 31 j69_4 rfl) (in_w (-160) 160 j69_5 rfl) (in_w 0 160 i105 rfl) v69 v69a n69 (m_up mm69 (t_add e105 i80 (in_c 1 rfl) rfl) (in_w 1 1 (in_c 1 rfl) rfl))))
      refine g_iload 15 (gd rfl) rfl rfl ?_
      refine g_aload_n 16 (gd rfl) rfl rfl ?_
      refine g_getI 19 (gd rfl) rfl rfl rfl (fun z16 e16 => ?_)
      have q16 : u_32_1 = z16 := (fr_F e_32_1 hFc13 rfl).trans e16.symm
      subst q16
      refine g_cmp_ge 22 134 (gd rfl) rfl rfl (fun c19 => ?_) (fun c19 => ?_)
      · skip
        refine g_iconst 0 135 (gd rfl) rfl rfl ?_
        refine g_istore 137 (gd rfl) rfl (Nat.le_of_ble_eq_true rfl) ?_
        have n137 : (w13_32_4).toInt = (w13_32_0).toInt := by have a0 := ro_32_1; unfold In at a0; have a1 := (inv_F hIc13 0 4000 rfl v13_32_0); unfold In at a1; have a2 := (inv_F hIc13 (-1) 4000 rfl v13_32_4); unfold In at a2; have a3 := j13_4; unfold In at a3; have a4 := (in_c 0 rfl); unfold In at a4; omega
        exact gg_w (by omega) (gg_f (gf_cons rfl (gf_cons rfl (gf_cons rfl (gf_cons rfl gf_nil)))) (ct137 33 sc13 y13_2 (Int32.ofInt 0) w13_32_4 w13_32_0 hIc13 hFc13 (in_w 0 32 (in_c 0 rfl) rfl) v13_32_4 v13_32_0 n137 (m_in 33 (in_w 0 32 (in_c 0 rfl) rfl) rfl)))
      · skip
        have i19 := r_lt1 0 31 c19 j13_4 ro_32_1 rfl
        have i19a := r_lt2 1 32 c19 j13_4 ro_32_1 rfl
        refine g_aload_n 23 (gd rfl) rfl rfl ?_
        refine g_iload 25 (gd rfl) rfl rfl ?_
        refine g_callv (X := _) (As := [.int y13_4]) (r := []) (b := A 32) (q := 32) 28 (gd rfl) rfl rfl rfl rfl rfl (ww_o rfl) (Nat.le_of_ble_eq_true rfl) (mc := 0) (ms := 0) (Nat.zero_le _) (Nat.zero_le _) (P := fun v u => _) ?_ (fun e u h => h) (fun v u h => h)
        intro po25 xx25 hp25 hx25
        refine g_enter2 (k := 103) (N := 300) (by omega) rfl (Nat.le_of_ble_eq_true rfl) ?_
        refine g_aload_n 1 (gd rfl) rfl rfl ?_
        refine g_getA (q2 := 42) 4 (gd rfl) rfl rfl rfl rfl ?_
        refine g_iload_n 5 (gd rfl) rfl rfl ?_
        refine g_iconst 1 6 (gd rfl) rfl rfl ?_
        refine g_iadd 7 (gd rfl) rfl (fun z25x6 e25x6 => ?_)
        have i25x6 := in_add 1 32 e25x6 i19 (in_c 1 rfl) rfl rfl
        refine g_iaload 8 (gd rfl) rfl (n := 33) rfl (in_ix i25x6 rfl) (fun z25x7 e25x7 => ?_)
        have i25x7 := inv_I hIc13 (n := 33) (t := 0) 0 160 rfl (in_ix i25x6 rfl) rfl e25x7
        refine g_aload_n 9 (gd rfl) rfl rfl ?_
        refine g_getA (q2 := 42) 12 (gd rfl) rfl rfl rfl rfl ?_
        refine g_iload_n 13 (gd rfl) rfl rfl ?_
        refine g_iaload 14 (gd rfl) rfl (n := 33) rfl (in_ix i19 rfl) (fun z25x13 e25x13 => ?_)
        have i25x13 := inv_I hIc13 (n := 33) (t := 0) 0 160 rfl (in_ix i19 rfl) rfl e25x13
        refine g_isub 15 (gd rfl) rfl (fun z25x14 e25x14 => ?_)
        have i25x14 := in_sub (-160) 160 e25x14 i25x7 i25x13 rfl rfl
        refine g_ireturn (gd rfl) rfl rfl (hp25 _ _ ?_)
        show GG _ _ _ _ _ _ _ _ [.int z25x14] _ _ _
        refine g_istore 30 (gd rfl) rfl (Nat.le_of_ble_eq_true rfl) ?_
        refine g_iload 32 (gd rfl) rfl rfl ?_
        refine g_if_ne 35 39 (gd rfl) rfl rfl (fun c32 => ?_) (fun c32 => ?_)
        · skip
          refine g_aload_n 40 (gd rfl) rfl rfl ?_
          refine g_getA (q2 := 87) 43 (gd rfl) rfl rfl rfl rfl ?_
          refine g_iload 45 (gd rfl) rfl rfl ?_
          refine g_laload 46 (gd rfl) rfl (n := 32) rfl (in_ix i19 rfl) (fun z45 e45 => ?_)
          refine g_ldc2_w 85 49 (gd rfl) rfl rfl ?_
          refine g_lmul 50 (gd rfl) rfl (fun z49 e49 => ?_)
          refine g_ldc2_w 100 53 (gd rfl) rfl rfl ?_
          refine g_iload 55 (gd rfl) rfl rfl ?_
          refine g_i2l 56 (gd rfl) rfl (fun z55 e55 => ?_)
          have i55 := l_i e55 i25x14
          refine g_lmul 57 (gd rfl) rfl (fun z56 e56 => ?_)
          have i56 := l_mulc 100 (-16000) 16000 (Or.inl e56) i55 rfl
          have nz57 : (z56).toInt ≠ 0 := by exact l_nz100 e56 e55 (by have a0 := i19a; unfold In at a0; have a1 := (inv_F hIc13 0 4000 rfl v13_32_0); unfold In at a1; have a2 := (inv_F hIc13 (-1) 4000 rfl v13_32_4); unfold In at a2; have a3 := i19; unfold In at a3; have a4 := i25x14; unfold In at a4; have a5 := t_sub e25x14 i25x7 i25x13 rfl; have a6 := i25x13; unfold In at a6; have a7 := i25x7; unfold In at a7; have a8 := tx_i2l e55; have a9 := i25x6; unfold In at a9; have a10 := t_add e25x6 i19 (in_c 1 rfl) rfl; have a11 := (in_c 1 rfl); unfold In at a11; omega) (by have a0 := i19a; unfold In at a0; have a1 := (inv_F hIc13 0 4000 rfl v13_32_0); unfold In at a1; have a2 := (inv_F hIc13 (-1) 4000 rfl v13_32_4); unfold In at a2; have a3 := i19; unfold In at a3; have a4 := i25x14; unfold In at a4; have a5 := t_sub e25x14 i25x7 i25x13 rfl; have a6 := i25x13; unfold In at a6; have a7 := i25x7; unfold In at a7; have a8 := tx_i2l e55; have a9 := i25x6; unfold In at a9; have a10 := t_add e25x6 i19 (in_c 1 rfl) rfl; have a11 := (in_c 1 rfl); unfold In at a11; omega) (by have a0 := i19a; unfold In at a0; have a1 := (inv_F hIc13 0 4000 rfl v13_32_0); unfold In at a1; have a2 := (inv_F hIc13 (-1) 4000 rfl v13_32_4); unfold In at a2; have a3 := i19; unfold In at a3; have a4 := i25x14; unfold In at a4; have a5 := t_sub e25x14 i25x7 i25x13 rfl; have a6 := i25x13; unfold In at a6; have a7 := i25x7; unfold In at a7; have a8 := tx_i2l e55; have a9 := i25x6; unfold In at a9; have a10 := t_add e25x6 i19 (in_c 1 rfl) rfl; have a11 := (in_c 1 rfl); unfold In at a11; omega)
          refine g_ldiv 58 (gd rfl) rfl (lnz nz57) (fun z57 e57 => ?_)
          refine g_lstore 60 (gd rfl) rfl (Nat.le_of_ble_eq_true rfl) ?_
          refine g_aload_n 61 (gd rfl) rfl rfl ?_
          refine g_getA (q2 := 42) 64 (gd rfl) rfl rfl rfl rfl ?_
          refine g_iload 66 (gd rfl) rfl rfl ?_
          refine g_iaload 67 (gd rfl) rfl (n := 33) rfl (in_ix i19 rfl) (fun z66 e66 => ?_)
          have q66 : z25x13 = z66 := (e25x13).trans e66.symm
          subst q66
          refine g_istore 69 (gd rfl) rfl (Nat.le_of_ble_eq_true rfl) ?_
          have n69 : (w13_32_4).toInt = (w13_32_0).toInt := by have a0 := i19a; unfold In at a0; have a1 := (inv_F hIc13 0 4000 rfl v13_32_0); unfold In at a1; have a2 := (inv_F hIc13 (-1) 4000 rfl v13_32_4); unfold In at a2; have a3 := i19; unfold In at a3; have a4 := i25x13; unfold In at a4; have a5 := i25x14; unfold In at a5; have a6 := t_sub e25x14 i25x7 i25x13 rfl; have a7 := i25x7; unfold In at a7; have a8 := tx_i2l e55; have a9 := i25x6; unfold In at a9; have a10 := t_add e25x6 i19 (in_c 1 rfl) rfl; have a11 := (in_c 1 rfl); unfold In at a11; omega
          exact gg_w (by omega) (gg_f (gf_cons rfl (gf_cons rfl (gf_cons rfl (gf_cons rfl (gf_cons rfl (gf_cons rfl (gf_cons rfl gf_nil))))))) (ct69 161 sc13 z25x14 z57 z25x13 w13_32_4 w13_32_0 hIc13 hFc13 (in_w 0 31 i19 rfl) (in_w (-160) 160 i25x14 rfl) (in_w 0 160 i25x13 rfl) v13_32_4 v13_32_0 n69 (m_in 161 (in_w 0 160 i25x13 rfl) rfl)))
        · skip
          have i32 := z_eq 0 0 c32 i25x14 rfl
          refine g_lconst 0 36 (gd rfl) rfl rfl ?_
          refine g_goto 58 (gd rfl) rfl ?_
          refine g_lstore 60 (gd rfl) rfl (Nat.le_of_ble_eq_true rfl) ?_
          refine g_aload_n 61 (gd rfl) rfl rfl ?_
          refine g_getA (q2 := 42) 64 (gd rfl) rfl rfl rfl rfl ?_
          refine g_iload 66 (gd rfl) rfl rfl ?_
          refine g_iaload 67 (gd rfl) rfl (n := 33) rfl (in_ix i19 rfl) (fun z66 e66 => ?_)
          have q66 : z25x13 = z66 := (e25x13).trans e66.symm
          subst q66
          refine g_istore 69 (gd rfl) rfl (Nat.le_of_ble_eq_true rfl) ?_
          have n69 : (w13_32_4).toInt = (w13_32_0).toInt := by have a0 := i19a; unfold In at a0; have a1 := (inv_F hIc13 0 4000 rfl v13_32_0); unfold In at a1; have a2 := (inv_F hIc13 (-1) 4000 rfl v13_32_4); unfold In at a2; have a3 := i19; unfold In at a3; have a4 := i25x13; unfold In at a4; have a5 := i32; unfold In at a5; have a6 := t_sub e25x14 i25x7 i25x13 rfl; have a7 := i25x7; unfold In at a7; have a8 := i25x6; unfold In at a8; have a9 := t_add e25x6 i19 (in_c 1 rfl) rfl; have a10 := (in_c 1 rfl); unfold In at a10; omega
          exact gg_w (by omega) (gg_f (gf_cons rfl (gf_cons rfl (gf_cons rfl (gf_cons rfl (gf_cons rfl (gf_cons rfl (gf_cons rfl gf_nil))))))) (ct69 161 sc13 z25x14 (Int64.ofInt 0) z25x13 w13_32_4 w13_32_0 hIc13 hFc13 (in_w 0 31 i19 rfl) (in_w (-160) 160 i32 rfl) (in_w 0 160 i25x13 rfl) v13_32_4 v13_32_0 n69 (m_in 161 (in_w 0 160 i25x13 rfl) rfl)))
  refine g_enter2 (k := 110) (N := 4901435) (by omega) rfl (Nat.le_of_ble_eq_true rfl) ?_
  refine g_lconst 0 1 (gd rfl) rfl rfl ?_
  refine g_lstore_n 2 (gd rfl) rfl (Nat.le_of_ble_eq_true rfl) ?_
  refine g_aload_n 3 (gd rfl) rfl rfl ?_
  refine g_getA (q2 := 88) 6 (gd rfl) rfl rfl rfl rfl ?_
  refine g_lconst 0 7 (gd rfl) rfl rfl ?_
  refine g_calls (As := [.ref (A 88), .long (Int64.ofInt 0)]) (r := []) 10 (gd rfl) rfl rfl rfl rfl rfl (Nat.le_of_ble_eq_true rfl) (Nat.zero_le _) (Nat.zero_le _) (k_fillL 88 (by omega) hI (n := 32) rfl rfl rfl (l_rng (Int64.ofInt 0))) (fun v u h => ?_)
  obtain ⟨s7, hI7, hF7, rfl, rfl, fl7⟩ := h
  show GG _ _ _ _ _ _ _ _ [] _ _ _
  refine g_iconst 0 11 (gd rfl) rfl rfl ?_
  refine g_istore 13 (gd rfl) rfl (Nat.le_of_ble_eq_true rfl) ?_
  have v13 : u_32_4 = s7.2.2.1 32 4 := fr_F (e_32_4) hF7 rfl
  have v13a : u_32_0 = s7.2.2.1 32 0 := fr_F (e_32_0) hF7 rfl
  have n13 : (u_32_4).toInt = (u_32_0).toInt := by have a0 := ro_32_1; unfold In at a0; have a1 := (inv_F hI 0 4000 rfl e_32_0); unfold In at a1; have a2 := (inv_F hI (-1) 4000 rfl e_32_4); unfold In at a2; have a3 := (in_c 0 rfl); unfold In at a3; omega
  exact gg_w (by omega) (gg_f (gf_cons rfl (gf_cons rfl (gf_cons rfl (gf_cons rfl gf_nil)))) (ct13 33 s7 (Int64.ofInt 0) (Int32.ofInt 0) u_32_4 u_32_0 hI7 (fr_tr rfl fr_rf hF7) (in_w 0 32 (in_c 0 rfl) rfl) v13 v13a n13 (m_in 33 (in_w 0 32 (in_c 0 rfl) rfl) rfl)))

def fm_109_86_2 : FM := ([9, 10, 11, 12, 13, 14, 15], [87, 88], [(2, 4), (86, 0), (86, 1)], [])
/-- GraphHouse$Groups.unitsOf -/
theorem k_109_86_2 {Z : AmZ} {A : Nat → Nat} {s : GS} {ex : va_W} {d : Nat} {X : AmX} {x2 : Int32} {x3 : Int32} (hd : 4 ≤ d) (hI : Inv s) (h2 : In x2 0 31) (h3 : In x3 0 40) : GC Z d 109 [.ref (A 86), .ref (A 2), .int x2, .int x3] (WW Z A s ++ ex) 0 0 (fun v u => ∃ xa ya : Nat, ∃ t : GS, Inv t ∧ Fr fm_109_86_2 s t ∧ ∃ z : Int64, v = some (.long z) ∧ u = WW Z (a2 A xa ya) t ++ ex) X := by
  intro post xp hP hX
  obtain ⟨u_2_0, e_2_0⟩ : ∃ w, w = s.2.2.1 2 0 := ⟨_, rfl⟩
  have ro_2_0 := inv_F hI 0 4000 rfl e_2_0
  have ct46 : ∀ (k46 : Nat) (sc46 : GS) (xc46 : Nat) (yc46 : Nat) (w46_86_1 : Int32) (w46_2_4 : Int32) (w46_2_0 : Int32), Inv sc46 → Fr fm_109_86_2 s sc46 → (w46_86_1 = sc46.2.2.1 86 1) → (w46_2_4 = sc46.2.2.1 2 4) → (w46_2_0 = sc46.2.2.1 2 0) → ((w46_2_4).toInt = (w46_2_0).toInt) → 41 - (w46_86_1).toInt < (k46 : Int) → GG Z (d - 1) 109 post (gx xp) (1 + k46 * 900) 46 (fun j => xlook j [(0, .ref (A 86)), (1, .ref (A 2)), (2, .int x2), (3, .int x3)]) [] (WW Z (a2 A xc46 yc46) sc46 ++ ex) 0 0 := by
    intro k46
    induction k46 with
    | zero => intro sc46 xc46 yc46 w46_86_1 w46_2_4 w46_2_0 hIc46 hFc46 v46_86_1 v46_2_4 v46_2_0 n46_0 mm46; exfalso; have a0 := h3; unfold In at a0; have a1 := h2; unfold In at a1; have a2 := (inv_F hIc46 0 4000 rfl v46_2_0); unfold In at a2; have a3 := (inv_F hIc46 (-1) 4000 rfl v46_2_4); unfold In at a3; have a4 := (inv_F hIc46 0 40 rfl v46_86_1); unfold In at a4; omega
    | succ k46 ih46 =>
      intro sc46 xc46 yc46 w46_86_1 w46_2_4 w46_2_0 hIc46 hFc46 v46_86_1 v46_2_4 v46_2_0 n46_0 mm46
      refine gg_w (M := 1 + k46 * 900 + 900) (by omega) ?_
      refine g_aload_n 47 (gd rfl) rfl rfl ?_
      refine g_getI (A := (a2 A xc46 yc46)) (q := 86) 50 (gd rfl) rfl rfl rfl (fun z47 e47 => ?_)
      have q47 : w46_86_1 = z47 := (v46_86_1).trans e47.symm
      subst q47
      refine g_iload_n 51 (gd rfl) rfl rfl ?_
      refine g_cmp_ge 54 72 (gd rfl) rfl rfl (fun c51 => ?_) (fun c51 => ?_)
      · skip
        refine g_aload_n 73 (gd rfl) rfl rfl ?_
        refine g_getA (A := (a2 A xc46 yc46)) (q := 86) (q2 := 87) 76 (gd rfl) rfl rfl rfl rfl ?_
        refine g_iload_n 77 (gd rfl) rfl rfl ?_
        refine g_laload (A := (a2 A xc46 yc46)) (q := 87) 78 (gd rfl) rfl (n := 32) rfl (in_ix h2 rfl) (fun z77 e77 => ?_)
        exact g_lreturn (gd rfl) rfl (hP _ _ ⟨xc46, yc46, sc46, hIc46, hFc46, z77, rfl, rfl⟩)
      · skip
        have i51 := r_lt1 0 39 c51 (inv_F hIc46 0 40 rfl v46_86_1) h3 rfl
        have i51a := r_lt2 1 40 c51 (inv_F hIc46 0 40 rfl v46_86_1) h3 rfl
        refine g_aload_n 55 (gd rfl) rfl rfl ?_
        refine g_aload_n 56 (gd rfl) rfl rfl ?_
        have n56 : (w46_2_4).toInt = (w46_2_0).toInt := by have a0 := i51a; unfold In at a0; have a1 := h2; unfold In at a1; have a2 := (inv_F hIc46 0 4000 rfl v46_2_0); unfold In at a2; have a3 := (inv_F hIc46 (-1) 4000 rfl v46_2_4); unfold In at a3; have a4 := i51; unfold In at a4; omega
        refine g_callv (X := _) (As := [.ref (A 2)]) (r := []) (b := A 86) (q := 86) 59 (gd rfl) rfl rfl rfl rfl rfl (ww_o rfl) (Nat.le_of_ble_eq_true rfl) (Nat.zero_le _) (Nat.zero_le _) (k_110_86_2 (A := (a2 A xc46 yc46)) (by omega) hIc46 v46_2_4 v46_2_0 n56) (fun e u h => h) (fun v u h => ?_)
        obtain ⟨xa56, ya56, s56, hI56, hF56, rfl, rfl⟩ := h
        rw [a2_a2]
        show GG _ _ _ _ _ _ _ _ [] _ _ _
        refine g_aload_n 60 (gd rfl) rfl rfl ?_
        refine g_dup 61 (gd rfl) rfl rfl ?_
        refine g_getI (A := (a2 A xa56 ya56)) (q := 86) 64 (gd rfl) rfl rfl rfl (fun z61 e61 => ?_)
        have q61 : w46_86_1 = z61 := (fr_F (v46_86_1) hF56 rfl).trans e61.symm
        subst q61
        refine g_iconst 1 65 (gd rfl) rfl rfl ?_
        refine g_iadd 66 (gd rfl) rfl (fun z65 e65 => ?_)
        have i65 := in_add 1 40 e65 i51 (in_c 1 rfl) rfl rfl
        refine g_putI (A := (a2 A xa56 ya56)) (q := 86) 69 (gd rfl) rfl rfl rfl rfl ?_
        have hI66 := inv_sF (q := 86) (j := 1) hI56 rfl (in_w 0 40 i65 rfl)
        refine g_goto 46 (gd rfl) rfl ?_
        have v46 : z65 = (sF s56 86 1 z65).2.2.1 86 1 := sF_get
        have v46a : w46_2_4 = (sF s56 86 1 z65).2.2.1 2 4 := sF_ne rfl (fr_F (v46_2_4) hF56 rfl)
        have v46b : w46_2_0 = (sF s56 86 1 z65).2.2.1 2 0 := sF_ne rfl (fr_F (v46_2_0) hF56 rfl)
        have n46 : (w46_2_4).toInt = (w46_2_0).toInt := by have a0 := i51a; unfold In at a0; have a1 := h2; unfold In at a1; have a2 := (inv_F hIc46 0 4000 rfl v46_2_0); unfold In at a2; have a3 := (inv_F hIc46 (-1) 4000 rfl v46_2_4); unfold In at a3; have a4 := i51; unfold In at a4; have a5 := i65; unfold In at a5; have a6 := t_add e65 i51 (in_c 1 rfl) rfl; have a7 := (in_c 1 rfl); unfold In at a7; omega
        have m46 : 41 - (z65).toInt < ((k46 : Nat) : Int) := by have a0 := i51a; unfold In at a0; have a1 := h2; unfold In at a1; have a2 := (inv_F hIc46 0 4000 rfl v46_2_0); unfold In at a2; have a3 := (inv_F hIc46 (-1) 4000 rfl v46_2_4); unfold In at a3; have a4 := i51; unfold In at a4; have a5 := i65; unfold In at a5; have a6 := t_add e65 i51 (in_c 1 rfl) rfl; have a7 := (in_c 1 rfl); unfold In at a7; omega
        exact gg_w (by omega) (gg_f (gf_cons rfl (gf_cons rfl (gf_cons rfl (gf_cons rfl gf_nil)))) (ih46  (sF s56 86 1 z65) xa56 ya56 z65 w46_2_4 w46_2_0 hI66 (fr_sF rfl (fr_tr rfl hFc46 hF56)) v46 v46a v46b n46 m46))
  refine g_enter2 (k := 109) (N := 38701) (by omega) rfl (Nat.le_of_ble_eq_true rfl) ?_
  refine g_aload_n 1 (gd rfl) rfl rfl ?_
  refine g_getI 4 (gd rfl) rfl rfl rfl (fun z1 e1 => ?_)
  have i1 := inv_F hI (-1) 4000 rfl e1
  refine g_aload_n 5 (gd rfl) rfl rfl ?_
  refine g_getI 8 (gd rfl) rfl rfl rfl (fun z5 e5 => ?_)
  have q5 : u_2_0 = z5 := (e_2_0).trans e5.symm
  subst q5
  refine g_cmp_ne 11 19 (gd rfl) rfl rfl (fun c8 => ?_) (fun c8 => ?_)
  · skip
    refine g_aload_n 20 (gd rfl) rfl rfl ?_
    refine g_aload_n 21 (gd rfl) rfl rfl ?_
    refine g_getI 24 (gd rfl) rfl rfl rfl (fun z21 e21 => ?_)
    have q21 : u_2_0 = z21 := (e_2_0).trans e21.symm
    subst q21
    refine g_putI 27 (gd rfl) rfl rfl rfl rfl ?_
    have hI24 := inv_sF (q := 86) (j := 0) hI rfl (in_w (-1) 4000 ro_2_0 rfl)
    refine g_aload_n 28 (gd rfl) rfl rfl ?_
    refine g_iconst 0 29 (gd rfl) rfl rfl ?_
    refine g_putI 32 (gd rfl) rfl rfl rfl rfl ?_
    have hI29 := inv_sF (q := 86) (j := 1) hI24 rfl (in_w 0 40 (in_c 0 rfl) rfl)
    refine g_aload_n 33 (gd rfl) rfl rfl ?_
    refine g_getA (q2 := 87) 36 (gd rfl) rfl rfl rfl rfl ?_
    refine g_ldc2_w 1000000000000 39 (gd rfl) rfl rfl ?_
    refine g_calls (As := [.ref (A 87), .long (Int64.ofInt 1000000000000)]) (r := []) 42 (gd rfl) rfl rfl rfl rfl rfl (Nat.le_of_ble_eq_true rfl) (Nat.zero_le _) (Nat.zero_le _) (k_fillL 87 (by omega) hI29 (n := 32) rfl rfl rfl (l_rng (Int64.ofInt 1000000000000))) (fun v u h => ?_)
    obtain ⟨s39, hI39, hF39, rfl, rfl, fl39⟩ := h
    show GG _ _ _ _ _ _ _ _ [] _ _ _
    refine g_aload_n 43 (gd rfl) rfl rfl ?_
    refine g_callv (X := _) (As := []) (r := []) (b := A 2) (q := 2) 46 (gd rfl) rfl rfl rfl rfl rfl (ww_o rfl) (Nat.le_of_ble_eq_true rfl) (Nat.zero_le _) (Nat.zero_le _) (k_106_2 (by omega) hI39 ) (fun e u h => h) (fun v u h => ?_)
    obtain ⟨s43, hI43, hF43, n43, rfl, rfl⟩ := h
    obtain ⟨z43a, e43⟩ : ∃ w, w = s43.2.2.1 2 4 := ⟨_, rfl⟩
    have i43a := inv_F hI43 (-1) 4000 rfl e43
    rw [← (show z43a = s43.2.2.1 2 4 from e43)] at n43
    rw [← (show u_2_0 = s43.2.2.1 2 0 from fr_F (fr_F (s := (sF (sF s 86 0 u_2_0) 86 1 (Int32.ofInt 0))) (sF_ne rfl (sF_ne rfl (e_2_0))) hF39 rfl) hF43 rfl)] at n43
    show GG _ _ _ _ _ _ _ _ [] _ _ _
    rw [show WW Z A s43 ++ ex = WW Z (a2 A (A 87) (A 88)) s43 ++ ex from by rw [a2_id]]
    have v46 : (Int32.ofInt 0) = s43.2.2.1 86 1 := fr_F (fr_F (s := (sF (sF s 86 0 u_2_0) 86 1 (Int32.ofInt 0))) (sF_get) hF39 rfl) hF43 rfl
    have v46a : u_2_0 = s43.2.2.1 2 0 := fr_F (fr_F (s := (sF (sF s 86 0 u_2_0) 86 1 (Int32.ofInt 0))) (sF_ne rfl (sF_ne rfl (e_2_0))) hF39 rfl) hF43 rfl
    have n46 : (z43a).toInt = (u_2_0).toInt := by have a0 := ro_2_0; unfold In at a0; have a1 := h3; unfold In at a1; have a2 := h2; unfold In at a2; have a3 := i43a; unfold In at a3; have a4 := (in_c 0 rfl); unfold In at a4; omega
    have m46 : 41 - ((Int32.ofInt 0)).toInt < ((42 : Nat) : Int) := by have a0 := ro_2_0; unfold In at a0; have a1 := h3; unfold In at a1; have a2 := h2; unfold In at a2; have a3 := i43a; unfold In at a3; have a4 := (in_c 0 rfl); unfold In at a4; omega
    exact gg_w (by omega) (gg_f (gf_cons rfl (gf_cons rfl (gf_cons rfl (gf_cons rfl gf_nil)))) (ct46 42 s43 (A 87) (A 88) (Int32.ofInt 0) z43a u_2_0 hI43 (fr_tr rfl (fr_tr rfl (fr_sF rfl (fr_sF rfl fr_rf)) hF39) hF43) v46 e43 v46a n46 m46))
  · skip
    have i8 := r_eq1 0 4000 c8 i1 ro_2_0 rfl
    refine g_iload_n 12 (gd rfl) rfl rfl ?_
    refine g_aload_n 13 (gd rfl) rfl rfl ?_
    refine g_getI 16 (gd rfl) rfl rfl rfl (fun z13 e13 => ?_)
    have i13 := inv_F hI 0 40 rfl e13
    refine g_cmp_ge 19 42 (gd rfl) rfl rfl (fun c16 => ?_) (fun c16 => ?_)
    · skip
      refine g_aload_n 43 (gd rfl) rfl rfl ?_
      refine g_callv (X := _) (As := []) (r := []) (b := A 2) (q := 2) 46 (gd rfl) rfl rfl rfl rfl rfl (ww_o rfl) (Nat.le_of_ble_eq_true rfl) (Nat.zero_le _) (Nat.zero_le _) (k_106_2 (by omega) hI ) (fun e u h => h) (fun v u h => ?_)
      obtain ⟨s43, hI43, hF43, n43, rfl, rfl⟩ := h
      obtain ⟨z43a, e43⟩ : ∃ w, w = s43.2.2.1 2 4 := ⟨_, rfl⟩
      have i43a := inv_F hI43 (-1) 4000 rfl e43
      rw [← (show z43a = s43.2.2.1 2 4 from e43)] at n43
      rw [← (show u_2_0 = s43.2.2.1 2 0 from fr_F (e_2_0) hF43 rfl)] at n43
      show GG _ _ _ _ _ _ _ _ [] _ _ _
      rw [show WW Z A s43 ++ ex = WW Z (a2 A (A 87) (A 88)) s43 ++ ex from by rw [a2_id]]
      have v46 : z13 = s43.2.2.1 86 1 := fr_F (e13) hF43 rfl
      have v46a : u_2_0 = s43.2.2.1 2 0 := fr_F (e_2_0) hF43 rfl
      have n46 : (z43a).toInt = (u_2_0).toInt := by have a0 := ro_2_0; unfold In at a0; have a1 := h3; unfold In at a1; have a2 := h2; unfold In at a2; have a3 := i43a; unfold In at a3; have a4 := i13; unfold In at a4; have a5 := i8; unfold In at a5; omega
      have m46 : 41 - (z13).toInt < ((42 : Nat) : Int) := by have a0 := ro_2_0; unfold In at a0; have a1 := h3; unfold In at a1; have a2 := h2; unfold In at a2; have a3 := i43a; unfold In at a3; have a4 := i13; unfold In at a4; have a5 := i8; unfold In at a5; omega
      exact gg_w (by omega) (gg_f (gf_cons rfl (gf_cons rfl (gf_cons rfl (gf_cons rfl gf_nil)))) (ct46 42 s43 (A 87) (A 88) z13 z43a u_2_0 hI43 (fr_tr rfl fr_rf hF43) v46 e43 v46a n46 m46))
    · skip
      have i16 := r_lt1 0 39 c16 h3 i13 rfl
      have i16a := r_lt2 1 40 c16 h3 i13 rfl
      refine g_aload_n 20 (gd rfl) rfl rfl ?_
      refine g_aload_n 21 (gd rfl) rfl rfl ?_
      refine g_getI 24 (gd rfl) rfl rfl rfl (fun z21 e21 => ?_)
      have q21 : u_2_0 = z21 := (e_2_0).trans e21.symm
      subst q21
      refine g_putI 27 (gd rfl) rfl rfl rfl rfl ?_
      have hI24 := inv_sF (q := 86) (j := 0) hI rfl (in_w (-1) 4000 ro_2_0 rfl)
      refine g_aload_n 28 (gd rfl) rfl rfl ?_
      refine g_iconst 0 29 (gd rfl) rfl rfl ?_
      refine g_putI 32 (gd rfl) rfl rfl rfl rfl ?_
      have hI29 := inv_sF (q := 86) (j := 1) hI24 rfl (in_w 0 40 (in_c 0 rfl) rfl)
      refine g_aload_n 33 (gd rfl) rfl rfl ?_
      refine g_getA (q2 := 87) 36 (gd rfl) rfl rfl rfl rfl ?_
      refine g_ldc2_w 1000000000000 39 (gd rfl) rfl rfl ?_
      refine g_calls (As := [.ref (A 87), .long (Int64.ofInt 1000000000000)]) (r := []) 42 (gd rfl) rfl rfl rfl rfl rfl (Nat.le_of_ble_eq_true rfl) (Nat.zero_le _) (Nat.zero_le _) (k_fillL 87 (by omega) hI29 (n := 32) rfl rfl rfl (l_rng (Int64.ofInt 1000000000000))) (fun v u h => ?_)
      obtain ⟨s39, hI39, hF39, rfl, rfl, fl39⟩ := h
      show GG _ _ _ _ _ _ _ _ [] _ _ _
      refine g_aload_n 43 (gd rfl) rfl rfl ?_
      refine g_callv (X := _) (As := []) (r := []) (b := A 2) (q := 2) 46 (gd rfl) rfl rfl rfl rfl rfl (ww_o rfl) (Nat.le_of_ble_eq_true rfl) (Nat.zero_le _) (Nat.zero_le _) (k_106_2 (by omega) hI39 ) (fun e u h => h) (fun v u h => ?_)
      obtain ⟨s43, hI43, hF43, n43, rfl, rfl⟩ := h
      obtain ⟨z43a, e43⟩ : ∃ w, w = s43.2.2.1 2 4 := ⟨_, rfl⟩
      have i43a := inv_F hI43 (-1) 4000 rfl e43
      rw [← (show z43a = s43.2.2.1 2 4 from e43)] at n43
      rw [← (show u_2_0 = s43.2.2.1 2 0 from fr_F (fr_F (s := (sF (sF s 86 0 u_2_0) 86 1 (Int32.ofInt 0))) (sF_ne rfl (sF_ne rfl (e_2_0))) hF39 rfl) hF43 rfl)] at n43
      show GG _ _ _ _ _ _ _ _ [] _ _ _
      rw [show WW Z A s43 ++ ex = WW Z (a2 A (A 87) (A 88)) s43 ++ ex from by rw [a2_id]]
      have v46 : (Int32.ofInt 0) = s43.2.2.1 86 1 := fr_F (fr_F (s := (sF (sF s 86 0 u_2_0) 86 1 (Int32.ofInt 0))) (sF_get) hF39 rfl) hF43 rfl
      have v46a : u_2_0 = s43.2.2.1 2 0 := fr_F (fr_F (s := (sF (sF s 86 0 u_2_0) 86 1 (Int32.ofInt 0))) (sF_ne rfl (sF_ne rfl (e_2_0))) hF39 rfl) hF43 rfl
      have n46 : (z43a).toInt = (u_2_0).toInt := by have a0 := ro_2_0; unfold In at a0; have a1 := i16; unfold In at a1; have a2 := h2; unfold In at a2; have a3 := i43a; unfold In at a3; have a4 := (in_c 0 rfl); unfold In at a4; omega
      have m46 : 41 - ((Int32.ofInt 0)).toInt < ((42 : Nat) : Int) := by have a0 := ro_2_0; unfold In at a0; have a1 := i16; unfold In at a1; have a2 := h2; unfold In at a2; have a3 := i43a; unfold In at a3; have a4 := (in_c 0 rfl); unfold In at a4; omega
      exact gg_w (by omega) (gg_f (gf_cons rfl (gf_cons rfl (gf_cons rfl (gf_cons rfl gf_nil)))) (ct46 42 s43 (A 87) (A 88) (Int32.ofInt 0) z43a u_2_0 hI43 (fr_tr rfl (fr_tr rfl (fr_sF rfl (fr_sF rfl fr_rf)) hF39) hF43) v46 e43 v46a n46 m46))

def fm_109_86_32 : FM := ([39, 40, 41, 42, 43, 44, 45], [87, 88], [(32, 4), (86, 0), (86, 1)], [])
/-- GraphHouse$Groups.unitsOf -/
theorem k_109_86_32 {Z : AmZ} {A : Nat → Nat} {s : GS} {ex : va_W} {d : Nat} {X : AmX} {x2 : Int32} {x3 : Int32} (hd : 4 ≤ d) (hI : Inv s) (h2 : In x2 0 31) (h3 : In x3 0 40) : GC Z d 109 [.ref (A 86), .ref (A 32), .int x2, .int x3] (WW Z A s ++ ex) 0 0 (fun v u => ∃ xa ya : Nat, ∃ t : GS, Inv t ∧ Fr fm_109_86_32 s t ∧ ∃ z : Int64, v = some (.long z) ∧ u = WW Z (a2 A xa ya) t ++ ex) X := by
  intro post xp hP hX
  obtain ⟨u_32_0, e_32_0⟩ : ∃ w, w = s.2.2.1 32 0 := ⟨_, rfl⟩
  have ro_32_0 := inv_F hI 0 4000 rfl e_32_0
  have ct46 : ∀ (k46 : Nat) (sc46 : GS) (xc46 : Nat) (yc46 : Nat) (w46_86_1 : Int32) (w46_32_4 : Int32) (w46_32_0 : Int32), Inv sc46 → Fr fm_109_86_32 s sc46 → (w46_86_1 = sc46.2.2.1 86 1) → (w46_32_4 = sc46.2.2.1 32 4) → (w46_32_0 = sc46.2.2.1 32 0) → ((w46_32_4).toInt = (w46_32_0).toInt) → 41 - (w46_86_1).toInt < (k46 : Int) → GG Z (d - 1) 109 post (gx xp) (1 + k46 * 900) 46 (fun j => xlook j [(0, .ref (A 86)), (1, .ref (A 32)), (2, .int x2), (3, .int x3)]) [] (WW Z (a2 A xc46 yc46) sc46 ++ ex) 0 0 := by
    intro k46
    induction k46 with
    | zero => intro sc46 xc46 yc46 w46_86_1 w46_32_4 w46_32_0 hIc46 hFc46 v46_86_1 v46_32_4 v46_32_0 n46_0 mm46; exfalso; have a0 := h3; unfold In at a0; have a1 := h2; unfold In at a1; have a2 := (inv_F hIc46 0 4000 rfl v46_32_0); unfold In at a2; have a3 := (inv_F hIc46 (-1) 4000 rfl v46_32_4); unfold In at a3; have a4 := (inv_F hIc46 0 40 rfl v46_86_1); unfold In at a4; omega
    | succ k46 ih46 =>
      intro sc46 xc46 yc46 w46_86_1 w46_32_4 w46_32_0 hIc46 hFc46 v46_86_1 v46_32_4 v46_32_0 n46_0 mm46
      refine gg_w (M := 1 + k46 * 900 + 900) (by omega) ?_
      refine g_aload_n 47 (gd rfl) rfl rfl ?_
      refine g_getI (A := (a2 A xc46 yc46)) (q := 86) 50 (gd rfl) rfl rfl rfl (fun z47 e47 => ?_)
      have q47 : w46_86_1 = z47 := (v46_86_1).trans e47.symm
      subst q47
      refine g_iload_n 51 (gd rfl) rfl rfl ?_
      refine g_cmp_ge 54 72 (gd rfl) rfl rfl (fun c51 => ?_) (fun c51 => ?_)
      · skip
        refine g_aload_n 73 (gd rfl) rfl rfl ?_
        refine g_getA (A := (a2 A xc46 yc46)) (q := 86) (q2 := 87) 76 (gd rfl) rfl rfl rfl rfl ?_
        refine g_iload_n 77 (gd rfl) rfl rfl ?_
        refine g_laload (A := (a2 A xc46 yc46)) (q := 87) 78 (gd rfl) rfl (n := 32) rfl (in_ix h2 rfl) (fun z77 e77 => ?_)
        exact g_lreturn (gd rfl) rfl (hP _ _ ⟨xc46, yc46, sc46, hIc46, hFc46, z77, rfl, rfl⟩)
      · skip
        have i51 := r_lt1 0 39 c51 (inv_F hIc46 0 40 rfl v46_86_1) h3 rfl
        have i51a := r_lt2 1 40 c51 (inv_F hIc46 0 40 rfl v46_86_1) h3 rfl
        refine g_aload_n 55 (gd rfl) rfl rfl ?_
        refine g_aload_n 56 (gd rfl) rfl rfl ?_
        have n56 : (w46_32_4).toInt = (w46_32_0).toInt := by have a0 := i51a; unfold In at a0; have a1 := h2; unfold In at a1; have a2 := (inv_F hIc46 0 4000 rfl v46_32_0); unfold In at a2; have a3 := (inv_F hIc46 (-1) 4000 rfl v46_32_4); unfold In at a3; have a4 := i51; unfold In at a4; omega
        refine g_callv (X := _) (As := [.ref (A 32)]) (r := []) (b := A 86) (q := 86) 59 (gd rfl) rfl rfl rfl rfl rfl (ww_o rfl) (Nat.le_of_ble_eq_true rfl) (Nat.zero_le _) (Nat.zero_le _) (k_110_86_32 (A := (a2 A xc46 yc46)) (by omega) hIc46 v46_32_4 v46_32_0 n56) (fun e u h => h) (fun v u h => ?_)
        obtain ⟨xa56, ya56, s56, hI56, hF56, rfl, rfl⟩ := h
        rw [a2_a2]
        show GG _ _ _ _ _ _ _ _ [] _ _ _
        refine g_aload_n 60 (gd rfl) rfl rfl ?_
        refine g_dup 61 (gd rfl) rfl rfl ?_
        refine g_getI (A := (a2 A xa56 ya56)) (q := 86) 64 (gd rfl) rfl rfl rfl (fun z61 e61 => ?_)
        have q61 : w46_86_1 = z61 := (fr_F (v46_86_1) hF56 rfl).trans e61.symm
        subst q61
        refine g_iconst 1 65 (gd rfl) rfl rfl ?_
        refine g_iadd 66 (gd rfl) rfl (fun z65 e65 => ?_)
        have i65 := in_add 1 40 e65 i51 (in_c 1 rfl) rfl rfl
        refine g_putI (A := (a2 A xa56 ya56)) (q := 86) 69 (gd rfl) rfl rfl rfl rfl ?_
        have hI66 := inv_sF (q := 86) (j := 1) hI56 rfl (in_w 0 40 i65 rfl)
        refine g_goto 46 (gd rfl) rfl ?_
        have v46 : z65 = (sF s56 86 1 z65).2.2.1 86 1 := sF_get
        have v46a : w46_32_4 = (sF s56 86 1 z65).2.2.1 32 4 := sF_ne rfl (fr_F (v46_32_4) hF56 rfl)
        have v46b : w46_32_0 = (sF s56 86 1 z65).2.2.1 32 0 := sF_ne rfl (fr_F (v46_32_0) hF56 rfl)
        have n46 : (w46_32_4).toInt = (w46_32_0).toInt := by have a0 := i51a; unfold In at a0; have a1 := h2; unfold In at a1; have a2 := (inv_F hIc46 0 4000 rfl v46_32_0); unfold In at a2; have a3 := (inv_F hIc46 (-1) 4000 rfl v46_32_4); unfold In at a3; have a4 := i51; unfold In at a4; have a5 := i65; unfold In at a5; have a6 := t_add e65 i51 (in_c 1 rfl) rfl; have a7 := (in_c 1 rfl); unfold In at a7; omega
        have m46 : 41 - (z65).toInt < ((k46 : Nat) : Int) := by have a0 := i51a; unfold In at a0; have a1 := h2; unfold In at a1; have a2 := (inv_F hIc46 0 4000 rfl v46_32_0); unfold In at a2; have a3 := (inv_F hIc46 (-1) 4000 rfl v46_32_4); unfold In at a3; have a4 := i51; unfold In at a4; have a5 := i65; unfold In at a5; have a6 := t_add e65 i51 (in_c 1 rfl) rfl; have a7 := (in_c 1 rfl); unfold In at a7; omega
        exact gg_w (by omega) (gg_f (gf_cons rfl (gf_cons rfl (gf_cons rfl (gf_cons rfl gf_nil)))) (ih46  (sF s56 86 1 z65) xa56 ya56 z65 w46_32_4 w46_32_0 hI66 (fr_sF rfl (fr_tr rfl hFc46 hF56)) v46 v46a v46b n46 m46))
  refine g_enter2 (k := 109) (N := 38701) (by omega) rfl (Nat.le_of_ble_eq_true rfl) ?_
  refine g_aload_n 1 (gd rfl) rfl rfl ?_
  refine g_getI 4 (gd rfl) rfl rfl rfl (fun z1 e1 => ?_)
  have i1 := inv_F hI (-1) 4000 rfl e1
  refine g_aload_n 5 (gd rfl) rfl rfl ?_
  refine g_getI 8 (gd rfl) rfl rfl rfl (fun z5 e5 => ?_)
  have q5 : u_32_0 = z5 := (e_32_0).trans e5.symm
  subst q5
  refine g_cmp_ne 11 19 (gd rfl) rfl rfl (fun c8 => ?_) (fun c8 => ?_)
  · skip
    refine g_aload_n 20 (gd rfl) rfl rfl ?_
    refine g_aload_n 21 (gd rfl) rfl rfl ?_
    refine g_getI 24 (gd rfl) rfl rfl rfl (fun z21 e21 => ?_)
    have q21 : u_32_0 = z21 := (e_32_0).trans e21.symm
    subst q21
    refine g_putI 27 (gd rfl) rfl rfl rfl rfl ?_
    have hI24 := inv_sF (q := 86) (j := 0) hI rfl (in_w (-1) 4000 ro_32_0 rfl)
    refine g_aload_n 28 (gd rfl) rfl rfl ?_
    refine g_iconst 0 29 (gd rfl) rfl rfl ?_
    refine g_putI 32 (gd rfl) rfl rfl rfl rfl ?_
    have hI29 := inv_sF (q := 86) (j := 1) hI24 rfl (in_w 0 40 (in_c 0 rfl) rfl)
    refine g_aload_n 33 (gd rfl) rfl rfl ?_
    refine g_getA (q2 := 87) 36 (gd rfl) rfl rfl rfl rfl ?_
    refine g_ldc2_w 1000000000000 39 (gd rfl) rfl rfl ?_
    refine g_calls (As := [.ref (A 87), .long (Int64.ofInt 1000000000000)]) (r := []) 42 (gd rfl) rfl rfl rfl rfl rfl (Nat.le_of_ble_eq_true rfl) (Nat.zero_le _) (Nat.zero_le _) (k_fillL 87 (by omega) hI29 (n := 32) rfl rfl rfl (l_rng (Int64.ofInt 1000000000000))) (fun v u h => ?_)
    obtain ⟨s39, hI39, hF39, rfl, rfl, fl39⟩ := h
    show GG _ _ _ _ _ _ _ _ [] _ _ _
    refine g_aload_n 43 (gd rfl) rfl rfl ?_
    refine g_callv (X := _) (As := []) (r := []) (b := A 32) (q := 32) 46 (gd rfl) rfl rfl rfl rfl rfl (ww_o rfl) (Nat.le_of_ble_eq_true rfl) (Nat.zero_le _) (Nat.zero_le _) (k_106_32 (by omega) hI39 ) (fun e u h => h) (fun v u h => ?_)
    obtain ⟨s43, hI43, hF43, n43, rfl, rfl⟩ := h
    obtain ⟨z43a, e43⟩ : ∃ w, w = s43.2.2.1 32 4 := ⟨_, rfl⟩
    have i43a := inv_F hI43 (-1) 4000 rfl e43
    rw [← (show z43a = s43.2.2.1 32 4 from e43)] at n43
    rw [← (show u_32_0 = s43.2.2.1 32 0 from fr_F (fr_F (s := (sF (sF s 86 0 u_32_0) 86 1 (Int32.ofInt 0))) (sF_ne rfl (sF_ne rfl (e_32_0))) hF39 rfl) hF43 rfl)] at n43
    show GG _ _ _ _ _ _ _ _ [] _ _ _
    rw [show WW Z A s43 ++ ex = WW Z (a2 A (A 87) (A 88)) s43 ++ ex from by rw [a2_id]]
    have v46 : (Int32.ofInt 0) = s43.2.2.1 86 1 := fr_F (fr_F (s := (sF (sF s 86 0 u_32_0) 86 1 (Int32.ofInt 0))) (sF_get) hF39 rfl) hF43 rfl
    have v46a : u_32_0 = s43.2.2.1 32 0 := fr_F (fr_F (s := (sF (sF s 86 0 u_32_0) 86 1 (Int32.ofInt 0))) (sF_ne rfl (sF_ne rfl (e_32_0))) hF39 rfl) hF43 rfl
    have n46 : (z43a).toInt = (u_32_0).toInt := by have a0 := ro_32_0; unfold In at a0; have a1 := h3; unfold In at a1; have a2 := h2; unfold In at a2; have a3 := i43a; unfold In at a3; have a4 := (in_c 0 rfl); unfold In at a4; omega
    have m46 : 41 - ((Int32.ofInt 0)).toInt < ((42 : Nat) : Int) := by have a0 := ro_32_0; unfold In at a0; have a1 := h3; unfold In at a1; have a2 := h2; unfold In at a2; have a3 := i43a; unfold In at a3; have a4 := (in_c 0 rfl); unfold In at a4; omega
    exact gg_w (by omega) (gg_f (gf_cons rfl (gf_cons rfl (gf_cons rfl (gf_cons rfl gf_nil)))) (ct46 42 s43 (A 87) (A 88) (Int32.ofInt 0) z43a u_32_0 hI43 (fr_tr rfl (fr_tr rfl (fr_sF rfl (fr_sF rfl fr_rf)) hF39) hF43) v46 e43 v46a n46 m46))
  · skip
    have i8 := r_eq1 0 4000 c8 i1 ro_32_0 rfl
    refine g_iload_n 12 (gd rfl) rfl rfl ?_
    refine g_aload_n 13 (gd rfl) rfl rfl ?_
    refine g_getI 16 (gd rfl) rfl rfl rfl (fun z13 e13 => ?_)
    have i13 := inv_F hI 0 40 rfl e13
    refine g_cmp_ge 19 42 (gd rfl) rfl rfl (fun c16 => ?_) (fun c16 => ?_)
    · skip
      refine g_aload_n 43 (gd rfl) rfl rfl ?_
      refine g_callv (X := _) (As := []) (r := []) (b := A 32) (q := 32) 46 (gd rfl) rfl rfl rfl rfl rfl (ww_o rfl) (Nat.le_of_ble_eq_true rfl) (Nat.zero_le _) (Nat.zero_le _) (k_106_32 (by omega) hI ) (fun e u h => h) (fun v u h => ?_)
      obtain ⟨s43, hI43, hF43, n43, rfl, rfl⟩ := h
      obtain ⟨z43a, e43⟩ : ∃ w, w = s43.2.2.1 32 4 := ⟨_, rfl⟩
      have i43a := inv_F hI43 (-1) 4000 rfl e43
      rw [← (show z43a = s43.2.2.1 32 4 from e43)] at n43
      rw [← (show u_32_0 = s43.2.2.1 32 0 from fr_F (e_32_0) hF43 rfl)] at n43
      show GG _ _ _ _ _ _ _ _ [] _ _ _
      rw [show WW Z A s43 ++ ex = WW Z (a2 A (A 87) (A 88)) s43 ++ ex from by rw [a2_id]]
      have v46 : z13 = s43.2.2.1 86 1 := fr_F (e13) hF43 rfl
      have v46a : u_32_0 = s43.2.2.1 32 0 := fr_F (e_32_0) hF43 rfl
      have n46 : (z43a).toInt = (u_32_0).toInt := by have a0 := ro_32_0; unfold In at a0; have a1 := h3; unfold In at a1; have a2 := h2; unfold In at a2; have a3 := i43a; unfold In at a3; have a4 := i13; unfold In at a4; have a5 := i8; unfold In at a5; omega
      have m46 : 41 - (z13).toInt < ((42 : Nat) : Int) := by have a0 := ro_32_0; unfold In at a0; have a1 := h3; unfold In at a1; have a2 := h2; unfold In at a2; have a3 := i43a; unfold In at a3; have a4 := i13; unfold In at a4; have a5 := i8; unfold In at a5; omega
      exact gg_w (by omega) (gg_f (gf_cons rfl (gf_cons rfl (gf_cons rfl (gf_cons rfl gf_nil)))) (ct46 42 s43 (A 87) (A 88) z13 z43a u_32_0 hI43 (fr_tr rfl fr_rf hF43) v46 e43 v46a n46 m46))
    · skip
      have i16 := r_lt1 0 39 c16 h3 i13 rfl
      have i16a := r_lt2 1 40 c16 h3 i13 rfl
      refine g_aload_n 20 (gd rfl) rfl rfl ?_
      refine g_aload_n 21 (gd rfl) rfl rfl ?_
      refine g_getI 24 (gd rfl) rfl rfl rfl (fun z21 e21 => ?_)
      have q21 : u_32_0 = z21 := (e_32_0).trans e21.symm
      subst q21
      refine g_putI 27 (gd rfl) rfl rfl rfl rfl ?_
      have hI24 := inv_sF (q := 86) (j := 0) hI rfl (in_w (-1) 4000 ro_32_0 rfl)
      refine g_aload_n 28 (gd rfl) rfl rfl ?_
      refine g_iconst 0 29 (gd rfl) rfl rfl ?_
      refine g_putI 32 (gd rfl) rfl rfl rfl rfl ?_
      have hI29 := inv_sF (q := 86) (j := 1) hI24 rfl (in_w 0 40 (in_c 0 rfl) rfl)
      refine g_aload_n 33 (gd rfl) rfl rfl ?_
      refine g_getA (q2 := 87) 36 (gd rfl) rfl rfl rfl rfl ?_
      refine g_ldc2_w 1000000000000 39 (gd rfl) rfl rfl ?_
      refine g_calls (As := [.ref (A 87), .long (Int64.ofInt 1000000000000)]) (r := []) 42 (gd rfl) rfl rfl rfl rfl rfl (Nat.le_of_ble_eq_true rfl) (Nat.zero_le _) (Nat.zero_le _) (k_fillL 87 (by omega) hI29 (n := 32) rfl rfl rfl (l_rng (Int64.ofInt 1000000000000))) (fun v u h => ?_)
      obtain ⟨s39, hI39, hF39, rfl, rfl, fl39⟩ := h
      show GG _ _ _ _ _ _ _ _ [] _ _ _
      refine g_aload_n 43 (gd rfl) rfl rfl ?_
      refine g_callv (X := _) (As := []) (r := []) (b := A 32) (q := 32) 46 (gd rfl) rfl rfl rfl rfl rfl (ww_o rfl) (Nat.le_of_ble_eq_true rfl) (Nat.zero_le _) (Nat.zero_le _) (k_106_32 (by omega) hI39 ) (fun e u h => h) (fun v u h => ?_)
      obtain ⟨s43, hI43, hF43, n43, rfl, rfl⟩ := h
      obtain ⟨z43a, e43⟩ : ∃ w, w = s43.2.2.1 32 4 := ⟨_, rfl⟩
      have i43a := inv_F hI43 (-1) 4000 rfl e43
      rw [← (show z43a = s43.2.2.1 32 4 from e43)] at n43
      rw [← (show u_32_0 = s43.2.2.1 32 0 from fr_F (fr_F (s := (sF (sF s 86 0 u_32_0) 86 1 (Int32.ofInt 0))) (sF_ne rfl (sF_ne rfl (e_32_0))) hF39 rfl) hF43 rfl)] at n43
      show GG _ _ _ _ _ _ _ _ [] _ _ _
      rw [show WW Z A s43 ++ ex = WW Z (a2 A (A 87) (A 88)) s43 ++ ex from by rw [a2_id]]
      have v46 : (Int32.ofInt 0) = s43.2.2.1 86 1 := fr_F (fr_F (s := (sF (sF s 86 0 u_32_0) 86 1 (Int32.ofInt 0))) (sF_get) hF39 rfl) hF43 rfl
      have v46a : u_32_0 = s43.2.2.1 32 0 := fr_F (fr_F (s := (sF (sF s 86 0 u_32_0) 86 1 (Int32.ofInt 0))) (sF_ne rfl (sF_ne rfl (e_32_0))) hF39 rfl) hF43 rfl
      have n46 : (z43a).toInt = (u_32_0).toInt := by have a0 := ro_32_0; unfold In at a0; have a1 := i16; unfold In at a1; have a2 := h2; unfold In at a2; have a3 := i43a; unfold In at a3; have a4 := (in_c 0 rfl); unfold In at a4; omega
      have m46 : 41 - ((Int32.ofInt 0)).toInt < ((42 : Nat) : Int) := by have a0 := ro_32_0; unfold In at a0; have a1 := i16; unfold In at a1; have a2 := h2; unfold In at a2; have a3 := i43a; unfold In at a3; have a4 := (in_c 0 rfl); unfold In at a4; omega
      exact gg_w (by omega) (gg_f (gf_cons rfl (gf_cons rfl (gf_cons rfl (gf_cons rfl gf_nil)))) (ct46 42 s43 (A 87) (A 88) (Int32.ofInt 0) z43a u_32_0 hI43 (fr_tr rfl (fr_tr rfl (fr_sF rfl (fr_sF rfl fr_rf)) hF39) hF43) v46 e43 v46a n46 m46))

def fm_131_1_32 : FM := ([33, 34, 35, 36, 37, 38], [], [(32, 0), (32, 1), (32, 2), (32, 3)], [])
/-- GraphHouse$Ledger.apply -/
theorem k_131_1_32 {Z : AmZ} {A : Nat → Nat} {s : GS} {ex : va_W} {d : Nat} {X : AmX} {u_32_0 : Int32} {u_32_1 : Int32} {u_30_0 : Int32} (hd : 4 ≤ d) (hI : Inv s) (e_32_0 : u_32_0 = s.2.2.1 32 0) (e_32_1 : u_32_1 = s.2.2.1 32 1) (e_30_0 : u_30_0 = s.2.2.1 30 0) (r_32_0 : In u_32_0 0 3999) (p_0 : 7 * (u_32_0).toInt + 7 ≤ (u_30_0).toInt) (q_0 : RW7 (s.1 30) (s.2.2.1 32 0).toInt.toNat) (q_1 : KV s 32) : GC Z d 131 [.ref (A 1), .ref (A 32)] (WW Z A s ++ ex) 0 0 (fun v u => ∃ t : GS, Inv t ∧ Fr fm_131_1_32 s t ∧ ((t.2.2.1 32 0).toInt = (s.2.2.1 32 0).toInt + 1) ∧ v = none ∧ u = WW Z A t ++ ex ∧ (KV t 32)) X := by
  intro post xp hP hX
  have ro_30_0 := inv_F hI 448 28000 rfl e_30_0
  refine g_enter2 (k := 131) (N := 900) (by omega) rfl (Nat.le_of_ble_eq_true rfl) ?_
  refine g_aload_n 1 (gd rfl) rfl rfl ?_
  refine g_getI 4 (gd rfl) rfl rfl rfl (fun z1 e1 => ?_)
  have q1 : u_32_0 = z1 := (e_32_0).trans e1.symm
  subst q1
  refine g_bipush 7 6 (gd rfl) rfl rfl ?_
  refine g_imul 7 (gd rfl) rfl (fun z6 e6 => ?_)
  have i6 := in_mulc 7 0 27993 (Or.inr e6) r_32_0 rfl rfl
  refine g_istore_n 8 (gd rfl) rfl (Nat.le_of_ble_eq_true rfl) ?_
  have hk : z6.toInt = 7 * (((s.2.2.1 32 0).toInt.toNat : Nat) : Int) := (by rw [← e_32_0]; have a0 := (rng_F hI.1 448 28000 rfl e_30_0); unfold In at a0; have a1 := (rng_F hI.1 0 32 rfl e_32_1); unfold In at a1; have a2 := r_32_0; unfold In at a2; have a3 := i6; unfold In at a3; have a4 := (t_mulc 7 (Or.inr e6) r_32_0 rfl).1; omega)
  refine g_aload_n 9 (gd rfl) rfl rfl ?_
  refine g_getA (q2 := 30) 12 (gd rfl) rfl rfl rfl rfl ?_
  refine g_iload_n 13 (gd rfl) rfl rfl ?_
  refine g_iconst 1 14 (gd rfl) rfl rfl ?_
  refine g_iadd 15 (gd rfl) rfl (fun z14 e14 => ?_)
  have i14 := in_add 1 27994 e14 i6 (in_c 1 rfl) rfl rfl
  have hx15 : vp_in z14 (s.2.2.1 30 0).toNatClampNeg := lg_in (by have a0 := (rng_F hI.1 448 28000 rfl e_30_0); unfold In at a0; have a1 := (rng_F hI.1 0 32 rfl e_32_1); unfold In at a1; have a2 := r_32_0; unfold In at a2; have a3 := i6; unfold In at a3; have a4 := (t_mulc 7 (Or.inr e6) r_32_0 rfl).1; have a5 := i14; unfold In at a5; have a6 := t_add e14 i6 (in_c 1 rfl) rfl; have a7 := (in_c 1 rfl); unfold In at a7; omega) (by rw [← (show u_30_0 = s.2.2.1 30 0 from e_30_0)]; have a0 := (rng_F hI.1 448 28000 rfl e_30_0); unfold In at a0; have a1 := (rng_F hI.1 0 32 rfl e_32_1); unfold In at a1; have a2 := r_32_0; unfold In at a2; have a3 := i6; unfold In at a3; have a4 := (t_mulc 7 (Or.inr e6) r_32_0 rfl).1; have a5 := i14; unfold In at a5; have a6 := t_add e14 i6 (in_c 1 rfl) rfl; have a7 := (in_c 1 rfl); unfold In at a7; omega)
  refine g_lgload 16 (gd rfl) rfl hx15 (fun z15 e15 => ?_)
  refine g_istore_n 17 (gd rfl) rfl (Nat.le_of_ble_eq_true rfl) ?_
  have hp : z15 = s.1 30 (7 * (s.2.2.1 32 0).toInt.toNat + 1) := rw7_v (c := 1) (by have a0 := (rng_F hI.1 448 28000 rfl e_30_0); unfold In at a0; have a1 := (rng_F hI.1 0 32 rfl e_32_1); unfold In at a1; have a2 := r_32_0; unfold In at a2; have a3 := i6; unfold In at a3; have a4 := (t_mulc 7 (Or.inr e6) r_32_0 rfl).1; have a5 := i14; unfold In at a5; have a6 := t_add e14 i6 (in_c 1 rfl) rfl; have a7 := (in_c 1 rfl); unfold In at a7; omega) e15
  refine g_aload_n 18 (gd rfl) rfl rfl ?_
  refine g_dup 19 (gd rfl) rfl rfl ?_
  refine g_getI 22 (gd rfl) rfl rfl rfl (fun z19 e19 => ?_)
  have q19 : u_32_0 = z19 := (e_32_0).trans e19.symm
  subst q19
  refine g_iconst 1 23 (gd rfl) rfl rfl ?_
  refine g_iadd 24 (gd rfl) rfl (fun z23 e23 => ?_)
  have i23 := in_add 1 4000 e23 r_32_0 (in_c 1 rfl) rfl rfl
  refine g_putI 27 (gd rfl) rfl rfl rfl rfl ?_
  have hI24 := rng_sF (q := 32) (j := 0) hI.1 rfl (in_w 0 4000 i23 rfl)
  refine g_aload_n 28 (gd rfl) rfl rfl ?_
  refine g_getA (q2 := 30) 31 (gd rfl) rfl rfl rfl rfl ?_
  refine g_iload_n 32 (gd rfl) rfl rfl ?_
  have hx32 : vp_in z6 ((sF s 32 0 z23).2.2.1 30 0).toNatClampNeg := lg_in (by have a0 := (rng_F hI.1 448 28000 rfl e_30_0); unfold In at a0; have a1 := (rng_F hI.1 0 32 rfl e_32_1); unfold In at a1; have a2 := r_32_0; unfold In at a2; have a3 := i6; unfold In at a3; have a4 := (t_mulc 7 (Or.inr e6) r_32_0 rfl).1; have a5 := i23; unfold In at a5; have a6 := t_add e23 r_32_0 (in_c 1 rfl) rfl; have a7 := (in_c 1 rfl); unfold In at a7; have a8 := i14; unfold In at a8; have a9 := t_add e14 i6 (in_c 1 rfl) rfl; omega) (by rw [← (show u_30_0 = (sF s 32 0 z23).2.2.1 30 0 from sF_ne rfl (e_30_0))]; have a0 := (rng_F hI.1 448 28000 rfl e_30_0); unfold In at a0; have a1 := (rng_F hI.1 0 32 rfl e_32_1); unfold In at a1; have a2 := r_32_0; unfold In at a2; have a3 := i6; unfold In at a3; have a4 := (t_mulc 7 (Or.inr e6) r_32_0 rfl).1; have a5 := i23; unfold In at a5; have a6 := t_add e23 r_32_0 (in_c 1 rfl) rfl; have a7 := (in_c 1 rfl); unfold In at a7; have a8 := i14; unfold In at a8; have a9 := t_add e14 i6 (in_c 1 rfl) rfl; omega)
  refine g_lgload 33 (gd rfl) rfl hx32 (fun z32 e32 => ?_)
  refine g_tsw [64, 91, 101, 109] 134 (gd rfl) rfl rfl rfl ⟨fun c33 => ?_, fun c33 => ?_, fun c33 => ?_, fun c33 => ?_, trivial⟩ (fun c33 => ?_)
  · skip
    have i33 := sw_eq c33
    have h32 : z32 = s.1 30 (7 * (s.2.2.1 32 0).toInt.toNat) := rw7_v (c := 0) (by have a0 := (rng_F hI.1 448 28000 rfl e_30_0); unfold In at a0; have a1 := (rng_F hI.1 0 32 rfl e_32_1); unfold In at a1; have a2 := r_32_0; unfold In at a2; have a3 := i6; unfold In at a3; have a4 := (t_mulc 7 (Or.inr e6) r_32_0 rfl).1; have a5 := i23; unfold In at a5; have a6 := t_add e23 r_32_0 (in_c 1 rfl) rfl; have a7 := (in_c 1 rfl); unfold In at a7; have a8 := i14; unfold In at a8; have a9 := t_add e14 i6 (in_c 1 rfl) rfl; omega) e32
    have hr := rw7_0 q_0 hk e32 c33
    have i64 : In z15 0 31 := by rw [hp]; have h1 := hr.1; have h2 := hr.2.1; exact ⟨by omega, by omega⟩
    have i64a : In u_32_1 0 31 := by have h1 := q_1.1; have h2 := hr.2.1; rw [e_32_1]; exact ⟨by omega, by omega⟩
    refine g_aload_n 65 (gd rfl) rfl rfl ?_
    refine g_getA (q2 := 33) 68 (gd rfl) rfl rfl rfl rfl ?_
    refine g_iload_n 69 (gd rfl) rfl rfl ?_
    refine g_aload_n 70 (gd rfl) rfl rfl ?_
    refine g_getA (q2 := 30) 73 (gd rfl) rfl rfl rfl rfl ?_
    refine g_iload_n 74 (gd rfl) rfl rfl ?_
    refine g_iconst 2 75 (gd rfl) rfl rfl ?_
    refine g_iadd 76 (gd rfl) rfl (fun z75 e75 => ?_)
    have i75 := in_add 2 27995 e75 i6 (in_c 2 rfl) rfl rfl
    have hx76 : vp_in z75 ((sF s 32 0 z23).2.2.1 30 0).toNatClampNeg := lg_in (by have a0 := (rng_F hI.1 448 28000 rfl e_30_0); unfold In at a0; have a1 := i64a; unfold In at a1; have a2 := r_32_0; unfold In at a2; have a3 := i64; unfold In at a3; have a4 := i6; unfold In at a4; have a5 := (t_mulc 7 (Or.inr e6) r_32_0 rfl).1; have a6 := i23; unfold In at a6; have a7 := t_add e23 r_32_0 (in_c 1 rfl) rfl; have a8 := (in_c 1 rfl); unfold In at a8; have a9 := i75; unfold In at a9; have a10 := t_add e75 i6 (in_c 2 rfl) rfl; have a11 := (in_c 2 rfl); unfold In at a11; have a12 := i14; unfold In at a12; have a13 := t_add e14 i6 (in_c 1 rfl) rfl; omega) (by rw [← (show u_30_0 = (sF s 32 0 z23).2.2.1 30 0 from sF_ne rfl (e_30_0))]; have a0 := (rng_F hI.1 448 28000 rfl e_30_0); unfold In at a0; have a1 := i64a; unfold In at a1; have a2 := r_32_0; unfold In at a2; have a3 := i64; unfold In at a3; have a4 := i6; unfold In at a4; have a5 := (t_mulc 7 (Or.inr e6) r_32_0 rfl).1; have a6 := i23; unfold In at a6; have a7 := t_add e23 r_32_0 (in_c 1 rfl) rfl; have a8 := (in_c 1 rfl); unfold In at a8; have a9 := i75; unfold In at a9; have a10 := t_add e75 i6 (in_c 2 rfl) rfl; have a11 := (in_c 2 rfl); unfold In at a11; have a12 := i14; unfold In at a12; have a13 := t_add e14 i6 (in_c 1 rfl) rfl; omega)
    refine g_lgload 77 (gd rfl) rfl hx76 (fun z76 e76 => ?_)
    have i77 : In z76 0 25 := by rw [rw7_v (k := (s.2.2.1 32 0).toInt.toNat) (c := 2) (by have a0 := (rng_F hI.1 448 28000 rfl e_30_0); unfold In at a0; have a1 := i64a; unfold In at a1; have a2 := r_32_0; unfold In at a2; have a3 := i64; unfold In at a3; have a4 := i6; unfold In at a4; have a5 := (t_mulc 7 (Or.inr e6) r_32_0 rfl).1; have a6 := i23; unfold In at a6; have a7 := t_add e23 r_32_0 (in_c 1 rfl) rfl; have a8 := (in_c 1 rfl); unfold In at a8; have a9 := i75; unfold In at a9; have a10 := t_add e75 i6 (in_c 2 rfl) rfl; have a11 := (in_c 2 rfl); unfold In at a11; have a12 := i14; unfold In at a12; have a13 := t_add e14 i6 (in_c 1 rfl) rfl; omega) e76]; exact hr.2.2
    refine g_iastore 78 (gd rfl) rfl (n := 32) rfl (in_ix i64 rfl) ?_
    have hI77 := rng_sI (q := 33) (j := z15.toNatClampNeg) hI24 rfl (in_w 0 25 i77 rfl)
    refine g_aload_n 79 (gd rfl) rfl rfl ?_
    refine g_dup 80 (gd rfl) rfl rfl ?_
    refine g_getI 83 (gd rfl) rfl rfl rfl (fun z80 e80 => ?_)
    have q80 : u_32_1 = z80 := (sI_F (sF_ne rfl (e_32_1))).trans e80.symm
    subst q80
    refine g_iconst 1 84 (gd rfl) rfl rfl ?_
    refine g_iadd 85 (gd rfl) rfl (fun z84 e84 => ?_)
    have i84 := in_add 1 32 e84 i64a (in_c 1 rfl) rfl rfl
    refine g_putI 88 (gd rfl) rfl rfl rfl rfl ?_
    have hI85 := rng_sF (q := 32) (j := 1) hI77 rfl (in_w 0 32 i84 rfl)
    refine g_goto 148 (gd rfl) rfl ?_
    have hI148 : Inv (sF (sI (sF s 32 0 z23) 33 z15.toNatClampNeg z76) 32 1 z84) := by have hFF : Fr fm_131_1_32 s (sF (sI (sF s 32 0 z23) 33 z15.toNatClampNeg z76) 32 1 z84) := (fr_sF rfl (fr_sI rfl (fr_sF rfl fr_rf))); exact ⟨hI85, kk_ap32 hI.2 hFF rfl (by rw [hFF.2.2.1 32 4 rfl, ← (show z23 = (sF (sI (sF s 32 0 z23) 33 z15.toNatClampNeg z76) 32 1 z84).2.2.1 32 0 from sF_ne rfl (sI_F (sF_get)))]; have hg := hI.2.2.1.1; rw [mF_at rfl, mF_at rfl, ← e_32_0] at hg; have a0 := (rng_F hI.1 448 28000 rfl e_30_0); unfold In at a0; have a1 := i64a; unfold In at a1; have a2 := r_32_0; unfold In at a2; have a3 := i64; unfold In at a3; have a4 := i6; unfold In at a4; have a5 := (t_mulc 7 (Or.inr e6) r_32_0 rfl).1; have a6 := i84; unfold In at a6; have a7 := t_add e84 i64a (in_c 1 rfl) rfl; have a8 := (in_c 1 rfl); unfold In at a8; have a9 := i23; unfold In at a9; have a10 := t_add e23 r_32_0 (in_c 1 rfl) rfl; have a11 := i75; unfold In at a11; have a12 := t_add e75 i6 (in_c 2 rfl) rfl; have a13 := (in_c 2 rfl); unfold In at a13; have a14 := i14; unfold In at a14; have a15 := t_add e14 i6 (in_c 1 rfl) rfl; omega)⟩
    have n148 : KV (sF (sI (sF s 32 0 z23) 33 z15.toNatClampNeg z76) 32 1 z84) 32 := by have hif : (if (s.1 30 (7 * (s.2.2.1 32 0).toInt.toNat)).toInt = 0 then (1 : Int) else 0) = 1 := if_pos (by rw [← h32]; exact c33); exact kv_st q_1 rfl (rng_F hI.1 0 4000 (q := 32) (j := 0) rfl rfl).1 (by rw [← (show z23 = (sF (sI (sF s 32 0 z23) 33 z15.toNatClampNeg z76) 32 1 z84).2.2.1 32 0 from sF_ne rfl (sI_F (sF_get))), ← e_32_0]; have a0 := (rng_F hI.1 448 28000 rfl e_30_0); unfold In at a0; have a1 := i64a; unfold In at a1; have a2 := r_32_0; unfold In at a2; have a3 := i64; unfold In at a3; have a4 := i6; unfold In at a4; have a5 := (t_mulc 7 (Or.inr e6) r_32_0 rfl).1; have a6 := i84; unfold In at a6; have a7 := t_add e84 i64a (in_c 1 rfl) rfl; have a8 := (in_c 1 rfl); unfold In at a8; have a9 := i23; unfold In at a9; have a10 := t_add e23 r_32_0 (in_c 1 rfl) rfl; have a11 := i75; unfold In at a11; have a12 := t_add e75 i6 (in_c 2 rfl) rfl; have a13 := (in_c 2 rfl); unfold In at a13; have a14 := i14; unfold In at a14; have a15 := t_add e14 i6 (in_c 1 rfl) rfl; omega) (by rw [hif, ← (show z84 = (sF (sI (sF s 32 0 z23) 33 z15.toNatClampNeg z76) 32 1 z84).2.2.1 32 1 from sF_get), ← e_32_1]; have a0 := (rng_F hI.1 448 28000 rfl e_30_0); unfold In at a0; have a1 := i64a; unfold In at a1; have a2 := r_32_0; unfold In at a2; have a3 := i64; unfold In at a3; have a4 := i6; unfold In at a4; have a5 := (t_mulc 7 (Or.inr e6) r_32_0 rfl).1; have a6 := i84; unfold In at a6; have a7 := t_add e84 i64a (in_c 1 rfl) rfl; have a8 := (in_c 1 rfl); unfold In at a8; have a9 := i23; unfold In at a9; have a10 := t_add e23 r_32_0 (in_c 1 rfl) rfl; have a11 := i75; unfold In at a11; have a12 := t_add e75 i6 (in_c 2 rfl) rfl; have a13 := (in_c 2 rfl); unfold In at a13; have a14 := i14; unfold In at a14; have a15 := t_add e14 i6 (in_c 1 rfl) rfl; omega) (kn_up q_1.2 (by rw [← (show z84 = (sF (sI (sF s 32 0 z23) 33 z15.toNatClampNeg z76) 32 1 z84).2.2.1 32 1 from sF_get), ← e_32_1]; have a0 := (rng_F hI.1 448 28000 rfl e_30_0); unfold In at a0; have a1 := i64a; unfold In at a1; have a2 := r_32_0; unfold In at a2; have a3 := i64; unfold In at a3; have a4 := i6; unfold In at a4; have a5 := (t_mulc 7 (Or.inr e6) r_32_0 rfl).1; have a6 := i84; unfold In at a6; have a7 := t_add e84 i64a (in_c 1 rfl) rfl; have a8 := (in_c 1 rfl); unfold In at a8; have a9 := i23; unfold In at a9; have a10 := t_add e23 r_32_0 (in_c 1 rfl) rfl; have a11 := i75; unfold In at a11; have a12 := t_add e75 i6 (in_c 2 rfl) rfl; have a13 := (in_c 2 rfl); unfold In at a13; have a14 := i14; unfold In at a14; have a15 := t_add e14 i6 (in_c 1 rfl) rfl; omega))
    have n148a : (z23).toInt = (u_32_0).toInt + 1 := by have a0 := (rng_F hI.1 448 28000 rfl e_30_0); unfold In at a0; have a1 := i64a; unfold In at a1; have a2 := r_32_0; unfold In at a2; have a3 := i64; unfold In at a3; have a4 := i6; unfold In at a4; have a5 := (t_mulc 7 (Or.inr e6) r_32_0 rfl).1; have a6 := i84; unfold In at a6; have a7 := t_add e84 i64a (in_c 1 rfl) rfl; have a8 := (in_c 1 rfl); unfold In at a8; have a9 := i23; unfold In at a9; have a10 := t_add e23 r_32_0 (in_c 1 rfl) rfl; have a11 := i75; unfold In at a11; have a12 := t_add e75 i6 (in_c 2 rfl) rfl; have a13 := (in_c 2 rfl); unfold In at a13; have a14 := i14; unfold In at a14; have a15 := t_add e14 i6 (in_c 1 rfl) rfl; omega
    have n148b : ((sF (sI (sF s 32 0 z23) 33 z15.toNatClampNeg z76) 32 1 z84).2.2.1 32 0).toInt = (s.2.2.1 32 0).toInt + 1 := by have b0 : z23 = (sF (sI (sF s 32 0 z23) 33 z15.toNatClampNeg z76) 32 1 z84).2.2.1 32 0 := sF_ne rfl (sI_F (sF_get)); first | (rw [← b0, ← e_32_0]; exact n148a) | (rw [← b0]; exact n148a)
    exact g_return (gd rfl) rfl (hP _ _ ⟨(sF (sI (sF s 32 0 z23) 33 z15.toNatClampNeg z76) 32 1 z84), hI148, (fr_sF rfl (fr_sI rfl (fr_sF rfl fr_rf))), n148b, rfl, rfl, n148⟩)
  · skip
    have i33 := sw_eq c33
    have h32 : z32 = s.1 30 (7 * (s.2.2.1 32 0).toInt.toNat) := rw7_v (c := 0) (by have a0 := (rng_F hI.1 448 28000 rfl e_30_0); unfold In at a0; have a1 := (rng_F hI.1 0 32 rfl e_32_1); unfold In at a1; have a2 := r_32_0; unfold In at a2; have a3 := i6; unfold In at a3; have a4 := (t_mulc 7 (Or.inr e6) r_32_0 rfl).1; have a5 := i23; unfold In at a5; have a6 := t_add e23 r_32_0 (in_c 1 rfl) rfl; have a7 := (in_c 1 rfl); unfold In at a7; have a8 := i14; unfold In at a8; have a9 := t_add e14 i6 (in_c 1 rfl) rfl; omega) e32
    have hr := rw7_1 q_0 hk e32 c33
    have i91 : In z15 0 159 := by rw [hp]; exact hr.1
    refine g_aload_n 92 (gd rfl) rfl rfl ?_
    refine g_aload_n 93 (gd rfl) rfl rfl ?_
    refine g_iload_n 94 (gd rfl) rfl rfl ?_
    refine g_iload_n 95 (gd rfl) rfl rfl ?_
    have v95 : u_30_0 = (sF s 32 0 z23).2.2.1 30 0 := sF_ne rfl (e_30_0)
    have n95 : (z6).toInt + 7 ≤ (u_30_0).toInt := by have a0 := (rng_F hI.1 448 28000 rfl e_30_0); unfold In at a0; have a1 := (rng_F hI.1 0 32 rfl e_32_1); unfold In at a1; have a2 := r_32_0; unfold In at a2; have a3 := i91; unfold In at a3; have a4 := i6; unfold In at a4; have a5 := (t_mulc 7 (Or.inr e6) r_32_0 rfl).1; have a6 := i23; unfold In at a6; have a7 := t_add e23 r_32_0 (in_c 1 rfl) rfl; have a8 := (in_c 1 rfl); unfold In at a8; have a9 := i14; unfold In at a9; have a10 := t_add e14 i6 (in_c 1 rfl) rfl; omega
    have p95 : In ((sF s 32 0 z23).1 30 ((z6).toInt + 2).toNat) (0) 31 := by show In (s.1 30 ((z6).toInt + 2).toNat) 0 31; rw [(show s.1 30 ((z6).toInt + 2).toNat = s.1 30 (7 * (s.2.2.1 32 0).toInt.toNat + 2) from congrArg (s.1 30) (by have a0 := (rng_F hI.1 448 28000 rfl e_30_0); unfold In at a0; have a1 := (rng_F hI.1 0 32 rfl e_32_1); unfold In at a1; have a2 := r_32_0; unfold In at a2; have a3 := i91; unfold In at a3; have a4 := i6; unfold In at a4; have a5 := (t_mulc 7 (Or.inr e6) r_32_0 rfl).1; have a6 := i23; unfold In at a6; have a7 := t_add e23 r_32_0 (in_c 1 rfl) rfl; have a8 := (in_c 1 rfl); unfold In at a8; have a9 := i14; unfold In at a9; have a10 := t_add e14 i6 (in_c 1 rfl) rfl; omega))]; have h1 := hr.2.1; have h2 := q_1.1; have h3 := rng_F hI.1 0 32 (q := 32) (j := 1) rfl rfl; unfold In at h3; exact ⟨by omega, by omega⟩
    have p95a : In ((sF s 32 0 z23).1 30 ((z6).toInt + 3).toNat) (0) 31 := by show In (s.1 30 ((z6).toInt + 3).toNat) 0 31; rw [(show s.1 30 ((z6).toInt + 3).toNat = s.1 30 (7 * (s.2.2.1 32 0).toInt.toNat + 3) from congrArg (s.1 30) (by have a0 := (rng_F hI.1 448 28000 rfl e_30_0); unfold In at a0; have a1 := (rng_F hI.1 0 32 rfl e_32_1); unfold In at a1; have a2 := r_32_0; unfold In at a2; have a3 := i91; unfold In at a3; have a4 := i6; unfold In at a4; have a5 := (t_mulc 7 (Or.inr e6) r_32_0 rfl).1; have a6 := i23; unfold In at a6; have a7 := t_add e23 r_32_0 (in_c 1 rfl) rfl; have a8 := (in_c 1 rfl); unfold In at a8; have a9 := i14; unfold In at a9; have a10 := t_add e14 i6 (in_c 1 rfl) rfl; omega))]; have h1 := hr.2.2.1; have h2 := q_1.1; have h3 := rng_F hI.1 0 32 (q := 32) (j := 1) rfl rfl; unfold In at h3; exact ⟨by omega, by omega⟩
    have p95b : In ((sF s 32 0 z23).1 30 ((z6).toInt + 4).toNat) (-1000000) 1000000 := by show In (s.1 30 ((z6).toInt + 4).toNat) _ _; rw [(show s.1 30 ((z6).toInt + 4).toNat = s.1 30 (7 * (s.2.2.1 32 0).toInt.toNat + 4) from congrArg (s.1 30) (by have a0 := (rng_F hI.1 448 28000 rfl e_30_0); unfold In at a0; have a1 := (rng_F hI.1 0 32 rfl e_32_1); unfold In at a1; have a2 := r_32_0; unfold In at a2; have a3 := i91; unfold In at a3; have a4 := i6; unfold In at a4; have a5 := (t_mulc 7 (Or.inr e6) r_32_0 rfl).1; have a6 := i23; unfold In at a6; have a7 := t_add e23 r_32_0 (in_c 1 rfl) rfl; have a8 := (in_c 1 rfl); unfold In at a8; have a9 := i14; unfold In at a9; have a10 := t_add e14 i6 (in_c 1 rfl) rfl; omega))]; exact hr.2.2.2.1
    have p95c : In ((sF s 32 0 z23).1 30 ((z6).toInt + 5).toNat) (0) 1000000 := by show In (s.1 30 ((z6).toInt + 5).toNat) _ _; rw [(show s.1 30 ((z6).toInt + 5).toNat = s.1 30 (7 * (s.2.2.1 32 0).toInt.toNat + 5) from congrArg (s.1 30) (by have a0 := (rng_F hI.1 448 28000 rfl e_30_0); unfold In at a0; have a1 := (rng_F hI.1 0 32 rfl e_32_1); unfold In at a1; have a2 := r_32_0; unfold In at a2; have a3 := i91; unfold In at a3; have a4 := i6; unfold In at a4; have a5 := (t_mulc 7 (Or.inr e6) r_32_0 rfl).1; have a6 := i23; unfold In at a6; have a7 := t_add e23 r_32_0 (in_c 1 rfl) rfl; have a8 := (in_c 1 rfl); unfold In at a8; have a9 := i14; unfold In at a9; have a10 := t_add e14 i6 (in_c 1 rfl) rfl; omega))]; exact hr.2.2.2.2.1
    have p95d : In ((sF s 32 0 z23).1 30 ((z6).toInt + 6).toNat) (0) 25 := by show In (s.1 30 ((z6).toInt + 6).toNat) _ _; rw [(show s.1 30 ((z6).toInt + 6).toNat = s.1 30 (7 * (s.2.2.1 32 0).toInt.toNat + 6) from congrArg (s.1 30) (by have a0 := (rng_F hI.1 448 28000 rfl e_30_0); unfold In at a0; have a1 := (rng_F hI.1 0 32 rfl e_32_1); unfold In at a1; have a2 := r_32_0; unfold In at a2; have a3 := i91; unfold In at a3; have a4 := i6; unfold In at a4; have a5 := (t_mulc 7 (Or.inr e6) r_32_0 rfl).1; have a6 := i23; unfold In at a6; have a7 := t_add e23 r_32_0 (in_c 1 rfl) rfl; have a8 := (in_c 1 rfl); unfold In at a8; have a9 := i14; unfold In at a9; have a10 := t_add e14 i6 (in_c 1 rfl) rfl; omega))]; exact hr.2.2.2.2.2
    refine g_callv (X := _) (As := [.ref (A 32), .int z6, .int z15]) (r := []) (b := A 1) (q := 1) 98 (gd rfl) rfl rfl rfl rfl rfl (ww_o rfl) (Nat.le_of_ble_eq_true rfl) (Nat.zero_le _) (Nat.zero_le _) (k_132_1_32 (by omega) hI24 (in_w 0 27993 i6 rfl) (in_w 0 159 i91 rfl) v95 n95 p95 p95a p95b p95c p95d) (fun e u h => h) (fun v u h => ?_)
    obtain ⟨s95, hI95, hF95, rfl, rfl, p95e, p95f⟩ := h
    show GG _ _ _ _ _ _ _ _ [] _ _ _
    refine g_goto 148 (gd rfl) rfl ?_
    have hI148 : Inv s95 := by have hFF : Fr fm_131_1_32 s s95 := (fr_tr rfl (fr_sF rfl fr_rf) hF95); exact ⟨hI95, kk_ap32 hI.2 hFF rfl (by rw [hFF.2.2.1 32 4 rfl, ← (show z23 = s95.2.2.1 32 0 from fr_F (s := (sF s 32 0 z23)) (sF_get) hF95 rfl)]; have hg := hI.2.2.1.1; rw [mF_at rfl, mF_at rfl, ← e_32_0] at hg; have a0 := (rng_F hI.1 448 28000 rfl e_30_0); unfold In at a0; have a1 := (rng_F hI.1 0 32 rfl e_32_1); unfold In at a1; have a2 := r_32_0; unfold In at a2; have a3 := i91; unfold In at a3; have a4 := i6; unfold In at a4; have a5 := (t_mulc 7 (Or.inr e6) r_32_0 rfl).1; have a6 := i23; unfold In at a6; have a7 := t_add e23 r_32_0 (in_c 1 rfl) rfl; have a8 := (in_c 1 rfl); unfold In at a8; have a9 := i14; unfold In at a9; have a10 := t_add e14 i6 (in_c 1 rfl) rfl; omega)⟩
    have n148 : KV s95 32 := by have hif : (if (s.1 30 (7 * (s.2.2.1 32 0).toInt.toNat)).toInt = 0 then (1 : Int) else 0) = 0 := if_neg (by rw [← h32]; have a0 := (rng_F hI.1 448 28000 rfl e_30_0); unfold In at a0; have a1 := (rng_F hI.1 0 32 rfl e_32_1); unfold In at a1; have a2 := r_32_0; unfold In at a2; have a3 := i91; unfold In at a3; have a4 := i6; unfold In at a4; have a5 := (t_mulc 7 (Or.inr e6) r_32_0 rfl).1; have a6 := i23; unfold In at a6; have a7 := t_add e23 r_32_0 (in_c 1 rfl) rfl; have a8 := (in_c 1 rfl); unfold In at a8; have a9 := i14; unfold In at a9; have a10 := t_add e14 i6 (in_c 1 rfl) rfl; omega); exact kv_st q_1 (hF95.1 30 rfl) (rng_F hI.1 0 4000 (q := 32) (j := 0) rfl rfl).1 (by rw [← (show z23 = s95.2.2.1 32 0 from fr_F (s := (sF s 32 0 z23)) (sF_get) hF95 rfl), ← e_32_0]; have a0 := (rng_F hI.1 448 28000 rfl e_30_0); unfold In at a0; have a1 := (rng_F hI.1 0 32 rfl e_32_1); unfold In at a1; have a2 := r_32_0; unfold In at a2; have a3 := i91; unfold In at a3; have a4 := i6; unfold In at a4; have a5 := (t_mulc 7 (Or.inr e6) r_32_0 rfl).1; have a6 := i23; unfold In at a6; have a7 := t_add e23 r_32_0 (in_c 1 rfl) rfl; have a8 := (in_c 1 rfl); unfold In at a8; have a9 := i14; unfold In at a9; have a10 := t_add e14 i6 (in_c 1 rfl) rfl; omega) (by rw [hif, ← (show u_32_1 = s95.2.2.1 32 1 from fr_F (s := (sF s 32 0 z23)) (sF_ne rfl (e_32_1)) hF95 rfl), ← e_32_1]; omega) (by rw [← (show u_32_1 = s95.2.2.1 32 1 from fr_F (s := (sF s 32 0 z23)) (sF_ne rfl (e_32_1)) hF95 rfl), e_32_1]; exact (by rw [p95e, p95f]; show KN (upd (s.1 34) _ (s.1 30 ((z6).toInt + 2).toNat)) (upd (s.1 35) _ (s.1 30 ((z6).toInt + 3).toNat)) _; rw [(show s.1 30 ((z6).toInt + 2).toNat = s.1 30 (7 * (s.2.2.1 32 0).toInt.toNat + 2) from congrArg (s.1 30) (by have a0 := (rng_F hI.1 448 28000 rfl e_30_0); unfold In at a0; have a1 := (rng_F hI.1 0 32 rfl e_32_1); unfold In at a1; have a2 := r_32_0; unfold In at a2; have a3 := i91; unfold In at a3; have a4 := i6; unfold In at a4; have a5 := (t_mulc 7 (Or.inr e6) r_32_0 rfl).1; have a6 := i23; unfold In at a6; have a7 := t_add e23 r_32_0 (in_c 1 rfl) rfl; have a8 := (in_c 1 rfl); unfold In at a8; have a9 := i14; unfold In at a9; have a10 := t_add e14 i6 (in_c 1 rfl) rfl; omega)), (show s.1 30 ((z6).toInt + 3).toNat = s.1 30 (7 * (s.2.2.1 32 0).toInt.toNat + 3) from congrArg (s.1 30) (by have a0 := (rng_F hI.1 448 28000 rfl e_30_0); unfold In at a0; have a1 := (rng_F hI.1 0 32 rfl e_32_1); unfold In at a1; have a2 := r_32_0; unfold In at a2; have a3 := i91; unfold In at a3; have a4 := i6; unfold In at a4; have a5 := (t_mulc 7 (Or.inr e6) r_32_0 rfl).1; have a6 := i23; unfold In at a6; have a7 := t_add e23 r_32_0 (in_c 1 rfl) rfl; have a8 := (in_c 1 rfl); unfold In at a8; have a9 := i14; unfold In at a9; have a10 := t_add e14 i6 (in_c 1 rfl) rfl; omega))]; exact kn_ar q_1.2 (by rw [q_1.1]; exact hr.2.1) (by rw [q_1.1]; exact hr.2.2.1)))
    have n148a : (z23).toInt = (u_32_0).toInt + 1 := by have a0 := (rng_F hI.1 448 28000 rfl e_30_0); unfold In at a0; have a1 := (rng_F hI.1 0 32 rfl e_32_1); unfold In at a1; have a2 := r_32_0; unfold In at a2; have a3 := i91; unfold In at a3; have a4 := i6; unfold In at a4; have a5 := (t_mulc 7 (Or.inr e6) r_32_0 rfl).1; have a6 := i23; unfold In at a6; have a7 := t_add e23 r_32_0 (in_c 1 rfl) rfl; have a8 := (in_c 1 rfl); unfold In at a8; have a9 := i14; unfold In at a9; have a10 := t_add e14 i6 (in_c 1 rfl) rfl; omega
    have n148b : (s95.2.2.1 32 0).toInt = (s.2.2.1 32 0).toInt + 1 := by have b0 : z23 = s95.2.2.1 32 0 := fr_F (s := (sF s 32 0 z23)) (sF_get) hF95 rfl; first | (rw [← b0, ← e_32_0]; exact n148a) | (rw [← b0]; exact n148a)
    exact g_return (gd rfl) rfl (hP _ _ ⟨s95, hI148, (fr_tr rfl (fr_sF rfl fr_rf) hF95), n148b, rfl, rfl, n148⟩)
  · skip
    have i33 := sw_eq c33
    have h32 : z32 = s.1 30 (7 * (s.2.2.1 32 0).toInt.toNat) := rw7_v (c := 0) (by have a0 := (rng_F hI.1 448 28000 rfl e_30_0); unfold In at a0; have a1 := (rng_F hI.1 0 32 rfl e_32_1); unfold In at a1; have a2 := r_32_0; unfold In at a2; have a3 := i6; unfold In at a3; have a4 := (t_mulc 7 (Or.inr e6) r_32_0 rfl).1; have a5 := i23; unfold In at a5; have a6 := t_add e23 r_32_0 (in_c 1 rfl) rfl; have a7 := (in_c 1 rfl); unfold In at a7; have a8 := i14; unfold In at a8; have a9 := t_add e14 i6 (in_c 1 rfl) rfl; omega) e32
    have hr := rw7_2 q_0 hk e32 c33
    have i101 : In z15 0 159 := by rw [hp]; exact hr
    refine g_aload_n 102 (gd rfl) rfl rfl ?_
    refine g_iload_n 103 (gd rfl) rfl rfl ?_
    refine g_callv (X := _) (As := [.int z15]) (r := []) (b := A 32) (q := 32) 106 (gd rfl) rfl rfl rfl rfl rfl (ww_o rfl) (Nat.le_of_ble_eq_true rfl) (Nat.zero_le _) (Nat.zero_le _) (k_105_32 (by omega) hI24 (in_w 0 159 i101 rfl)) (fun e u h => h) (fun v u h => ?_)
    obtain ⟨s103, hI103, hF103, rfl, rfl, p103⟩ := h
    show GG _ _ _ _ _ _ _ _ [] _ _ _
    refine g_goto 148 (gd rfl) rfl ?_
    have hI148 : Inv s103 := by have hFF : Fr fm_131_1_32 s s103 := (fr_tr rfl (fr_sF rfl fr_rf) hF103); exact ⟨hI103, kk_ap32 hI.2 hFF rfl (by rw [hFF.2.2.1 32 4 rfl, ← (show z23 = s103.2.2.1 32 0 from fr_F (s := (sF s 32 0 z23)) (sF_get) hF103 rfl)]; have hg := hI.2.2.1.1; rw [mF_at rfl, mF_at rfl, ← e_32_0] at hg; have a0 := (rng_F hI.1 448 28000 rfl e_30_0); unfold In at a0; have a1 := (rng_F hI.1 0 32 rfl e_32_1); unfold In at a1; have a2 := r_32_0; unfold In at a2; have a3 := i101; unfold In at a3; have a4 := i6; unfold In at a4; have a5 := (t_mulc 7 (Or.inr e6) r_32_0 rfl).1; have a6 := i23; unfold In at a6; have a7 := t_add e23 r_32_0 (in_c 1 rfl) rfl; have a8 := (in_c 1 rfl); unfold In at a8; have a9 := i14; unfold In at a9; have a10 := t_add e14 i6 (in_c 1 rfl) rfl; omega)⟩
    have n148 : KV s103 32 := by have hif : (if (s.1 30 (7 * (s.2.2.1 32 0).toInt.toNat)).toInt = 0 then (1 : Int) else 0) = 0 := if_neg (by rw [← h32]; have a0 := (rng_F hI.1 448 28000 rfl e_30_0); unfold In at a0; have a1 := (rng_F hI.1 0 32 rfl e_32_1); unfold In at a1; have a2 := r_32_0; unfold In at a2; have a3 := i101; unfold In at a3; have a4 := i6; unfold In at a4; have a5 := (t_mulc 7 (Or.inr e6) r_32_0 rfl).1; have a6 := i23; unfold In at a6; have a7 := t_add e23 r_32_0 (in_c 1 rfl) rfl; have a8 := (in_c 1 rfl); unfold In at a8; have a9 := i14; unfold In at a9; have a10 := t_add e14 i6 (in_c 1 rfl) rfl; omega); exact kv_st q_1 (hF103.1 30 rfl) (rng_F hI.1 0 4000 (q := 32) (j := 0) rfl rfl).1 (by rw [← (show z23 = s103.2.2.1 32 0 from fr_F (s := (sF s 32 0 z23)) (sF_get) hF103 rfl), ← e_32_0]; have a0 := (rng_F hI.1 448 28000 rfl e_30_0); unfold In at a0; have a1 := (rng_F hI.1 0 32 rfl e_32_1); unfold In at a1; have a2 := r_32_0; unfold In at a2; have a3 := i101; unfold In at a3; have a4 := i6; unfold In at a4; have a5 := (t_mulc 7 (Or.inr e6) r_32_0 rfl).1; have a6 := i23; unfold In at a6; have a7 := t_add e23 r_32_0 (in_c 1 rfl) rfl; have a8 := (in_c 1 rfl); unfold In at a8; have a9 := i14; unfold In at a9; have a10 := t_add e14 i6 (in_c 1 rfl) rfl; omega) (by rw [hif, ← (show u_32_1 = s103.2.2.1 32 1 from fr_F (s := (sF s 32 0 z23)) (sF_ne rfl (e_32_1)) hF103 rfl), ← e_32_1]; omega) (by rw [← (show u_32_1 = s103.2.2.1 32 1 from fr_F (s := (sF s 32 0 z23)) (sF_ne rfl (e_32_1)) hF103 rfl), e_32_1]; exact (by rw [p103, hF103.1 35 rfl]; exact kn_dr q_1.2 (by decide)))
    have n148a : (z23).toInt = (u_32_0).toInt + 1 := by have a0 := (rng_F hI.1 448 28000 rfl e_30_0); unfold In at a0; have a1 := (rng_F hI.1 0 32 rfl e_32_1); unfold In at a1; have a2 := r_32_0; unfold In at a2; have a3 := i101; unfold In at a3; have a4 := i6; unfold In at a4; have a5 := (t_mulc 7 (Or.inr e6) r_32_0 rfl).1; have a6 := i23; unfold In at a6; have a7 := t_add e23 r_32_0 (in_c 1 rfl) rfl; have a8 := (in_c 1 rfl); unfold In at a8; have a9 := i14; unfold In at a9; have a10 := t_add e14 i6 (in_c 1 rfl) rfl; omega
    have n148b : (s103.2.2.1 32 0).toInt = (s.2.2.1 32 0).toInt + 1 := by have b0 : z23 = s103.2.2.1 32 0 := fr_F (s := (sF s 32 0 z23)) (sF_get) hF103 rfl; first | (rw [← b0, ← e_32_0]; exact n148a) | (rw [← b0]; exact n148a)
    exact g_return (gd rfl) rfl (hP _ _ ⟨s103, hI148, (fr_tr rfl (fr_sF rfl fr_rf) hF103), n148b, rfl, rfl, n148⟩)
  · skip
    have i33 := sw_eq c33
    have h32 : z32 = s.1 30 (7 * (s.2.2.1 32 0).toInt.toNat) := rw7_v (c := 0) (by have a0 := (rng_F hI.1 448 28000 rfl e_30_0); unfold In at a0; have a1 := (rng_F hI.1 0 32 rfl e_32_1); unfold In at a1; have a2 := r_32_0; unfold In at a2; have a3 := i6; unfold In at a3; have a4 := (t_mulc 7 (Or.inr e6) r_32_0 rfl).1; have a5 := i23; unfold In at a5; have a6 := t_add e23 r_32_0 (in_c 1 rfl) rfl; have a7 := (in_c 1 rfl); unfold In at a7; have a8 := i14; unfold In at a8; have a9 := t_add e14 i6 (in_c 1 rfl) rfl; omega) e32
    have hr := rw7_3 q_0 hk e32 c33
    have i109 : In z15 0 159 := by rw [hp]; exact hr.1
    refine g_aload_n 110 (gd rfl) rfl rfl ?_
    refine g_aload_n 111 (gd rfl) rfl rfl ?_
    refine g_iload_n 112 (gd rfl) rfl rfl ?_
    refine g_aload_n 113 (gd rfl) rfl rfl ?_
    refine g_getA (q2 := 30) 116 (gd rfl) rfl rfl rfl rfl ?_
    refine g_iload_n 117 (gd rfl) rfl rfl ?_
    refine g_iconst 2 118 (gd rfl) rfl rfl ?_
    refine g_iadd 119 (gd rfl) rfl (fun z118 e118 => ?_)
    have i118 := in_add 2 27995 e118 i6 (in_c 2 rfl) rfl rfl
    have hx119 : vp_in z118 ((sF s 32 0 z23).2.2.1 30 0).toNatClampNeg := lg_in (by have a0 := (rng_F hI.1 448 28000 rfl e_30_0); unfold In at a0; have a1 := (rng_F hI.1 0 32 rfl e_32_1); unfold In at a1; have a2 := r_32_0; unfold In at a2; have a3 := i109; unfold In at a3; have a4 := i6; unfold In at a4; have a5 := (t_mulc 7 (Or.inr e6) r_32_0 rfl).1; have a6 := i23; unfold In at a6; have a7 := t_add e23 r_32_0 (in_c 1 rfl) rfl; have a8 := (in_c 1 rfl); unfold In at a8; have a9 := i118; unfold In at a9; have a10 := t_add e118 i6 (in_c 2 rfl) rfl; have a11 := (in_c 2 rfl); unfold In at a11; have a12 := i14; unfold In at a12; have a13 := t_add e14 i6 (in_c 1 rfl) rfl; omega) (by rw [← (show u_30_0 = (sF s 32 0 z23).2.2.1 30 0 from sF_ne rfl (e_30_0))]; have a0 := (rng_F hI.1 448 28000 rfl e_30_0); unfold In at a0; have a1 := (rng_F hI.1 0 32 rfl e_32_1); unfold In at a1; have a2 := r_32_0; unfold In at a2; have a3 := i109; unfold In at a3; have a4 := i6; unfold In at a4; have a5 := (t_mulc 7 (Or.inr e6) r_32_0 rfl).1; have a6 := i23; unfold In at a6; have a7 := t_add e23 r_32_0 (in_c 1 rfl) rfl; have a8 := (in_c 1 rfl); unfold In at a8; have a9 := i118; unfold In at a9; have a10 := t_add e118 i6 (in_c 2 rfl) rfl; have a11 := (in_c 2 rfl); unfold In at a11; have a12 := i14; unfold In at a12; have a13 := t_add e14 i6 (in_c 1 rfl) rfl; omega)
    refine g_lgload 120 (gd rfl) rfl hx119 (fun z119 e119 => ?_)
    refine g_aload_n 121 (gd rfl) rfl rfl ?_
    refine g_getA (q2 := 30) 124 (gd rfl) rfl rfl rfl rfl ?_
    refine g_iload_n 125 (gd rfl) rfl rfl ?_
    refine g_iconst 3 126 (gd rfl) rfl rfl ?_
    refine g_iadd 127 (gd rfl) rfl (fun z126 e126 => ?_)
    have i126 := in_add 3 27996 e126 i6 (in_c 3 rfl) rfl rfl
    have hx127 : vp_in z126 ((sF s 32 0 z23).2.2.1 30 0).toNatClampNeg := lg_in (by have a0 := (rng_F hI.1 448 28000 rfl e_30_0); unfold In at a0; have a1 := (rng_F hI.1 0 32 rfl e_32_1); unfold In at a1; have a2 := r_32_0; unfold In at a2; have a3 := i109; unfold In at a3; have a4 := i6; unfold In at a4; have a5 := (t_mulc 7 (Or.inr e6) r_32_0 rfl).1; have a6 := i23; unfold In at a6; have a7 := t_add e23 r_32_0 (in_c 1 rfl) rfl; have a8 := (in_c 1 rfl); unfold In at a8; have a9 := i126; unfold In at a9; have a10 := t_add e126 i6 (in_c 3 rfl) rfl; have a11 := (in_c 3 rfl); unfold In at a11; have a12 := i118; unfold In at a12; have a13 := t_add e118 i6 (in_c 2 rfl) rfl; have a14 := (in_c 2 rfl); unfold In at a14; have a15 := i14; unfold In at a15; have a16 := t_add e14 i6 (in_c 1 rfl) rfl; omega) (by rw [← (show u_30_0 = (sF s 32 0 z23).2.2.1 30 0 from sF_ne rfl (e_30_0))]; have a0 := (rng_F hI.1 448 28000 rfl e_30_0); unfold In at a0; have a1 := (rng_F hI.1 0 32 rfl e_32_1); unfold In at a1; have a2 := r_32_0; unfold In at a2; have a3 := i109; unfold In at a3; have a4 := i6; unfold In at a4; have a5 := (t_mulc 7 (Or.inr e6) r_32_0 rfl).1; have a6 := i23; unfold In at a6; have a7 := t_add e23 r_32_0 (in_c 1 rfl) rfl; have a8 := (in_c 1 rfl); unfold In at a8; have a9 := i126; unfold In at a9; have a10 := t_add e126 i6 (in_c 3 rfl) rfl; have a11 := (in_c 3 rfl); unfold In at a11; have a12 := i118; unfold In at a12; have a13 := t_add e118 i6 (in_c 2 rfl) rfl; have a14 := (in_c 2 rfl); unfold In at a14; have a15 := i14; unfold In at a15; have a16 := t_add e14 i6 (in_c 1 rfl) rfl; omega)
    refine g_lgload 128 (gd rfl) rfl hx127 (fun z127 e127 => ?_)
    have p128 : (z119).toInt = 0 → In z127 (-1000000) 1000000 := by rw [rw7_v (k := (s.2.2.1 32 0).toInt.toNat) (c := 2) (by have a0 := (rng_F hI.1 448 28000 rfl e_30_0); unfold In at a0; have a1 := (rng_F hI.1 0 32 rfl e_32_1); unfold In at a1; have a2 := r_32_0; unfold In at a2; have a3 := i109; unfold In at a3; have a4 := i6; unfold In at a4; have a5 := (t_mulc 7 (Or.inr e6) r_32_0 rfl).1; have a6 := i23; unfold In at a6; have a7 := t_add e23 r_32_0 (in_c 1 rfl) rfl; have a8 := (in_c 1 rfl); unfold In at a8; have a9 := i126; unfold In at a9; have a10 := t_add e126 i6 (in_c 3 rfl) rfl; have a11 := (in_c 3 rfl); unfold In at a11; have a12 := i118; unfold In at a12; have a13 := t_add e118 i6 (in_c 2 rfl) rfl; have a14 := (in_c 2 rfl); unfold In at a14; have a15 := i14; unfold In at a15; have a16 := t_add e14 i6 (in_c 1 rfl) rfl; omega) e119, rw7_v (k := (s.2.2.1 32 0).toInt.toNat) (c := 3) (by have a0 := (rng_F hI.1 448 28000 rfl e_30_0); unfold In at a0; have a1 := (rng_F hI.1 0 32 rfl e_32_1); unfold In at a1; have a2 := r_32_0; unfold In at a2; have a3 := i109; unfold In at a3; have a4 := i6; unfold In at a4; have a5 := (t_mulc 7 (Or.inr e6) r_32_0 rfl).1; have a6 := i23; unfold In at a6; have a7 := t_add e23 r_32_0 (in_c 1 rfl) rfl; have a8 := (in_c 1 rfl); unfold In at a8; have a9 := i126; unfold In at a9; have a10 := t_add e126 i6 (in_c 3 rfl) rfl; have a11 := (in_c 3 rfl); unfold In at a11; have a12 := i118; unfold In at a12; have a13 := t_add e118 i6 (in_c 2 rfl) rfl; have a14 := (in_c 2 rfl); unfold In at a14; have a15 := i14; unfold In at a15; have a16 := t_add e14 i6 (in_c 1 rfl) rfl; omega) e127]; exact hr.2.1
    have p128a : (z119).toInt = 1 → In z127 0 1000000 := by rw [rw7_v (k := (s.2.2.1 32 0).toInt.toNat) (c := 2) (by have a0 := (rng_F hI.1 448 28000 rfl e_30_0); unfold In at a0; have a1 := (rng_F hI.1 0 32 rfl e_32_1); unfold In at a1; have a2 := r_32_0; unfold In at a2; have a3 := i109; unfold In at a3; have a4 := i6; unfold In at a4; have a5 := (t_mulc 7 (Or.inr e6) r_32_0 rfl).1; have a6 := i23; unfold In at a6; have a7 := t_add e23 r_32_0 (in_c 1 rfl) rfl; have a8 := (in_c 1 rfl); unfold In at a8; have a9 := i126; unfold In at a9; have a10 := t_add e126 i6 (in_c 3 rfl) rfl; have a11 := (in_c 3 rfl); unfold In at a11; have a12 := i118; unfold In at a12; have a13 := t_add e118 i6 (in_c 2 rfl) rfl; have a14 := (in_c 2 rfl); unfold In at a14; have a15 := i14; unfold In at a15; have a16 := t_add e14 i6 (in_c 1 rfl) rfl; omega) e119, rw7_v (k := (s.2.2.1 32 0).toInt.toNat) (c := 3) (by have a0 := (rng_F hI.1 448 28000 rfl e_30_0); unfold In at a0; have a1 := (rng_F hI.1 0 32 rfl e_32_1); unfold In at a1; have a2 := r_32_0; unfold In at a2; have a3 := i109; unfold In at a3; have a4 := i6; unfold In at a4; have a5 := (t_mulc 7 (Or.inr e6) r_32_0 rfl).1; have a6 := i23; unfold In at a6; have a7 := t_add e23 r_32_0 (in_c 1 rfl) rfl; have a8 := (in_c 1 rfl); unfold In at a8; have a9 := i126; unfold In at a9; have a10 := t_add e126 i6 (in_c 3 rfl) rfl; have a11 := (in_c 3 rfl); unfold In at a11; have a12 := i118; unfold In at a12; have a13 := t_add e118 i6 (in_c 2 rfl) rfl; have a14 := (in_c 2 rfl); unfold In at a14; have a15 := i14; unfold In at a15; have a16 := t_add e14 i6 (in_c 1 rfl) rfl; omega) e127]; exact hr.2.2.1
    have p128b : (z119).toInt ≠ 0 → (z119).toInt ≠ 1 → In z127 0 25 := by rw [rw7_v (k := (s.2.2.1 32 0).toInt.toNat) (c := 2) (by have a0 := (rng_F hI.1 448 28000 rfl e_30_0); unfold In at a0; have a1 := (rng_F hI.1 0 32 rfl e_32_1); unfold In at a1; have a2 := r_32_0; unfold In at a2; have a3 := i109; unfold In at a3; have a4 := i6; unfold In at a4; have a5 := (t_mulc 7 (Or.inr e6) r_32_0 rfl).1; have a6 := i23; unfold In at a6; have a7 := t_add e23 r_32_0 (in_c 1 rfl) rfl; have a8 := (in_c 1 rfl); unfold In at a8; have a9 := i126; unfold In at a9; have a10 := t_add e126 i6 (in_c 3 rfl) rfl; have a11 := (in_c 3 rfl); unfold In at a11; have a12 := i118; unfold In at a12; have a13 := t_add e118 i6 (in_c 2 rfl) rfl; have a14 := (in_c 2 rfl); unfold In at a14; have a15 := i14; unfold In at a15; have a16 := t_add e14 i6 (in_c 1 rfl) rfl; omega) e119, rw7_v (k := (s.2.2.1 32 0).toInt.toNat) (c := 3) (by have a0 := (rng_F hI.1 448 28000 rfl e_30_0); unfold In at a0; have a1 := (rng_F hI.1 0 32 rfl e_32_1); unfold In at a1; have a2 := r_32_0; unfold In at a2; have a3 := i109; unfold In at a3; have a4 := i6; unfold In at a4; have a5 := (t_mulc 7 (Or.inr e6) r_32_0 rfl).1; have a6 := i23; unfold In at a6; have a7 := t_add e23 r_32_0 (in_c 1 rfl) rfl; have a8 := (in_c 1 rfl); unfold In at a8; have a9 := i126; unfold In at a9; have a10 := t_add e126 i6 (in_c 3 rfl) rfl; have a11 := (in_c 3 rfl); unfold In at a11; have a12 := i118; unfold In at a12; have a13 := t_add e118 i6 (in_c 2 rfl) rfl; have a14 := (in_c 2 rfl); unfold In at a14; have a15 := i14; unfold In at a15; have a16 := t_add e14 i6 (in_c 1 rfl) rfl; omega) e127]; exact hr.2.2.2
    refine g_callv (X := _) (As := [.ref (A 32), .int z15, .int z119, .int z127]) (r := []) (b := A 1) (q := 1) 131 (gd rfl) rfl rfl rfl rfl rfl (ww_o rfl) (Nat.le_of_ble_eq_true rfl) (Nat.zero_le _) (Nat.zero_le _) (k_133_1_32 (by omega) hI24 (in_w 0 159 i109 rfl) p128 p128a p128b) (fun e u h => h) (fun v u h => ?_)
    obtain ⟨s128, hI128, hF128, rfl, rfl⟩ := h
    show GG _ _ _ _ _ _ _ _ [] _ _ _
    refine g_goto 148 (gd rfl) rfl ?_
    have hI148 : Inv s128 := by have hFF : Fr fm_131_1_32 s s128 := (fr_tr rfl (fr_sF rfl fr_rf) hF128); exact ⟨hI128, kk_ap32 hI.2 hFF rfl (by rw [hFF.2.2.1 32 4 rfl, ← (show z23 = s128.2.2.1 32 0 from fr_F (s := (sF s 32 0 z23)) (sF_get) hF128 rfl)]; have hg := hI.2.2.1.1; rw [mF_at rfl, mF_at rfl, ← e_32_0] at hg; have a0 := (rng_F hI.1 448 28000 rfl e_30_0); unfold In at a0; have a1 := (rng_F hI.1 0 32 rfl e_32_1); unfold In at a1; have a2 := r_32_0; unfold In at a2; have a3 := i109; unfold In at a3; have a4 := i6; unfold In at a4; have a5 := (t_mulc 7 (Or.inr e6) r_32_0 rfl).1; have a6 := i23; unfold In at a6; have a7 := t_add e23 r_32_0 (in_c 1 rfl) rfl; have a8 := (in_c 1 rfl); unfold In at a8; have a9 := i126; unfold In at a9; have a10 := t_add e126 i6 (in_c 3 rfl) rfl; have a11 := (in_c 3 rfl); unfold In at a11; have a12 := i118; unfold In at a12; have a13 := t_add e118 i6 (in_c 2 rfl) rfl; have a14 := (in_c 2 rfl); unfold In at a14; have a15 := i14; unfold In at a15; have a16 := t_add e14 i6 (in_c 1 rfl) rfl; omega)⟩
    have n148 : KV s128 32 := by have hif : (if (s.1 30 (7 * (s.2.2.1 32 0).toInt.toNat)).toInt = 0 then (1 : Int) else 0) = 0 := if_neg (by rw [← h32]; have a0 := (rng_F hI.1 448 28000 rfl e_30_0); unfold In at a0; have a1 := (rng_F hI.1 0 32 rfl e_32_1); unfold In at a1; have a2 := r_32_0; unfold In at a2; have a3 := i109; unfold In at a3; have a4 := i6; unfold In at a4; have a5 := (t_mulc 7 (Or.inr e6) r_32_0 rfl).1; have a6 := i23; unfold In at a6; have a7 := t_add e23 r_32_0 (in_c 1 rfl) rfl; have a8 := (in_c 1 rfl); unfold In at a8; have a9 := i126; unfold In at a9; have a10 := t_add e126 i6 (in_c 3 rfl) rfl; have a11 := (in_c 3 rfl); unfold In at a11; have a12 := i118; unfold In at a12; have a13 := t_add e118 i6 (in_c 2 rfl) rfl; have a14 := (in_c 2 rfl); unfold In at a14; have a15 := i14; unfold In at a15; have a16 := t_add e14 i6 (in_c 1 rfl) rfl; omega); exact kv_st q_1 (hF128.1 30 rfl) (rng_F hI.1 0 4000 (q := 32) (j := 0) rfl rfl).1 (by rw [← (show z23 = s128.2.2.1 32 0 from fr_F (s := (sF s 32 0 z23)) (sF_get) hF128 rfl), ← e_32_0]; have a0 := (rng_F hI.1 448 28000 rfl e_30_0); unfold In at a0; have a1 := (rng_F hI.1 0 32 rfl e_32_1); unfold In at a1; have a2 := r_32_0; unfold In at a2; have a3 := i109; unfold In at a3; have a4 := i6; unfold In at a4; have a5 := (t_mulc 7 (Or.inr e6) r_32_0 rfl).1; have a6 := i23; unfold In at a6; have a7 := t_add e23 r_32_0 (in_c 1 rfl) rfl; have a8 := (in_c 1 rfl); unfold In at a8; have a9 := i126; unfold In at a9; have a10 := t_add e126 i6 (in_c 3 rfl) rfl; have a11 := (in_c 3 rfl); unfold In at a11; have a12 := i118; unfold In at a12; have a13 := t_add e118 i6 (in_c 2 rfl) rfl; have a14 := (in_c 2 rfl); unfold In at a14; have a15 := i14; unfold In at a15; have a16 := t_add e14 i6 (in_c 1 rfl) rfl; omega) (by rw [hif, ← (show u_32_1 = s128.2.2.1 32 1 from fr_F (s := (sF s 32 0 z23)) (sF_ne rfl (e_32_1)) hF128 rfl), ← e_32_1]; omega) (by rw [← (show u_32_1 = s128.2.2.1 32 1 from fr_F (s := (sF s 32 0 z23)) (sF_ne rfl (e_32_1)) hF128 rfl), e_32_1]; exact (by rw [hF128.1 34 rfl, hF128.1 35 rfl]; exact q_1.2))
    have n148a : (z23).toInt = (u_32_0).toInt + 1 := by have a0 := (rng_F hI.1 448 28000 rfl e_30_0); unfold In at a0; have a1 := (rng_F hI.1 0 32 rfl e_32_1); unfold In at a1; have a2 := r_32_0; unfold In at a2; have a3 := i109; unfold In at a3; have a4 := i6; unfold In at a4; have a5 := (t_mulc 7 (Or.inr e6) r_32_0 rfl).1; have a6 := i23; unfold In at a6; have a7 := t_add e23 r_32_0 (in_c 1 rfl) rfl; have a8 := (in_c 1 rfl); unfold In at a8; have a9 := i126; unfold In at a9; have a10 := t_add e126 i6 (in_c 3 rfl) rfl; have a11 := (in_c 3 rfl); unfold In at a11; have a12 := i118; unfold In at a12; have a13 := t_add e118 i6 (in_c 2 rfl) rfl; have a14 := (in_c 2 rfl); unfold In at a14; have a15 := i14; unfold In at a15; have a16 := t_add e14 i6 (in_c 1 rfl) rfl; omega
    have n148b : (s128.2.2.1 32 0).toInt = (s.2.2.1 32 0).toInt + 1 := by have b0 : z23 = s128.2.2.1 32 0 := fr_F (s := (sF s 32 0 z23)) (sF_get) hF128 rfl; first | (rw [← b0, ← e_32_0]; exact n148a) | (rw [← b0]; exact n148a)
    exact g_return (gd rfl) rfl (hP _ _ ⟨s128, hI148, (fr_tr rfl (fr_sF rfl fr_rf) hF128), n148b, rfl, rfl, n148⟩)
  · skip
    have h32 : z32 = s.1 30 (7 * (s.2.2.1 32 0).toInt.toNat) := rw7_v (c := 0) (by have a0 := (rng_F hI.1 448 28000 rfl e_30_0); unfold In at a0; have a1 := (rng_F hI.1 0 32 rfl e_32_1); unfold In at a1; have a2 := r_32_0; unfold In at a2; have a3 := i6; unfold In at a3; have a4 := (t_mulc 7 (Or.inr e6) r_32_0 rfl).1; have a5 := i23; unfold In at a5; have a6 := t_add e23 r_32_0 (in_c 1 rfl) rfl; have a7 := (in_c 1 rfl); unfold In at a7; have a8 := i14; unfold In at a8; have a9 := t_add e14 i6 (in_c 1 rfl) rfl; omega) e32
    have hr := rw7_4 q_0 hk e32 c33
    have i134 : In z15 0 31 := by rw [hp]; exact hr.1
    refine g_aload_n 135 (gd rfl) rfl rfl ?_
    refine g_getA (q2 := 33) 138 (gd rfl) rfl rfl rfl rfl ?_
    refine g_iload_n 139 (gd rfl) rfl rfl ?_
    refine g_aload_n 140 (gd rfl) rfl rfl ?_
    refine g_getA (q2 := 30) 143 (gd rfl) rfl rfl rfl rfl ?_
    refine g_iload_n 144 (gd rfl) rfl rfl ?_
    refine g_iconst 2 145 (gd rfl) rfl rfl ?_
    refine g_iadd 146 (gd rfl) rfl (fun z145 e145 => ?_)
    have i145 := in_add 2 27995 e145 i6 (in_c 2 rfl) rfl rfl
    have hx146 : vp_in z145 ((sF s 32 0 z23).2.2.1 30 0).toNatClampNeg := lg_in (by have a0 := (rng_F hI.1 448 28000 rfl e_30_0); unfold In at a0; have a1 := (rng_F hI.1 0 32 rfl e_32_1); unfold In at a1; have a2 := r_32_0; unfold In at a2; have a3 := i134; unfold In at a3; have a4 := i6; unfold In at a4; have a5 := (t_mulc 7 (Or.inr e6) r_32_0 rfl).1; have a6 := i23; unfold In at a6; have a7 := t_add e23 r_32_0 (in_c 1 rfl) rfl; have a8 := (in_c 1 rfl); unfold In at a8; have a9 := i145; unfold In at a9; have a10 := t_add e145 i6 (in_c 2 rfl) rfl; have a11 := (in_c 2 rfl); unfold In at a11; have a12 := i14; unfold In at a12; have a13 := t_add e14 i6 (in_c 1 rfl) rfl; omega) (by rw [← (show u_30_0 = (sF s 32 0 z23).2.2.1 30 0 from sF_ne rfl (e_30_0))]; have a0 := (rng_F hI.1 448 28000 rfl e_30_0); unfold In at a0; have a1 := (rng_F hI.1 0 32 rfl e_32_1); unfold In at a1; have a2 := r_32_0; unfold In at a2; have a3 := i134; unfold In at a3; have a4 := i6; unfold In at a4; have a5 := (t_mulc 7 (Or.inr e6) r_32_0 rfl).1; have a6 := i23; unfold In at a6; have a7 := t_add e23 r_32_0 (in_c 1 rfl) rfl; have a8 := (in_c 1 rfl); unfold In at a8; have a9 := i145; unfold In at a9; have a10 := t_add e145 i6 (in_c 2 rfl) rfl; have a11 := (in_c 2 rfl); unfold In at a11; have a12 := i14; unfold In at a12; have a13 := t_add e14 i6 (in_c 1 rfl) rfl; omega)
    refine g_lgload 147 (gd rfl) rfl hx146 (fun z146 e146 => ?_)
    have i147 : In z146 0 25 := by rw [rw7_v (k := (s.2.2.1 32 0).toInt.toNat) (c := 2) (by have a0 := (rng_F hI.1 448 28000 rfl e_30_0); unfold In at a0; have a1 := (rng_F hI.1 0 32 rfl e_32_1); unfold In at a1; have a2 := r_32_0; unfold In at a2; have a3 := i134; unfold In at a3; have a4 := i6; unfold In at a4; have a5 := (t_mulc 7 (Or.inr e6) r_32_0 rfl).1; have a6 := i23; unfold In at a6; have a7 := t_add e23 r_32_0 (in_c 1 rfl) rfl; have a8 := (in_c 1 rfl); unfold In at a8; have a9 := i145; unfold In at a9; have a10 := t_add e145 i6 (in_c 2 rfl) rfl; have a11 := (in_c 2 rfl); unfold In at a11; have a12 := i14; unfold In at a12; have a13 := t_add e14 i6 (in_c 1 rfl) rfl; omega) e146]; exact hr.2
    refine g_iastore 148 (gd rfl) rfl (n := 32) rfl (in_ix i134 rfl) ?_
    have hI147 := rng_sI (q := 33) (j := z15.toNatClampNeg) hI24 rfl (in_w 0 25 i147 rfl)
    have hI148 : Inv (sI (sF s 32 0 z23) 33 z15.toNatClampNeg z146) := by have hFF : Fr fm_131_1_32 s (sI (sF s 32 0 z23) 33 z15.toNatClampNeg z146) := (fr_sI rfl (fr_sF rfl fr_rf)); exact ⟨hI147, kk_ap32 hI.2 hFF rfl (by rw [hFF.2.2.1 32 4 rfl, ← (show z23 = (sI (sF s 32 0 z23) 33 z15.toNatClampNeg z146).2.2.1 32 0 from sI_F (sF_get))]; have hg := hI.2.2.1.1; rw [mF_at rfl, mF_at rfl, ← e_32_0] at hg; have a0 := (rng_F hI.1 448 28000 rfl e_30_0); unfold In at a0; have a1 := (rng_F hI.1 0 32 rfl e_32_1); unfold In at a1; have a2 := r_32_0; unfold In at a2; have a3 := i134; unfold In at a3; have a4 := i6; unfold In at a4; have a5 := (t_mulc 7 (Or.inr e6) r_32_0 rfl).1; have a6 := i23; unfold In at a6; have a7 := t_add e23 r_32_0 (in_c 1 rfl) rfl; have a8 := (in_c 1 rfl); unfold In at a8; have a9 := i145; unfold In at a9; have a10 := t_add e145 i6 (in_c 2 rfl) rfl; have a11 := (in_c 2 rfl); unfold In at a11; have a12 := i14; unfold In at a12; have a13 := t_add e14 i6 (in_c 1 rfl) rfl; omega)⟩
    have n148 : KV (sI (sF s 32 0 z23) 33 z15.toNatClampNeg z146) 32 := by have hif : (if (s.1 30 (7 * (s.2.2.1 32 0).toInt.toNat)).toInt = 0 then (1 : Int) else 0) = 0 := if_neg (by rw [← h32]; have a0 := (rng_F hI.1 448 28000 rfl e_30_0); unfold In at a0; have a1 := (rng_F hI.1 0 32 rfl e_32_1); unfold In at a1; have a2 := r_32_0; unfold In at a2; have a3 := i134; unfold In at a3; have a4 := i6; unfold In at a4; have a5 := (t_mulc 7 (Or.inr e6) r_32_0 rfl).1; have a6 := i23; unfold In at a6; have a7 := t_add e23 r_32_0 (in_c 1 rfl) rfl; have a8 := (in_c 1 rfl); unfold In at a8; have a9 := i145; unfold In at a9; have a10 := t_add e145 i6 (in_c 2 rfl) rfl; have a11 := (in_c 2 rfl); unfold In at a11; have a12 := i14; unfold In at a12; have a13 := t_add e14 i6 (in_c 1 rfl) rfl; omega); exact kv_st q_1 rfl (rng_F hI.1 0 4000 (q := 32) (j := 0) rfl rfl).1 (by rw [← (show z23 = (sI (sF s 32 0 z23) 33 z15.toNatClampNeg z146).2.2.1 32 0 from sI_F (sF_get)), ← e_32_0]; have a0 := (rng_F hI.1 448 28000 rfl e_30_0); unfold In at a0; have a1 := (rng_F hI.1 0 32 rfl e_32_1); unfold In at a1; have a2 := r_32_0; unfold In at a2; have a3 := i134; unfold In at a3; have a4 := i6; unfold In at a4; have a5 := (t_mulc 7 (Or.inr e6) r_32_0 rfl).1; have a6 := i23; unfold In at a6; have a7 := t_add e23 r_32_0 (in_c 1 rfl) rfl; have a8 := (in_c 1 rfl); unfold In at a8; have a9 := i145; unfold In at a9; have a10 := t_add e145 i6 (in_c 2 rfl) rfl; have a11 := (in_c 2 rfl); unfold In at a11; have a12 := i14; unfold In at a12; have a13 := t_add e14 i6 (in_c 1 rfl) rfl; omega) (by rw [hif, ← (show u_32_1 = (sI (sF s 32 0 z23) 33 z15.toNatClampNeg z146).2.2.1 32 1 from sI_F (sF_ne rfl (e_32_1))), ← e_32_1]; omega) (by rw [← (show u_32_1 = (sI (sF s 32 0 z23) 33 z15.toNatClampNeg z146).2.2.1 32 1 from sI_F (sF_ne rfl (e_32_1))), e_32_1]; exact q_1.2)
    have n148a : (z23).toInt = (u_32_0).toInt + 1 := by have a0 := (rng_F hI.1 448 28000 rfl e_30_0); unfold In at a0; have a1 := (rng_F hI.1 0 32 rfl e_32_1); unfold In at a1; have a2 := r_32_0; unfold In at a2; have a3 := i134; unfold In at a3; have a4 := i6; unfold In at a4; have a5 := (t_mulc 7 (Or.inr e6) r_32_0 rfl).1; have a6 := i23; unfold In at a6; have a7 := t_add e23 r_32_0 (in_c 1 rfl) rfl; have a8 := (in_c 1 rfl); unfold In at a8; have a9 := i145; unfold In at a9; have a10 := t_add e145 i6 (in_c 2 rfl) rfl; have a11 := (in_c 2 rfl); unfold In at a11; have a12 := i14; unfold In at a12; have a13 := t_add e14 i6 (in_c 1 rfl) rfl; omega
    have n148b : ((sI (sF s 32 0 z23) 33 z15.toNatClampNeg z146).2.2.1 32 0).toInt = (s.2.2.1 32 0).toInt + 1 := by have b0 : z23 = (sI (sF s 32 0 z23) 33 z15.toNatClampNeg z146).2.2.1 32 0 := sI_F (sF_get); first | (rw [← b0, ← e_32_0]; exact n148a) | (rw [← b0]; exact n148a)
    exact g_return (gd rfl) rfl (hP _ _ ⟨(sI (sF s 32 0 z23) 33 z15.toNatClampNeg z146), hI148, (fr_sI rfl (fr_sF rfl fr_rf)), n148b, rfl, rfl, n148⟩)
