/-! methods, by vc.py -/
/-- GraphHouse.order -/
theorem k_237_0 {Z : AmZ} {A : Nat → Nat} {s : GS} {ex : va_W} {d : Nat} {x1 : Int32} (hd : 7 ≤ d) (hI : Inv s)  : GC Z d 237 [.ref (A 0), .int x1] (WW Z A s ++ ex) 3 18 (fun v u => ∃ t : GS, Inv t ∧ ∃ z : Int32, v = some (.int z) ∧ u = WW Z A t ++ ex ∧ In z (-1) 31) (gE1 Z A ex) := by
  intro post xp hP hX
  refine g_enter2 (k := 237) (N := 900) (by omega) rfl (Nat.le_of_ble_eq_true rfl) ?_
  refine g_iload_n 1 (gd rfl) rfl rfl ?_
  refine g_if_lt 4 8 (gd rfl) rfl rfl (fun c1 => ?_) (fun c1 => ?_)
  · skip
    have i2 := z_lt (-2147483648) (-1) c1 (i_rng x1) rfl
    refine g_iconst 0 9 (gd rfl) rfl rfl ?_
    refine g_thr (E := am_IA) (y := yX11_allow) 12 (gd rfl) rfl rfl (Or.inl ⟨rfl, rfl, rfl⟩) (by omega) (Nat.le_of_ble_eq_true rfl) (Nat.le_of_ble_eq_true rfl) (Nat.le_of_ble_eq_true rfl) (fun c3 => ?_) (fun c3 => ?_)
    · skip
      exact zn_ne c3 (in_c 0 rfl) rfl
    · skip
      exact (hX _ _ ⟨rfl, s, hI, rfl⟩)
  · skip
    have i4 := z_ge 0 2147483647 c1 (i_rng x1) rfl
    refine g_iconst 1 5 (gd rfl) rfl rfl ?_
    refine g_goto 9 (gd rfl) rfl ?_
    refine g_thr (E := am_IA) (y := yX11_allow) 12 (gd rfl) rfl rfl (Or.inl ⟨rfl, rfl, rfl⟩) (by omega) (Nat.le_of_ble_eq_true rfl) (Nat.le_of_ble_eq_true rfl) (Nat.le_of_ble_eq_true rfl) (fun c5 => ?_) (fun c5 => ?_)
    · skip
      refine g_aload_n 13 (gd rfl) rfl rfl ?_
      refine g_getA (q2 := 56) 16 (gd rfl) rfl rfl rfl rfl rfl ?_
      refine g_aload_n 17 (gd rfl) rfl rfl ?_
      refine g_callv (X := _) (As := []) (r := [.ref (A 56)]) (b := A 0) (q := 0) 20 (gd rfl) rfl rfl rfl rfl rfl (ww_o rfl) (Nat.le_of_ble_eq_true rfl) (mc := 0) (ms := 0) (Nat.zero_le _) (Nat.zero_le _) (P := fun v u => _) ?_ (fun e u h => h) (fun v u h => h)
      intro po6 xx7 hp8 hx9
      refine g_enter2 (k := 259) (N := 300) (by omega) rfl (Nat.le_of_ble_eq_true rfl) ?_
      refine g_aload_n 1 (gd rfl) rfl rfl ?_
      refine g_getI 4 (gd rfl) rfl rfl rfl (fun z10 e11 => ?_)
      have i12 := inv_F hI (-1) 4000 rfl e11
      refine g_iconst (-1) 5 (gd rfl) rfl rfl ?_
      refine g_cmp_ne 8 18 (gd rfl) rfl rfl (fun c13 => ?_) (fun c13 => ?_)
      · skip
        have i14 := r_ne1 0 4000 c13 i12 (in_c (-1) rfl) rfl
        refine g_aload_n 19 (gd rfl) rfl rfl ?_
        refine g_getA (q2 := 32) 22 (gd rfl) rfl rfl rfl rfl rfl ?_
        refine g_areturn (gd rfl) rfl (hp8 _ _ ?_)
        show GG _ _ _ _ _ _ _ _ [.ref (A 32), .ref (A 56)] _ _ _
        refine g_iload_n 21 (gd rfl) rfl rfl ?_
        refine g_callv (X := _) (As := [.ref (A 32), .int x1]) (r := []) (b := A 56) (q := 56) 24 (gd rfl) rfl rfl rfl rfl rfl (ww_o rfl) (Nat.le_of_ble_eq_true rfl) (mc := 0) (ms := 0) (Nat.zero_le _) (Nat.zero_le _) (P := fun v u => _) ?_ (fun e u h => h) (fun v u h => h)
        intro po15 xx16 hp17 hx18
        refine g_enter2 (k := 144) (N := 300) (by omega) rfl (Nat.le_of_ble_eq_true rfl) ?_
        refine g_aload_n 1 (gd rfl) rfl rfl ?_
        refine g_getI 4 (gd rfl) rfl rfl rfl (fun z19 e20 => ?_)
        have i21 := inv_F hI (-1) 4000 rfl e20
        refine g_aload_n 5 (gd rfl) rfl rfl ?_
        refine g_getI 8 (gd rfl) rfl rfl rfl (fun z22 e23 => ?_)
        have i24 := inv_F hI 0 4000 rfl e23
        refine g_cmp_eq 11 24 (gd rfl) rfl rfl (fun c25 => ?_) (fun c25 => ?_)
        · skip
          have i26 := r_eq1 0 4000 c25 i21 i24 rfl
          refine g_iload_n 25 (gd rfl) rfl rfl ?_
          refine g_aload_n 26 (gd rfl) rfl rfl ?_
          refine g_getI 29 (gd rfl) rfl rfl rfl (fun z27 e28 => ?_)
          have i29 := inv_F hI 0 32 rfl e28
          refine g_cmp_ge 32 41 (gd rfl) rfl rfl (fun c30 => ?_) (fun c30 => ?_)
          · skip
            refine g_iconst (-1) 42 (gd rfl) rfl rfl ?_
            refine g_ireturn (gd rfl) rfl rfl (hp17 _ _ ?_)
            show GG _ _ _ _ _ _ _ _ [.int (Int32.ofInt (-1))] _ _ _
            exact g_ireturn (gd rfl) rfl rfl (hP _ _ ⟨s, hI, (Int32.ofInt (-1)), rfl, rfl, in_w (-1) 31 (in_c (-1) rfl) rfl⟩)
          · skip
            have i31 := r_lt1 0 31 c30 i4 i29 rfl
            have i32 := r_lt2 1 32 c30 i4 i29 rfl
            refine g_aload_n 33 (gd rfl) rfl rfl ?_
            refine g_getA (q2 := 57) 36 (gd rfl) rfl rfl rfl rfl rfl ?_
            refine g_iload_n 37 (gd rfl) rfl rfl ?_
            refine g_iaload 38 (gd rfl) rfl (n := 32) rfl (in_ix i31 rfl) (fun z33 e34 => ?_)
            have i35 := inv_I hI (n := 32) (t := 0) 0 31 rfl (in_ix i31 rfl) rfl e34
            refine g_goto 42 (gd rfl) rfl ?_
            refine g_ireturn (gd rfl) rfl rfl (hp17 _ _ ?_)
            show GG _ _ _ _ _ _ _ _ [.int z33] _ _ _
            exact g_ireturn (gd rfl) rfl rfl (hP _ _ ⟨s, hI, z33, rfl, rfl, in_w (-1) 31 i35 rfl⟩)
        · skip
          refine g_aload_n 12 (gd rfl) rfl rfl ?_
          refine g_aload_n 13 (gd rfl) rfl rfl ?_
          refine g_getI 16 (gd rfl) rfl rfl rfl (fun z36 e37 => ?_)
          have q38 : z22 = z36 := (e23).trans e37.symm
          subst q38
          refine g_putI 19 (gd rfl) rfl rfl rfl rfl ?_
          have hI39 := inv_sF (q := 56) (j := 0) hI rfl (in_w (-1) 4000 i24 rfl)
          refine g_aload_n 20 (gd rfl) rfl rfl ?_
          refine g_aload_n 21 (gd rfl) rfl rfl ?_
          refine g_callv (X := _) (As := [.ref (A 32)]) (r := []) (b := A 56) (q := 56) 24 (gd rfl) rfl rfl rfl rfl rfl (ww_o rfl) (Nat.le_of_ble_eq_true rfl) (Nat.zero_le _) (Nat.zero_le _) (k_145_56_32 (by omega) hI39 ) (fun e u h => h) (fun v u h => ?_)
          obtain ⟨s40, hI41, rfl, rfl⟩ := h
          show GG _ _ _ _ _ _ _ _ [] _ _ _
          refine g_iload_n 25 (gd rfl) rfl rfl ?_
          refine g_aload_n 26 (gd rfl) rfl rfl ?_
          refine g_getI 29 (gd rfl) rfl rfl rfl (fun z44 e45 => ?_)
          have i46 := inv_F hI41 0 32 rfl e45
          refine g_cmp_ge 32 41 (gd rfl) rfl rfl (fun c47 => ?_) (fun c47 => ?_)
          · skip
            refine g_iconst (-1) 42 (gd rfl) rfl rfl ?_
            refine g_ireturn (gd rfl) rfl rfl (hp17 _ _ ?_)
            show GG _ _ _ _ _ _ _ _ [.int (Int32.ofInt (-1))] _ _ _
            exact g_ireturn (gd rfl) rfl rfl (hP _ _ ⟨s40, hI41, (Int32.ofInt (-1)), rfl, rfl, in_w (-1) 31 (in_c (-1) rfl) rfl⟩)
          · skip
            have i48 := r_lt1 0 31 c47 i4 i46 rfl
            have i49 := r_lt2 1 32 c47 i4 i46 rfl
            refine g_aload_n 33 (gd rfl) rfl rfl ?_
            refine g_getA (q2 := 57) 36 (gd rfl) rfl rfl rfl rfl rfl ?_
            refine g_iload_n 37 (gd rfl) rfl rfl ?_
            refine g_iaload 38 (gd rfl) rfl (n := 32) rfl (in_ix i48 rfl) (fun z50 e51 => ?_)
            have i52 := inv_I hI41 (n := 32) (t := 0) 0 31 rfl (in_ix i48 rfl) rfl e51
            refine g_goto 42 (gd rfl) rfl ?_
            refine g_ireturn (gd rfl) rfl rfl (hp17 _ _ ?_)
            show GG _ _ _ _ _ _ _ _ [.int z50] _ _ _
            exact g_ireturn (gd rfl) rfl rfl (hP _ _ ⟨s40, hI41, z50, rfl, rfl, in_w (-1) 31 i52 rfl⟩)
      · skip
        have i53 := r_eq1 (-1) (-1) c13 i12 (in_c (-1) rfl) rfl
        refine g_aload_n 9 (gd rfl) rfl rfl ?_
        refine g_getA (q2 := 1) 12 (gd rfl) rfl rfl rfl rfl rfl ?_
        refine g_getA (q2 := 2) 15 (gd rfl) rfl rfl rfl rfl rfl ?_
        refine g_goto 22 (gd rfl) rfl ?_
        refine g_areturn (gd rfl) rfl (hp8 _ _ ?_)
        show GG _ _ _ _ _ _ _ _ [.ref (A 2), .ref (A 56)] _ _ _
        refine g_iload_n 21 (gd rfl) rfl rfl ?_
        refine g_callv (X := _) (As := [.ref (A 2), .int x1]) (r := []) (b := A 56) (q := 56) 24 (gd rfl) rfl rfl rfl rfl rfl (ww_o rfl) (Nat.le_of_ble_eq_true rfl) (mc := 0) (ms := 0) (Nat.zero_le _) (Nat.zero_le _) (P := fun v u => _) ?_ (fun e u h => h) (fun v u h => h)
        intro po54 xx55 hp56 hx57
        refine g_enter2 (k := 144) (N := 300) (by omega) rfl (Nat.le_of_ble_eq_true rfl) ?_
        refine g_aload_n 1 (gd rfl) rfl rfl ?_
        refine g_getI 4 (gd rfl) rfl rfl rfl (fun z58 e59 => ?_)
        have i60 := inv_F hI (-1) 4000 rfl e59
        refine g_aload_n 5 (gd rfl) rfl rfl ?_
        refine g_getI 8 (gd rfl) rfl rfl rfl (fun z61 e62 => ?_)
        have i63 := inv_F hI 0 4000 rfl e62
        refine g_cmp_eq 11 24 (gd rfl) rfl rfl (fun c64 => ?_) (fun c64 => ?_)
        · skip
          have i65 := r_eq1 0 4000 c64 i60 i63 rfl
          refine g_iload_n 25 (gd rfl) rfl rfl ?_
          refine g_aload_n 26 (gd rfl) rfl rfl ?_
          refine g_getI 29 (gd rfl) rfl rfl rfl (fun z66 e67 => ?_)
          have i68 := inv_F hI 0 32 rfl e67
          refine g_cmp_ge 32 41 (gd rfl) rfl rfl (fun c69 => ?_) (fun c69 => ?_)
          · skip
            refine g_iconst (-1) 42 (gd rfl) rfl rfl ?_
            refine g_ireturn (gd rfl) rfl rfl (hp56 _ _ ?_)
            show GG _ _ _ _ _ _ _ _ [.int (Int32.ofInt (-1))] _ _ _
            exact g_ireturn (gd rfl) rfl rfl (hP _ _ ⟨s, hI, (Int32.ofInt (-1)), rfl, rfl, in_w (-1) 31 (in_c (-1) rfl) rfl⟩)
          · skip
            have i70 := r_lt1 0 31 c69 i4 i68 rfl
            have i71 := r_lt2 1 32 c69 i4 i68 rfl
            refine g_aload_n 33 (gd rfl) rfl rfl ?_
            refine g_getA (q2 := 57) 36 (gd rfl) rfl rfl rfl rfl rfl ?_
            refine g_iload_n 37 (gd rfl) rfl rfl ?_
            refine g_iaload 38 (gd rfl) rfl (n := 32) rfl (in_ix i70 rfl) (fun z72 e73 => ?_)
            have i74 := inv_I hI (n := 32) (t := 0) 0 31 rfl (in_ix i70 rfl) rfl e73
            refine g_goto 42 (gd rfl) rfl ?_
            refine g_ireturn (gd rfl) rfl rfl (hp56 _ _ ?_)
            show GG _ _ _ _ _ _ _ _ [.int z72] _ _ _
            exact g_ireturn (gd rfl) rfl rfl (hP _ _ ⟨s, hI, z72, rfl, rfl, in_w (-1) 31 i74 rfl⟩)
        · skip
          refine g_aload_n 12 (gd rfl) rfl rfl ?_
          refine g_aload_n 13 (gd rfl) rfl rfl ?_
          refine g_getI 16 (gd rfl) rfl rfl rfl (fun z75 e76 => ?_)
          have q77 : z61 = z75 := (e62).trans e76.symm
          subst q77
          refine g_putI 19 (gd rfl) rfl rfl rfl rfl ?_
          have hI78 := inv_sF (q := 56) (j := 0) hI rfl (in_w (-1) 4000 i63 rfl)
          refine g_aload_n 20 (gd rfl) rfl rfl ?_
          refine g_aload_n 21 (gd rfl) rfl rfl ?_
          refine g_callv (X := _) (As := [.ref (A 2)]) (r := []) (b := A 56) (q := 56) 24 (gd rfl) rfl rfl rfl rfl rfl (ww_o rfl) (Nat.le_of_ble_eq_true rfl) (Nat.zero_le _) (Nat.zero_le _) (k_145_56_2 (by omega) hI78 ) (fun e u h => h) (fun v u h => ?_)
          obtain ⟨s79, hI80, rfl, rfl⟩ := h
          show GG _ _ _ _ _ _ _ _ [] _ _ _
          refine g_iload_n 25 (gd rfl) rfl rfl ?_
          refine g_aload_n 26 (gd rfl) rfl rfl ?_
          refine g_getI 29 (gd rfl) rfl rfl rfl (fun z83 e84 => ?_)
          have i85 := inv_F hI80 0 32 rfl e84
          refine g_cmp_ge 32 41 (gd rfl) rfl rfl (fun c86 => ?_) (fun c86 => ?_)
          · skip
            refine g_iconst (-1) 42 (gd rfl) rfl rfl ?_
            refine g_ireturn (gd rfl) rfl rfl (hp56 _ _ ?_)
            show GG _ _ _ _ _ _ _ _ [.int (Int32.ofInt (-1))] _ _ _
            exact g_ireturn (gd rfl) rfl rfl (hP _ _ ⟨s79, hI80, (Int32.ofInt (-1)), rfl, rfl, in_w (-1) 31 (in_c (-1) rfl) rfl⟩)
          · skip
            have i87 := r_lt1 0 31 c86 i4 i85 rfl
            have i88 := r_lt2 1 32 c86 i4 i85 rfl
            refine g_aload_n 33 (gd rfl) rfl rfl ?_
            refine g_getA (q2 := 57) 36 (gd rfl) rfl rfl rfl rfl rfl ?_
            refine g_iload_n 37 (gd rfl) rfl rfl ?_
            refine g_iaload 38 (gd rfl) rfl (n := 32) rfl (in_ix i87 rfl) (fun z89 e90 => ?_)
            have i91 := inv_I hI80 (n := 32) (t := 0) 0 31 rfl (in_ix i87 rfl) rfl e90
            refine g_goto 42 (gd rfl) rfl ?_
            refine g_ireturn (gd rfl) rfl rfl (hp56 _ _ ?_)
            show GG _ _ _ _ _ _ _ _ [.int z89] _ _ _
            exact g_ireturn (gd rfl) rfl rfl (hP _ _ ⟨s79, hI80, z89, rfl, rfl, in_w (-1) 31 i91 rfl⟩)
    · skip
      exact zn_eq c5 (in_c 1 rfl) rfl

/-- GraphHouse.span -/
theorem k_246_0 {Z : AmZ} {A : Nat → Nat} {s : GS} {ex : va_W} {d : Nat} {x1 : Int32} (hd : 7 ≤ d) (hI : Inv s)  : GC Z d 246 [.ref (A 0), .int x1] (WW Z A s ++ ex) 3 18 (fun v u => ∃ t : GS, Inv t ∧ ∃ z : Int32, v = some (.int z) ∧ u = WW Z A t ++ ex ∧ In z 0 1) (gE1 Z A ex) := by
  intro post xp hP hX
  refine g_enter2 (k := 246) (N := 900) (by omega) rfl (Nat.le_of_ble_eq_true rfl) ?_
  refine g_aload_n 1 (gd rfl) rfl rfl ?_
  refine g_callv (X := _) (As := []) (r := []) (b := A 0) (q := 0) 4 (gd rfl) rfl rfl rfl rfl rfl (ww_o rfl) (Nat.le_of_ble_eq_true rfl) (mc := 0) (ms := 0) (Nat.zero_le _) (Nat.zero_le _) (P := fun v u => _) ?_ (fun e u h => h) (fun v u h => h)
  intro po1 xx2 hp3 hx4
  refine g_enter2 (k := 259) (N := 300) (by omega) rfl (Nat.le_of_ble_eq_true rfl) ?_
  refine g_aload_n 1 (gd rfl) rfl rfl ?_
  refine g_getI 4 (gd rfl) rfl rfl rfl (fun z5 e6 => ?_)
  have i7 := inv_F hI (-1) 4000 rfl e6
  refine g_iconst (-1) 5 (gd rfl) rfl rfl ?_
  refine g_cmp_ne 8 18 (gd rfl) rfl rfl (fun c8 => ?_) (fun c8 => ?_)
  · skip
    have i9 := r_ne1 0 4000 c8 i7 (in_c (-1) rfl) rfl
    refine g_aload_n 19 (gd rfl) rfl rfl ?_
    refine g_getA (q2 := 32) 22 (gd rfl) rfl rfl rfl rfl rfl ?_
    refine g_areturn (gd rfl) rfl (hp3 _ _ ?_)
    show GG _ _ _ _ _ _ _ _ [.ref (A 32)] _ _ _
    refine g_astore_n 5 (gd rfl) rfl (Nat.le_of_ble_eq_true rfl) ?_
    refine g_aload_n 6 (gd rfl) rfl rfl ?_
    refine g_iload_n 7 (gd rfl) rfl rfl ?_
    refine g_callv (X := _) (As := [.int x1]) (r := []) (b := A 32) (q := 32) 10 (gd rfl) rfl rfl rfl rfl rfl (ww_o rfl) (Nat.le_of_ble_eq_true rfl) (mc := 0) (ms := 0) (Nat.zero_le _) (Nat.zero_le _) (P := fun v u => _) ?_ (fun e u h => h) (fun v u h => h)
    intro po10 xx11 hp12 hx13
    refine g_enter2 (k := 96) (N := 300) (by omega) rfl (Nat.le_of_ble_eq_true rfl) ?_
    refine g_iload_n 1 (gd rfl) rfl rfl ?_
    refine g_if_lt 4 26 (gd rfl) rfl rfl (fun c14 => ?_) (fun c14 => ?_)
    · skip
      have i15 := z_lt (-2147483648) (-1) c14 (i_rng x1) rfl
      refine g_iconst 0 27 (gd rfl) rfl rfl ?_
      refine g_ireturn (gd rfl) rfl (nb01 (in_w 0 1 (in_c 0 rfl) rfl)) (hp12 _ _ ?_)
      show GG _ _ _ _ _ _ _ _ [.int (Int32.ofInt 0)] _ _ _
      refine g_thr (E := am_IA) (y := yX11_allow) 13 (gd rfl) rfl rfl (Or.inl ⟨rfl, rfl, rfl⟩) (by omega) (Nat.le_of_ble_eq_true rfl) (Nat.le_of_ble_eq_true rfl) (Nat.le_of_ble_eq_true rfl) (fun c16 => ?_) (fun c16 => ?_)
      · skip
        exact zn_ne c16 (in_c 0 rfl) rfl
      · skip
        exact (hX _ _ ⟨rfl, s, hI, rfl⟩)
    · skip
      have i17 := z_ge 0 2147483647 c14 (i_rng x1) rfl
      refine g_iload_n 5 (gd rfl) rfl rfl ?_
      refine g_aload_n 6 (gd rfl) rfl rfl ?_
      refine g_getI 9 (gd rfl) rfl rfl rfl (fun z18 e19 => ?_)
      have i20 := inv_F hI 0 160 rfl e19
      refine g_cmp_ge 12 26 (gd rfl) rfl rfl (fun c21 => ?_) (fun c21 => ?_)
      · skip
        refine g_iconst 0 27 (gd rfl) rfl rfl ?_
        refine g_ireturn (gd rfl) rfl (nb01 (in_w 0 1 (in_c 0 rfl) rfl)) (hp12 _ _ ?_)
        show GG _ _ _ _ _ _ _ _ [.int (Int32.ofInt 0)] _ _ _
        refine g_thr (E := am_IA) (y := yX11_allow) 13 (gd rfl) rfl rfl (Or.inl ⟨rfl, rfl, rfl⟩) (by omega) (Nat.le_of_ble_eq_true rfl) (Nat.le_of_ble_eq_true rfl) (Nat.le_of_ble_eq_true rfl) (fun c22 => ?_) (fun c22 => ?_)
        · skip
          exact zn_ne c22 (in_c 0 rfl) rfl
        · skip
          exact (hX _ _ ⟨rfl, s, hI, rfl⟩)
      · skip
        have i23 := r_lt1 0 159 c21 i17 i20 rfl
        have i24 := r_lt2 1 160 c21 i17 i20 rfl
        refine g_aload_n 13 (gd rfl) rfl rfl ?_
        refine g_getA (q2 := 34) 16 (gd rfl) rfl rfl rfl rfl rfl ?_
        refine g_iload_n 17 (gd rfl) rfl rfl ?_
        refine g_iaload 18 (gd rfl) rfl (n := 160) rfl (in_ix i23 rfl) (fun z25 e26 => ?_)
        have i27 := inv_I hI (n := 160) (t := 0) (-1) 31 rfl (in_ix i23 rfl) rfl e26
        refine g_iconst (-1) 19 (gd rfl) rfl rfl ?_
        refine g_cmp_eq 22 26 (gd rfl) rfl rfl (fun c28 => ?_) (fun c28 => ?_)
        · skip
          have i29 := r_eq1 (-1) (-1) c28 i27 (in_c (-1) rfl) rfl
          refine g_iconst 0 27 (gd rfl) rfl rfl ?_
          refine g_ireturn (gd rfl) rfl (nb01 (in_w 0 1 (in_c 0 rfl) rfl)) (hp12 _ _ ?_)
          show GG _ _ _ _ _ _ _ _ [.int (Int32.ofInt 0)] _ _ _
          refine g_thr (E := am_IA) (y := yX11_allow) 13 (gd rfl) rfl rfl (Or.inl ⟨rfl, rfl, rfl⟩) (by omega) (Nat.le_of_ble_eq_true rfl) (Nat.le_of_ble_eq_true rfl) (Nat.le_of_ble_eq_true rfl) (fun c30 => ?_) (fun c30 => ?_)
          · skip
            exact zn_ne c30 (in_c 0 rfl) rfl
          · skip
            exact (hX _ _ ⟨rfl, s, hI, rfl⟩)
        · skip
          have i31 := r_ne1 0 31 c28 i27 (in_c (-1) rfl) rfl
          refine g_iconst 1 23 (gd rfl) rfl rfl ?_
          refine g_goto 27 (gd rfl) rfl ?_
          refine g_ireturn (gd rfl) rfl (nb01 (in_w 0 1 (in_c 1 rfl) rfl)) (hp12 _ _ ?_)
          show GG _ _ _ _ _ _ _ _ [.int (Int32.ofInt 1)] _ _ _
          refine g_thr (E := am_IA) (y := yX11_allow) 13 (gd rfl) rfl rfl (Or.inl ⟨rfl, rfl, rfl⟩) (by omega) (Nat.le_of_ble_eq_true rfl) (Nat.le_of_ble_eq_true rfl) (Nat.le_of_ble_eq_true rfl) (fun c32 => ?_) (fun c32 => ?_)
          · skip
            refine g_aload_n 14 (gd rfl) rfl rfl ?_
            refine g_getA (q2 := 76) 17 (gd rfl) rfl rfl rfl rfl rfl ?_
            refine g_aload_n 18 (gd rfl) rfl rfl ?_
            refine g_iload_n 19 (gd rfl) rfl rfl ?_
            refine g_callv (X := _) (As := [.ref (A 32), .int x1]) (r := []) (b := A 76) (q := 76) 22 (gd rfl) rfl rfl rfl rfl rfl (ww_o rfl) (Nat.le_of_ble_eq_true rfl) (Nat.zero_le _) (Nat.zero_le _) (k_186_76_32 (by omega) hI (in_w 0 159 i23 rfl)) (fun e u h => h) (fun v u h => ?_)
            obtain ⟨s33, hI34, z35, rfl, rfl, i36⟩ := h
            show GG _ _ _ _ _ _ _ _ [.int z35] _ _ _
            exact g_ireturn (gd rfl) rfl (nb01 (in_w 0 1 i36 rfl)) (hP _ _ ⟨s33, hI34, z35, rfl, rfl, in_w 0 1 i36 rfl⟩)
          · skip
            exact zn_eq c32 (in_c 1 rfl) rfl
  · skip
    have i37 := r_eq1 (-1) (-1) c8 i7 (in_c (-1) rfl) rfl
    refine g_aload_n 9 (gd rfl) rfl rfl ?_
    refine g_getA (q2 := 1) 12 (gd rfl) rfl rfl rfl rfl rfl ?_
    refine g_getA (q2 := 2) 15 (gd rfl) rfl rfl rfl rfl rfl ?_
    refine g_goto 22 (gd rfl) rfl ?_
    refine g_areturn (gd rfl) rfl (hp3 _ _ ?_)
    show GG _ _ _ _ _ _ _ _ [.ref (A 2)] _ _ _
    refine g_astore_n 5 (gd rfl) rfl (Nat.le_of_ble_eq_true rfl) ?_
    refine g_aload_n 6 (gd rfl) rfl rfl ?_
    refine g_iload_n 7 (gd rfl) rfl rfl ?_
    refine g_callv (X := _) (As := [.int x1]) (r := []) (b := A 2) (q := 2) 10 (gd rfl) rfl rfl rfl rfl rfl (ww_o rfl) (Nat.le_of_ble_eq_true rfl) (mc := 0) (ms := 0) (Nat.zero_le _) (Nat.zero_le _) (P := fun v u => _) ?_ (fun e u h => h) (fun v u h => h)
    intro po38 xx39 hp40 hx41
    refine g_enter2 (k := 96) (N := 300) (by omega) rfl (Nat.le_of_ble_eq_true rfl) ?_
    refine g_iload_n 1 (gd rfl) rfl rfl ?_
    refine g_if_lt 4 26 (gd rfl) rfl rfl (fun c42 => ?_) (fun c42 => ?_)
    · skip
      have i43 := z_lt (-2147483648) (-1) c42 (i_rng x1) rfl
      refine g_iconst 0 27 (gd rfl) rfl rfl ?_
      refine g_ireturn (gd rfl) rfl (nb01 (in_w 0 1 (in_c 0 rfl) rfl)) (hp40 _ _ ?_)
      show GG _ _ _ _ _ _ _ _ [.int (Int32.ofInt 0)] _ _ _
      refine g_thr (E := am_IA) (y := yX11_allow) 13 (gd rfl) rfl rfl (Or.inl ⟨rfl, rfl, rfl⟩) (by omega) (Nat.le_of_ble_eq_true rfl) (Nat.le_of_ble_eq_true rfl) (Nat.le_of_ble_eq_true rfl) (fun c44 => ?_) (fun c44 => ?_)
      · skip
        exact zn_ne c44 (in_c 0 rfl) rfl
      · skip
        exact (hX _ _ ⟨rfl, s, hI, rfl⟩)
    · skip
      have i45 := z_ge 0 2147483647 c42 (i_rng x1) rfl
      refine g_iload_n 5 (gd rfl) rfl rfl ?_
      refine g_aload_n 6 (gd rfl) rfl rfl ?_
      refine g_getI 9 (gd rfl) rfl rfl rfl (fun z46 e47 => ?_)
      have i48 := inv_F hI 0 160 rfl e47
      refine g_cmp_ge 12 26 (gd rfl) rfl rfl (fun c49 => ?_) (fun c49 => ?_)
      · skip
        refine g_iconst 0 27 (gd rfl) rfl rfl ?_
        refine g_ireturn (gd rfl) rfl (nb01 (in_w 0 1 (in_c 0 rfl) rfl)) (hp40 _ _ ?_)
        show GG _ _ _ _ _ _ _ _ [.int (Int32.ofInt 0)] _ _ _
        refine g_thr (E := am_IA) (y := yX11_allow) 13 (gd rfl) rfl rfl (Or.inl ⟨rfl, rfl, rfl⟩) (by omega) (Nat.le_of_ble_eq_true rfl) (Nat.le_of_ble_eq_true rfl) (Nat.le_of_ble_eq_true rfl) (fun c50 => ?_) (fun c50 => ?_)
        · skip
          exact zn_ne c50 (in_c 0 rfl) rfl
        · skip
          exact (hX _ _ ⟨rfl, s, hI, rfl⟩)
      · skip
        have i51 := r_lt1 0 159 c49 i45 i48 rfl
        have i52 := r_lt2 1 160 c49 i45 i48 rfl
        refine g_aload_n 13 (gd rfl) rfl rfl ?_
        refine g_getA (q2 := 4) 16 (gd rfl) rfl rfl rfl rfl rfl ?_
        refine g_iload_n 17 (gd rfl) rfl rfl ?_
        refine g_iaload 18 (gd rfl) rfl (n := 160) rfl (in_ix i51 rfl) (fun z53 e54 => ?_)
        have i55 := inv_I hI (n := 160) (t := 0) (-1) 31 rfl (in_ix i51 rfl) rfl e54
        refine g_iconst (-1) 19 (gd rfl) rfl rfl ?_
        refine g_cmp_eq 22 26 (gd rfl) rfl rfl (fun c56 => ?_) (fun c56 => ?_)
        · skip
          have i57 := r_eq1 (-1) (-1) c56 i55 (in_c (-1) rfl) rfl
          refine g_iconst 0 27 (gd rfl) rfl rfl ?_
          refine g_ireturn (gd rfl) rfl (nb01 (in_w 0 1 (in_c 0 rfl) rfl)) (hp40 _ _ ?_)
          show GG _ _ _ _ _ _ _ _ [.int (Int32.ofInt 0)] _ _ _
          refine g_thr (E := am_IA) (y := yX11_allow) 13 (gd rfl) rfl rfl (Or.inl ⟨rfl, rfl, rfl⟩) (by omega) (Nat.le_of_ble_eq_true rfl) (Nat.le_of_ble_eq_true rfl) (Nat.le_of_ble_eq_true rfl) (fun c58 => ?_) (fun c58 => ?_)
          · skip
            exact zn_ne c58 (in_c 0 rfl) rfl
          · skip
            exact (hX _ _ ⟨rfl, s, hI, rfl⟩)
        · skip
          have i59 := r_ne1 0 31 c56 i55 (in_c (-1) rfl) rfl
          refine g_iconst 1 23 (gd rfl) rfl rfl ?_
          refine g_goto 27 (gd rfl) rfl ?_
          refine g_ireturn (gd rfl) rfl (nb01 (in_w 0 1 (in_c 1 rfl) rfl)) (hp40 _ _ ?_)
          show GG _ _ _ _ _ _ _ _ [.int (Int32.ofInt 1)] _ _ _
          refine g_thr (E := am_IA) (y := yX11_allow) 13 (gd rfl) rfl rfl (Or.inl ⟨rfl, rfl, rfl⟩) (by omega) (Nat.le_of_ble_eq_true rfl) (Nat.le_of_ble_eq_true rfl) (Nat.le_of_ble_eq_true rfl) (fun c60 => ?_) (fun c60 => ?_)
          · skip
            refine g_aload_n 14 (gd rfl) rfl rfl ?_
            refine g_getA (q2 := 76) 17 (gd rfl) rfl rfl rfl rfl rfl ?_
            refine g_aload_n 18 (gd rfl) rfl rfl ?_
            refine g_iload_n 19 (gd rfl) rfl rfl ?_
            refine g_callv (X := _) (As := [.ref (A 2), .int x1]) (r := []) (b := A 76) (q := 76) 22 (gd rfl) rfl rfl rfl rfl rfl (ww_o rfl) (Nat.le_of_ble_eq_true rfl) (Nat.zero_le _) (Nat.zero_le _) (k_186_76_2 (by omega) hI (in_w 0 159 i51 rfl)) (fun e u h => h) (fun v u h => ?_)
            obtain ⟨s61, hI62, z63, rfl, rfl, i64⟩ := h
            show GG _ _ _ _ _ _ _ _ [.int z63] _ _ _
            exact g_ireturn (gd rfl) rfl (nb01 (in_w 0 1 i64 rfl)) (hP _ _ ⟨s61, hI62, z63, rfl, rfl, in_w 0 1 i64 rfl⟩)
          · skip
            exact zn_eq c60 (in_c 1 rfl) rfl

/-- GraphHouseModel.nextToken -/
theorem k_299 {Z : AmZ} {A : Nat → Nat} {s : GS} {ex : va_W} {d : Nat} {X : AmX} {u_109_27 : Int32} {u_109_22 : Int32} (hd : 4 ≤ d) (hI : Inv s) (e_109_27 : u_109_27 = s.2.2.1 109 27) (e_109_22 : u_109_22 = s.2.2.1 109 22) (p_0 : (u_109_27).toInt ≤ (u_109_22).toInt) : GC Z d 299 [.ref (A 109)] (WW Z A s ++ ex) 0 0 (fun v u => ∃ t : GS, Inv t ∧ (t.2.2.1 109 27).toInt ≤ (t.2.2.1 109 22).toInt ∧ v = none ∧ u = WW Z A t ++ ex) X := by
  intro post xp hP hX
  have ct0 : ∀ (k0 : Nat) (s : GS) (w0_109_27 : Int32) (w0_109_22 : Int32), Inv s → w0_109_27 = s.2.2.1 109 27 → w0_109_22 = s.2.2.1 109 22 → (w0_109_27).toInt ≤ (w0_109_22).toInt → (w0_109_22).toInt - (w0_109_27).toInt < (k0 : Int) → GG Z (d - 1) 299 post (gx xp) (1 + k0 * 900) 0 (fun j => xlook j [(0, .ref (A 109))]) [] (WW Z A s ++ ex) 0 0 := by
    intro k0
    induction k0 with
    | zero => intro s w0_109_27 w0_109_22 hI v0_109_27 v0_109_22 n0_0 mm0; exfalso; have a0 := (inv_F hI 0 1000 rfl v0_109_22); unfold In at a0; have a1 := (inv_F hI 0 1000 rfl v0_109_27); unfold In at a1; omega
    | succ k0 ih0 =>
      intro s w0_109_27 w0_109_22 hI v0_109_27 v0_109_22 n0_0 mm0
      refine gg_w (M := 1 + k0 * 900 + 900) (by omega) ?_
      refine g_aload_n 1 (gd rfl) rfl rfl ?_
      refine g_getI 4 (gd rfl) rfl rfl rfl (fun z1 e2 => ?_)
      have q3 : w0_109_27 = z1 := (v0_109_27).trans e2.symm
      subst q3
      refine g_aload_n 5 (gd rfl) rfl rfl ?_
      refine g_getI 8 (gd rfl) rfl rfl rfl (fun z4 e5 => ?_)
      have q6 : w0_109_22 = z4 := (v0_109_22).trans e5.symm
      subst q6
      refine g_cmp_ge 11 38 (gd rfl) rfl rfl (fun c7 => ?_) (fun c7 => ?_)
      · skip
        refine g_aload_n 39 (gd rfl) rfl rfl ?_
        refine g_aload_n 40 (gd rfl) rfl rfl ?_
        refine g_getI 43 (gd rfl) rfl rfl rfl (fun z8 e9 => ?_)
        have q10 : w0_109_27 = z8 := (v0_109_27).trans e9.symm
        subst q10
        refine g_putI 46 (gd rfl) rfl rfl rfl rfl ?_
        have hI11 := inv_sF (q := 109) (j := 29) hI rfl (in_w 0 1000 (inv_F hI 0 1000 rfl v0_109_27) rfl)
        refine g_aload_n 47 (gd rfl) rfl rfl ?_
        refine g_getI 50 (gd rfl) rfl rfl rfl (fun z12 e13 => ?_)
        have q14 : w0_109_27 = z12 := (sF_ne rfl (v0_109_27)).trans e13.symm
        subst q14
        refine g_aload_n 51 (gd rfl) rfl rfl ?_
        refine g_getI 54 (gd rfl) rfl rfl rfl (fun z15 e16 => ?_)
        have q17 : w0_109_22 = z15 := (sF_ne rfl (v0_109_22)).trans e16.symm
        subst q17
        refine g_cmp_ne 57 63 (gd rfl) rfl rfl (fun c18 => ?_) (fun c18 => ?_)
        · skip
          refine g_aload_n 64 (gd rfl) rfl rfl ?_
          refine g_getA (q2 := 125) 67 (gd rfl) rfl rfl rfl rfl rfl ?_
          refine g_aload_n 68 (gd rfl) rfl rfl ?_
          refine g_getI 71 (gd rfl) rfl rfl rfl (fun z19 e20 => ?_)
          have q21 : w0_109_27 = z19 := (sF_ne rfl (v0_109_27)).trans e20.symm
          subst q21
          have i22 : In w0_109_27 0 999 := by have a0 := (inv_F hI 0 1000 rfl v0_109_27); unfold In at a0; have a1 := (inv_F hI 0 1000 rfl v0_109_22); unfold In at a1; exact ⟨by omega, by omega⟩
          refine g_iaload 72 (gd rfl) rfl (n := 1000) rfl (in_ix i22 rfl) (fun z23 e24 => ?_)
          have i25 := inv_I hI11 (n := 1000) (t := 0) 0 126 rfl (in_ix i22 rfl) rfl e24
          refine g_istore_n 73 (gd rfl) rfl (Nat.le_of_ble_eq_true rfl) ?_
          refine g_aload_n 74 (gd rfl) rfl rfl ?_
          refine g_iload_n 75 (gd rfl) rfl rfl ?_
          refine g_putI 78 (gd rfl) rfl rfl rfl rfl ?_
          have hI26 := inv_sF (q := 109) (j := 30) hI11 rfl (in_w (-2147483648) 2147483647 i25 rfl)
          refine g_iload_n 79 (gd rfl) rfl rfl ?_
          refine g_bipush 45 81 (gd rfl) rfl rfl ?_
          refine g_cmp_ne 84 118 (gd rfl) rfl rfl (fun c27 => ?_) (fun c27 => ?_)
          · skip
            refine g_iconst 0 119 (gd rfl) rfl rfl ?_
            refine g_istore_n 120 (gd rfl) rfl (Nat.le_of_ble_eq_true rfl) ?_
            refine g_iload_n 121 (gd rfl) rfl rfl ?_
            refine g_calls (As := [.int z23]) (r := []) 124 (gd rfl) rfl rfl rfl rfl rfl (Nat.le_of_ble_eq_true rfl) (mc := 0) (ms := 0) (Nat.zero_le _) (Nat.zero_le _) (P := fun v u => _) ?_ (fun v u h => h)
            intro po28 xx29 hp30 hx31
            refine g_enter2 (k := 297) (N := 300) (by omega) rfl (Nat.le_of_ble_eq_true rfl) ?_
            refine g_iload_n 1 (gd rfl) rfl rfl ?_
            refine g_bipush 48 3 (gd rfl) rfl rfl ?_
            refine g_cmp_lt 6 16 (gd rfl) rfl rfl (fun c32 => ?_) (fun c32 => ?_)
            · skip
              have i33 := r_lt1 0 47 c32 i25 (in_c 48 rfl) rfl
              refine g_iconst 0 17 (gd rfl) rfl rfl ?_
              refine g_ireturn (gd rfl) rfl (nb01 (in_w 0 1 (in_c 0 rfl) rfl)) (hp30 _ _ ?_)
              show GG _ _ _ _ _ _ _ _ [.int (Int32.ofInt 0)] _ _ _
              refine g_if_ne 127 131 (gd rfl) rfl rfl (fun c34 => ?_) (fun c34 => ?_)
              · skip
                exact zn_ne c34 (in_c 0 rfl) rfl
              · skip
                refine g_iload_n 128 (gd rfl) rfl rfl ?_
                refine g_if_eq 131 181 (gd rfl) rfl rfl (fun c35 => ?_) (fun c35 => ?_)
                · skip
                  refine g_aload_n 182 (gd rfl) rfl rfl ?_
                  refine g_iload_n 183 (gd rfl) rfl rfl ?_
                  refine g_calls (As := [.int z23]) (r := [.ref (A 109)]) 186 (gd rfl) rfl rfl rfl rfl rfl (Nat.le_of_ble_eq_true rfl) (mc := 0) (ms := 0) (Nat.zero_le _) (Nat.zero_le _) (P := fun v u => _) ?_ (fun v u h => h)
                  intro po36 xx37 hp38 hx39
                  refine g_enter2 (k := 296) (N := 300) (by omega) rfl (Nat.le_of_ble_eq_true rfl) ?_
                  refine g_iload_n 1 (gd rfl) rfl rfl ?_
                  refine g_bipush 97 3 (gd rfl) rfl rfl ?_
                  refine g_cmp_lt 6 16 (gd rfl) rfl rfl (fun c40 => ?_) (fun c40 => ?_)
                  · skip
                    refine g_iconst 0 17 (gd rfl) rfl rfl ?_
                    refine g_ireturn (gd rfl) rfl (nb01 (in_w 0 1 (in_c 0 rfl) rfl)) (hp38 _ _ ?_)
                    show GG _ _ _ _ _ _ _ _ [.int (Int32.ofInt 0), .ref (A 109)] _ _ _
                    refine g_if_eq 189 193 (gd rfl) rfl rfl (fun c41 => ?_) (fun c41 => ?_)
                    · skip
                      refine g_iconst 3 194 (gd rfl) rfl rfl ?_
                      refine g_putI 197 (gd rfl) rfl rfl rfl rfl ?_
                      have hI42 := inv_sF (q := 109) (j := 28) hI26 rfl (in_w (-2147483648) 2147483647 (in_c 3 rfl) rfl)
                      refine g_aload_n 198 (gd rfl) rfl rfl ?_
                      refine g_getI 201 (gd rfl) rfl rfl rfl (fun z43 e44 => ?_)
                      have q45 : (Int32.ofInt 3) = z43 := (sF_get).trans e44.symm
                      subst q45
                      refine g_iconst 3 202 (gd rfl) rfl rfl ?_
                      refine g_cmp_ne 205 220 (gd rfl) rfl rfl (fun c46 => ?_) (fun c46 => ?_)
                      · skip
                        exact n_ne c46 (in_c 3 rfl) (in_c 3 rfl) rfl
                      · skip
                        refine g_iload_n 206 (gd rfl) rfl rfl ?_
                        refine g_bipush 59 208 (gd rfl) rfl rfl ?_
                        refine g_cmp_eq 211 220 (gd rfl) rfl rfl (fun c47 => ?_) (fun c47 => ?_)
                        · skip
                          exact n_eq c47 i33 (in_c 59 rfl) rfl
                        · skip
                          refine g_aload_n 212 (gd rfl) rfl rfl ?_
                          refine g_iconst 1 213 (gd rfl) rfl rfl ?_
                          refine g_aload_n 214 (gd rfl) rfl rfl ?_
                          refine g_getI 217 (gd rfl) rfl rfl rfl (fun z48 e49 => ?_)
                          have q50 : w0_109_27 = z48 := (sF_ne rfl (sF_ne rfl (sF_get))).trans e49.symm
                          subst q50
                          refine g_callv (X := _) (As := [.int (Int32.ofInt 1), .int w0_109_27]) (r := []) (b := A 109) (q := 109) 220 (gd rfl) rfl rfl rfl rfl rfl (ww_o rfl) (Nat.le_of_ble_eq_true rfl) (mc := 0) (ms := 0) (Nat.zero_le _) (Nat.zero_le _) (P := fun v u => _) ?_ (fun e u h => h) (fun v u h => h)
                          intro po51 xx52 hp53 hx54
                          refine g_enter2 (k := 298) (N := 300) (by omega) rfl (Nat.le_of_ble_eq_true rfl) ?_
                          refine g_aload_n 1 (gd rfl) rfl rfl ?_
                          refine g_getI 4 (gd rfl) rfl rfl rfl (fun z55 e56 => ?_)
                          refine g_if_ne 7 17 (gd rfl) rfl rfl (fun c57 => ?_) (fun c57 => ?_)
                          · skip
                            refine g_return (gd rfl) rfl (hp53 _ _ ?_)
                            show GG _ _ _ _ _ _ _ _ [] _ _ _
                            refine g_aload_n 221 (gd rfl) rfl rfl ?_
                            refine g_dup 222 (gd rfl) rfl rfl ?_
                            refine g_getI 225 (gd rfl) rfl rfl rfl (fun z58 e59 => ?_)
                            have q60 : w0_109_27 = z58 := (sF_ne rfl (sF_ne rfl (sF_ne rfl (v0_109_27)))).trans e59.symm
                            subst q60
                            refine g_iconst 1 226 (gd rfl) rfl rfl ?_
                            refine g_iadd 227 (gd rfl) rfl (fun z61 e62 => ?_)
                            have i63 := in_add 1 1000 e62 i22 (in_c 1 rfl) rfl rfl
                            refine g_putI 230 (gd rfl) rfl rfl rfl rfl ?_
                            have hI64 := inv_sF (q := 109) (j := 27) hI42 rfl (in_w 0 1000 i63 rfl)
                            have n65 : (z61).toInt ≤ (w0_109_22).toInt := by have a0 := (in_c 0 rfl); unfold In at a0; have a1 := i33; unfold In at a1; have a2 := i63; unfold In at a2; have a3 := t_add e62 i22 (in_c 1 rfl) rfl; have a4 := (in_c 1 rfl); unfold In at a4; have a5 := i22; unfold In at a5; have a6 := (in_c 3 rfl); unfold In at a6; have a7 := (inv_F hI 0 1000 rfl v0_109_22); unfold In at a7; omega
                            have n66 : ((sF (sF (sF (sF s 109 29 w0_109_27) 109 30 z23) 109 28 (Int32.ofInt 3)) 109 27 z61).2.2.1 109 27).toInt ≤ ((sF (sF (sF (sF s 109 29 w0_109_27) 109 30 z23) 109 28 (Int32.ofInt 3)) 109 27 z61).2.2.1 109 22).toInt := by have b0 : z61 = (sF (sF (sF (sF s 109 29 w0_109_27) 109 30 z23) 109 28 (Int32.ofInt 3)) 109 27 z61).2.2.1 109 27 := sF_get; have b1 : w0_109_22 = (sF (sF (sF (sF s 109 29 w0_109_27) 109 30 z23) 109 28 (Int32.ofInt 3)) 109 27 z61).2.2.1 109 22 := sF_ne rfl (sF_ne rfl (sF_ne rfl (sF_ne rfl (v0_109_22)))); rw [← b0, ← b1]; exact n65
                            exact g_return (gd rfl) rfl (hP _ _ ⟨(sF (sF (sF (sF s 109 29 w0_109_27) 109 30 z23) 109 28 (Int32.ofInt 3)) 109 27 z61), hI64, n66, rfl, rfl⟩)
                          · skip
                            have i67 := z_eq 0 0 c57 (i_rng z55) rfl
                            refine g_aload_n 8 (gd rfl) rfl rfl ?_
                            refine g_iload_n 9 (gd rfl) rfl rfl ?_
                            refine g_putI 12 (gd rfl) rfl rfl rfl rfl ?_
                            have hI68 := inv_sF (q := 109) (j := 23) hI42 rfl (in_w (-2147483648) 2147483647 (in_c 1 rfl) rfl)
                            refine g_aload_n 13 (gd rfl) rfl rfl ?_
                            refine g_iload_n 14 (gd rfl) rfl rfl ?_
                            refine g_putI 17 (gd rfl) rfl rfl rfl rfl ?_
                            have hI69 := inv_sF (q := 109) (j := 24) hI68 rfl (in_w (-2147483648) 2147483647 i22 rfl)
                            refine g_return (gd rfl) rfl (hp53 _ _ ?_)
                            show GG _ _ _ _ _ _ _ _ [] _ _ _
                            refine g_aload_n 221 (gd rfl) rfl rfl ?_
                            refine g_dup 222 (gd rfl) rfl rfl ?_
                            refine g_getI 225 (gd rfl) rfl rfl rfl (fun z70 e71 => ?_)
                            have q72 : w0_109_27 = z70 := (sF_ne rfl (sF_ne rfl (sF_ne rfl (sF_ne rfl (sF_ne rfl (v0_109_27)))))).trans e71.symm
                            subst q72
                            refine g_iconst 1 226 (gd rfl) rfl rfl ?_
                            refine g_iadd 227 (gd rfl) rfl (fun z73 e74 => ?_)
                            have i75 := in_add 1 1000 e74 i22 (in_c 1 rfl) rfl rfl
                            refine g_putI 230 (gd rfl) rfl rfl rfl rfl ?_
                            have hI76 := inv_sF (q := 109) (j := 27) hI69 rfl (in_w 0 1000 i75 rfl)
                            have n77 : (z73).toInt ≤ (w0_109_22).toInt := by have a0 := (in_c 0 rfl); unfold In at a0; have a1 := i33; unfold In at a1; have a2 := i75; unfold In at a2; have a3 := t_add e74 i22 (in_c 1 rfl) rfl; have a4 := (in_c 1 rfl); unfold In at a4; have a5 := i22; unfold In at a5; have a6 := (in_c 3 rfl); unfold In at a6; have a7 := (inv_F hI 0 1000 rfl v0_109_22); unfold In at a7; omega
                            have n78 : ((sF (sF (sF (sF (sF (sF s 109 29 w0_109_27) 109 30 z23) 109 28 (Int32.ofInt 3)) 109 23 (Int32.ofInt 1)) 109 24 w0_109_27) 109 27 z73).2.2.1 109 27).toInt ≤ ((sF (sF (sF (sF (sF (sF s 109 29 w0_109_27) 109 30 z23) 109 28 (Int32.ofInt 3)) 109 23 (Int32.ofInt 1)) 109 24 w0_109_27) 109 27 z73).2.2.1 109 22).toInt := by have b0 : z73 = (sF (sF (sF (sF (sF (sF s 109 29 w0_109_27) 109 30 z23) 109 28 (Int32.ofInt 3)) 109 23 (Int32.ofInt 1)) 109 24 w0_109_27) 109 27 z73).2.2.1 109 27 := sF_get; have b1 : w0_109_22 = (sF (sF (sF (sF (sF (sF s 109 29 w0_109_27) 109 30 z23) 109 28 (Int32.ofInt 3)) 109 23 (Int32.ofInt 1)) 109 24 w0_109_27) 109 27 z73).2.2.1 109 22 := sF_ne rfl (sF_ne rfl (sF_ne rfl (sF_ne rfl (sF_ne rfl (sF_ne rfl (v0_109_22)))))); rw [← b0, ← b1]; exact n77
                            exact g_return (gd rfl) rfl (hP _ _ ⟨(sF (sF (sF (sF (sF (sF s 109 29 w0_109_27) 109 30 z23) 109 28 (Int32.ofInt 3)) 109 23 (Int32.ofInt 1)) 109 24 w0_109_27) 109 27 z73), hI76, n78, rfl, rfl⟩)
                    · skip
                      exact zn_ne c41 (in_c 0 rfl) rfl
                  · skip
                    exact n_le c40 (in_c 97 rfl) i33 rfl
                · skip
                  exact zn_ne c35 (in_c 0 rfl) rfl
            · skip
              have i79 := r_le2 48 126 c32 (in_c 48 rfl) i25 rfl
              refine g_iload_n 7 (gd rfl) rfl rfl ?_
              refine g_bipush 57 9 (gd rfl) rfl rfl ?_
              refine g_cmp_gt 12 16 (gd rfl) rfl rfl (fun c80 => ?_) (fun c80 => ?_)
              · skip
                have i81 := r_lt2 58 126 c80 (in_c 57 rfl) i79 rfl
                refine g_iconst 0 17 (gd rfl) rfl rfl ?_
                refine g_ireturn (gd rfl) rfl (nb01 (in_w 0 1 (in_c 0 rfl) rfl)) (hp30 _ _ ?_)
                show GG _ _ _ _ _ _ _ _ [.int (Int32.ofInt 0)] _ _ _
                refine g_if_ne 127 131 (gd rfl) rfl rfl (fun c82 => ?_) (fun c82 => ?_)
                · skip
                  exact zn_ne c82 (in_c 0 rfl) rfl
                · skip
                  refine g_iload_n 128 (gd rfl) rfl rfl ?_
                  refine g_if_eq 131 181 (gd rfl) rfl rfl (fun c83 => ?_) (fun c83 => ?_)
                  · skip
                    refine g_aload_n 182 (gd rfl) rfl rfl ?_
                    refine g_iload_n 183 (gd rfl) rfl rfl ?_
                    refine g_calls (As := [.int z23]) (r := [.ref (A 109)]) 186 (gd rfl) rfl rfl rfl rfl rfl (Nat.le_of_ble_eq_true rfl) (mc := 0) (ms := 0) (Nat.zero_le _) (Nat.zero_le _) (P := fun v u => _) ?_ (fun v u h => h)
                    intro po84 xx85 hp86 hx87
                    refine g_enter2 (k := 296) (N := 300) (by omega) rfl (Nat.le_of_ble_eq_true rfl) ?_
                    refine g_iload_n 1 (gd rfl) rfl rfl ?_
                    refine g_bipush 97 3 (gd rfl) rfl rfl ?_
                    refine g_cmp_lt 6 16 (gd rfl) rfl rfl (fun c88 => ?_) (fun c88 => ?_)
                    · skip
                      have i89 := r_lt1 58 96 c88 i81 (in_c 97 rfl) rfl
                      refine g_iconst 0 17 (gd rfl) rfl rfl ?_
                      refine g_ireturn (gd rfl) rfl (nb01 (in_w 0 1 (in_c 0 rfl) rfl)) (hp86 _ _ ?_)
                      show GG _ _ _ _ _ _ _ _ [.int (Int32.ofInt 0), .ref (A 109)] _ _ _
                      refine g_if_eq 189 193 (gd rfl) rfl rfl (fun c90 => ?_) (fun c90 => ?_)
                      · skip
                        refine g_iconst 3 194 (gd rfl) rfl rfl ?_
                        refine g_putI 197 (gd rfl) rfl rfl rfl rfl ?_
                        have hI91 := inv_sF (q := 109) (j := 28) hI26 rfl (in_w (-2147483648) 2147483647 (in_c 3 rfl) rfl)
                        refine g_aload_n 198 (gd rfl) rfl rfl ?_
                        refine g_getI 201 (gd rfl) rfl rfl rfl (fun z92 e93 => ?_)
                        have q94 : (Int32.ofInt 3) = z92 := (sF_get).trans e93.symm
                        subst q94
                        refine g_iconst 3 202 (gd rfl) rfl rfl ?_
                        refine g_cmp_ne 205 220 (gd rfl) rfl rfl (fun c95 => ?_) (fun c95 => ?_)
                        · skip
                          exact n_ne c95 (in_c 3 rfl) (in_c 3 rfl) rfl
                        · skip
                          refine g_iload_n 206 (gd rfl) rfl rfl ?_
                          refine g_bipush 59 208 (gd rfl) rfl rfl ?_
                          refine g_cmp_eq 211 220 (gd rfl) rfl rfl (fun c96 => ?_) (fun c96 => ?_)
                          · skip
                            have i97 := r_eq1 59 59 c96 i89 (in_c 59 rfl) rfl
                            refine g_aload_n 221 (gd rfl) rfl rfl ?_
                            refine g_dup 222 (gd rfl) rfl rfl ?_
                            refine g_getI 225 (gd rfl) rfl rfl rfl (fun z98 e99 => ?_)
                            have q100 : w0_109_27 = z98 := (sF_ne rfl (sF_ne rfl (sF_ne rfl (v0_109_27)))).trans e99.symm
                            subst q100
                            refine g_iconst 1 226 (gd rfl) rfl rfl ?_
                            refine g_iadd 227 (gd rfl) rfl (fun z101 e102 => ?_)
                            have i103 := in_add 1 1000 e102 i22 (in_c 1 rfl) rfl rfl
                            refine g_putI 230 (gd rfl) rfl rfl rfl rfl ?_
                            have hI104 := inv_sF (q := 109) (j := 27) hI91 rfl (in_w 0 1000 i103 rfl)
                            have n105 : (z101).toInt ≤ (w0_109_22).toInt := by have a0 := (in_c 0 rfl); unfold In at a0; have a1 := i97; unfold In at a1; have a2 := i103; unfold In at a2; have a3 := t_add e102 i22 (in_c 1 rfl) rfl; have a4 := (in_c 1 rfl); unfold In at a4; have a5 := i22; unfold In at a5; have a6 := (in_c 3 rfl); unfold In at a6; have a7 := (inv_F hI 0 1000 rfl v0_109_22); unfold In at a7; omega
                            have n106 : ((sF (sF (sF (sF s 109 29 w0_109_27) 109 30 z23) 109 28 (Int32.ofInt 3)) 109 27 z101).2.2.1 109 27).toInt ≤ ((sF (sF (sF (sF s 109 29 w0_109_27) 109 30 z23) 109 28 (Int32.ofInt 3)) 109 27 z101).2.2.1 109 22).toInt := by have b0 : z101 = (sF (sF (sF (sF s 109 29 w0_109_27) 109 30 z23) 109 28 (Int32.ofInt 3)) 109 27 z101).2.2.1 109 27 := sF_get; have b1 : w0_109_22 = (sF (sF (sF (sF s 109 29 w0_109_27) 109 30 z23) 109 28 (Int32.ofInt 3)) 109 27 z101).2.2.1 109 22 := sF_ne rfl (sF_ne rfl (sF_ne rfl (sF_ne rfl (v0_109_22)))); rw [← b0, ← b1]; exact n105
                            exact g_return (gd rfl) rfl (hP _ _ ⟨(sF (sF (sF (sF s 109 29 w0_109_27) 109 30 z23) 109 28 (Int32.ofInt 3)) 109 27 z101), hI104, n106, rfl, rfl⟩)
                          · skip
                            refine g_aload_n 212 (gd rfl) rfl rfl ?_
                            refine g_iconst 1 213 (gd rfl) rfl rfl ?_
                            refine g_aload_n 214 (gd rfl) rfl rfl ?_
                            refine g_getI 217 (gd rfl) rfl rfl rfl (fun z107 e108 => ?_)
                            have q109 : w0_109_27 = z107 := (sF_ne rfl (sF_ne rfl (sF_get))).trans e108.symm
                            subst q109
                            refine g_callv (X := _) (As := [.int (Int32.ofInt 1), .int w0_109_27]) (r := []) (b := A 109) (q := 109) 220 (gd rfl) rfl rfl rfl rfl rfl (ww_o rfl) (Nat.le_of_ble_eq_true rfl) (mc := 0) (ms := 0) (Nat.zero_le _) (Nat.zero_le _) (P := fun v u => _) ?_ (fun e u h => h) (fun v u h => h)
                            intro po110 xx111 hp112 hx113
                            refine g_enter2 (k := 298) (N := 300) (by omega) rfl (Nat.le_of_ble_eq_true rfl) ?_
                            refine g_aload_n 1 (gd rfl) rfl rfl ?_
                            refine g_getI 4 (gd rfl) rfl rfl rfl (fun z114 e115 => ?_)
                            refine g_if_ne 7 17 (gd rfl) rfl rfl (fun c116 => ?_) (fun c116 => ?_)
                            · skip
                              refine g_return (gd rfl) rfl (hp112 _ _ ?_)
                              show GG _ _ _ _ _ _ _ _ [] _ _ _
                              refine g_aload_n 221 (gd rfl) rfl rfl ?_
                              refine g_dup 222 (gd rfl) rfl rfl ?_
                              refine g_getI 225 (gd rfl) rfl rfl rfl (fun z117 e118 => ?_)
                              have q119 : w0_109_27 = z117 := (sF_ne rfl (sF_ne rfl (sF_ne rfl (v0_109_27)))).trans e118.symm
                              subst q119
                              refine g_iconst 1 226 (gd rfl) rfl rfl ?_
                              refine g_iadd 227 (gd rfl) rfl (fun z120 e121 => ?_)
                              have i122 := in_add 1 1000 e121 i22 (in_c 1 rfl) rfl rfl
                              refine g_putI 230 (gd rfl) rfl rfl rfl rfl ?_
                              have hI123 := inv_sF (q := 109) (j := 27) hI91 rfl (in_w 0 1000 i122 rfl)
                              have n124 : (z120).toInt ≤ (w0_109_22).toInt := by have a0 := (in_c 0 rfl); unfold In at a0; have a1 := i89; unfold In at a1; have a2 := i122; unfold In at a2; have a3 := t_add e121 i22 (in_c 1 rfl) rfl; have a4 := (in_c 1 rfl); unfold In at a4; have a5 := i22; unfold In at a5; have a6 := (in_c 3 rfl); unfold In at a6; have a7 := (inv_F hI 0 1000 rfl v0_109_22); unfold In at a7; omega
                              have n125 : ((sF (sF (sF (sF s 109 29 w0_109_27) 109 30 z23) 109 28 (Int32.ofInt 3)) 109 27 z120).2.2.1 109 27).toInt ≤ ((sF (sF (sF (sF s 109 29 w0_109_27) 109 30 z23) 109 28 (Int32.ofInt 3)) 109 27 z120).2.2.1 109 22).toInt := by have b0 : z120 = (sF (sF (sF (sF s 109 29 w0_109_27) 109 30 z23) 109 28 (Int32.ofInt 3)) 109 27 z120).2.2.1 109 27 := sF_get; have b1 : w0_109_22 = (sF (sF (sF (sF s 109 29 w0_109_27) 109 30 z23) 109 28 (Int32.ofInt 3)) 109 27 z120).2.2.1 109 22 := sF_ne rfl (sF_ne rfl (sF_ne rfl (sF_ne rfl (v0_109_22)))); rw [← b0, ← b1]; exact n124
                              exact g_return (gd rfl) rfl (hP _ _ ⟨(sF (sF (sF (sF s 109 29 w0_109_27) 109 30 z23) 109 28 (Int32.ofInt 3)) 109 27 z120), hI123, n125, rfl, rfl⟩)
                            · skip
                              have i126 := z_eq 0 0 c116 (i_rng z114) rfl
                              refine g_aload_n 8 (gd rfl) rfl rfl ?_
                              refine g_iload_n 9 (gd rfl) rfl rfl ?_
                              refine g_putI 12 (gd rfl) rfl rfl rfl rfl ?_
                              have hI127 := inv_sF (q := 109) (j := 23) hI91 rfl (in_w (-2147483648) 2147483647 (in_c 1 rfl) rfl)
                              refine g_aload_n 13 (gd rfl) rfl rfl ?_
                              refine g_iload_n 14 (gd rfl) rfl rfl ?_
                              refine g_putI 17 (gd rfl) rfl rfl rfl rfl ?_
                              have hI128 := inv_sF (q := 109) (j := 24) hI127 rfl (in_w (-2147483648) 2147483647 i22 rfl)
                              refine g_return (gd rfl) rfl (hp112 _ _ ?_)
                              show GG _ _ _ _ _ _ _ _ [] _ _ _
                              refine g_aload_n 221 (gd rfl) rfl rfl ?_
                              refine g_dup 222 (gd rfl) rfl rfl ?_
                              refine g_getI 225 (gd rfl) rfl rfl rfl (fun z129 e130 => ?_)
                              have q131 : w0_109_27 = z129 := (sF_ne rfl (sF_ne rfl (sF_ne rfl (sF_ne rfl (sF_ne rfl (v0_109_27)))))).trans e130.symm
                              subst q131
                              refine g_iconst 1 226 (gd rfl) rfl rfl ?_
                              refine g_iadd 227 (gd rfl) rfl (fun z132 e133 => ?_)
                              have i134 := in_add 1 1000 e133 i22 (in_c 1 rfl) rfl rfl
                              refine g_putI 230 (gd rfl) rfl rfl rfl rfl ?_
                              have hI135 := inv_sF (q := 109) (j := 27) hI128 rfl (in_w 0 1000 i134 rfl)
                              have n136 : (z132).toInt ≤ (w0_109_22).toInt := by have a0 := (in_c 0 rfl); unfold In at a0; have a1 := i89; unfold In at a1; have a2 := i134; unfold In at a2; have a3 := t_add e133 i22 (in_c 1 rfl) rfl; have a4 := (in_c 1 rfl); unfold In at a4; have a5 := i22; unfold In at a5; have a6 := (in_c 3 rfl); unfold In at a6; have a7 := (inv_F hI 0 1000 rfl v0_109_22); unfold In at a7; omega
                              have n137 : ((sF (sF (sF (sF (sF (sF s 109 29 w0_109_27) 109 30 z23) 109 28 (Int32.ofInt 3)) 109 23 (Int32.ofInt 1)) 109 24 w0_109_27) 109 27 z132).2.2.1 109 27).toInt ≤ ((sF (sF (sF (sF (sF (sF s 109 29 w0_109_27) 109 30 z23) 109 28 (Int32.ofInt 3)) 109 23 (Int32.ofInt 1)) 109 24 w0_109_27) 109 27 z132).2.2.1 109 22).toInt := by have b0 : z132 = (sF (sF (sF (sF (sF (sF s 109 29 w0_109_27) 109 30 z23) 109 28 (Int32.ofInt 3)) 109 23 (Int32.ofInt 1)) 109 24 w0_109_27) 109 27 z132).2.2.1 109 27 := sF_get; have b1 : w0_109_22 = (sF (sF (sF (sF (sF (sF s 109 29 w0_109_27) 109 30 z23) 109 28 (Int32.ofInt 3)) 109 23 (Int32.ofInt 1)) 109 24 w0_109_27) 109 27 z132).2.2.1 109 22 := sF_ne rfl (sF_ne rfl (sF_ne rfl (sF_ne rfl (sF_ne rfl (sF_ne rfl (v0_109_22)))))); rw [← b0, ← b1]; exact n136
                              exact g_return (gd rfl) rfl (hP _ _ ⟨(sF (sF (sF (sF (sF (sF s 109 29 w0_109_27) 109 30 z23) 109 28 (Int32.ofInt 3)) 109 23 (Int32.ofInt 1)) 109 24 w0_109_27) 109 27 z132), hI135, n137, rfl, rfl⟩)
                      · skip
                        exact zn_ne c90 (in_c 0 rfl) rfl
                    · skip
                      have i138 := r_le2 97 126 c88 (in_c 97 rfl) i81 rfl
                      refine g_iload_n 7 (gd rfl) rfl rfl ?_
                      refine g_bipush 122 9 (gd rfl) rfl rfl ?_
                      refine g_cmp_gt 12 16 (gd rfl) rfl rfl (fun c139 => ?_) (fun c139 => ?_)
                      · skip
                        have i140 := r_lt2 123 126 c139 (in_c 122 rfl) i138 rfl
                        refine g_iconst 0 17 (gd rfl) rfl rfl ?_
                        refine g_ireturn (gd rfl) rfl (nb01 (in_w 0 1 (in_c 0 rfl) rfl)) (hp86 _ _ ?_)
                        show GG _ _ _ _ _ _ _ _ [.int (Int32.ofInt 0), .ref (A 109)] _ _ _
                        refine g_if_eq 189 193 (gd rfl) rfl rfl (fun c141 => ?_) (fun c141 => ?_)
                        · skip
                          refine g_iconst 3 194 (gd rfl) rfl rfl ?_
                          refine g_putI 197 (gd rfl) rfl rfl rfl rfl ?_
                          have hI142 := inv_sF (q := 109) (j := 28) hI26 rfl (in_w (-2147483648) 2147483647 (in_c 3 rfl) rfl)
                          refine g_aload_n 198 (gd rfl) rfl rfl ?_
                          refine g_getI 201 (gd rfl) rfl rfl rfl (fun z143 e144 => ?_)
                          have q145 : (Int32.ofInt 3) = z143 := (sF_get).trans e144.symm
                          subst q145
                          refine g_iconst 3 202 (gd rfl) rfl rfl ?_
                          refine g_cmp_ne 205 220 (gd rfl) rfl rfl (fun c146 => ?_) (fun c146 => ?_)
                          · skip
                            exact n_ne c146 (in_c 3 rfl) (in_c 3 rfl) rfl
                          · skip
                            refine g_iload_n 206 (gd rfl) rfl rfl ?_
                            refine g_bipush 59 208 (gd rfl) rfl rfl ?_
                            refine g_cmp_eq 211 220 (gd rfl) rfl rfl (fun c147 => ?_) (fun c147 => ?_)
                            · skip
                              exact n_eq c147 i140 (in_c 59 rfl) rfl
                            · skip
                              refine g_aload_n 212 (gd rfl) rfl rfl ?_
                              refine g_iconst 1 213 (gd rfl) rfl rfl ?_
                              refine g_aload_n 214 (gd rfl) rfl rfl ?_
                              refine g_getI 217 (gd rfl) rfl rfl rfl (fun z148 e149 => ?_)
                              have q150 : w0_109_27 = z148 := (sF_ne rfl (sF_ne rfl (sF_get))).trans e149.symm
                              subst q150
                              refine g_callv (X := _) (As := [.int (Int32.ofInt 1), .int w0_109_27]) (r := []) (b := A 109) (q := 109) 220 (gd rfl) rfl rfl rfl rfl rfl (ww_o rfl) (Nat.le_of_ble_eq_true rfl) (mc := 0) (ms := 0) (Nat.zero_le _) (Nat.zero_le _) (P := fun v u => _) ?_ (fun e u h => h) (fun v u h => h)
                              intro po151 xx152 hp153 hx154
                              refine g_enter2 (k := 298) (N := 300) (by omega) rfl (Nat.le_of_ble_eq_true rfl) ?_
                              refine g_aload_n 1 (gd rfl) rfl rfl ?_
                              refine g_getI 4 (gd rfl) rfl rfl rfl (fun z155 e156 => ?_)
                              refine g_if_ne 7 17 (gd rfl) rfl rfl (fun c157 => ?_) (fun c157 => ?_)
                              · skip
                                refine g_return (gd rfl) rfl (hp153 _ _ ?_)
                                show GG _ _ _ _ _ _ _ _ [] _ _ _
                                refine g_aload_n 221 (gd rfl) rfl rfl ?_
                                refine g_dup 222 (gd rfl) rfl rfl ?_
                                refine g_getI 225 (gd rfl) rfl rfl rfl (fun z158 e159 => ?_)
                                have q160 : w0_109_27 = z158 := (sF_ne rfl (sF_ne rfl (sF_ne rfl (v0_109_27)))).trans e159.symm
                                subst q160
                                refine g_iconst 1 226 (gd rfl) rfl rfl ?_
                                refine g_iadd 227 (gd rfl) rfl (fun z161 e162 => ?_)
                                have i163 := in_add 1 1000 e162 i22 (in_c 1 rfl) rfl rfl
                                refine g_putI 230 (gd rfl) rfl rfl rfl rfl ?_
                                have hI164 := inv_sF (q := 109) (j := 27) hI142 rfl (in_w 0 1000 i163 rfl)
                                have n165 : (z161).toInt ≤ (w0_109_22).toInt := by have a0 := (in_c 0 rfl); unfold In at a0; have a1 := i140; unfold In at a1; have a2 := i163; unfold In at a2; have a3 := t_add e162 i22 (in_c 1 rfl) rfl; have a4 := (in_c 1 rfl); unfold In at a4; have a5 := i22; unfold In at a5; have a6 := (in_c 3 rfl); unfold In at a6; have a7 := (inv_F hI 0 1000 rfl v0_109_22); unfold In at a7; omega
                                have n166 : ((sF (sF (sF (sF s 109 29 w0_109_27) 109 30 z23) 109 28 (Int32.ofInt 3)) 109 27 z161).2.2.1 109 27).toInt ≤ ((sF (sF (sF (sF s 109 29 w0_109_27) 109 30 z23) 109 28 (Int32.ofInt 3)) 109 27 z161).2.2.1 109 22).toInt := by have b0 : z161 = (sF (sF (sF (sF s 109 29 w0_109_27) 109 30 z23) 109 28 (Int32.ofInt 3)) 109 27 z161).2.2.1 109 27 := sF_get; have b1 : w0_109_22 = (sF (sF (sF (sF s 109 29 w0_109_27) 109 30 z23) 109 28 (Int32.ofInt 3)) 109 27 z161).2.2.1 109 22 := sF_ne rfl (sF_ne rfl (sF_ne rfl (sF_ne rfl (v0_109_22)))); rw [← b0, ← b1]; exact n165
                                exact g_return (gd rfl) rfl (hP _ _ ⟨(sF (sF (sF (sF s 109 29 w0_109_27) 109 30 z23) 109 28 (Int32.ofInt 3)) 109 27 z161), hI164, n166, rfl, rfl⟩)
                              · skip
                                have i167 := z_eq 0 0 c157 (i_rng z155) rfl
                                refine g_aload_n 8 (gd rfl) rfl rfl ?_
                                refine g_iload_n 9 (gd rfl) rfl rfl ?_
                                refine g_putI 12 (gd rfl) rfl rfl rfl rfl ?_
                                have hI168 := inv_sF (q := 109) (j := 23) hI142 rfl (in_w (-2147483648) 2147483647 (in_c 1 rfl) rfl)
                                refine g_aload_n 13 (gd rfl) rfl rfl ?_
                                refine g_iload_n 14 (gd rfl) rfl rfl ?_
                                refine g_putI 17 (gd rfl) rfl rfl rfl rfl ?_
                                have hI169 := inv_sF (q := 109) (j := 24) hI168 rfl (in_w (-2147483648) 2147483647 i22 rfl)
                                refine g_return (gd rfl) rfl (hp153 _ _ ?_)
                                show GG _ _ _ _ _ _ _ _ [] _ _ _
                                refine g_aload_n 221 (gd rfl) rfl rfl ?_
                                refine g_dup 222 (gd rfl) rfl rfl ?_
                                refine g_getI 225 (gd rfl) rfl rfl rfl (fun z170 e171 => ?_)
                                have q172 : w0_109_27 = z170 := (sF_ne rfl (sF_ne rfl (sF_ne rfl (sF_ne rfl (sF_ne rfl (v0_109_27)))))).trans e171.symm
                                subst q172
                                refine g_iconst 1 226 (gd rfl) rfl rfl ?_
                                refine g_iadd 227 (gd rfl) rfl (fun z173 e174 => ?_)
                                have i175 := in_add 1 1000 e174 i22 (in_c 1 rfl) rfl rfl
                                refine g_putI 230 (gd rfl) rfl rfl rfl rfl ?_
                                have hI176 := inv_sF (q := 109) (j := 27) hI169 rfl (in_w 0 1000 i175 rfl)
                                have n177 : (z173).toInt ≤ (w0_109_22).toInt := by have a0 := (in_c 0 rfl); unfold In at a0; have a1 := i140; unfold In at a1; have a2 := i175; unfold In at a2; have a3 := t_add e174 i22 (in_c 1 rfl) rfl; have a4 := (in_c 1 rfl); unfold In at a4; have a5 := i22; unfold In at a5; have a6 := (in_c 3 rfl); unfold In at a6; have a7 := (inv_F hI 0 1000 rfl v0_109_22); unfold In at a7; omega
                                have n178 : ((sF (sF (sF (sF (sF (sF s 109 29 w0_109_27) 109 30 z23) 109 28 (Int32.ofInt 3)) 109 23 (Int32.ofInt 1)) 109 24 w0_109_27) 109 27 z173).2.2.1 109 27).toInt ≤ ((sF (sF (sF (sF (sF (sF s 109 29 w0_109_27) 109 30 z23) 109 28 (Int32.ofInt 3)) 109 23 (Int32.ofInt 1)) 109 24 w0_109_27) 109 27 z173).2.2.1 109 22).toInt := by have b0 : z173 = (sF (sF (sF (sF (sF (sF s 109 29 w0_109_27) 109 30 z23) 109 28 (Int32.ofInt 3)) 109 23 (Int32.ofInt 1)) 109 24 w0_109_27) 109 27 z173).2.2.1 109 27 := sF_get; have b1 : w0_109_22 = (sF (sF (sF (sF (sF (sF s 109 29 w0_109_27) 109 30 z23) 109 28 (Int32.ofInt 3)) 109 23 (Int32.ofInt 1)) 109 24 w0_109_27) 109 27 z173).2.2.1 109 22 := sF_ne rfl (sF_ne rfl (sF_ne rfl (sF_ne rfl (sF_ne rfl (sF_ne rfl (v0_109_22)))))); rw [← b0, ← b1]; exact n177
                                exact g_return (gd rfl) rfl (hP _ _ ⟨(sF (sF (sF (sF (sF (sF s 109 29 w0_109_27) 109 30 z23) 109 28 (Int32.ofInt 3)) 109 23 (Int32.ofInt 1)) 109 24 w0_109_27) 109 27 z173), hI176, n178, rfl, rfl⟩)
                        · skip
                          exact zn_ne c141 (in_c 0 rfl) rfl
                      · skip
                        have i179 := r_le1 97 122 c139 i138 (in_c 122 rfl) rfl
                        refine g_iconst 1 13 (gd rfl) rfl rfl ?_
                        refine g_goto 17 (gd rfl) rfl ?_
                        refine g_ireturn (gd rfl) rfl (nb01 (in_w 0 1 (in_c 1 rfl) rfl)) (hp86 _ _ ?_)
                        show GG _ _ _ _ _ _ _ _ [.int (Int32.ofInt 1), .ref (A 109)] _ _ _
                        refine g_if_eq 189 193 (gd rfl) rfl rfl (fun c180 => ?_) (fun c180 => ?_)
                        · skip
                          exact zn_eq c180 (in_c 1 rfl) rfl
                        · skip
                          refine g_iconst 1 190 (gd rfl) rfl rfl ?_
                          refine g_goto 194 (gd rfl) rfl ?_
                          refine g_putI 197 (gd rfl) rfl rfl rfl rfl ?_
                          have hI181 := inv_sF (q := 109) (j := 28) hI26 rfl (in_w (-2147483648) 2147483647 (in_c 1 rfl) rfl)
                          refine g_aload_n 198 (gd rfl) rfl rfl ?_
                          refine g_getI 201 (gd rfl) rfl rfl rfl (fun z182 e183 => ?_)
                          have q184 : (Int32.ofInt 1) = z182 := (sF_get).trans e183.symm
                          subst q184
                          refine g_iconst 3 202 (gd rfl) rfl rfl ?_
                          refine g_cmp_ne 205 220 (gd rfl) rfl rfl (fun c185 => ?_) (fun c185 => ?_)
                          · skip
                            refine g_aload_n 221 (gd rfl) rfl rfl ?_
                            refine g_dup 222 (gd rfl) rfl rfl ?_
                            refine g_getI 225 (gd rfl) rfl rfl rfl (fun z186 e187 => ?_)
                            have q188 : w0_109_27 = z186 := (sF_ne rfl (sF_ne rfl (sF_ne rfl (v0_109_27)))).trans e187.symm
                            subst q188
                            refine g_iconst 1 226 (gd rfl) rfl rfl ?_
                            refine g_iadd 227 (gd rfl) rfl (fun z189 e190 => ?_)
                            have i191 := in_add 1 1000 e190 i22 (in_c 1 rfl) rfl rfl
                            refine g_putI 230 (gd rfl) rfl rfl rfl rfl ?_
                            have hI192 := inv_sF (q := 109) (j := 27) hI181 rfl (in_w 0 1000 i191 rfl)
                            have n193 : (z189).toInt ≤ (w0_109_22).toInt := by have a0 := (in_c 0 rfl); unfold In at a0; have a1 := i179; unfold In at a1; have a2 := i191; unfold In at a2; have a3 := t_add e190 i22 (in_c 1 rfl) rfl; have a4 := (in_c 1 rfl); unfold In at a4; have a5 := i22; unfold In at a5; have a6 := (inv_F hI 0 1000 rfl v0_109_22); unfold In at a6; omega
                            have n194 : ((sF (sF (sF (sF s 109 29 w0_109_27) 109 30 z23) 109 28 (Int32.ofInt 1)) 109 27 z189).2.2.1 109 27).toInt ≤ ((sF (sF (sF (sF s 109 29 w0_109_27) 109 30 z23) 109 28 (Int32.ofInt 1)) 109 27 z189).2.2.1 109 22).toInt := by have b0 : z189 = (sF (sF (sF (sF s 109 29 w0_109_27) 109 30 z23) 109 28 (Int32.ofInt 1)) 109 27 z189).2.2.1 109 27 := sF_get; have b1 : w0_109_22 = (sF (sF (sF (sF s 109 29 w0_109_27) 109 30 z23) 109 28 (Int32.ofInt 1)) 109 27 z189).2.2.1 109 22 := sF_ne rfl (sF_ne rfl (sF_ne rfl (sF_ne rfl (v0_109_22)))); rw [← b0, ← b1]; exact n193
                            exact g_return (gd rfl) rfl (hP _ _ ⟨(sF (sF (sF (sF s 109 29 w0_109_27) 109 30 z23) 109 28 (Int32.ofInt 1)) 109 27 z189), hI192, n194, rfl, rfl⟩)
                          · skip
                            exact n_eq c185 (in_c 1 rfl) (in_c 3 rfl) rfl
                  · skip
                    exact zn_ne c83 (in_c 0 rfl) rfl
              · skip
                have i195 := r_le1 48 57 c80 i79 (in_c 57 rfl) rfl
                refine g_iconst 1 13 (gd rfl) rfl rfl ?_
                refine g_goto 17 (gd rfl) rfl ?_
                refine g_ireturn (gd rfl) rfl (nb01 (in_w 0 1 (in_c 1 rfl) rfl)) (hp30 _ _ ?_)
                show GG _ _ _ _ _ _ _ _ [.int (Int32.ofInt 1)] _ _ _
                refine g_if_ne 127 131 (gd rfl) rfl rfl (fun c196 => ?_) (fun c196 => ?_)
                · skip
                  refine g_aload_n 132 (gd rfl) rfl rfl ?_
                  refine g_iconst 2 133 (gd rfl) rfl rfl ?_
                  refine g_putI 136 (gd rfl) rfl rfl rfl rfl ?_
                  have hI197 := inv_sF (q := 109) (j := 28) hI26 rfl (in_w (-2147483648) 2147483647 (in_c 2 rfl) rfl)
                  refine g_aload_n 137 (gd rfl) rfl rfl ?_
                  refine g_dup 138 (gd rfl) rfl rfl ?_
                  refine g_getI 141 (gd rfl) rfl rfl rfl (fun z198 e199 => ?_)
                  have q200 : w0_109_27 = z198 := (sF_ne rfl (sF_ne rfl (sF_ne rfl (v0_109_27)))).trans e199.symm
                  subst q200
                  refine g_iload_n 142 (gd rfl) rfl rfl ?_
                  refine g_if_eq 145 149 (gd rfl) rfl rfl (fun c201 => ?_) (fun c201 => ?_)
                  · skip
                    refine g_iconst 0 150 (gd rfl) rfl rfl ?_
                    refine g_iadd 151 (gd rfl) rfl (fun z202 e203 => ?_)
                    have i204 := in_add 0 999 e203 i22 (in_c 0 rfl) rfl rfl
                    refine g_putI 154 (gd rfl) rfl rfl rfl rfl ?_
                    have hI205 := inv_sF (q := 109) (j := 27) hI197 rfl (in_w 0 1000 i204 rfl)
                    refine g_aload_n 155 (gd rfl) rfl rfl ?_
                    refine g_bipush 7 157 (gd rfl) rfl rfl ?_
                    have n206 : (z202).toInt ≤ (w0_109_22).toInt := by have a0 := (in_c 0 rfl); unfold In at a0; have a1 := i195; unfold In at a1; have a2 := i204; unfold In at a2; have a3 := t_add e203 i22 (in_c 0 rfl) rfl; have a4 := i22; unfold In at a4; have a5 := (in_c 2 rfl); unfold In at a5; have a6 := (inv_F hI 0 1000 rfl v0_109_22); unfold In at a6; omega
                    refine g_callv (X := _) (As := [.int (Int32.ofInt 7)]) (r := []) (b := A 109) (q := 109) 160 (gd rfl) rfl rfl rfl rfl rfl (ww_o rfl) (Nat.le_of_ble_eq_true rfl) (Nat.zero_le _) (Nat.zero_le _) (k_300 (by omega) hI205 (in_w 6 7 (in_c 7 rfl) rfl) (sF_get) (sF_ne rfl (sF_ne rfl (sF_ne rfl (sF_ne rfl (v0_109_22))))) n206) (fun e u h => h) (fun v u h => ?_)
                    obtain ⟨s207, hI208, n211, rfl, rfl⟩ := h
                    obtain ⟨z212, e213⟩ : ∃ w, w = s207.2.2.1 109 27 := ⟨_, rfl⟩
                    have i214 := inv_F hI208 0 1000 rfl e213
                    obtain ⟨z215, e216⟩ : ∃ w, w = s207.2.2.1 109 22 := ⟨_, rfl⟩
                    have i217 := inv_F hI208 0 1000 rfl e216
                    rw [← e213, ← e216] at n211
                    show GG _ _ _ _ _ _ _ _ [] _ _ _
                    refine g_aload_n 161 (gd rfl) rfl rfl ?_
                    refine g_iload_n 162 (gd rfl) rfl rfl ?_
                    refine g_if_eq 165 173 (gd rfl) rfl rfl (fun c218 => ?_) (fun c218 => ?_)
                    · skip
                      refine g_aload_n 174 (gd rfl) rfl rfl ?_
                      refine g_getL 177 (gd rfl) rfl rfl rfl (fun z219 e220 => ?_)
                      refine g_putL 180 (gd rfl) rfl rfl rfl rfl ?_
                      have hI221 := inv_sG (q := 109) (j := 31) (x := z219) hI208
                      have n222 : (z212).toInt ≤ (z215).toInt := by have a0 := (in_c 0 rfl); unfold In at a0; have a1 := i195; unfold In at a1; have a2 := i217; unfold In at a2; have a3 := i214; unfold In at a3; have a4 := i204; unfold In at a4; have a5 := t_add e203 i22 (in_c 0 rfl) rfl; have a6 := i22; unfold In at a6; omega
                      have n223 : ((sG s207 109 31 z219).2.2.1 109 27).toInt ≤ ((sG s207 109 31 z219).2.2.1 109 22).toInt := by have b0 : z212 = (sG s207 109 31 z219).2.2.1 109 27 := e213; have b1 : z215 = (sG s207 109 31 z219).2.2.1 109 22 := e216; rw [← b0, ← b1]; exact n222
                      exact g_return (gd rfl) rfl (hP _ _ ⟨(sG s207 109 31 z219), hI221, n223, rfl, rfl⟩)
                    · skip
                      exact zn_ne c218 (in_c 0 rfl) rfl
                  · skip
                    exact zn_ne c201 (in_c 0 rfl) rfl
                · skip
                  exact zn_eq c196 (in_c 1 rfl) rfl
          · skip
            have i224 := r_eq1 45 45 c27 i25 (in_c 45 rfl) rfl
            refine g_aload_n 85 (gd rfl) rfl rfl ?_
            refine g_getI 88 (gd rfl) rfl rfl rfl (fun z225 e226 => ?_)
            have q227 : w0_109_27 = z225 := (sF_ne rfl (sF_ne rfl (v0_109_27))).trans e226.symm
            subst q227
            refine g_iconst 1 89 (gd rfl) rfl rfl ?_
            refine g_iadd 90 (gd rfl) rfl (fun z228 e229 => ?_)
            have i230 := in_add 1 1000 e229 i22 (in_c 1 rfl) rfl rfl
            refine g_aload_n 91 (gd rfl) rfl rfl ?_
            refine g_getI 94 (gd rfl) rfl rfl rfl (fun z231 e232 => ?_)
            have q233 : w0_109_22 = z231 := (sF_ne rfl (sF_ne rfl (v0_109_22))).trans e232.symm
            subst q233
            refine g_cmp_ge 97 118 (gd rfl) rfl rfl (fun c234 => ?_) (fun c234 => ?_)
            · skip
              refine g_iconst 0 119 (gd rfl) rfl rfl ?_
              refine g_istore_n 120 (gd rfl) rfl (Nat.le_of_ble_eq_true rfl) ?_
              refine g_iload_n 121 (gd rfl) rfl rfl ?_
              refine g_calls (As := [.int z23]) (r := []) 124 (gd rfl) rfl rfl rfl rfl rfl (Nat.le_of_ble_eq_true rfl) (mc := 0) (ms := 0) (Nat.zero_le _) (Nat.zero_le _) (P := fun v u => _) ?_ (fun v u h => h)
              intro po235 xx236 hp237 hx238
              refine g_enter2 (k := 297) (N := 300) (by omega) rfl (Nat.le_of_ble_eq_true rfl) ?_
              refine g_iload_n 1 (gd rfl) rfl rfl ?_
              refine g_bipush 48 3 (gd rfl) rfl rfl ?_
              refine g_cmp_lt 6 16 (gd rfl) rfl rfl (fun c239 => ?_) (fun c239 => ?_)
              · skip
                refine g_iconst 0 17 (gd rfl) rfl rfl ?_
                refine g_ireturn (gd rfl) rfl (nb01 (in_w 0 1 (in_c 0 rfl) rfl)) (hp237 _ _ ?_)
                show GG _ _ _ _ _ _ _ _ [.int (Int32.ofInt 0)] _ _ _
                refine g_if_ne 127 131 (gd rfl) rfl rfl (fun c240 => ?_) (fun c240 => ?_)
                · skip
                  exact zn_ne c240 (in_c 0 rfl) rfl
                · skip
                  refine g_iload_n 128 (gd rfl) rfl rfl ?_
                  refine g_if_eq 131 181 (gd rfl) rfl rfl (fun c241 => ?_) (fun c241 => ?_)
                  · skip
                    refine g_aload_n 182 (gd rfl) rfl rfl ?_
                    refine g_iload_n 183 (gd rfl) rfl rfl ?_
                    refine g_calls (As := [.int z23]) (r := [.ref (A 109)]) 186 (gd rfl) rfl rfl rfl rfl rfl (Nat.le_of_ble_eq_true rfl) (mc := 0) (ms := 0) (Nat.zero_le _) (Nat.zero_le _) (P := fun v u => _) ?_ (fun v u h => h)
                    intro po242 xx243 hp244 hx245
                    refine g_enter2 (k := 296) (N := 300) (by omega) rfl (Nat.le_of_ble_eq_true rfl) ?_
                    refine g_iload_n 1 (gd rfl) rfl rfl ?_
                    refine g_bipush 97 3 (gd rfl) rfl rfl ?_
                    refine g_cmp_lt 6 16 (gd rfl) rfl rfl (fun c246 => ?_) (fun c246 => ?_)
                    · skip
                      refine g_iconst 0 17 (gd rfl) rfl rfl ?_
                      refine g_ireturn (gd rfl) rfl (nb01 (in_w 0 1 (in_c 0 rfl) rfl)) (hp244 _ _ ?_)
                      show GG _ _ _ _ _ _ _ _ [.int (Int32.ofInt 0), .ref (A 109)] _ _ _
                      refine g_if_eq 189 193 (gd rfl) rfl rfl (fun c247 => ?_) (fun c247 => ?_)
                      · skip
                        refine g_iconst 3 194 (gd rfl) rfl rfl ?_
                        refine g_putI 197 (gd rfl) rfl rfl rfl rfl ?_
                        have hI248 := inv_sF (q := 109) (j := 28) hI26 rfl (in_w (-2147483648) 2147483647 (in_c 3 rfl) rfl)
                        refine g_aload_n 198 (gd rfl) rfl rfl ?_
                        refine g_getI 201 (gd rfl) rfl rfl rfl (fun z249 e250 => ?_)
                        have q251 : (Int32.ofInt 3) = z249 := (sF_get).trans e250.symm
                        subst q251
                        refine g_iconst 3 202 (gd rfl) rfl rfl ?_
                        refine g_cmp_ne 205 220 (gd rfl) rfl rfl (fun c252 => ?_) (fun c252 => ?_)
                        · skip
                          exact n_ne c252 (in_c 3 rfl) (in_c 3 rfl) rfl
                        · skip
                          refine g_iload_n 206 (gd rfl) rfl rfl ?_
                          refine g_bipush 59 208 (gd rfl) rfl rfl ?_
                          refine g_cmp_eq 211 220 (gd rfl) rfl rfl (fun c253 => ?_) (fun c253 => ?_)
                          · skip
                            exact n_eq c253 i224 (in_c 59 rfl) rfl
                          · skip
                            refine g_aload_n 212 (gd rfl) rfl rfl ?_
                            refine g_iconst 1 213 (gd rfl) rfl rfl ?_
                            refine g_aload_n 214 (gd rfl) rfl rfl ?_
                            refine g_getI 217 (gd rfl) rfl rfl rfl (fun z254 e255 => ?_)
                            have q256 : w0_109_27 = z254 := (sF_ne rfl (sF_ne rfl (sF_get))).trans e255.symm
                            subst q256
                            refine g_callv (X := _) (As := [.int (Int32.ofInt 1), .int w0_109_27]) (r := []) (b := A 109) (q := 109) 220 (gd rfl) rfl rfl rfl rfl rfl (ww_o rfl) (Nat.le_of_ble_eq_true rfl) (mc := 0) (ms := 0) (Nat.zero_le _) (Nat.zero_le _) (P := fun v u => _) ?_ (fun e u h => h) (fun v u h => h)
                            intro po257 xx258 hp259 hx260
                            refine g_enter2 (k := 298) (N := 300) (by omega) rfl (Nat.le_of_ble_eq_true rfl) ?_
                            refine g_aload_n 1 (gd rfl) rfl rfl ?_
                            refine g_getI 4 (gd rfl) rfl rfl rfl (fun z261 e262 => ?_)
                            refine g_if_ne 7 17 (gd rfl) rfl rfl (fun c263 => ?_) (fun c263 => ?_)
                            · skip
                              refine g_return (gd rfl) rfl (hp259 _ _ ?_)
                              show GG _ _ _ _ _ _ _ _ [] _ _ _
                              refine g_aload_n 221 (gd rfl) rfl rfl ?_
                              refine g_dup 222 (gd rfl) rfl rfl ?_
                              refine g_getI 225 (gd rfl) rfl rfl rfl (fun z264 e265 => ?_)
                              have q266 : w0_109_27 = z264 := (sF_ne rfl (sF_ne rfl (sF_ne rfl (v0_109_27)))).trans e265.symm
                              subst q266
                              refine g_iconst 1 226 (gd rfl) rfl rfl ?_
                              refine g_iadd 227 (gd rfl) rfl (fun z267 e268 => ?_)
                              have i269 := in_add 1 1000 e268 i22 (in_c 1 rfl) rfl rfl
                              refine g_putI 230 (gd rfl) rfl rfl rfl rfl ?_
                              have hI270 := inv_sF (q := 109) (j := 27) hI248 rfl (in_w 0 1000 i269 rfl)
                              have n271 : (z267).toInt ≤ (w0_109_22).toInt := by have a0 := (in_c 0 rfl); unfold In at a0; have a1 := i224; unfold In at a1; have a2 := i269; unfold In at a2; have a3 := t_add e268 i22 (in_c 1 rfl) rfl; have a4 := (in_c 1 rfl); unfold In at a4; have a5 := i22; unfold In at a5; have a6 := (in_c 3 rfl); unfold In at a6; have a7 := (inv_F hI 0 1000 rfl v0_109_22); unfold In at a7; have a8 := i230; unfold In at a8; have a9 := t_add e229 i22 (in_c 1 rfl) rfl; omega
                              have n272 : ((sF (sF (sF (sF s 109 29 w0_109_27) 109 30 z23) 109 28 (Int32.ofInt 3)) 109 27 z267).2.2.1 109 27).toInt ≤ ((sF (sF (sF (sF s 109 29 w0_109_27) 109 30 z23) 109 28 (Int32.ofInt 3)) 109 27 z267).2.2.1 109 22).toInt := by have b0 : z267 = (sF (sF (sF (sF s 109 29 w0_109_27) 109 30 z23) 109 28 (Int32.ofInt 3)) 109 27 z267).2.2.1 109 27 := sF_get; have b1 : w0_109_22 = (sF (sF (sF (sF s 109 29 w0_109_27) 109 30 z23) 109 28 (Int32.ofInt 3)) 109 27 z267).2.2.1 109 22 := sF_ne rfl (sF_ne rfl (sF_ne rfl (sF_ne rfl (v0_109_22)))); rw [← b0, ← b1]; exact n271
                              exact g_return (gd rfl) rfl (hP _ _ ⟨(sF (sF (sF (sF s 109 29 w0_109_27) 109 30 z23) 109 28 (Int32.ofInt 3)) 109 27 z267), hI270, n272, rfl, rfl⟩)
                            · skip
                              have i273 := z_eq 0 0 c263 (i_rng z261) rfl
                              refine g_aload_n 8 (gd rfl) rfl rfl ?_
                              refine g_iload_n 9 (gd rfl) rfl rfl ?_
                              refine g_putI 12 (gd rfl) rfl rfl rfl rfl ?_
                              have hI274 := inv_sF (q := 109) (j := 23) hI248 rfl (in_w (-2147483648) 2147483647 (in_c 1 rfl) rfl)
                              refine g_aload_n 13 (gd rfl) rfl rfl ?_
                              refine g_iload_n 14 (gd rfl) rfl rfl ?_
                              refine g_putI 17 (gd rfl) rfl rfl rfl rfl ?_
                              have hI275 := inv_sF (q := 109) (j := 24) hI274 rfl (in_w (-2147483648) 2147483647 i22 rfl)
                              refine g_return (gd rfl) rfl (hp259 _ _ ?_)
                              show GG _ _ _ _ _ _ _ _ [] _ _ _
                              refine g_aload_n 221 (gd rfl) rfl rfl ?_
                              refine g_dup 222 (gd rfl) rfl rfl ?_
                              refine g_getI 225 (gd rfl) rfl rfl rfl (fun z276 e277 => ?_)
                              have q278 : w0_109_27 = z276 := (sF_ne rfl (sF_ne rfl (sF_ne rfl (sF_ne rfl (sF_ne rfl (v0_109_27)))))).trans e277.symm
                              subst q278
                              refine g_iconst 1 226 (gd rfl) rfl rfl ?_
                              refine g_iadd 227 (gd rfl) rfl (fun z279 e280 => ?_)
                              have i281 := in_add 1 1000 e280 i22 (in_c 1 rfl) rfl rfl
                              refine g_putI 230 (gd rfl) rfl rfl rfl rfl ?_
                              have hI282 := inv_sF (q := 109) (j := 27) hI275 rfl (in_w 0 1000 i281 rfl)
                              have n283 : (z279).toInt ≤ (w0_109_22).toInt := by have a0 := (in_c 0 rfl); unfold In at a0; have a1 := i224; unfold In at a1; have a2 := i281; unfold In at a2; have a3 := t_add e280 i22 (in_c 1 rfl) rfl; have a4 := (in_c 1 rfl); unfold In at a4; have a5 := i22; unfold In at a5; have a6 := (in_c 3 rfl); unfold In at a6; have a7 := (inv_F hI 0 1000 rfl v0_109_22); unfold In at a7; have a8 := i230; unfold In at a8; have a9 := t_add e229 i22 (in_c 1 rfl) rfl; omega
                              have n284 : ((sF (sF (sF (sF (sF (sF s 109 29 w0_109_27) 109 30 z23) 109 28 (Int32.ofInt 3)) 109 23 (Int32.ofInt 1)) 109 24 w0_109_27) 109 27 z279).2.2.1 109 27).toInt ≤ ((sF (sF (sF (sF (sF (sF s 109 29 w0_109_27) 109 30 z23) 109 28 (Int32.ofInt 3)) 109 23 (Int32.ofInt 1)) 109 24 w0_109_27) 109 27 z279).2.2.1 109 22).toInt := by have b0 : z279 = (sF (sF (sF (sF (sF (sF s 109 29 w0_109_27) 109 30 z23) 109 28 (Int32.ofInt 3)) 109 23 (Int32.ofInt 1)) 109 24 w0_109_27) 109 27 z279).2.2.1 109 27 := sF_get; have b1 : w0_109_22 = (sF (sF (sF (sF (sF (sF s 109 29 w0_109_27) 109 30 z23) 109 28 (Int32.ofInt 3)) 109 23 (Int32.ofInt 1)) 109 24 w0_109_27) 109 27 z279).2.2.1 109 22 := sF_ne rfl (sF_ne rfl (sF_ne rfl (sF_ne rfl (sF_ne rfl (sF_ne rfl (v0_109_22)))))); rw [← b0, ← b1]; exact n283
                              exact g_return (gd rfl) rfl (hP _ _ ⟨(sF (sF (sF (sF (sF (sF s 109 29 w0_109_27) 109 30 z23) 109 28 (Int32.ofInt 3)) 109 23 (Int32.ofInt 1)) 109 24 w0_109_27) 109 27 z279), hI282, n284, rfl, rfl⟩)
                      · skip
                        exact zn_ne c247 (in_c 0 rfl) rfl
                    · skip
                      exact n_le c246 (in_c 97 rfl) i224 rfl
                  · skip
                    exact zn_ne c241 (in_c 0 rfl) rfl
              · skip
                exact n_le c239 (in_c 48 rfl) i224 rfl
            · skip
              have i285 := r_lt1 1 999 c234 i230 (inv_F hI 0 1000 rfl v0_109_22) rfl
              have i286 := r_lt2 2 1000 c234 i230 (inv_F hI 0 1000 rfl v0_109_22) rfl
              refine g_aload_n 98 (gd rfl) rfl rfl ?_
              refine g_getA (q2 := 125) 101 (gd rfl) rfl rfl rfl rfl rfl ?_
              refine g_aload_n 102 (gd rfl) rfl rfl ?_
              refine g_getI 105 (gd rfl) rfl rfl rfl (fun z287 e288 => ?_)
              have q289 : w0_109_27 = z287 := (sF_ne rfl (sF_ne rfl (v0_109_27))).trans e288.symm
              subst q289
              refine g_iconst 1 106 (gd rfl) rfl rfl ?_
              refine g_iadd 107 (gd rfl) rfl (fun z290 e291 => ?_)
              have i292 := in_add 1 1000 e291 i22 (in_c 1 rfl) rfl rfl
              have i293 : In z290 0 999 := by have a0 := i224; unfold In at a0; have a1 := i22; unfold In at a1; have a2 := i286; unfold In at a2; have a3 := i292; unfold In at a3; have a4 := t_add e291 i22 (in_c 1 rfl) rfl; have a5 := (in_c 1 rfl); unfold In at a5; have a6 := i285; unfold In at a6; have a7 := t_add e229 i22 (in_c 1 rfl) rfl; exact ⟨by omega, by omega⟩
              refine g_iaload 108 (gd rfl) rfl (n := 1000) rfl (in_ix i293 rfl) (fun z294 e295 => ?_)
              have i296 := inv_I hI26 (n := 1000) (t := 0) 0 126 rfl (in_ix i293 rfl) rfl e295
              refine g_calls (As := [.int z294]) (r := []) 111 (gd rfl) rfl rfl rfl rfl rfl (Nat.le_of_ble_eq_true rfl) (mc := 0) (ms := 0) (Nat.zero_le _) (Nat.zero_le _) (P := fun v u => _) ?_ (fun v u h => h)
              intro po297 xx298 hp299 hx300
              refine g_enter2 (k := 297) (N := 300) (by omega) rfl (Nat.le_of_ble_eq_true rfl) ?_
              refine g_iload_n 1 (gd rfl) rfl rfl ?_
              refine g_bipush 48 3 (gd rfl) rfl rfl ?_
              refine g_cmp_lt 6 16 (gd rfl) rfl rfl (fun c301 => ?_) (fun c301 => ?_)
              · skip
                have i302 := r_lt1 0 47 c301 i296 (in_c 48 rfl) rfl
                refine g_iconst 0 17 (gd rfl) rfl rfl ?_
                refine g_ireturn (gd rfl) rfl (nb01 (in_w 0 1 (in_c 0 rfl) rfl)) (hp299 _ _ ?_)
                show GG _ _ _ _ _ _ _ _ [.int (Int32.ofInt 0)] _ _ _
                refine g_if_eq 114 118 (gd rfl) rfl rfl (fun c303 => ?_) (fun c303 => ?_)
                · skip
                  refine g_iconst 0 119 (gd rfl) rfl rfl ?_
                  refine g_istore_n 120 (gd rfl) rfl (Nat.le_of_ble_eq_true rfl) ?_
                  refine g_iload_n 121 (gd rfl) rfl rfl ?_
                  refine g_calls (As := [.int z23]) (r := []) 124 (gd rfl) rfl rfl rfl rfl rfl (Nat.le_of_ble_eq_true rfl) (mc := 0) (ms := 0) (Nat.zero_le _) (Nat.zero_le _) (P := fun v u => _) ?_ (fun v u h => h)
                  intro po304 xx305 hp306 hx307
                  refine g_enter2 (k := 297) (N := 300) (by omega) rfl (Nat.le_of_ble_eq_true rfl) ?_
                  refine g_iload_n 1 (gd rfl) rfl rfl ?_
                  refine g_bipush 48 3 (gd rfl) rfl rfl ?_
                  refine g_cmp_lt 6 16 (gd rfl) rfl rfl (fun c308 => ?_) (fun c308 => ?_)
                  · skip
                    refine g_iconst 0 17 (gd rfl) rfl rfl ?_
                    refine g_ireturn (gd rfl) rfl (nb01 (in_w 0 1 (in_c 0 rfl) rfl)) (hp306 _ _ ?_)
                    show GG _ _ _ _ _ _ _ _ [.int (Int32.ofInt 0)] _ _ _
                    refine g_if_ne 127 131 (gd rfl) rfl rfl (fun c309 => ?_) (fun c309 => ?_)
                    · skip
                      exact zn_ne c309 (in_c 0 rfl) rfl
                    · skip
                      refine g_iload_n 128 (gd rfl) rfl rfl ?_
                      refine g_if_eq 131 181 (gd rfl) rfl rfl (fun c310 => ?_) (fun c310 => ?_)
                      · skip
                        refine g_aload_n 182 (gd rfl) rfl rfl ?_
                        refine g_iload_n 183 (gd rfl) rfl rfl ?_
                        refine g_calls (As := [.int z23]) (r := [.ref (A 109)]) 186 (gd rfl) rfl rfl rfl rfl rfl (Nat.le_of_ble_eq_true rfl) (mc := 0) (ms := 0) (Nat.zero_le _) (Nat.zero_le _) (P := fun v u => _) ?_ (fun v u h => h)
                        intro po311 xx312 hp313 hx314
                        refine g_enter2 (k := 296) (N := 300) (by omega) rfl (Nat.le_of_ble_eq_true rfl) ?_
                        refine g_iload_n 1 (gd rfl) rfl rfl ?_
                        refine g_bipush 97 3 (gd rfl) rfl rfl ?_
                        refine g_cmp_lt 6 16 (gd rfl) rfl rfl (fun c315 => ?_) (fun c315 => ?_)
                        · skip
                          refine g_iconst 0 17 (gd rfl) rfl rfl ?_
                          refine g_ireturn (gd rfl) rfl (nb01 (in_w 0 1 (in_c 0 rfl) rfl)) (hp313 _ _ ?_)
                          show GG _ _ _ _ _ _ _ _ [.int (Int32.ofInt 0), .ref (A 109)] _ _ _
                          refine g_if_eq 189 193 (gd rfl) rfl rfl (fun c316 => ?_) (fun c316 => ?_)
                          · skip
                            refine g_iconst 3 194 (gd rfl) rfl rfl ?_
                            refine g_putI 197 (gd rfl) rfl rfl rfl rfl ?_
                            have hI317 := inv_sF (q := 109) (j := 28) hI26 rfl (in_w (-2147483648) 2147483647 (in_c 3 rfl) rfl)
                            refine g_aload_n 198 (gd rfl) rfl rfl ?_
                            refine g_getI 201 (gd rfl) rfl rfl rfl (fun z318 e319 => ?_)
                            have q320 : (Int32.ofInt 3) = z318 := (sF_get).trans e319.symm
                            subst q320
                            refine g_iconst 3 202 (gd rfl) rfl rfl ?_
                            refine g_cmp_ne 205 220 (gd rfl) rfl rfl (fun c321 => ?_) (fun c321 => ?_)
                            · skip
                              exact n_ne c321 (in_c 3 rfl) (in_c 3 rfl) rfl
                            · skip
                              refine g_iload_n 206 (gd rfl) rfl rfl ?_
                              refine g_bipush 59 208 (gd rfl) rfl rfl ?_
                              refine g_cmp_eq 211 220 (gd rfl) rfl rfl (fun c322 => ?_) (fun c322 => ?_)
                              · skip
                                exact n_eq c322 i224 (in_c 59 rfl) rfl
                              · skip
                                refine g_aload_n 212 (gd rfl) rfl rfl ?_
                                refine g_iconst 1 213 (gd rfl) rfl rfl ?_
                                refine g_aload_n 214 (gd rfl) rfl rfl ?_
                                refine g_getI 217 (gd rfl) rfl rfl rfl (fun z323 e324 => ?_)
                                have q325 : w0_109_27 = z323 := (sF_ne rfl (sF_ne rfl (sF_get))).trans e324.symm
                                subst q325
                                refine g_callv (X := _) (As := [.int (Int32.ofInt 1), .int w0_109_27]) (r := []) (b := A 109) (q := 109) 220 (gd rfl) rfl rfl rfl rfl rfl (ww_o rfl) (Nat.le_of_ble_eq_true rfl) (mc := 0) (ms := 0) (Nat.zero_le _) (Nat.zero_le _) (P := fun v u => _) ?_ (fun e u h => h) (fun v u h => h)
                                intro po326 xx327 hp328 hx329
                                refine g_enter2 (k := 298) (N := 300) (by omega) rfl (Nat.le_of_ble_eq_true rfl) ?_
                                refine g_aload_n 1 (gd rfl) rfl rfl ?_
                                refine g_getI 4 (gd rfl) rfl rfl rfl (fun z330 e331 => ?_)
                                refine g_if_ne 7 17 (gd rfl) rfl rfl (fun c332 => ?_) (fun c332 => ?_)
                                · skip
                                  refine g_return (gd rfl) rfl (hp328 _ _ ?_)
                                  show GG _ _ _ _ _ _ _ _ [] _ _ _
                                  refine g_aload_n 221 (gd rfl) rfl rfl ?_
                                  refine g_dup 222 (gd rfl) rfl rfl ?_
                                  refine g_getI 225 (gd rfl) rfl rfl rfl (fun z333 e334 => ?_)
                                  have q335 : w0_109_27 = z333 := (sF_ne rfl (sF_ne rfl (sF_ne rfl (v0_109_27)))).trans e334.symm
                                  subst q335
                                  refine g_iconst 1 226 (gd rfl) rfl rfl ?_
                                  refine g_iadd 227 (gd rfl) rfl (fun z336 e337 => ?_)
                                  have i338 := in_add 1 1000 e337 i22 (in_c 1 rfl) rfl rfl
                                  refine g_putI 230 (gd rfl) rfl rfl rfl rfl ?_
                                  have hI339 := inv_sF (q := 109) (j := 27) hI317 rfl (in_w 0 1000 i338 rfl)
                                  have n340 : (z336).toInt ≤ (w0_109_22).toInt := by have a0 := (in_c 0 rfl); unfold In at a0; have a1 := i224; unfold In at a1; have a2 := i338; unfold In at a2; have a3 := t_add e337 i22 (in_c 1 rfl) rfl; have a4 := (in_c 1 rfl); unfold In at a4; have a5 := i22; unfold In at a5; have a6 := (in_c 3 rfl); unfold In at a6; have a7 := i286; unfold In at a7; have a8 := i293; unfold In at a8; have a9 := t_add e291 i22 (in_c 1 rfl) rfl; have a10 := i285; unfold In at a10; have a11 := t_add e229 i22 (in_c 1 rfl) rfl; omega
                                  have n341 : ((sF (sF (sF (sF s 109 29 w0_109_27) 109 30 z23) 109 28 (Int32.ofInt 3)) 109 27 z336).2.2.1 109 27).toInt ≤ ((sF (sF (sF (sF s 109 29 w0_109_27) 109 30 z23) 109 28 (Int32.ofInt 3)) 109 27 z336).2.2.1 109 22).toInt := by have b0 : z336 = (sF (sF (sF (sF s 109 29 w0_109_27) 109 30 z23) 109 28 (Int32.ofInt 3)) 109 27 z336).2.2.1 109 27 := sF_get; have b1 : w0_109_22 = (sF (sF (sF (sF s 109 29 w0_109_27) 109 30 z23) 109 28 (Int32.ofInt 3)) 109 27 z336).2.2.1 109 22 := sF_ne rfl (sF_ne rfl (sF_ne rfl (sF_ne rfl (v0_109_22)))); rw [← b0, ← b1]; exact n340
                                  exact g_return (gd rfl) rfl (hP _ _ ⟨(sF (sF (sF (sF s 109 29 w0_109_27) 109 30 z23) 109 28 (Int32.ofInt 3)) 109 27 z336), hI339, n341, rfl, rfl⟩)
                                · skip
                                  have i342 := z_eq 0 0 c332 (i_rng z330) rfl
                                  refine g_aload_n 8 (gd rfl) rfl rfl ?_
                                  refine g_iload_n 9 (gd rfl) rfl rfl ?_
                                  refine g_putI 12 (gd rfl) rfl rfl rfl rfl ?_
                                  have hI343 := inv_sF (q := 109) (j := 23) hI317 rfl (in_w (-2147483648) 2147483647 (in_c 1 rfl) rfl)
                                  refine g_aload_n 13 (gd rfl) rfl rfl ?_
                                  refine g_iload_n 14 (gd rfl) rfl rfl ?_
                                  refine g_putI 17 (gd rfl) rfl rfl rfl rfl ?_
                                  have hI344 := inv_sF (q := 109) (j := 24) hI343 rfl (in_w (-2147483648) 2147483647 i22 rfl)
                                  refine g_return (gd rfl) rfl (hp328 _ _ ?_)
                                  show GG _ _ _ _ _ _ _ _ [] _ _ _
                                  refine g_aload_n 221 (gd rfl) rfl rfl ?_
                                  refine g_dup 222 (gd rfl) rfl rfl ?_
                                  refine g_getI 225 (gd rfl) rfl rfl rfl (fun z345 e346 => ?_)
                                  have q347 : w0_109_27 = z345 := (sF_ne rfl (sF_ne rfl (sF_ne rfl (sF_ne rfl (sF_ne rfl (v0_109_27)))))).trans e346.symm
                                  subst q347
                                  refine g_iconst 1 226 (gd rfl) rfl rfl ?_
                                  refine g_iadd 227 (gd rfl) rfl (fun z348 e349 => ?_)
                                  have i350 := in_add 1 1000 e349 i22 (in_c 1 rfl) rfl rfl
                                  refine g_putI 230 (gd rfl) rfl rfl rfl rfl ?_
                                  have hI351 := inv_sF (q := 109) (j := 27) hI344 rfl (in_w 0 1000 i350 rfl)
                                  have n352 : (z348).toInt ≤ (w0_109_22).toInt := by have a0 := (in_c 0 rfl); unfold In at a0; have a1 := i224; unfold In at a1; have a2 := i350; unfold In at a2; have a3 := t_add e349 i22 (in_c 1 rfl) rfl; have a4 := (in_c 1 rfl); unfold In at a4; have a5 := i22; unfold In at a5; have a6 := (in_c 3 rfl); unfold In at a6; have a7 := i286; unfold In at a7; have a8 := i293; unfold In at a8; have a9 := t_add e291 i22 (in_c 1 rfl) rfl; have a10 := i285; unfold In at a10; have a11 := t_add e229 i22 (in_c 1 rfl) rfl; omega
                                  have n353 : ((sF (sF (sF (sF (sF (sF s 109 29 w0_109_27) 109 30 z23) 109 28 (Int32.ofInt 3)) 109 23 (Int32.ofInt 1)) 109 24 w0_109_27) 109 27 z348).2.2.1 109 27).toInt ≤ ((sF (sF (sF (sF (sF (sF s 109 29 w0_109_27) 109 30 z23) 109 28 (Int32.ofInt 3)) 109 23 (Int32.ofInt 1)) 109 24 w0_109_27) 109 27 z348).2.2.1 109 22).toInt := by have b0 : z348 = (sF (sF (sF (sF (sF (sF s 109 29 w0_109_27) 109 30 z23) 109 28 (Int32.ofInt 3)) 109 23 (Int32.ofInt 1)) 109 24 w0_109_27) 109 27 z348).2.2.1 109 27 := sF_get; have b1 : w0_109_22 = (sF (sF (sF (sF (sF (sF s 109 29 w0_109_27) 109 30 z23) 109 28 (Int32.ofInt 3)) 109 23 (Int32.ofInt 1)) 109 24 w0_109_27) 109 27 z348).2.2.1 109 22 := sF_ne rfl (sF_ne rfl (sF_ne rfl (sF_ne rfl (sF_ne rfl (sF_ne rfl (v0_109_22)))))); rw [← b0, ← b1]; exact n352
                                  exact g_return (gd rfl) rfl (hP _ _ ⟨(sF (sF (sF (sF (sF (sF s 109 29 w0_109_27) 109 30 z23) 109 28 (Int32.ofInt 3)) 109 23 (Int32.ofInt 1)) 109 24 w0_109_27) 109 27 z348), hI351, n353, rfl, rfl⟩)
                          · skip
                            exact zn_ne c316 (in_c 0 rfl) rfl
                        · skip
                          exact n_le c315 (in_c 97 rfl) i224 rfl
                      · skip
                        exact zn_ne c310 (in_c 0 rfl) rfl
                  · skip
                    exact n_le c308 (in_c 48 rfl) i224 rfl
                · skip
                  exact zn_ne c303 (in_c 0 rfl) rfl
              · skip
                have i354 := r_le2 48 126 c301 (in_c 48 rfl) i296 rfl
                refine g_iload_n 7 (gd rfl) rfl rfl ?_
                refine g_bipush 57 9 (gd rfl) rfl rfl ?_
                refine g_cmp_gt 12 16 (gd rfl) rfl rfl (fun c355 => ?_) (fun c355 => ?_)
                · skip
                  have i356 := r_lt2 58 126 c355 (in_c 57 rfl) i354 rfl
                  refine g_iconst 0 17 (gd rfl) rfl rfl ?_
                  refine g_ireturn (gd rfl) rfl (nb01 (in_w 0 1 (in_c 0 rfl) rfl)) (hp299 _ _ ?_)
                  show GG _ _ _ _ _ _ _ _ [.int (Int32.ofInt 0)] _ _ _
                  refine g_if_eq 114 118 (gd rfl) rfl rfl (fun c357 => ?_) (fun c357 => ?_)
                  · skip
                    refine g_iconst 0 119 (gd rfl) rfl rfl ?_
                    refine g_istore_n 120 (gd rfl) rfl (Nat.le_of_ble_eq_true rfl) ?_
                    refine g_iload_n 121 (gd rfl) rfl rfl ?_
                    refine g_calls (As := [.int z23]) (r := []) 124 (gd rfl) rfl rfl rfl rfl rfl (Nat.le_of_ble_eq_true rfl) (mc := 0) (ms := 0) (Nat.zero_le _) (Nat.zero_le _) (P := fun v u => _) ?_ (fun v u h => h)
                    intro po358 xx359 hp360 hx361
                    refine g_enter2 (k := 297) (N := 300) (by omega) rfl (Nat.le_of_ble_eq_true rfl) ?_
                    refine g_iload_n 1 (gd rfl) rfl rfl ?_
                    refine g_bipush 48 3 (gd rfl) rfl rfl ?_
                    refine g_cmp_lt 6 16 (gd rfl) rfl rfl (fun c362 => ?_) (fun c362 => ?_)
                    · skip
                      refine g_iconst 0 17 (gd rfl) rfl rfl ?_
                      refine g_ireturn (gd rfl) rfl (nb01 (in_w 0 1 (in_c 0 rfl) rfl)) (hp360 _ _ ?_)
                      show GG _ _ _ _ _ _ _ _ [.int (Int32.ofInt 0)] _ _ _
                      refine g_if_ne 127 131 (gd rfl) rfl rfl (fun c363 => ?_) (fun c363 => ?_)
                      · skip
                        exact zn_ne c363 (in_c 0 rfl) rfl
                      · skip
                        refine g_iload_n 128 (gd rfl) rfl rfl ?_
                        refine g_if_eq 131 181 (gd rfl) rfl rfl (fun c364 => ?_) (fun c364 => ?_)
                        · skip
                          refine g_aload_n 182 (gd rfl) rfl rfl ?_
                          refine g_iload_n 183 (gd rfl) rfl rfl ?_
                          refine g_calls (As := [.int z23]) (r := [.ref (A 109)]) 186 (gd rfl) rfl rfl rfl rfl rfl (Nat.le_of_ble_eq_true rfl) (mc := 0) (ms := 0) (Nat.zero_le _) (Nat.zero_le _) (P := fun v u => _) ?_ (fun v u h => h)
                          intro po365 xx366 hp367 hx368
                          refine g_enter2 (k := 296) (N := 300) (by omega) rfl (Nat.le_of_ble_eq_true rfl) ?_
                          refine g_iload_n 1 (gd rfl) rfl rfl ?_
                          refine g_bipush 97 3 (gd rfl) rfl rfl ?_
                          refine g_cmp_lt 6 16 (gd rfl) rfl rfl (fun c369 => ?_) (fun c369 => ?_)
                          · skip
                            refine g_iconst 0 17 (gd rfl) rfl rfl ?_
                            refine g_ireturn (gd rfl) rfl (nb01 (in_w 0 1 (in_c 0 rfl) rfl)) (hp367 _ _ ?_)
                            show GG _ _ _ _ _ _ _ _ [.int (Int32.ofInt 0), .ref (A 109)] _ _ _
                            refine g_if_eq 189 193 (gd rfl) rfl rfl (fun c370 => ?_) (fun c370 => ?_)
                            · skip
                              refine g_iconst 3 194 (gd rfl) rfl rfl ?_
                              refine g_putI 197 (gd rfl) rfl rfl rfl rfl ?_
                              have hI371 := inv_sF (q := 109) (j := 28) hI26 rfl (in_w (-2147483648) 2147483647 (in_c 3 rfl) rfl)
                              refine g_aload_n 198 (gd rfl) rfl rfl ?_
                              refine g_getI 201 (gd rfl) rfl rfl rfl (fun z372 e373 => ?_)
                              have q374 : (Int32.ofInt 3) = z372 := (sF_get).trans e373.symm
                              subst q374
                              refine g_iconst 3 202 (gd rfl) rfl rfl ?_
                              refine g_cmp_ne 205 220 (gd rfl) rfl rfl (fun c375 => ?_) (fun c375 => ?_)
                              · skip
                                exact n_ne c375 (in_c 3 rfl) (in_c 3 rfl) rfl
                              · skip
                                refine g_iload_n 206 (gd rfl) rfl rfl ?_
                                refine g_bipush 59 208 (gd rfl) rfl rfl ?_
                                refine g_cmp_eq 211 220 (gd rfl) rfl rfl (fun c376 => ?_) (fun c376 => ?_)
                                · skip
                                  exact n_eq c376 i224 (in_c 59 rfl) rfl
                                · skip
                                  refine g_aload_n 212 (gd rfl) rfl rfl ?_
                                  refine g_iconst 1 213 (gd rfl) rfl rfl ?_
                                  refine g_aload_n 214 (gd rfl) rfl rfl ?_
                                  refine g_getI 217 (gd rfl) rfl rfl rfl (fun z377 e378 => ?_)
                                  have q379 : w0_109_27 = z377 := (sF_ne rfl (sF_ne rfl (sF_get))).trans e378.symm
                                  subst q379
                                  refine g_callv (X := _) (As := [.int (Int32.ofInt 1), .int w0_109_27]) (r := []) (b := A 109) (q := 109) 220 (gd rfl) rfl rfl rfl rfl rfl (ww_o rfl) (Nat.le_of_ble_eq_true rfl) (mc := 0) (ms := 0) (Nat.zero_le _) (Nat.zero_le _) (P := fun v u => _) ?_ (fun e u h => h) (fun v u h => h)
                                  intro po380 xx381 hp382 hx383
                                  refine g_enter2 (k := 298) (N := 300) (by omega) rfl (Nat.le_of_ble_eq_true rfl) ?_
                                  refine g_aload_n 1 (gd rfl) rfl rfl ?_
                                  refine g_getI 4 (gd rfl) rfl rfl rfl (fun z384 e385 => ?_)
                                  refine g_if_ne 7 17 (gd rfl) rfl rfl (fun c386 => ?_) (fun c386 => ?_)
                                  · skip
                                    refine g_return (gd rfl) rfl (hp382 _ _ ?_)
                                    show GG _ _ _ _ _ _ _ _ [] _ _ _
                                    refine g_aload_n 221 (gd rfl) rfl rfl ?_
                                    refine g_dup 222 (gd rfl) rfl rfl ?_
                                    refine g_getI 225 (gd rfl) rfl rfl rfl (fun z387 e388 => ?_)
                                    have q389 : w0_109_27 = z387 := (sF_ne rfl (sF_ne rfl (sF_ne rfl (v0_109_27)))).trans e388.symm
                                    subst q389
                                    refine g_iconst 1 226 (gd rfl) rfl rfl ?_
                                    refine g_iadd 227 (gd rfl) rfl (fun z390 e391 => ?_)
                                    have i392 := in_add 1 1000 e391 i22 (in_c 1 rfl) rfl rfl
                                    refine g_putI 230 (gd rfl) rfl rfl rfl rfl ?_
                                    have hI393 := inv_sF (q := 109) (j := 27) hI371 rfl (in_w 0 1000 i392 rfl)
                                    have n394 : (z390).toInt ≤ (w0_109_22).toInt := by have a0 := (in_c 0 rfl); unfold In at a0; have a1 := i224; unfold In at a1; have a2 := i392; unfold In at a2; have a3 := t_add e391 i22 (in_c 1 rfl) rfl; have a4 := (in_c 1 rfl); unfold In at a4; have a5 := i22; unfold In at a5; have a6 := (in_c 3 rfl); unfold In at a6; have a7 := i286; unfold In at a7; have a8 := i293; unfold In at a8; have a9 := t_add e291 i22 (in_c 1 rfl) rfl; have a10 := i285; unfold In at a10; have a11 := t_add e229 i22 (in_c 1 rfl) rfl; omega
                                    have n395 : ((sF (sF (sF (sF s 109 29 w0_109_27) 109 30 z23) 109 28 (Int32.ofInt 3)) 109 27 z390).2.2.1 109 27).toInt ≤ ((sF (sF (sF (sF s 109 29 w0_109_27) 109 30 z23) 109 28 (Int32.ofInt 3)) 109 27 z390).2.2.1 109 22).toInt := by have b0 : z390 = (sF (sF (sF (sF s 109 29 w0_109_27) 109 30 z23) 109 28 (Int32.ofInt 3)) 109 27 z390).2.2.1 109 27 := sF_get; have b1 : w0_109_22 = (sF (sF (sF (sF s 109 29 w0_109_27) 109 30 z23) 109 28 (Int32.ofInt 3)) 109 27 z390).2.2.1 109 22 := sF_ne rfl (sF_ne rfl (sF_ne rfl (sF_ne rfl (v0_109_22)))); rw [← b0, ← b1]; exact n394
                                    exact g_return (gd rfl) rfl (hP _ _ ⟨(sF (sF (sF (sF s 109 29 w0_109_27) 109 30 z23) 109 28 (Int32.ofInt 3)) 109 27 z390), hI393, n395, rfl, rfl⟩)
                                  · skip
                                    have i396 := z_eq 0 0 c386 (i_rng z384) rfl
                                    refine g_aload_n 8 (gd rfl) rfl rfl ?_
                                    refine g_iload_n 9 (gd rfl) rfl rfl ?_
                                    refine g_putI 12 (gd rfl) rfl rfl rfl rfl ?_
                                    have hI397 := inv_sF (q := 109) (j := 23) hI371 rfl (in_w (-2147483648) 2147483647 (in_c 1 rfl) rfl)
                                    refine g_aload_n 13 (gd rfl) rfl rfl ?_
                                    refine g_iload_n 14 (gd rfl) rfl rfl ?_
                                    refine g_putI 17 (gd rfl) rfl rfl rfl rfl ?_
                                    have hI398 := inv_sF (q := 109) (j := 24) hI397 rfl (in_w (-2147483648) 2147483647 i22 rfl)
                                    refine g_return (gd rfl) rfl (hp382 _ _ ?_)
                                    show GG _ _ _ _ _ _ _ _ [] _ _ _
                                    refine g_aload_n 221 (gd rfl) rfl rfl ?_
                                    refine g_dup 222 (gd rfl) rfl rfl ?_
                                    refine g_getI 225 (gd rfl) rfl rfl rfl (fun z399 e400 => ?_)
                                    have q401 : w0_109_27 = z399 := (sF_ne rfl (sF_ne rfl (sF_ne rfl (sF_ne rfl (sF_ne rfl (v0_109_27)))))).trans e400.symm
                                    subst q401
                                    refine g_iconst 1 226 (gd rfl) rfl rfl ?_
                                    refine g_iadd 227 (gd rfl) rfl (fun z402 e403 => ?_)
                                    have i404 := in_add 1 1000 e403 i22 (in_c 1 rfl) rfl rfl
                                    refine g_putI 230 (gd rfl) rfl rfl rfl rfl ?_
                                    have hI405 := inv_sF (q := 109) (j := 27) hI398 rfl (in_w 0 1000 i404 rfl)
                                    have n406 : (z402).toInt ≤ (w0_109_22).toInt := by have a0 := (in_c 0 rfl); unfold In at a0; have a1 := i224; unfold In at a1; have a2 := i404; unfold In at a2; have a3 := t_add e403 i22 (in_c 1 rfl) rfl; have a4 := (in_c 1 rfl); unfold In at a4; have a5 := i22; unfold In at a5; have a6 := (in_c 3 rfl); unfold In at a6; have a7 := i286; unfold In at a7; have a8 := i293; unfold In at a8; have a9 := t_add e291 i22 (in_c 1 rfl) rfl; have a10 := i285; unfold In at a10; have a11 := t_add e229 i22 (in_c 1 rfl) rfl; omega
                                    have n407 : ((sF (sF (sF (sF (sF (sF s 109 29 w0_109_27) 109 30 z23) 109 28 (Int32.ofInt 3)) 109 23 (Int32.ofInt 1)) 109 24 w0_109_27) 109 27 z402).2.2.1 109 27).toInt ≤ ((sF (sF (sF (sF (sF (sF s 109 29 w0_109_27) 109 30 z23) 109 28 (Int32.ofInt 3)) 109 23 (Int32.ofInt 1)) 109 24 w0_109_27) 109 27 z402).2.2.1 109 22).toInt := by have b0 : z402 = (sF (sF (sF (sF (sF (sF s 109 29 w0_109_27) 109 30 z23) 109 28 (Int32.ofInt 3)) 109 23 (Int32.ofInt 1)) 109 24 w0_109_27) 109 27 z402).2.2.1 109 27 := sF_get; have b1 : w0_109_22 = (sF (sF (sF (sF (sF (sF s 109 29 w0_109_27) 109 30 z23) 109 28 (Int32.ofInt 3)) 109 23 (Int32.ofInt 1)) 109 24 w0_109_27) 109 27 z402).2.2.1 109 22 := sF_ne rfl (sF_ne rfl (sF_ne rfl (sF_ne rfl (sF_ne rfl (sF_ne rfl (v0_109_22)))))); rw [← b0, ← b1]; exact n406
                                    exact g_return (gd rfl) rfl (hP _ _ ⟨(sF (sF (sF (sF (sF (sF s 109 29 w0_109_27) 109 30 z23) 109 28 (Int32.ofInt 3)) 109 23 (Int32.ofInt 1)) 109 24 w0_109_27) 109 27 z402), hI405, n407, rfl, rfl⟩)
                            · skip
                              exact zn_ne c370 (in_c 0 rfl) rfl
                          · skip
                            exact n_le c369 (in_c 97 rfl) i224 rfl
                        · skip
                          exact zn_ne c364 (in_c 0 rfl) rfl
                    · skip
                      exact n_le c362 (in_c 48 rfl) i224 rfl
                  · skip
                    exact zn_ne c357 (in_c 0 rfl) rfl
                · skip
                  have i408 := r_le1 48 57 c355 i354 (in_c 57 rfl) rfl
                  refine g_iconst 1 13 (gd rfl) rfl rfl ?_
                  refine g_goto 17 (gd rfl) rfl ?_
                  refine g_ireturn (gd rfl) rfl (nb01 (in_w 0 1 (in_c 1 rfl) rfl)) (hp299 _ _ ?_)
                  show GG _ _ _ _ _ _ _ _ [.int (Int32.ofInt 1)] _ _ _
                  refine g_if_eq 114 118 (gd rfl) rfl rfl (fun c409 => ?_) (fun c409 => ?_)
                  · skip
                    exact zn_eq c409 (in_c 1 rfl) rfl
                  · skip
                    refine g_iconst 1 115 (gd rfl) rfl rfl ?_
                    refine g_goto 119 (gd rfl) rfl ?_
                    refine g_istore_n 120 (gd rfl) rfl (Nat.le_of_ble_eq_true rfl) ?_
                    refine g_iload_n 121 (gd rfl) rfl rfl ?_
                    refine g_calls (As := [.int z23]) (r := []) 124 (gd rfl) rfl rfl rfl rfl rfl (Nat.le_of_ble_eq_true rfl) (mc := 0) (ms := 0) (Nat.zero_le _) (Nat.zero_le _) (P := fun v u => _) ?_ (fun v u h => h)
                    intro po410 xx411 hp412 hx413
                    refine g_enter2 (k := 297) (N := 300) (by omega) rfl (Nat.le_of_ble_eq_true rfl) ?_
                    refine g_iload_n 1 (gd rfl) rfl rfl ?_
                    refine g_bipush 48 3 (gd rfl) rfl rfl ?_
                    refine g_cmp_lt 6 16 (gd rfl) rfl rfl (fun c414 => ?_) (fun c414 => ?_)
                    · skip
                      refine g_iconst 0 17 (gd rfl) rfl rfl ?_
                      refine g_ireturn (gd rfl) rfl (nb01 (in_w 0 1 (in_c 0 rfl) rfl)) (hp412 _ _ ?_)
                      show GG _ _ _ _ _ _ _ _ [.int (Int32.ofInt 0)] _ _ _
                      refine g_if_ne 127 131 (gd rfl) rfl rfl (fun c415 => ?_) (fun c415 => ?_)
                      · skip
                        exact zn_ne c415 (in_c 0 rfl) rfl
                      · skip
                        refine g_iload_n 128 (gd rfl) rfl rfl ?_
                        refine g_if_eq 131 181 (gd rfl) rfl rfl (fun c416 => ?_) (fun c416 => ?_)
                        · skip
                          exact zn_eq c416 (in_c 1 rfl) rfl
                        · skip
                          refine g_aload_n 132 (gd rfl) rfl rfl ?_
                          refine g_iconst 2 133 (gd rfl) rfl rfl ?_
                          refine g_putI 136 (gd rfl) rfl rfl rfl rfl ?_
                          have hI417 := inv_sF (q := 109) (j := 28) hI26 rfl (in_w (-2147483648) 2147483647 (in_c 2 rfl) rfl)
                          refine g_aload_n 137 (gd rfl) rfl rfl ?_
                          refine g_dup 138 (gd rfl) rfl rfl ?_
                          refine g_getI 141 (gd rfl) rfl rfl rfl (fun z418 e419 => ?_)
                          have q420 : w0_109_27 = z418 := (sF_ne rfl (sF_ne rfl (sF_ne rfl (v0_109_27)))).trans e419.symm
                          subst q420
                          refine g_iload_n 142 (gd rfl) rfl rfl ?_
                          refine g_if_eq 145 149 (gd rfl) rfl rfl (fun c421 => ?_) (fun c421 => ?_)
                          · skip
                            exact zn_eq c421 (in_c 1 rfl) rfl
                          · skip
                            refine g_iconst 1 146 (gd rfl) rfl rfl ?_
                            refine g_goto 150 (gd rfl) rfl ?_
                            refine g_iadd 151 (gd rfl) rfl (fun z422 e423 => ?_)
                            have i424 := in_add 1 1000 e423 i22 (in_c 1 rfl) rfl rfl
                            refine g_putI 154 (gd rfl) rfl rfl rfl rfl ?_
                            have hI425 := inv_sF (q := 109) (j := 27) hI417 rfl (in_w 0 1000 i424 rfl)
                            refine g_aload_n 155 (gd rfl) rfl rfl ?_
                            refine g_bipush 7 157 (gd rfl) rfl rfl ?_
                            have n426 : (z422).toInt ≤ (w0_109_22).toInt := by have a0 := (in_c 1 rfl); unfold In at a0; have a1 := i224; unfold In at a1; have a2 := i424; unfold In at a2; have a3 := t_add e423 i22 (in_c 1 rfl) rfl; have a4 := i22; unfold In at a4; have a5 := (in_c 2 rfl); unfold In at a5; have a6 := i286; unfold In at a6; have a7 := i293; unfold In at a7; have a8 := t_add e291 i22 (in_c 1 rfl) rfl; have a9 := i285; unfold In at a9; have a10 := t_add e229 i22 (in_c 1 rfl) rfl; omega
                            refine g_callv (X := _) (As := [.int (Int32.ofInt 7)]) (r := []) (b := A 109) (q := 109) 160 (gd rfl) rfl rfl rfl rfl rfl (ww_o rfl) (Nat.le_of_ble_eq_true rfl) (Nat.zero_le _) (Nat.zero_le _) (k_300 (by omega) hI425 (in_w 6 7 (in_c 7 rfl) rfl) (sF_get) (sF_ne rfl (sF_ne rfl (sF_ne rfl (sF_ne rfl (v0_109_22))))) n426) (fun e u h => h) (fun v u h => ?_)
                            obtain ⟨s427, hI428, n431, rfl, rfl⟩ := h
                            obtain ⟨z432, e433⟩ : ∃ w, w = s427.2.2.1 109 27 := ⟨_, rfl⟩
                            have i434 := inv_F hI428 0 1000 rfl e433
                            obtain ⟨z435, e436⟩ : ∃ w, w = s427.2.2.1 109 22 := ⟨_, rfl⟩
                            have i437 := inv_F hI428 0 1000 rfl e436
                            rw [← e433, ← e436] at n431
                            show GG _ _ _ _ _ _ _ _ [] _ _ _
                            refine g_aload_n 161 (gd rfl) rfl rfl ?_
                            refine g_iload_n 162 (gd rfl) rfl rfl ?_
                            refine g_if_eq 165 173 (gd rfl) rfl rfl (fun c438 => ?_) (fun c438 => ?_)
                            · skip
                              exact zn_eq c438 (in_c 1 rfl) rfl
                            · skip
                              refine g_aload_n 166 (gd rfl) rfl rfl ?_
                              refine g_getL 169 (gd rfl) rfl rfl rfl (fun z439 e440 => ?_)
                              refine g_lneg 170 (gd rfl) rfl (fun z441 e442 => ?_)
                              refine g_goto 177 (gd rfl) rfl ?_
                              refine g_putL 180 (gd rfl) rfl rfl rfl rfl ?_
                              have hI443 := inv_sG (q := 109) (j := 31) (x := z441) hI428
                              have n444 : (z432).toInt ≤ (z435).toInt := by have a0 := (in_c 1 rfl); unfold In at a0; have a1 := i224; unfold In at a1; have a2 := i437; unfold In at a2; have a3 := i434; unfold In at a3; have a4 := i424; unfold In at a4; have a5 := t_add e423 i22 (in_c 1 rfl) rfl; have a6 := i22; unfold In at a6; have a7 := i293; unfold In at a7; have a8 := t_add e291 i22 (in_c 1 rfl) rfl; have a9 := i285; unfold In at a9; have a10 := t_add e229 i22 (in_c 1 rfl) rfl; omega
                              have n445 : ((sG s427 109 31 z441).2.2.1 109 27).toInt ≤ ((sG s427 109 31 z441).2.2.1 109 22).toInt := by have b0 : z432 = (sG s427 109 31 z441).2.2.1 109 27 := e433; have b1 : z435 = (sG s427 109 31 z441).2.2.1 109 22 := e436; rw [← b0, ← b1]; exact n444
                              exact g_return (gd rfl) rfl (hP _ _ ⟨(sG s427 109 31 z441), hI443, n445, rfl, rfl⟩)
                    · skip
                      exact n_le c414 (in_c 48 rfl) i224 rfl
        · skip
          refine g_aload_n 58 (gd rfl) rfl rfl ?_
          refine g_iconst 0 59 (gd rfl) rfl rfl ?_
          refine g_putI 62 (gd rfl) rfl rfl rfl rfl ?_
          have hI446 := inv_sF (q := 109) (j := 28) hI11 rfl (in_w (-2147483648) 2147483647 (in_c 0 rfl) rfl)
          have n447 : (w0_109_27).toInt ≤ (w0_109_22).toInt := by have a0 := (in_c 0 rfl); unfold In at a0; have a1 := (inv_F hI 0 1000 rfl v0_109_27); unfold In at a1; have a2 := (inv_F hI 0 1000 rfl v0_109_22); unfold In at a2; omega
          have n448 : ((sF (sF s 109 29 w0_109_27) 109 28 (Int32.ofInt 0)).2.2.1 109 27).toInt ≤ ((sF (sF s 109 29 w0_109_27) 109 28 (Int32.ofInt 0)).2.2.1 109 22).toInt := by have b0 : w0_109_27 = (sF (sF s 109 29 w0_109_27) 109 28 (Int32.ofInt 0)).2.2.1 109 27 := sF_ne rfl (sF_ne rfl (v0_109_27)); have b1 : w0_109_22 = (sF (sF s 109 29 w0_109_27) 109 28 (Int32.ofInt 0)).2.2.1 109 22 := sF_ne rfl (sF_ne rfl (v0_109_22)); rw [← b0, ← b1]; exact n447
          exact g_return (gd rfl) rfl (hP _ _ ⟨(sF (sF s 109 29 w0_109_27) 109 28 (Int32.ofInt 0)), hI446, n448, rfl, rfl⟩)
      · skip
        have i449 := r_lt1 0 999 c7 (inv_F hI 0 1000 rfl v0_109_27) (inv_F hI 0 1000 rfl v0_109_22) rfl
        have i450 := r_lt2 1 1000 c7 (inv_F hI 0 1000 rfl v0_109_27) (inv_F hI 0 1000 rfl v0_109_22) rfl
        refine g_aload_n 12 (gd rfl) rfl rfl ?_
        refine g_getA (q2 := 125) 15 (gd rfl) rfl rfl rfl rfl rfl ?_
        refine g_aload_n 16 (gd rfl) rfl rfl ?_
        refine g_getI 19 (gd rfl) rfl rfl rfl (fun z451 e452 => ?_)
        have q453 : w0_109_27 = z451 := (v0_109_27).trans e452.symm
        subst q453
        refine g_iaload 20 (gd rfl) rfl (n := 1000) rfl (in_ix i449 rfl) (fun z454 e455 => ?_)
        have i456 := inv_I hI (n := 1000) (t := 0) 0 126 rfl (in_ix i449 rfl) rfl e455
        refine g_bipush 32 22 (gd rfl) rfl rfl ?_
        refine g_cmp_ne 25 38 (gd rfl) rfl rfl (fun c457 => ?_) (fun c457 => ?_)
        · skip
          refine g_aload_n 39 (gd rfl) rfl rfl ?_
          refine g_aload_n 40 (gd rfl) rfl rfl ?_
          refine g_getI 43 (gd rfl) rfl rfl rfl (fun z458 e459 => ?_)
          have q460 : w0_109_27 = z458 := (v0_109_27).trans e459.symm
          subst q460
          refine g_putI 46 (gd rfl) rfl rfl rfl rfl ?_
          have hI461 := inv_sF (q := 109) (j := 29) hI rfl (in_w 0 1000 i449 rfl)
          refine g_aload_n 47 (gd rfl) rfl rfl ?_
          refine g_getI 50 (gd rfl) rfl rfl rfl (fun z462 e463 => ?_)
          have q464 : w0_109_27 = z462 := (sF_ne rfl (v0_109_27)).trans e463.symm
          subst q464
          refine g_aload_n 51 (gd rfl) rfl rfl ?_
          refine g_getI 54 (gd rfl) rfl rfl rfl (fun z465 e466 => ?_)
          have q467 : w0_109_22 = z465 := (sF_ne rfl (v0_109_22)).trans e466.symm
          subst q467
          refine g_cmp_ne 57 63 (gd rfl) rfl rfl (fun c468 => ?_) (fun c468 => ?_)
          · skip
            refine g_aload_n 64 (gd rfl) rfl rfl ?_
            refine g_getA (q2 := 125) 67 (gd rfl) rfl rfl rfl rfl rfl ?_
            refine g_aload_n 68 (gd rfl) rfl rfl ?_
            refine g_getI 71 (gd rfl) rfl rfl rfl (fun z469 e470 => ?_)
            have q471 : w0_109_27 = z469 := (sF_ne rfl (v0_109_27)).trans e470.symm
            subst q471
            refine g_iaload 72 (gd rfl) rfl (n := 1000) rfl (in_ix i449 rfl) (fun z472 e473 => ?_)
            have q474 : z454 = z472 := (e455).trans e473.symm
            subst q474
            refine g_istore_n 73 (gd rfl) rfl (Nat.le_of_ble_eq_true rfl) ?_
            refine g_aload_n 74 (gd rfl) rfl rfl ?_
            refine g_iload_n 75 (gd rfl) rfl rfl ?_
            refine g_putI 78 (gd rfl) rfl rfl rfl rfl ?_
            have hI475 := inv_sF (q := 109) (j := 30) hI461 rfl (in_w (-2147483648) 2147483647 i456 rfl)
            refine g_iload_n 79 (gd rfl) rfl rfl ?_
            refine g_bipush 45 81 (gd rfl) rfl rfl ?_
            refine g_cmp_ne 84 118 (gd rfl) rfl rfl (fun c476 => ?_) (fun c476 => ?_)
            · skip
              refine g_iconst 0 119 (gd rfl) rfl rfl ?_
              refine g_istore_n 120 (gd rfl) rfl (Nat.le_of_ble_eq_true rfl) ?_
              refine g_iload_n 121 (gd rfl) rfl rfl ?_
              refine g_calls (As := [.int z454]) (r := []) 124 (gd rfl) rfl rfl rfl rfl rfl (Nat.le_of_ble_eq_true rfl) (mc := 0) (ms := 0) (Nat.zero_le _) (Nat.zero_le _) (P := fun v u => _) ?_ (fun v u h => h)
              intro po477 xx478 hp479 hx480
              refine g_enter2 (k := 297) (N := 300) (by omega) rfl (Nat.le_of_ble_eq_true rfl) ?_
              refine g_iload_n 1 (gd rfl) rfl rfl ?_
              refine g_bipush 48 3 (gd rfl) rfl rfl ?_
              refine g_cmp_lt 6 16 (gd rfl) rfl rfl (fun c481 => ?_) (fun c481 => ?_)
              · skip
                have i482 := r_lt1 0 47 c481 i456 (in_c 48 rfl) rfl
                refine g_iconst 0 17 (gd rfl) rfl rfl ?_
                refine g_ireturn (gd rfl) rfl (nb01 (in_w 0 1 (in_c 0 rfl) rfl)) (hp479 _ _ ?_)
                show GG _ _ _ _ _ _ _ _ [.int (Int32.ofInt 0)] _ _ _
                refine g_if_ne 127 131 (gd rfl) rfl rfl (fun c483 => ?_) (fun c483 => ?_)
                · skip
                  exact zn_ne c483 (in_c 0 rfl) rfl
                · skip
                  refine g_iload_n 128 (gd rfl) rfl rfl ?_
                  refine g_if_eq 131 181 (gd rfl) rfl rfl (fun c484 => ?_) (fun c484 => ?_)
                  · skip
                    refine g_aload_n 182 (gd rfl) rfl rfl ?_
                    refine g_iload_n 183 (gd rfl) rfl rfl ?_
                    refine g_calls (As := [.int z454]) (r := [.ref (A 109)]) 186 (gd rfl) rfl rfl rfl rfl rfl (Nat.le_of_ble_eq_true rfl) (mc := 0) (ms := 0) (Nat.zero_le _) (Nat.zero_le _) (P := fun v u => _) ?_ (fun v u h => h)
                    intro po485 xx486 hp487 hx488
                    refine g_enter2 (k := 296) (N := 300) (by omega) rfl (Nat.le_of_ble_eq_true rfl) ?_
                    refine g_iload_n 1 (gd rfl) rfl rfl ?_
                    refine g_bipush 97 3 (gd rfl) rfl rfl ?_
                    refine g_cmp_lt 6 16 (gd rfl) rfl rfl (fun c489 => ?_) (fun c489 => ?_)
                    · skip
                      refine g_iconst 0 17 (gd rfl) rfl rfl ?_
                      refine g_ireturn (gd rfl) rfl (nb01 (in_w 0 1 (in_c 0 rfl) rfl)) (hp487 _ _ ?_)
                      show GG _ _ _ _ _ _ _ _ [.int (Int32.ofInt 0), .ref (A 109)] _ _ _
                      refine g_if_eq 189 193 (gd rfl) rfl rfl (fun c490 => ?_) (fun c490 => ?_)
                      · skip
                        refine g_iconst 3 194 (gd rfl) rfl rfl ?_
                        refine g_putI 197 (gd rfl) rfl rfl rfl rfl ?_
                        have hI491 := inv_sF (q := 109) (j := 28) hI475 rfl (in_w (-2147483648) 2147483647 (in_c 3 rfl) rfl)
                        refine g_aload_n 198 (gd rfl) rfl rfl ?_
                        refine g_getI 201 (gd rfl) rfl rfl rfl (fun z492 e493 => ?_)
                        have q494 : (Int32.ofInt 3) = z492 := (sF_get).trans e493.symm
                        subst q494
                        refine g_iconst 3 202 (gd rfl) rfl rfl ?_
                        refine g_cmp_ne 205 220 (gd rfl) rfl rfl (fun c495 => ?_) (fun c495 => ?_)
                        · skip
                          exact n_ne c495 (in_c 3 rfl) (in_c 3 rfl) rfl
                        · skip
                          refine g_iload_n 206 (gd rfl) rfl rfl ?_
                          refine g_bipush 59 208 (gd rfl) rfl rfl ?_
                          refine g_cmp_eq 211 220 (gd rfl) rfl rfl (fun c496 => ?_) (fun c496 => ?_)
                          · skip
                            exact n_eq c496 i482 (in_c 59 rfl) rfl
                          · skip
                            refine g_aload_n 212 (gd rfl) rfl rfl ?_
                            refine g_iconst 1 213 (gd rfl) rfl rfl ?_
                            refine g_aload_n 214 (gd rfl) rfl rfl ?_
                            refine g_getI 217 (gd rfl) rfl rfl rfl (fun z497 e498 => ?_)
                            have q499 : w0_109_27 = z497 := (sF_ne rfl (sF_ne rfl (sF_get))).trans e498.symm
                            subst q499
                            refine g_callv (X := _) (As := [.int (Int32.ofInt 1), .int w0_109_27]) (r := []) (b := A 109) (q := 109) 220 (gd rfl) rfl rfl rfl rfl rfl (ww_o rfl) (Nat.le_of_ble_eq_true rfl) (mc := 0) (ms := 0) (Nat.zero_le _) (Nat.zero_le _) (P := fun v u => _) ?_ (fun e u h => h) (fun v u h => h)
                            intro po500 xx501 hp502 hx503
                            refine g_enter2 (k := 298) (N := 300) (by omega) rfl (Nat.le_of_ble_eq_true rfl) ?_
                            refine g_aload_n 1 (gd rfl) rfl rfl ?_
                            refine g_getI 4 (gd rfl) rfl rfl rfl (fun z504 e505 => ?_)
                            refine g_if_ne 7 17 (gd rfl) rfl rfl (fun c506 => ?_) (fun c506 => ?_)
                            · skip
                              refine g_return (gd rfl) rfl (hp502 _ _ ?_)
                              show GG _ _ _ _ _ _ _ _ [] _ _ _
                              refine g_aload_n 221 (gd rfl) rfl rfl ?_
                              refine g_dup 222 (gd rfl) rfl rfl ?_
                              refine g_getI 225 (gd rfl) rfl rfl rfl (fun z507 e508 => ?_)
                              have q509 : w0_109_27 = z507 := (sF_ne rfl (sF_ne rfl (sF_ne rfl (v0_109_27)))).trans e508.symm
                              subst q509
                              refine g_iconst 1 226 (gd rfl) rfl rfl ?_
                              refine g_iadd 227 (gd rfl) rfl (fun z510 e511 => ?_)
                              have i512 := in_add 1 1000 e511 i449 (in_c 1 rfl) rfl rfl
                              refine g_putI 230 (gd rfl) rfl rfl rfl rfl ?_
                              have hI513 := inv_sF (q := 109) (j := 27) hI491 rfl (in_w 0 1000 i512 rfl)
                              have n514 : (z510).toInt ≤ (w0_109_22).toInt := by have a0 := (in_c 0 rfl); unfold In at a0; have a1 := i482; unfold In at a1; have a2 := i512; unfold In at a2; have a3 := t_add e511 i449 (in_c 1 rfl) rfl; have a4 := (in_c 1 rfl); unfold In at a4; have a5 := i449; unfold In at a5; have a6 := (in_c 3 rfl); unfold In at a6; have a7 := i450; unfold In at a7; omega
                              have n515 : ((sF (sF (sF (sF s 109 29 w0_109_27) 109 30 z454) 109 28 (Int32.ofInt 3)) 109 27 z510).2.2.1 109 27).toInt ≤ ((sF (sF (sF (sF s 109 29 w0_109_27) 109 30 z454) 109 28 (Int32.ofInt 3)) 109 27 z510).2.2.1 109 22).toInt := by have b0 : z510 = (sF (sF (sF (sF s 109 29 w0_109_27) 109 30 z454) 109 28 (Int32.ofInt 3)) 109 27 z510).2.2.1 109 27 := sF_get; have b1 : w0_109_22 = (sF (sF (sF (sF s 109 29 w0_109_27) 109 30 z454) 109 28 (Int32.ofInt 3)) 109 27 z510).2.2.1 109 22 := sF_ne rfl (sF_ne rfl (sF_ne rfl (sF_ne rfl (v0_109_22)))); rw [← b0, ← b1]; exact n514
                              exact g_return (gd rfl) rfl (hP _ _ ⟨(sF (sF (sF (sF s 109 29 w0_109_27) 109 30 z454) 109 28 (Int32.ofInt 3)) 109 27 z510), hI513, n515, rfl, rfl⟩)
                            · skip
                              have i516 := z_eq 0 0 c506 (i_rng z504) rfl
                              refine g_aload_n 8 (gd rfl) rfl rfl ?_
                              refine g_iload_n 9 (gd rfl) rfl rfl ?_
                              refine g_putI 12 (gd rfl) rfl rfl rfl rfl ?_
                              have hI517 := inv_sF (q := 109) (j := 23) hI491 rfl (in_w (-2147483648) 2147483647 (in_c 1 rfl) rfl)
                              refine g_aload_n 13 (gd rfl) rfl rfl ?_
                              refine g_iload_n 14 (gd rfl) rfl rfl ?_
                              refine g_putI 17 (gd rfl) rfl rfl rfl rfl ?_
                              have hI518 := inv_sF (q := 109) (j := 24) hI517 rfl (in_w (-2147483648) 2147483647 i449 rfl)
                              refine g_return (gd rfl) rfl (hp502 _ _ ?_)
                              show GG _ _ _ _ _ _ _ _ [] _ _ _
                              refine g_aload_n 221 (gd rfl) rfl rfl ?_
                              refine g_dup 222 (gd rfl) rfl rfl ?_
                              refine g_getI 225 (gd rfl) rfl rfl rfl (fun z519 e520 => ?_)
                              have q521 : w0_109_27 = z519 := (sF_ne rfl (sF_ne rfl (sF_ne rfl (sF_ne rfl (sF_ne rfl (v0_109_27)))))).trans e520.symm
                              subst q521
                              refine g_iconst 1 226 (gd rfl) rfl rfl ?_
                              refine g_iadd 227 (gd rfl) rfl (fun z522 e523 => ?_)
                              have i524 := in_add 1 1000 e523 i449 (in_c 1 rfl) rfl rfl
                              refine g_putI 230 (gd rfl) rfl rfl rfl rfl ?_
                              have hI525 := inv_sF (q := 109) (j := 27) hI518 rfl (in_w 0 1000 i524 rfl)
                              have n526 : (z522).toInt ≤ (w0_109_22).toInt := by have a0 := (in_c 0 rfl); unfold In at a0; have a1 := i482; unfold In at a1; have a2 := i524; unfold In at a2; have a3 := t_add e523 i449 (in_c 1 rfl) rfl; have a4 := (in_c 1 rfl); unfold In at a4; have a5 := i449; unfold In at a5; have a6 := (in_c 3 rfl); unfold In at a6; have a7 := i450; unfold In at a7; omega
                              have n527 : ((sF (sF (sF (sF (sF (sF s 109 29 w0_109_27) 109 30 z454) 109 28 (Int32.ofInt 3)) 109 23 (Int32.ofInt 1)) 109 24 w0_109_27) 109 27 z522).2.2.1 109 27).toInt ≤ ((sF (sF (sF (sF (sF (sF s 109 29 w0_109_27) 109 30 z454) 109 28 (Int32.ofInt 3)) 109 23 (Int32.ofInt 1)) 109 24 w0_109_27) 109 27 z522).2.2.1 109 22).toInt := by have b0 : z522 = (sF (sF (sF (sF (sF (sF s 109 29 w0_109_27) 109 30 z454) 109 28 (Int32.ofInt 3)) 109 23 (Int32.ofInt 1)) 109 24 w0_109_27) 109 27 z522).2.2.1 109 27 := sF_get; have b1 : w0_109_22 = (sF (sF (sF (sF (sF (sF s 109 29 w0_109_27) 109 30 z454) 109 28 (Int32.ofInt 3)) 109 23 (Int32.ofInt 1)) 109 24 w0_109_27) 109 27 z522).2.2.1 109 22 := sF_ne rfl (sF_ne rfl (sF_ne rfl (sF_ne rfl (sF_ne rfl (sF_ne rfl (v0_109_22)))))); rw [← b0, ← b1]; exact n526
                              exact g_return (gd rfl) rfl (hP _ _ ⟨(sF (sF (sF (sF (sF (sF s 109 29 w0_109_27) 109 30 z454) 109 28 (Int32.ofInt 3)) 109 23 (Int32.ofInt 1)) 109 24 w0_109_27) 109 27 z522), hI525, n527, rfl, rfl⟩)
                      · skip
                        exact zn_ne c490 (in_c 0 rfl) rfl
                    · skip
                      exact n_le c489 (in_c 97 rfl) i482 rfl
                  · skip
                    exact zn_ne c484 (in_c 0 rfl) rfl
              · skip
                have i528 := r_le2 48 126 c481 (in_c 48 rfl) i456 rfl
                refine g_iload_n 7 (gd rfl) rfl rfl ?_
                refine g_bipush 57 9 (gd rfl) rfl rfl ?_
                refine g_cmp_gt 12 16 (gd rfl) rfl rfl (fun c529 => ?_) (fun c529 => ?_)
                · skip
                  have i530 := r_lt2 58 126 c529 (in_c 57 rfl) i528 rfl
                  refine g_iconst 0 17 (gd rfl) rfl rfl ?_
                  refine g_ireturn (gd rfl) rfl (nb01 (in_w 0 1 (in_c 0 rfl) rfl)) (hp479 _ _ ?_)
                  show GG _ _ _ _ _ _ _ _ [.int (Int32.ofInt 0)] _ _ _
                  refine g_if_ne 127 131 (gd rfl) rfl rfl (fun c531 => ?_) (fun c531 => ?_)
                  · skip
                    exact zn_ne c531 (in_c 0 rfl) rfl
                  · skip
                    refine g_iload_n 128 (gd rfl) rfl rfl ?_
                    refine g_if_eq 131 181 (gd rfl) rfl rfl (fun c532 => ?_) (fun c532 => ?_)
                    · skip
                      refine g_aload_n 182 (gd rfl) rfl rfl ?_
                      refine g_iload_n 183 (gd rfl) rfl rfl ?_
                      refine g_calls (As := [.int z454]) (r := [.ref (A 109)]) 186 (gd rfl) rfl rfl rfl rfl rfl (Nat.le_of_ble_eq_true rfl) (mc := 0) (ms := 0) (Nat.zero_le _) (Nat.zero_le _) (P := fun v u => _) ?_ (fun v u h => h)
                      intro po533 xx534 hp535 hx536
                      refine g_enter2 (k := 296) (N := 300) (by omega) rfl (Nat.le_of_ble_eq_true rfl) ?_
                      refine g_iload_n 1 (gd rfl) rfl rfl ?_
                      refine g_bipush 97 3 (gd rfl) rfl rfl ?_
                      refine g_cmp_lt 6 16 (gd rfl) rfl rfl (fun c537 => ?_) (fun c537 => ?_)
                      · skip
                        have i538 := r_lt1 58 96 c537 i530 (in_c 97 rfl) rfl
                        refine g_iconst 0 17 (gd rfl) rfl rfl ?_
                        refine g_ireturn (gd rfl) rfl (nb01 (in_w 0 1 (in_c 0 rfl) rfl)) (hp535 _ _ ?_)
                        show GG _ _ _ _ _ _ _ _ [.int (Int32.ofInt 0), .ref (A 109)] _ _ _
                        refine g_if_eq 189 193 (gd rfl) rfl rfl (fun c539 => ?_) (fun c539 => ?_)
                        · skip
                          refine g_iconst 3 194 (gd rfl) rfl rfl ?_
                          refine g_putI 197 (gd rfl) rfl rfl rfl rfl ?_
                          have hI540 := inv_sF (q := 109) (j := 28) hI475 rfl (in_w (-2147483648) 2147483647 (in_c 3 rfl) rfl)
                          refine g_aload_n 198 (gd rfl) rfl rfl ?_
                          refine g_getI 201 (gd rfl) rfl rfl rfl (fun z541 e542 => ?_)
                          have q543 : (Int32.ofInt 3) = z541 := (sF_get).trans e542.symm
                          subst q543
                          refine g_iconst 3 202 (gd rfl) rfl rfl ?_
                          refine g_cmp_ne 205 220 (gd rfl) rfl rfl (fun c544 => ?_) (fun c544 => ?_)
                          · skip
                            exact n_ne c544 (in_c 3 rfl) (in_c 3 rfl) rfl
                          · skip
                            refine g_iload_n 206 (gd rfl) rfl rfl ?_
                            refine g_bipush 59 208 (gd rfl) rfl rfl ?_
                            refine g_cmp_eq 211 220 (gd rfl) rfl rfl (fun c545 => ?_) (fun c545 => ?_)
                            · skip
                              have i546 := r_eq1 59 59 c545 i538 (in_c 59 rfl) rfl
                              refine g_aload_n 221 (gd rfl) rfl rfl ?_
                              refine g_dup 222 (gd rfl) rfl rfl ?_
                              refine g_getI 225 (gd rfl) rfl rfl rfl (fun z547 e548 => ?_)
                              have q549 : w0_109_27 = z547 := (sF_ne rfl (sF_ne rfl (sF_ne rfl (v0_109_27)))).trans e548.symm
                              subst q549
                              refine g_iconst 1 226 (gd rfl) rfl rfl ?_
                              refine g_iadd 227 (gd rfl) rfl (fun z550 e551 => ?_)
                              have i552 := in_add 1 1000 e551 i449 (in_c 1 rfl) rfl rfl
                              refine g_putI 230 (gd rfl) rfl rfl rfl rfl ?_
                              have hI553 := inv_sF (q := 109) (j := 27) hI540 rfl (in_w 0 1000 i552 rfl)
                              have n554 : (z550).toInt ≤ (w0_109_22).toInt := by have a0 := (in_c 0 rfl); unfold In at a0; have a1 := i546; unfold In at a1; have a2 := i552; unfold In at a2; have a3 := t_add e551 i449 (in_c 1 rfl) rfl; have a4 := (in_c 1 rfl); unfold In at a4; have a5 := i449; unfold In at a5; have a6 := (in_c 3 rfl); unfold In at a6; have a7 := i450; unfold In at a7; omega
                              have n555 : ((sF (sF (sF (sF s 109 29 w0_109_27) 109 30 z454) 109 28 (Int32.ofInt 3)) 109 27 z550).2.2.1 109 27).toInt ≤ ((sF (sF (sF (sF s 109 29 w0_109_27) 109 30 z454) 109 28 (Int32.ofInt 3)) 109 27 z550).2.2.1 109 22).toInt := by have b0 : z550 = (sF (sF (sF (sF s 109 29 w0_109_27) 109 30 z454) 109 28 (Int32.ofInt 3)) 109 27 z550).2.2.1 109 27 := sF_get; have b1 : w0_109_22 = (sF (sF (sF (sF s 109 29 w0_109_27) 109 30 z454) 109 28 (Int32.ofInt 3)) 109 27 z550).2.2.1 109 22 := sF_ne rfl (sF_ne rfl (sF_ne rfl (sF_ne rfl (v0_109_22)))); rw [← b0, ← b1]; exact n554
                              exact g_return (gd rfl) rfl (hP _ _ ⟨(sF (sF (sF (sF s 109 29 w0_109_27) 109 30 z454) 109 28 (Int32.ofInt 3)) 109 27 z550), hI553, n555, rfl, rfl⟩)
                            · skip
                              refine g_aload_n 212 (gd rfl) rfl rfl ?_
                              refine g_iconst 1 213 (gd rfl) rfl rfl ?_
                              refine g_aload_n 214 (gd rfl) rfl rfl ?_
                              refine g_getI 217 (gd rfl) rfl rfl rfl (fun z556 e557 => ?_)
                              have q558 : w0_109_27 = z556 := (sF_ne rfl (sF_ne rfl (sF_get))).trans e557.symm
                              subst q558
                              refine g_callv (X := _) (As := [.int (Int32.ofInt 1), .int w0_109_27]) (r := []) (b := A 109) (q := 109) 220 (gd rfl) rfl rfl rfl rfl rfl (ww_o rfl) (Nat.le_of_ble_eq_true rfl) (mc := 0) (ms := 0) (Nat.zero_le _) (Nat.zero_le _) (P := fun v u => _) ?_ (fun e u h => h) (fun v u h => h)
                              intro po559 xx560 hp561 hx562
                              refine g_enter2 (k := 298) (N := 300) (by omega) rfl (Nat.le_of_ble_eq_true rfl) ?_
                              refine g_aload_n 1 (gd rfl) rfl rfl ?_
                              refine g_getI 4 (gd rfl) rfl rfl rfl (fun z563 e564 => ?_)
                              refine g_if_ne 7 17 (gd rfl) rfl rfl (fun c565 => ?_) (fun c565 => ?_)
                              · skip
                                refine g_return (gd rfl) rfl (hp561 _ _ ?_)
                                show GG _ _ _ _ _ _ _ _ [] _ _ _
                                refine g_aload_n 221 (gd rfl) rfl rfl ?_
                                refine g_dup 222 (gd rfl) rfl rfl ?_
                                refine g_getI 225 (gd rfl) rfl rfl rfl (fun z566 e567 => ?_)
                                have q568 : w0_109_27 = z566 := (sF_ne rfl (sF_ne rfl (sF_ne rfl (v0_109_27)))).trans e567.symm
                                subst q568
                                refine g_iconst 1 226 (gd rfl) rfl rfl ?_
                                refine g_iadd 227 (gd rfl) rfl (fun z569 e570 => ?_)
                                have i571 := in_add 1 1000 e570 i449 (in_c 1 rfl) rfl rfl
                                refine g_putI 230 (gd rfl) rfl rfl rfl rfl ?_
                                have hI572 := inv_sF (q := 109) (j := 27) hI540 rfl (in_w 0 1000 i571 rfl)
                                have n573 : (z569).toInt ≤ (w0_109_22).toInt := by have a0 := (in_c 0 rfl); unfold In at a0; have a1 := i538; unfold In at a1; have a2 := i571; unfold In at a2; have a3 := t_add e570 i449 (in_c 1 rfl) rfl; have a4 := (in_c 1 rfl); unfold In at a4; have a5 := i449; unfold In at a5; have a6 := (in_c 3 rfl); unfold In at a6; have a7 := i450; unfold In at a7; omega
                                have n574 : ((sF (sF (sF (sF s 109 29 w0_109_27) 109 30 z454) 109 28 (Int32.ofInt 3)) 109 27 z569).2.2.1 109 27).toInt ≤ ((sF (sF (sF (sF s 109 29 w0_109_27) 109 30 z454) 109 28 (Int32.ofInt 3)) 109 27 z569).2.2.1 109 22).toInt := by have b0 : z569 = (sF (sF (sF (sF s 109 29 w0_109_27) 109 30 z454) 109 28 (Int32.ofInt 3)) 109 27 z569).2.2.1 109 27 := sF_get; have b1 : w0_109_22 = (sF (sF (sF (sF s 109 29 w0_109_27) 109 30 z454) 109 28 (Int32.ofInt 3)) 109 27 z569).2.2.1 109 22 := sF_ne rfl (sF_ne rfl (sF_ne rfl (sF_ne rfl (v0_109_22)))); rw [← b0, ← b1]; exact n573
                                exact g_return (gd rfl) rfl (hP _ _ ⟨(sF (sF (sF (sF s 109 29 w0_109_27) 109 30 z454) 109 28 (Int32.ofInt 3)) 109 27 z569), hI572, n574, rfl, rfl⟩)
                              · skip
                                have i575 := z_eq 0 0 c565 (i_rng z563) rfl
                                refine g_aload_n 8 (gd rfl) rfl rfl ?_
                                refine g_iload_n 9 (gd rfl) rfl rfl ?_
                                refine g_putI 12 (gd rfl) rfl rfl rfl rfl ?_
                                have hI576 := inv_sF (q := 109) (j := 23) hI540 rfl (in_w (-2147483648) 2147483647 (in_c 1 rfl) rfl)
                                refine g_aload_n 13 (gd rfl) rfl rfl ?_
                                refine g_iload_n 14 (gd rfl) rfl rfl ?_
                                refine g_putI 17 (gd rfl) rfl rfl rfl rfl ?_
                                have hI577 := inv_sF (q := 109) (j := 24) hI576 rfl (in_w (-2147483648) 2147483647 i449 rfl)
                                refine g_return (gd rfl) rfl (hp561 _ _ ?_)
                                show GG _ _ _ _ _ _ _ _ [] _ _ _
                                refine g_aload_n 221 (gd rfl) rfl rfl ?_
                                refine g_dup 222 (gd rfl) rfl rfl ?_
                                refine g_getI 225 (gd rfl) rfl rfl rfl (fun z578 e579 => ?_)
                                have q580 : w0_109_27 = z578 := (sF_ne rfl (sF_ne rfl (sF_ne rfl (sF_ne rfl (sF_ne rfl (v0_109_27)))))).trans e579.symm
                                subst q580
                                refine g_iconst 1 226 (gd rfl) rfl rfl ?_
                                refine g_iadd 227 (gd rfl) rfl (fun z581 e582 => ?_)
                                have i583 := in_add 1 1000 e582 i449 (in_c 1 rfl) rfl rfl
                                refine g_putI 230 (gd rfl) rfl rfl rfl rfl ?_
                                have hI584 := inv_sF (q := 109) (j := 27) hI577 rfl (in_w 0 1000 i583 rfl)
                                have n585 : (z581).toInt ≤ (w0_109_22).toInt := by have a0 := (in_c 0 rfl); unfold In at a0; have a1 := i538; unfold In at a1; have a2 := i583; unfold In at a2; have a3 := t_add e582 i449 (in_c 1 rfl) rfl; have a4 := (in_c 1 rfl); unfold In at a4; have a5 := i449; unfold In at a5; have a6 := (in_c 3 rfl); unfold In at a6; have a7 := i450; unfold In at a7; omega
                                have n586 : ((sF (sF (sF (sF (sF (sF s 109 29 w0_109_27) 109 30 z454) 109 28 (Int32.ofInt 3)) 109 23 (Int32.ofInt 1)) 109 24 w0_109_27) 109 27 z581).2.2.1 109 27).toInt ≤ ((sF (sF (sF (sF (sF (sF s 109 29 w0_109_27) 109 30 z454) 109 28 (Int32.ofInt 3)) 109 23 (Int32.ofInt 1)) 109 24 w0_109_27) 109 27 z581).2.2.1 109 22).toInt := by have b0 : z581 = (sF (sF (sF (sF (sF (sF s 109 29 w0_109_27) 109 30 z454) 109 28 (Int32.ofInt 3)) 109 23 (Int32.ofInt 1)) 109 24 w0_109_27) 109 27 z581).2.2.1 109 27 := sF_get; have b1 : w0_109_22 = (sF (sF (sF (sF (sF (sF s 109 29 w0_109_27) 109 30 z454) 109 28 (Int32.ofInt 3)) 109 23 (Int32.ofInt 1)) 109 24 w0_109_27) 109 27 z581).2.2.1 109 22 := sF_ne rfl (sF_ne rfl (sF_ne rfl (sF_ne rfl (sF_ne rfl (sF_ne rfl (v0_109_22)))))); rw [← b0, ← b1]; exact n585
                                exact g_return (gd rfl) rfl (hP _ _ ⟨(sF (sF (sF (sF (sF (sF s 109 29 w0_109_27) 109 30 z454) 109 28 (Int32.ofInt 3)) 109 23 (Int32.ofInt 1)) 109 24 w0_109_27) 109 27 z581), hI584, n586, rfl, rfl⟩)
                        · skip
                          exact zn_ne c539 (in_c 0 rfl) rfl
                      · skip
                        have i587 := r_le2 97 126 c537 (in_c 97 rfl) i530 rfl
                        refine g_iload_n 7 (gd rfl) rfl rfl ?_
                        refine g_bipush 122 9 (gd rfl) rfl rfl ?_
                        refine g_cmp_gt 12 16 (gd rfl) rfl rfl (fun c588 => ?_) (fun c588 => ?_)
                        · skip
                          have i589 := r_lt2 123 126 c588 (in_c 122 rfl) i587 rfl
                          refine g_iconst 0 17 (gd rfl) rfl rfl ?_
                          refine g_ireturn (gd rfl) rfl (nb01 (in_w 0 1 (in_c 0 rfl) rfl)) (hp535 _ _ ?_)
                          show GG _ _ _ _ _ _ _ _ [.int (Int32.ofInt 0), .ref (A 109)] _ _ _
                          refine g_if_eq 189 193 (gd rfl) rfl rfl (fun c590 => ?_) (fun c590 => ?_)
                          · skip
                            refine g_iconst 3 194 (gd rfl) rfl rfl ?_
                            refine g_putI 197 (gd rfl) rfl rfl rfl rfl ?_
                            have hI591 := inv_sF (q := 109) (j := 28) hI475 rfl (in_w (-2147483648) 2147483647 (in_c 3 rfl) rfl)
                            refine g_aload_n 198 (gd rfl) rfl rfl ?_
                            refine g_getI 201 (gd rfl) rfl rfl rfl (fun z592 e593 => ?_)
                            have q594 : (Int32.ofInt 3) = z592 := (sF_get).trans e593.symm
                            subst q594
                            refine g_iconst 3 202 (gd rfl) rfl rfl ?_
                            refine g_cmp_ne 205 220 (gd rfl) rfl rfl (fun c595 => ?_) (fun c595 => ?_)
                            · skip
                              exact n_ne c595 (in_c 3 rfl) (in_c 3 rfl) rfl
                            · skip
                              refine g_iload_n 206 (gd rfl) rfl rfl ?_
                              refine g_bipush 59 208 (gd rfl) rfl rfl ?_
                              refine g_cmp_eq 211 220 (gd rfl) rfl rfl (fun c596 => ?_) (fun c596 => ?_)
                              · skip
                                exact n_eq c596 i589 (in_c 59 rfl) rfl
                              · skip
                                refine g_aload_n 212 (gd rfl) rfl rfl ?_
                                refine g_iconst 1 213 (gd rfl) rfl rfl ?_
                                refine g_aload_n 214 (gd rfl) rfl rfl ?_
                                refine g_getI 217 (gd rfl) rfl rfl rfl (fun z597 e598 => ?_)
                                have q599 : w0_109_27 = z597 := (sF_ne rfl (sF_ne rfl (sF_get))).trans e598.symm
                                subst q599
                                refine g_callv (X := _) (As := [.int (Int32.ofInt 1), .int w0_109_27]) (r := []) (b := A 109) (q := 109) 220 (gd rfl) rfl rfl rfl rfl rfl (ww_o rfl) (Nat.le_of_ble_eq_true rfl) (mc := 0) (ms := 0) (Nat.zero_le _) (Nat.zero_le _) (P := fun v u => _) ?_ (fun e u h => h) (fun v u h => h)
                                intro po600 xx601 hp602 hx603
                                refine g_enter2 (k := 298) (N := 300) (by omega) rfl (Nat.le_of_ble_eq_true rfl) ?_
                                refine g_aload_n 1 (gd rfl) rfl rfl ?_
                                refine g_getI 4 (gd rfl) rfl rfl rfl (fun z604 e605 => ?_)
                                refine g_if_ne 7 17 (gd rfl) rfl rfl (fun c606 => ?_) (fun c606 => ?_)
                                · skip
                                  refine g_return (gd rfl) rfl (hp602 _ _ ?_)
                                  show GG _ _ _ _ _ _ _ _ [] _ _ _
                                  refine g_aload_n 221 (gd rfl) rfl rfl ?_
                                  refine g_dup 222 (gd rfl) rfl rfl ?_
                                  refine g_getI 225 (gd rfl) rfl rfl rfl (fun z607 e608 => ?_)
                                  have q609 : w0_109_27 = z607 := (sF_ne rfl (sF_ne rfl (sF_ne rfl (v0_109_27)))).trans e608.symm
                                  subst q609
                                  refine g_iconst 1 226 (gd rfl) rfl rfl ?_
                                  refine g_iadd 227 (gd rfl) rfl (fun z610 e611 => ?_)
                                  have i612 := in_add 1 1000 e611 i449 (in_c 1 rfl) rfl rfl
                                  refine g_putI 230 (gd rfl) rfl rfl rfl rfl ?_
                                  have hI613 := inv_sF (q := 109) (j := 27) hI591 rfl (in_w 0 1000 i612 rfl)
                                  have n614 : (z610).toInt ≤ (w0_109_22).toInt := by have a0 := (in_c 0 rfl); unfold In at a0; have a1 := i589; unfold In at a1; have a2 := i612; unfold In at a2; have a3 := t_add e611 i449 (in_c 1 rfl) rfl; have a4 := (in_c 1 rfl); unfold In at a4; have a5 := i449; unfold In at a5; have a6 := (in_c 3 rfl); unfold In at a6; have a7 := i450; unfold In at a7; omega
                                  have n615 : ((sF (sF (sF (sF s 109 29 w0_109_27) 109 30 z454) 109 28 (Int32.ofInt 3)) 109 27 z610).2.2.1 109 27).toInt ≤ ((sF (sF (sF (sF s 109 29 w0_109_27) 109 30 z454) 109 28 (Int32.ofInt 3)) 109 27 z610).2.2.1 109 22).toInt := by have b0 : z610 = (sF (sF (sF (sF s 109 29 w0_109_27) 109 30 z454) 109 28 (Int32.ofInt 3)) 109 27 z610).2.2.1 109 27 := sF_get; have b1 : w0_109_22 = (sF (sF (sF (sF s 109 29 w0_109_27) 109 30 z454) 109 28 (Int32.ofInt 3)) 109 27 z610).2.2.1 109 22 := sF_ne rfl (sF_ne rfl (sF_ne rfl (sF_ne rfl (v0_109_22)))); rw [← b0, ← b1]; exact n614
                                  exact g_return (gd rfl) rfl (hP _ _ ⟨(sF (sF (sF (sF s 109 29 w0_109_27) 109 30 z454) 109 28 (Int32.ofInt 3)) 109 27 z610), hI613, n615, rfl, rfl⟩)
                                · skip
                                  have i616 := z_eq 0 0 c606 (i_rng z604) rfl
                                  refine g_aload_n 8 (gd rfl) rfl rfl ?_
                                  refine g_iload_n 9 (gd rfl) rfl rfl ?_
                                  refine g_putI 12 (gd rfl) rfl rfl rfl rfl ?_
                                  have hI617 := inv_sF (q := 109) (j := 23) hI591 rfl (in_w (-2147483648) 2147483647 (in_c 1 rfl) rfl)
                                  refine g_aload_n 13 (gd rfl) rfl rfl ?_
                                  refine g_iload_n 14 (gd rfl) rfl rfl ?_
                                  refine g_putI 17 (gd rfl) rfl rfl rfl rfl ?_
                                  have hI618 := inv_sF (q := 109) (j := 24) hI617 rfl (in_w (-2147483648) 2147483647 i449 rfl)
                                  refine g_return (gd rfl) rfl (hp602 _ _ ?_)
                                  show GG _ _ _ _ _ _ _ _ [] _ _ _
                                  refine g_aload_n 221 (gd rfl) rfl rfl ?_
                                  refine g_dup 222 (gd rfl) rfl rfl ?_
                                  refine g_getI 225 (gd rfl) rfl rfl rfl (fun z619 e620 => ?_)
                                  have q621 : w0_109_27 = z619 := (sF_ne rfl (sF_ne rfl (sF_ne rfl (sF_ne rfl (sF_ne rfl (v0_109_27)))))).trans e620.symm
                                  subst q621
                                  refine g_iconst 1 226 (gd rfl) rfl rfl ?_
                                  refine g_iadd 227 (gd rfl) rfl (fun z622 e623 => ?_)
                                  have i624 := in_add 1 1000 e623 i449 (in_c 1 rfl) rfl rfl
                                  refine g_putI 230 (gd rfl) rfl rfl rfl rfl ?_
                                  have hI625 := inv_sF (q := 109) (j := 27) hI618 rfl (in_w 0 1000 i624 rfl)
                                  have n626 : (z622).toInt ≤ (w0_109_22).toInt := by have a0 := (in_c 0 rfl); unfold In at a0; have a1 := i589; unfold In at a1; have a2 := i624; unfold In at a2; have a3 := t_add e623 i449 (in_c 1 rfl) rfl; have a4 := (in_c 1 rfl); unfold In at a4; have a5 := i449; unfold In at a5; have a6 := (in_c 3 rfl); unfold In at a6; have a7 := i450; unfold In at a7; omega
                                  have n627 : ((sF (sF (sF (sF (sF (sF s 109 29 w0_109_27) 109 30 z454) 109 28 (Int32.ofInt 3)) 109 23 (Int32.ofInt 1)) 109 24 w0_109_27) 109 27 z622).2.2.1 109 27).toInt ≤ ((sF (sF (sF (sF (sF (sF s 109 29 w0_109_27) 109 30 z454) 109 28 (Int32.ofInt 3)) 109 23 (Int32.ofInt 1)) 109 24 w0_109_27) 109 27 z622).2.2.1 109 22).toInt := by have b0 : z622 = (sF (sF (sF (sF (sF (sF s 109 29 w0_109_27) 109 30 z454) 109 28 (Int32.ofInt 3)) 109 23 (Int32.ofInt 1)) 109 24 w0_109_27) 109 27 z622).2.2.1 109 27 := sF_get; have b1 : w0_109_22 = (sF (sF (sF (sF (sF (sF s 109 29 w0_109_27) 109 30 z454) 109 28 (Int32.ofInt 3)) 109 23 (Int32.ofInt 1)) 109 24 w0_109_27) 109 27 z622).2.2.1 109 22 := sF_ne rfl (sF_ne rfl (sF_ne rfl (sF_ne rfl (sF_ne rfl (sF_ne rfl (v0_109_22)))))); rw [← b0, ← b1]; exact n626
                                  exact g_return (gd rfl) rfl (hP _ _ ⟨(sF (sF (sF (sF (sF (sF s 109 29 w0_109_27) 109 30 z454) 109 28 (Int32.ofInt 3)) 109 23 (Int32.ofInt 1)) 109 24 w0_109_27) 109 27 z622), hI625, n627, rfl, rfl⟩)
                          · skip
                            exact zn_ne c590 (in_c 0 rfl) rfl
                        · skip
                          have i628 := r_le1 97 122 c588 i587 (in_c 122 rfl) rfl
                          refine g_iconst 1 13 (gd rfl) rfl rfl ?_
                          refine g_goto 17 (gd rfl) rfl ?_
                          refine g_ireturn (gd rfl) rfl (nb01 (in_w 0 1 (in_c 1 rfl) rfl)) (hp535 _ _ ?_)
                          show GG _ _ _ _ _ _ _ _ [.int (Int32.ofInt 1), .ref (A 109)] _ _ _
                          refine g_if_eq 189 193 (gd rfl) rfl rfl (fun c629 => ?_) (fun c629 => ?_)
                          · skip
                            exact zn_eq c629 (in_c 1 rfl) rfl
                          · skip
                            refine g_iconst 1 190 (gd rfl) rfl rfl ?_
                            refine g_goto 194 (gd rfl) rfl ?_
                            refine g_putI 197 (gd rfl) rfl rfl rfl rfl ?_
                            have hI630 := inv_sF (q := 109) (j := 28) hI475 rfl (in_w (-2147483648) 2147483647 (in_c 1 rfl) rfl)
                            refine g_aload_n 198 (gd rfl) rfl rfl ?_
                            refine g_getI 201 (gd rfl) rfl rfl rfl (fun z631 e632 => ?_)
                            have q633 : (Int32.ofInt 1) = z631 := (sF_get).trans e632.symm
                            subst q633
                            refine g_iconst 3 202 (gd rfl) rfl rfl ?_
                            refine g_cmp_ne 205 220 (gd rfl) rfl rfl (fun c634 => ?_) (fun c634 => ?_)
                            · skip
                              refine g_aload_n 221 (gd rfl) rfl rfl ?_
                              refine g_dup 222 (gd rfl) rfl rfl ?_
                              refine g_getI 225 (gd rfl) rfl rfl rfl (fun z635 e636 => ?_)
                              have q637 : w0_109_27 = z635 := (sF_ne rfl (sF_ne rfl (sF_ne rfl (v0_109_27)))).trans e636.symm
                              subst q637
                              refine g_iconst 1 226 (gd rfl) rfl rfl ?_
                              refine g_iadd 227 (gd rfl) rfl (fun z638 e639 => ?_)
                              have i640 := in_add 1 1000 e639 i449 (in_c 1 rfl) rfl rfl
                              refine g_putI 230 (gd rfl) rfl rfl rfl rfl ?_
                              have hI641 := inv_sF (q := 109) (j := 27) hI630 rfl (in_w 0 1000 i640 rfl)
                              have n642 : (z638).toInt ≤ (w0_109_22).toInt := by have a0 := (in_c 0 rfl); unfold In at a0; have a1 := i628; unfold In at a1; have a2 := i640; unfold In at a2; have a3 := t_add e639 i449 (in_c 1 rfl) rfl; have a4 := (in_c 1 rfl); unfold In at a4; have a5 := i449; unfold In at a5; have a6 := i450; unfold In at a6; omega
                              have n643 : ((sF (sF (sF (sF s 109 29 w0_109_27) 109 30 z454) 109 28 (Int32.ofInt 1)) 109 27 z638).2.2.1 109 27).toInt ≤ ((sF (sF (sF (sF s 109 29 w0_109_27) 109 30 z454) 109 28 (Int32.ofInt 1)) 109 27 z638).2.2.1 109 22).toInt := by have b0 : z638 = (sF (sF (sF (sF s 109 29 w0_109_27) 109 30 z454) 109 28 (Int32.ofInt 1)) 109 27 z638).2.2.1 109 27 := sF_get; have b1 : w0_109_22 = (sF (sF (sF (sF s 109 29 w0_109_27) 109 30 z454) 109 28 (Int32.ofInt 1)) 109 27 z638).2.2.1 109 22 := sF_ne rfl (sF_ne rfl (sF_ne rfl (sF_ne rfl (v0_109_22)))); rw [← b0, ← b1]; exact n642
                              exact g_return (gd rfl) rfl (hP _ _ ⟨(sF (sF (sF (sF s 109 29 w0_109_27) 109 30 z454) 109 28 (Int32.ofInt 1)) 109 27 z638), hI641, n643, rfl, rfl⟩)
                            · skip
                              exact n_eq c634 (in_c 1 rfl) (in_c 3 rfl) rfl
                    · skip
                      exact zn_ne c532 (in_c 0 rfl) rfl
                · skip
                  have i644 := r_le1 48 57 c529 i528 (in_c 57 rfl) rfl
                  refine g_iconst 1 13 (gd rfl) rfl rfl ?_
                  refine g_goto 17 (gd rfl) rfl ?_
                  refine g_ireturn (gd rfl) rfl (nb01 (in_w 0 1 (in_c 1 rfl) rfl)) (hp479 _ _ ?_)
                  show GG _ _ _ _ _ _ _ _ [.int (Int32.ofInt 1)] _ _ _
                  refine g_if_ne 127 131 (gd rfl) rfl rfl (fun c645 => ?_) (fun c645 => ?_)
                  · skip
                    refine g_aload_n 132 (gd rfl) rfl rfl ?_
                    refine g_iconst 2 133 (gd rfl) rfl rfl ?_
                    refine g_putI 136 (gd rfl) rfl rfl rfl rfl ?_
                    have hI646 := inv_sF (q := 109) (j := 28) hI475 rfl (in_w (-2147483648) 2147483647 (in_c 2 rfl) rfl)
                    refine g_aload_n 137 (gd rfl) rfl rfl ?_
                    refine g_dup 138 (gd rfl) rfl rfl ?_
                    refine g_getI 141 (gd rfl) rfl rfl rfl (fun z647 e648 => ?_)
                    have q649 : w0_109_27 = z647 := (sF_ne rfl (sF_ne rfl (sF_ne rfl (v0_109_27)))).trans e648.symm
                    subst q649
                    refine g_iload_n 142 (gd rfl) rfl rfl ?_
                    refine g_if_eq 145 149 (gd rfl) rfl rfl (fun c650 => ?_) (fun c650 => ?_)
                    · skip
                      refine g_iconst 0 150 (gd rfl) rfl rfl ?_
                      refine g_iadd 151 (gd rfl) rfl (fun z651 e652 => ?_)
                      have i653 := in_add 0 999 e652 i449 (in_c 0 rfl) rfl rfl
                      refine g_putI 154 (gd rfl) rfl rfl rfl rfl ?_
                      have hI654 := inv_sF (q := 109) (j := 27) hI646 rfl (in_w 0 1000 i653 rfl)
                      refine g_aload_n 155 (gd rfl) rfl rfl ?_
                      refine g_bipush 7 157 (gd rfl) rfl rfl ?_
                      have n655 : (z651).toInt ≤ (w0_109_22).toInt := by have a0 := (in_c 0 rfl); unfold In at a0; have a1 := i644; unfold In at a1; have a2 := i653; unfold In at a2; have a3 := t_add e652 i449 (in_c 0 rfl) rfl; have a4 := i449; unfold In at a4; have a5 := (in_c 2 rfl); unfold In at a5; have a6 := i450; unfold In at a6; omega
                      refine g_callv (X := _) (As := [.int (Int32.ofInt 7)]) (r := []) (b := A 109) (q := 109) 160 (gd rfl) rfl rfl rfl rfl rfl (ww_o rfl) (Nat.le_of_ble_eq_true rfl) (Nat.zero_le _) (Nat.zero_le _) (k_300 (by omega) hI654 (in_w 6 7 (in_c 7 rfl) rfl) (sF_get) (sF_ne rfl (sF_ne rfl (sF_ne rfl (sF_ne rfl (v0_109_22))))) n655) (fun e u h => h) (fun v u h => ?_)
                      obtain ⟨s656, hI657, n660, rfl, rfl⟩ := h
                      obtain ⟨z661, e662⟩ : ∃ w, w = s656.2.2.1 109 27 := ⟨_, rfl⟩
                      have i663 := inv_F hI657 0 1000 rfl e662
                      obtain ⟨z664, e665⟩ : ∃ w, w = s656.2.2.1 109 22 := ⟨_, rfl⟩
                      have i666 := inv_F hI657 0 1000 rfl e665
                      rw [← e662, ← e665] at n660
                      show GG _ _ _ _ _ _ _ _ [] _ _ _
                      refine g_aload_n 161 (gd rfl) rfl rfl ?_
                      refine g_iload_n 162 (gd rfl) rfl rfl ?_
                      refine g_if_eq 165 173 (gd rfl) rfl rfl (fun c667 => ?_) (fun c667 => ?_)
                      · skip
                        refine g_aload_n 174 (gd rfl) rfl rfl ?_
                        refine g_getL 177 (gd rfl) rfl rfl rfl (fun z668 e669 => ?_)
                        refine g_putL 180 (gd rfl) rfl rfl rfl rfl ?_
                        have hI670 := inv_sG (q := 109) (j := 31) (x := z668) hI657
                        have n671 : (z661).toInt ≤ (z664).toInt := by have a0 := (in_c 0 rfl); unfold In at a0; have a1 := i644; unfold In at a1; have a2 := i666; unfold In at a2; have a3 := i663; unfold In at a3; have a4 := i653; unfold In at a4; have a5 := t_add e652 i449 (in_c 0 rfl) rfl; have a6 := i449; unfold In at a6; omega
                        have n672 : ((sG s656 109 31 z668).2.2.1 109 27).toInt ≤ ((sG s656 109 31 z668).2.2.1 109 22).toInt := by have b0 : z661 = (sG s656 109 31 z668).2.2.1 109 27 := e662; have b1 : z664 = (sG s656 109 31 z668).2.2.1 109 22 := e665; rw [← b0, ← b1]; exact n671
                        exact g_return (gd rfl) rfl (hP _ _ ⟨(sG s656 109 31 z668), hI670, n672, rfl, rfl⟩)
                      · skip
                        exact zn_ne c667 (in_c 0 rfl) rfl
                    · skip
                      exact zn_ne c650 (in_c 0 rfl) rfl
                  · skip
                    exact zn_eq c645 (in_c 1 rfl) rfl
            · skip
              have i673 := r_eq1 45 45 c476 i456 (in_c 45 rfl) rfl
              refine g_aload_n 85 (gd rfl) rfl rfl ?_
              refine g_getI 88 (gd rfl) rfl rfl rfl (fun z674 e675 => ?_)
              have q676 : w0_109_27 = z674 := (sF_ne rfl (sF_ne rfl (v0_109_27))).trans e675.symm
              subst q676
              refine g_iconst 1 89 (gd rfl) rfl rfl ?_
              refine g_iadd 90 (gd rfl) rfl (fun z677 e678 => ?_)
              have i679 := in_add 1 1000 e678 i449 (in_c 1 rfl) rfl rfl
              refine g_aload_n 91 (gd rfl) rfl rfl ?_
              refine g_getI 94 (gd rfl) rfl rfl rfl (fun z680 e681 => ?_)
              have q682 : w0_109_22 = z680 := (sF_ne rfl (sF_ne rfl (v0_109_22))).trans e681.symm
              subst q682
              refine g_cmp_ge 97 118 (gd rfl) rfl rfl (fun c683 => ?_) (fun c683 => ?_)
              · skip
                refine g_iconst 0 119 (gd rfl) rfl rfl ?_
                refine g_istore_n 120 (gd rfl) rfl (Nat.le_of_ble_eq_true rfl) ?_
                refine g_iload_n 121 (gd rfl) rfl rfl ?_
                refine g_calls (As := [.int z454]) (r := []) 124 (gd rfl) rfl rfl rfl rfl rfl (Nat.le_of_ble_eq_true rfl) (mc := 0) (ms := 0) (Nat.zero_le _) (Nat.zero_le _) (P := fun v u => _) ?_ (fun v u h => h)
                intro po684 xx685 hp686 hx687
                refine g_enter2 (k := 297) (N := 300) (by omega) rfl (Nat.le_of_ble_eq_true rfl) ?_
                refine g_iload_n 1 (gd rfl) rfl rfl ?_
                refine g_bipush 48 3 (gd rfl) rfl rfl ?_
                refine g_cmp_lt 6 16 (gd rfl) rfl rfl (fun c688 => ?_) (fun c688 => ?_)
                · skip
                  refine g_iconst 0 17 (gd rfl) rfl rfl ?_
                  refine g_ireturn (gd rfl) rfl (nb01 (in_w 0 1 (in_c 0 rfl) rfl)) (hp686 _ _ ?_)
                  show GG _ _ _ _ _ _ _ _ [.int (Int32.ofInt 0)] _ _ _
                  refine g_if_ne 127 131 (gd rfl) rfl rfl (fun c689 => ?_) (fun c689 => ?_)
                  · skip
                    exact zn_ne c689 (in_c 0 rfl) rfl
                  · skip
                    refine g_iload_n 128 (gd rfl) rfl rfl ?_
                    refine g_if_eq 131 181 (gd rfl) rfl rfl (fun c690 => ?_) (fun c690 => ?_)
                    · skip
                      refine g_aload_n 182 (gd rfl) rfl rfl ?_
                      refine g_iload_n 183 (gd rfl) rfl rfl ?_
                      refine g_calls (As := [.int z454]) (r := [.ref (A 109)]) 186 (gd rfl) rfl rfl rfl rfl rfl (Nat.le_of_ble_eq_true rfl) (mc := 0) (ms := 0) (Nat.zero_le _) (Nat.zero_le _) (P := fun v u => _) ?_ (fun v u h => h)
                      intro po691 xx692 hp693 hx694
                      refine g_enter2 (k := 296) (N := 300) (by omega) rfl (Nat.le_of_ble_eq_true rfl) ?_
                      refine g_iload_n 1 (gd rfl) rfl rfl ?_
                      refine g_bipush 97 3 (gd rfl) rfl rfl ?_
                      refine g_cmp_lt 6 16 (gd rfl) rfl rfl (fun c695 => ?_) (fun c695 => ?_)
                      · skip
                        refine g_iconst 0 17 (gd rfl) rfl rfl ?_
                        refine g_ireturn (gd rfl) rfl (nb01 (in_w 0 1 (in_c 0 rfl) rfl)) (hp693 _ _ ?_)
                        show GG _ _ _ _ _ _ _ _ [.int (Int32.ofInt 0), .ref (A 109)] _ _ _
                        refine g_if_eq 189 193 (gd rfl) rfl rfl (fun c696 => ?_) (fun c696 => ?_)
                        · skip
                          refine g_iconst 3 194 (gd rfl) rfl rfl ?_
                          refine g_putI 197 (gd rfl) rfl rfl rfl rfl ?_
                          have hI697 := inv_sF (q := 109) (j := 28) hI475 rfl (in_w (-2147483648) 2147483647 (in_c 3 rfl) rfl)
                          refine g_aload_n 198 (gd rfl) rfl rfl ?_
                          refine g_getI 201 (gd rfl) rfl rfl rfl (fun z698 e699 => ?_)
                          have q700 : (Int32.ofInt 3) = z698 := (sF_get).trans e699.symm
                          subst q700
                          refine g_iconst 3 202 (gd rfl) rfl rfl ?_
                          refine g_cmp_ne 205 220 (gd rfl) rfl rfl (fun c701 => ?_) (fun c701 => ?_)
                          · skip
                            exact n_ne c701 (in_c 3 rfl) (in_c 3 rfl) rfl
                          · skip
                            refine g_iload_n 206 (gd rfl) rfl rfl ?_
                            refine g_bipush 59 208 (gd rfl) rfl rfl ?_
                            refine g_cmp_eq 211 220 (gd rfl) rfl rfl (fun c702 => ?_) (fun c702 => ?_)
                            · skip
                              exact n_eq c702 i673 (in_c 59 rfl) rfl
                            · skip
                              refine g_aload_n 212 (gd rfl) rfl rfl ?_
                              refine g_iconst 1 213 (gd rfl) rfl rfl ?_
                              refine g_aload_n 214 (gd rfl) rfl rfl ?_
                              refine g_getI 217 (gd rfl) rfl rfl rfl (fun z703 e704 => ?_)
                              have q705 : w0_109_27 = z703 := (sF_ne rfl (sF_ne rfl (sF_get))).trans e704.symm
                              subst q705
                              refine g_callv (X := _) (As := [.int (Int32.ofInt 1), .int w0_109_27]) (r := []) (b := A 109) (q := 109) 220 (gd rfl) rfl rfl rfl rfl rfl (ww_o rfl) (Nat.le_of_ble_eq_true rfl) (mc := 0) (ms := 0) (Nat.zero_le _) (Nat.zero_le _) (P := fun v u => _) ?_ (fun e u h => h) (fun v u h => h)
                              intro po706 xx707 hp708 hx709
                              refine g_enter2 (k := 298) (N := 300) (by omega) rfl (Nat.le_of_ble_eq_true rfl) ?_
                              refine g_aload_n 1 (gd rfl) rfl rfl ?_
                              refine g_getI 4 (gd rfl) rfl rfl rfl (fun z710 e711 => ?_)
                              refine g_if_ne 7 17 (gd rfl) rfl rfl (fun c712 => ?_) (fun c712 => ?_)
                              · skip
                                refine g_return (gd rfl) rfl (hp708 _ _ ?_)
                                show GG _ _ _ _ _ _ _ _ [] _ _ _
                                refine g_aload_n 221 (gd rfl) rfl rfl ?_
                                refine g_dup 222 (gd rfl) rfl rfl ?_
                                refine g_getI 225 (gd rfl) rfl rfl rfl (fun z713 e714 => ?_)
                                have q715 : w0_109_27 = z713 := (sF_ne rfl (sF_ne rfl (sF_ne rfl (v0_109_27)))).trans e714.symm
                                subst q715
                                refine g_iconst 1 226 (gd rfl) rfl rfl ?_
                                refine g_iadd 227 (gd rfl) rfl (fun z716 e717 => ?_)
                                have i718 := in_add 1 1000 e717 i449 (in_c 1 rfl) rfl rfl
                                refine g_putI 230 (gd rfl) rfl rfl rfl rfl ?_
                                have hI719 := inv_sF (q := 109) (j := 27) hI697 rfl (in_w 0 1000 i718 rfl)
                                have n720 : (z716).toInt ≤ (w0_109_22).toInt := by have a0 := (in_c 0 rfl); unfold In at a0; have a1 := i673; unfold In at a1; have a2 := i718; unfold In at a2; have a3 := t_add e717 i449 (in_c 1 rfl) rfl; have a4 := (in_c 1 rfl); unfold In at a4; have a5 := i449; unfold In at a5; have a6 := (in_c 3 rfl); unfold In at a6; have a7 := i450; unfold In at a7; have a8 := i679; unfold In at a8; have a9 := t_add e678 i449 (in_c 1 rfl) rfl; omega
                                have n721 : ((sF (sF (sF (sF s 109 29 w0_109_27) 109 30 z454) 109 28 (Int32.ofInt 3)) 109 27 z716).2.2.1 109 27).toInt ≤ ((sF (sF (sF (sF s 109 29 w0_109_27) 109 30 z454) 109 28 (Int32.ofInt 3)) 109 27 z716).2.2.1 109 22).toInt := by have b0 : z716 = (sF (sF (sF (sF s 109 29 w0_109_27) 109 30 z454) 109 28 (Int32.ofInt 3)) 109 27 z716).2.2.1 109 27 := sF_get; have b1 : w0_109_22 = (sF (sF (sF (sF s 109 29 w0_109_27) 109 30 z454) 109 28 (Int32.ofInt 3)) 109 27 z716).2.2.1 109 22 := sF_ne rfl (sF_ne rfl (sF_ne rfl (sF_ne rfl (v0_109_22)))); rw [← b0, ← b1]; exact n720
                                exact g_return (gd rfl) rfl (hP _ _ ⟨(sF (sF (sF (sF s 109 29 w0_109_27) 109 30 z454) 109 28 (Int32.ofInt 3)) 109 27 z716), hI719, n721, rfl, rfl⟩)
                              · skip
                                have i722 := z_eq 0 0 c712 (i_rng z710) rfl
                                refine g_aload_n 8 (gd rfl) rfl rfl ?_
                                refine g_iload_n 9 (gd rfl) rfl rfl ?_
                                refine g_putI 12 (gd rfl) rfl rfl rfl rfl ?_
                                have hI723 := inv_sF (q := 109) (j := 23) hI697 rfl (in_w (-2147483648) 2147483647 (in_c 1 rfl) rfl)
                                refine g_aload_n 13 (gd rfl) rfl rfl ?_
                                refine g_iload_n 14 (gd rfl) rfl rfl ?_
                                refine g_putI 17 (gd rfl) rfl rfl rfl rfl ?_
                                have hI724 := inv_sF (q := 109) (j := 24) hI723 rfl (in_w (-2147483648) 2147483647 i449 rfl)
                                refine g_return (gd rfl) rfl (hp708 _ _ ?_)
                                show GG _ _ _ _ _ _ _ _ [] _ _ _
                                refine g_aload_n 221 (gd rfl) rfl rfl ?_
                                refine g_dup 222 (gd rfl) rfl rfl ?_
                                refine g_getI 225 (gd rfl) rfl rfl rfl (fun z725 e726 => ?_)
                                have q727 : w0_109_27 = z725 := (sF_ne rfl (sF_ne rfl (sF_ne rfl (sF_ne rfl (sF_ne rfl (v0_109_27)))))).trans e726.symm
                                subst q727
                                refine g_iconst 1 226 (gd rfl) rfl rfl ?_
                                refine g_iadd 227 (gd rfl) rfl (fun z728 e729 => ?_)
                                have i730 := in_add 1 1000 e729 i449 (in_c 1 rfl) rfl rfl
                                refine g_putI 230 (gd rfl) rfl rfl rfl rfl ?_
                                have hI731 := inv_sF (q := 109) (j := 27) hI724 rfl (in_w 0 1000 i730 rfl)
                                have n732 : (z728).toInt ≤ (w0_109_22).toInt := by have a0 := (in_c 0 rfl); unfold In at a0; have a1 := i673; unfold In at a1; have a2 := i730; unfold In at a2; have a3 := t_add e729 i449 (in_c 1 rfl) rfl; have a4 := (in_c 1 rfl); unfold In at a4; have a5 := i449; unfold In at a5; have a6 := (in_c 3 rfl); unfold In at a6; have a7 := i450; unfold In at a7; have a8 := i679; unfold In at a8; have a9 := t_add e678 i449 (in_c 1 rfl) rfl; omega
                                have n733 : ((sF (sF (sF (sF (sF (sF s 109 29 w0_109_27) 109 30 z454) 109 28 (Int32.ofInt 3)) 109 23 (Int32.ofInt 1)) 109 24 w0_109_27) 109 27 z728).2.2.1 109 27).toInt ≤ ((sF (sF (sF (sF (sF (sF s 109 29 w0_109_27) 109 30 z454) 109 28 (Int32.ofInt 3)) 109 23 (Int32.ofInt 1)) 109 24 w0_109_27) 109 27 z728).2.2.1 109 22).toInt := by have b0 : z728 = (sF (sF (sF (sF (sF (sF s 109 29 w0_109_27) 109 30 z454) 109 28 (Int32.ofInt 3)) 109 23 (Int32.ofInt 1)) 109 24 w0_109_27) 109 27 z728).2.2.1 109 27 := sF_get; have b1 : w0_109_22 = (sF (sF (sF (sF (sF (sF s 109 29 w0_109_27) 109 30 z454) 109 28 (Int32.ofInt 3)) 109 23 (Int32.ofInt 1)) 109 24 w0_109_27) 109 27 z728).2.2.1 109 22 := sF_ne rfl (sF_ne rfl (sF_ne rfl (sF_ne rfl (sF_ne rfl (sF_ne rfl (v0_109_22)))))); rw [← b0, ← b1]; exact n732
                                exact g_return (gd rfl) rfl (hP _ _ ⟨(sF (sF (sF (sF (sF (sF s 109 29 w0_109_27) 109 30 z454) 109 28 (Int32.ofInt 3)) 109 23 (Int32.ofInt 1)) 109 24 w0_109_27) 109 27 z728), hI731, n733, rfl, rfl⟩)
                        · skip
                          exact zn_ne c696 (in_c 0 rfl) rfl
                      · skip
                        exact n_le c695 (in_c 97 rfl) i673 rfl
                    · skip
                      exact zn_ne c690 (in_c 0 rfl) rfl
                · skip
                  exact n_le c688 (in_c 48 rfl) i673 rfl
              · skip
                have i734 := r_lt1 1 999 c683 i679 i450 rfl
                have i735 := r_lt2 2 1000 c683 i679 i450 rfl
                refine g_aload_n 98 (gd rfl) rfl rfl ?_
                refine g_getA (q2 := 125) 101 (gd rfl) rfl rfl rfl rfl rfl ?_
                refine g_aload_n 102 (gd rfl) rfl rfl ?_
                refine g_getI 105 (gd rfl) rfl rfl rfl (fun z736 e737 => ?_)
                have q738 : w0_109_27 = z736 := (sF_ne rfl (sF_ne rfl (v0_109_27))).trans e737.symm
                subst q738
                refine g_iconst 1 106 (gd rfl) rfl rfl ?_
                refine g_iadd 107 (gd rfl) rfl (fun z739 e740 => ?_)
                have i741 := in_add 1 1000 e740 i449 (in_c 1 rfl) rfl rfl
                have i742 : In z739 0 999 := by have a0 := i673; unfold In at a0; have a1 := i449; unfold In at a1; have a2 := i735; unfold In at a2; have a3 := i741; unfold In at a3; have a4 := t_add e740 i449 (in_c 1 rfl) rfl; have a5 := (in_c 1 rfl); unfold In at a5; have a6 := i734; unfold In at a6; have a7 := t_add e678 i449 (in_c 1 rfl) rfl; exact ⟨by omega, by omega⟩
                refine g_iaload 108 (gd rfl) rfl (n := 1000) rfl (in_ix i742 rfl) (fun z743 e744 => ?_)
                have i745 := inv_I hI475 (n := 1000) (t := 0) 0 126 rfl (in_ix i742 rfl) rfl e744
                refine g_calls (As := [.int z743]) (r := []) 111 (gd rfl) rfl rfl rfl rfl rfl (Nat.le_of_ble_eq_true rfl) (mc := 0) (ms := 0) (Nat.zero_le _) (Nat.zero_le _) (P := fun v u => _) ?_ (fun v u h => h)
                intro po746 xx747 hp748 hx749
                refine g_enter2 (k := 297) (N := 300) (by omega) rfl (Nat.le_of_ble_eq_true rfl) ?_
                refine g_iload_n 1 (gd rfl) rfl rfl ?_
                refine g_bipush 48 3 (gd rfl) rfl rfl ?_
                refine g_cmp_lt 6 16 (gd rfl) rfl rfl (fun c750 => ?_) (fun c750 => ?_)
                · skip
                  have i751 := r_lt1 0 47 c750 i745 (in_c 48 rfl) rfl
                  refine g_iconst 0 17 (gd rfl) rfl rfl ?_
                  refine g_ireturn (gd rfl) rfl (nb01 (in_w 0 1 (in_c 0 rfl) rfl)) (hp748 _ _ ?_)
                  show GG _ _ _ _ _ _ _ _ [.int (Int32.ofInt 0)] _ _ _
                  refine g_if_eq 114 118 (gd rfl) rfl rfl (fun c752 => ?_) (fun c752 => ?_)
                  · skip
                    refine g_iconst 0 119 (gd rfl) rfl rfl ?_
                    refine g_istore_n 120 (gd rfl) rfl (Nat.le_of_ble_eq_true rfl) ?_
                    refine g_iload_n 121 (gd rfl) rfl rfl ?_
                    refine g_calls (As := [.int z454]) (r := []) 124 (gd rfl) rfl rfl rfl rfl rfl (Nat.le_of_ble_eq_true rfl) (mc := 0) (ms := 0) (Nat.zero_le _) (Nat.zero_le _) (P := fun v u => _) ?_ (fun v u h => h)
                    intro po753 xx754 hp755 hx756
                    refine g_enter2 (k := 297) (N := 300) (by omega) rfl (Nat.le_of_ble_eq_true rfl) ?_
                    refine g_iload_n 1 (gd rfl) rfl rfl ?_
                    refine g_bipush 48 3 (gd rfl) rfl rfl ?_
                    refine g_cmp_lt 6 16 (gd rfl) rfl rfl (fun c757 => ?_) (fun c757 => ?_)
                    · skip
                      refine g_iconst 0 17 (gd rfl) rfl rfl ?_
                      refine g_ireturn (gd rfl) rfl (nb01 (in_w 0 1 (in_c 0 rfl) rfl)) (hp755 _ _ ?_)
                      show GG _ _ _ _ _ _ _ _ [.int (Int32.ofInt 0)] _ _ _
                      refine g_if_ne 127 131 (gd rfl) rfl rfl (fun c758 => ?_) (fun c758 => ?_)
                      · skip
                        exact zn_ne c758 (in_c 0 rfl) rfl
                      · skip
                        refine g_iload_n 128 (gd rfl) rfl rfl ?_
                        refine g_if_eq 131 181 (gd rfl) rfl rfl (fun c759 => ?_) (fun c759 => ?_)
                        · skip
                          refine g_aload_n 182 (gd rfl) rfl rfl ?_
                          refine g_iload_n 183 (gd rfl) rfl rfl ?_
                          refine g_calls (As := [.int z454]) (r := [.ref (A 109)]) 186 (gd rfl) rfl rfl rfl rfl rfl (Nat.le_of_ble_eq_true rfl) (mc := 0) (ms := 0) (Nat.zero_le _) (Nat.zero_le _) (P := fun v u => _) ?_ (fun v u h => h)
                          intro po760 xx761 hp762 hx763
                          refine g_enter2 (k := 296) (N := 300) (by omega) rfl (Nat.le_of_ble_eq_true rfl) ?_
                          refine g_iload_n 1 (gd rfl) rfl rfl ?_
                          refine g_bipush 97 3 (gd rfl) rfl rfl ?_
                          refine g_cmp_lt 6 16 (gd rfl) rfl rfl (fun c764 => ?_) (fun c764 => ?_)
                          · skip
                            refine g_iconst 0 17 (gd rfl) rfl rfl ?_
                            refine g_ireturn (gd rfl) rfl (nb01 (in_w 0 1 (in_c 0 rfl) rfl)) (hp762 _ _ ?_)
                            show GG _ _ _ _ _ _ _ _ [.int (Int32.ofInt 0), .ref (A 109)] _ _ _
                            refine g_if_eq 189 193 (gd rfl) rfl rfl (fun c765 => ?_) (fun c765 => ?_)
                            · skip
                              refine g_iconst 3 194 (gd rfl) rfl rfl ?_
                              refine g_putI 197 (gd rfl) rfl rfl rfl rfl ?_
                              have hI766 := inv_sF (q := 109) (j := 28) hI475 rfl (in_w (-2147483648) 2147483647 (in_c 3 rfl) rfl)
                              refine g_aload_n 198 (gd rfl) rfl rfl ?_
                              refine g_getI 201 (gd rfl) rfl rfl rfl (fun z767 e768 => ?_)
                              have q769 : (Int32.ofInt 3) = z767 := (sF_get).trans e768.symm
                              subst q769
                              refine g_iconst 3 202 (gd rfl) rfl rfl ?_
                              refine g_cmp_ne 205 220 (gd rfl) rfl rfl (fun c770 => ?_) (fun c770 => ?_)
                              · skip
                                exact n_ne c770 (in_c 3 rfl) (in_c 3 rfl) rfl
                              · skip
                                refine g_iload_n 206 (gd rfl) rfl rfl ?_
                                refine g_bipush 59 208 (gd rfl) rfl rfl ?_
                                refine g_cmp_eq 211 220 (gd rfl) rfl rfl (fun c771 => ?_) (fun c771 => ?_)
                                · skip
                                  exact n_eq c771 i673 (in_c 59 rfl) rfl
                                · skip
                                  refine g_aload_n 212 (gd rfl) rfl rfl ?_
                                  refine g_iconst 1 213 (gd rfl) rfl rfl ?_
                                  refine g_aload_n 214 (gd rfl) rfl rfl ?_
                                  refine g_getI 217 (gd rfl) rfl rfl rfl (fun z772 e773 => ?_)
                                  have q774 : w0_109_27 = z772 := (sF_ne rfl (sF_ne rfl (sF_get))).trans e773.symm
                                  subst q774
                                  refine g_callv (X := _) (As := [.int (Int32.ofInt 1), .int w0_109_27]) (r := []) (b := A 109) (q := 109) 220 (gd rfl) rfl rfl rfl rfl rfl (ww_o rfl) (Nat.le_of_ble_eq_true rfl) (mc := 0) (ms := 0) (Nat.zero_le _) (Nat.zero_le _) (P := fun v u => _) ?_ (fun e u h => h) (fun v u h => h)
                                  intro po775 xx776 hp777 hx778
                                  refine g_enter2 (k := 298) (N := 300) (by omega) rfl (Nat.le_of_ble_eq_true rfl) ?_
                                  refine g_aload_n 1 (gd rfl) rfl rfl ?_
                                  refine g_getI 4 (gd rfl) rfl rfl rfl (fun z779 e780 => ?_)
                                  refine g_if_ne 7 17 (gd rfl) rfl rfl (fun c781 => ?_) (fun c781 => ?_)
                                  · skip
                                    refine g_return (gd rfl) rfl (hp777 _ _ ?_)
                                    show GG _ _ _ _ _ _ _ _ [] _ _ _
                                    refine g_aload_n 221 (gd rfl) rfl rfl ?_
                                    refine g_dup 222 (gd rfl) rfl rfl ?_
                                    refine g_getI 225 (gd rfl) rfl rfl rfl (fun z782 e783 => ?_)
                                    have q784 : w0_109_27 = z782 := (sF_ne rfl (sF_ne rfl (sF_ne rfl (v0_109_27)))).trans e783.symm
                                    subst q784
                                    refine g_iconst 1 226 (gd rfl) rfl rfl ?_
                                    refine g_iadd 227 (gd rfl) rfl (fun z785 e786 => ?_)
                                    have i787 := in_add 1 1000 e786 i449 (in_c 1 rfl) rfl rfl
                                    refine g_putI 230 (gd rfl) rfl rfl rfl rfl ?_
                                    have hI788 := inv_sF (q := 109) (j := 27) hI766 rfl (in_w 0 1000 i787 rfl)
                                    have n789 : (z785).toInt ≤ (w0_109_22).toInt := by have a0 := (in_c 0 rfl); unfold In at a0; have a1 := i673; unfold In at a1; have a2 := i787; unfold In at a2; have a3 := t_add e786 i449 (in_c 1 rfl) rfl; have a4 := (in_c 1 rfl); unfold In at a4; have a5 := i449; unfold In at a5; have a6 := (in_c 3 rfl); unfold In at a6; have a7 := i735; unfold In at a7; have a8 := i742; unfold In at a8; have a9 := t_add e740 i449 (in_c 1 rfl) rfl; have a10 := i734; unfold In at a10; have a11 := t_add e678 i449 (in_c 1 rfl) rfl; omega
                                    have n790 : ((sF (sF (sF (sF s 109 29 w0_109_27) 109 30 z454) 109 28 (Int32.ofInt 3)) 109 27 z785).2.2.1 109 27).toInt ≤ ((sF (sF (sF (sF s 109 29 w0_109_27) 109 30 z454) 109 28 (Int32.ofInt 3)) 109 27 z785).2.2.1 109 22).toInt := by have b0 : z785 = (sF (sF (sF (sF s 109 29 w0_109_27) 109 30 z454) 109 28 (Int32.ofInt 3)) 109 27 z785).2.2.1 109 27 := sF_get; have b1 : w0_109_22 = (sF (sF (sF (sF s 109 29 w0_109_27) 109 30 z454) 109 28 (Int32.ofInt 3)) 109 27 z785).2.2.1 109 22 := sF_ne rfl (sF_ne rfl (sF_ne rfl (sF_ne rfl (v0_109_22)))); rw [← b0, ← b1]; exact n789
                                    exact g_return (gd rfl) rfl (hP _ _ ⟨(sF (sF (sF (sF s 109 29 w0_109_27) 109 30 z454) 109 28 (Int32.ofInt 3)) 109 27 z785), hI788, n790, rfl, rfl⟩)
                                  · skip
                                    have i791 := z_eq 0 0 c781 (i_rng z779) rfl
                                    refine g_aload_n 8 (gd rfl) rfl rfl ?_
                                    refine g_iload_n 9 (gd rfl) rfl rfl ?_
                                    refine g_putI 12 (gd rfl) rfl rfl rfl rfl ?_
                                    have hI792 := inv_sF (q := 109) (j := 23) hI766 rfl (in_w (-2147483648) 2147483647 (in_c 1 rfl) rfl)
                                    refine g_aload_n 13 (gd rfl) rfl rfl ?_
                                    refine g_iload_n 14 (gd rfl) rfl rfl ?_
                                    refine g_putI 17 (gd rfl) rfl rfl rfl rfl ?_
                                    have hI793 := inv_sF (q := 109) (j := 24) hI792 rfl (in_w (-2147483648) 2147483647 i449 rfl)
                                    refine g_return (gd rfl) rfl (hp777 _ _ ?_)
                                    show GG _ _ _ _ _ _ _ _ [] _ _ _
                                    refine g_aload_n 221 (gd rfl) rfl rfl ?_
                                    refine g_dup 222 (gd rfl) rfl rfl ?_
                                    refine g_getI 225 (gd rfl) rfl rfl rfl (fun z794 e795 => ?_)
                                    have q796 : w0_109_27 = z794 := (sF_ne rfl (sF_ne rfl (sF_ne rfl (sF_ne rfl (sF_ne rfl (v0_109_27)))))).trans e795.symm
                                    subst q796
                                    refine g_iconst 1 226 (gd rfl) rfl rfl ?_
                                    refine g_iadd 227 (gd rfl) rfl (fun z797 e798 => ?_)
                                    have i799 := in_add 1 1000 e798 i449 (in_c 1 rfl) rfl rfl
                                    refine g_putI 230 (gd rfl) rfl rfl rfl rfl ?_
                                    have hI800 := inv_sF (q := 109) (j := 27) hI793 rfl (in_w 0 1000 i799 rfl)
                                    have n801 : (z797).toInt ≤ (w0_109_22).toInt := by have a0 := (in_c 0 rfl); unfold In at a0; have a1 := i673; unfold In at a1; have a2 := i799; unfold In at a2; have a3 := t_add e798 i449 (in_c 1 rfl) rfl; have a4 := (in_c 1 rfl); unfold In at a4; have a5 := i449; unfold In at a5; have a6 := (in_c 3 rfl); unfold In at a6; have a7 := i735; unfold In at a7; have a8 := i742; unfold In at a8; have a9 := t_add e740 i449 (in_c 1 rfl) rfl; have a10 := i734; unfold In at a10; have a11 := t_add e678 i449 (in_c 1 rfl) rfl; omega
                                    have n802 : ((sF (sF (sF (sF (sF (sF s 109 29 w0_109_27) 109 30 z454) 109 28 (Int32.ofInt 3)) 109 23 (Int32.ofInt 1)) 109 24 w0_109_27) 109 27 z797).2.2.1 109 27).toInt ≤ ((sF (sF (sF (sF (sF (sF s 109 29 w0_109_27) 109 30 z454) 109 28 (Int32.ofInt 3)) 109 23 (Int32.ofInt 1)) 109 24 w0_109_27) 109 27 z797).2.2.1 109 22).toInt := by have b0 : z797 = (sF (sF (sF (sF (sF (sF s 109 29 w0_109_27) 109 30 z454) 109 28 (Int32.ofInt 3)) 109 23 (Int32.ofInt 1)) 109 24 w0_109_27) 109 27 z797).2.2.1 109 27 := sF_get; have b1 : w0_109_22 = (sF (sF (sF (sF (sF (sF s 109 29 w0_109_27) 109 30 z454) 109 28 (Int32.ofInt 3)) 109 23 (Int32.ofInt 1)) 109 24 w0_109_27) 109 27 z797).2.2.1 109 22 := sF_ne rfl (sF_ne rfl (sF_ne rfl (sF_ne rfl (sF_ne rfl (sF_ne rfl (v0_109_22)))))); rw [← b0, ← b1]; exact n801
                                    exact g_return (gd rfl) rfl (hP _ _ ⟨(sF (sF (sF (sF (sF (sF s 109 29 w0_109_27) 109 30 z454) 109 28 (Int32.ofInt 3)) 109 23 (Int32.ofInt 1)) 109 24 w0_109_27) 109 27 z797), hI800, n802, rfl, rfl⟩)
                            · skip
                              exact zn_ne c765 (in_c 0 rfl) rfl
                          · skip
                            exact n_le c764 (in_c 97 rfl) i673 rfl
                        · skip
                          exact zn_ne c759 (in_c 0 rfl) rfl
                    · skip
                      exact n_le c757 (in_c 48 rfl) i673 rfl
                  · skip
                    exact zn_ne c752 (in_c 0 rfl) rfl
                · skip
                  have i803 := r_le2 48 126 c750 (in_c 48 rfl) i745 rfl
                  refine g_iload_n 7 (gd rfl) rfl rfl ?_
                  refine g_bipush 57 9 (gd rfl) rfl rfl ?_
                  refine g_cmp_gt 12 16 (gd rfl) rfl rfl (fun c804 => ?_) (fun c804 => ?_)
                  · skip
                    have i805 := r_lt2 58 126 c804 (in_c 57 rfl) i803 rfl
                    refine g_iconst 0 17 (gd rfl) rfl rfl ?_
                    refine g_ireturn (gd rfl) rfl (nb01 (in_w 0 1 (in_c 0 rfl) rfl)) (hp748 _ _ ?_)
                    show GG _ _ _ _ _ _ _ _ [.int (Int32.ofInt 0)] _ _ _
                    refine g_if_eq 114 118 (gd rfl) rfl rfl (fun c806 => ?_) (fun c806 => ?_)
                    · skip
                      refine g_iconst 0 119 (gd rfl) rfl rfl ?_
                      refine g_istore_n 120 (gd rfl) rfl (Nat.le_of_ble_eq_true rfl) ?_
                      refine g_iload_n 121 (gd rfl) rfl rfl ?_
                      refine g_calls (As := [.int z454]) (r := []) 124 (gd rfl) rfl rfl rfl rfl rfl (Nat.le_of_ble_eq_true rfl) (mc := 0) (ms := 0) (Nat.zero_le _) (Nat.zero_le _) (P := fun v u => _) ?_ (fun v u h => h)
                      intro po807 xx808 hp809 hx810
                      refine g_enter2 (k := 297) (N := 300) (by omega) rfl (Nat.le_of_ble_eq_true rfl) ?_
                      refine g_iload_n 1 (gd rfl) rfl rfl ?_
                      refine g_bipush 48 3 (gd rfl) rfl rfl ?_
                      refine g_cmp_lt 6 16 (gd rfl) rfl rfl (fun c811 => ?_) (fun c811 => ?_)
                      · skip
                        refine g_iconst 0 17 (gd rfl) rfl rfl ?_
                        refine g_ireturn (gd rfl) rfl (nb01 (in_w 0 1 (in_c 0 rfl) rfl)) (hp809 _ _ ?_)
                        show GG _ _ _ _ _ _ _ _ [.int (Int32.ofInt 0)] _ _ _
                        refine g_if_ne 127 131 (gd rfl) rfl rfl (fun c812 => ?_) (fun c812 => ?_)
                        · skip
                          exact zn_ne c812 (in_c 0 rfl) rfl
                        · skip
                          refine g_iload_n 128 (gd rfl) rfl rfl ?_
                          refine g_if_eq 131 181 (gd rfl) rfl rfl (fun c813 => ?_) (fun c813 => ?_)
                          · skip
                            refine g_aload_n 182 (gd rfl) rfl rfl ?_
                            refine g_iload_n 183 (gd rfl) rfl rfl ?_
                            refine g_calls (As := [.int z454]) (r := [.ref (A 109)]) 186 (gd rfl) rfl rfl rfl rfl rfl (Nat.le_of_ble_eq_true rfl) (mc := 0) (ms := 0) (Nat.zero_le _) (Nat.zero_le _) (P := fun v u => _) ?_ (fun v u h => h)
                            intro po814 xx815 hp816 hx817
                            refine g_enter2 (k := 296) (N := 300) (by omega) rfl (Nat.le_of_ble_eq_true rfl) ?_
                            refine g_iload_n 1 (gd rfl) rfl rfl ?_
                            refine g_bipush 97 3 (gd rfl) rfl rfl ?_
                            refine g_cmp_lt 6 16 (gd rfl) rfl rfl (fun c818 => ?_) (fun c818 => ?_)
                            · skip
                              refine g_iconst 0 17 (gd rfl) rfl rfl ?_
                              refine g_ireturn (gd rfl) rfl (nb01 (in_w 0 1 (in_c 0 rfl) rfl)) (hp816 _ _ ?_)
                              show GG _ _ _ _ _ _ _ _ [.int (Int32.ofInt 0), .ref (A 109)] _ _ _
                              refine g_if_eq 189 193 (gd rfl) rfl rfl (fun c819 => ?_) (fun c819 => ?_)
                              · skip
                                refine g_iconst 3 194 (gd rfl) rfl rfl ?_
                                refine g_putI 197 (gd rfl) rfl rfl rfl rfl ?_
                                have hI820 := inv_sF (q := 109) (j := 28) hI475 rfl (in_w (-2147483648) 2147483647 (in_c 3 rfl) rfl)
                                refine g_aload_n 198 (gd rfl) rfl rfl ?_
                                refine g_getI 201 (gd rfl) rfl rfl rfl (fun z821 e822 => ?_)
                                have q823 : (Int32.ofInt 3) = z821 := (sF_get).trans e822.symm
                                subst q823
                                refine g_iconst 3 202 (gd rfl) rfl rfl ?_
                                refine g_cmp_ne 205 220 (gd rfl) rfl rfl (fun c824 => ?_) (fun c824 => ?_)
                                · skip
                                  exact n_ne c824 (in_c 3 rfl) (in_c 3 rfl) rfl
                                · skip
                                  refine g_iload_n 206 (gd rfl) rfl rfl ?_
                                  refine g_bipush 59 208 (gd rfl) rfl rfl ?_
                                  refine g_cmp_eq 211 220 (gd rfl) rfl rfl (fun c825 => ?_) (fun c825 => ?_)
                                  · skip
                                    exact n_eq c825 i673 (in_c 59 rfl) rfl
                                  · skip
                                    refine g_aload_n 212 (gd rfl) rfl rfl ?_
                                    refine g_iconst 1 213 (gd rfl) rfl rfl ?_
                                    refine g_aload_n 214 (gd rfl) rfl rfl ?_
                                    refine g_getI 217 (gd rfl) rfl rfl rfl (fun z826 e827 => ?_)
                                    have q828 : w0_109_27 = z826 := (sF_ne rfl (sF_ne rfl (sF_get))).trans e827.symm
                                    subst q828
                                    refine g_callv (X := _) (As := [.int (Int32.ofInt 1), .int w0_109_27]) (r := []) (b := A 109) (q := 109) 220 (gd rfl) rfl rfl rfl rfl rfl (ww_o rfl) (Nat.le_of_ble_eq_true rfl) (mc := 0) (ms := 0) (Nat.zero_le _) (Nat.zero_le _) (P := fun v u => _) ?_ (fun e u h => h) (fun v u h => h)
                                    intro po829 xx830 hp831 hx832
                                    refine g_enter2 (k := 298) (N := 300) (by omega) rfl (Nat.le_of_ble_eq_true rfl) ?_
                                    refine g_aload_n 1 (gd rfl) rfl rfl ?_
                                    refine g_getI 4 (gd rfl) rfl rfl rfl (fun z833 e834 => ?_)
                                    refine g_if_ne 7 17 (gd rfl) rfl rfl (fun c835 => ?_) (fun c835 => ?_)
                                    · skip
                                      refine g_return (gd rfl) rfl (hp831 _ _ ?_)
                                      show GG _ _ _ _ _ _ _ _ [] _ _ _
                                      refine g_aload_n 221 (gd rfl) rfl rfl ?_
                                      refine g_dup 222 (gd rfl) rfl rfl ?_
                                      refine g_getI 225 (gd rfl) rfl rfl rfl (fun z836 e837 => ?_)
                                      have q838 : w0_109_27 = z836 := (sF_ne rfl (sF_ne rfl (sF_ne rfl (v0_109_27)))).trans e837.symm
                                      subst q838
                                      refine g_iconst 1 226 (gd rfl) rfl rfl ?_
                                      refine g_iadd 227 (gd rfl) rfl (fun z839 e840 => ?_)
                                      have i841 := in_add 1 1000 e840 i449 (in_c 1 rfl) rfl rfl
                                      refine g_putI 230 (gd rfl) rfl rfl rfl rfl ?_
                                      have hI842 := inv_sF (q := 109) (j := 27) hI820 rfl (in_w 0 1000 i841 rfl)
                                      have n843 : (z839).toInt ≤ (w0_109_22).toInt := by have a0 := (in_c 0 rfl); unfold In at a0; have a1 := i673; unfold In at a1; have a2 := i841; unfold In at a2; have a3 := t_add e840 i449 (in_c 1 rfl) rfl; have a4 := (in_c 1 rfl); unfold In at a4; have a5 := i449; unfold In at a5; have a6 := (in_c 3 rfl); unfold In at a6; have a7 := i735; unfold In at a7; have a8 := i742; unfold In at a8; have a9 := t_add e740 i449 (in_c 1 rfl) rfl; have a10 := i734; unfold In at a10; have a11 := t_add e678 i449 (in_c 1 rfl) rfl; omega
                                      have n844 : ((sF (sF (sF (sF s 109 29 w0_109_27) 109 30 z454) 109 28 (Int32.ofInt 3)) 109 27 z839).2.2.1 109 27).toInt ≤ ((sF (sF (sF (sF s 109 29 w0_109_27) 109 30 z454) 109 28 (Int32.ofInt 3)) 109 27 z839).2.2.1 109 22).toInt := by have b0 : z839 = (sF (sF (sF (sF s 109 29 w0_109_27) 109 30 z454) 109 28 (Int32.ofInt 3)) 109 27 z839).2.2.1 109 27 := sF_get; have b1 : w0_109_22 = (sF (sF (sF (sF s 109 29 w0_109_27) 109 30 z454) 109 28 (Int32.ofInt 3)) 109 27 z839).2.2.1 109 22 := sF_ne rfl (sF_ne rfl (sF_ne rfl (sF_ne rfl (v0_109_22)))); rw [← b0, ← b1]; exact n843
                                      exact g_return (gd rfl) rfl (hP _ _ ⟨(sF (sF (sF (sF s 109 29 w0_109_27) 109 30 z454) 109 28 (Int32.ofInt 3)) 109 27 z839), hI842, n844, rfl, rfl⟩)
                                    · skip
                                      have i845 := z_eq 0 0 c835 (i_rng z833) rfl
                                      refine g_aload_n 8 (gd rfl) rfl rfl ?_
                                      refine g_iload_n 9 (gd rfl) rfl rfl ?_
                                      refine g_putI 12 (gd rfl) rfl rfl rfl rfl ?_
                                      have hI846 := inv_sF (q := 109) (j := 23) hI820 rfl (in_w (-2147483648) 2147483647 (in_c 1 rfl) rfl)
                                      refine g_aload_n 13 (gd rfl) rfl rfl ?_
                                      refine g_iload_n 14 (gd rfl) rfl rfl ?_
                                      refine g_putI 17 (gd rfl) rfl rfl rfl rfl ?_
                                      have hI847 := inv_sF (q := 109) (j := 24) hI846 rfl (in_w (-2147483648) 2147483647 i449 rfl)
                                      refine g_return (gd rfl) rfl (hp831 _ _ ?_)
                                      show GG _ _ _ _ _ _ _ _ [] _ _ _
                                      refine g_aload_n 221 (gd rfl) rfl rfl ?_
                                      refine g_dup 222 (gd rfl) rfl rfl ?_
                                      refine g_getI 225 (gd rfl) rfl rfl rfl (fun z848 e849 => ?_)
                                      have q850 : w0_109_27 = z848 := (sF_ne rfl (sF_ne rfl (sF_ne rfl (sF_ne rfl (sF_ne rfl (v0_109_27)))))).trans e849.symm
                                      subst q850
                                      refine g_iconst 1 226 (gd rfl) rfl rfl ?_
                                      refine g_iadd 227 (gd rfl) rfl (fun z851 e852 => ?_)
                                      have i853 := in_add 1 1000 e852 i449 (in_c 1 rfl) rfl rfl
                                      refine g_putI 230 (gd rfl) rfl rfl rfl rfl ?_
                                      have hI854 := inv_sF (q := 109) (j := 27) hI847 rfl (in_w 0 1000 i853 rfl)
                                      have n855 : (z851).toInt ≤ (w0_109_22).toInt := by have a0 := (in_c 0 rfl); unfold In at a0; have a1 := i673; unfold In at a1; have a2 := i853; unfold In at a2; have a3 := t_add e852 i449 (in_c 1 rfl) rfl; have a4 := (in_c 1 rfl); unfold In at a4; have a5 := i449; unfold In at a5; have a6 := (in_c 3 rfl); unfold In at a6; have a7 := i735; unfold In at a7; have a8 := i742; unfold In at a8; have a9 := t_add e740 i449 (in_c 1 rfl) rfl; have a10 := i734; unfold In at a10; have a11 := t_add e678 i449 (in_c 1 rfl) rfl; omega
                                      have n856 : ((sF (sF (sF (sF (sF (sF s 109 29 w0_109_27) 109 30 z454) 109 28 (Int32.ofInt 3)) 109 23 (Int32.ofInt 1)) 109 24 w0_109_27) 109 27 z851).2.2.1 109 27).toInt ≤ ((sF (sF (sF (sF (sF (sF s 109 29 w0_109_27) 109 30 z454) 109 28 (Int32.ofInt 3)) 109 23 (Int32.ofInt 1)) 109 24 w0_109_27) 109 27 z851).2.2.1 109 22).toInt := by have b0 : z851 = (sF (sF (sF (sF (sF (sF s 109 29 w0_109_27) 109 30 z454) 109 28 (Int32.ofInt 3)) 109 23 (Int32.ofInt 1)) 109 24 w0_109_27) 109 27 z851).2.2.1 109 27 := sF_get; have b1 : w0_109_22 = (sF (sF (sF (sF (sF (sF s 109 29 w0_109_27) 109 30 z454) 109 28 (Int32.ofInt 3)) 109 23 (Int32.ofInt 1)) 109 24 w0_109_27) 109 27 z851).2.2.1 109 22 := sF_ne rfl (sF_ne rfl (sF_ne rfl (sF_ne rfl (sF_ne rfl (sF_ne rfl (v0_109_22)))))); rw [← b0, ← b1]; exact n855
                                      exact g_return (gd rfl) rfl (hP _ _ ⟨(sF (sF (sF (sF (sF (sF s 109 29 w0_109_27) 109 30 z454) 109 28 (Int32.ofInt 3)) 109 23 (Int32.ofInt 1)) 109 24 w0_109_27) 109 27 z851), hI854, n856, rfl, rfl⟩)
                              · skip
                                exact zn_ne c819 (in_c 0 rfl) rfl
                            · skip
                              exact n_le c818 (in_c 97 rfl) i673 rfl
                          · skip
                            exact zn_ne c813 (in_c 0 rfl) rfl
                      · skip
                        exact n_le c811 (in_c 48 rfl) i673 rfl
                    · skip
                      exact zn_ne c806 (in_c 0 rfl) rfl
                  · skip
                    have i857 := r_le1 48 57 c804 i803 (in_c 57 rfl) rfl
                    refine g_iconst 1 13 (gd rfl) rfl rfl ?_
                    refine g_goto 17 (gd rfl) rfl ?_
                    refine g_ireturn (gd rfl) rfl (nb01 (in_w 0 1 (in_c 1 rfl) rfl)) (hp748 _ _ ?_)
                    show GG _ _ _ _ _ _ _ _ [.int (Int32.ofInt 1)] _ _ _
                    refine g_if_eq 114 118 (gd rfl) rfl rfl (fun c858 => ?_) (fun c858 => ?_)
                    · skip
                      exact zn_eq c858 (in_c 1 rfl) rfl
                    · skip
                      refine g_iconst 1 115 (gd rfl) rfl rfl ?_
                      refine g_goto 119 (gd rfl) rfl ?_
                      refine g_istore_n 120 (gd rfl) rfl (Nat.le_of_ble_eq_true rfl) ?_
                      refine g_iload_n 121 (gd rfl) rfl rfl ?_
                      refine g_calls (As := [.int z454]) (r := []) 124 (gd rfl) rfl rfl rfl rfl rfl (Nat.le_of_ble_eq_true rfl) (mc := 0) (ms := 0) (Nat.zero_le _) (Nat.zero_le _) (P := fun v u => _) ?_ (fun v u h => h)
                      intro po859 xx860 hp861 hx862
                      refine g_enter2 (k := 297) (N := 300) (by omega) rfl (Nat.le_of_ble_eq_true rfl) ?_
                      refine g_iload_n 1 (gd rfl) rfl rfl ?_
                      refine g_bipush 48 3 (gd rfl) rfl rfl ?_
                      refine g_cmp_lt 6 16 (gd rfl) rfl rfl (fun c863 => ?_) (fun c863 => ?_)
                      · skip
                        refine g_iconst 0 17 (gd rfl) rfl rfl ?_
                        refine g_ireturn (gd rfl) rfl (nb01 (in_w 0 1 (in_c 0 rfl) rfl)) (hp861 _ _ ?_)
                        show GG _ _ _ _ _ _ _ _ [.int (Int32.ofInt 0)] _ _ _
                        refine g_if_ne 127 131 (gd rfl) rfl rfl (fun c864 => ?_) (fun c864 => ?_)
                        · skip
                          exact zn_ne c864 (in_c 0 rfl) rfl
                        · skip
                          refine g_iload_n 128 (gd rfl) rfl rfl ?_
                          refine g_if_eq 131 181 (gd rfl) rfl rfl (fun c865 => ?_) (fun c865 => ?_)
                          · skip
                            exact zn_eq c865 (in_c 1 rfl) rfl
                          · skip
                            refine g_aload_n 132 (gd rfl) rfl rfl ?_
                            refine g_iconst 2 133 (gd rfl) rfl rfl ?_
                            refine g_putI 136 (gd rfl) rfl rfl rfl rfl ?_
                            have hI866 := inv_sF (q := 109) (j := 28) hI475 rfl (in_w (-2147483648) 2147483647 (in_c 2 rfl) rfl)
                            refine g_aload_n 137 (gd rfl) rfl rfl ?_
                            refine g_dup 138 (gd rfl) rfl rfl ?_
                            refine g_getI 141 (gd rfl) rfl rfl rfl (fun z867 e868 => ?_)
                            have q869 : w0_109_27 = z867 := (sF_ne rfl (sF_ne rfl (sF_ne rfl (v0_109_27)))).trans e868.symm
                            subst q869
                            refine g_iload_n 142 (gd rfl) rfl rfl ?_
                            refine g_if_eq 145 149 (gd rfl) rfl rfl (fun c870 => ?_) (fun c870 => ?_)
                            · skip
                              exact zn_eq c870 (in_c 1 rfl) rfl
                            · skip
                              refine g_iconst 1 146 (gd rfl) rfl rfl ?_
                              refine g_goto 150 (gd rfl) rfl ?_
                              refine g_iadd 151 (gd rfl) rfl (fun z871 e872 => ?_)
                              have i873 := in_add 1 1000 e872 i449 (in_c 1 rfl) rfl rfl
                              refine g_putI 154 (gd rfl) rfl rfl rfl rfl ?_
                              have hI874 := inv_sF (q := 109) (j := 27) hI866 rfl (in_w 0 1000 i873 rfl)
                              refine g_aload_n 155 (gd rfl) rfl rfl ?_
                              refine g_bipush 7 157 (gd rfl) rfl rfl ?_
                              have n875 : (z871).toInt ≤ (w0_109_22).toInt := by have a0 := (in_c 1 rfl); unfold In at a0; have a1 := i673; unfold In at a1; have a2 := i873; unfold In at a2; have a3 := t_add e872 i449 (in_c 1 rfl) rfl; have a4 := i449; unfold In at a4; have a5 := (in_c 2 rfl); unfold In at a5; have a6 := i735; unfold In at a6; have a7 := i742; unfold In at a7; have a8 := t_add e740 i449 (in_c 1 rfl) rfl; have a9 := i734; unfold In at a9; have a10 := t_add e678 i449 (in_c 1 rfl) rfl; omega
                              refine g_callv (X := _) (As := [.int (Int32.ofInt 7)]) (r := []) (b := A 109) (q := 109) 160 (gd rfl) rfl rfl rfl rfl rfl (ww_o rfl) (Nat.le_of_ble_eq_true rfl) (Nat.zero_le _) (Nat.zero_le _) (k_300 (by omega) hI874 (in_w 6 7 (in_c 7 rfl) rfl) (sF_get) (sF_ne rfl (sF_ne rfl (sF_ne rfl (sF_ne rfl (v0_109_22))))) n875) (fun e u h => h) (fun v u h => ?_)
                              obtain ⟨s876, hI877, n880, rfl, rfl⟩ := h
                              obtain ⟨z881, e882⟩ : ∃ w, w = s876.2.2.1 109 27 := ⟨_, rfl⟩
                              have i883 := inv_F hI877 0 1000 rfl e882
                              obtain ⟨z884, e885⟩ : ∃ w, w = s876.2.2.1 109 22 := ⟨_, rfl⟩
                              have i886 := inv_F hI877 0 1000 rfl e885
                              rw [← e882, ← e885] at n880
                              show GG _ _ _ _ _ _ _ _ [] _ _ _
                              refine g_aload_n 161 (gd rfl) rfl rfl ?_
                              refine g_iload_n 162 (gd rfl) rfl rfl ?_
                              refine g_if_eq 165 173 (gd rfl) rfl rfl (fun c887 => ?_) (fun c887 => ?_)
                              · skip
                                exact zn_eq c887 (in_c 1 rfl) rfl
                              · skip
                                refine g_aload_n 166 (gd rfl) rfl rfl ?_
                                refine g_getL 169 (gd rfl) rfl rfl rfl (fun z888 e889 => ?_)
                                refine g_lneg 170 (gd rfl) rfl (fun z890 e891 => ?_)
                                refine g_goto 177 (gd rfl) rfl ?_
                                refine g_putL 180 (gd rfl) rfl rfl rfl rfl ?_
                                have hI892 := inv_sG (q := 109) (j := 31) (x := z890) hI877
                                have n893 : (z881).toInt ≤ (z884).toInt := by have a0 := (in_c 1 rfl); unfold In at a0; have a1 := i673; unfold In at a1; have a2 := i886; unfold In at a2; have a3 := i883; unfold In at a3; have a4 := i873; unfold In at a4; have a5 := t_add e872 i449 (in_c 1 rfl) rfl; have a6 := i449; unfold In at a6; have a7 := i742; unfold In at a7; have a8 := t_add e740 i449 (in_c 1 rfl) rfl; have a9 := i734; unfold In at a9; have a10 := t_add e678 i449 (in_c 1 rfl) rfl; omega
                                have n894 : ((sG s876 109 31 z890).2.2.1 109 27).toInt ≤ ((sG s876 109 31 z890).2.2.1 109 22).toInt := by have b0 : z881 = (sG s876 109 31 z890).2.2.1 109 27 := e882; have b1 : z884 = (sG s876 109 31 z890).2.2.1 109 22 := e885; rw [← b0, ← b1]; exact n893
                                exact g_return (gd rfl) rfl (hP _ _ ⟨(sG s876 109 31 z890), hI892, n894, rfl, rfl⟩)
                      · skip
                        exact n_le c863 (in_c 48 rfl) i673 rfl
          · skip
            have i895 := r_eq1 1 999 c468 i449 i450 rfl
            have i896 := r_eq2 1 999 c468 i449 i450 rfl
            refine g_aload_n 58 (gd rfl) rfl rfl ?_
            refine g_iconst 0 59 (gd rfl) rfl rfl ?_
            refine g_putI 62 (gd rfl) rfl rfl rfl rfl ?_
            have hI897 := inv_sF (q := 109) (j := 28) hI461 rfl (in_w (-2147483648) 2147483647 (in_c 0 rfl) rfl)
            have n898 : (w0_109_27).toInt ≤ (w0_109_22).toInt := by have a0 := (in_c 0 rfl); unfold In at a0; have a1 := i895; unfold In at a1; have a2 := i896; unfold In at a2; omega
            have n899 : ((sF (sF s 109 29 w0_109_27) 109 28 (Int32.ofInt 0)).2.2.1 109 27).toInt ≤ ((sF (sF s 109 29 w0_109_27) 109 28 (Int32.ofInt 0)).2.2.1 109 22).toInt := by have b0 : w0_109_27 = (sF (sF s 109 29 w0_109_27) 109 28 (Int32.ofInt 0)).2.2.1 109 27 := sF_ne rfl (sF_ne rfl (v0_109_27)); have b1 : w0_109_22 = (sF (sF s 109 29 w0_109_27) 109 28 (Int32.ofInt 0)).2.2.1 109 22 := sF_ne rfl (sF_ne rfl (v0_109_22)); rw [← b0, ← b1]; exact n898
            exact g_return (gd rfl) rfl (hP _ _ ⟨(sF (sF s 109 29 w0_109_27) 109 28 (Int32.ofInt 0)), hI897, n899, rfl, rfl⟩)
        · skip
          have i900 := r_eq1 32 32 c457 i456 (in_c 32 rfl) rfl
          refine g_aload_n 26 (gd rfl) rfl rfl ?_
          refine g_dup 27 (gd rfl) rfl rfl ?_
          refine g_getI 30 (gd rfl) rfl rfl rfl (fun z901 e902 => ?_)
          have q903 : w0_109_27 = z901 := (v0_109_27).trans e902.symm
          subst q903
          refine g_iconst 1 31 (gd rfl) rfl rfl ?_
          refine g_iadd 32 (gd rfl) rfl (fun z904 e905 => ?_)
          have i906 := in_add 1 1000 e905 i449 (in_c 1 rfl) rfl rfl
          refine g_putI 35 (gd rfl) rfl rfl rfl rfl ?_
          have hI907 := inv_sF (q := 109) (j := 27) hI rfl (in_w 0 1000 i906 rfl)
          refine g_goto 0 (gd rfl) rfl ?_
          have n908 : (z904).toInt ≤ (w0_109_22).toInt := by have a0 := i906; unfold In at a0; have a1 := t_add e905 i449 (in_c 1 rfl) rfl; have a2 := (in_c 1 rfl); unfold In at a2; have a3 := i449; unfold In at a3; have a4 := i450; unfold In at a4; omega
          have m909 : (w0_109_22).toInt - (z904).toInt < ((k0 : Nat) : Int) := by have a0 := i906; unfold In at a0; have a1 := t_add e905 i449 (in_c 1 rfl) rfl; have a2 := (in_c 1 rfl); unfold In at a2; have a3 := i449; unfold In at a3; have a4 := i450; unfold In at a4; omega
          exact gg_w (by omega) (gg_f (gf_cons rfl gf_nil) (ih0  (sF s 109 27 z904) z904 w0_109_22 hI907 (sF_get) (sF_ne rfl (v0_109_22)) n908 m909))
  refine g_enter2 (k := 299) (N := 901801) (by omega) rfl (Nat.le_of_ble_eq_true rfl) ?_
  have n910 : (u_109_27).toInt ≤ (u_109_22).toInt := by have a0 := (inv_F hI 0 1000 rfl e_109_22); unfold In at a0; have a1 := (inv_F hI 0 1000 rfl e_109_27); unfold In at a1; omega
  have m911 : (u_109_22).toInt - (u_109_27).toInt < ((1001 : Nat) : Int) := by have a0 := (inv_F hI 0 1000 rfl e_109_22); unfold In at a0; have a1 := (inv_F hI 0 1000 rfl e_109_27); unfold In at a1; omega
  exact gg_w (by omega) (gg_f (gf_cons rfl gf_nil) (ct0 1001 s u_109_27 u_109_22 hI (e_109_27) (e_109_22) n910 m911))

/-- GraphHouseModel.toGoal -/
theorem k_312 {Z : AmZ} {A : Nat → Nat} {s : GS} {ex : va_W} {d : Nat} {X : AmX} {x1 : Int32} {x2 : Int32} (hd : 4 ≤ d) (hI : Inv s) (h1 : In x1 0 31) : GC Z d 312 [.ref (A 109), .int x1, .int x2] (WW Z A s ++ ex) 0 0 (fun v u => ∃ t : GS, Inv t ∧ ∃ z : Int32, v = some (.int z) ∧ u = WW Z A t ++ ex ∧ In z 0 1) X := by
  intro post xp hP hX
  have ct234 : ∀ (s : GS) (y234_3 : Int32) (y234_4 : Int32), Inv s → In y234_3 0 1 → In y234_4 0 33 → GG Z (d - 1) 312 post (gx xp) (901) 234 (fun j => xlook j [(0, .ref (A 109)), (1, .int x1), (2, .int x2), (3, .int y234_3), (4, .int y234_4)]) [] (WW Z A s ++ ex) 0 0 := by
    intro s y234_3 y234_4 hI j234_3 j234_4
    refine g_iload_n 235 (gd rfl) rfl rfl ?_
    refine g_if_eq 238 240 (gd rfl) rfl rfl (fun c1 => ?_) (fun c1 => ?_)
    · skip
      have i2 := z_eq 0 0 c1 j234_3 rfl
      refine g_aload_n 241 (gd rfl) rfl rfl ?_
      refine g_iload_n 242 (gd rfl) rfl rfl ?_
      refine g_iload_n 243 (gd rfl) rfl rfl ?_
      refine g_callv (X := _) (As := [.int x1, .int x2]) (r := []) (b := A 109) (q := 109) 246 (gd rfl) rfl rfl rfl rfl rfl (ww_o rfl) (Nat.le_of_ble_eq_true rfl) (Nat.zero_le _) (Nat.zero_le _) (k_313 (by omega) hI (in_w 0 31 h1 rfl)) (fun e u h => h) (fun v u h => ?_)
      obtain ⟨s3, hI4, rfl, rfl⟩ := h
      show GG _ _ _ _ _ _ _ _ [] _ _ _
      refine g_iconst 1 247 (gd rfl) rfl rfl ?_
      exact g_ireturn (gd rfl) rfl (nb01 (in_w 0 1 (in_c 1 rfl) rfl)) (hP _ _ ⟨s3, hI4, (Int32.ofInt 1), rfl, rfl, in_w 0 1 (in_c 1 rfl) rfl⟩)
    · skip
      have i7 := z_ne 1 1 c1 j234_3 rfl
      refine g_iconst 0 239 (gd rfl) rfl rfl ?_
      exact g_ireturn (gd rfl) rfl (nb01 (in_w 0 1 (in_c 0 rfl) rfl)) (hP _ _ ⟨s, hI, (Int32.ofInt 0), rfl, rfl, in_w 0 1 (in_c 0 rfl) rfl⟩)
  have ct44 : ∀ (k44 : Nat) (s : GS) (y44_3 : Int32) (y44_4 : Int32), Inv s → In y44_3 0 1 → In y44_4 0 33 → 33 - (y44_4).toInt < (k44 : Int) → GG Z (d - 1) 312 post (gx xp) (902 + k44 * 868082) 44 (fun j => xlook j [(0, .ref (A 109)), (1, .int x1), (2, .int x2), (3, .int y44_3), (4, .int y44_4)]) [] (WW Z A s ++ ex) 0 0 := by
    intro k44
    induction k44 with
    | zero => intro s y44_3 y44_4 hI j44_3 j44_4 mm44; exact m_no mm44 j44_4 rfl
    | succ k44 ih44 =>
      intro s y44_3 y44_4 hI j44_3 j44_4 mm44
      refine gg_w (M := 902 + k44 * 868082 + 868082) (by omega) ?_
      have ct65 : ∀ (k65 : Nat) (s : GS) (y65_3 : Int32) (y65_5 : Int32), Inv s → In y65_3 0 1 → In y44_4 0 32 → In y65_5 0 479 → 479 - (y65_5).toInt < (k65 : Int) → GG Z (d - 1) 312 post (gx xp) (902 + k44 * 868082 + 1 + k65 * 1801) 65 (fun j => xlook j [(0, .ref (A 109)), (1, .int x1), (2, .int x2), (3, .int y65_3), (4, .int y44_4), (5, .int y65_5)]) [] (WW Z A s ++ ex) 0 0 := by
        intro k65
        induction k65 with
        | zero => intro s y65_3 y65_5 hI j65_3 j65_4 j65_5 mm65; exact m_no mm65 j65_5 rfl
        | succ k65 ih65 =>
          intro s y65_3 y65_5 hI j65_3 j65_4 j65_5 mm65
          refine gg_w (M := 902 + k44 * 868082 + 1 + k65 * 1801 + 1801) (by omega) ?_
          have ct222 : ∀ (s : GS) (y222_3 : Int32), Inv s → In y222_3 0 1 → In y65_5 0 400 → GG Z (d - 1) 312 post (gx xp) (902 + k44 * 868082 + 1 + k65 * 1801 + 901) 222 (fun j => xlook j [(0, .ref (A 109)), (1, .int x1), (2, .int x2), (3, .int y222_3), (4, .int y44_4), (5, .int y65_5)]) [] (WW Z A s ++ ex) 0 0 := by
            intro s y222_3 hI j222_3 j222_5
            refine g_iinc 225 (gd rfl) rfl rfl (Nat.le_of_ble_eq_true rfl) (fun z8 e9 => ?_)
            have i10 := in_add 1 401 e9 j222_5 (in_c 1 rfl) rfl rfl
            refine g_goto 65 (gd rfl) rfl ?_
            exact gg_w (by omega) (gg_f (gf_cons rfl (gf_cons rfl (gf_cons rfl (gf_cons rfl (gf_cons rfl (gf_cons rfl gf_nil)))))) (ih65 s y222_3 z8 hI (in_w 0 1 j222_3 rfl) (in_w 0 32 j65_4 rfl) (in_w 0 479 i10 rfl) (m_up mm65 (t_add e9 j222_5 (in_c 1 rfl) rfl) (in_w 1 1 (in_c 1 rfl) rfl))))
          refine g_iload 67 (gd rfl) rfl rfl ?_
          refine g_aload_n 68 (gd rfl) rfl rfl ?_
          refine g_getI 71 (gd rfl) rfl rfl rfl (fun z11 e12 => ?_)
          have i13 := inv_F hI 0 160 rfl e12
          refine g_sipush 160 74 (gd rfl) rfl rfl ?_
          refine g_iadd 75 (gd rfl) rfl (fun z14 e15 => ?_)
          have i16 := in_add 160 320 e15 i13 (in_c 160 rfl) rfl rfl
          refine g_cmp_ge 78 228 (gd rfl) rfl rfl (fun c17 => ?_) (fun c17 => ?_)
          · skip
            have i18 := r_le2 160 479 c17 i16 j65_5 rfl
            refine g_iinc 231 (gd rfl) rfl rfl (Nat.le_of_ble_eq_true rfl) (fun z19 e20 => ?_)
            have i21 := in_add 1 33 e20 j65_4 (in_c 1 rfl) rfl rfl
            refine g_goto 44 (gd rfl) rfl ?_
            exact gg_w (by omega) (gg_f (gf_cons rfl (gf_cons rfl (gf_cons rfl (gf_cons rfl (gf_cons rfl gf_nil))))) (ih44 s y65_3 z19 hI (in_w 0 1 j65_3 rfl) (in_w 0 33 i21 rfl) (m_up mm44 (t_add e20 j65_4 (in_c 1 rfl) rfl) (in_w 1 1 (in_c 1 rfl) rfl))))
          · skip
            have i22 := r_lt1 0 319 c17 j65_5 i16 rfl
            refine g_aload_n 79 (gd rfl) rfl rfl ?_
            refine g_getA (q2 := 112) 82 (gd rfl) rfl rfl rfl rfl rfl ?_
            refine g_iload 84 (gd rfl) rfl rfl ?_
            refine g_baload 85 (gd rfl) rfl (n := 480) rfl (in_ix i22 rfl) (fun z23 e24 => ?_)
            have i25 := inv_I hI (n := 480) (t := 3) 0 1 rfl (in_ix i22 rfl) rfl e24
            refine g_if_eq 88 222 (gd rfl) rfl rfl (fun c26 => ?_) (fun c26 => ?_)
            · skip
              have i27 := z_eq 0 0 c26 i25 rfl
              exact gg_w (by omega) (gg_f (gf_cons rfl (gf_cons rfl (gf_cons rfl (gf_cons rfl (gf_cons rfl (gf_cons rfl gf_nil)))))) (ct222 s y65_3 hI (in_w 0 1 j65_3 rfl) (in_w 0 400 i22 rfl)))
            · skip
              have i28 := z_ne 1 1 c26 i25 rfl
              refine g_iload_n 89 (gd rfl) rfl rfl ?_
              refine g_aload_n 90 (gd rfl) rfl rfl ?_
              refine g_getA (q2 := 113) 93 (gd rfl) rfl rfl rfl rfl rfl ?_
              refine g_iload 95 (gd rfl) rfl rfl ?_
              refine g_iaload 96 (gd rfl) rfl (n := 480) rfl (in_ix i22 rfl) (fun z29 e30 => ?_)
              have i31 := inv_I hI (n := 480) (t := 0) 0 31 rfl (in_ix i22 rfl) rfl e30
              refine g_calls (As := [.int x2, .int z29]) (r := []) 99 (gd rfl) rfl rfl rfl rfl rfl (Nat.le_of_ble_eq_true rfl) (mc := 0) (ms := 0) (Nat.zero_le _) (Nat.zero_le _) (P := fun v u => _) ?_ (fun v u h => h)
              intro po32 xx33 hp34 hx35
              refine g_enter2 (k := 311) (N := 300) (by omega) rfl (Nat.le_of_ble_eq_true rfl) ?_
              refine g_iload_n 1 (gd rfl) rfl rfl ?_
              refine g_iload_n 2 (gd rfl) rfl rfl ?_
              refine g_ishr 3 (gd rfl) rfl (fun z36 e37 => ?_)
              refine g_iconst 1 4 (gd rfl) rfl rfl ?_
              refine g_iand 5 (gd rfl) rfl (fun z38 e39 => ?_)
              have i40 := in_and2 e39 (in_c 1 rfl) rfl
              refine g_iconst 1 6 (gd rfl) rfl rfl ?_
              refine g_cmp_ne 9 13 (gd rfl) rfl rfl (fun c41 => ?_) (fun c41 => ?_)
              · skip
                have i42 := r_ne1 0 0 c41 i40 (in_c 1 rfl) rfl
                refine g_iconst 0 14 (gd rfl) rfl rfl ?_
                refine g_ireturn (gd rfl) rfl (nb01 (in_w 0 1 (in_c 0 rfl) rfl)) (hp34 _ _ ?_)
                show GG _ _ _ _ _ _ _ _ [.int (Int32.ofInt 0)] _ _ _
                refine g_if_eq 102 222 (gd rfl) rfl rfl (fun c43 => ?_) (fun c43 => ?_)
                · skip
                  exact gg_w (by omega) (gg_f (gf_cons rfl (gf_cons rfl (gf_cons rfl (gf_cons rfl (gf_cons rfl (gf_cons rfl gf_nil)))))) (ct222 s y65_3 hI (in_w 0 1 j65_3 rfl) (in_w 0 400 i22 rfl)))
                · skip
                  exact zn_ne c43 (in_c 0 rfl) rfl
              · skip
                have i44 := r_eq1 1 1 c41 i40 (in_c 1 rfl) rfl
                refine g_iconst 1 10 (gd rfl) rfl rfl ?_
                refine g_goto 14 (gd rfl) rfl ?_
                refine g_ireturn (gd rfl) rfl (nb01 (in_w 0 1 (in_c 1 rfl) rfl)) (hp34 _ _ ?_)
                show GG _ _ _ _ _ _ _ _ [.int (Int32.ofInt 1)] _ _ _
                refine g_if_eq 102 222 (gd rfl) rfl rfl (fun c45 => ?_) (fun c45 => ?_)
                · skip
                  exact zn_eq c45 (in_c 1 rfl) rfl
                · skip
                  refine g_iload_n 103 (gd rfl) rfl rfl ?_
                  refine g_aload_n 104 (gd rfl) rfl rfl ?_
                  refine g_getA (q2 := 114) 107 (gd rfl) rfl rfl rfl rfl rfl ?_
                  refine g_iload 109 (gd rfl) rfl rfl ?_
                  refine g_iaload 110 (gd rfl) rfl (n := 480) rfl (in_ix i22 rfl) (fun z46 e47 => ?_)
                  have i48 := inv_I hI (n := 480) (t := 0) 0 31 rfl (in_ix i22 rfl) rfl e47
                  refine g_calls (As := [.int x2, .int z46]) (r := []) 113 (gd rfl) rfl rfl rfl rfl rfl (Nat.le_of_ble_eq_true rfl) (mc := 0) (ms := 0) (Nat.zero_le _) (Nat.zero_le _) (P := fun v u => _) ?_ (fun v u h => h)
                  intro po49 xx50 hp51 hx52
                  refine g_enter2 (k := 311) (N := 300) (by omega) rfl (Nat.le_of_ble_eq_true rfl) ?_
                  refine g_iload_n 1 (gd rfl) rfl rfl ?_
                  refine g_iload_n 2 (gd rfl) rfl rfl ?_
                  refine g_ishr 3 (gd rfl) rfl (fun z53 e54 => ?_)
                  refine g_iconst 1 4 (gd rfl) rfl rfl ?_
                  refine g_iand 5 (gd rfl) rfl (fun z55 e56 => ?_)
                  have i57 := in_and2 e56 (in_c 1 rfl) rfl
                  refine g_iconst 1 6 (gd rfl) rfl rfl ?_
                  refine g_cmp_ne 9 13 (gd rfl) rfl rfl (fun c58 => ?_) (fun c58 => ?_)
                  · skip
                    have i59 := r_ne1 0 0 c58 i57 (in_c 1 rfl) rfl
                    refine g_iconst 0 14 (gd rfl) rfl rfl ?_
                    refine g_ireturn (gd rfl) rfl (nb01 (in_w 0 1 (in_c 0 rfl) rfl)) (hp51 _ _ ?_)
                    show GG _ _ _ _ _ _ _ _ [.int (Int32.ofInt 0)] _ _ _
                    refine g_if_eq 116 222 (gd rfl) rfl rfl (fun c60 => ?_) (fun c60 => ?_)
                    · skip
                      exact gg_w (by omega) (gg_f (gf_cons rfl (gf_cons rfl (gf_cons rfl (gf_cons rfl (gf_cons rfl (gf_cons rfl gf_nil)))))) (ct222 s y65_3 hI (in_w 0 1 j65_3 rfl) (in_w 0 400 i22 rfl)))
                    · skip
                      exact zn_ne c60 (in_c 0 rfl) rfl
                  · skip
                    have i61 := r_eq1 1 1 c58 i57 (in_c 1 rfl) rfl
                    refine g_iconst 1 10 (gd rfl) rfl rfl ?_
                    refine g_goto 14 (gd rfl) rfl ?_
                    refine g_ireturn (gd rfl) rfl (nb01 (in_w 0 1 (in_c 1 rfl) rfl)) (hp51 _ _ ?_)
                    show GG _ _ _ _ _ _ _ _ [.int (Int32.ofInt 1)] _ _ _
                    refine g_if_eq 116 222 (gd rfl) rfl rfl (fun c62 => ?_) (fun c62 => ?_)
                    · skip
                      exact zn_eq c62 (in_c 1 rfl) rfl
                    · skip
                      refine g_aload_n 117 (gd rfl) rfl rfl ?_
                      refine g_getA (q2 := 130) 120 (gd rfl) rfl rfl rfl rfl rfl ?_
                      refine g_aload_n 121 (gd rfl) rfl rfl ?_
                      refine g_getA (q2 := 114) 124 (gd rfl) rfl rfl rfl rfl rfl ?_
                      refine g_iload 126 (gd rfl) rfl rfl ?_
                      refine g_iaload 127 (gd rfl) rfl (n := 480) rfl (in_ix i22 rfl) (fun z63 e64 => ?_)
                      have q65 : z46 = z63 := (e47).trans e64.symm
                      subst q65
                      refine g_laload 128 (gd rfl) rfl (n := 32) rfl (in_ix i48 rfl) (fun z66 e67 => ?_)
                      refine g_ldc2_w 9000000000000000 131 (gd rfl) rfl rfl ?_
                      refine g_lcmp 132 (gd rfl) rfl (fun z68 e69 => ?_)
                      have i70 := lc_in e69
                      refine g_if_ge 135 222 (gd rfl) rfl rfl (fun c71 => ?_) (fun c71 => ?_)
                      · skip
                        have i72 := z_ge 0 1 c71 i70 rfl
                        have c73 := lc_ge e69 c71
                        have i74 := lr_le2 9000000000000000 9223372036854775807 c73 (l_c 9000000000000000 rfl) (l_rng z66) rfl
                        exact gg_w (by omega) (gg_f (gf_cons rfl (gf_cons rfl (gf_cons rfl (gf_cons rfl (gf_cons rfl (gf_cons rfl gf_nil)))))) (ct222 s y65_3 hI (in_w 0 1 j65_3 rfl) (in_w 0 400 i22 rfl)))
                      · skip
                        have i75 := z_lt (-1) (-1) c71 i70 rfl
                        have c76 := lc_lt e69 c71
                        have i77 := lr_lt1 (-9223372036854775808) 8999999999999999 c76 (l_rng z66) (l_c 9000000000000000 rfl) rfl
                        refine g_aload_n 136 (gd rfl) rfl rfl ?_
                        refine g_getA (q2 := 130) 139 (gd rfl) rfl rfl rfl rfl rfl ?_
                        refine g_aload_n 140 (gd rfl) rfl rfl ?_
                        refine g_getA (q2 := 114) 143 (gd rfl) rfl rfl rfl rfl rfl ?_
                        refine g_iload 145 (gd rfl) rfl rfl ?_
                        refine g_iaload 146 (gd rfl) rfl (n := 480) rfl (in_ix i22 rfl) (fun z78 e79 => ?_)
                        have q80 : z46 = z78 := (e47).trans e79.symm
                        subst q80
                        refine g_laload 147 (gd rfl) rfl (n := 32) rfl (in_ix i48 rfl) (fun z81 e82 => ?_)
                        refine g_aload_n 148 (gd rfl) rfl rfl ?_
                        refine g_getA (q2 := 115) 151 (gd rfl) rfl rfl rfl rfl rfl ?_
                        refine g_iload 153 (gd rfl) rfl rfl ?_
                        refine g_iaload 154 (gd rfl) rfl (n := 480) rfl (in_ix i22 rfl) (fun z83 e84 => ?_)
                        have i85 := inv_I hI (n := 480) (t := 0) (-1000000) 1000000 rfl (in_ix i22 rfl) rfl e84
                        refine g_i2l 155 (gd rfl) rfl (fun z86 e87 => ?_)
                        have i88 := l_i e87 i85
                        refine g_ladd 156 (gd rfl) rfl (fun z89 e90 => ?_)
                        refine g_lstore 158 (gd rfl) rfl (Nat.le_of_ble_eq_true rfl) ?_
                        refine g_aload_n 159 (gd rfl) rfl rfl ?_
                        refine g_getA (q2 := 131) 162 (gd rfl) rfl rfl rfl rfl rfl ?_
                        refine g_aload_n 163 (gd rfl) rfl rfl ?_
                        refine g_getA (q2 := 114) 166 (gd rfl) rfl rfl rfl rfl rfl ?_
                        refine g_iload 168 (gd rfl) rfl rfl ?_
                        refine g_iaload 169 (gd rfl) rfl (n := 480) rfl (in_ix i22 rfl) (fun z91 e92 => ?_)
                        have q93 : z46 = z91 := (e47).trans e92.symm
                        subst q93
                        refine g_iaload 170 (gd rfl) rfl (n := 32) rfl (in_ix i48 rfl) (fun z94 e95 => ?_)
                        refine g_iconst 1 171 (gd rfl) rfl rfl ?_
                        refine g_iadd 172 (gd rfl) rfl (fun z96 e97 => ?_)
                        refine g_istore 174 (gd rfl) rfl (Nat.le_of_ble_eq_true rfl) ?_
                        refine g_lload 176 (gd rfl) rfl rfl ?_
                        refine g_aload_n 177 (gd rfl) rfl rfl ?_
                        refine g_getA (q2 := 130) 180 (gd rfl) rfl rfl rfl rfl rfl ?_
                        refine g_aload_n 181 (gd rfl) rfl rfl ?_
                        refine g_getA (q2 := 113) 184 (gd rfl) rfl rfl rfl rfl rfl ?_
                        refine g_iload 186 (gd rfl) rfl rfl ?_
                        refine g_iaload 187 (gd rfl) rfl (n := 480) rfl (in_ix i22 rfl) (fun z98 e99 => ?_)
                        have q100 : z29 = z98 := (e30).trans e99.symm
                        subst q100
                        refine g_laload 188 (gd rfl) rfl (n := 32) rfl (in_ix i31 rfl) (fun z101 e102 => ?_)
                        refine g_lcmp 189 (gd rfl) rfl (fun z103 e104 => ?_)
                        have i105 := lc_in e104
                        refine g_if_ge 192 222 (gd rfl) rfl rfl (fun c106 => ?_) (fun c106 => ?_)
                        · skip
                          have i107 := z_ge 0 1 c106 i105 rfl
                          have c108 := lc_ge e104 c106
                          exact gg_w (by omega) (gg_f (gf_cons rfl (gf_cons rfl (gf_cons rfl (gf_cons rfl (gf_cons rfl (gf_cons rfl gf_nil)))))) (ct222 s y65_3 hI (in_w 0 1 j65_3 rfl) (in_w 0 400 i22 rfl)))
                        · skip
                          have i109 := z_lt (-1) (-1) c106 i105 rfl
                          have c110 := lc_lt e104 c106
                          have i111 := lr_lt1 (-9223372036854775808) 9223372036854775806 c110 (l_rng z89) (l_rng z101) rfl
                          have i112 := lr_lt2 (-9223372036854775807) 9223372036854775807 c110 (l_rng z89) (l_rng z101) rfl
                          refine g_aload_n 193 (gd rfl) rfl rfl ?_
                          refine g_getA (q2 := 130) 196 (gd rfl) rfl rfl rfl rfl rfl ?_
                          refine g_aload_n 197 (gd rfl) rfl rfl ?_
                          refine g_getA (q2 := 113) 200 (gd rfl) rfl rfl rfl rfl rfl ?_
                          refine g_iload 202 (gd rfl) rfl rfl ?_
                          refine g_iaload 203 (gd rfl) rfl (n := 480) rfl (in_ix i22 rfl) (fun z113 e114 => ?_)
                          have q115 : z29 = z113 := (e30).trans e114.symm
                          subst q115
                          refine g_lload 205 (gd rfl) rfl rfl ?_
                          refine g_lastore 206 (gd rfl) rfl (n := 32) rfl (in_ix i31 rfl) ?_
                          have hI116 := inv_sL (q := 130) (j := z29.toNatClampNeg) (x := z89) hI
                          refine g_aload_n 207 (gd rfl) rfl rfl ?_
                          refine g_getA (q2 := 131) 210 (gd rfl) rfl rfl rfl rfl rfl ?_
                          refine g_aload_n 211 (gd rfl) rfl rfl ?_
                          refine g_getA (q2 := 113) 214 (gd rfl) rfl rfl rfl rfl rfl ?_
                          refine g_iload 216 (gd rfl) rfl rfl ?_
                          refine g_iaload 217 (gd rfl) rfl (n := 480) rfl (in_ix i22 rfl) (fun z117 e118 => ?_)
                          have q119 : z29 = z117 := (e30).trans e118.symm
                          subst q119
                          refine g_iload 219 (gd rfl) rfl rfl ?_
                          refine g_iastore 220 (gd rfl) rfl (n := 32) rfl (in_ix i31 rfl) ?_
                          have hI120 := inv_sI (q := 131) (j := z29.toNatClampNeg) hI116 rfl (in_w (-2147483648) 2147483647 (i_rng z96) rfl)
                          refine g_iconst 1 221 (gd rfl) rfl rfl ?_
                          refine g_istore_n 222 (gd rfl) rfl (Nat.le_of_ble_eq_true rfl) ?_
                          exact gg_w (by omega) (gg_f (gf_cons rfl (gf_cons rfl (gf_cons rfl (gf_cons rfl (gf_cons rfl (gf_cons rfl gf_nil)))))) (ct222 (sI (sL s 130 z29.toNatClampNeg z89) 131 z29.toNatClampNeg z96) (Int32.ofInt 1) hI120 (in_w 0 1 (in_c 1 rfl) rfl) (in_w 0 400 i22 rfl)))
      refine g_iload 46 (gd rfl) rfl rfl ?_
      refine g_aload_n 47 (gd rfl) rfl rfl ?_
      refine g_getI 50 (gd rfl) rfl rfl rfl (fun z121 e122 => ?_)
      have i123 := inv_F hI 0 32 rfl e122
      refine g_cmp_gt 53 234 (gd rfl) rfl rfl (fun c124 => ?_) (fun c124 => ?_)
      · skip
        have i125 := r_lt2 1 33 c124 i123 j44_4 rfl
        exact gg_w (by omega) (gg_f (gf_cons rfl (gf_cons rfl (gf_cons rfl (gf_cons rfl (gf_cons rfl gf_nil))))) (ct234 s y44_3 y44_4 hI (in_w 0 1 j44_3 rfl) (in_w 0 33 i125 rfl)))
      · skip
        have i126 := r_le1 0 32 c124 j44_4 i123 rfl
        refine g_iload_n 54 (gd rfl) rfl rfl ?_
        refine g_if_eq 57 234 (gd rfl) rfl rfl (fun c127 => ?_) (fun c127 => ?_)
        · skip
          have i128 := z_eq 0 0 c127 j44_3 rfl
          exact gg_w (by omega) (gg_f (gf_cons rfl (gf_cons rfl (gf_cons rfl (gf_cons rfl (gf_cons rfl gf_nil))))) (ct234 s y44_3 y44_4 hI (in_w 0 1 i128 rfl) (in_w 0 33 i126 rfl)))
        · skip
          have i129 := z_ne 1 1 c127 j44_3 rfl
          refine g_iconst 0 58 (gd rfl) rfl rfl ?_
          refine g_istore_n 59 (gd rfl) rfl (Nat.le_of_ble_eq_true rfl) ?_
          refine g_aload_n 60 (gd rfl) rfl rfl ?_
          refine g_getI 63 (gd rfl) rfl rfl rfl (fun z130 e131 => ?_)
          have i132 := inv_F hI 0 160 rfl e131
          refine g_istore 65 (gd rfl) rfl (Nat.le_of_ble_eq_true rfl) ?_
          exact gg_w (by omega) (gg_f (gf_cons rfl (gf_cons rfl (gf_cons rfl (gf_cons rfl (gf_cons rfl (gf_cons rfl gf_nil)))))) (ct65 480 s (Int32.ofInt 0) z130 hI (in_w 0 1 (in_c 0 rfl) rfl) (in_w 0 32 i126 rfl) (in_w 0 479 i132 rfl) (m_in 480 (in_w 0 479 i132 rfl) rfl)))
  have ct2 : ∀ (k2 : Nat) (s : GS) (y2_3 : Int32), Inv s → In y2_3 0 32 → 32 - (y2_3).toInt < (k2 : Int) → GG Z (d - 1) 312 post (gx xp) (29515691 + k2 * 900) 2 (fun j => xlook j [(0, .ref (A 109)), (1, .int x1), (2, .int x2), (3, .int y2_3)]) [] (WW Z A s ++ ex) 0 0 := by
    intro k2
    induction k2 with
    | zero => intro s y2_3 hI j2_3 mm2; exact m_no mm2 j2_3 rfl
    | succ k2 ih2 =>
      intro s y2_3 hI j2_3 mm2
      refine gg_w (M := 29515691 + k2 * 900 + 900) (by omega) ?_
      refine g_iload_n 3 (gd rfl) rfl rfl ?_
      refine g_aload_n 4 (gd rfl) rfl rfl ?_
      refine g_getI 7 (gd rfl) rfl rfl rfl (fun z133 e134 => ?_)
      have i135 := inv_F hI 0 32 rfl e134
      refine g_cmp_ge 10 32 (gd rfl) rfl rfl (fun c136 => ?_) (fun c136 => ?_)
      · skip
        refine g_aload_n 33 (gd rfl) rfl rfl ?_
        refine g_getA (q2 := 130) 36 (gd rfl) rfl rfl rfl rfl rfl ?_
        refine g_iload_n 37 (gd rfl) rfl rfl ?_
        refine g_lconst 0 38 (gd rfl) rfl rfl ?_
        refine g_lastore 39 (gd rfl) rfl (n := 32) rfl (in_ix h1 rfl) ?_
        have hI137 := inv_sL (q := 130) (j := x1.toNatClampNeg) (x := (Int64.ofInt 0)) hI
        refine g_iconst 1 40 (gd rfl) rfl rfl ?_
        refine g_istore_n 41 (gd rfl) rfl (Nat.le_of_ble_eq_true rfl) ?_
        refine g_iconst 0 42 (gd rfl) rfl rfl ?_
        refine g_istore 44 (gd rfl) rfl (Nat.le_of_ble_eq_true rfl) ?_
        exact gg_w (by omega) (gg_f (gf_cons rfl (gf_cons rfl (gf_cons rfl (gf_cons rfl (gf_cons rfl gf_nil))))) (ct44 34 (sL s 130 x1.toNatClampNeg (Int64.ofInt 0)) (Int32.ofInt 1) (Int32.ofInt 0) hI137 (in_w 0 1 (in_c 1 rfl) rfl) (in_w 0 33 (in_c 0 rfl) rfl) (m_in 34 (in_w 0 33 (in_c 0 rfl) rfl) rfl)))
      · skip
        have i138 := r_lt1 0 31 c136 j2_3 i135 rfl
        have i139 := r_lt2 1 32 c136 j2_3 i135 rfl
        refine g_aload_n 11 (gd rfl) rfl rfl ?_
        refine g_getA (q2 := 130) 14 (gd rfl) rfl rfl rfl rfl rfl ?_
        refine g_iload_n 15 (gd rfl) rfl rfl ?_
        refine g_ldc2_w 9000000000000000 18 (gd rfl) rfl rfl ?_
        refine g_lastore 19 (gd rfl) rfl (n := 32) rfl (in_ix i138 rfl) ?_
        have hI140 := inv_sL (q := 130) (j := y2_3.toNatClampNeg) (x := (Int64.ofInt 9000000000000000)) hI
        refine g_aload_n 20 (gd rfl) rfl rfl ?_
        refine g_getA (q2 := 131) 23 (gd rfl) rfl rfl rfl rfl rfl ?_
        refine g_iload_n 24 (gd rfl) rfl rfl ?_
        refine g_iconst 0 25 (gd rfl) rfl rfl ?_
        refine g_iastore 26 (gd rfl) rfl (n := 32) rfl (in_ix i138 rfl) ?_
        have hI141 := inv_sI (q := 131) (j := y2_3.toNatClampNeg) hI140 rfl (in_w (-2147483648) 2147483647 (in_c 0 rfl) rfl)
        refine g_iinc 29 (gd rfl) rfl rfl (Nat.le_of_ble_eq_true rfl) (fun z142 e143 => ?_)
        have i144 := in_add 1 32 e143 i138 (in_c 1 rfl) rfl rfl
        refine g_goto 2 (gd rfl) rfl ?_
        exact gg_w (by omega) (gg_f (gf_cons rfl (gf_cons rfl (gf_cons rfl (gf_cons rfl gf_nil)))) (ih2 (sI (sL s 130 y2_3.toNatClampNeg (Int64.ofInt 9000000000000000)) 131 y2_3.toNatClampNeg (Int32.ofInt 0)) z142 hI141 (in_w 0 32 i144 rfl) (m_up mm2 (t_add e143 i138 (in_c 1 rfl) rfl) (in_w 1 1 (in_c 1 rfl) rfl))))
  refine g_enter2 (k := 312) (N := 29546291) (by omega) rfl (Nat.le_of_ble_eq_true rfl) ?_
  refine g_iconst 0 1 (gd rfl) rfl rfl ?_
  refine g_istore_n 2 (gd rfl) rfl (Nat.le_of_ble_eq_true rfl) ?_
  exact gg_w (by omega) (gg_f (gf_cons rfl (gf_cons rfl (gf_cons rfl (gf_cons rfl gf_nil)))) (ct2 33 s (Int32.ofInt 0) hI (in_w 0 32 (in_c 0 rfl) rfl) (m_in 33 (in_w 0 32 (in_c 0 rfl) rfl) rfl)))

/-- GraphHouseModel.distance -/
theorem k_315 {Z : AmZ} {A : Nat → Nat} {s : GS} {ex : va_W} {d : Nat} {X : AmX} {x1 : Int32} {x2 : Int32} (hd : 5 ≤ d) (hI : Inv s)  : GC Z d 315 [.ref (A 109), .int x1, .int x2] (WW Z A s ++ ex) 0 0 (fun v u => ∃ t : GS, Inv t ∧ ∃ z : Int64, v = some (.long z) ∧ u = WW Z A t ++ ex) X := by
  intro post xp hP hX
  refine g_enter2 (k := 315) (N := 900) (by omega) rfl (Nat.le_of_ble_eq_true rfl) ?_
  refine g_aload_n 1 (gd rfl) rfl rfl ?_
  refine g_aload_n 2 (gd rfl) rfl rfl ?_
  refine g_iload_n 3 (gd rfl) rfl rfl ?_
  refine g_callv (X := _) (As := [.int x1]) (r := [.ref (A 109)]) (b := A 109) (q := 109) 6 (gd rfl) rfl rfl rfl rfl rfl (ww_o rfl) (Nat.le_of_ble_eq_true rfl) (mc := 0) (ms := 0) (Nat.zero_le _) (Nat.zero_le _) (P := fun v u => _) ?_ (fun e u h => h) (fun v u h => h)
  intro po1 xx2 hp3 hx4
  refine g_enter2 (k := 272) (N := 300) (by omega) rfl (Nat.le_of_ble_eq_true rfl) ?_
  refine g_iload_n 1 (gd rfl) rfl rfl ?_
  refine g_if_lt 4 16 (gd rfl) rfl rfl (fun c5 => ?_) (fun c5 => ?_)
  · skip
    have i6 := z_lt (-2147483648) (-1) c5 (i_rng x1) rfl
    refine g_iconst 0 17 (gd rfl) rfl rfl ?_
    refine g_ireturn (gd rfl) rfl (nb01 (in_w 0 1 (in_c 0 rfl) rfl)) (hp3 _ _ ?_)
    show GG _ _ _ _ _ _ _ _ [.int (Int32.ofInt 0), .ref (A 109)] _ _ _
    refine g_if_eq 9 21 (gd rfl) rfl rfl (fun c7 => ?_) (fun c7 => ?_)
    · skip
      refine g_iconst 0 22 (gd rfl) rfl rfl ?_
      refine g_callv (X := _) (As := [.int (Int32.ofInt 0)]) (r := []) (b := A 109) (q := 109) 25 (gd rfl) rfl rfl rfl rfl rfl (ww_o rfl) (Nat.le_of_ble_eq_true rfl) (mc := 0) (ms := 0) (Nat.zero_le _) (Nat.zero_le _) (P := fun v u => _) ?_ (fun e u h => h) (fun v u h => h)
      intro po8 xx9 hp10 hx11
      refine g_enter2 (k := 271) (N := 300) (by omega) rfl (Nat.le_of_ble_eq_true rfl) ?_
      refine g_aload_n 1 (gd rfl) rfl rfl ?_
      refine g_iload_n 2 (gd rfl) rfl rfl ?_
      refine g_iconst 1 3 (gd rfl) rfl rfl ?_
      refine g_callv (X := _) (As := [.int (Int32.ofInt 0), .int (Int32.ofInt 1)]) (r := []) (b := A 109) (q := 109) 6 (gd rfl) rfl rfl rfl rfl rfl (ww_o rfl) (Nat.le_of_ble_eq_true rfl) (mc := 0) (ms := 0) (Nat.zero_le _) (Nat.zero_le _) (P := fun v u => _) ?_ (fun e u h => h) (fun v u h => h)
      intro po12 xx13 hp14 hx15
      refine g_enter2 (k := 270) (N := 300) (by omega) rfl (Nat.le_of_ble_eq_true rfl) ?_
      refine g_aload_n 1 (gd rfl) rfl rfl ?_
      refine g_iload_n 2 (gd rfl) rfl rfl ?_
      refine g_if_ne 5 9 (gd rfl) rfl rfl (fun c16 => ?_) (fun c16 => ?_)
      · skip
        exact zn_ne c16 (in_c 0 rfl) rfl
      · skip
        refine g_iconst 1 6 (gd rfl) rfl rfl ?_
        refine g_goto 18 (gd rfl) rfl ?_
        refine g_putI 21 (gd rfl) rfl rfl rfl rfl ?_
        have hI17 := inv_sF (q := 109) (j := 0) hI rfl (in_w 0 2 (in_c 1 rfl) rfl)
        refine g_aload_n 22 (gd rfl) rfl rfl ?_
        refine g_getI 25 (gd rfl) rfl rfl rfl (fun z18 e19 => ?_)
        have q20 : (Int32.ofInt 1) = z18 := (sF_get).trans e19.symm
        subst q20
        refine g_if_le 28 32 (gd rfl) rfl rfl (fun c21 => ?_) (fun c21 => ?_)
        · skip
          exact zn_le c21 (in_c 1 rfl) rfl
        · skip
          refine g_iconst 1 29 (gd rfl) rfl rfl ?_
          refine g_goto 33 (gd rfl) rfl ?_
          refine g_ireturn (gd rfl) rfl (nb01 (in_w 0 1 (in_c 1 rfl) rfl)) (hp14 _ _ ?_)
          show GG _ _ _ _ _ _ _ _ [.int (Int32.ofInt 1)] _ _ _
          refine g_ireturn (gd rfl) rfl (nb01 (in_w 0 1 (in_c 1 rfl) rfl)) (hp10 _ _ ?_)
          show GG _ _ _ _ _ _ _ _ [.int (Int32.ofInt 1)] _ _ _
          refine g_if_eq 28 30 (gd rfl) rfl rfl (fun c22 => ?_) (fun c22 => ?_)
          · skip
            exact zn_eq c22 (in_c 1 rfl) rfl
          · skip
            refine g_lconst 0 29 (gd rfl) rfl rfl ?_
            exact g_lreturn (gd rfl) rfl (hP _ _ ⟨(sF s 109 0 (Int32.ofInt 1)), hI17, (Int64.ofInt 0), rfl, rfl⟩)
    · skip
      exact zn_ne c7 (in_c 0 rfl) rfl
  · skip
    have i23 := z_ge 0 2147483647 c5 (i_rng x1) rfl
    refine g_iload_n 5 (gd rfl) rfl rfl ?_
    refine g_aload_n 6 (gd rfl) rfl rfl ?_
    refine g_getI 9 (gd rfl) rfl rfl rfl (fun z24 e25 => ?_)
    have i26 := inv_F hI 0 32 rfl e25
    refine g_cmp_ge 12 16 (gd rfl) rfl rfl (fun c27 => ?_) (fun c27 => ?_)
    · skip
      refine g_iconst 0 17 (gd rfl) rfl rfl ?_
      refine g_ireturn (gd rfl) rfl (nb01 (in_w 0 1 (in_c 0 rfl) rfl)) (hp3 _ _ ?_)
      show GG _ _ _ _ _ _ _ _ [.int (Int32.ofInt 0), .ref (A 109)] _ _ _
      refine g_if_eq 9 21 (gd rfl) rfl rfl (fun c28 => ?_) (fun c28 => ?_)
      · skip
        refine g_iconst 0 22 (gd rfl) rfl rfl ?_
        refine g_callv (X := _) (As := [.int (Int32.ofInt 0)]) (r := []) (b := A 109) (q := 109) 25 (gd rfl) rfl rfl rfl rfl rfl (ww_o rfl) (Nat.le_of_ble_eq_true rfl) (mc := 0) (ms := 0) (Nat.zero_le _) (Nat.zero_le _) (P := fun v u => _) ?_ (fun e u h => h) (fun v u h => h)
        intro po29 xx30 hp31 hx32
        refine g_enter2 (k := 271) (N := 300) (by omega) rfl (Nat.le_of_ble_eq_true rfl) ?_
        refine g_aload_n 1 (gd rfl) rfl rfl ?_
        refine g_iload_n 2 (gd rfl) rfl rfl ?_
        refine g_iconst 1 3 (gd rfl) rfl rfl ?_
        refine g_callv (X := _) (As := [.int (Int32.ofInt 0), .int (Int32.ofInt 1)]) (r := []) (b := A 109) (q := 109) 6 (gd rfl) rfl rfl rfl rfl rfl (ww_o rfl) (Nat.le_of_ble_eq_true rfl) (mc := 0) (ms := 0) (Nat.zero_le _) (Nat.zero_le _) (P := fun v u => _) ?_ (fun e u h => h) (fun v u h => h)
        intro po33 xx34 hp35 hx36
        refine g_enter2 (k := 270) (N := 300) (by omega) rfl (Nat.le_of_ble_eq_true rfl) ?_
        refine g_aload_n 1 (gd rfl) rfl rfl ?_
        refine g_iload_n 2 (gd rfl) rfl rfl ?_
        refine g_if_ne 5 9 (gd rfl) rfl rfl (fun c37 => ?_) (fun c37 => ?_)
        · skip
          exact zn_ne c37 (in_c 0 rfl) rfl
        · skip
          refine g_iconst 1 6 (gd rfl) rfl rfl ?_
          refine g_goto 18 (gd rfl) rfl ?_
          refine g_putI 21 (gd rfl) rfl rfl rfl rfl ?_
          have hI38 := inv_sF (q := 109) (j := 0) hI rfl (in_w 0 2 (in_c 1 rfl) rfl)
          refine g_aload_n 22 (gd rfl) rfl rfl ?_
          refine g_getI 25 (gd rfl) rfl rfl rfl (fun z39 e40 => ?_)
          have q41 : (Int32.ofInt 1) = z39 := (sF_get).trans e40.symm
          subst q41
          refine g_if_le 28 32 (gd rfl) rfl rfl (fun c42 => ?_) (fun c42 => ?_)
          · skip
            exact zn_le c42 (in_c 1 rfl) rfl
          · skip
            refine g_iconst 1 29 (gd rfl) rfl rfl ?_
            refine g_goto 33 (gd rfl) rfl ?_
            refine g_ireturn (gd rfl) rfl (nb01 (in_w 0 1 (in_c 1 rfl) rfl)) (hp35 _ _ ?_)
            show GG _ _ _ _ _ _ _ _ [.int (Int32.ofInt 1)] _ _ _
            refine g_ireturn (gd rfl) rfl (nb01 (in_w 0 1 (in_c 1 rfl) rfl)) (hp31 _ _ ?_)
            show GG _ _ _ _ _ _ _ _ [.int (Int32.ofInt 1)] _ _ _
            refine g_if_eq 28 30 (gd rfl) rfl rfl (fun c43 => ?_) (fun c43 => ?_)
            · skip
              exact zn_eq c43 (in_c 1 rfl) rfl
            · skip
              refine g_lconst 0 29 (gd rfl) rfl rfl ?_
              exact g_lreturn (gd rfl) rfl (hP _ _ ⟨(sF s 109 0 (Int32.ofInt 1)), hI38, (Int64.ofInt 0), rfl, rfl⟩)
      · skip
        exact zn_ne c28 (in_c 0 rfl) rfl
    · skip
      have i44 := r_lt1 0 31 c27 i23 i26 rfl
      have i45 := r_lt2 1 32 c27 i23 i26 rfl
      refine g_iconst 1 13 (gd rfl) rfl rfl ?_
      refine g_goto 17 (gd rfl) rfl ?_
      refine g_ireturn (gd rfl) rfl (nb01 (in_w 0 1 (in_c 1 rfl) rfl)) (hp3 _ _ ?_)
      show GG _ _ _ _ _ _ _ _ [.int (Int32.ofInt 1), .ref (A 109)] _ _ _
      refine g_if_eq 9 21 (gd rfl) rfl rfl (fun c46 => ?_) (fun c46 => ?_)
      · skip
        exact zn_eq c46 (in_c 1 rfl) rfl
      · skip
        refine g_aload_n 10 (gd rfl) rfl rfl ?_
        refine g_iload_n 11 (gd rfl) rfl rfl ?_
        refine g_callv (X := _) (As := [.int x2]) (r := [.ref (A 109)]) (b := A 109) (q := 109) 14 (gd rfl) rfl rfl rfl rfl rfl (ww_o rfl) (Nat.le_of_ble_eq_true rfl) (mc := 0) (ms := 0) (Nat.zero_le _) (Nat.zero_le _) (P := fun v u => _) ?_ (fun e u h => h) (fun v u h => h)
        intro po47 xx48 hp49 hx50
        refine g_enter2 (k := 272) (N := 300) (by omega) rfl (Nat.le_of_ble_eq_true rfl) ?_
        refine g_iload_n 1 (gd rfl) rfl rfl ?_
        refine g_if_lt 4 16 (gd rfl) rfl rfl (fun c51 => ?_) (fun c51 => ?_)
        · skip
          have i52 := z_lt (-2147483648) (-1) c51 (i_rng x2) rfl
          refine g_iconst 0 17 (gd rfl) rfl rfl ?_
          refine g_ireturn (gd rfl) rfl (nb01 (in_w 0 1 (in_c 0 rfl) rfl)) (hp49 _ _ ?_)
          show GG _ _ _ _ _ _ _ _ [.int (Int32.ofInt 0), .ref (A 109)] _ _ _
          refine g_if_eq 17 21 (gd rfl) rfl rfl (fun c53 => ?_) (fun c53 => ?_)
          · skip
            refine g_iconst 0 22 (gd rfl) rfl rfl ?_
            refine g_callv (X := _) (As := [.int (Int32.ofInt 0)]) (r := []) (b := A 109) (q := 109) 25 (gd rfl) rfl rfl rfl rfl rfl (ww_o rfl) (Nat.le_of_ble_eq_true rfl) (mc := 0) (ms := 0) (Nat.zero_le _) (Nat.zero_le _) (P := fun v u => _) ?_ (fun e u h => h) (fun v u h => h)
            intro po54 xx55 hp56 hx57
            refine g_enter2 (k := 271) (N := 300) (by omega) rfl (Nat.le_of_ble_eq_true rfl) ?_
            refine g_aload_n 1 (gd rfl) rfl rfl ?_
            refine g_iload_n 2 (gd rfl) rfl rfl ?_
            refine g_iconst 1 3 (gd rfl) rfl rfl ?_
            refine g_callv (X := _) (As := [.int (Int32.ofInt 0), .int (Int32.ofInt 1)]) (r := []) (b := A 109) (q := 109) 6 (gd rfl) rfl rfl rfl rfl rfl (ww_o rfl) (Nat.le_of_ble_eq_true rfl) (mc := 0) (ms := 0) (Nat.zero_le _) (Nat.zero_le _) (P := fun v u => _) ?_ (fun e u h => h) (fun v u h => h)
            intro po58 xx59 hp60 hx61
            refine g_enter2 (k := 270) (N := 300) (by omega) rfl (Nat.le_of_ble_eq_true rfl) ?_
            refine g_aload_n 1 (gd rfl) rfl rfl ?_
            refine g_iload_n 2 (gd rfl) rfl rfl ?_
            refine g_if_ne 5 9 (gd rfl) rfl rfl (fun c62 => ?_) (fun c62 => ?_)
            · skip
              exact zn_ne c62 (in_c 0 rfl) rfl
            · skip
              refine g_iconst 1 6 (gd rfl) rfl rfl ?_
              refine g_goto 18 (gd rfl) rfl ?_
              refine g_putI 21 (gd rfl) rfl rfl rfl rfl ?_
              have hI63 := inv_sF (q := 109) (j := 0) hI rfl (in_w 0 2 (in_c 1 rfl) rfl)
              refine g_aload_n 22 (gd rfl) rfl rfl ?_
              refine g_getI 25 (gd rfl) rfl rfl rfl (fun z64 e65 => ?_)
              have q66 : (Int32.ofInt 1) = z64 := (sF_get).trans e65.symm
              subst q66
              refine g_if_le 28 32 (gd rfl) rfl rfl (fun c67 => ?_) (fun c67 => ?_)
              · skip
                exact zn_le c67 (in_c 1 rfl) rfl
              · skip
                refine g_iconst 1 29 (gd rfl) rfl rfl ?_
                refine g_goto 33 (gd rfl) rfl ?_
                refine g_ireturn (gd rfl) rfl (nb01 (in_w 0 1 (in_c 1 rfl) rfl)) (hp60 _ _ ?_)
                show GG _ _ _ _ _ _ _ _ [.int (Int32.ofInt 1)] _ _ _
                refine g_ireturn (gd rfl) rfl (nb01 (in_w 0 1 (in_c 1 rfl) rfl)) (hp56 _ _ ?_)
                show GG _ _ _ _ _ _ _ _ [.int (Int32.ofInt 1)] _ _ _
                refine g_if_eq 28 30 (gd rfl) rfl rfl (fun c68 => ?_) (fun c68 => ?_)
                · skip
                  exact zn_eq c68 (in_c 1 rfl) rfl
                · skip
                  refine g_lconst 0 29 (gd rfl) rfl rfl ?_
                  exact g_lreturn (gd rfl) rfl (hP _ _ ⟨(sF s 109 0 (Int32.ofInt 1)), hI63, (Int64.ofInt 0), rfl, rfl⟩)
          · skip
            exact zn_ne c53 (in_c 0 rfl) rfl
        · skip
          have i69 := z_ge 0 2147483647 c51 (i_rng x2) rfl
          refine g_iload_n 5 (gd rfl) rfl rfl ?_
          refine g_aload_n 6 (gd rfl) rfl rfl ?_
          refine g_getI 9 (gd rfl) rfl rfl rfl (fun z70 e71 => ?_)
          have q72 : z24 = z70 := (e25).trans e71.symm
          subst q72
          refine g_cmp_ge 12 16 (gd rfl) rfl rfl (fun c73 => ?_) (fun c73 => ?_)
          · skip
            have i74 := r_le2 1 2147483647 c73 i45 i69 rfl
            refine g_iconst 0 17 (gd rfl) rfl rfl ?_
            refine g_ireturn (gd rfl) rfl (nb01 (in_w 0 1 (in_c 0 rfl) rfl)) (hp49 _ _ ?_)
            show GG _ _ _ _ _ _ _ _ [.int (Int32.ofInt 0), .ref (A 109)] _ _ _
            refine g_if_eq 17 21 (gd rfl) rfl rfl (fun c75 => ?_) (fun c75 => ?_)
            · skip
              refine g_iconst 0 22 (gd rfl) rfl rfl ?_
              refine g_callv (X := _) (As := [.int (Int32.ofInt 0)]) (r := []) (b := A 109) (q := 109) 25 (gd rfl) rfl rfl rfl rfl rfl (ww_o rfl) (Nat.le_of_ble_eq_true rfl) (mc := 0) (ms := 0) (Nat.zero_le _) (Nat.zero_le _) (P := fun v u => _) ?_ (fun e u h => h) (fun v u h => h)
              intro po76 xx77 hp78 hx79
              refine g_enter2 (k := 271) (N := 300) (by omega) rfl (Nat.le_of_ble_eq_true rfl) ?_
              refine g_aload_n 1 (gd rfl) rfl rfl ?_
              refine g_iload_n 2 (gd rfl) rfl rfl ?_
              refine g_iconst 1 3 (gd rfl) rfl rfl ?_
              refine g_callv (X := _) (As := [.int (Int32.ofInt 0), .int (Int32.ofInt 1)]) (r := []) (b := A 109) (q := 109) 6 (gd rfl) rfl rfl rfl rfl rfl (ww_o rfl) (Nat.le_of_ble_eq_true rfl) (mc := 0) (ms := 0) (Nat.zero_le _) (Nat.zero_le _) (P := fun v u => _) ?_ (fun e u h => h) (fun v u h => h)
              intro po80 xx81 hp82 hx83
              refine g_enter2 (k := 270) (N := 300) (by omega) rfl (Nat.le_of_ble_eq_true rfl) ?_
              refine g_aload_n 1 (gd rfl) rfl rfl ?_
              refine g_iload_n 2 (gd rfl) rfl rfl ?_
              refine g_if_ne 5 9 (gd rfl) rfl rfl (fun c84 => ?_) (fun c84 => ?_)
              · skip
                exact zn_ne c84 (in_c 0 rfl) rfl
              · skip
                refine g_iconst 1 6 (gd rfl) rfl rfl ?_
                refine g_goto 18 (gd rfl) rfl ?_
                refine g_putI 21 (gd rfl) rfl rfl rfl rfl ?_
                have hI85 := inv_sF (q := 109) (j := 0) hI rfl (in_w 0 2 (in_c 1 rfl) rfl)
                refine g_aload_n 22 (gd rfl) rfl rfl ?_
                refine g_getI 25 (gd rfl) rfl rfl rfl (fun z86 e87 => ?_)
                have q88 : (Int32.ofInt 1) = z86 := (sF_get).trans e87.symm
                subst q88
                refine g_if_le 28 32 (gd rfl) rfl rfl (fun c89 => ?_) (fun c89 => ?_)
                · skip
                  exact zn_le c89 (in_c 1 rfl) rfl
                · skip
                  refine g_iconst 1 29 (gd rfl) rfl rfl ?_
                  refine g_goto 33 (gd rfl) rfl ?_
                  refine g_ireturn (gd rfl) rfl (nb01 (in_w 0 1 (in_c 1 rfl) rfl)) (hp82 _ _ ?_)
                  show GG _ _ _ _ _ _ _ _ [.int (Int32.ofInt 1)] _ _ _
                  refine g_ireturn (gd rfl) rfl (nb01 (in_w 0 1 (in_c 1 rfl) rfl)) (hp78 _ _ ?_)
                  show GG _ _ _ _ _ _ _ _ [.int (Int32.ofInt 1)] _ _ _
                  refine g_if_eq 28 30 (gd rfl) rfl rfl (fun c90 => ?_) (fun c90 => ?_)
                  · skip
                    exact zn_eq c90 (in_c 1 rfl) rfl
                  · skip
                    refine g_lconst 0 29 (gd rfl) rfl rfl ?_
                    exact g_lreturn (gd rfl) rfl (hP _ _ ⟨(sF s 109 0 (Int32.ofInt 1)), hI85, (Int64.ofInt 0), rfl, rfl⟩)
            · skip
              exact zn_ne c75 (in_c 0 rfl) rfl
          · skip
            have i91 := r_lt1 0 31 c73 i69 i45 rfl
            refine g_iconst 1 13 (gd rfl) rfl rfl ?_
            refine g_goto 17 (gd rfl) rfl ?_
            refine g_ireturn (gd rfl) rfl (nb01 (in_w 0 1 (in_c 1 rfl) rfl)) (hp49 _ _ ?_)
            show GG _ _ _ _ _ _ _ _ [.int (Int32.ofInt 1), .ref (A 109)] _ _ _
            refine g_if_eq 17 21 (gd rfl) rfl rfl (fun c92 => ?_) (fun c92 => ?_)
            · skip
              exact zn_eq c92 (in_c 1 rfl) rfl
            · skip
              refine g_iconst 1 18 (gd rfl) rfl rfl ?_
              refine g_goto 22 (gd rfl) rfl ?_
              refine g_callv (X := _) (As := [.int (Int32.ofInt 1)]) (r := []) (b := A 109) (q := 109) 25 (gd rfl) rfl rfl rfl rfl rfl (ww_o rfl) (Nat.le_of_ble_eq_true rfl) (mc := 0) (ms := 0) (Nat.zero_le _) (Nat.zero_le _) (P := fun v u => _) ?_ (fun e u h => h) (fun v u h => h)
              intro po93 xx94 hp95 hx96
              refine g_enter2 (k := 271) (N := 300) (by omega) rfl (Nat.le_of_ble_eq_true rfl) ?_
              refine g_aload_n 1 (gd rfl) rfl rfl ?_
              refine g_iload_n 2 (gd rfl) rfl rfl ?_
              refine g_iconst 1 3 (gd rfl) rfl rfl ?_
              refine g_callv (X := _) (As := [.int (Int32.ofInt 1), .int (Int32.ofInt 1)]) (r := []) (b := A 109) (q := 109) 6 (gd rfl) rfl rfl rfl rfl rfl (ww_o rfl) (Nat.le_of_ble_eq_true rfl) (mc := 0) (ms := 0) (Nat.zero_le _) (Nat.zero_le _) (P := fun v u => _) ?_ (fun e u h => h) (fun v u h => h)
              intro po97 xx98 hp99 hx100
              refine g_enter2 (k := 270) (N := 300) (by omega) rfl (Nat.le_of_ble_eq_true rfl) ?_
              refine g_aload_n 1 (gd rfl) rfl rfl ?_
              refine g_iload_n 2 (gd rfl) rfl rfl ?_
              refine g_if_ne 5 9 (gd rfl) rfl rfl (fun c101 => ?_) (fun c101 => ?_)
              · skip
                refine g_iload_n 10 (gd rfl) rfl rfl ?_
                refine g_if_ne 13 17 (gd rfl) rfl rfl (fun c102 => ?_) (fun c102 => ?_)
                · skip
                  refine g_iconst 0 18 (gd rfl) rfl rfl ?_
                  refine g_putI 21 (gd rfl) rfl rfl rfl rfl ?_
                  have hI103 := inv_sF (q := 109) (j := 0) hI rfl (in_w 0 2 (in_c 0 rfl) rfl)
                  refine g_aload_n 22 (gd rfl) rfl rfl ?_
                  refine g_getI 25 (gd rfl) rfl rfl rfl (fun z104 e105 => ?_)
                  have q106 : (Int32.ofInt 0) = z104 := (sF_get).trans e105.symm
                  subst q106
                  refine g_if_le 28 32 (gd rfl) rfl rfl (fun c107 => ?_) (fun c107 => ?_)
                  · skip
                    refine g_iconst 0 33 (gd rfl) rfl rfl ?_
                    refine g_ireturn (gd rfl) rfl (nb01 (in_w 0 1 (in_c 0 rfl) rfl)) (hp99 _ _ ?_)
                    show GG _ _ _ _ _ _ _ _ [.int (Int32.ofInt 0)] _ _ _
                    refine g_ireturn (gd rfl) rfl (nb01 (in_w 0 1 (in_c 0 rfl) rfl)) (hp95 _ _ ?_)
                    show GG _ _ _ _ _ _ _ _ [.int (Int32.ofInt 0)] _ _ _
                    refine g_if_eq 28 30 (gd rfl) rfl rfl (fun c108 => ?_) (fun c108 => ?_)
                    · skip
                      refine g_aload_n 31 (gd rfl) rfl rfl ?_
                      refine g_iload_n 32 (gd rfl) rfl rfl ?_
                      refine g_iload_n 33 (gd rfl) rfl rfl ?_
                      refine g_callv (X := _) (As := [.int x1, .int x2]) (r := []) (b := A 109) (q := 109) 36 (gd rfl) rfl rfl rfl rfl rfl (ww_o rfl) (Nat.le_of_ble_eq_true rfl) (Nat.zero_le _) (Nat.zero_le _) (k_314 (by omega) hI103 (in_w 0 31 i44 rfl) (in_w 0 31 i91 rfl)) (fun e u h => h) (fun v u h => ?_)
                      obtain ⟨s109, hI110, z111, rfl, rfl, i112⟩ := h
                      show GG _ _ _ _ _ _ _ _ [.int z111] _ _ _
                      refine g_istore_n 37 (gd rfl) rfl (Nat.le_of_ble_eq_true rfl) ?_
                      refine g_iload_n 38 (gd rfl) rfl rfl ?_
                      refine g_if_ne 41 47 (gd rfl) rfl rfl (fun c113 => ?_) (fun c113 => ?_)
                      · skip
                        refine g_aload_n 48 (gd rfl) rfl rfl ?_
                        refine g_iload_n 49 (gd rfl) rfl rfl ?_
                        refine g_iload_n 50 (gd rfl) rfl rfl ?_
                        refine g_callv (X := _) (As := [.int x2, .int z111]) (r := []) (b := A 109) (q := 109) 53 (gd rfl) rfl rfl rfl rfl rfl (ww_o rfl) (Nat.le_of_ble_eq_true rfl) (Nat.zero_le _) (Nat.zero_le _) (k_312 (by omega) hI110 (in_w 0 31 i91 rfl)) (fun e u h => h) (fun v u h => ?_)
                        obtain ⟨s114, hI115, z116, rfl, rfl, i117⟩ := h
                        show GG _ _ _ _ _ _ _ _ [.int z116] _ _ _
                        refine g_if_eq 56 65 (gd rfl) rfl rfl (fun c118 => ?_) (fun c118 => ?_)
                        · skip
                          have i119 := z_eq 0 0 c118 i117 rfl
                          refine g_ldc2_w 9000000000000001 68 (gd rfl) rfl rfl ?_
                          exact g_lreturn (gd rfl) rfl (hP _ _ ⟨s114, hI115, (Int64.ofInt 9000000000000001), rfl, rfl⟩)
                        · skip
                          have i120 := z_ne 1 1 c118 i117 rfl
                          refine g_aload_n 57 (gd rfl) rfl rfl ?_
                          refine g_getA (q2 := 130) 60 (gd rfl) rfl rfl rfl rfl rfl ?_
                          refine g_iload_n 61 (gd rfl) rfl rfl ?_
                          refine g_laload 62 (gd rfl) rfl (n := 32) rfl (in_ix i44 rfl) (fun z121 e122 => ?_)
                          refine g_goto 68 (gd rfl) rfl ?_
                          exact g_lreturn (gd rfl) rfl (hP _ _ ⟨s114, hI115, z121, rfl, rfl⟩)
                      · skip
                        have i123 := z_eq 0 0 c113 i112 rfl
                        refine g_ldc2_w 9000000000000000 44 (gd rfl) rfl rfl ?_
                        refine g_goto 68 (gd rfl) rfl ?_
                        exact g_lreturn (gd rfl) rfl (hP _ _ ⟨s109, hI110, (Int64.ofInt 9000000000000000), rfl, rfl⟩)
                    · skip
                      exact zn_ne c108 (in_c 0 rfl) rfl
                  · skip
                    exact zn_gt c107 (in_c 0 rfl) rfl
                · skip
                  exact zn_eq c102 (in_c 1 rfl) rfl
              · skip
                exact zn_eq c101 (in_c 1 rfl) rfl
