/-! methods, by vc.py -/
/-- GraphHouseModel.shortest -/
theorem k_371 {Z : AmZ} {A : Nat → Nat} {s : GS} {ex : va_W} {d : Nat} {X : AmX} {x1 : Int32} {x2 : Int32} {x3 : Int32} {x4 : Int32} (hd : 4 ≤ d) (hI : Inv s)  : GC Z d 371 [.ref (A 109), .int x1, .int x2, .int x3, .int x4] (WW Z A s ++ ex) 0 0 (fun v u => ∃ t : GS, Inv t ∧ ∃ z : Int32, v = some (.int z) ∧ u = WW Z A t ++ ex ∧ In z (-2147483648) 2147483647) X := by
  intro post xp hP hX
  have ct151 : ∀ (s : GS) , Inv s → In x1 0 31 → In x2 0 31 → In x3 2 2 → In x4 0 31 → GG Z (d - 1) 371 post (gx xp) (901) 151 (fun j => xlook j [(0, .ref (A 109)), (1, .int x1), (2, .int x2), (3, .int x3), (4, .int x4)]) [] (WW Z A s ++ ex) 0 0 := by
    intro s  hI j151_1 j151_2 j151_3 j151_4
    refine g_iconst 0 152 (gd rfl) rfl rfl ?_
    refine g_istore 154 (gd rfl) rfl (Nat.le_of_ble_eq_true rfl) ?_
    refine g_iload 156 (gd rfl) rfl rfl ?_
    refine g_if_eq 159 182 (gd rfl) rfl rfl (fun c1 => ?_) (fun c1 => ?_)
    · skip
      refine g_iconst 0 183 (gd rfl) rfl rfl ?_
      exact g_ireturn (gd rfl) rfl rfl (hP _ _ ⟨s, hI, (Int32.ofInt 0), rfl, rfl, in_w (-2147483648) 2147483647 (in_c 0 rfl) rfl⟩)
    · skip
      exact zn_ne c1 (in_c 0 rfl) rfl
  refine g_enter2 (k := 371) (N := 1801) (by omega) rfl (Nat.le_of_ble_eq_true rfl) ?_
  refine g_aload_n 1 (gd rfl) rfl rfl ?_
  refine g_aload_n 2 (gd rfl) rfl rfl ?_
  refine g_iload_n 3 (gd rfl) rfl rfl ?_
  refine g_callv (X := _) (As := [.int x1]) (r := [.ref (A 109)]) (b := A 109) (q := 109) 6 (gd rfl) rfl rfl rfl rfl rfl (ww_o rfl) (Nat.le_of_ble_eq_true rfl) (mc := 0) (ms := 0) (Nat.zero_le _) (Nat.zero_le _) (P := fun v u => _) ?_ (fun e u h => h) (fun v u h => h)
  intro po2 xx3 hp4 hx5
  refine g_enter2 (k := 272) (N := 300) (by omega) rfl (Nat.le_of_ble_eq_true rfl) ?_
  refine g_iload_n 1 (gd rfl) rfl rfl ?_
  refine g_if_lt 4 16 (gd rfl) rfl rfl (fun c6 => ?_) (fun c6 => ?_)
  · skip
    have i7 := z_lt (-2147483648) (-1) c6 (i_rng x1) rfl
    refine g_iconst 0 17 (gd rfl) rfl rfl ?_
    refine g_ireturn (gd rfl) rfl (nb01 (in_w 0 1 (in_c 0 rfl) rfl)) (hp4 _ _ ?_)
    show GG _ _ _ _ _ _ _ _ [.int (Int32.ofInt 0), .ref (A 109)] _ _ _
    refine g_if_eq 9 42 (gd rfl) rfl rfl (fun c8 => ?_) (fun c8 => ?_)
    · skip
      refine g_iconst 0 43 (gd rfl) rfl rfl ?_
      refine g_callv (X := _) (As := [.int (Int32.ofInt 0)]) (r := []) (b := A 109) (q := 109) 46 (gd rfl) rfl rfl rfl rfl rfl (ww_o rfl) (Nat.le_of_ble_eq_true rfl) (mc := 0) (ms := 0) (Nat.zero_le _) (Nat.zero_le _) (P := fun v u => _) ?_ (fun e u h => h) (fun v u h => h)
      intro po9 xx10 hp11 hx12
      refine g_enter2 (k := 271) (N := 300) (by omega) rfl (Nat.le_of_ble_eq_true rfl) ?_
      refine g_aload_n 1 (gd rfl) rfl rfl ?_
      refine g_iload_n 2 (gd rfl) rfl rfl ?_
      refine g_iconst 1 3 (gd rfl) rfl rfl ?_
      refine g_callv (X := _) (As := [.int (Int32.ofInt 0), .int (Int32.ofInt 1)]) (r := []) (b := A 109) (q := 109) 6 (gd rfl) rfl rfl rfl rfl rfl (ww_o rfl) (Nat.le_of_ble_eq_true rfl) (mc := 0) (ms := 0) (Nat.zero_le _) (Nat.zero_le _) (P := fun v u => _) ?_ (fun e u h => h) (fun v u h => h)
      intro po13 xx14 hp15 hx16
      refine g_enter2 (k := 270) (N := 300) (by omega) rfl (Nat.le_of_ble_eq_true rfl) ?_
      refine g_aload_n 1 (gd rfl) rfl rfl ?_
      refine g_iload_n 2 (gd rfl) rfl rfl ?_
      refine g_if_ne 5 9 (gd rfl) rfl rfl (fun c17 => ?_) (fun c17 => ?_)
      · skip
        exact zn_ne c17 (in_c 0 rfl) rfl
      · skip
        refine g_iconst 1 6 (gd rfl) rfl rfl ?_
        refine g_goto 18 (gd rfl) rfl ?_
        refine g_putI 21 (gd rfl) rfl rfl rfl rfl ?_
        have hI18 := inv_sF (q := 109) (j := 0) hI rfl (in_w 0 2 (in_c 1 rfl) rfl)
        refine g_aload_n 22 (gd rfl) rfl rfl ?_
        refine g_getI 25 (gd rfl) rfl rfl rfl (fun z19 e20 => ?_)
        have q21 : (Int32.ofInt 1) = z19 := (sF_get).trans e20.symm
        subst q21
        refine g_if_le 28 32 (gd rfl) rfl rfl (fun c22 => ?_) (fun c22 => ?_)
        · skip
          exact zn_le c22 (in_c 1 rfl) rfl
        · skip
          refine g_iconst 1 29 (gd rfl) rfl rfl ?_
          refine g_goto 33 (gd rfl) rfl ?_
          refine g_ireturn (gd rfl) rfl (nb01 (in_w 0 1 (in_c 1 rfl) rfl)) (hp15 _ _ ?_)
          show GG _ _ _ _ _ _ _ _ [.int (Int32.ofInt 1)] _ _ _
          refine g_ireturn (gd rfl) rfl (nb01 (in_w 0 1 (in_c 1 rfl) rfl)) (hp11 _ _ ?_)
          show GG _ _ _ _ _ _ _ _ [.int (Int32.ofInt 1)] _ _ _
          refine g_if_eq 49 51 (gd rfl) rfl rfl (fun c23 => ?_) (fun c23 => ?_)
          · skip
            exact zn_eq c23 (in_c 1 rfl) rfl
          · skip
            refine g_iconst 0 50 (gd rfl) rfl rfl ?_
            exact g_ireturn (gd rfl) rfl rfl (hP _ _ ⟨(sF s 109 0 (Int32.ofInt 1)), hI18, (Int32.ofInt 0), rfl, rfl, in_w (-2147483648) 2147483647 (in_c 0 rfl) rfl⟩)
    · skip
      exact zn_ne c8 (in_c 0 rfl) rfl
  · skip
    have i24 := z_ge 0 2147483647 c6 (i_rng x1) rfl
    refine g_iload_n 5 (gd rfl) rfl rfl ?_
    refine g_aload_n 6 (gd rfl) rfl rfl ?_
    refine g_getI 9 (gd rfl) rfl rfl rfl (fun z25 e26 => ?_)
    have i27 := inv_F hI 0 32 rfl e26
    refine g_cmp_ge 12 16 (gd rfl) rfl rfl (fun c28 => ?_) (fun c28 => ?_)
    · skip
      refine g_iconst 0 17 (gd rfl) rfl rfl ?_
      refine g_ireturn (gd rfl) rfl (nb01 (in_w 0 1 (in_c 0 rfl) rfl)) (hp4 _ _ ?_)
      show GG _ _ _ _ _ _ _ _ [.int (Int32.ofInt 0), .ref (A 109)] _ _ _
      refine g_if_eq 9 42 (gd rfl) rfl rfl (fun c29 => ?_) (fun c29 => ?_)
      · skip
        refine g_iconst 0 43 (gd rfl) rfl rfl ?_
        refine g_callv (X := _) (As := [.int (Int32.ofInt 0)]) (r := []) (b := A 109) (q := 109) 46 (gd rfl) rfl rfl rfl rfl rfl (ww_o rfl) (Nat.le_of_ble_eq_true rfl) (mc := 0) (ms := 0) (Nat.zero_le _) (Nat.zero_le _) (P := fun v u => _) ?_ (fun e u h => h) (fun v u h => h)
        intro po30 xx31 hp32 hx33
        refine g_enter2 (k := 271) (N := 300) (by omega) rfl (Nat.le_of_ble_eq_true rfl) ?_
        refine g_aload_n 1 (gd rfl) rfl rfl ?_
        refine g_iload_n 2 (gd rfl) rfl rfl ?_
        refine g_iconst 1 3 (gd rfl) rfl rfl ?_
        refine g_callv (X := _) (As := [.int (Int32.ofInt 0), .int (Int32.ofInt 1)]) (r := []) (b := A 109) (q := 109) 6 (gd rfl) rfl rfl rfl rfl rfl (ww_o rfl) (Nat.le_of_ble_eq_true rfl) (mc := 0) (ms := 0) (Nat.zero_le _) (Nat.zero_le _) (P := fun v u => _) ?_ (fun e u h => h) (fun v u h => h)
        intro po34 xx35 hp36 hx37
        refine g_enter2 (k := 270) (N := 300) (by omega) rfl (Nat.le_of_ble_eq_true rfl) ?_
        refine g_aload_n 1 (gd rfl) rfl rfl ?_
        refine g_iload_n 2 (gd rfl) rfl rfl ?_
        refine g_if_ne 5 9 (gd rfl) rfl rfl (fun c38 => ?_) (fun c38 => ?_)
        · skip
          exact zn_ne c38 (in_c 0 rfl) rfl
        · skip
          refine g_iconst 1 6 (gd rfl) rfl rfl ?_
          refine g_goto 18 (gd rfl) rfl ?_
          refine g_putI 21 (gd rfl) rfl rfl rfl rfl ?_
          have hI39 := inv_sF (q := 109) (j := 0) hI rfl (in_w 0 2 (in_c 1 rfl) rfl)
          refine g_aload_n 22 (gd rfl) rfl rfl ?_
          refine g_getI 25 (gd rfl) rfl rfl rfl (fun z40 e41 => ?_)
          have q42 : (Int32.ofInt 1) = z40 := (sF_get).trans e41.symm
          subst q42
          refine g_if_le 28 32 (gd rfl) rfl rfl (fun c43 => ?_) (fun c43 => ?_)
          · skip
            exact zn_le c43 (in_c 1 rfl) rfl
          · skip
            refine g_iconst 1 29 (gd rfl) rfl rfl ?_
            refine g_goto 33 (gd rfl) rfl ?_
            refine g_ireturn (gd rfl) rfl (nb01 (in_w 0 1 (in_c 1 rfl) rfl)) (hp36 _ _ ?_)
            show GG _ _ _ _ _ _ _ _ [.int (Int32.ofInt 1)] _ _ _
            refine g_ireturn (gd rfl) rfl (nb01 (in_w 0 1 (in_c 1 rfl) rfl)) (hp32 _ _ ?_)
            show GG _ _ _ _ _ _ _ _ [.int (Int32.ofInt 1)] _ _ _
            refine g_if_eq 49 51 (gd rfl) rfl rfl (fun c44 => ?_) (fun c44 => ?_)
            · skip
              exact zn_eq c44 (in_c 1 rfl) rfl
            · skip
              refine g_iconst 0 50 (gd rfl) rfl rfl ?_
              exact g_ireturn (gd rfl) rfl rfl (hP _ _ ⟨(sF s 109 0 (Int32.ofInt 1)), hI39, (Int32.ofInt 0), rfl, rfl, in_w (-2147483648) 2147483647 (in_c 0 rfl) rfl⟩)
      · skip
        exact zn_ne c29 (in_c 0 rfl) rfl
    · skip
      have i45 := r_lt1 0 31 c28 i24 i27 rfl
      have i46 := r_lt2 1 32 c28 i24 i27 rfl
      refine g_iconst 1 13 (gd rfl) rfl rfl ?_
      refine g_goto 17 (gd rfl) rfl ?_
      refine g_ireturn (gd rfl) rfl (nb01 (in_w 0 1 (in_c 1 rfl) rfl)) (hp4 _ _ ?_)
      show GG _ _ _ _ _ _ _ _ [.int (Int32.ofInt 1), .ref (A 109)] _ _ _
      refine g_if_eq 9 42 (gd rfl) rfl rfl (fun c47 => ?_) (fun c47 => ?_)
      · skip
        exact zn_eq c47 (in_c 1 rfl) rfl
      · skip
        refine g_aload_n 10 (gd rfl) rfl rfl ?_
        refine g_iload_n 11 (gd rfl) rfl rfl ?_
        refine g_callv (X := _) (As := [.int x2]) (r := [.ref (A 109)]) (b := A 109) (q := 109) 14 (gd rfl) rfl rfl rfl rfl rfl (ww_o rfl) (Nat.le_of_ble_eq_true rfl) (mc := 0) (ms := 0) (Nat.zero_le _) (Nat.zero_le _) (P := fun v u => _) ?_ (fun e u h => h) (fun v u h => h)
        intro po48 xx49 hp50 hx51
        refine g_enter2 (k := 272) (N := 300) (by omega) rfl (Nat.le_of_ble_eq_true rfl) ?_
        refine g_iload_n 1 (gd rfl) rfl rfl ?_
        refine g_if_lt 4 16 (gd rfl) rfl rfl (fun c52 => ?_) (fun c52 => ?_)
        · skip
          have i53 := z_lt (-2147483648) (-1) c52 (i_rng x2) rfl
          refine g_iconst 0 17 (gd rfl) rfl rfl ?_
          refine g_ireturn (gd rfl) rfl (nb01 (in_w 0 1 (in_c 0 rfl) rfl)) (hp50 _ _ ?_)
          show GG _ _ _ _ _ _ _ _ [.int (Int32.ofInt 0), .ref (A 109)] _ _ _
          refine g_if_eq 17 42 (gd rfl) rfl rfl (fun c54 => ?_) (fun c54 => ?_)
          · skip
            refine g_iconst 0 43 (gd rfl) rfl rfl ?_
            refine g_callv (X := _) (As := [.int (Int32.ofInt 0)]) (r := []) (b := A 109) (q := 109) 46 (gd rfl) rfl rfl rfl rfl rfl (ww_o rfl) (Nat.le_of_ble_eq_true rfl) (mc := 0) (ms := 0) (Nat.zero_le _) (Nat.zero_le _) (P := fun v u => _) ?_ (fun e u h => h) (fun v u h => h)
            intro po55 xx56 hp57 hx58
            refine g_enter2 (k := 271) (N := 300) (by omega) rfl (Nat.le_of_ble_eq_true rfl) ?_
            refine g_aload_n 1 (gd rfl) rfl rfl ?_
            refine g_iload_n 2 (gd rfl) rfl rfl ?_
            refine g_iconst 1 3 (gd rfl) rfl rfl ?_
            refine g_callv (X := _) (As := [.int (Int32.ofInt 0), .int (Int32.ofInt 1)]) (r := []) (b := A 109) (q := 109) 6 (gd rfl) rfl rfl rfl rfl rfl (ww_o rfl) (Nat.le_of_ble_eq_true rfl) (mc := 0) (ms := 0) (Nat.zero_le _) (Nat.zero_le _) (P := fun v u => _) ?_ (fun e u h => h) (fun v u h => h)
            intro po59 xx60 hp61 hx62
            refine g_enter2 (k := 270) (N := 300) (by omega) rfl (Nat.le_of_ble_eq_true rfl) ?_
            refine g_aload_n 1 (gd rfl) rfl rfl ?_
            refine g_iload_n 2 (gd rfl) rfl rfl ?_
            refine g_if_ne 5 9 (gd rfl) rfl rfl (fun c63 => ?_) (fun c63 => ?_)
            · skip
              exact zn_ne c63 (in_c 0 rfl) rfl
            · skip
              refine g_iconst 1 6 (gd rfl) rfl rfl ?_
              refine g_goto 18 (gd rfl) rfl ?_
              refine g_putI 21 (gd rfl) rfl rfl rfl rfl ?_
              have hI64 := inv_sF (q := 109) (j := 0) hI rfl (in_w 0 2 (in_c 1 rfl) rfl)
              refine g_aload_n 22 (gd rfl) rfl rfl ?_
              refine g_getI 25 (gd rfl) rfl rfl rfl (fun z65 e66 => ?_)
              have q67 : (Int32.ofInt 1) = z65 := (sF_get).trans e66.symm
              subst q67
              refine g_if_le 28 32 (gd rfl) rfl rfl (fun c68 => ?_) (fun c68 => ?_)
              · skip
                exact zn_le c68 (in_c 1 rfl) rfl
              · skip
                refine g_iconst 1 29 (gd rfl) rfl rfl ?_
                refine g_goto 33 (gd rfl) rfl ?_
                refine g_ireturn (gd rfl) rfl (nb01 (in_w 0 1 (in_c 1 rfl) rfl)) (hp61 _ _ ?_)
                show GG _ _ _ _ _ _ _ _ [.int (Int32.ofInt 1)] _ _ _
                refine g_ireturn (gd rfl) rfl (nb01 (in_w 0 1 (in_c 1 rfl) rfl)) (hp57 _ _ ?_)
                show GG _ _ _ _ _ _ _ _ [.int (Int32.ofInt 1)] _ _ _
                refine g_if_eq 49 51 (gd rfl) rfl rfl (fun c69 => ?_) (fun c69 => ?_)
                · skip
                  exact zn_eq c69 (in_c 1 rfl) rfl
                · skip
                  refine g_iconst 0 50 (gd rfl) rfl rfl ?_
                  exact g_ireturn (gd rfl) rfl rfl (hP _ _ ⟨(sF s 109 0 (Int32.ofInt 1)), hI64, (Int32.ofInt 0), rfl, rfl, in_w (-2147483648) 2147483647 (in_c 0 rfl) rfl⟩)
          · skip
            exact zn_ne c54 (in_c 0 rfl) rfl
        · skip
          have i70 := z_ge 0 2147483647 c52 (i_rng x2) rfl
          refine g_iload_n 5 (gd rfl) rfl rfl ?_
          refine g_aload_n 6 (gd rfl) rfl rfl ?_
          refine g_getI 9 (gd rfl) rfl rfl rfl (fun z71 e72 => ?_)
          have q73 : z25 = z71 := (e26).trans e72.symm
          subst q73
          refine g_cmp_ge 12 16 (gd rfl) rfl rfl (fun c74 => ?_) (fun c74 => ?_)
          · skip
            have i75 := r_le2 1 2147483647 c74 i46 i70 rfl
            refine g_iconst 0 17 (gd rfl) rfl rfl ?_
            refine g_ireturn (gd rfl) rfl (nb01 (in_w 0 1 (in_c 0 rfl) rfl)) (hp50 _ _ ?_)
            show GG _ _ _ _ _ _ _ _ [.int (Int32.ofInt 0), .ref (A 109)] _ _ _
            refine g_if_eq 17 42 (gd rfl) rfl rfl (fun c76 => ?_) (fun c76 => ?_)
            · skip
              refine g_iconst 0 43 (gd rfl) rfl rfl ?_
              refine g_callv (X := _) (As := [.int (Int32.ofInt 0)]) (r := []) (b := A 109) (q := 109) 46 (gd rfl) rfl rfl rfl rfl rfl (ww_o rfl) (Nat.le_of_ble_eq_true rfl) (mc := 0) (ms := 0) (Nat.zero_le _) (Nat.zero_le _) (P := fun v u => _) ?_ (fun e u h => h) (fun v u h => h)
              intro po77 xx78 hp79 hx80
              refine g_enter2 (k := 271) (N := 300) (by omega) rfl (Nat.le_of_ble_eq_true rfl) ?_
              refine g_aload_n 1 (gd rfl) rfl rfl ?_
              refine g_iload_n 2 (gd rfl) rfl rfl ?_
              refine g_iconst 1 3 (gd rfl) rfl rfl ?_
              refine g_callv (X := _) (As := [.int (Int32.ofInt 0), .int (Int32.ofInt 1)]) (r := []) (b := A 109) (q := 109) 6 (gd rfl) rfl rfl rfl rfl rfl (ww_o rfl) (Nat.le_of_ble_eq_true rfl) (mc := 0) (ms := 0) (Nat.zero_le _) (Nat.zero_le _) (P := fun v u => _) ?_ (fun e u h => h) (fun v u h => h)
              intro po81 xx82 hp83 hx84
              refine g_enter2 (k := 270) (N := 300) (by omega) rfl (Nat.le_of_ble_eq_true rfl) ?_
              refine g_aload_n 1 (gd rfl) rfl rfl ?_
              refine g_iload_n 2 (gd rfl) rfl rfl ?_
              refine g_if_ne 5 9 (gd rfl) rfl rfl (fun c85 => ?_) (fun c85 => ?_)
              · skip
                exact zn_ne c85 (in_c 0 rfl) rfl
              · skip
                refine g_iconst 1 6 (gd rfl) rfl rfl ?_
                refine g_goto 18 (gd rfl) rfl ?_
                refine g_putI 21 (gd rfl) rfl rfl rfl rfl ?_
                have hI86 := inv_sF (q := 109) (j := 0) hI rfl (in_w 0 2 (in_c 1 rfl) rfl)
                refine g_aload_n 22 (gd rfl) rfl rfl ?_
                refine g_getI 25 (gd rfl) rfl rfl rfl (fun z87 e88 => ?_)
                have q89 : (Int32.ofInt 1) = z87 := (sF_get).trans e88.symm
                subst q89
                refine g_if_le 28 32 (gd rfl) rfl rfl (fun c90 => ?_) (fun c90 => ?_)
                · skip
                  exact zn_le c90 (in_c 1 rfl) rfl
                · skip
                  refine g_iconst 1 29 (gd rfl) rfl rfl ?_
                  refine g_goto 33 (gd rfl) rfl ?_
                  refine g_ireturn (gd rfl) rfl (nb01 (in_w 0 1 (in_c 1 rfl) rfl)) (hp83 _ _ ?_)
                  show GG _ _ _ _ _ _ _ _ [.int (Int32.ofInt 1)] _ _ _
                  refine g_ireturn (gd rfl) rfl (nb01 (in_w 0 1 (in_c 1 rfl) rfl)) (hp79 _ _ ?_)
                  show GG _ _ _ _ _ _ _ _ [.int (Int32.ofInt 1)] _ _ _
                  refine g_if_eq 49 51 (gd rfl) rfl rfl (fun c91 => ?_) (fun c91 => ?_)
                  · skip
                    exact zn_eq c91 (in_c 1 rfl) rfl
                  · skip
                    refine g_iconst 0 50 (gd rfl) rfl rfl ?_
                    exact g_ireturn (gd rfl) rfl rfl (hP _ _ ⟨(sF s 109 0 (Int32.ofInt 1)), hI86, (Int32.ofInt 0), rfl, rfl, in_w (-2147483648) 2147483647 (in_c 0 rfl) rfl⟩)
            · skip
              exact zn_ne c76 (in_c 0 rfl) rfl
          · skip
            have i92 := r_lt1 0 31 c74 i70 i46 rfl
            refine g_iconst 1 13 (gd rfl) rfl rfl ?_
            refine g_goto 17 (gd rfl) rfl ?_
            refine g_ireturn (gd rfl) rfl (nb01 (in_w 0 1 (in_c 1 rfl) rfl)) (hp50 _ _ ?_)
            show GG _ _ _ _ _ _ _ _ [.int (Int32.ofInt 1), .ref (A 109)] _ _ _
            refine g_if_eq 17 42 (gd rfl) rfl rfl (fun c93 => ?_) (fun c93 => ?_)
            · skip
              exact zn_eq c93 (in_c 1 rfl) rfl
            · skip
              refine g_iload_n 18 (gd rfl) rfl rfl ?_
              refine g_i2l 19 (gd rfl) rfl (fun z94 e95 => ?_)
              have i96 := l_i e95 (i_rng x3)
              refine g_lconst 0 20 (gd rfl) rfl rfl ?_
              refine g_ldc2_w 2 23 (gd rfl) rfl rfl ?_
              refine g_calls (As := [.long z94, .long (Int64.ofInt 0), .long (Int64.ofInt 2)]) (r := [.ref (A 109)]) 26 (gd rfl) rfl rfl rfl rfl rfl (Nat.le_of_ble_eq_true rfl) (mc := 0) (ms := 0) (Nat.zero_le _) (Nat.zero_le _) (P := fun v u => _) ?_ (fun v u h => h)
              intro po97 xx98 hp99 hx100
              refine g_enter2 (k := 269) (N := 300) (by omega) rfl (Nat.le_of_ble_eq_true rfl) ?_
              refine g_lload_n 1 (gd rfl) rfl rfl ?_
              refine g_lload_n 2 (gd rfl) rfl rfl ?_
              refine g_lcmp 3 (gd rfl) rfl (fun z101 e102 => ?_)
              have i103 := lc_in e102
              refine g_if_lt 6 17 (gd rfl) rfl rfl (fun c104 => ?_) (fun c104 => ?_)
              · skip
                have i105 := z_lt (-1) (-1) c104 i103 rfl
                have c106 := lc_lt e102 c104
                have i107 := lr_lt1 (-2147483648) (-1) c106 i96 (l_c 0 rfl) rfl
                have i108 := l_b e95 i107
                refine g_iconst 0 18 (gd rfl) rfl rfl ?_
                refine g_ireturn (gd rfl) rfl (nb01 (in_w 0 1 (in_c 0 rfl) rfl)) (hp99 _ _ ?_)
                show GG _ _ _ _ _ _ _ _ [.int (Int32.ofInt 0), .ref (A 109)] _ _ _
                refine g_if_eq 29 42 (gd rfl) rfl rfl (fun c109 => ?_) (fun c109 => ?_)
                · skip
                  refine g_iconst 0 43 (gd rfl) rfl rfl ?_
                  refine g_callv (X := _) (As := [.int (Int32.ofInt 0)]) (r := []) (b := A 109) (q := 109) 46 (gd rfl) rfl rfl rfl rfl rfl (ww_o rfl) (Nat.le_of_ble_eq_true rfl) (mc := 0) (ms := 0) (Nat.zero_le _) (Nat.zero_le _) (P := fun v u => _) ?_ (fun e u h => h) (fun v u h => h)
                  intro po110 xx111 hp112 hx113
                  refine g_enter2 (k := 271) (N := 300) (by omega) rfl (Nat.le_of_ble_eq_true rfl) ?_
                  refine g_aload_n 1 (gd rfl) rfl rfl ?_
                  refine g_iload_n 2 (gd rfl) rfl rfl ?_
                  refine g_iconst 1 3 (gd rfl) rfl rfl ?_
                  refine g_callv (X := _) (As := [.int (Int32.ofInt 0), .int (Int32.ofInt 1)]) (r := []) (b := A 109) (q := 109) 6 (gd rfl) rfl rfl rfl rfl rfl (ww_o rfl) (Nat.le_of_ble_eq_true rfl) (mc := 0) (ms := 0) (Nat.zero_le _) (Nat.zero_le _) (P := fun v u => _) ?_ (fun e u h => h) (fun v u h => h)
                  intro po114 xx115 hp116 hx117
                  refine g_enter2 (k := 270) (N := 300) (by omega) rfl (Nat.le_of_ble_eq_true rfl) ?_
                  refine g_aload_n 1 (gd rfl) rfl rfl ?_
                  refine g_iload_n 2 (gd rfl) rfl rfl ?_
                  refine g_if_ne 5 9 (gd rfl) rfl rfl (fun c118 => ?_) (fun c118 => ?_)
                  · skip
                    exact zn_ne c118 (in_c 0 rfl) rfl
                  · skip
                    refine g_iconst 1 6 (gd rfl) rfl rfl ?_
                    refine g_goto 18 (gd rfl) rfl ?_
                    refine g_putI 21 (gd rfl) rfl rfl rfl rfl ?_
                    have hI119 := inv_sF (q := 109) (j := 0) hI rfl (in_w 0 2 (in_c 1 rfl) rfl)
                    refine g_aload_n 22 (gd rfl) rfl rfl ?_
                    refine g_getI 25 (gd rfl) rfl rfl rfl (fun z120 e121 => ?_)
                    have q122 : (Int32.ofInt 1) = z120 := (sF_get).trans e121.symm
                    subst q122
                    refine g_if_le 28 32 (gd rfl) rfl rfl (fun c123 => ?_) (fun c123 => ?_)
                    · skip
                      exact zn_le c123 (in_c 1 rfl) rfl
                    · skip
                      refine g_iconst 1 29 (gd rfl) rfl rfl ?_
                      refine g_goto 33 (gd rfl) rfl ?_
                      refine g_ireturn (gd rfl) rfl (nb01 (in_w 0 1 (in_c 1 rfl) rfl)) (hp116 _ _ ?_)
                      show GG _ _ _ _ _ _ _ _ [.int (Int32.ofInt 1)] _ _ _
                      refine g_ireturn (gd rfl) rfl (nb01 (in_w 0 1 (in_c 1 rfl) rfl)) (hp112 _ _ ?_)
                      show GG _ _ _ _ _ _ _ _ [.int (Int32.ofInt 1)] _ _ _
                      refine g_if_eq 49 51 (gd rfl) rfl rfl (fun c124 => ?_) (fun c124 => ?_)
                      · skip
                        exact zn_eq c124 (in_c 1 rfl) rfl
                      · skip
                        refine g_iconst 0 50 (gd rfl) rfl rfl ?_
                        exact g_ireturn (gd rfl) rfl rfl (hP _ _ ⟨(sF s 109 0 (Int32.ofInt 1)), hI119, (Int32.ofInt 0), rfl, rfl, in_w (-2147483648) 2147483647 (in_c 0 rfl) rfl⟩)
                · skip
                  exact zn_ne c109 (in_c 0 rfl) rfl
              · skip
                have i125 := z_ge 0 1 c104 i103 rfl
                have c126 := lc_ge e102 c104
                have i127 := lr_le2 0 2147483647 c126 (l_c 0 rfl) i96 rfl
                have i128 := l_b e95 i127
                refine g_lload_n 7 (gd rfl) rfl rfl ?_
                refine g_lload 9 (gd rfl) rfl rfl ?_
                refine g_lcmp 10 (gd rfl) rfl (fun z129 e130 => ?_)
                have i131 := lc_in e130
                refine g_if_gt 13 17 (gd rfl) rfl rfl (fun c132 => ?_) (fun c132 => ?_)
                · skip
                  have i133 := z_gt 1 1 c132 i131 rfl
                  have c134 := lc_gt e130 c132
                  have i135 := lr_lt2 3 2147483647 c134 (l_c 2 rfl) i127 rfl
                  have i136 := l_b e95 i135
                  refine g_iconst 0 18 (gd rfl) rfl rfl ?_
                  refine g_ireturn (gd rfl) rfl (nb01 (in_w 0 1 (in_c 0 rfl) rfl)) (hp99 _ _ ?_)
                  show GG _ _ _ _ _ _ _ _ [.int (Int32.ofInt 0), .ref (A 109)] _ _ _
                  refine g_if_eq 29 42 (gd rfl) rfl rfl (fun c137 => ?_) (fun c137 => ?_)
                  · skip
                    refine g_iconst 0 43 (gd rfl) rfl rfl ?_
                    refine g_callv (X := _) (As := [.int (Int32.ofInt 0)]) (r := []) (b := A 109) (q := 109) 46 (gd rfl) rfl rfl rfl rfl rfl (ww_o rfl) (Nat.le_of_ble_eq_true rfl) (mc := 0) (ms := 0) (Nat.zero_le _) (Nat.zero_le _) (P := fun v u => _) ?_ (fun e u h => h) (fun v u h => h)
                    intro po138 xx139 hp140 hx141
                    refine g_enter2 (k := 271) (N := 300) (by omega) rfl (Nat.le_of_ble_eq_true rfl) ?_
                    refine g_aload_n 1 (gd rfl) rfl rfl ?_
                    refine g_iload_n 2 (gd rfl) rfl rfl ?_
                    refine g_iconst 1 3 (gd rfl) rfl rfl ?_
                    refine g_callv (X := _) (As := [.int (Int32.ofInt 0), .int (Int32.ofInt 1)]) (r := []) (b := A 109) (q := 109) 6 (gd rfl) rfl rfl rfl rfl rfl (ww_o rfl) (Nat.le_of_ble_eq_true rfl) (mc := 0) (ms := 0) (Nat.zero_le _) (Nat.zero_le _) (P := fun v u => _) ?_ (fun e u h => h) (fun v u h => h)
                    intro po142 xx143 hp144 hx145
                    refine g_enter2 (k := 270) (N := 300) (by omega) rfl (Nat.le_of_ble_eq_true rfl) ?_
                    refine g_aload_n 1 (gd rfl) rfl rfl ?_
                    refine g_iload_n 2 (gd rfl) rfl rfl ?_
                    refine g_if_ne 5 9 (gd rfl) rfl rfl (fun c146 => ?_) (fun c146 => ?_)
                    · skip
                      exact zn_ne c146 (in_c 0 rfl) rfl
                    · skip
                      refine g_iconst 1 6 (gd rfl) rfl rfl ?_
                      refine g_goto 18 (gd rfl) rfl ?_
                      refine g_putI 21 (gd rfl) rfl rfl rfl rfl ?_
                      have hI147 := inv_sF (q := 109) (j := 0) hI rfl (in_w 0 2 (in_c 1 rfl) rfl)
                      refine g_aload_n 22 (gd rfl) rfl rfl ?_
                      refine g_getI 25 (gd rfl) rfl rfl rfl (fun z148 e149 => ?_)
                      have q150 : (Int32.ofInt 1) = z148 := (sF_get).trans e149.symm
                      subst q150
                      refine g_if_le 28 32 (gd rfl) rfl rfl (fun c151 => ?_) (fun c151 => ?_)
                      · skip
                        exact zn_le c151 (in_c 1 rfl) rfl
                      · skip
                        refine g_iconst 1 29 (gd rfl) rfl rfl ?_
                        refine g_goto 33 (gd rfl) rfl ?_
                        refine g_ireturn (gd rfl) rfl (nb01 (in_w 0 1 (in_c 1 rfl) rfl)) (hp144 _ _ ?_)
                        show GG _ _ _ _ _ _ _ _ [.int (Int32.ofInt 1)] _ _ _
                        refine g_ireturn (gd rfl) rfl (nb01 (in_w 0 1 (in_c 1 rfl) rfl)) (hp140 _ _ ?_)
                        show GG _ _ _ _ _ _ _ _ [.int (Int32.ofInt 1)] _ _ _
                        refine g_if_eq 49 51 (gd rfl) rfl rfl (fun c152 => ?_) (fun c152 => ?_)
                        · skip
                          exact zn_eq c152 (in_c 1 rfl) rfl
                        · skip
                          refine g_iconst 0 50 (gd rfl) rfl rfl ?_
                          exact g_ireturn (gd rfl) rfl rfl (hP _ _ ⟨(sF s 109 0 (Int32.ofInt 1)), hI147, (Int32.ofInt 0), rfl, rfl, in_w (-2147483648) 2147483647 (in_c 0 rfl) rfl⟩)
                  · skip
                    exact zn_ne c137 (in_c 0 rfl) rfl
                · skip
                  have i153 := z_le (-1) 0 c132 i131 rfl
                  have c154 := lc_le e130 c132
                  have i155 := lr_le1 0 2 c154 i127 (l_c 2 rfl) rfl
                  have i156 := l_b e95 i155
                  refine g_iconst 1 14 (gd rfl) rfl rfl ?_
                  refine g_goto 18 (gd rfl) rfl ?_
                  refine g_ireturn (gd rfl) rfl (nb01 (in_w 0 1 (in_c 1 rfl) rfl)) (hp99 _ _ ?_)
                  show GG _ _ _ _ _ _ _ _ [.int (Int32.ofInt 1), .ref (A 109)] _ _ _
                  refine g_if_eq 29 42 (gd rfl) rfl rfl (fun c157 => ?_) (fun c157 => ?_)
                  · skip
                    exact zn_eq c157 (in_c 1 rfl) rfl
                  · skip
                    refine g_aload_n 30 (gd rfl) rfl rfl ?_
                    refine g_iload 32 (gd rfl) rfl rfl ?_
                    refine g_callv (X := _) (As := [.int x4]) (r := [.ref (A 109)]) (b := A 109) (q := 109) 35 (gd rfl) rfl rfl rfl rfl rfl (ww_o rfl) (Nat.le_of_ble_eq_true rfl) (mc := 0) (ms := 0) (Nat.zero_le _) (Nat.zero_le _) (P := fun v u => _) ?_ (fun e u h => h) (fun v u h => h)
                    intro po158 xx159 hp160 hx161
                    refine g_enter2 (k := 272) (N := 300) (by omega) rfl (Nat.le_of_ble_eq_true rfl) ?_
                    refine g_iload_n 1 (gd rfl) rfl rfl ?_
                    refine g_if_lt 4 16 (gd rfl) rfl rfl (fun c162 => ?_) (fun c162 => ?_)
                    · skip
                      have i163 := z_lt (-2147483648) (-1) c162 (i_rng x4) rfl
                      refine g_iconst 0 17 (gd rfl) rfl rfl ?_
                      refine g_ireturn (gd rfl) rfl (nb01 (in_w 0 1 (in_c 0 rfl) rfl)) (hp160 _ _ ?_)
                      show GG _ _ _ _ _ _ _ _ [.int (Int32.ofInt 0), .ref (A 109)] _ _ _
                      refine g_if_eq 38 42 (gd rfl) rfl rfl (fun c164 => ?_) (fun c164 => ?_)
                      · skip
                        refine g_iconst 0 43 (gd rfl) rfl rfl ?_
                        refine g_callv (X := _) (As := [.int (Int32.ofInt 0)]) (r := []) (b := A 109) (q := 109) 46 (gd rfl) rfl rfl rfl rfl rfl (ww_o rfl) (Nat.le_of_ble_eq_true rfl) (mc := 0) (ms := 0) (Nat.zero_le _) (Nat.zero_le _) (P := fun v u => _) ?_ (fun e u h => h) (fun v u h => h)
                        intro po165 xx166 hp167 hx168
                        refine g_enter2 (k := 271) (N := 300) (by omega) rfl (Nat.le_of_ble_eq_true rfl) ?_
                        refine g_aload_n 1 (gd rfl) rfl rfl ?_
                        refine g_iload_n 2 (gd rfl) rfl rfl ?_
                        refine g_iconst 1 3 (gd rfl) rfl rfl ?_
                        refine g_callv (X := _) (As := [.int (Int32.ofInt 0), .int (Int32.ofInt 1)]) (r := []) (b := A 109) (q := 109) 6 (gd rfl) rfl rfl rfl rfl rfl (ww_o rfl) (Nat.le_of_ble_eq_true rfl) (mc := 0) (ms := 0) (Nat.zero_le _) (Nat.zero_le _) (P := fun v u => _) ?_ (fun e u h => h) (fun v u h => h)
                        intro po169 xx170 hp171 hx172
                        refine g_enter2 (k := 270) (N := 300) (by omega) rfl (Nat.le_of_ble_eq_true rfl) ?_
                        refine g_aload_n 1 (gd rfl) rfl rfl ?_
                        refine g_iload_n 2 (gd rfl) rfl rfl ?_
                        refine g_if_ne 5 9 (gd rfl) rfl rfl (fun c173 => ?_) (fun c173 => ?_)
                        · skip
                          exact zn_ne c173 (in_c 0 rfl) rfl
                        · skip
                          refine g_iconst 1 6 (gd rfl) rfl rfl ?_
                          refine g_goto 18 (gd rfl) rfl ?_
                          refine g_putI 21 (gd rfl) rfl rfl rfl rfl ?_
                          have hI174 := inv_sF (q := 109) (j := 0) hI rfl (in_w 0 2 (in_c 1 rfl) rfl)
                          refine g_aload_n 22 (gd rfl) rfl rfl ?_
                          refine g_getI 25 (gd rfl) rfl rfl rfl (fun z175 e176 => ?_)
                          have q177 : (Int32.ofInt 1) = z175 := (sF_get).trans e176.symm
                          subst q177
                          refine g_if_le 28 32 (gd rfl) rfl rfl (fun c178 => ?_) (fun c178 => ?_)
                          · skip
                            exact zn_le c178 (in_c 1 rfl) rfl
                          · skip
                            refine g_iconst 1 29 (gd rfl) rfl rfl ?_
                            refine g_goto 33 (gd rfl) rfl ?_
                            refine g_ireturn (gd rfl) rfl (nb01 (in_w 0 1 (in_c 1 rfl) rfl)) (hp171 _ _ ?_)
                            show GG _ _ _ _ _ _ _ _ [.int (Int32.ofInt 1)] _ _ _
                            refine g_ireturn (gd rfl) rfl (nb01 (in_w 0 1 (in_c 1 rfl) rfl)) (hp167 _ _ ?_)
                            show GG _ _ _ _ _ _ _ _ [.int (Int32.ofInt 1)] _ _ _
                            refine g_if_eq 49 51 (gd rfl) rfl rfl (fun c179 => ?_) (fun c179 => ?_)
                            · skip
                              exact zn_eq c179 (in_c 1 rfl) rfl
                            · skip
                              refine g_iconst 0 50 (gd rfl) rfl rfl ?_
                              exact g_ireturn (gd rfl) rfl rfl (hP _ _ ⟨(sF s 109 0 (Int32.ofInt 1)), hI174, (Int32.ofInt 0), rfl, rfl, in_w (-2147483648) 2147483647 (in_c 0 rfl) rfl⟩)
                      · skip
                        exact zn_ne c164 (in_c 0 rfl) rfl
                    · skip
                      have i180 := z_ge 0 2147483647 c162 (i_rng x4) rfl
                      refine g_iload_n 5 (gd rfl) rfl rfl ?_
                      refine g_aload_n 6 (gd rfl) rfl rfl ?_
                      refine g_getI 9 (gd rfl) rfl rfl rfl (fun z181 e182 => ?_)
                      have q183 : z25 = z181 := (e26).trans e182.symm
                      subst q183
                      refine g_cmp_ge 12 16 (gd rfl) rfl rfl (fun c184 => ?_) (fun c184 => ?_)
                      · skip
                        have i185 := r_le2 1 2147483647 c184 i46 i180 rfl
                        refine g_iconst 0 17 (gd rfl) rfl rfl ?_
                        refine g_ireturn (gd rfl) rfl (nb01 (in_w 0 1 (in_c 0 rfl) rfl)) (hp160 _ _ ?_)
                        show GG _ _ _ _ _ _ _ _ [.int (Int32.ofInt 0), .ref (A 109)] _ _ _
                        refine g_if_eq 38 42 (gd rfl) rfl rfl (fun c186 => ?_) (fun c186 => ?_)
                        · skip
                          refine g_iconst 0 43 (gd rfl) rfl rfl ?_
                          refine g_callv (X := _) (As := [.int (Int32.ofInt 0)]) (r := []) (b := A 109) (q := 109) 46 (gd rfl) rfl rfl rfl rfl rfl (ww_o rfl) (Nat.le_of_ble_eq_true rfl) (mc := 0) (ms := 0) (Nat.zero_le _) (Nat.zero_le _) (P := fun v u => _) ?_ (fun e u h => h) (fun v u h => h)
                          intro po187 xx188 hp189 hx190
                          refine g_enter2 (k := 271) (N := 300) (by omega) rfl (Nat.le_of_ble_eq_true rfl) ?_
                          refine g_aload_n 1 (gd rfl) rfl rfl ?_
                          refine g_iload_n 2 (gd rfl) rfl rfl ?_
                          refine g_iconst 1 3 (gd rfl) rfl rfl ?_
                          refine g_callv (X := _) (As := [.int (Int32.ofInt 0), .int (Int32.ofInt 1)]) (r := []) (b := A 109) (q := 109) 6 (gd rfl) rfl rfl rfl rfl rfl (ww_o rfl) (Nat.le_of_ble_eq_true rfl) (mc := 0) (ms := 0) (Nat.zero_le _) (Nat.zero_le _) (P := fun v u => _) ?_ (fun e u h => h) (fun v u h => h)
                          intro po191 xx192 hp193 hx194
                          refine g_enter2 (k := 270) (N := 300) (by omega) rfl (Nat.le_of_ble_eq_true rfl) ?_
                          refine g_aload_n 1 (gd rfl) rfl rfl ?_
                          refine g_iload_n 2 (gd rfl) rfl rfl ?_
                          refine g_if_ne 5 9 (gd rfl) rfl rfl (fun c195 => ?_) (fun c195 => ?_)
                          · skip
                            exact zn_ne c195 (in_c 0 rfl) rfl
                          · skip
                            refine g_iconst 1 6 (gd rfl) rfl rfl ?_
                            refine g_goto 18 (gd rfl) rfl ?_
                            refine g_putI 21 (gd rfl) rfl rfl rfl rfl ?_
                            have hI196 := inv_sF (q := 109) (j := 0) hI rfl (in_w 0 2 (in_c 1 rfl) rfl)
                            refine g_aload_n 22 (gd rfl) rfl rfl ?_
                            refine g_getI 25 (gd rfl) rfl rfl rfl (fun z197 e198 => ?_)
                            have q199 : (Int32.ofInt 1) = z197 := (sF_get).trans e198.symm
                            subst q199
                            refine g_if_le 28 32 (gd rfl) rfl rfl (fun c200 => ?_) (fun c200 => ?_)
                            · skip
                              exact zn_le c200 (in_c 1 rfl) rfl
                            · skip
                              refine g_iconst 1 29 (gd rfl) rfl rfl ?_
                              refine g_goto 33 (gd rfl) rfl ?_
                              refine g_ireturn (gd rfl) rfl (nb01 (in_w 0 1 (in_c 1 rfl) rfl)) (hp193 _ _ ?_)
                              show GG _ _ _ _ _ _ _ _ [.int (Int32.ofInt 1)] _ _ _
                              refine g_ireturn (gd rfl) rfl (nb01 (in_w 0 1 (in_c 1 rfl) rfl)) (hp189 _ _ ?_)
                              show GG _ _ _ _ _ _ _ _ [.int (Int32.ofInt 1)] _ _ _
                              refine g_if_eq 49 51 (gd rfl) rfl rfl (fun c201 => ?_) (fun c201 => ?_)
                              · skip
                                exact zn_eq c201 (in_c 1 rfl) rfl
                              · skip
                                refine g_iconst 0 50 (gd rfl) rfl rfl ?_
                                exact g_ireturn (gd rfl) rfl rfl (hP _ _ ⟨(sF s 109 0 (Int32.ofInt 1)), hI196, (Int32.ofInt 0), rfl, rfl, in_w (-2147483648) 2147483647 (in_c 0 rfl) rfl⟩)
                        · skip
                          exact zn_ne c186 (in_c 0 rfl) rfl
                      · skip
                        have i202 := r_lt1 0 31 c184 i180 i46 rfl
                        refine g_iconst 1 13 (gd rfl) rfl rfl ?_
                        refine g_goto 17 (gd rfl) rfl ?_
                        refine g_ireturn (gd rfl) rfl (nb01 (in_w 0 1 (in_c 1 rfl) rfl)) (hp160 _ _ ?_)
                        show GG _ _ _ _ _ _ _ _ [.int (Int32.ofInt 1), .ref (A 109)] _ _ _
                        refine g_if_eq 38 42 (gd rfl) rfl rfl (fun c203 => ?_) (fun c203 => ?_)
                        · skip
                          exact zn_eq c203 (in_c 1 rfl) rfl
                        · skip
                          refine g_iconst 1 39 (gd rfl) rfl rfl ?_
                          refine g_goto 43 (gd rfl) rfl ?_
                          refine g_callv (X := _) (As := [.int (Int32.ofInt 1)]) (r := []) (b := A 109) (q := 109) 46 (gd rfl) rfl rfl rfl rfl rfl (ww_o rfl) (Nat.le_of_ble_eq_true rfl) (mc := 0) (ms := 0) (Nat.zero_le _) (Nat.zero_le _) (P := fun v u => _) ?_ (fun e u h => h) (fun v u h => h)
                          intro po204 xx205 hp206 hx207
                          refine g_enter2 (k := 271) (N := 300) (by omega) rfl (Nat.le_of_ble_eq_true rfl) ?_
                          refine g_aload_n 1 (gd rfl) rfl rfl ?_
                          refine g_iload_n 2 (gd rfl) rfl rfl ?_
                          refine g_iconst 1 3 (gd rfl) rfl rfl ?_
                          refine g_callv (X := _) (As := [.int (Int32.ofInt 1), .int (Int32.ofInt 1)]) (r := []) (b := A 109) (q := 109) 6 (gd rfl) rfl rfl rfl rfl rfl (ww_o rfl) (Nat.le_of_ble_eq_true rfl) (mc := 0) (ms := 0) (Nat.zero_le _) (Nat.zero_le _) (P := fun v u => _) ?_ (fun e u h => h) (fun v u h => h)
                          intro po208 xx209 hp210 hx211
                          refine g_enter2 (k := 270) (N := 300) (by omega) rfl (Nat.le_of_ble_eq_true rfl) ?_
                          refine g_aload_n 1 (gd rfl) rfl rfl ?_
                          refine g_iload_n 2 (gd rfl) rfl rfl ?_
                          refine g_if_ne 5 9 (gd rfl) rfl rfl (fun c212 => ?_) (fun c212 => ?_)
                          · skip
                            refine g_iload_n 10 (gd rfl) rfl rfl ?_
                            refine g_if_ne 13 17 (gd rfl) rfl rfl (fun c213 => ?_) (fun c213 => ?_)
                            · skip
                              refine g_iconst 0 18 (gd rfl) rfl rfl ?_
                              refine g_putI 21 (gd rfl) rfl rfl rfl rfl ?_
                              have hI214 := inv_sF (q := 109) (j := 0) hI rfl (in_w 0 2 (in_c 0 rfl) rfl)
                              refine g_aload_n 22 (gd rfl) rfl rfl ?_
                              refine g_getI 25 (gd rfl) rfl rfl rfl (fun z215 e216 => ?_)
                              have q217 : (Int32.ofInt 0) = z215 := (sF_get).trans e216.symm
                              subst q217
                              refine g_if_le 28 32 (gd rfl) rfl rfl (fun c218 => ?_) (fun c218 => ?_)
                              · skip
                                refine g_iconst 0 33 (gd rfl) rfl rfl ?_
                                refine g_ireturn (gd rfl) rfl (nb01 (in_w 0 1 (in_c 0 rfl) rfl)) (hp210 _ _ ?_)
                                show GG _ _ _ _ _ _ _ _ [.int (Int32.ofInt 0)] _ _ _
                                refine g_ireturn (gd rfl) rfl (nb01 (in_w 0 1 (in_c 0 rfl) rfl)) (hp206 _ _ ?_)
                                show GG _ _ _ _ _ _ _ _ [.int (Int32.ofInt 0)] _ _ _
                                refine g_if_eq 49 51 (gd rfl) rfl rfl (fun c219 => ?_) (fun c219 => ?_)
                                · skip
                                  refine g_aload_n 52 (gd rfl) rfl rfl ?_
                                  refine g_iload_n 53 (gd rfl) rfl rfl ?_
                                  refine g_iconst 0 54 (gd rfl) rfl rfl ?_
                                  refine g_aload_n 55 (gd rfl) rfl rfl ?_
                                  refine g_getA (q2 := 165) 58 (gd rfl) rfl rfl rfl rfl rfl ?_
                                  refine g_aload_n 59 (gd rfl) rfl rfl ?_
                                  refine g_getA (q2 := 166) 62 (gd rfl) rfl rfl rfl rfl rfl ?_
                                  refine g_callv (X := _) (As := [.int x1, .int (Int32.ofInt 0), .ref (A 165), .ref (A 166)]) (r := []) (b := A 109) (q := 109) 65 (gd rfl) rfl rfl rfl rfl rfl (ww_o rfl) (Nat.le_of_ble_eq_true rfl) (Nat.zero_le _) (Nat.zero_le _) (k_370_109_165_166 (by omega) hI214 (in_w 0 31 i45 rfl) (in_w 0 0 (in_c 0 rfl) rfl)) (fun e u h => h) (fun v u h => ?_)
                                  obtain ⟨s220, hI221, rfl, rfl⟩ := h
                                  show GG _ _ _ _ _ _ _ _ [] _ _ _
                                  refine g_aload_n 66 (gd rfl) rfl rfl ?_
                                  refine g_iload_n 67 (gd rfl) rfl rfl ?_
                                  refine g_iconst 1 68 (gd rfl) rfl rfl ?_
                                  refine g_aload_n 69 (gd rfl) rfl rfl ?_
                                  refine g_getA (q2 := 167) 72 (gd rfl) rfl rfl rfl rfl rfl ?_
                                  refine g_aload_n 73 (gd rfl) rfl rfl ?_
                                  refine g_getA (q2 := 168) 76 (gd rfl) rfl rfl rfl rfl rfl ?_
                                  refine g_callv (X := _) (As := [.int x2, .int (Int32.ofInt 1), .ref (A 167), .ref (A 168)]) (r := []) (b := A 109) (q := 109) 79 (gd rfl) rfl rfl rfl rfl rfl (ww_o rfl) (Nat.le_of_ble_eq_true rfl) (Nat.zero_le _) (Nat.zero_le _) (k_370_109_167_168 (by omega) hI221 (in_w 0 31 i92 rfl) (in_w 1 1 (in_c 1 rfl) rfl)) (fun e u h => h) (fun v u h => ?_)
                                  obtain ⟨s224, hI225, rfl, rfl⟩ := h
                                  show GG _ _ _ _ _ _ _ _ [] _ _ _
                                  refine g_iload_n 80 (gd rfl) rfl rfl ?_
                                  refine g_if_ne 83 90 (gd rfl) rfl rfl (fun c228 => ?_) (fun c228 => ?_)
                                  · skip
                                    have i229 := z_ne 1 2 c228 i156 rfl
                                    refine g_iload_n 91 (gd rfl) rfl rfl ?_
                                    refine g_iconst 1 92 (gd rfl) rfl rfl ?_
                                    refine g_cmp_ne 95 103 (gd rfl) rfl rfl (fun c230 => ?_) (fun c230 => ?_)
                                    · skip
                                      have i231 := r_ne1 2 2 c230 i229 (in_c 1 rfl) rfl
                                      refine g_aload_n 104 (gd rfl) rfl rfl ?_
                                      refine g_getA (q2 := 165) 107 (gd rfl) rfl rfl rfl rfl rfl ?_
                                      refine g_iload 109 (gd rfl) rfl rfl ?_
                                      refine g_iaload 110 (gd rfl) rfl (n := 32) rfl (in_ix i202 rfl) (fun z232 e233 => ?_)
                                      refine g_if_lt 113 151 (gd rfl) rfl rfl (fun c234 => ?_) (fun c234 => ?_)
                                      · skip
                                        have i235 := z_lt (-2147483648) (-1) c234 (i_rng z232) rfl
                                        exact gg_w (by omega) (gg_f (gf_cons rfl (gf_cons rfl (gf_cons rfl (gf_cons rfl (gf_cons rfl gf_nil))))) (ct151 s224  hI225 (in_w 0 31 i45 rfl) (in_w 0 31 i92 rfl) (in_w 2 2 i231 rfl) (in_w 0 31 i202 rfl)))
                                      · skip
                                        have i236 := z_ge 0 2147483647 c234 (i_rng z232) rfl
                                        refine g_aload_n 114 (gd rfl) rfl rfl ?_
                                        refine g_getA (q2 := 167) 117 (gd rfl) rfl rfl rfl rfl rfl ?_
                                        refine g_iload 119 (gd rfl) rfl rfl ?_
                                        refine g_iaload 120 (gd rfl) rfl (n := 32) rfl (in_ix i202 rfl) (fun z237 e238 => ?_)
                                        refine g_if_lt 123 151 (gd rfl) rfl rfl (fun c239 => ?_) (fun c239 => ?_)
                                        · skip
                                          have i240 := z_lt (-2147483648) (-1) c239 (i_rng z237) rfl
                                          exact gg_w (by omega) (gg_f (gf_cons rfl (gf_cons rfl (gf_cons rfl (gf_cons rfl (gf_cons rfl gf_nil))))) (ct151 s224  hI225 (in_w 0 31 i45 rfl) (in_w 0 31 i92 rfl) (in_w 2 2 i231 rfl) (in_w 0 31 i202 rfl)))
                                        · skip
                                          have i241 := z_ge 0 2147483647 c239 (i_rng z237) rfl
                                          refine g_aload_n 124 (gd rfl) rfl rfl ?_
                                          refine g_getA (q2 := 165) 127 (gd rfl) rfl rfl rfl rfl rfl ?_
                                          refine g_iload 129 (gd rfl) rfl rfl ?_
                                          refine g_iaload 130 (gd rfl) rfl (n := 32) rfl (in_ix i202 rfl) (fun z242 e243 => ?_)
                                          have q244 : z232 = z242 := (e233).trans e243.symm
                                          subst q244
                                          refine g_aload_n 131 (gd rfl) rfl rfl ?_
                                          refine g_getA (q2 := 167) 134 (gd rfl) rfl rfl rfl rfl rfl ?_
                                          refine g_iload 136 (gd rfl) rfl rfl ?_
                                          refine g_iaload 137 (gd rfl) rfl (n := 32) rfl (in_ix i202 rfl) (fun z245 e246 => ?_)
                                          have q247 : z237 = z245 := (e238).trans e246.symm
                                          subst q247
                                          refine g_iadd 138 (gd rfl) rfl (fun z248 e249 => ?_)
                                          refine g_aload_n 139 (gd rfl) rfl rfl ?_
                                          refine g_getA (q2 := 165) 142 (gd rfl) rfl rfl rfl rfl rfl ?_
                                          refine g_iload_n 143 (gd rfl) rfl rfl ?_
                                          refine g_iaload 144 (gd rfl) rfl (n := 32) rfl (in_ix i92 rfl) (fun z250 e251 => ?_)
                                          refine g_cmp_ne 147 151 (gd rfl) rfl rfl (fun c252 => ?_) (fun c252 => ?_)
                                          · skip
                                            exact gg_w (by omega) (gg_f (gf_cons rfl (gf_cons rfl (gf_cons rfl (gf_cons rfl (gf_cons rfl gf_nil))))) (ct151 s224  hI225 (in_w 0 31 i45 rfl) (in_w 0 31 i92 rfl) (in_w 2 2 i231 rfl) (in_w 0 31 i202 rfl)))
                                          · skip
                                            refine g_iconst 1 148 (gd rfl) rfl rfl ?_
                                            refine g_goto 152 (gd rfl) rfl ?_
                                            refine g_istore 154 (gd rfl) rfl (Nat.le_of_ble_eq_true rfl) ?_
                                            refine g_iload 156 (gd rfl) rfl rfl ?_
                                            refine g_if_eq 159 182 (gd rfl) rfl rfl (fun c253 => ?_) (fun c253 => ?_)
                                            · skip
                                              exact zn_eq c253 (in_c 1 rfl) rfl
                                            · skip
                                              refine g_aload_n 160 (gd rfl) rfl rfl ?_
                                              refine g_getA (q2 := 166) 163 (gd rfl) rfl rfl rfl rfl rfl ?_
                                              refine g_iload 165 (gd rfl) rfl rfl ?_
                                              refine g_laload 166 (gd rfl) rfl (n := 32) rfl (in_ix i202 rfl) (fun z254 e255 => ?_)
                                              refine g_aload_n 167 (gd rfl) rfl rfl ?_
                                              refine g_getA (q2 := 168) 170 (gd rfl) rfl rfl rfl rfl rfl ?_
                                              refine g_iload 172 (gd rfl) rfl rfl ?_
                                              refine g_laload 173 (gd rfl) rfl (n := 32) rfl (in_ix i202 rfl) (fun z256 e257 => ?_)
                                              refine g_lmul 174 (gd rfl) rfl (fun z258 e259 => ?_)
                                              refine g_ldc2_w 1000000007 177 (gd rfl) rfl rfl ?_
                                              refine g_lrem 178 (gd rfl) rfl (by decide) (fun z260 e261 => ?_)
                                              refine g_l2i 179 (gd rfl) rfl (fun z262 e263 => ?_)
                                              refine g_goto 183 (gd rfl) rfl ?_
                                              exact g_ireturn (gd rfl) rfl rfl (hP _ _ ⟨s224, hI225, z262, rfl, rfl, in_w (-2147483648) 2147483647 (i_rng z262) rfl⟩)
                                    · skip
                                      have i264 := r_eq1 1 1 c230 i229 (in_c 1 rfl) rfl
                                      refine g_aload_n 96 (gd rfl) rfl rfl ?_
                                      refine g_getA (q2 := 166) 99 (gd rfl) rfl rfl rfl rfl rfl ?_
                                      refine g_iload_n 100 (gd rfl) rfl rfl ?_
                                      refine g_laload 101 (gd rfl) rfl (n := 32) rfl (in_ix i92 rfl) (fun z265 e266 => ?_)
                                      refine g_l2i 102 (gd rfl) rfl (fun z267 e268 => ?_)
                                      exact g_ireturn (gd rfl) rfl rfl (hP _ _ ⟨s224, hI225, z267, rfl, rfl, in_w (-2147483648) 2147483647 (i_rng z267) rfl⟩)
                                  · skip
                                    have i269 := z_eq 0 0 c228 i156 rfl
                                    refine g_aload_n 84 (gd rfl) rfl rfl ?_
                                    refine g_getA (q2 := 165) 87 (gd rfl) rfl rfl rfl rfl rfl ?_
                                    refine g_iload_n 88 (gd rfl) rfl rfl ?_
                                    refine g_iaload 89 (gd rfl) rfl (n := 32) rfl (in_ix i92 rfl) (fun z270 e271 => ?_)
                                    exact g_ireturn (gd rfl) rfl rfl (hP _ _ ⟨s224, hI225, z270, rfl, rfl, in_w (-2147483648) 2147483647 (i_rng z270) rfl⟩)
                                · skip
                                  exact zn_ne c219 (in_c 0 rfl) rfl
                              · skip
                                exact zn_gt c218 (in_c 0 rfl) rfl
                            · skip
                              exact zn_eq c213 (in_c 1 rfl) rfl
                          · skip
                            exact zn_eq c212 (in_c 1 rfl) rfl

/-- GraphHouseModel.gainIn -/
theorem k_373 {Z : AmZ} {A : Nat → Nat} {s : GS} {ex : va_W} {d : Nat} {X : AmX} {x1 : Int32} {x2 : Int32} (hd : 3 ≤ d) (hI : Inv s) (h1 : In x1 0 31) : GC Z d 373 [.ref (A 109), .int x1, .int x2] (WW Z A s ++ ex) 0 0 (fun v u => ∃ z : Int64, v = some (.long z) ∧ u = WW Z A s ++ ex) X := by
  intro post xp hP hX
  have ct5 : ∀ (k5 : Nat) (y5_3 : Int64) (y5_5 : Int32), In y5_5 0 32 → 32 - (y5_5).toInt < (k5 : Int) → GG Z (d - 1) 373 post (gx xp) (1 + k5 * 900) 5 (fun j => xlook j [(0, .ref (A 109)), (1, .int x1), (2, .int x2), (3, .long y5_3), (5, .int y5_5)]) [] (WW Z A s ++ ex) 0 0 := by
    intro k5
    induction k5 with
    | zero => intro y5_3 y5_5 j5_5 mm5; exact m_no mm5 j5_5 rfl
    | succ k5 ih5 =>
      intro y5_3 y5_5 j5_5 mm5
      refine gg_w (M := 1 + k5 * 900 + 900) (by omega) ?_
      refine g_iload 7 (gd rfl) rfl rfl ?_
      refine g_aload_n 8 (gd rfl) rfl rfl ?_
      refine g_getI 11 (gd rfl) rfl rfl rfl (fun z1 e2 => ?_)
      have i3 := inv_F hI 0 32 rfl e2
      refine g_cmp_ge 14 51 (gd rfl) rfl rfl (fun c4 => ?_) (fun c4 => ?_)
      · skip
        refine g_lload_n 52 (gd rfl) rfl rfl ?_
        exact g_lreturn (gd rfl) rfl (hP _ _ ⟨y5_3, rfl, rfl⟩)
      · skip
        have i5 := r_lt1 0 31 c4 j5_5 i3 rfl
        have i6 := r_lt2 1 32 c4 j5_5 i3 rfl
        refine g_lload_n 15 (gd rfl) rfl rfl ?_
        refine g_iload 17 (gd rfl) rfl rfl ?_
        refine g_iload_n 18 (gd rfl) rfl rfl ?_
        refine g_cmp_eq 21 42 (gd rfl) rfl rfl (fun c7 => ?_) (fun c7 => ?_)
        · skip
          refine g_lconst 0 43 (gd rfl) rfl rfl ?_
          refine g_ladd 44 (gd rfl) rfl (fun z8 e9 => ?_)
          refine g_lstore_n 45 (gd rfl) rfl (Nat.le_of_ble_eq_true rfl) ?_
          refine g_iinc 48 (gd rfl) rfl rfl (Nat.le_of_ble_eq_true rfl) (fun z10 e11 => ?_)
          have i12 := in_add 1 32 e11 i5 (in_c 1 rfl) rfl rfl
          refine g_goto 5 (gd rfl) rfl ?_
          exact gg_w (by omega) (gg_f (gf_cons rfl (gf_cons rfl (gf_cons rfl (gf_cons rfl (gf_cons rfl gf_nil))))) (ih5  z8 z10  (in_w 0 32 i12 rfl) (m_up mm5 (t_add e11 i5 (in_c 1 rfl) rfl) (in_w 1 1 (in_c 1 rfl) rfl))))
        · skip
          refine g_aload_n 22 (gd rfl) rfl rfl ?_
          refine g_getA (q2 := 169) 25 (gd rfl) rfl rfl rfl rfl rfl ?_
          refine g_iload 27 (gd rfl) rfl rfl ?_
          refine g_iaload 28 (gd rfl) rfl (n := 32) rfl (in_ix i5 rfl) (fun z13 e14 => ?_)
          refine g_iload_n 29 (gd rfl) rfl rfl ?_
          refine g_cmp_ne 32 42 (gd rfl) rfl rfl (fun c15 => ?_) (fun c15 => ?_)
          · skip
            refine g_lconst 0 43 (gd rfl) rfl rfl ?_
            refine g_ladd 44 (gd rfl) rfl (fun z16 e17 => ?_)
            refine g_lstore_n 45 (gd rfl) rfl (Nat.le_of_ble_eq_true rfl) ?_
            refine g_iinc 48 (gd rfl) rfl rfl (Nat.le_of_ble_eq_true rfl) (fun z18 e19 => ?_)
            have i20 := in_add 1 32 e19 i5 (in_c 1 rfl) rfl rfl
            refine g_goto 5 (gd rfl) rfl ?_
            exact gg_w (by omega) (gg_f (gf_cons rfl (gf_cons rfl (gf_cons rfl (gf_cons rfl (gf_cons rfl gf_nil))))) (ih5  z16 z18  (in_w 0 32 i20 rfl) (m_up mm5 (t_add e19 i5 (in_c 1 rfl) rfl) (in_w 1 1 (in_c 1 rfl) rfl))))
          · skip
            refine g_aload_n 33 (gd rfl) rfl rfl ?_
            refine g_iload_n 34 (gd rfl) rfl rfl ?_
            refine g_iload 36 (gd rfl) rfl rfl ?_
            refine g_callv (X := _) (As := [.int x1, .int y5_5]) (r := [.long y5_3]) (b := A 109) (q := 109) 39 (gd rfl) rfl rfl rfl rfl rfl (ww_o rfl) (Nat.le_of_ble_eq_true rfl) (mc := 0) (ms := 0) (Nat.zero_le _) (Nat.zero_le _) (P := fun v u => _) ?_ (fun e u h => h) (fun v u h => h)
            intro po21 xx22 hp23 hx24
            refine g_enter2 (k := 372) (N := 300) (by omega) rfl (Nat.le_of_ble_eq_true rfl) ?_
            refine g_ldc2_w 2 3 (gd rfl) rfl rfl ?_
            refine g_aload_n 4 (gd rfl) rfl rfl ?_
            refine g_getI 7 (gd rfl) rfl rfl rfl (fun z25 e26 => ?_)
            have i27 := inv_F hI 0 160 rfl e26
            refine g_i2l 8 (gd rfl) rfl (fun z28 e29 => ?_)
            have i30 := l_i e29 i27
            refine g_lmul 9 (gd rfl) rfl (fun z31 e32 => ?_)
            refine g_aload_n 10 (gd rfl) rfl rfl ?_
            refine g_getA (q2 := 171) 13 (gd rfl) rfl rfl rfl rfl rfl ?_
            refine g_bipush 32 15 (gd rfl) rfl rfl ?_
            refine g_iload_n 16 (gd rfl) rfl rfl ?_
            refine g_imul 17 (gd rfl) rfl (fun z33 e34 => ?_)
            have i35 := in_mulc 32 0 992 (Or.inl e34) h1 rfl rfl
            refine g_iload_n 18 (gd rfl) rfl rfl ?_
            refine g_iadd 19 (gd rfl) rfl (fun z36 e37 => ?_)
            have i38 := in_add 0 1023 e37 i35 i5 rfl rfl
            refine g_iaload 20 (gd rfl) rfl (n := 1024) rfl (in_ix i38 rfl) (fun z39 e40 => ?_)
            refine g_i2l 21 (gd rfl) rfl (fun z41 e42 => ?_)
            have i43 := l_i e42 (i_rng z39)
            refine g_lmul 22 (gd rfl) rfl (fun z44 e45 => ?_)
            refine g_aload_n 23 (gd rfl) rfl rfl ?_
            refine g_getA (q2 := 170) 26 (gd rfl) rfl rfl rfl rfl rfl ?_
            refine g_iload_n 27 (gd rfl) rfl rfl ?_
            refine g_iaload 28 (gd rfl) rfl (n := 32) rfl (in_ix h1 rfl) (fun z46 e47 => ?_)
            refine g_i2l 29 (gd rfl) rfl (fun z48 e49 => ?_)
            have i50 := l_i e49 (i_rng z46)
            refine g_aload_n 30 (gd rfl) rfl rfl ?_
            refine g_getA (q2 := 170) 33 (gd rfl) rfl rfl rfl rfl rfl ?_
            refine g_iload_n 34 (gd rfl) rfl rfl ?_
            refine g_iaload 35 (gd rfl) rfl (n := 32) rfl (in_ix i5 rfl) (fun z51 e52 => ?_)
            refine g_i2l 36 (gd rfl) rfl (fun z53 e54 => ?_)
            have i55 := l_i e54 (i_rng z51)
            refine g_lmul 37 (gd rfl) rfl (fun z56 e57 => ?_)
            refine g_lsub 38 (gd rfl) rfl (fun z58 e59 => ?_)
            refine g_lreturn (gd rfl) rfl (hp23 _ _ ?_)
            show GG _ _ _ _ _ _ _ _ [.long z58, .long y5_3] _ _ _
            refine g_goto 43 (gd rfl) rfl ?_
            refine g_ladd 44 (gd rfl) rfl (fun z60 e61 => ?_)
            refine g_lstore_n 45 (gd rfl) rfl (Nat.le_of_ble_eq_true rfl) ?_
            refine g_iinc 48 (gd rfl) rfl rfl (Nat.le_of_ble_eq_true rfl) (fun z62 e63 => ?_)
            have i64 := in_add 1 32 e63 i5 (in_c 1 rfl) rfl rfl
            refine g_goto 5 (gd rfl) rfl ?_
            exact gg_w (by omega) (gg_f (gf_cons rfl (gf_cons rfl (gf_cons rfl (gf_cons rfl (gf_cons rfl gf_nil))))) (ih5  z60 z62  (in_w 0 32 i64 rfl) (m_up mm5 (t_add e63 i5 (in_c 1 rfl) rfl) (in_w 1 1 (in_c 1 rfl) rfl))))
  refine g_enter2 (k := 373) (N := 30601) (by omega) rfl (Nat.le_of_ble_eq_true rfl) ?_
  refine g_lconst 0 1 (gd rfl) rfl rfl ?_
  refine g_lstore_n 2 (gd rfl) rfl (Nat.le_of_ble_eq_true rfl) ?_
  refine g_iconst 0 3 (gd rfl) rfl rfl ?_
  refine g_istore 5 (gd rfl) rfl (Nat.le_of_ble_eq_true rfl) ?_
  exact gg_w (by omega) (gg_f (gf_cons rfl (gf_cons rfl (gf_cons rfl (gf_cons rfl (gf_cons rfl gf_nil))))) (ct5 33  (Int64.ofInt 0) (Int32.ofInt 0)  (in_w 0 32 (in_c 0 rfl) rfl) (m_in 33 (in_w 0 32 (in_c 0 rfl) rfl) rfl)))

/-- GraphHouseModel.leastOf -/
theorem k_375 {Z : AmZ} {A : Nat → Nat} {s : GS} {ex : va_W} {d : Nat} {X : AmX} {x1 : Int32} {x2 : Int32} (hd : 1 ≤ d) (hI : Inv s) (h2 : In x2 (-1) 31) : GC Z d 375 [.ref (A 109), .int x1, .int x2] (WW Z A s ++ ex) 0 0 (fun v u => ∃ z : Int32, v = some (.int z) ∧ u = WW Z A s ++ ex ∧ In z 0 40) X := by
  intro post xp hP hX
  have ct11 : ∀ (k11 : Nat) (y11_3 : Int32) (y11_4 : Int32), In y11_3 0 40 → In y11_4 (-1) 31 → (y11_4).toInt - (-1) < (k11 : Int) → GG Z (d - 1) 375 post (gx xp) (1 + k11 * 900) 11 (fun j => xlook j [(0, .ref (A 109)), (1, .int x1), (2, .int x2), (3, .int y11_3), (4, .int y11_4)]) [] (WW Z A s ++ ex) 0 0 := by
    intro k11
    induction k11 with
    | zero => intro y11_3 y11_4 j11_3 j11_4 mm11; exact m_nod mm11 j11_4 rfl
    | succ k11 ih11 =>
      intro y11_3 y11_4 j11_3 j11_4 mm11
      refine gg_w (M := 1 + k11 * 900 + 900) (by omega) ?_
      refine g_iload 13 (gd rfl) rfl rfl ?_
      refine g_if_lt 16 46 (gd rfl) rfl rfl (fun c1 => ?_) (fun c1 => ?_)
      · skip
        have i2 := z_lt (-1) (-1) c1 j11_4 rfl
        refine g_iload_n 47 (gd rfl) rfl rfl ?_
        exact g_ireturn (gd rfl) rfl rfl (hP _ _ ⟨y11_3, rfl, rfl, in_w 0 40 j11_3 rfl⟩)
      · skip
        have i3 := z_ge 0 31 c1 j11_4 rfl
        refine g_aload_n 17 (gd rfl) rfl rfl ?_
        refine g_getA (q2 := 169) 20 (gd rfl) rfl rfl rfl rfl rfl ?_
        refine g_iload 22 (gd rfl) rfl rfl ?_
        refine g_iaload 23 (gd rfl) rfl (n := 32) rfl (in_ix i3 rfl) (fun z4 e5 => ?_)
        refine g_iload_n 24 (gd rfl) rfl rfl ?_
        refine g_cmp_ne 27 38 (gd rfl) rfl rfl (fun c6 => ?_) (fun c6 => ?_)
        · skip
          refine g_iload_n 39 (gd rfl) rfl rfl ?_
          refine g_istore_n 40 (gd rfl) rfl (Nat.le_of_ble_eq_true rfl) ?_
          refine g_iinc 43 (gd rfl) rfl rfl (Nat.le_of_ble_eq_true rfl) (fun z7 e8 => ?_)
          have i9 := in_add (-1) 30 e8 i3 (in_c (-1) rfl) rfl rfl
          refine g_goto 11 (gd rfl) rfl ?_
          exact gg_w (by omega) (gg_f (gf_cons rfl (gf_cons rfl (gf_cons rfl (gf_cons rfl (gf_cons rfl gf_nil))))) (ih11  y11_3 z7  (in_w 0 40 j11_3 rfl) (in_w (-1) 31 i9 rfl) (m_dn mm11 (t_add e8 i3 (in_c (-1) rfl) rfl) (in_w (-1) (-1) (in_c (-1) rfl) rfl))))
        · skip
          refine g_iload 29 (gd rfl) rfl rfl ?_
          refine g_iload_n 30 (gd rfl) rfl rfl ?_
          refine g_cmp_eq 33 38 (gd rfl) rfl rfl (fun c10 => ?_) (fun c10 => ?_)
          · skip
            have i11 := r_eq2 0 31 c10 i3 h2 rfl
            refine g_iload_n 39 (gd rfl) rfl rfl ?_
            refine g_istore_n 40 (gd rfl) rfl (Nat.le_of_ble_eq_true rfl) ?_
            refine g_iinc 43 (gd rfl) rfl rfl (Nat.le_of_ble_eq_true rfl) (fun z12 e13 => ?_)
            have i14 := in_add (-1) 30 e13 i3 (in_c (-1) rfl) rfl rfl
            refine g_goto 11 (gd rfl) rfl ?_
            exact gg_w (by omega) (gg_f (gf_cons rfl (gf_cons rfl (gf_cons rfl (gf_cons rfl (gf_cons rfl gf_nil))))) (ih11  y11_3 z12  (in_w 0 40 j11_3 rfl) (in_w (-1) 31 i14 rfl) (m_dn mm11 (t_add e13 i3 (in_c (-1) rfl) rfl) (in_w (-1) (-1) (in_c (-1) rfl) rfl))))
          · skip
            refine g_iload 35 (gd rfl) rfl rfl ?_
            refine g_goto 39 (gd rfl) rfl ?_
            refine g_istore_n 40 (gd rfl) rfl (Nat.le_of_ble_eq_true rfl) ?_
            refine g_iinc 43 (gd rfl) rfl rfl (Nat.le_of_ble_eq_true rfl) (fun z15 e16 => ?_)
            have i17 := in_add (-1) 30 e16 i3 (in_c (-1) rfl) rfl rfl
            refine g_goto 11 (gd rfl) rfl ?_
            exact gg_w (by omega) (gg_f (gf_cons rfl (gf_cons rfl (gf_cons rfl (gf_cons rfl (gf_cons rfl gf_nil))))) (ih11  y11_4 z15  (in_w 0 40 i3 rfl) (in_w (-1) 31 i17 rfl) (m_dn mm11 (t_add e16 i3 (in_c (-1) rfl) rfl) (in_w (-1) (-1) (in_c (-1) rfl) rfl))))
  refine g_enter2 (k := 375) (N := 30601) (by omega) rfl (Nat.le_of_ble_eq_true rfl) ?_
  refine g_bipush 40 2 (gd rfl) rfl rfl ?_
  refine g_istore_n 3 (gd rfl) rfl (Nat.le_of_ble_eq_true rfl) ?_
  refine g_aload_n 4 (gd rfl) rfl rfl ?_
  refine g_getI 7 (gd rfl) rfl rfl rfl (fun z18 e19 => ?_)
  have i20 := inv_F hI 0 32 rfl e19
  refine g_iconst 1 8 (gd rfl) rfl rfl ?_
  refine g_isub 9 (gd rfl) rfl (fun z21 e22 => ?_)
  have i23 := in_sub (-1) 31 e22 i20 (in_c 1 rfl) rfl rfl
  refine g_istore 11 (gd rfl) rfl (Nat.le_of_ble_eq_true rfl) ?_
  exact gg_w (by omega) (gg_f (gf_cons rfl (gf_cons rfl (gf_cons rfl (gf_cons rfl (gf_cons rfl gf_nil))))) (ct11 33  (Int32.ofInt 40) z21  (in_w 0 40 (in_c 40 rfl) rfl) (in_w (-1) 31 i23 rfl) (m_ind 33 (in_w (-1) 31 i23 rfl) rfl)))

/-- GraphHouseModel.figures -/
theorem k_380 {Z : AmZ} {A : Nat → Nat} {s : GS} {ex : va_W} {d : Nat} {X : AmX} {x1 : Int32} (hd : 4 ≤ d) (hI : Inv s)  : GC Z d 380 [.ref (A 109), .int x1] (WW Z A s ++ ex) 0 0 (fun v u => ∃ t : GS, Inv t ∧ ∃ z : Int64, v = some (.long z) ∧ u = WW Z A t ++ ex) X := by
  intro post xp hP hX
  have ct25 : ∀ (k25 : Nat) (s : GS) (y25_2 : Int64) (y25_4 : Int32), Inv s → In x1 0 1 → In y25_4 0 32 → 32 - (y25_4).toInt < (k25 : Int) → GG Z (d - 1) 380 post (gx xp) (1 + k25 * 31501) 25 (fun j => xlook j [(0, .ref (A 109)), (1, .int x1), (2, .long y25_2), (4, .int y25_4)]) [] (WW Z A s ++ ex) 0 0 := by
    intro k25
    induction k25 with
    | zero => intro s y25_2 y25_4 hI j25_1 j25_4 mm25; exact m_no mm25 j25_4 rfl
    | succ k25 ih25 =>
      intro s y25_2 y25_4 hI j25_1 j25_4 mm25
      refine gg_w (M := 1 + k25 * 31501 + 31501) (by omega) ?_
      have ct40 : ∀ (k40 : Nat) (s : GS) (y40_2 : Int64) (y40_5 : Int32), Inv s → In y25_4 0 31 → In y40_5 1 32 → 32 - (y40_5).toInt < (k40 : Int) → GG Z (d - 1) 380 post (gx xp) (1 + k25 * 31501 + 1 + k40 * 900) 40 (fun j => xlook j [(0, .ref (A 109)), (1, .int x1), (2, .long y40_2), (4, .int y25_4), (5, .int y40_5)]) [] (WW Z A s ++ ex) 0 0 := by
        intro k40
        induction k40 with
        | zero => intro s y40_2 y40_5 hI j40_4 j40_5 mm40; exact m_no mm40 j40_5 rfl
        | succ k40 ih40 =>
          intro s y40_2 y40_5 hI j40_4 j40_5 mm40
          refine gg_w (M := 1 + k25 * 31501 + 1 + k40 * 900 + 900) (by omega) ?_
          refine g_iload 42 (gd rfl) rfl rfl ?_
          refine g_aload_n 43 (gd rfl) rfl rfl ?_
          refine g_getI 46 (gd rfl) rfl rfl rfl (fun z1 e2 => ?_)
          have i3 := inv_F hI 0 32 rfl e2
          refine g_cmp_ge 49 119 (gd rfl) rfl rfl (fun c4 => ?_) (fun c4 => ?_)
          · skip
            refine g_iinc 122 (gd rfl) rfl rfl (Nat.le_of_ble_eq_true rfl) (fun z5 e6 => ?_)
            have i7 := in_add 1 32 e6 j40_4 (in_c 1 rfl) rfl rfl
            refine g_goto 25 (gd rfl) rfl ?_
            exact gg_w (by omega) (gg_f (gf_cons rfl (gf_cons rfl (gf_cons rfl (gf_cons rfl gf_nil)))) (ih25 s y40_2 z5 hI (in_w 0 1 j25_1 rfl) (in_w 0 32 i7 rfl) (m_up mm25 (t_add e6 j40_4 (in_c 1 rfl) rfl) (in_w 1 1 (in_c 1 rfl) rfl))))
          · skip
            have i8 := r_lt1 1 31 c4 j40_5 i3 rfl
            have i9 := r_lt2 2 32 c4 j40_5 i3 rfl
            refine g_aload_n 50 (gd rfl) rfl rfl ?_
            refine g_getA (q2 := 138) 53 (gd rfl) rfl rfl rfl rfl rfl ?_
            refine g_iload 55 (gd rfl) rfl rfl ?_
            refine g_iaload 56 (gd rfl) rfl (n := 32) rfl (in_ix j40_4 rfl) (fun z10 e11 => ?_)
            refine g_aload_n 57 (gd rfl) rfl rfl ?_
            refine g_getA (q2 := 138) 60 (gd rfl) rfl rfl rfl rfl rfl ?_
            refine g_iload 62 (gd rfl) rfl rfl ?_
            refine g_iaload 63 (gd rfl) rfl (n := 32) rfl (in_ix i8 rfl) (fun z12 e13 => ?_)
            refine g_iand 64 (gd rfl) rfl (fun z14 e15 => ?_)
            refine g_calls (As := [.int z14]) (r := []) 67 (gd rfl) rfl rfl rfl rfl rfl (Nat.le_of_ble_eq_true rfl) (Nat.zero_le _) (Nat.zero_le _) (k_336 (by omega) hI ) (fun v u h => ?_)
            obtain ⟨z16, rfl, rfl, i17⟩ := h
            show GG _ _ _ _ _ _ _ _ [.int z16] _ _ _
            refine g_i2l 68 (gd rfl) rfl (fun z18 e19 => ?_)
            have i20 := l_i e19 i17
            refine g_lstore 70 (gd rfl) rfl (Nat.le_of_ble_eq_true rfl) ?_
            refine g_lload_n 71 (gd rfl) rfl rfl ?_
            refine g_iload_n 72 (gd rfl) rfl rfl ?_
            refine g_iconst 1 73 (gd rfl) rfl rfl ?_
            refine g_cmp_ne 76 90 (gd rfl) rfl rfl (fun c21 => ?_) (fun c21 => ?_)
            · skip
              have i22 := r_ne1 0 0 c21 j25_1 (in_c 1 rfl) rfl
              refine g_aload_n 91 (gd rfl) rfl rfl ?_
              refine g_getA (q2 := 138) 94 (gd rfl) rfl rfl rfl rfl rfl ?_
              refine g_iload 96 (gd rfl) rfl rfl ?_
              refine g_iaload 97 (gd rfl) rfl (n := 32) rfl (in_ix j40_4 rfl) (fun z23 e24 => ?_)
              have q25 : z10 = z23 := (e11).trans e24.symm
              subst q25
              refine g_iload 99 (gd rfl) rfl rfl ?_
              refine g_calls (As := [.int z10, .int y40_5]) (r := [.long y40_2]) 102 (gd rfl) rfl rfl rfl rfl rfl (Nat.le_of_ble_eq_true rfl) (mc := 0) (ms := 0) (Nat.zero_le _) (Nat.zero_le _) (P := fun v u => _) ?_ (fun v u h => h)
              intro po26 xx27 hp28 hx29
              refine g_enter2 (k := 311) (N := 300) (by omega) rfl (Nat.le_of_ble_eq_true rfl) ?_
              refine g_iload_n 1 (gd rfl) rfl rfl ?_
              refine g_iload_n 2 (gd rfl) rfl rfl ?_
              refine g_ishr 3 (gd rfl) rfl (fun z30 e31 => ?_)
              refine g_iconst 1 4 (gd rfl) rfl rfl ?_
              refine g_iand 5 (gd rfl) rfl (fun z32 e33 => ?_)
              have i34 := in_and2 e33 (in_c 1 rfl) rfl
              refine g_iconst 1 6 (gd rfl) rfl rfl ?_
              refine g_cmp_ne 9 13 (gd rfl) rfl rfl (fun c35 => ?_) (fun c35 => ?_)
              · skip
                have i36 := r_ne1 0 0 c35 i34 (in_c 1 rfl) rfl
                refine g_iconst 0 14 (gd rfl) rfl rfl ?_
                refine g_ireturn (gd rfl) rfl (nb01 (in_w 0 1 (in_c 0 rfl) rfl)) (hp28 _ _ ?_)
                show GG _ _ _ _ _ _ _ _ [.int (Int32.ofInt 0), .long y40_2] _ _ _
                refine g_if_eq 105 110 (gd rfl) rfl rfl (fun c37 => ?_) (fun c37 => ?_)
                · skip
                  refine g_lconst 0 111 (gd rfl) rfl rfl ?_
                  refine g_ladd 112 (gd rfl) rfl (fun z38 e39 => ?_)
                  refine g_lstore_n 113 (gd rfl) rfl (Nat.le_of_ble_eq_true rfl) ?_
                  refine g_iinc 116 (gd rfl) rfl rfl (Nat.le_of_ble_eq_true rfl) (fun z40 e41 => ?_)
                  have i42 := in_add 2 32 e41 i8 (in_c 1 rfl) rfl rfl
                  refine g_goto 40 (gd rfl) rfl ?_
                  exact gg_w (by omega) (gg_f (gf_cons rfl (gf_cons rfl (gf_cons rfl (gf_cons rfl (gf_cons rfl gf_nil))))) (ih40 s z38 z40 hI (in_w 0 31 j40_4 rfl) (in_w 1 32 i42 rfl) (m_up mm40 (t_add e41 i8 (in_c 1 rfl) rfl) (in_w 1 1 (in_c 1 rfl) rfl))))
                · skip
                  exact zn_ne c37 (in_c 0 rfl) rfl
              · skip
                have i43 := r_eq1 1 1 c35 i34 (in_c 1 rfl) rfl
                refine g_iconst 1 10 (gd rfl) rfl rfl ?_
                refine g_goto 14 (gd rfl) rfl ?_
                refine g_ireturn (gd rfl) rfl (nb01 (in_w 0 1 (in_c 1 rfl) rfl)) (hp28 _ _ ?_)
                show GG _ _ _ _ _ _ _ _ [.int (Int32.ofInt 1), .long y40_2] _ _ _
                refine g_if_eq 105 110 (gd rfl) rfl rfl (fun c44 => ?_) (fun c44 => ?_)
                · skip
                  exact zn_eq c44 (in_c 1 rfl) rfl
                · skip
                  refine g_lload 107 (gd rfl) rfl rfl ?_
                  refine g_goto 111 (gd rfl) rfl ?_
                  refine g_ladd 112 (gd rfl) rfl (fun z45 e46 => ?_)
                  refine g_lstore_n 113 (gd rfl) rfl (Nat.le_of_ble_eq_true rfl) ?_
                  refine g_iinc 116 (gd rfl) rfl rfl (Nat.le_of_ble_eq_true rfl) (fun z47 e48 => ?_)
                  have i49 := in_add 2 32 e48 i8 (in_c 1 rfl) rfl rfl
                  refine g_goto 40 (gd rfl) rfl ?_
                  exact gg_w (by omega) (gg_f (gf_cons rfl (gf_cons rfl (gf_cons rfl (gf_cons rfl (gf_cons rfl gf_nil))))) (ih40 s z45 z47 hI (in_w 0 31 j40_4 rfl) (in_w 1 32 i49 rfl) (m_up mm40 (t_add e48 i8 (in_c 1 rfl) rfl) (in_w 1 1 (in_c 1 rfl) rfl))))
            · skip
              have i50 := r_eq1 1 1 c21 j25_1 (in_c 1 rfl) rfl
              refine g_lload 78 (gd rfl) rfl rfl ?_
              refine g_lload 80 (gd rfl) rfl rfl ?_
              refine g_lconst 1 81 (gd rfl) rfl rfl ?_
              refine g_lsub 82 (gd rfl) rfl (fun z51 e52 => ?_)
              refine g_lmul 83 (gd rfl) rfl (fun z53 e54 => ?_)
              refine g_ldc2_w 2 86 (gd rfl) rfl rfl ?_
              refine g_ldiv 87 (gd rfl) rfl (by decide) (fun z55 e56 => ?_)
              refine g_goto 111 (gd rfl) rfl ?_
              refine g_ladd 112 (gd rfl) rfl (fun z57 e58 => ?_)
              refine g_lstore_n 113 (gd rfl) rfl (Nat.le_of_ble_eq_true rfl) ?_
              refine g_iinc 116 (gd rfl) rfl rfl (Nat.le_of_ble_eq_true rfl) (fun z59 e60 => ?_)
              have i61 := in_add 2 32 e60 i8 (in_c 1 rfl) rfl rfl
              refine g_goto 40 (gd rfl) rfl ?_
              exact gg_w (by omega) (gg_f (gf_cons rfl (gf_cons rfl (gf_cons rfl (gf_cons rfl (gf_cons rfl gf_nil))))) (ih40 s z57 z59 hI (in_w 0 31 j40_4 rfl) (in_w 1 32 i61 rfl) (m_up mm40 (t_add e60 i8 (in_c 1 rfl) rfl) (in_w 1 1 (in_c 1 rfl) rfl))))
      refine g_iload 27 (gd rfl) rfl rfl ?_
      refine g_aload_n 28 (gd rfl) rfl rfl ?_
      refine g_getI 31 (gd rfl) rfl rfl rfl (fun z62 e63 => ?_)
      have i64 := inv_F hI 0 32 rfl e63
      refine g_cmp_ge 34 125 (gd rfl) rfl rfl (fun c65 => ?_) (fun c65 => ?_)
      · skip
        refine g_iload_n 126 (gd rfl) rfl rfl ?_
        refine g_if_ne 129 137 (gd rfl) rfl rfl (fun c66 => ?_) (fun c66 => ?_)
        · skip
          have i67 := z_ne 1 1 c66 j25_1 rfl
          refine g_lload_n 138 (gd rfl) rfl rfl ?_
          refine g_ldc2_w 2 141 (gd rfl) rfl rfl ?_
          refine g_ldiv 142 (gd rfl) rfl (by decide) (fun z68 e69 => ?_)
          exact g_lreturn (gd rfl) rfl (hP _ _ ⟨s, hI, z68, rfl, rfl⟩)
        · skip
          have i70 := z_eq 0 0 c66 j25_1 rfl
          refine g_lload_n 130 (gd rfl) rfl rfl ?_
          refine g_ldc2_w 3 133 (gd rfl) rfl rfl ?_
          refine g_ldiv 134 (gd rfl) rfl (by decide) (fun z71 e72 => ?_)
          refine g_goto 142 (gd rfl) rfl ?_
          exact g_lreturn (gd rfl) rfl (hP _ _ ⟨s, hI, z71, rfl, rfl⟩)
      · skip
        have i73 := r_lt1 0 31 c65 j25_4 i64 rfl
        have i74 := r_lt2 1 32 c65 j25_4 i64 rfl
        refine g_iload 36 (gd rfl) rfl rfl ?_
        refine g_iconst 1 37 (gd rfl) rfl rfl ?_
        refine g_iadd 38 (gd rfl) rfl (fun z75 e76 => ?_)
        have i77 := in_add 1 32 e76 i73 (in_c 1 rfl) rfl rfl
        refine g_istore 40 (gd rfl) rfl (Nat.le_of_ble_eq_true rfl) ?_
        exact gg_w (by omega) (gg_f (gf_cons rfl (gf_cons rfl (gf_cons rfl (gf_cons rfl (gf_cons rfl gf_nil))))) (ct40 32 s y25_2 z75 hI (in_w 0 31 i73 rfl) (in_w 1 32 i77 rfl) (m_in 32 (in_w 1 32 i77 rfl) rfl)))
  refine g_enter2 (k := 380) (N := 1040434) (by omega) rfl (Nat.le_of_ble_eq_true rfl) ?_
  refine g_aload_n 1 (gd rfl) rfl rfl ?_
  refine g_iload_n 2 (gd rfl) rfl rfl ?_
  refine g_i2l 3 (gd rfl) rfl (fun z78 e79 => ?_)
  have i80 := l_i e79 (i_rng x1)
  refine g_lconst 0 4 (gd rfl) rfl rfl ?_
  refine g_lconst 1 5 (gd rfl) rfl rfl ?_
  refine g_calls (As := [.long z78, .long (Int64.ofInt 0), .long (Int64.ofInt 1)]) (r := [.ref (A 109)]) 8 (gd rfl) rfl rfl rfl rfl rfl (Nat.le_of_ble_eq_true rfl) (mc := 0) (ms := 0) (Nat.zero_le _) (Nat.zero_le _) (P := fun v u => _) ?_ (fun v u h => h)
  intro po81 xx82 hp83 hx84
  refine g_enter2 (k := 269) (N := 300) (by omega) rfl (Nat.le_of_ble_eq_true rfl) ?_
  refine g_lload_n 1 (gd rfl) rfl rfl ?_
  refine g_lload_n 2 (gd rfl) rfl rfl ?_
  refine g_lcmp 3 (gd rfl) rfl (fun z85 e86 => ?_)
  have i87 := lc_in e86
  refine g_if_lt 6 17 (gd rfl) rfl rfl (fun c88 => ?_) (fun c88 => ?_)
  · skip
    have i89 := z_lt (-1) (-1) c88 i87 rfl
    have c90 := lc_lt e86 c88
    have i91 := lr_lt1 (-2147483648) (-1) c90 i80 (l_c 0 rfl) rfl
    have i92 := l_b e79 i91
    refine g_iconst 0 18 (gd rfl) rfl rfl ?_
    refine g_ireturn (gd rfl) rfl (nb01 (in_w 0 1 (in_c 0 rfl) rfl)) (hp83 _ _ ?_)
    show GG _ _ _ _ _ _ _ _ [.int (Int32.ofInt 0), .ref (A 109)] _ _ _
    refine g_callv (X := _) (As := [.int (Int32.ofInt 0)]) (r := []) (b := A 109) (q := 109) 11 (gd rfl) rfl rfl rfl rfl rfl (ww_o rfl) (Nat.le_of_ble_eq_true rfl) (mc := 0) (ms := 0) (Nat.zero_le _) (Nat.zero_le _) (P := fun v u => _) ?_ (fun e u h => h) (fun v u h => h)
    intro po93 xx94 hp95 hx96
    refine g_enter2 (k := 271) (N := 300) (by omega) rfl (Nat.le_of_ble_eq_true rfl) ?_
    refine g_aload_n 1 (gd rfl) rfl rfl ?_
    refine g_iload_n 2 (gd rfl) rfl rfl ?_
    refine g_iconst 1 3 (gd rfl) rfl rfl ?_
    refine g_callv (X := _) (As := [.int (Int32.ofInt 0), .int (Int32.ofInt 1)]) (r := []) (b := A 109) (q := 109) 6 (gd rfl) rfl rfl rfl rfl rfl (ww_o rfl) (Nat.le_of_ble_eq_true rfl) (mc := 0) (ms := 0) (Nat.zero_le _) (Nat.zero_le _) (P := fun v u => _) ?_ (fun e u h => h) (fun v u h => h)
    intro po97 xx98 hp99 hx100
    refine g_enter2 (k := 270) (N := 300) (by omega) rfl (Nat.le_of_ble_eq_true rfl) ?_
    refine g_aload_n 1 (gd rfl) rfl rfl ?_
    refine g_iload_n 2 (gd rfl) rfl rfl ?_
    refine g_if_ne 5 9 (gd rfl) rfl rfl (fun c101 => ?_) (fun c101 => ?_)
    · skip
      exact zn_ne c101 (in_c 0 rfl) rfl
    · skip
      refine g_iconst 1 6 (gd rfl) rfl rfl ?_
      refine g_goto 18 (gd rfl) rfl ?_
      refine g_putI 21 (gd rfl) rfl rfl rfl rfl ?_
      have hI102 := inv_sF (q := 109) (j := 0) hI rfl (in_w 0 2 (in_c 1 rfl) rfl)
      refine g_aload_n 22 (gd rfl) rfl rfl ?_
      refine g_getI 25 (gd rfl) rfl rfl rfl (fun z103 e104 => ?_)
      have q105 : (Int32.ofInt 1) = z103 := (sF_get).trans e104.symm
      subst q105
      refine g_if_le 28 32 (gd rfl) rfl rfl (fun c106 => ?_) (fun c106 => ?_)
      · skip
        exact zn_le c106 (in_c 1 rfl) rfl
      · skip
        refine g_iconst 1 29 (gd rfl) rfl rfl ?_
        refine g_goto 33 (gd rfl) rfl ?_
        refine g_ireturn (gd rfl) rfl (nb01 (in_w 0 1 (in_c 1 rfl) rfl)) (hp99 _ _ ?_)
        show GG _ _ _ _ _ _ _ _ [.int (Int32.ofInt 1)] _ _ _
        refine g_ireturn (gd rfl) rfl (nb01 (in_w 0 1 (in_c 1 rfl) rfl)) (hp95 _ _ ?_)
        show GG _ _ _ _ _ _ _ _ [.int (Int32.ofInt 1)] _ _ _
        refine g_if_eq 14 16 (gd rfl) rfl rfl (fun c107 => ?_) (fun c107 => ?_)
        · skip
          exact zn_eq c107 (in_c 1 rfl) rfl
        · skip
          refine g_lconst 0 15 (gd rfl) rfl rfl ?_
          exact g_lreturn (gd rfl) rfl (hP _ _ ⟨(sF s 109 0 (Int32.ofInt 1)), hI102, (Int64.ofInt 0), rfl, rfl⟩)
  · skip
    have i108 := z_ge 0 1 c88 i87 rfl
    have c109 := lc_ge e86 c88
    have i110 := lr_le2 0 2147483647 c109 (l_c 0 rfl) i80 rfl
    have i111 := l_b e79 i110
    refine g_lload_n 7 (gd rfl) rfl rfl ?_
    refine g_lload 9 (gd rfl) rfl rfl ?_
    refine g_lcmp 10 (gd rfl) rfl (fun z112 e113 => ?_)
    have i114 := lc_in e113
    refine g_if_gt 13 17 (gd rfl) rfl rfl (fun c115 => ?_) (fun c115 => ?_)
    · skip
      have i116 := z_gt 1 1 c115 i114 rfl
      have c117 := lc_gt e113 c115
      have i118 := lr_lt2 2 2147483647 c117 (l_c 1 rfl) i110 rfl
      have i119 := l_b e79 i118
      refine g_iconst 0 18 (gd rfl) rfl rfl ?_
      refine g_ireturn (gd rfl) rfl (nb01 (in_w 0 1 (in_c 0 rfl) rfl)) (hp83 _ _ ?_)
      show GG _ _ _ _ _ _ _ _ [.int (Int32.ofInt 0), .ref (A 109)] _ _ _
      refine g_callv (X := _) (As := [.int (Int32.ofInt 0)]) (r := []) (b := A 109) (q := 109) 11 (gd rfl) rfl rfl rfl rfl rfl (ww_o rfl) (Nat.le_of_ble_eq_true rfl) (mc := 0) (ms := 0) (Nat.zero_le _) (Nat.zero_le _) (P := fun v u => _) ?_ (fun e u h => h) (fun v u h => h)
      intro po120 xx121 hp122 hx123
      refine g_enter2 (k := 271) (N := 300) (by omega) rfl (Nat.le_of_ble_eq_true rfl) ?_
      refine g_aload_n 1 (gd rfl) rfl rfl ?_
      refine g_iload_n 2 (gd rfl) rfl rfl ?_
      refine g_iconst 1 3 (gd rfl) rfl rfl ?_
      refine g_callv (X := _) (As := [.int (Int32.ofInt 0), .int (Int32.ofInt 1)]) (r := []) (b := A 109) (q := 109) 6 (gd rfl) rfl rfl rfl rfl rfl (ww_o rfl) (Nat.le_of_ble_eq_true rfl) (mc := 0) (ms := 0) (Nat.zero_le _) (Nat.zero_le _) (P := fun v u => _) ?_ (fun e u h => h) (fun v u h => h)
      intro po124 xx125 hp126 hx127
      refine g_enter2 (k := 270) (N := 300) (by omega) rfl (Nat.le_of_ble_eq_true rfl) ?_
      refine g_aload_n 1 (gd rfl) rfl rfl ?_
      refine g_iload_n 2 (gd rfl) rfl rfl ?_
      refine g_if_ne 5 9 (gd rfl) rfl rfl (fun c128 => ?_) (fun c128 => ?_)
      · skip
        exact zn_ne c128 (in_c 0 rfl) rfl
      · skip
        refine g_iconst 1 6 (gd rfl) rfl rfl ?_
        refine g_goto 18 (gd rfl) rfl ?_
        refine g_putI 21 (gd rfl) rfl rfl rfl rfl ?_
        have hI129 := inv_sF (q := 109) (j := 0) hI rfl (in_w 0 2 (in_c 1 rfl) rfl)
        refine g_aload_n 22 (gd rfl) rfl rfl ?_
        refine g_getI 25 (gd rfl) rfl rfl rfl (fun z130 e131 => ?_)
        have q132 : (Int32.ofInt 1) = z130 := (sF_get).trans e131.symm
        subst q132
        refine g_if_le 28 32 (gd rfl) rfl rfl (fun c133 => ?_) (fun c133 => ?_)
        · skip
          exact zn_le c133 (in_c 1 rfl) rfl
        · skip
          refine g_iconst 1 29 (gd rfl) rfl rfl ?_
          refine g_goto 33 (gd rfl) rfl ?_
          refine g_ireturn (gd rfl) rfl (nb01 (in_w 0 1 (in_c 1 rfl) rfl)) (hp126 _ _ ?_)
          show GG _ _ _ _ _ _ _ _ [.int (Int32.ofInt 1)] _ _ _
          refine g_ireturn (gd rfl) rfl (nb01 (in_w 0 1 (in_c 1 rfl) rfl)) (hp122 _ _ ?_)
          show GG _ _ _ _ _ _ _ _ [.int (Int32.ofInt 1)] _ _ _
          refine g_if_eq 14 16 (gd rfl) rfl rfl (fun c134 => ?_) (fun c134 => ?_)
          · skip
            exact zn_eq c134 (in_c 1 rfl) rfl
          · skip
            refine g_lconst 0 15 (gd rfl) rfl rfl ?_
            exact g_lreturn (gd rfl) rfl (hP _ _ ⟨(sF s 109 0 (Int32.ofInt 1)), hI129, (Int64.ofInt 0), rfl, rfl⟩)
    · skip
      have i135 := z_le (-1) 0 c115 i114 rfl
      have c136 := lc_le e113 c115
      have i137 := lr_le1 0 1 c136 i110 (l_c 1 rfl) rfl
      have i138 := l_b e79 i137
      refine g_iconst 1 14 (gd rfl) rfl rfl ?_
      refine g_goto 18 (gd rfl) rfl ?_
      refine g_ireturn (gd rfl) rfl (nb01 (in_w 0 1 (in_c 1 rfl) rfl)) (hp83 _ _ ?_)
      show GG _ _ _ _ _ _ _ _ [.int (Int32.ofInt 1), .ref (A 109)] _ _ _
      refine g_callv (X := _) (As := [.int (Int32.ofInt 1)]) (r := []) (b := A 109) (q := 109) 11 (gd rfl) rfl rfl rfl rfl rfl (ww_o rfl) (Nat.le_of_ble_eq_true rfl) (mc := 0) (ms := 0) (Nat.zero_le _) (Nat.zero_le _) (P := fun v u => _) ?_ (fun e u h => h) (fun v u h => h)
      intro po139 xx140 hp141 hx142
      refine g_enter2 (k := 271) (N := 300) (by omega) rfl (Nat.le_of_ble_eq_true rfl) ?_
      refine g_aload_n 1 (gd rfl) rfl rfl ?_
      refine g_iload_n 2 (gd rfl) rfl rfl ?_
      refine g_iconst 1 3 (gd rfl) rfl rfl ?_
      refine g_callv (X := _) (As := [.int (Int32.ofInt 1), .int (Int32.ofInt 1)]) (r := []) (b := A 109) (q := 109) 6 (gd rfl) rfl rfl rfl rfl rfl (ww_o rfl) (Nat.le_of_ble_eq_true rfl) (mc := 0) (ms := 0) (Nat.zero_le _) (Nat.zero_le _) (P := fun v u => _) ?_ (fun e u h => h) (fun v u h => h)
      intro po143 xx144 hp145 hx146
      refine g_enter2 (k := 270) (N := 300) (by omega) rfl (Nat.le_of_ble_eq_true rfl) ?_
      refine g_aload_n 1 (gd rfl) rfl rfl ?_
      refine g_iload_n 2 (gd rfl) rfl rfl ?_
      refine g_if_ne 5 9 (gd rfl) rfl rfl (fun c147 => ?_) (fun c147 => ?_)
      · skip
        refine g_iload_n 10 (gd rfl) rfl rfl ?_
        refine g_if_ne 13 17 (gd rfl) rfl rfl (fun c148 => ?_) (fun c148 => ?_)
        · skip
          refine g_iconst 0 18 (gd rfl) rfl rfl ?_
          refine g_putI 21 (gd rfl) rfl rfl rfl rfl ?_
          have hI149 := inv_sF (q := 109) (j := 0) hI rfl (in_w 0 2 (in_c 0 rfl) rfl)
          refine g_aload_n 22 (gd rfl) rfl rfl ?_
          refine g_getI 25 (gd rfl) rfl rfl rfl (fun z150 e151 => ?_)
          have q152 : (Int32.ofInt 0) = z150 := (sF_get).trans e151.symm
          subst q152
          refine g_if_le 28 32 (gd rfl) rfl rfl (fun c153 => ?_) (fun c153 => ?_)
          · skip
            refine g_iconst 0 33 (gd rfl) rfl rfl ?_
            refine g_ireturn (gd rfl) rfl (nb01 (in_w 0 1 (in_c 0 rfl) rfl)) (hp145 _ _ ?_)
            show GG _ _ _ _ _ _ _ _ [.int (Int32.ofInt 0)] _ _ _
            refine g_ireturn (gd rfl) rfl (nb01 (in_w 0 1 (in_c 0 rfl) rfl)) (hp141 _ _ ?_)
            show GG _ _ _ _ _ _ _ _ [.int (Int32.ofInt 0)] _ _ _
            refine g_if_eq 14 16 (gd rfl) rfl rfl (fun c154 => ?_) (fun c154 => ?_)
            · skip
              refine g_aload_n 17 (gd rfl) rfl rfl ?_
              refine g_callv (X := _) (As := []) (r := []) (b := A 109) (q := 109) 20 (gd rfl) rfl rfl rfl rfl rfl (ww_o rfl) (Nat.le_of_ble_eq_true rfl) (Nat.zero_le _) (Nat.zero_le _) (k_335 (by omega) hI149 ) (fun e u h => h) (fun v u h => ?_)
              obtain ⟨s155, hI156, rfl, rfl⟩ := h
              show GG _ _ _ _ _ _ _ _ [] _ _ _
              refine g_lconst 0 21 (gd rfl) rfl rfl ?_
              refine g_lstore_n 22 (gd rfl) rfl (Nat.le_of_ble_eq_true rfl) ?_
              refine g_iconst 0 23 (gd rfl) rfl rfl ?_
              refine g_istore 25 (gd rfl) rfl (Nat.le_of_ble_eq_true rfl) ?_
              exact gg_w (by omega) (gg_f (gf_cons rfl (gf_cons rfl (gf_cons rfl (gf_cons rfl gf_nil)))) (ct25 33 s155 (Int64.ofInt 0) (Int32.ofInt 0) hI156 (in_w 0 1 i138 rfl) (in_w 0 32 (in_c 0 rfl) rfl) (m_in 33 (in_w 0 32 (in_c 0 rfl) rfl) rfl)))
            · skip
              exact zn_ne c154 (in_c 0 rfl) rfl
          · skip
            exact zn_gt c153 (in_c 0 rfl) rfl
        · skip
          exact zn_eq c148 (in_c 1 rfl) rfl
      · skip
        exact zn_eq c147 (in_c 1 rfl) rfl

/-- GraphHouseModel.follow -/
theorem k_383 {Z : AmZ} {A : Nat → Nat} {s : GS} {ex : va_W} {d : Nat} {X : AmX} {x1 : Int64} {x2 : Int64} (hd : 1 ≤ d) (hI : Inv s)  : GC Z d 383 [.ref (A 109), .long x1, .long x2] (WW Z A s ++ ex) 0 0 (fun v u => ∃ t : GS, Inv t ∧ v = none ∧ u = WW Z A t ++ ex) X := by
  intro post xp hP hX
  have ct3 : ∀ (k3 : Nat) (s : GS) (y3_5 : Int32), Inv s → In y3_5 0 60 → 60 - (y3_5).toInt < (k3 : Int) → GG Z (d - 1) 383 post (gx xp) (1 + k3 * 900) 3 (fun j => xlook j [(0, .ref (A 109)), (1, .long x1), (3, .long x2), (5, .int y3_5)]) [] (WW Z A s ++ ex) 0 0 := by
    intro k3
    induction k3 with
    | zero => intro s y3_5 hI j3_5 mm3; exact m_no mm3 j3_5 rfl
    | succ k3 ih3 =>
      intro s y3_5 hI j3_5 mm3
      refine gg_w (M := 1 + k3 * 900 + 900) (by omega) ?_
      refine g_iload 5 (gd rfl) rfl rfl ?_
      refine g_bipush 60 7 (gd rfl) rfl rfl ?_
      refine g_cmp_ge 10 42 (gd rfl) rfl rfl (fun c1 => ?_) (fun c1 => ?_)
      · skip
        have i2 := r_le2 60 60 c1 (in_c 60 rfl) j3_5 rfl
        exact g_return (gd rfl) rfl (hP _ _ ⟨s, hI, rfl, rfl⟩)
      · skip
        have i3 := r_lt1 0 59 c1 j3_5 (in_c 60 rfl) rfl
        refine g_aload_n 11 (gd rfl) rfl rfl ?_
        refine g_getA (q2 := 175) 14 (gd rfl) rfl rfl rfl rfl rfl ?_
        refine g_iload 16 (gd rfl) rfl rfl ?_
        refine g_dup2 17 (gd rfl) rfl rfl rfl ?_
        refine g_laload 18 (gd rfl) rfl (n := 60) rfl (in_ix i3 rfl) (fun z4 e5 => ?_)
        refine g_lload_n 19 (gd rfl) rfl rfl ?_
        refine g_iload 21 (gd rfl) rfl rfl ?_
        refine g_lshr 22 (gd rfl) rfl (fun z6 e7 => ?_)
        refine g_lconst 1 23 (gd rfl) rfl rfl ?_
        refine g_land 24 (gd rfl) rfl (fun z8 e9 => ?_)
        have i10 := inl_and2 e9 (l_c 1 rfl) rfl
        refine g_lconst 1 25 (gd rfl) rfl rfl ?_
        refine g_lcmp 26 (gd rfl) rfl (fun z11 e12 => ?_)
        have i13 := lc_in e12
        refine g_if_ne 29 33 (gd rfl) rfl rfl (fun c14 => ?_) (fun c14 => ?_)
        · skip
          have c15 := lc_ne e12 c14
          have i16 := lr_ne1 0 0 c15 i10 (l_c 1 rfl) rfl
          refine g_lconst 0 34 (gd rfl) rfl rfl ?_
          refine g_lor 35 (gd rfl) rfl (fun z17 e18 => ?_)
          refine g_lastore 36 (gd rfl) rfl (n := 60) rfl (in_ix i3 rfl) ?_
          have hI19 := inv_sL (q := 175) (j := y3_5.toNatClampNeg) (x := z17) hI
          refine g_iinc 39 (gd rfl) rfl rfl (Nat.le_of_ble_eq_true rfl) (fun z20 e21 => ?_)
          have i22 := in_add 1 60 e21 i3 (in_c 1 rfl) rfl rfl
          refine g_goto 3 (gd rfl) rfl ?_
          exact gg_w (by omega) (gg_f (gf_cons rfl (gf_cons rfl (gf_cons rfl (gf_cons rfl gf_nil)))) (ih3 (sL s 175 y3_5.toNatClampNeg z17) z20 hI19 (in_w 0 60 i22 rfl) (m_up mm3 (t_add e21 i3 (in_c 1 rfl) rfl) (in_w 1 1 (in_c 1 rfl) rfl))))
        · skip
          have i23 := z_eq 0 0 c14 i13 rfl
          have c24 := lc_eq e12 c14
          have i25 := lr_eq1 1 1 c24 i10 (l_c 1 rfl) rfl
          refine g_lload_n 30 (gd rfl) rfl rfl ?_
          refine g_goto 34 (gd rfl) rfl ?_
          refine g_lor 35 (gd rfl) rfl (fun z26 e27 => ?_)
          refine g_lastore 36 (gd rfl) rfl (n := 60) rfl (in_ix i3 rfl) ?_
          have hI28 := inv_sL (q := 175) (j := y3_5.toNatClampNeg) (x := z26) hI
          refine g_iinc 39 (gd rfl) rfl rfl (Nat.le_of_ble_eq_true rfl) (fun z29 e30 => ?_)
          have i31 := in_add 1 60 e30 i3 (in_c 1 rfl) rfl rfl
          refine g_goto 3 (gd rfl) rfl ?_
          exact gg_w (by omega) (gg_f (gf_cons rfl (gf_cons rfl (gf_cons rfl (gf_cons rfl gf_nil)))) (ih3 (sL s 175 y3_5.toNatClampNeg z26) z29 hI28 (in_w 0 60 i31 rfl) (m_up mm3 (t_add e30 i3 (in_c 1 rfl) rfl) (in_w 1 1 (in_c 1 rfl) rfl))))
  refine g_enter2 (k := 383) (N := 55801) (by omega) rfl (Nat.le_of_ble_eq_true rfl) ?_
  refine g_iconst 0 1 (gd rfl) rfl rfl ?_
  refine g_istore 3 (gd rfl) rfl (Nat.le_of_ble_eq_true rfl) ?_
  exact gg_w (by omega) (gg_f (gf_cons rfl (gf_cons rfl (gf_cons rfl (gf_cons rfl gf_nil)))) (ct3 61 s (Int32.ofInt 0) hI (in_w 0 60 (in_c 0 rfl) rfl) (m_in 61 (in_w 0 60 (in_c 0 rfl) rfl) rfl)))

/-- GraphHouseModel.flush -/
theorem k_384 {Z : AmZ} {A : Nat → Nat} {s : GS} {ex : va_W} {d : Nat} {X : AmX}  (hd : 2 ≤ d) (hI : Inv s)  : GC Z d 384 [.ref (A 109)] (WW Z A s ++ ex) 0 0 (fun v u => ∃ t : GS, Inv t ∧ v = none ∧ u = WW Z A t ++ ex) X := by
  intro post xp hP hX
  refine g_enter2 (k := 384) (N := 900) (by omega) rfl (Nat.le_of_ble_eq_true rfl) ?_
  refine g_aload_n 1 (gd rfl) rfl rfl ?_
  refine g_getZ 4 (gd rfl) rfl rfl rfl (fun z1 e2 => ?_)
  have i3 := inv_F hI 0 1 rfl e2
  refine g_if_eq 7 123 (gd rfl) rfl rfl (fun c4 => ?_) (fun c4 => ?_)
  · skip
    have i5 := z_eq 0 0 c4 i3 rfl
    refine g_aload_n 124 (gd rfl) rfl rfl ?_
    refine g_iconst 0 125 (gd rfl) rfl rfl ?_
    refine g_putZ 128 (gd rfl) rfl rfl rfl rfl (in01 (in_w 0 1 (in_c 0 rfl) rfl)) ?_
    have hI6 := inv_sF (q := 109) (j := 97) hI rfl (in_w 0 1 (in_c 0 rfl) rfl)
    refine g_aload_n 129 (gd rfl) rfl rfl ?_
    refine g_iconst 0 130 (gd rfl) rfl rfl ?_
    refine g_putZ 133 (gd rfl) rfl rfl rfl rfl (in01 (in_w 0 1 (in_c 0 rfl) rfl)) ?_
    have hI7 := inv_sF (q := 109) (j := 98) hI6 rfl (in_w 0 1 (in_c 0 rfl) rfl)
    exact g_return (gd rfl) rfl (hP _ _ ⟨(sF (sF s 109 97 (Int32.ofInt 0)) 109 98 (Int32.ofInt 0)), hI7, rfl, rfl⟩)
  · skip
    have i8 := z_ne 1 1 c4 i3 rfl
    refine g_aload_n 8 (gd rfl) rfl rfl ?_
    refine g_aload_n 9 (gd rfl) rfl rfl ?_
    refine g_getA (q2 := 182) 12 (gd rfl) rfl rfl rfl rfl rfl ?_
    refine g_aload_n 13 (gd rfl) rfl rfl ?_
    refine g_getI 16 (gd rfl) rfl rfl rfl (fun z9 e10 => ?_)
    have i11 := inv_F hI 0 10 rfl e10
    refine g_laload 17 (gd rfl) rfl (n := 12) rfl (in_ix i11 rfl) (fun z12 e13 => ?_)
    refine g_aload_n 18 (gd rfl) rfl rfl ?_
    refine g_getL 21 (gd rfl) rfl rfl rfl (fun z14 e15 => ?_)
    refine g_callv (X := _) (As := [.long z12, .long z14]) (r := []) (b := A 109) (q := 109) 24 (gd rfl) rfl rfl rfl rfl rfl (ww_o rfl) (Nat.le_of_ble_eq_true rfl) (Nat.zero_le _) (Nat.zero_le _) (k_383 (by omega) hI ) (fun e u h => h) (fun v u h => ?_)
    obtain ⟨s16, hI17, rfl, rfl⟩ := h
    show GG _ _ _ _ _ _ _ _ [] _ _ _
    refine g_aload_n 25 (gd rfl) rfl rfl ?_
    refine g_getA (q2 := 181) 28 (gd rfl) rfl rfl rfl rfl rfl ?_
    refine g_aload_n 29 (gd rfl) rfl rfl ?_
    refine g_getI 32 (gd rfl) rfl rfl rfl (fun z20 e21 => ?_)
    have i22 := inv_F hI17 0 10 rfl e21
    refine g_dup2 33 (gd rfl) rfl rfl rfl ?_
    refine g_laload 34 (gd rfl) rfl (n := 12) rfl (in_ix i22 rfl) (fun z23 e24 => ?_)
    refine g_aload_n 35 (gd rfl) rfl rfl ?_
    refine g_getA (q2 := 180) 38 (gd rfl) rfl rfl rfl rfl rfl ?_
    refine g_aload_n 39 (gd rfl) rfl rfl ?_
    refine g_getI 42 (gd rfl) rfl rfl rfl (fun z25 e26 => ?_)
    have q27 : z20 = z25 := (e21).trans e26.symm
    subst q27
    refine g_baload 43 (gd rfl) rfl (n := 12) rfl (in_ix i22 rfl) (fun z28 e29 => ?_)
    have i30 := inv_I hI17 (n := 12) (t := 3) 0 1 rfl (in_ix i22 rfl) rfl e29
    refine g_if_eq 46 53 (gd rfl) rfl rfl (fun c31 => ?_) (fun c31 => ?_)
    · skip
      have i32 := z_eq 0 0 c31 i30 rfl
      refine g_lconst 0 54 (gd rfl) rfl rfl ?_
      refine g_lor 55 (gd rfl) rfl (fun z33 e34 => ?_)
      refine g_lastore 56 (gd rfl) rfl (n := 12) rfl (in_ix i22 rfl) ?_
      have hI35 := inv_sL (q := 181) (j := z20.toNatClampNeg) (x := z33) hI17
      refine g_aload_n 57 (gd rfl) rfl rfl ?_
      refine g_getA (q2 := 182) 60 (gd rfl) rfl rfl rfl rfl rfl ?_
      refine g_aload_n 61 (gd rfl) rfl rfl ?_
      refine g_getI 64 (gd rfl) rfl rfl rfl (fun z36 e37 => ?_)
      have q38 : z20 = z36 := (e21).trans e37.symm
      subst q38
      refine g_aload_n 65 (gd rfl) rfl rfl ?_
      refine g_getL 68 (gd rfl) rfl rfl rfl (fun z39 e40 => ?_)
      refine g_aload_n 69 (gd rfl) rfl rfl ?_
      refine g_getZ 72 (gd rfl) rfl rfl rfl (fun z41 e42 => ?_)
      have i43 := inv_F hI35 0 1 rfl e42
      refine g_if_eq 75 87 (gd rfl) rfl rfl (fun c44 => ?_) (fun c44 => ?_)
      · skip
        have i45 := z_eq 0 0 c44 i43 rfl
        refine g_lconst 0 88 (gd rfl) rfl rfl ?_
        refine g_lor 89 (gd rfl) rfl (fun z46 e47 => ?_)
        refine g_lastore 90 (gd rfl) rfl (n := 12) rfl (in_ix i22 rfl) ?_
        have hI48 := inv_sL (q := 182) (j := z20.toNatClampNeg) (x := z46) hI35
        refine g_aload_n 91 (gd rfl) rfl rfl ?_
        refine g_getA (q2 := 180) 94 (gd rfl) rfl rfl rfl rfl rfl ?_
        refine g_aload_n 95 (gd rfl) rfl rfl ?_
        refine g_getI 98 (gd rfl) rfl rfl rfl (fun z49 e50 => ?_)
        have q51 : z20 = z49 := (e21).trans e50.symm
        subst q51
        refine g_aload_n 99 (gd rfl) rfl rfl ?_
        refine g_getA (q2 := 180) 102 (gd rfl) rfl rfl rfl rfl rfl ?_
        refine g_aload_n 103 (gd rfl) rfl rfl ?_
        refine g_getI 106 (gd rfl) rfl rfl rfl (fun z52 e53 => ?_)
        have q54 : z20 = z52 := (e21).trans e53.symm
        subst q54
        refine g_baload 107 (gd rfl) rfl (n := 12) rfl (in_ix i22 rfl) (fun z55 e56 => ?_)
        have q57 : z28 = z55 := (e29).trans e56.symm
        subst q57
        refine g_if_eq 110 121 (gd rfl) rfl rfl (fun c58 => ?_) (fun c58 => ?_)
        · skip
          refine g_iconst 0 122 (gd rfl) rfl rfl ?_
          refine g_bastore 123 (gd rfl) rfl (n := 12) rfl (in_ix i22 rfl) ?_
          have hI59 := inv_sI (q := 180) (j := z20.toNatClampNeg) hI48 rfl (in_w 0 1 (nar01 (in_w 0 1 (in_c 0 rfl) rfl)) rfl)
          refine g_aload_n 124 (gd rfl) rfl rfl ?_
          refine g_iconst 0 125 (gd rfl) rfl rfl ?_
          refine g_putZ 128 (gd rfl) rfl rfl rfl rfl (in01 (in_w 0 1 (in_c 0 rfl) rfl)) ?_
          have hI60 := inv_sF (q := 109) (j := 97) hI59 rfl (in_w 0 1 (in_c 0 rfl) rfl)
          refine g_aload_n 129 (gd rfl) rfl rfl ?_
          refine g_iconst 0 130 (gd rfl) rfl rfl ?_
          refine g_putZ 133 (gd rfl) rfl rfl rfl rfl (in01 (in_w 0 1 (in_c 0 rfl) rfl)) ?_
          have hI61 := inv_sF (q := 109) (j := 98) hI60 rfl (in_w 0 1 (in_c 0 rfl) rfl)
          exact g_return (gd rfl) rfl (hP _ _ ⟨(sF (sF (sI (sL (sL s16 181 z20.toNatClampNeg z33) 182 z20.toNatClampNeg z46) 180 z20.toNatClampNeg (vp_nar .boolean (Int32.ofInt 0))) 109 97 (Int32.ofInt 0)) 109 98 (Int32.ofInt 0)), hI61, rfl, rfl⟩)
        · skip
          exact zn_ne c58 i32 rfl
      · skip
        have i62 := z_ne 1 1 c44 i43 rfl
        refine g_aload_n 76 (gd rfl) rfl rfl ?_
        refine g_getA (q2 := 182) 79 (gd rfl) rfl rfl rfl rfl rfl ?_
        refine g_aload_n 80 (gd rfl) rfl rfl ?_
        refine g_getI 83 (gd rfl) rfl rfl rfl (fun z63 e64 => ?_)
        have q65 : z20 = z63 := (e21).trans e64.symm
        subst q65
        refine g_laload 84 (gd rfl) rfl (n := 12) rfl (in_ix i22 rfl) (fun z66 e67 => ?_)
        refine g_goto 88 (gd rfl) rfl ?_
        refine g_lor 89 (gd rfl) rfl (fun z68 e69 => ?_)
        refine g_lastore 90 (gd rfl) rfl (n := 12) rfl (in_ix i22 rfl) ?_
        have hI70 := inv_sL (q := 182) (j := z20.toNatClampNeg) (x := z68) hI35
        refine g_aload_n 91 (gd rfl) rfl rfl ?_
        refine g_getA (q2 := 180) 94 (gd rfl) rfl rfl rfl rfl rfl ?_
        refine g_aload_n 95 (gd rfl) rfl rfl ?_
        refine g_getI 98 (gd rfl) rfl rfl rfl (fun z71 e72 => ?_)
        have q73 : z20 = z71 := (e21).trans e72.symm
        subst q73
        refine g_aload_n 99 (gd rfl) rfl rfl ?_
        refine g_getA (q2 := 180) 102 (gd rfl) rfl rfl rfl rfl rfl ?_
        refine g_aload_n 103 (gd rfl) rfl rfl ?_
        refine g_getI 106 (gd rfl) rfl rfl rfl (fun z74 e75 => ?_)
        have q76 : z20 = z74 := (e21).trans e75.symm
        subst q76
        refine g_baload 107 (gd rfl) rfl (n := 12) rfl (in_ix i22 rfl) (fun z77 e78 => ?_)
        have q79 : z28 = z77 := (e29).trans e78.symm
        subst q79
        refine g_if_eq 110 121 (gd rfl) rfl rfl (fun c80 => ?_) (fun c80 => ?_)
        · skip
          refine g_iconst 0 122 (gd rfl) rfl rfl ?_
          refine g_bastore 123 (gd rfl) rfl (n := 12) rfl (in_ix i22 rfl) ?_
          have hI81 := inv_sI (q := 180) (j := z20.toNatClampNeg) hI70 rfl (in_w 0 1 (nar01 (in_w 0 1 (in_c 0 rfl) rfl)) rfl)
          refine g_aload_n 124 (gd rfl) rfl rfl ?_
          refine g_iconst 0 125 (gd rfl) rfl rfl ?_
          refine g_putZ 128 (gd rfl) rfl rfl rfl rfl (in01 (in_w 0 1 (in_c 0 rfl) rfl)) ?_
          have hI82 := inv_sF (q := 109) (j := 97) hI81 rfl (in_w 0 1 (in_c 0 rfl) rfl)
          refine g_aload_n 129 (gd rfl) rfl rfl ?_
          refine g_iconst 0 130 (gd rfl) rfl rfl ?_
          refine g_putZ 133 (gd rfl) rfl rfl rfl rfl (in01 (in_w 0 1 (in_c 0 rfl) rfl)) ?_
          have hI83 := inv_sF (q := 109) (j := 98) hI82 rfl (in_w 0 1 (in_c 0 rfl) rfl)
          exact g_return (gd rfl) rfl (hP _ _ ⟨(sF (sF (sI (sL (sL s16 181 z20.toNatClampNeg z33) 182 z20.toNatClampNeg z68) 180 z20.toNatClampNeg (vp_nar .boolean (Int32.ofInt 0))) 109 97 (Int32.ofInt 0)) 109 98 (Int32.ofInt 0)), hI83, rfl, rfl⟩)
        · skip
          exact zn_ne c80 i32 rfl
    · skip
      have i84 := z_ne 1 1 c31 i30 rfl
      refine g_aload_n 47 (gd rfl) rfl rfl ?_
      refine g_getL 50 (gd rfl) rfl rfl rfl (fun z85 e86 => ?_)
      refine g_goto 54 (gd rfl) rfl ?_
      refine g_lor 55 (gd rfl) rfl (fun z87 e88 => ?_)
      refine g_lastore 56 (gd rfl) rfl (n := 12) rfl (in_ix i22 rfl) ?_
      have hI89 := inv_sL (q := 181) (j := z20.toNatClampNeg) (x := z87) hI17
      refine g_aload_n 57 (gd rfl) rfl rfl ?_
      refine g_getA (q2 := 182) 60 (gd rfl) rfl rfl rfl rfl rfl ?_
      refine g_aload_n 61 (gd rfl) rfl rfl ?_
      refine g_getI 64 (gd rfl) rfl rfl rfl (fun z90 e91 => ?_)
      have q92 : z20 = z90 := (e21).trans e91.symm
      subst q92
      refine g_aload_n 65 (gd rfl) rfl rfl ?_
      refine g_getL 68 (gd rfl) rfl rfl rfl (fun z93 e94 => ?_)
      refine g_aload_n 69 (gd rfl) rfl rfl ?_
      refine g_getZ 72 (gd rfl) rfl rfl rfl (fun z95 e96 => ?_)
      have i97 := inv_F hI89 0 1 rfl e96
      refine g_if_eq 75 87 (gd rfl) rfl rfl (fun c98 => ?_) (fun c98 => ?_)
      · skip
        have i99 := z_eq 0 0 c98 i97 rfl
        refine g_lconst 0 88 (gd rfl) rfl rfl ?_
        refine g_lor 89 (gd rfl) rfl (fun z100 e101 => ?_)
        refine g_lastore 90 (gd rfl) rfl (n := 12) rfl (in_ix i22 rfl) ?_
        have hI102 := inv_sL (q := 182) (j := z20.toNatClampNeg) (x := z100) hI89
        refine g_aload_n 91 (gd rfl) rfl rfl ?_
        refine g_getA (q2 := 180) 94 (gd rfl) rfl rfl rfl rfl rfl ?_
        refine g_aload_n 95 (gd rfl) rfl rfl ?_
        refine g_getI 98 (gd rfl) rfl rfl rfl (fun z103 e104 => ?_)
        have q105 : z20 = z103 := (e21).trans e104.symm
        subst q105
        refine g_aload_n 99 (gd rfl) rfl rfl ?_
        refine g_getA (q2 := 180) 102 (gd rfl) rfl rfl rfl rfl rfl ?_
        refine g_aload_n 103 (gd rfl) rfl rfl ?_
        refine g_getI 106 (gd rfl) rfl rfl rfl (fun z106 e107 => ?_)
        have q108 : z20 = z106 := (e21).trans e107.symm
        subst q108
        refine g_baload 107 (gd rfl) rfl (n := 12) rfl (in_ix i22 rfl) (fun z109 e110 => ?_)
        have q111 : z28 = z109 := (e29).trans e110.symm
        subst q111
        refine g_if_eq 110 121 (gd rfl) rfl rfl (fun c112 => ?_) (fun c112 => ?_)
        · skip
          exact zn_eq c112 i84 rfl
        · skip
          refine g_aload_n 111 (gd rfl) rfl rfl ?_
          refine g_getZ 114 (gd rfl) rfl rfl rfl (fun z113 e114 => ?_)
          have q115 : z95 = z113 := (e96).trans e114.symm
          subst q115
          refine g_if_eq 117 121 (gd rfl) rfl rfl (fun c116 => ?_) (fun c116 => ?_)
          · skip
            refine g_iconst 0 122 (gd rfl) rfl rfl ?_
            refine g_bastore 123 (gd rfl) rfl (n := 12) rfl (in_ix i22 rfl) ?_
            have hI117 := inv_sI (q := 180) (j := z20.toNatClampNeg) hI102 rfl (in_w 0 1 (nar01 (in_w 0 1 (in_c 0 rfl) rfl)) rfl)
            refine g_aload_n 124 (gd rfl) rfl rfl ?_
            refine g_iconst 0 125 (gd rfl) rfl rfl ?_
            refine g_putZ 128 (gd rfl) rfl rfl rfl rfl (in01 (in_w 0 1 (in_c 0 rfl) rfl)) ?_
            have hI118 := inv_sF (q := 109) (j := 97) hI117 rfl (in_w 0 1 (in_c 0 rfl) rfl)
            refine g_aload_n 129 (gd rfl) rfl rfl ?_
            refine g_iconst 0 130 (gd rfl) rfl rfl ?_
            refine g_putZ 133 (gd rfl) rfl rfl rfl rfl (in01 (in_w 0 1 (in_c 0 rfl) rfl)) ?_
            have hI119 := inv_sF (q := 109) (j := 98) hI118 rfl (in_w 0 1 (in_c 0 rfl) rfl)
            exact g_return (gd rfl) rfl (hP _ _ ⟨(sF (sF (sI (sL (sL s16 181 z20.toNatClampNeg z87) 182 z20.toNatClampNeg z100) 180 z20.toNatClampNeg (vp_nar .boolean (Int32.ofInt 0))) 109 97 (Int32.ofInt 0)) 109 98 (Int32.ofInt 0)), hI119, rfl, rfl⟩)
          · skip
            exact zn_ne c116 i99 rfl
      · skip
        have i120 := z_ne 1 1 c98 i97 rfl
        refine g_aload_n 76 (gd rfl) rfl rfl ?_
        refine g_getA (q2 := 182) 79 (gd rfl) rfl rfl rfl rfl rfl ?_
        refine g_aload_n 80 (gd rfl) rfl rfl ?_
        refine g_getI 83 (gd rfl) rfl rfl rfl (fun z121 e122 => ?_)
        have q123 : z20 = z121 := (e21).trans e122.symm
        subst q123
        refine g_laload 84 (gd rfl) rfl (n := 12) rfl (in_ix i22 rfl) (fun z124 e125 => ?_)
        refine g_goto 88 (gd rfl) rfl ?_
        refine g_lor 89 (gd rfl) rfl (fun z126 e127 => ?_)
        refine g_lastore 90 (gd rfl) rfl (n := 12) rfl (in_ix i22 rfl) ?_
        have hI128 := inv_sL (q := 182) (j := z20.toNatClampNeg) (x := z126) hI89
        refine g_aload_n 91 (gd rfl) rfl rfl ?_
        refine g_getA (q2 := 180) 94 (gd rfl) rfl rfl rfl rfl rfl ?_
        refine g_aload_n 95 (gd rfl) rfl rfl ?_
        refine g_getI 98 (gd rfl) rfl rfl rfl (fun z129 e130 => ?_)
        have q131 : z20 = z129 := (e21).trans e130.symm
        subst q131
        refine g_aload_n 99 (gd rfl) rfl rfl ?_
        refine g_getA (q2 := 180) 102 (gd rfl) rfl rfl rfl rfl rfl ?_
        refine g_aload_n 103 (gd rfl) rfl rfl ?_
        refine g_getI 106 (gd rfl) rfl rfl rfl (fun z132 e133 => ?_)
        have q134 : z20 = z132 := (e21).trans e133.symm
        subst q134
        refine g_baload 107 (gd rfl) rfl (n := 12) rfl (in_ix i22 rfl) (fun z135 e136 => ?_)
        have q137 : z28 = z135 := (e29).trans e136.symm
        subst q137
        refine g_if_eq 110 121 (gd rfl) rfl rfl (fun c138 => ?_) (fun c138 => ?_)
        · skip
          exact zn_eq c138 i84 rfl
        · skip
          refine g_aload_n 111 (gd rfl) rfl rfl ?_
          refine g_getZ 114 (gd rfl) rfl rfl rfl (fun z139 e140 => ?_)
          have q141 : z95 = z139 := (e96).trans e140.symm
          subst q141
          refine g_if_eq 117 121 (gd rfl) rfl rfl (fun c142 => ?_) (fun c142 => ?_)
          · skip
            exact zn_eq c142 i120 rfl
          · skip
            refine g_iconst 1 118 (gd rfl) rfl rfl ?_
            refine g_goto 122 (gd rfl) rfl ?_
            refine g_bastore 123 (gd rfl) rfl (n := 12) rfl (in_ix i22 rfl) ?_
            have hI143 := inv_sI (q := 180) (j := z20.toNatClampNeg) hI128 rfl (in_w 0 1 (nar01 (in_w 0 1 (in_c 1 rfl) rfl)) rfl)
            refine g_aload_n 124 (gd rfl) rfl rfl ?_
            refine g_iconst 0 125 (gd rfl) rfl rfl ?_
            refine g_putZ 128 (gd rfl) rfl rfl rfl rfl (in01 (in_w 0 1 (in_c 0 rfl) rfl)) ?_
            have hI144 := inv_sF (q := 109) (j := 97) hI143 rfl (in_w 0 1 (in_c 0 rfl) rfl)
            refine g_aload_n 129 (gd rfl) rfl rfl ?_
            refine g_iconst 0 130 (gd rfl) rfl rfl ?_
            refine g_putZ 133 (gd rfl) rfl rfl rfl rfl (in01 (in_w 0 1 (in_c 0 rfl) rfl)) ?_
            have hI145 := inv_sF (q := 109) (j := 98) hI144 rfl (in_w 0 1 (in_c 0 rfl) rfl)
            exact g_return (gd rfl) rfl (hP _ _ ⟨(sF (sF (sI (sL (sL s16 181 z20.toNatClampNeg z87) 182 z20.toNatClampNeg z126) 180 z20.toNatClampNeg (vp_nar .boolean (Int32.ofInt 1))) 109 97 (Int32.ofInt 0)) 109 98 (Int32.ofInt 0)), hI145, rfl, rfl⟩)

/-- GraphHouseModel.endSequence -/
theorem k_385 {Z : AmZ} {A : Nat → Nat} {s : GS} {ex : va_W} {d : Nat} {X : AmX}  (hd : 3 ≤ d) (hI : Inv s)  : GC Z d 385 [.ref (A 109)] (WW Z A s ++ ex) 0 0 (fun v u => ∃ t : GS, Inv t ∧ v = none ∧ u = WW Z A t ++ ex) X := by
  intro post xp hP hX
  refine g_enter2 (k := 385) (N := 900) (by omega) rfl (Nat.le_of_ble_eq_true rfl) ?_
  refine g_aload_n 1 (gd rfl) rfl rfl ?_
  refine g_callv (X := _) (As := []) (r := []) (b := A 109) (q := 109) 4 (gd rfl) rfl rfl rfl rfl rfl (ww_o rfl) (Nat.le_of_ble_eq_true rfl) (Nat.zero_le _) (Nat.zero_le _) (k_384 (by omega) hI ) (fun e u h => h) (fun v u h => ?_)
  obtain ⟨s1, hI2, rfl, rfl⟩ := h
  show GG _ _ _ _ _ _ _ _ [] _ _ _
  refine g_aload_n 5 (gd rfl) rfl rfl ?_
  refine g_getA (q2 := 176) 8 (gd rfl) rfl rfl rfl rfl rfl ?_
  refine g_aload_n 9 (gd rfl) rfl rfl ?_
  refine g_getI 12 (gd rfl) rfl rfl rfl (fun z5 e6 => ?_)
  have i7 := inv_F hI2 0 10 rfl e6
  refine g_iconst 1 13 (gd rfl) rfl rfl ?_
  refine g_bastore 14 (gd rfl) rfl (n := 12) rfl (in_ix i7 rfl) ?_
  have hI8 := inv_sI (q := 176) (j := z5.toNatClampNeg) hI2 rfl (in_w 0 1 (nar01 (in_w 0 1 (in_c 1 rfl) rfl)) rfl)
  refine g_aload_n 15 (gd rfl) rfl rfl ?_
  refine g_getA (q2 := 177) 18 (gd rfl) rfl rfl rfl rfl rfl ?_
  refine g_aload_n 19 (gd rfl) rfl rfl ?_
  refine g_getI 22 (gd rfl) rfl rfl rfl (fun z9 e10 => ?_)
  have q11 : z5 = z9 := (e6).trans e10.symm
  subst q11
  refine g_aload_n 23 (gd rfl) rfl rfl ?_
  refine g_getA (q2 := 177) 26 (gd rfl) rfl rfl rfl rfl rfl ?_
  refine g_aload_n 27 (gd rfl) rfl rfl ?_
  refine g_getI 30 (gd rfl) rfl rfl rfl (fun z12 e13 => ?_)
  have q14 : z5 = z12 := (e6).trans e13.symm
  subst q14
  refine g_baload 31 (gd rfl) rfl (n := 12) rfl (in_ix i7 rfl) (fun z15 e16 => ?_)
  have i17 := inv_I hI8 (n := 12) (t := 3) 0 1 rfl (in_ix i7 rfl) rfl e16
  refine g_if_ne 34 46 (gd rfl) rfl rfl (fun c18 => ?_) (fun c18 => ?_)
  · skip
    have i19 := z_ne 1 1 c18 i17 rfl
    refine g_iconst 1 47 (gd rfl) rfl rfl ?_
    refine g_goto 51 (gd rfl) rfl ?_
    refine g_bastore 52 (gd rfl) rfl (n := 12) rfl (in_ix i7 rfl) ?_
    have hI20 := inv_sI (q := 177) (j := z5.toNatClampNeg) hI8 rfl (in_w 0 1 (nar01 (in_w 0 1 (in_c 1 rfl) rfl)) rfl)
    refine g_aload_n 53 (gd rfl) rfl rfl ?_
    refine g_getA (q2 := 178) 56 (gd rfl) rfl rfl rfl rfl rfl ?_
    refine g_aload_n 57 (gd rfl) rfl rfl ?_
    refine g_getI 60 (gd rfl) rfl rfl rfl (fun z21 e22 => ?_)
    have q23 : z5 = z21 := (e6).trans e22.symm
    subst q23
    refine g_dup2 61 (gd rfl) rfl rfl rfl ?_
    refine g_laload 62 (gd rfl) rfl (n := 12) rfl (in_ix i7 rfl) (fun z24 e25 => ?_)
    refine g_aload_n 63 (gd rfl) rfl rfl ?_
    refine g_getA (q2 := 181) 66 (gd rfl) rfl rfl rfl rfl rfl ?_
    refine g_aload_n 67 (gd rfl) rfl rfl ?_
    refine g_getI 70 (gd rfl) rfl rfl rfl (fun z26 e27 => ?_)
    have q28 : z5 = z26 := (e6).trans e27.symm
    subst q28
    refine g_laload 71 (gd rfl) rfl (n := 12) rfl (in_ix i7 rfl) (fun z29 e30 => ?_)
    refine g_lor 72 (gd rfl) rfl (fun z31 e32 => ?_)
    refine g_lastore 73 (gd rfl) rfl (n := 12) rfl (in_ix i7 rfl) ?_
    have hI33 := inv_sL (q := 178) (j := z5.toNatClampNeg) (x := z31) hI20
    refine g_aload_n 74 (gd rfl) rfl rfl ?_
    refine g_getA (q2 := 179) 77 (gd rfl) rfl rfl rfl rfl rfl ?_
    refine g_aload_n 78 (gd rfl) rfl rfl ?_
    refine g_getI 81 (gd rfl) rfl rfl rfl (fun z34 e35 => ?_)
    have q36 : z5 = z34 := (e6).trans e35.symm
    subst q36
    refine g_dup2 82 (gd rfl) rfl rfl rfl ?_
    refine g_laload 83 (gd rfl) rfl (n := 12) rfl (in_ix i7 rfl) (fun z37 e38 => ?_)
    refine g_aload_n 84 (gd rfl) rfl rfl ?_
    refine g_getA (q2 := 182) 87 (gd rfl) rfl rfl rfl rfl rfl ?_
    refine g_aload_n 88 (gd rfl) rfl rfl ?_
    refine g_getI 91 (gd rfl) rfl rfl rfl (fun z39 e40 => ?_)
    have q41 : z5 = z39 := (e6).trans e40.symm
    subst q41
    refine g_laload 92 (gd rfl) rfl (n := 12) rfl (in_ix i7 rfl) (fun z42 e43 => ?_)
    refine g_lor 93 (gd rfl) rfl (fun z44 e45 => ?_)
    refine g_lastore 94 (gd rfl) rfl (n := 12) rfl (in_ix i7 rfl) ?_
    have hI46 := inv_sL (q := 179) (j := z5.toNatClampNeg) (x := z44) hI33
    exact g_return (gd rfl) rfl (hP _ _ ⟨(sL (sL (sI (sI s1 176 z5.toNatClampNeg (vp_nar .boolean (Int32.ofInt 1))) 177 z5.toNatClampNeg (vp_nar .boolean (Int32.ofInt 1))) 178 z5.toNatClampNeg z31) 179 z5.toNatClampNeg z44), hI46, rfl, rfl⟩)
  · skip
    have i47 := z_eq 0 0 c18 i17 rfl
    refine g_aload_n 35 (gd rfl) rfl rfl ?_
    refine g_getA (q2 := 180) 38 (gd rfl) rfl rfl rfl rfl rfl ?_
    refine g_aload_n 39 (gd rfl) rfl rfl ?_
    refine g_getI 42 (gd rfl) rfl rfl rfl (fun z48 e49 => ?_)
    have q50 : z5 = z48 := (e6).trans e49.symm
    subst q50
    refine g_baload 43 (gd rfl) rfl (n := 12) rfl (in_ix i7 rfl) (fun z51 e52 => ?_)
    have i53 := inv_I hI8 (n := 12) (t := 3) 0 1 rfl (in_ix i7 rfl) rfl e52
    refine g_if_eq 46 50 (gd rfl) rfl rfl (fun c54 => ?_) (fun c54 => ?_)
    · skip
      have i55 := z_eq 0 0 c54 i53 rfl
      refine g_iconst 0 51 (gd rfl) rfl rfl ?_
      refine g_bastore 52 (gd rfl) rfl (n := 12) rfl (in_ix i7 rfl) ?_
      have hI56 := inv_sI (q := 177) (j := z5.toNatClampNeg) hI8 rfl (in_w 0 1 (nar01 (in_w 0 1 (in_c 0 rfl) rfl)) rfl)
      refine g_aload_n 53 (gd rfl) rfl rfl ?_
      refine g_getA (q2 := 178) 56 (gd rfl) rfl rfl rfl rfl rfl ?_
      refine g_aload_n 57 (gd rfl) rfl rfl ?_
      refine g_getI 60 (gd rfl) rfl rfl rfl (fun z57 e58 => ?_)
      have q59 : z5 = z57 := (e6).trans e58.symm
      subst q59
      refine g_dup2 61 (gd rfl) rfl rfl rfl ?_
      refine g_laload 62 (gd rfl) rfl (n := 12) rfl (in_ix i7 rfl) (fun z60 e61 => ?_)
      refine g_aload_n 63 (gd rfl) rfl rfl ?_
      refine g_getA (q2 := 181) 66 (gd rfl) rfl rfl rfl rfl rfl ?_
      refine g_aload_n 67 (gd rfl) rfl rfl ?_
      refine g_getI 70 (gd rfl) rfl rfl rfl (fun z62 e63 => ?_)
      have q64 : z5 = z62 := (e6).trans e63.symm
      subst q64
      refine g_laload 71 (gd rfl) rfl (n := 12) rfl (in_ix i7 rfl) (fun z65 e66 => ?_)
      refine g_lor 72 (gd rfl) rfl (fun z67 e68 => ?_)
      refine g_lastore 73 (gd rfl) rfl (n := 12) rfl (in_ix i7 rfl) ?_
      have hI69 := inv_sL (q := 178) (j := z5.toNatClampNeg) (x := z67) hI56
      refine g_aload_n 74 (gd rfl) rfl rfl ?_
      refine g_getA (q2 := 179) 77 (gd rfl) rfl rfl rfl rfl rfl ?_
      refine g_aload_n 78 (gd rfl) rfl rfl ?_
      refine g_getI 81 (gd rfl) rfl rfl rfl (fun z70 e71 => ?_)
      have q72 : z5 = z70 := (e6).trans e71.symm
      subst q72
      refine g_dup2 82 (gd rfl) rfl rfl rfl ?_
      refine g_laload 83 (gd rfl) rfl (n := 12) rfl (in_ix i7 rfl) (fun z73 e74 => ?_)
      refine g_aload_n 84 (gd rfl) rfl rfl ?_
      refine g_getA (q2 := 182) 87 (gd rfl) rfl rfl rfl rfl rfl ?_
      refine g_aload_n 88 (gd rfl) rfl rfl ?_
      refine g_getI 91 (gd rfl) rfl rfl rfl (fun z75 e76 => ?_)
      have q77 : z5 = z75 := (e6).trans e76.symm
      subst q77
      refine g_laload 92 (gd rfl) rfl (n := 12) rfl (in_ix i7 rfl) (fun z78 e79 => ?_)
      refine g_lor 93 (gd rfl) rfl (fun z80 e81 => ?_)
      refine g_lastore 94 (gd rfl) rfl (n := 12) rfl (in_ix i7 rfl) ?_
      have hI82 := inv_sL (q := 179) (j := z5.toNatClampNeg) (x := z80) hI69
      exact g_return (gd rfl) rfl (hP _ _ ⟨(sL (sL (sI (sI s1 176 z5.toNatClampNeg (vp_nar .boolean (Int32.ofInt 1))) 177 z5.toNatClampNeg (vp_nar .boolean (Int32.ofInt 0))) 178 z5.toNatClampNeg z67) 179 z5.toNatClampNeg z80), hI82, rfl, rfl⟩)
    · skip
      have i83 := z_ne 1 1 c54 i53 rfl
      refine g_iconst 1 47 (gd rfl) rfl rfl ?_
      refine g_goto 51 (gd rfl) rfl ?_
      refine g_bastore 52 (gd rfl) rfl (n := 12) rfl (in_ix i7 rfl) ?_
      have hI84 := inv_sI (q := 177) (j := z5.toNatClampNeg) hI8 rfl (in_w 0 1 (nar01 (in_w 0 1 (in_c 1 rfl) rfl)) rfl)
      refine g_aload_n 53 (gd rfl) rfl rfl ?_
      refine g_getA (q2 := 178) 56 (gd rfl) rfl rfl rfl rfl rfl ?_
      refine g_aload_n 57 (gd rfl) rfl rfl ?_
      refine g_getI 60 (gd rfl) rfl rfl rfl (fun z85 e86 => ?_)
      have q87 : z5 = z85 := (e6).trans e86.symm
      subst q87
      refine g_dup2 61 (gd rfl) rfl rfl rfl ?_
      refine g_laload 62 (gd rfl) rfl (n := 12) rfl (in_ix i7 rfl) (fun z88 e89 => ?_)
      refine g_aload_n 63 (gd rfl) rfl rfl ?_
      refine g_getA (q2 := 181) 66 (gd rfl) rfl rfl rfl rfl rfl ?_
      refine g_aload_n 67 (gd rfl) rfl rfl ?_
      refine g_getI 70 (gd rfl) rfl rfl rfl (fun z90 e91 => ?_)
      have q92 : z5 = z90 := (e6).trans e91.symm
      subst q92
      refine g_laload 71 (gd rfl) rfl (n := 12) rfl (in_ix i7 rfl) (fun z93 e94 => ?_)
      refine g_lor 72 (gd rfl) rfl (fun z95 e96 => ?_)
      refine g_lastore 73 (gd rfl) rfl (n := 12) rfl (in_ix i7 rfl) ?_
      have hI97 := inv_sL (q := 178) (j := z5.toNatClampNeg) (x := z95) hI84
      refine g_aload_n 74 (gd rfl) rfl rfl ?_
      refine g_getA (q2 := 179) 77 (gd rfl) rfl rfl rfl rfl rfl ?_
      refine g_aload_n 78 (gd rfl) rfl rfl ?_
      refine g_getI 81 (gd rfl) rfl rfl rfl (fun z98 e99 => ?_)
      have q100 : z5 = z98 := (e6).trans e99.symm
      subst q100
      refine g_dup2 82 (gd rfl) rfl rfl rfl ?_
      refine g_laload 83 (gd rfl) rfl (n := 12) rfl (in_ix i7 rfl) (fun z101 e102 => ?_)
      refine g_aload_n 84 (gd rfl) rfl rfl ?_
      refine g_getA (q2 := 182) 87 (gd rfl) rfl rfl rfl rfl rfl ?_
      refine g_aload_n 88 (gd rfl) rfl rfl ?_
      refine g_getI 91 (gd rfl) rfl rfl rfl (fun z103 e104 => ?_)
      have q105 : z5 = z103 := (e6).trans e104.symm
      subst q105
      refine g_laload 92 (gd rfl) rfl (n := 12) rfl (in_ix i7 rfl) (fun z106 e107 => ?_)
      refine g_lor 93 (gd rfl) rfl (fun z108 e109 => ?_)
      refine g_lastore 94 (gd rfl) rfl (n := 12) rfl (in_ix i7 rfl) ?_
      have hI110 := inv_sL (q := 179) (j := z5.toNatClampNeg) (x := z108) hI97
      exact g_return (gd rfl) rfl (hP _ _ ⟨(sL (sL (sI (sI s1 176 z5.toNatClampNeg (vp_nar .boolean (Int32.ofInt 1))) 177 z5.toNatClampNeg (vp_nar .boolean (Int32.ofInt 1))) 178 z5.toNatClampNeg z95) 179 z5.toNatClampNeg z108), hI110, rfl, rfl⟩)

/-- GraphHouseModel.nextOfProgram -/
theorem k_392 {Z : AmZ} {A : Nat → Nat} {s : GS} {ex : va_W} {d : Nat} {X : AmX} {u_109_27 : Int32} {u_109_22 : Int32} (hd : 4 ≤ d) (hI : Inv s) (e_109_27 : u_109_27 = s.2.2.1 109 27) (e_109_22 : u_109_22 = s.2.2.1 109 22) (p_0 : (u_109_27).toInt ≤ (u_109_22).toInt) : GC Z d 392 [.ref (A 109)] (WW Z A s ++ ex) 0 0 (fun v u => ∃ t : GS, Inv t ∧ (t.2.2.1 109 27).toInt ≤ (t.2.2.1 109 22).toInt ∧ v = none ∧ u = WW Z A t ++ ex) X := by
  intro post xp hP hX
  have ct198 : ∀ (s : GS) (y198_1 : Int32) (y198_2 : Int32) (w198_109_27 : Int32) (w198_109_22 : Int32), Inv s → In y198_1 0 126 → In y198_2 0 1 → w198_109_27 = s.2.2.1 109 27 → w198_109_22 = s.2.2.1 109 22 → (w198_109_27).toInt ≤ (w198_109_22).toInt → GG Z (d - 1) 392 post (gx xp) (901) 198 (fun j => xlook j [(0, .ref (A 109)), (1, .int y198_1), (2, .int y198_2)]) [] (WW Z A s ++ ex) 0 0 := by
    intro s y198_1 y198_2 w198_109_27 w198_109_22 hI j198_1 j198_2 v198_109_27 v198_109_22 n198_0
    have n1 : (w198_109_27).toInt ≤ (w198_109_22).toInt := by have a0 := j198_2; unfold In at a0; have a1 := j198_1; unfold In at a1; have a2 := (inv_F hI 0 1000 rfl v198_109_22); unfold In at a2; have a3 := (inv_F hI 0 1000 rfl v198_109_27); unfold In at a3; omega
    have n2 : (s.2.2.1 109 27).toInt ≤ (s.2.2.1 109 22).toInt := by have b0 : w198_109_27 = s.2.2.1 109 27 := v198_109_27; have b1 : w198_109_22 = s.2.2.1 109 22 := v198_109_22; rw [← b0, ← b1]; exact n1
    exact g_return (gd rfl) rfl (hP _ _ ⟨s, hI, n2, rfl, rfl⟩)
  have ct171 : ∀ (s : GS) (y171_1 : Int32) (w171_109_27 : Int32) (w171_109_22 : Int32), Inv s → In y171_1 40 61 → w171_109_27 = s.2.2.1 109 27 → w171_109_22 = s.2.2.1 109 22 → (w171_109_27).toInt ≤ (w171_109_22).toInt → GG Z (d - 1) 392 post (gx xp) (1802) 171 (fun j => xlook j [(0, .ref (A 109)), (1, .int y171_1)]) [] (WW Z A s ++ ex) 0 0 := by
    intro s y171_1 w171_109_27 w171_109_22 hI j171_1 v171_109_27 v171_109_22 n171_0
    refine g_iconst 1 172 (gd rfl) rfl rfl ?_
    refine g_goto 176 (gd rfl) rfl ?_
    refine g_istore_n 177 (gd rfl) rfl (Nat.le_of_ble_eq_true rfl) ?_
    refine g_aload_n 178 (gd rfl) rfl rfl ?_
    refine g_getI 181 (gd rfl) rfl rfl rfl (fun z3 e4 => ?_)
    refine g_iconst 3 182 (gd rfl) rfl rfl ?_
    refine g_cmp_ne 185 198 (gd rfl) rfl rfl (fun c5 => ?_) (fun c5 => ?_)
    · skip
      have n6 : (w171_109_27).toInt ≤ (w171_109_22).toInt := by have a0 := (in_c 1 rfl); unfold In at a0; have a1 := j171_1; unfold In at a1; have a2 := (inv_F hI 0 1000 rfl v171_109_22); unfold In at a2; have a3 := (inv_F hI 0 1000 rfl v171_109_27); unfold In at a3; omega
      exact gg_w (by omega) (gg_f (gf_cons rfl (gf_cons rfl (gf_cons rfl gf_nil))) (ct198 s y171_1 (Int32.ofInt 1) w171_109_27 w171_109_22 hI (in_w 0 126 j171_1 rfl) (in_w 0 1 (in_c 1 rfl) rfl) (v171_109_27) (v171_109_22) n6))
    · skip
      have i7 := r_eq1 3 3 c5 (i_rng z3) (in_c 3 rfl) rfl
      refine g_iload_n 186 (gd rfl) rfl rfl ?_
      refine g_if_ne 189 198 (gd rfl) rfl rfl (fun c8 => ?_) (fun c8 => ?_)
      · skip
        have n9 : (w171_109_27).toInt ≤ (w171_109_22).toInt := by have a0 := (in_c 1 rfl); unfold In at a0; have a1 := j171_1; unfold In at a1; have a2 := i7; unfold In at a2; have a3 := (inv_F hI 0 1000 rfl v171_109_22); unfold In at a3; have a4 := (inv_F hI 0 1000 rfl v171_109_27); unfold In at a4; omega
        exact gg_w (by omega) (gg_f (gf_cons rfl (gf_cons rfl (gf_cons rfl gf_nil))) (ct198 s y171_1 (Int32.ofInt 1) w171_109_27 w171_109_22 hI (in_w 0 126 j171_1 rfl) (in_w 0 1 (in_c 1 rfl) rfl) (v171_109_27) (v171_109_22) n9))
      · skip
        exact zn_eq c8 (in_c 1 rfl) rfl
  have ct38 : ∀ (s : GS) (w38_109_27 : Int32) (w38_109_22 : Int32), Inv s → w38_109_27 = s.2.2.1 109 27 → w38_109_22 = s.2.2.1 109 22 → (w38_109_27).toInt ≤ (w38_109_22).toInt → GG Z (d - 1) 392 post (gx xp) (2703) 38 (fun j => xlook j [(0, .ref (A 109))]) [] (WW Z A s ++ ex) 0 0 := by
    intro s w38_109_27 w38_109_22 hI v38_109_27 v38_109_22 n38_0
    refine g_aload_n 39 (gd rfl) rfl rfl ?_
    refine g_aload_n 40 (gd rfl) rfl rfl ?_
    refine g_getI 43 (gd rfl) rfl rfl rfl (fun z10 e11 => ?_)
    have q12 : w38_109_27 = z10 := (v38_109_27).trans e11.symm
    subst q12
    refine g_putI 46 (gd rfl) rfl rfl rfl rfl ?_
    have hI13 := inv_sF (q := 109) (j := 29) hI rfl (in_w 0 1000 (inv_F hI 0 1000 rfl v38_109_27) rfl)
    refine g_aload_n 47 (gd rfl) rfl rfl ?_
    refine g_getI 50 (gd rfl) rfl rfl rfl (fun z14 e15 => ?_)
    have q16 : w38_109_27 = z14 := (sF_ne rfl (v38_109_27)).trans e15.symm
    subst q16
    refine g_aload_n 51 (gd rfl) rfl rfl ?_
    refine g_getI 54 (gd rfl) rfl rfl rfl (fun z17 e18 => ?_)
    have q19 : w38_109_22 = z17 := (sF_ne rfl (v38_109_22)).trans e18.symm
    subst q19
    refine g_cmp_ne 57 63 (gd rfl) rfl rfl (fun c20 => ?_) (fun c20 => ?_)
    · skip
      refine g_aload_n 64 (gd rfl) rfl rfl ?_
      refine g_getA (q2 := 125) 67 (gd rfl) rfl rfl rfl rfl rfl ?_
      refine g_aload_n 68 (gd rfl) rfl rfl ?_
      refine g_getI 71 (gd rfl) rfl rfl rfl (fun z21 e22 => ?_)
      have q23 : w38_109_27 = z21 := (sF_ne rfl (v38_109_27)).trans e22.symm
      subst q23
      have i24 : In w38_109_27 0 999 := by have a0 := (inv_F hI 0 1000 rfl v38_109_27); unfold In at a0; have a1 := (inv_F hI 0 1000 rfl v38_109_22); unfold In at a1; exact ⟨by omega, by omega⟩
      refine g_iaload 72 (gd rfl) rfl (n := 1000) rfl (in_ix i24 rfl) (fun z25 e26 => ?_)
      have i27 := inv_I hI13 (n := 1000) (t := 0) 0 126 rfl (in_ix i24 rfl) rfl e26
      refine g_istore_n 73 (gd rfl) rfl (Nat.le_of_ble_eq_true rfl) ?_
      refine g_aload_n 74 (gd rfl) rfl rfl ?_
      refine g_iload_n 75 (gd rfl) rfl rfl ?_
      refine g_putI 78 (gd rfl) rfl rfl rfl rfl ?_
      have hI28 := inv_sF (q := 109) (j := 30) hI13 rfl (in_w (-2147483648) 2147483647 i27 rfl)
      refine g_iload_n 79 (gd rfl) rfl rfl ?_
      refine g_calls (As := [.int z25]) (r := []) 82 (gd rfl) rfl rfl rfl rfl rfl (Nat.le_of_ble_eq_true rfl) (mc := 0) (ms := 0) (Nat.zero_le _) (Nat.zero_le _) (P := fun v u => _) ?_ (fun v u h => h)
      intro po29 xx30 hp31 hx32
      refine g_enter2 (k := 297) (N := 300) (by omega) rfl (Nat.le_of_ble_eq_true rfl) ?_
      refine g_iload_n 1 (gd rfl) rfl rfl ?_
      refine g_bipush 48 3 (gd rfl) rfl rfl ?_
      refine g_cmp_lt 6 16 (gd rfl) rfl rfl (fun c33 => ?_) (fun c33 => ?_)
      · skip
        have i34 := r_lt1 0 47 c33 i27 (in_c 48 rfl) rfl
        refine g_iconst 0 17 (gd rfl) rfl rfl ?_
        refine g_ireturn (gd rfl) rfl (nb01 (in_w 0 1 (in_c 0 rfl) rfl)) (hp31 _ _ ?_)
        show GG _ _ _ _ _ _ _ _ [.int (Int32.ofInt 0)] _ _ _
        refine g_if_eq 85 97 (gd rfl) rfl rfl (fun c35 => ?_) (fun c35 => ?_)
        · skip
          refine g_aload_n 98 (gd rfl) rfl rfl ?_
          refine g_iload_n 99 (gd rfl) rfl rfl ?_
          refine g_calls (As := [.int z25]) (r := [.ref (A 109)]) 102 (gd rfl) rfl rfl rfl rfl rfl (Nat.le_of_ble_eq_true rfl) (mc := 0) (ms := 0) (Nat.zero_le _) (Nat.zero_le _) (P := fun v u => _) ?_ (fun v u h => h)
          intro po36 xx37 hp38 hx39
          refine g_enter2 (k := 296) (N := 300) (by omega) rfl (Nat.le_of_ble_eq_true rfl) ?_
          refine g_iload_n 1 (gd rfl) rfl rfl ?_
          refine g_bipush 97 3 (gd rfl) rfl rfl ?_
          refine g_cmp_lt 6 16 (gd rfl) rfl rfl (fun c40 => ?_) (fun c40 => ?_)
          · skip
            refine g_iconst 0 17 (gd rfl) rfl rfl ?_
            refine g_ireturn (gd rfl) rfl (nb01 (in_w 0 1 (in_c 0 rfl) rfl)) (hp38 _ _ ?_)
            show GG _ _ _ _ _ _ _ _ [.int (Int32.ofInt 0), .ref (A 109)] _ _ _
            refine g_if_eq 105 109 (gd rfl) rfl rfl (fun c41 => ?_) (fun c41 => ?_)
            · skip
              refine g_iconst 3 110 (gd rfl) rfl rfl ?_
              refine g_putI 113 (gd rfl) rfl rfl rfl rfl ?_
              have hI42 := inv_sF (q := 109) (j := 28) hI28 rfl (in_w (-2147483648) 2147483647 (in_c 3 rfl) rfl)
              refine g_aload_n 114 (gd rfl) rfl rfl ?_
              refine g_dup 115 (gd rfl) rfl rfl ?_
              refine g_getI 118 (gd rfl) rfl rfl rfl (fun z43 e44 => ?_)
              have q45 : w38_109_27 = z43 := (sF_ne rfl (sF_ne rfl (sF_ne rfl (v38_109_27)))).trans e44.symm
              subst q45
              refine g_iconst 1 119 (gd rfl) rfl rfl ?_
              refine g_iadd 120 (gd rfl) rfl (fun z46 e47 => ?_)
              have i48 := in_add 1 1000 e47 i24 (in_c 1 rfl) rfl rfl
              refine g_putI 123 (gd rfl) rfl rfl rfl rfl ?_
              have hI49 := inv_sF (q := 109) (j := 27) hI42 rfl (in_w 0 1000 i48 rfl)
              refine g_iload_n 124 (gd rfl) rfl rfl ?_
              refine g_bipush 59 126 (gd rfl) rfl rfl ?_
              refine g_cmp_eq 129 171 (gd rfl) rfl rfl (fun c50 => ?_) (fun c50 => ?_)
              · skip
                exact n_eq c50 i34 (in_c 59 rfl) rfl
              · skip
                refine g_iload_n 130 (gd rfl) rfl rfl ?_
                refine g_bipush 60 132 (gd rfl) rfl rfl ?_
                refine g_cmp_eq 135 171 (gd rfl) rfl rfl (fun c51 => ?_) (fun c51 => ?_)
                · skip
                  exact n_eq c51 i34 (in_c 60 rfl) rfl
                · skip
                  refine g_iload_n 136 (gd rfl) rfl rfl ?_
                  refine g_bipush 61 138 (gd rfl) rfl rfl ?_
                  refine g_cmp_eq 141 171 (gd rfl) rfl rfl (fun c52 => ?_) (fun c52 => ?_)
                  · skip
                    exact n_eq c52 i34 (in_c 61 rfl) rfl
                  · skip
                    refine g_iload_n 142 (gd rfl) rfl rfl ?_
                    refine g_bipush 43 144 (gd rfl) rfl rfl ?_
                    refine g_cmp_eq 147 171 (gd rfl) rfl rfl (fun c53 => ?_) (fun c53 => ?_)
                    · skip
                      have i54 := r_eq1 43 43 c53 i34 (in_c 43 rfl) rfl
                      have n55 : (z46).toInt ≤ (w38_109_22).toInt := by have a0 := i54; unfold In at a0; have a1 := i48; unfold In at a1; have a2 := t_add e47 i24 (in_c 1 rfl) rfl; have a3 := (in_c 1 rfl); unfold In at a3; have a4 := i24; unfold In at a4; have a5 := (in_c 3 rfl); unfold In at a5; have a6 := (inv_F hI 0 1000 rfl v38_109_22); unfold In at a6; omega
                      exact gg_w (by omega) (gg_f (gf_cons rfl (gf_cons rfl gf_nil)) (ct171 (sF (sF (sF (sF s 109 29 w38_109_27) 109 30 z25) 109 28 (Int32.ofInt 3)) 109 27 z46) z25 z46 w38_109_22 hI49 (in_w 40 61 i54 rfl) (sF_get) (sF_ne rfl (sF_ne rfl (sF_ne rfl (sF_ne rfl (v38_109_22))))) n55))
                    · skip
                      refine g_iload_n 148 (gd rfl) rfl rfl ?_
                      refine g_bipush 45 150 (gd rfl) rfl rfl ?_
                      refine g_cmp_eq 153 171 (gd rfl) rfl rfl (fun c56 => ?_) (fun c56 => ?_)
                      · skip
                        have i57 := r_eq1 45 45 c56 i34 (in_c 45 rfl) rfl
                        have n58 : (z46).toInt ≤ (w38_109_22).toInt := by have a0 := i57; unfold In at a0; have a1 := i48; unfold In at a1; have a2 := t_add e47 i24 (in_c 1 rfl) rfl; have a3 := (in_c 1 rfl); unfold In at a3; have a4 := i24; unfold In at a4; have a5 := (in_c 3 rfl); unfold In at a5; have a6 := (inv_F hI 0 1000 rfl v38_109_22); unfold In at a6; omega
                        exact gg_w (by omega) (gg_f (gf_cons rfl (gf_cons rfl gf_nil)) (ct171 (sF (sF (sF (sF s 109 29 w38_109_27) 109 30 z25) 109 28 (Int32.ofInt 3)) 109 27 z46) z25 z46 w38_109_22 hI49 (in_w 40 61 i57 rfl) (sF_get) (sF_ne rfl (sF_ne rfl (sF_ne rfl (sF_ne rfl (v38_109_22))))) n58))
                      · skip
                        refine g_iload_n 154 (gd rfl) rfl rfl ?_
                        refine g_bipush 42 156 (gd rfl) rfl rfl ?_
                        refine g_cmp_eq 159 171 (gd rfl) rfl rfl (fun c59 => ?_) (fun c59 => ?_)
                        · skip
                          have i60 := r_eq1 42 42 c59 i34 (in_c 42 rfl) rfl
                          have n61 : (z46).toInt ≤ (w38_109_22).toInt := by have a0 := i60; unfold In at a0; have a1 := i48; unfold In at a1; have a2 := t_add e47 i24 (in_c 1 rfl) rfl; have a3 := (in_c 1 rfl); unfold In at a3; have a4 := i24; unfold In at a4; have a5 := (in_c 3 rfl); unfold In at a5; have a6 := (inv_F hI 0 1000 rfl v38_109_22); unfold In at a6; omega
                          exact gg_w (by omega) (gg_f (gf_cons rfl (gf_cons rfl gf_nil)) (ct171 (sF (sF (sF (sF s 109 29 w38_109_27) 109 30 z25) 109 28 (Int32.ofInt 3)) 109 27 z46) z25 z46 w38_109_22 hI49 (in_w 40 61 i60 rfl) (sF_get) (sF_ne rfl (sF_ne rfl (sF_ne rfl (sF_ne rfl (v38_109_22))))) n61))
                        · skip
                          refine g_iload_n 160 (gd rfl) rfl rfl ?_
                          refine g_bipush 40 162 (gd rfl) rfl rfl ?_
                          refine g_cmp_eq 165 171 (gd rfl) rfl rfl (fun c62 => ?_) (fun c62 => ?_)
                          · skip
                            have i63 := r_eq1 40 40 c62 i34 (in_c 40 rfl) rfl
                            have n64 : (z46).toInt ≤ (w38_109_22).toInt := by have a0 := i63; unfold In at a0; have a1 := i48; unfold In at a1; have a2 := t_add e47 i24 (in_c 1 rfl) rfl; have a3 := (in_c 1 rfl); unfold In at a3; have a4 := i24; unfold In at a4; have a5 := (in_c 3 rfl); unfold In at a5; have a6 := (inv_F hI 0 1000 rfl v38_109_22); unfold In at a6; omega
                            exact gg_w (by omega) (gg_f (gf_cons rfl (gf_cons rfl gf_nil)) (ct171 (sF (sF (sF (sF s 109 29 w38_109_27) 109 30 z25) 109 28 (Int32.ofInt 3)) 109 27 z46) z25 z46 w38_109_22 hI49 (in_w 40 61 i63 rfl) (sF_get) (sF_ne rfl (sF_ne rfl (sF_ne rfl (sF_ne rfl (v38_109_22))))) n64))
                          · skip
                            refine g_iload_n 166 (gd rfl) rfl rfl ?_
                            refine g_bipush 41 168 (gd rfl) rfl rfl ?_
                            refine g_cmp_ne 171 175 (gd rfl) rfl rfl (fun c65 => ?_) (fun c65 => ?_)
                            · skip
                              refine g_iconst 0 176 (gd rfl) rfl rfl ?_
                              refine g_istore_n 177 (gd rfl) rfl (Nat.le_of_ble_eq_true rfl) ?_
                              refine g_aload_n 178 (gd rfl) rfl rfl ?_
                              refine g_getI 181 (gd rfl) rfl rfl rfl (fun z66 e67 => ?_)
                              have q68 : (Int32.ofInt 3) = z66 := (sF_ne rfl (sF_get)).trans e67.symm
                              subst q68
                              refine g_iconst 3 182 (gd rfl) rfl rfl ?_
                              refine g_cmp_ne 185 198 (gd rfl) rfl rfl (fun c69 => ?_) (fun c69 => ?_)
                              · skip
                                exact n_ne c69 (in_c 3 rfl) (in_c 3 rfl) rfl
                              · skip
                                refine g_iload_n 186 (gd rfl) rfl rfl ?_
                                refine g_if_ne 189 198 (gd rfl) rfl rfl (fun c70 => ?_) (fun c70 => ?_)
                                · skip
                                  exact zn_ne c70 (in_c 0 rfl) rfl
                                · skip
                                  refine g_aload_n 190 (gd rfl) rfl rfl ?_
                                  refine g_iconst 1 191 (gd rfl) rfl rfl ?_
                                  refine g_aload_n 192 (gd rfl) rfl rfl ?_
                                  refine g_getI 195 (gd rfl) rfl rfl rfl (fun z71 e72 => ?_)
                                  have q73 : w38_109_27 = z71 := (sF_ne rfl (sF_ne rfl (sF_ne rfl (sF_get)))).trans e72.symm
                                  subst q73
                                  refine g_callv (X := _) (As := [.int (Int32.ofInt 1), .int w38_109_27]) (r := []) (b := A 109) (q := 109) 198 (gd rfl) rfl rfl rfl rfl rfl (ww_o rfl) (Nat.le_of_ble_eq_true rfl) (mc := 0) (ms := 0) (Nat.zero_le _) (Nat.zero_le _) (P := fun v u => _) ?_ (fun e u h => h) (fun v u h => h)
                                  intro po74 xx75 hp76 hx77
                                  refine g_enter2 (k := 298) (N := 300) (by omega) rfl (Nat.le_of_ble_eq_true rfl) ?_
                                  refine g_aload_n 1 (gd rfl) rfl rfl ?_
                                  refine g_getI 4 (gd rfl) rfl rfl rfl (fun z78 e79 => ?_)
                                  refine g_if_ne 7 17 (gd rfl) rfl rfl (fun c80 => ?_) (fun c80 => ?_)
                                  · skip
                                    refine g_return (gd rfl) rfl (hp76 _ _ ?_)
                                    show GG _ _ _ _ _ _ _ _ [] _ _ _
                                    have n81 : (z46).toInt ≤ (w38_109_22).toInt := by have a0 := (in_c 0 rfl); unfold In at a0; have a1 := i34; unfold In at a1; have a2 := i48; unfold In at a2; have a3 := t_add e47 i24 (in_c 1 rfl) rfl; have a4 := (in_c 1 rfl); unfold In at a4; have a5 := i24; unfold In at a5; have a6 := (in_c 3 rfl); unfold In at a6; have a7 := (inv_F hI 0 1000 rfl v38_109_22); unfold In at a7; omega
                                    exact gg_w (by omega) (gg_f (gf_cons rfl (gf_cons rfl (gf_cons rfl gf_nil))) (ct198 (sF (sF (sF (sF s 109 29 w38_109_27) 109 30 z25) 109 28 (Int32.ofInt 3)) 109 27 z46) z25 (Int32.ofInt 0) z46 w38_109_22 hI49 (in_w 0 126 i34 rfl) (in_w 0 1 (in_c 0 rfl) rfl) (sF_get) (sF_ne rfl (sF_ne rfl (sF_ne rfl (sF_ne rfl (v38_109_22))))) n81))
                                  · skip
                                    have i82 := z_eq 0 0 c80 (i_rng z78) rfl
                                    refine g_aload_n 8 (gd rfl) rfl rfl ?_
                                    refine g_iload_n 9 (gd rfl) rfl rfl ?_
                                    refine g_putI 12 (gd rfl) rfl rfl rfl rfl ?_
                                    have hI83 := inv_sF (q := 109) (j := 23) hI49 rfl (in_w (-2147483648) 2147483647 (in_c 1 rfl) rfl)
                                    refine g_aload_n 13 (gd rfl) rfl rfl ?_
                                    refine g_iload_n 14 (gd rfl) rfl rfl ?_
                                    refine g_putI 17 (gd rfl) rfl rfl rfl rfl ?_
                                    have hI84 := inv_sF (q := 109) (j := 24) hI83 rfl (in_w (-2147483648) 2147483647 i24 rfl)
                                    refine g_return (gd rfl) rfl (hp76 _ _ ?_)
                                    show GG _ _ _ _ _ _ _ _ [] _ _ _
                                    have n85 : (z46).toInt ≤ (w38_109_22).toInt := by have a0 := (in_c 0 rfl); unfold In at a0; have a1 := i34; unfold In at a1; have a2 := i24; unfold In at a2; have a3 := (in_c 1 rfl); unfold In at a3; have a4 := i48; unfold In at a4; have a5 := t_add e47 i24 (in_c 1 rfl) rfl; have a6 := (in_c 3 rfl); unfold In at a6; have a7 := (inv_F hI 0 1000 rfl v38_109_22); unfold In at a7; omega
                                    exact gg_w (by omega) (gg_f (gf_cons rfl (gf_cons rfl (gf_cons rfl gf_nil))) (ct198 (sF (sF (sF (sF (sF (sF s 109 29 w38_109_27) 109 30 z25) 109 28 (Int32.ofInt 3)) 109 27 z46) 109 23 (Int32.ofInt 1)) 109 24 w38_109_27) z25 (Int32.ofInt 0) z46 w38_109_22 hI84 (in_w 0 126 i34 rfl) (in_w 0 1 (in_c 0 rfl) rfl) (sF_ne rfl (sF_ne rfl (sF_get))) (sF_ne rfl (sF_ne rfl (sF_ne rfl (sF_ne rfl (sF_ne rfl (sF_ne rfl (v38_109_22))))))) n85))
                            · skip
                              have i86 := r_eq1 41 41 c65 i34 (in_c 41 rfl) rfl
                              have n87 : (z46).toInt ≤ (w38_109_22).toInt := by have a0 := i86; unfold In at a0; have a1 := i48; unfold In at a1; have a2 := t_add e47 i24 (in_c 1 rfl) rfl; have a3 := (in_c 1 rfl); unfold In at a3; have a4 := i24; unfold In at a4; have a5 := (in_c 3 rfl); unfold In at a5; have a6 := (inv_F hI 0 1000 rfl v38_109_22); unfold In at a6; omega
                              exact gg_w (by omega) (gg_f (gf_cons rfl (gf_cons rfl gf_nil)) (ct171 (sF (sF (sF (sF s 109 29 w38_109_27) 109 30 z25) 109 28 (Int32.ofInt 3)) 109 27 z46) z25 z46 w38_109_22 hI49 (in_w 40 61 i86 rfl) (sF_get) (sF_ne rfl (sF_ne rfl (sF_ne rfl (sF_ne rfl (v38_109_22))))) n87))
            · skip
              exact zn_ne c41 (in_c 0 rfl) rfl
          · skip
            exact n_le c40 (in_c 97 rfl) i34 rfl
        · skip
          exact zn_ne c35 (in_c 0 rfl) rfl
      · skip
        have i88 := r_le2 48 126 c33 (in_c 48 rfl) i27 rfl
        refine g_iload_n 7 (gd rfl) rfl rfl ?_
        refine g_bipush 57 9 (gd rfl) rfl rfl ?_
        refine g_cmp_gt 12 16 (gd rfl) rfl rfl (fun c89 => ?_) (fun c89 => ?_)
        · skip
          have i90 := r_lt2 58 126 c89 (in_c 57 rfl) i88 rfl
          refine g_iconst 0 17 (gd rfl) rfl rfl ?_
          refine g_ireturn (gd rfl) rfl (nb01 (in_w 0 1 (in_c 0 rfl) rfl)) (hp31 _ _ ?_)
          show GG _ _ _ _ _ _ _ _ [.int (Int32.ofInt 0)] _ _ _
          refine g_if_eq 85 97 (gd rfl) rfl rfl (fun c91 => ?_) (fun c91 => ?_)
          · skip
            refine g_aload_n 98 (gd rfl) rfl rfl ?_
            refine g_iload_n 99 (gd rfl) rfl rfl ?_
            refine g_calls (As := [.int z25]) (r := [.ref (A 109)]) 102 (gd rfl) rfl rfl rfl rfl rfl (Nat.le_of_ble_eq_true rfl) (mc := 0) (ms := 0) (Nat.zero_le _) (Nat.zero_le _) (P := fun v u => _) ?_ (fun v u h => h)
            intro po92 xx93 hp94 hx95
            refine g_enter2 (k := 296) (N := 300) (by omega) rfl (Nat.le_of_ble_eq_true rfl) ?_
            refine g_iload_n 1 (gd rfl) rfl rfl ?_
            refine g_bipush 97 3 (gd rfl) rfl rfl ?_
            refine g_cmp_lt 6 16 (gd rfl) rfl rfl (fun c96 => ?_) (fun c96 => ?_)
            · skip
              have i97 := r_lt1 58 96 c96 i90 (in_c 97 rfl) rfl
              refine g_iconst 0 17 (gd rfl) rfl rfl ?_
              refine g_ireturn (gd rfl) rfl (nb01 (in_w 0 1 (in_c 0 rfl) rfl)) (hp94 _ _ ?_)
              show GG _ _ _ _ _ _ _ _ [.int (Int32.ofInt 0), .ref (A 109)] _ _ _
              refine g_if_eq 105 109 (gd rfl) rfl rfl (fun c98 => ?_) (fun c98 => ?_)
              · skip
                refine g_iconst 3 110 (gd rfl) rfl rfl ?_
                refine g_putI 113 (gd rfl) rfl rfl rfl rfl ?_
                have hI99 := inv_sF (q := 109) (j := 28) hI28 rfl (in_w (-2147483648) 2147483647 (in_c 3 rfl) rfl)
                refine g_aload_n 114 (gd rfl) rfl rfl ?_
                refine g_dup 115 (gd rfl) rfl rfl ?_
                refine g_getI 118 (gd rfl) rfl rfl rfl (fun z100 e101 => ?_)
                have q102 : w38_109_27 = z100 := (sF_ne rfl (sF_ne rfl (sF_ne rfl (v38_109_27)))).trans e101.symm
                subst q102
                refine g_iconst 1 119 (gd rfl) rfl rfl ?_
                refine g_iadd 120 (gd rfl) rfl (fun z103 e104 => ?_)
                have i105 := in_add 1 1000 e104 i24 (in_c 1 rfl) rfl rfl
                refine g_putI 123 (gd rfl) rfl rfl rfl rfl ?_
                have hI106 := inv_sF (q := 109) (j := 27) hI99 rfl (in_w 0 1000 i105 rfl)
                refine g_iload_n 124 (gd rfl) rfl rfl ?_
                refine g_bipush 59 126 (gd rfl) rfl rfl ?_
                refine g_cmp_eq 129 171 (gd rfl) rfl rfl (fun c107 => ?_) (fun c107 => ?_)
                · skip
                  have i108 := r_eq1 59 59 c107 i97 (in_c 59 rfl) rfl
                  have n109 : (z103).toInt ≤ (w38_109_22).toInt := by have a0 := i108; unfold In at a0; have a1 := i105; unfold In at a1; have a2 := t_add e104 i24 (in_c 1 rfl) rfl; have a3 := (in_c 1 rfl); unfold In at a3; have a4 := i24; unfold In at a4; have a5 := (in_c 3 rfl); unfold In at a5; have a6 := (inv_F hI 0 1000 rfl v38_109_22); unfold In at a6; omega
                  exact gg_w (by omega) (gg_f (gf_cons rfl (gf_cons rfl gf_nil)) (ct171 (sF (sF (sF (sF s 109 29 w38_109_27) 109 30 z25) 109 28 (Int32.ofInt 3)) 109 27 z103) z25 z103 w38_109_22 hI106 (in_w 40 61 i108 rfl) (sF_get) (sF_ne rfl (sF_ne rfl (sF_ne rfl (sF_ne rfl (v38_109_22))))) n109))
                · skip
                  refine g_iload_n 130 (gd rfl) rfl rfl ?_
                  refine g_bipush 60 132 (gd rfl) rfl rfl ?_
                  refine g_cmp_eq 135 171 (gd rfl) rfl rfl (fun c110 => ?_) (fun c110 => ?_)
                  · skip
                    have i111 := r_eq1 60 60 c110 i97 (in_c 60 rfl) rfl
                    have n112 : (z103).toInt ≤ (w38_109_22).toInt := by have a0 := i111; unfold In at a0; have a1 := i105; unfold In at a1; have a2 := t_add e104 i24 (in_c 1 rfl) rfl; have a3 := (in_c 1 rfl); unfold In at a3; have a4 := i24; unfold In at a4; have a5 := (in_c 3 rfl); unfold In at a5; have a6 := (inv_F hI 0 1000 rfl v38_109_22); unfold In at a6; omega
                    exact gg_w (by omega) (gg_f (gf_cons rfl (gf_cons rfl gf_nil)) (ct171 (sF (sF (sF (sF s 109 29 w38_109_27) 109 30 z25) 109 28 (Int32.ofInt 3)) 109 27 z103) z25 z103 w38_109_22 hI106 (in_w 40 61 i111 rfl) (sF_get) (sF_ne rfl (sF_ne rfl (sF_ne rfl (sF_ne rfl (v38_109_22))))) n112))
                  · skip
                    refine g_iload_n 136 (gd rfl) rfl rfl ?_
                    refine g_bipush 61 138 (gd rfl) rfl rfl ?_
                    refine g_cmp_eq 141 171 (gd rfl) rfl rfl (fun c113 => ?_) (fun c113 => ?_)
                    · skip
                      have i114 := r_eq1 61 61 c113 i97 (in_c 61 rfl) rfl
                      have n115 : (z103).toInt ≤ (w38_109_22).toInt := by have a0 := i114; unfold In at a0; have a1 := i105; unfold In at a1; have a2 := t_add e104 i24 (in_c 1 rfl) rfl; have a3 := (in_c 1 rfl); unfold In at a3; have a4 := i24; unfold In at a4; have a5 := (in_c 3 rfl); unfold In at a5; have a6 := (inv_F hI 0 1000 rfl v38_109_22); unfold In at a6; omega
                      exact gg_w (by omega) (gg_f (gf_cons rfl (gf_cons rfl gf_nil)) (ct171 (sF (sF (sF (sF s 109 29 w38_109_27) 109 30 z25) 109 28 (Int32.ofInt 3)) 109 27 z103) z25 z103 w38_109_22 hI106 (in_w 40 61 i114 rfl) (sF_get) (sF_ne rfl (sF_ne rfl (sF_ne rfl (sF_ne rfl (v38_109_22))))) n115))
                    · skip
                      refine g_iload_n 142 (gd rfl) rfl rfl ?_
                      refine g_bipush 43 144 (gd rfl) rfl rfl ?_
                      refine g_cmp_eq 147 171 (gd rfl) rfl rfl (fun c116 => ?_) (fun c116 => ?_)
                      · skip
                        exact n_eq c116 i97 (in_c 43 rfl) rfl
                      · skip
                        refine g_iload_n 148 (gd rfl) rfl rfl ?_
                        refine g_bipush 45 150 (gd rfl) rfl rfl ?_
                        refine g_cmp_eq 153 171 (gd rfl) rfl rfl (fun c117 => ?_) (fun c117 => ?_)
                        · skip
                          exact n_eq c117 i97 (in_c 45 rfl) rfl
                        · skip
                          refine g_iload_n 154 (gd rfl) rfl rfl ?_
                          refine g_bipush 42 156 (gd rfl) rfl rfl ?_
                          refine g_cmp_eq 159 171 (gd rfl) rfl rfl (fun c118 => ?_) (fun c118 => ?_)
                          · skip
                            exact n_eq c118 i97 (in_c 42 rfl) rfl
                          · skip
                            refine g_iload_n 160 (gd rfl) rfl rfl ?_
                            refine g_bipush 40 162 (gd rfl) rfl rfl ?_
                            refine g_cmp_eq 165 171 (gd rfl) rfl rfl (fun c119 => ?_) (fun c119 => ?_)
                            · skip
                              exact n_eq c119 i97 (in_c 40 rfl) rfl
                            · skip
                              refine g_iload_n 166 (gd rfl) rfl rfl ?_
                              refine g_bipush 41 168 (gd rfl) rfl rfl ?_
                              refine g_cmp_ne 171 175 (gd rfl) rfl rfl (fun c120 => ?_) (fun c120 => ?_)
                              · skip
                                refine g_iconst 0 176 (gd rfl) rfl rfl ?_
                                refine g_istore_n 177 (gd rfl) rfl (Nat.le_of_ble_eq_true rfl) ?_
                                refine g_aload_n 178 (gd rfl) rfl rfl ?_
                                refine g_getI 181 (gd rfl) rfl rfl rfl (fun z121 e122 => ?_)
                                have q123 : (Int32.ofInt 3) = z121 := (sF_ne rfl (sF_get)).trans e122.symm
                                subst q123
                                refine g_iconst 3 182 (gd rfl) rfl rfl ?_
                                refine g_cmp_ne 185 198 (gd rfl) rfl rfl (fun c124 => ?_) (fun c124 => ?_)
                                · skip
                                  exact n_ne c124 (in_c 3 rfl) (in_c 3 rfl) rfl
                                · skip
                                  refine g_iload_n 186 (gd rfl) rfl rfl ?_
                                  refine g_if_ne 189 198 (gd rfl) rfl rfl (fun c125 => ?_) (fun c125 => ?_)
                                  · skip
                                    exact zn_ne c125 (in_c 0 rfl) rfl
                                  · skip
                                    refine g_aload_n 190 (gd rfl) rfl rfl ?_
                                    refine g_iconst 1 191 (gd rfl) rfl rfl ?_
                                    refine g_aload_n 192 (gd rfl) rfl rfl ?_
                                    refine g_getI 195 (gd rfl) rfl rfl rfl (fun z126 e127 => ?_)
                                    have q128 : w38_109_27 = z126 := (sF_ne rfl (sF_ne rfl (sF_ne rfl (sF_get)))).trans e127.symm
                                    subst q128
                                    refine g_callv (X := _) (As := [.int (Int32.ofInt 1), .int w38_109_27]) (r := []) (b := A 109) (q := 109) 198 (gd rfl) rfl rfl rfl rfl rfl (ww_o rfl) (Nat.le_of_ble_eq_true rfl) (mc := 0) (ms := 0) (Nat.zero_le _) (Nat.zero_le _) (P := fun v u => _) ?_ (fun e u h => h) (fun v u h => h)
                                    intro po129 xx130 hp131 hx132
                                    refine g_enter2 (k := 298) (N := 300) (by omega) rfl (Nat.le_of_ble_eq_true rfl) ?_
                                    refine g_aload_n 1 (gd rfl) rfl rfl ?_
                                    refine g_getI 4 (gd rfl) rfl rfl rfl (fun z133 e134 => ?_)
                                    refine g_if_ne 7 17 (gd rfl) rfl rfl (fun c135 => ?_) (fun c135 => ?_)
                                    · skip
                                      refine g_return (gd rfl) rfl (hp131 _ _ ?_)
                                      show GG _ _ _ _ _ _ _ _ [] _ _ _
                                      have n136 : (z103).toInt ≤ (w38_109_22).toInt := by have a0 := (in_c 0 rfl); unfold In at a0; have a1 := i97; unfold In at a1; have a2 := i105; unfold In at a2; have a3 := t_add e104 i24 (in_c 1 rfl) rfl; have a4 := (in_c 1 rfl); unfold In at a4; have a5 := i24; unfold In at a5; have a6 := (in_c 3 rfl); unfold In at a6; have a7 := (inv_F hI 0 1000 rfl v38_109_22); unfold In at a7; omega
                                      exact gg_w (by omega) (gg_f (gf_cons rfl (gf_cons rfl (gf_cons rfl gf_nil))) (ct198 (sF (sF (sF (sF s 109 29 w38_109_27) 109 30 z25) 109 28 (Int32.ofInt 3)) 109 27 z103) z25 (Int32.ofInt 0) z103 w38_109_22 hI106 (in_w 0 126 i97 rfl) (in_w 0 1 (in_c 0 rfl) rfl) (sF_get) (sF_ne rfl (sF_ne rfl (sF_ne rfl (sF_ne rfl (v38_109_22))))) n136))
                                    · skip
                                      have i137 := z_eq 0 0 c135 (i_rng z133) rfl
                                      refine g_aload_n 8 (gd rfl) rfl rfl ?_
                                      refine g_iload_n 9 (gd rfl) rfl rfl ?_
                                      refine g_putI 12 (gd rfl) rfl rfl rfl rfl ?_
                                      have hI138 := inv_sF (q := 109) (j := 23) hI106 rfl (in_w (-2147483648) 2147483647 (in_c 1 rfl) rfl)
                                      refine g_aload_n 13 (gd rfl) rfl rfl ?_
                                      refine g_iload_n 14 (gd rfl) rfl rfl ?_
                                      refine g_putI 17 (gd rfl) rfl rfl rfl rfl ?_
                                      have hI139 := inv_sF (q := 109) (j := 24) hI138 rfl (in_w (-2147483648) 2147483647 i24 rfl)
                                      refine g_return (gd rfl) rfl (hp131 _ _ ?_)
                                      show GG _ _ _ _ _ _ _ _ [] _ _ _
                                      have n140 : (z103).toInt ≤ (w38_109_22).toInt := by have a0 := (in_c 0 rfl); unfold In at a0; have a1 := i97; unfold In at a1; have a2 := i24; unfold In at a2; have a3 := (in_c 1 rfl); unfold In at a3; have a4 := i105; unfold In at a4; have a5 := t_add e104 i24 (in_c 1 rfl) rfl; have a6 := (in_c 3 rfl); unfold In at a6; have a7 := (inv_F hI 0 1000 rfl v38_109_22); unfold In at a7; omega
                                      exact gg_w (by omega) (gg_f (gf_cons rfl (gf_cons rfl (gf_cons rfl gf_nil))) (ct198 (sF (sF (sF (sF (sF (sF s 109 29 w38_109_27) 109 30 z25) 109 28 (Int32.ofInt 3)) 109 27 z103) 109 23 (Int32.ofInt 1)) 109 24 w38_109_27) z25 (Int32.ofInt 0) z103 w38_109_22 hI139 (in_w 0 126 i97 rfl) (in_w 0 1 (in_c 0 rfl) rfl) (sF_ne rfl (sF_ne rfl (sF_get))) (sF_ne rfl (sF_ne rfl (sF_ne rfl (sF_ne rfl (sF_ne rfl (sF_ne rfl (v38_109_22))))))) n140))
                              · skip
                                exact n_eq c120 i97 (in_c 41 rfl) rfl
              · skip
                exact zn_ne c98 (in_c 0 rfl) rfl
            · skip
              have i141 := r_le2 97 126 c96 (in_c 97 rfl) i90 rfl
              refine g_iload_n 7 (gd rfl) rfl rfl ?_
              refine g_bipush 122 9 (gd rfl) rfl rfl ?_
              refine g_cmp_gt 12 16 (gd rfl) rfl rfl (fun c142 => ?_) (fun c142 => ?_)
              · skip
                have i143 := r_lt2 123 126 c142 (in_c 122 rfl) i141 rfl
                refine g_iconst 0 17 (gd rfl) rfl rfl ?_
                refine g_ireturn (gd rfl) rfl (nb01 (in_w 0 1 (in_c 0 rfl) rfl)) (hp94 _ _ ?_)
                show GG _ _ _ _ _ _ _ _ [.int (Int32.ofInt 0), .ref (A 109)] _ _ _
                refine g_if_eq 105 109 (gd rfl) rfl rfl (fun c144 => ?_) (fun c144 => ?_)
                · skip
                  refine g_iconst 3 110 (gd rfl) rfl rfl ?_
                  refine g_putI 113 (gd rfl) rfl rfl rfl rfl ?_
                  have hI145 := inv_sF (q := 109) (j := 28) hI28 rfl (in_w (-2147483648) 2147483647 (in_c 3 rfl) rfl)
                  refine g_aload_n 114 (gd rfl) rfl rfl ?_
                  refine g_dup 115 (gd rfl) rfl rfl ?_
                  refine g_getI 118 (gd rfl) rfl rfl rfl (fun z146 e147 => ?_)
                  have q148 : w38_109_27 = z146 := (sF_ne rfl (sF_ne rfl (sF_ne rfl (v38_109_27)))).trans e147.symm
                  subst q148
                  refine g_iconst 1 119 (gd rfl) rfl rfl ?_
                  refine g_iadd 120 (gd rfl) rfl (fun z149 e150 => ?_)
                  have i151 := in_add 1 1000 e150 i24 (in_c 1 rfl) rfl rfl
                  refine g_putI 123 (gd rfl) rfl rfl rfl rfl ?_
                  have hI152 := inv_sF (q := 109) (j := 27) hI145 rfl (in_w 0 1000 i151 rfl)
                  refine g_iload_n 124 (gd rfl) rfl rfl ?_
                  refine g_bipush 59 126 (gd rfl) rfl rfl ?_
                  refine g_cmp_eq 129 171 (gd rfl) rfl rfl (fun c153 => ?_) (fun c153 => ?_)
                  · skip
                    exact n_eq c153 i143 (in_c 59 rfl) rfl
                  · skip
                    refine g_iload_n 130 (gd rfl) rfl rfl ?_
                    refine g_bipush 60 132 (gd rfl) rfl rfl ?_
                    refine g_cmp_eq 135 171 (gd rfl) rfl rfl (fun c154 => ?_) (fun c154 => ?_)
                    · skip
                      exact n_eq c154 i143 (in_c 60 rfl) rfl
                    · skip
                      refine g_iload_n 136 (gd rfl) rfl rfl ?_
                      refine g_bipush 61 138 (gd rfl) rfl rfl ?_
                      refine g_cmp_eq 141 171 (gd rfl) rfl rfl (fun c155 => ?_) (fun c155 => ?_)
                      · skip
                        exact n_eq c155 i143 (in_c 61 rfl) rfl
                      · skip
                        refine g_iload_n 142 (gd rfl) rfl rfl ?_
                        refine g_bipush 43 144 (gd rfl) rfl rfl ?_
                        refine g_cmp_eq 147 171 (gd rfl) rfl rfl (fun c156 => ?_) (fun c156 => ?_)
                        · skip
                          exact n_eq c156 i143 (in_c 43 rfl) rfl
                        · skip
                          refine g_iload_n 148 (gd rfl) rfl rfl ?_
                          refine g_bipush 45 150 (gd rfl) rfl rfl ?_
                          refine g_cmp_eq 153 171 (gd rfl) rfl rfl (fun c157 => ?_) (fun c157 => ?_)
                          · skip
                            exact n_eq c157 i143 (in_c 45 rfl) rfl
                          · skip
                            refine g_iload_n 154 (gd rfl) rfl rfl ?_
                            refine g_bipush 42 156 (gd rfl) rfl rfl ?_
                            refine g_cmp_eq 159 171 (gd rfl) rfl rfl (fun c158 => ?_) (fun c158 => ?_)
                            · skip
                              exact n_eq c158 i143 (in_c 42 rfl) rfl
                            · skip
                              refine g_iload_n 160 (gd rfl) rfl rfl ?_
                              refine g_bipush 40 162 (gd rfl) rfl rfl ?_
                              refine g_cmp_eq 165 171 (gd rfl) rfl rfl (fun c159 => ?_) (fun c159 => ?_)
                              · skip
                                exact n_eq c159 i143 (in_c 40 rfl) rfl
                              · skip
                                refine g_iload_n 166 (gd rfl) rfl rfl ?_
                                refine g_bipush 41 168 (gd rfl) rfl rfl ?_
                                refine g_cmp_ne 171 175 (gd rfl) rfl rfl (fun c160 => ?_) (fun c160 => ?_)
                                · skip
                                  refine g_iconst 0 176 (gd rfl) rfl rfl ?_
                                  refine g_istore_n 177 (gd rfl) rfl (Nat.le_of_ble_eq_true rfl) ?_
                                  refine g_aload_n 178 (gd rfl) rfl rfl ?_
                                  refine g_getI 181 (gd rfl) rfl rfl rfl (fun z161 e162 => ?_)
                                  have q163 : (Int32.ofInt 3) = z161 := (sF_ne rfl (sF_get)).trans e162.symm
                                  subst q163
                                  refine g_iconst 3 182 (gd rfl) rfl rfl ?_
                                  refine g_cmp_ne 185 198 (gd rfl) rfl rfl (fun c164 => ?_) (fun c164 => ?_)
                                  · skip
                                    exact n_ne c164 (in_c 3 rfl) (in_c 3 rfl) rfl
                                  · skip
                                    refine g_iload_n 186 (gd rfl) rfl rfl ?_
                                    refine g_if_ne 189 198 (gd rfl) rfl rfl (fun c165 => ?_) (fun c165 => ?_)
                                    · skip
                                      exact zn_ne c165 (in_c 0 rfl) rfl
                                    · skip
                                      refine g_aload_n 190 (gd rfl) rfl rfl ?_
                                      refine g_iconst 1 191 (gd rfl) rfl rfl ?_
                                      refine g_aload_n 192 (gd rfl) rfl rfl ?_
                                      refine g_getI 195 (gd rfl) rfl rfl rfl (fun z166 e167 => ?_)
                                      have q168 : w38_109_27 = z166 := (sF_ne rfl (sF_ne rfl (sF_ne rfl (sF_get)))).trans e167.symm
                                      subst q168
                                      refine g_callv (X := _) (As := [.int (Int32.ofInt 1), .int w38_109_27]) (r := []) (b := A 109) (q := 109) 198 (gd rfl) rfl rfl rfl rfl rfl (ww_o rfl) (Nat.le_of_ble_eq_true rfl) (mc := 0) (ms := 0) (Nat.zero_le _) (Nat.zero_le _) (P := fun v u => _) ?_ (fun e u h => h) (fun v u h => h)
                                      intro po169 xx170 hp171 hx172
                                      refine g_enter2 (k := 298) (N := 300) (by omega) rfl (Nat.le_of_ble_eq_true rfl) ?_
                                      refine g_aload_n 1 (gd rfl) rfl rfl ?_
                                      refine g_getI 4 (gd rfl) rfl rfl rfl (fun z173 e174 => ?_)
                                      refine g_if_ne 7 17 (gd rfl) rfl rfl (fun c175 => ?_) (fun c175 => ?_)
                                      · skip
                                        refine g_return (gd rfl) rfl (hp171 _ _ ?_)
                                        show GG _ _ _ _ _ _ _ _ [] _ _ _
                                        have n176 : (z149).toInt ≤ (w38_109_22).toInt := by have a0 := (in_c 0 rfl); unfold In at a0; have a1 := i143; unfold In at a1; have a2 := i151; unfold In at a2; have a3 := t_add e150 i24 (in_c 1 rfl) rfl; have a4 := (in_c 1 rfl); unfold In at a4; have a5 := i24; unfold In at a5; have a6 := (in_c 3 rfl); unfold In at a6; have a7 := (inv_F hI 0 1000 rfl v38_109_22); unfold In at a7; omega
                                        exact gg_w (by omega) (gg_f (gf_cons rfl (gf_cons rfl (gf_cons rfl gf_nil))) (ct198 (sF (sF (sF (sF s 109 29 w38_109_27) 109 30 z25) 109 28 (Int32.ofInt 3)) 109 27 z149) z25 (Int32.ofInt 0) z149 w38_109_22 hI152 (in_w 0 126 i143 rfl) (in_w 0 1 (in_c 0 rfl) rfl) (sF_get) (sF_ne rfl (sF_ne rfl (sF_ne rfl (sF_ne rfl (v38_109_22))))) n176))
                                      · skip
                                        have i177 := z_eq 0 0 c175 (i_rng z173) rfl
                                        refine g_aload_n 8 (gd rfl) rfl rfl ?_
                                        refine g_iload_n 9 (gd rfl) rfl rfl ?_
                                        refine g_putI 12 (gd rfl) rfl rfl rfl rfl ?_
                                        have hI178 := inv_sF (q := 109) (j := 23) hI152 rfl (in_w (-2147483648) 2147483647 (in_c 1 rfl) rfl)
                                        refine g_aload_n 13 (gd rfl) rfl rfl ?_
                                        refine g_iload_n 14 (gd rfl) rfl rfl ?_
                                        refine g_putI 17 (gd rfl) rfl rfl rfl rfl ?_
                                        have hI179 := inv_sF (q := 109) (j := 24) hI178 rfl (in_w (-2147483648) 2147483647 i24 rfl)
                                        refine g_return (gd rfl) rfl (hp171 _ _ ?_)
                                        show GG _ _ _ _ _ _ _ _ [] _ _ _
                                        have n180 : (z149).toInt ≤ (w38_109_22).toInt := by have a0 := (in_c 0 rfl); unfold In at a0; have a1 := i143; unfold In at a1; have a2 := i24; unfold In at a2; have a3 := (in_c 1 rfl); unfold In at a3; have a4 := i151; unfold In at a4; have a5 := t_add e150 i24 (in_c 1 rfl) rfl; have a6 := (in_c 3 rfl); unfold In at a6; have a7 := (inv_F hI 0 1000 rfl v38_109_22); unfold In at a7; omega
                                        exact gg_w (by omega) (gg_f (gf_cons rfl (gf_cons rfl (gf_cons rfl gf_nil))) (ct198 (sF (sF (sF (sF (sF (sF s 109 29 w38_109_27) 109 30 z25) 109 28 (Int32.ofInt 3)) 109 27 z149) 109 23 (Int32.ofInt 1)) 109 24 w38_109_27) z25 (Int32.ofInt 0) z149 w38_109_22 hI179 (in_w 0 126 i143 rfl) (in_w 0 1 (in_c 0 rfl) rfl) (sF_ne rfl (sF_ne rfl (sF_get))) (sF_ne rfl (sF_ne rfl (sF_ne rfl (sF_ne rfl (sF_ne rfl (sF_ne rfl (v38_109_22))))))) n180))
                                · skip
                                  exact n_eq c160 i143 (in_c 41 rfl) rfl
                · skip
                  exact zn_ne c144 (in_c 0 rfl) rfl
              · skip
                have i181 := r_le1 97 122 c142 i141 (in_c 122 rfl) rfl
                refine g_iconst 1 13 (gd rfl) rfl rfl ?_
                refine g_goto 17 (gd rfl) rfl ?_
                refine g_ireturn (gd rfl) rfl (nb01 (in_w 0 1 (in_c 1 rfl) rfl)) (hp94 _ _ ?_)
                show GG _ _ _ _ _ _ _ _ [.int (Int32.ofInt 1), .ref (A 109)] _ _ _
                refine g_if_eq 105 109 (gd rfl) rfl rfl (fun c182 => ?_) (fun c182 => ?_)
                · skip
                  exact zn_eq c182 (in_c 1 rfl) rfl
                · skip
                  refine g_iconst 1 106 (gd rfl) rfl rfl ?_
                  refine g_goto 110 (gd rfl) rfl ?_
                  refine g_putI 113 (gd rfl) rfl rfl rfl rfl ?_
                  have hI183 := inv_sF (q := 109) (j := 28) hI28 rfl (in_w (-2147483648) 2147483647 (in_c 1 rfl) rfl)
                  refine g_aload_n 114 (gd rfl) rfl rfl ?_
                  refine g_dup 115 (gd rfl) rfl rfl ?_
                  refine g_getI 118 (gd rfl) rfl rfl rfl (fun z184 e185 => ?_)
                  have q186 : w38_109_27 = z184 := (sF_ne rfl (sF_ne rfl (sF_ne rfl (v38_109_27)))).trans e185.symm
                  subst q186
                  refine g_iconst 1 119 (gd rfl) rfl rfl ?_
                  refine g_iadd 120 (gd rfl) rfl (fun z187 e188 => ?_)
                  have i189 := in_add 1 1000 e188 i24 (in_c 1 rfl) rfl rfl
                  refine g_putI 123 (gd rfl) rfl rfl rfl rfl ?_
                  have hI190 := inv_sF (q := 109) (j := 27) hI183 rfl (in_w 0 1000 i189 rfl)
                  refine g_iload_n 124 (gd rfl) rfl rfl ?_
                  refine g_bipush 59 126 (gd rfl) rfl rfl ?_
                  refine g_cmp_eq 129 171 (gd rfl) rfl rfl (fun c191 => ?_) (fun c191 => ?_)
                  · skip
                    exact n_eq c191 i181 (in_c 59 rfl) rfl
                  · skip
                    refine g_iload_n 130 (gd rfl) rfl rfl ?_
                    refine g_bipush 60 132 (gd rfl) rfl rfl ?_
                    refine g_cmp_eq 135 171 (gd rfl) rfl rfl (fun c192 => ?_) (fun c192 => ?_)
                    · skip
                      exact n_eq c192 i181 (in_c 60 rfl) rfl
                    · skip
                      refine g_iload_n 136 (gd rfl) rfl rfl ?_
                      refine g_bipush 61 138 (gd rfl) rfl rfl ?_
                      refine g_cmp_eq 141 171 (gd rfl) rfl rfl (fun c193 => ?_) (fun c193 => ?_)
                      · skip
                        exact n_eq c193 i181 (in_c 61 rfl) rfl
                      · skip
                        refine g_iload_n 142 (gd rfl) rfl rfl ?_
                        refine g_bipush 43 144 (gd rfl) rfl rfl ?_
                        refine g_cmp_eq 147 171 (gd rfl) rfl rfl (fun c194 => ?_) (fun c194 => ?_)
                        · skip
                          exact n_eq c194 i181 (in_c 43 rfl) rfl
                        · skip
                          refine g_iload_n 148 (gd rfl) rfl rfl ?_
                          refine g_bipush 45 150 (gd rfl) rfl rfl ?_
                          refine g_cmp_eq 153 171 (gd rfl) rfl rfl (fun c195 => ?_) (fun c195 => ?_)
                          · skip
                            exact n_eq c195 i181 (in_c 45 rfl) rfl
                          · skip
                            refine g_iload_n 154 (gd rfl) rfl rfl ?_
                            refine g_bipush 42 156 (gd rfl) rfl rfl ?_
                            refine g_cmp_eq 159 171 (gd rfl) rfl rfl (fun c196 => ?_) (fun c196 => ?_)
                            · skip
                              exact n_eq c196 i181 (in_c 42 rfl) rfl
                            · skip
                              refine g_iload_n 160 (gd rfl) rfl rfl ?_
                              refine g_bipush 40 162 (gd rfl) rfl rfl ?_
                              refine g_cmp_eq 165 171 (gd rfl) rfl rfl (fun c197 => ?_) (fun c197 => ?_)
                              · skip
                                exact n_eq c197 i181 (in_c 40 rfl) rfl
                              · skip
                                refine g_iload_n 166 (gd rfl) rfl rfl ?_
                                refine g_bipush 41 168 (gd rfl) rfl rfl ?_
                                refine g_cmp_ne 171 175 (gd rfl) rfl rfl (fun c198 => ?_) (fun c198 => ?_)
                                · skip
                                  refine g_iconst 0 176 (gd rfl) rfl rfl ?_
                                  refine g_istore_n 177 (gd rfl) rfl (Nat.le_of_ble_eq_true rfl) ?_
                                  refine g_aload_n 178 (gd rfl) rfl rfl ?_
                                  refine g_getI 181 (gd rfl) rfl rfl rfl (fun z199 e200 => ?_)
                                  have q201 : (Int32.ofInt 1) = z199 := (sF_ne rfl (sF_get)).trans e200.symm
                                  subst q201
                                  refine g_iconst 3 182 (gd rfl) rfl rfl ?_
                                  refine g_cmp_ne 185 198 (gd rfl) rfl rfl (fun c202 => ?_) (fun c202 => ?_)
                                  · skip
                                    have n203 : (z187).toInt ≤ (w38_109_22).toInt := by have a0 := (in_c 0 rfl); unfold In at a0; have a1 := i181; unfold In at a1; have a2 := i189; unfold In at a2; have a3 := t_add e188 i24 (in_c 1 rfl) rfl; have a4 := (in_c 1 rfl); unfold In at a4; have a5 := i24; unfold In at a5; have a6 := (inv_F hI 0 1000 rfl v38_109_22); unfold In at a6; omega
                                    exact gg_w (by omega) (gg_f (gf_cons rfl (gf_cons rfl (gf_cons rfl gf_nil))) (ct198 (sF (sF (sF (sF s 109 29 w38_109_27) 109 30 z25) 109 28 (Int32.ofInt 1)) 109 27 z187) z25 (Int32.ofInt 0) z187 w38_109_22 hI190 (in_w 0 126 i181 rfl) (in_w 0 1 (in_c 0 rfl) rfl) (sF_get) (sF_ne rfl (sF_ne rfl (sF_ne rfl (sF_ne rfl (v38_109_22))))) n203))
                                  · skip
                                    exact n_eq c202 (in_c 1 rfl) (in_c 3 rfl) rfl
                                · skip
                                  exact n_eq c198 i181 (in_c 41 rfl) rfl
          · skip
            exact zn_ne c91 (in_c 0 rfl) rfl
        · skip
          have i204 := r_le1 48 57 c89 i88 (in_c 57 rfl) rfl
          refine g_iconst 1 13 (gd rfl) rfl rfl ?_
          refine g_goto 17 (gd rfl) rfl ?_
          refine g_ireturn (gd rfl) rfl (nb01 (in_w 0 1 (in_c 1 rfl) rfl)) (hp31 _ _ ?_)
          show GG _ _ _ _ _ _ _ _ [.int (Int32.ofInt 1)] _ _ _
          refine g_if_eq 85 97 (gd rfl) rfl rfl (fun c205 => ?_) (fun c205 => ?_)
          · skip
            exact zn_eq c205 (in_c 1 rfl) rfl
          · skip
            refine g_aload_n 86 (gd rfl) rfl rfl ?_
            refine g_iconst 2 87 (gd rfl) rfl rfl ?_
            refine g_putI 90 (gd rfl) rfl rfl rfl rfl ?_
            have hI206 := inv_sF (q := 109) (j := 28) hI28 rfl (in_w (-2147483648) 2147483647 (in_c 2 rfl) rfl)
            refine g_aload_n 91 (gd rfl) rfl rfl ?_
            refine g_bipush 6 93 (gd rfl) rfl rfl ?_
            have n207 : (w38_109_27).toInt ≤ (w38_109_22).toInt := by have a0 := i204; unfold In at a0; have a1 := (in_c 2 rfl); unfold In at a1; have a2 := i24; unfold In at a2; have a3 := (inv_F hI 0 1000 rfl v38_109_22); unfold In at a3; omega
            refine g_callv (X := _) (As := [.int (Int32.ofInt 6)]) (r := []) (b := A 109) (q := 109) 96 (gd rfl) rfl rfl rfl rfl rfl (ww_o rfl) (Nat.le_of_ble_eq_true rfl) (Nat.zero_le _) (Nat.zero_le _) (k_300 (by omega) hI206 (in_w 6 7 (in_c 6 rfl) rfl) (sF_ne rfl (sF_ne rfl (sF_ne rfl (v38_109_27)))) (sF_ne rfl (sF_ne rfl (sF_ne rfl (v38_109_22)))) n207) (fun e u h => h) (fun v u h => ?_)
            obtain ⟨s208, hI209, n212, rfl, rfl⟩ := h
            obtain ⟨z213, e214⟩ : ∃ w, w = s208.2.2.1 109 27 := ⟨_, rfl⟩
            have i215 := inv_F hI209 0 1000 rfl e214
            obtain ⟨z216, e217⟩ : ∃ w, w = s208.2.2.1 109 22 := ⟨_, rfl⟩
            have i218 := inv_F hI209 0 1000 rfl e217
            rw [← e214, ← e217] at n212
            show GG _ _ _ _ _ _ _ _ [] _ _ _
            have n219 : (z213).toInt ≤ (z216).toInt := by have a0 := i204; unfold In at a0; have a1 := i218; unfold In at a1; have a2 := i215; unfold In at a2; omega
            have n220 : (s208.2.2.1 109 27).toInt ≤ (s208.2.2.1 109 22).toInt := by have b0 : z213 = s208.2.2.1 109 27 := e214; have b1 : z216 = s208.2.2.1 109 22 := e217; rw [← b0, ← b1]; exact n219
            exact g_return (gd rfl) rfl (hP _ _ ⟨s208, hI209, n220, rfl, rfl⟩)
    · skip
      refine g_aload_n 58 (gd rfl) rfl rfl ?_
      refine g_iconst 0 59 (gd rfl) rfl rfl ?_
      refine g_putI 62 (gd rfl) rfl rfl rfl rfl ?_
      have hI221 := inv_sF (q := 109) (j := 28) hI13 rfl (in_w (-2147483648) 2147483647 (in_c 0 rfl) rfl)
      have n222 : (w38_109_27).toInt ≤ (w38_109_22).toInt := by have a0 := (in_c 0 rfl); unfold In at a0; have a1 := (inv_F hI 0 1000 rfl v38_109_27); unfold In at a1; have a2 := (inv_F hI 0 1000 rfl v38_109_22); unfold In at a2; omega
      have n223 : ((sF (sF s 109 29 w38_109_27) 109 28 (Int32.ofInt 0)).2.2.1 109 27).toInt ≤ ((sF (sF s 109 29 w38_109_27) 109 28 (Int32.ofInt 0)).2.2.1 109 22).toInt := by have b0 : w38_109_27 = (sF (sF s 109 29 w38_109_27) 109 28 (Int32.ofInt 0)).2.2.1 109 27 := sF_ne rfl (sF_ne rfl (v38_109_27)); have b1 : w38_109_22 = (sF (sF s 109 29 w38_109_27) 109 28 (Int32.ofInt 0)).2.2.1 109 22 := sF_ne rfl (sF_ne rfl (v38_109_22)); rw [← b0, ← b1]; exact n222
      exact g_return (gd rfl) rfl (hP _ _ ⟨(sF (sF s 109 29 w38_109_27) 109 28 (Int32.ofInt 0)), hI221, n223, rfl, rfl⟩)
  have ct0 : ∀ (k0 : Nat) (s : GS) (w0_109_27 : Int32) (w0_109_22 : Int32), Inv s → w0_109_27 = s.2.2.1 109 27 → w0_109_22 = s.2.2.1 109 22 → (w0_109_27).toInt ≤ (w0_109_22).toInt → (w0_109_22).toInt - (w0_109_27).toInt < (k0 : Int) → GG Z (d - 1) 392 post (gx xp) (2704 + k0 * 900) 0 (fun j => xlook j [(0, .ref (A 109))]) [] (WW Z A s ++ ex) 0 0 := by
    intro k0
    induction k0 with
    | zero => intro s w0_109_27 w0_109_22 hI v0_109_27 v0_109_22 n0_0 mm0; exfalso; have a0 := (inv_F hI 0 1000 rfl v0_109_22); unfold In at a0; have a1 := (inv_F hI 0 1000 rfl v0_109_27); unfold In at a1; omega
    | succ k0 ih0 =>
      intro s w0_109_27 w0_109_22 hI v0_109_27 v0_109_22 n0_0 mm0
      refine gg_w (M := 2704 + k0 * 900 + 900) (by omega) ?_
      refine g_aload_n 1 (gd rfl) rfl rfl ?_
      refine g_getI 4 (gd rfl) rfl rfl rfl (fun z224 e225 => ?_)
      have q226 : w0_109_27 = z224 := (v0_109_27).trans e225.symm
      subst q226
      refine g_aload_n 5 (gd rfl) rfl rfl ?_
      refine g_getI 8 (gd rfl) rfl rfl rfl (fun z227 e228 => ?_)
      have q229 : w0_109_22 = z227 := (v0_109_22).trans e228.symm
      subst q229
      refine g_cmp_ge 11 38 (gd rfl) rfl rfl (fun c230 => ?_) (fun c230 => ?_)
      · skip
        have n231 : (w0_109_27).toInt ≤ (w0_109_22).toInt := by have a0 := (inv_F hI 0 1000 rfl v0_109_22); unfold In at a0; have a1 := (inv_F hI 0 1000 rfl v0_109_27); unfold In at a1; omega
        exact gg_w (by omega) (gg_f (gf_cons rfl gf_nil) (ct38 s w0_109_27 w0_109_22 hI (v0_109_27) (v0_109_22) n231))
      · skip
        have i232 := r_lt1 0 999 c230 (inv_F hI 0 1000 rfl v0_109_27) (inv_F hI 0 1000 rfl v0_109_22) rfl
        have i233 := r_lt2 1 1000 c230 (inv_F hI 0 1000 rfl v0_109_27) (inv_F hI 0 1000 rfl v0_109_22) rfl
        refine g_aload_n 12 (gd rfl) rfl rfl ?_
        refine g_getA (q2 := 125) 15 (gd rfl) rfl rfl rfl rfl rfl ?_
        refine g_aload_n 16 (gd rfl) rfl rfl ?_
        refine g_getI 19 (gd rfl) rfl rfl rfl (fun z234 e235 => ?_)
        have q236 : w0_109_27 = z234 := (v0_109_27).trans e235.symm
        subst q236
        refine g_iaload 20 (gd rfl) rfl (n := 1000) rfl (in_ix i232 rfl) (fun z237 e238 => ?_)
        have i239 := inv_I hI (n := 1000) (t := 0) 0 126 rfl (in_ix i232 rfl) rfl e238
        refine g_bipush 32 22 (gd rfl) rfl rfl ?_
        refine g_cmp_ne 25 38 (gd rfl) rfl rfl (fun c240 => ?_) (fun c240 => ?_)
        · skip
          have n241 : (w0_109_27).toInt ≤ (w0_109_22).toInt := by have a0 := i233; unfold In at a0; have a1 := i232; unfold In at a1; omega
          exact gg_w (by omega) (gg_f (gf_cons rfl gf_nil) (ct38 s w0_109_27 w0_109_22 hI (v0_109_27) (v0_109_22) n241))
        · skip
          have i242 := r_eq1 32 32 c240 i239 (in_c 32 rfl) rfl
          refine g_aload_n 26 (gd rfl) rfl rfl ?_
          refine g_dup 27 (gd rfl) rfl rfl ?_
          refine g_getI 30 (gd rfl) rfl rfl rfl (fun z243 e244 => ?_)
          have q245 : w0_109_27 = z243 := (v0_109_27).trans e244.symm
          subst q245
          refine g_iconst 1 31 (gd rfl) rfl rfl ?_
          refine g_iadd 32 (gd rfl) rfl (fun z246 e247 => ?_)
          have i248 := in_add 1 1000 e247 i232 (in_c 1 rfl) rfl rfl
          refine g_putI 35 (gd rfl) rfl rfl rfl rfl ?_
          have hI249 := inv_sF (q := 109) (j := 27) hI rfl (in_w 0 1000 i248 rfl)
          refine g_goto 0 (gd rfl) rfl ?_
          have n250 : (z246).toInt ≤ (w0_109_22).toInt := by have a0 := i248; unfold In at a0; have a1 := t_add e247 i232 (in_c 1 rfl) rfl; have a2 := (in_c 1 rfl); unfold In at a2; have a3 := i232; unfold In at a3; have a4 := i233; unfold In at a4; omega
          have m251 : (w0_109_22).toInt - (z246).toInt < ((k0 : Nat) : Int) := by have a0 := i248; unfold In at a0; have a1 := t_add e247 i232 (in_c 1 rfl) rfl; have a2 := (in_c 1 rfl); unfold In at a2; have a3 := i232; unfold In at a3; have a4 := i233; unfold In at a4; omega
          exact gg_w (by omega) (gg_f (gf_cons rfl gf_nil) (ih0  (sF s 109 27 z246) z246 w0_109_22 hI249 (sF_get) (sF_ne rfl (v0_109_22)) n250 m251))
  refine g_enter2 (k := 392) (N := 904504) (by omega) rfl (Nat.le_of_ble_eq_true rfl) ?_
  have n252 : (u_109_27).toInt ≤ (u_109_22).toInt := by have a0 := (inv_F hI 0 1000 rfl e_109_22); unfold In at a0; have a1 := (inv_F hI 0 1000 rfl e_109_27); unfold In at a1; omega
  have m253 : (u_109_22).toInt - (u_109_27).toInt < ((1001 : Nat) : Int) := by have a0 := (inv_F hI 0 1000 rfl e_109_22); unfold In at a0; have a1 := (inv_F hI 0 1000 rfl e_109_27); unfold In at a1; omega
  exact gg_w (by omega) (gg_f (gf_cons rfl gf_nil) (ct0 1001 s u_109_27 u_109_22 hI (e_109_27) (e_109_22) n252 m253))

/-- GraphHouseModel.nameAll -/
theorem k_407 {Z : AmZ} {A : Nat → Nat} {s : GS} {ex : va_W} {d : Nat} {X : AmX} {x1 : Int32} {x2 : Int32} (hd : 3 ≤ d) (hI : Inv s) (h1 : In x1 0 31) (h2 : In x2 0 200) : GC Z d 407 [.ref (A 109), .int x1, .int x2] (WW Z A s ++ ex) 0 0 (fun v u => ∃ t : GS, Inv t ∧ v = none ∧ u = WW Z A t ++ ex) X := by
  intro post xp hP hX
  have ct96 : ∀ (k96 : Nat) (s : GS) (y96_3 : Int32), Inv s → In y96_3 0 479 → 479 - (y96_3).toInt < (k96 : Int) → GG Z (d - 1) 407 post (gx xp) (1 + k96 * 2702) 96 (fun j => xlook j [(0, .ref (A 109)), (1, .int x1), (2, .int x2), (3, .int y96_3)]) [] (WW Z A s ++ ex) 0 0 := by
    intro k96
    induction k96 with
    | zero => intro s y96_3 hI j96_3 mm96; exact m_no mm96 j96_3 rfl
    | succ k96 ih96 =>
      intro s y96_3 hI j96_3 mm96
      refine gg_w (M := 1 + k96 * 2702 + 2702) (by omega) ?_
      have ct270 : ∀ (s : GS) , Inv s → In y96_3 0 400 → GG Z (d - 1) 407 post (gx xp) (1 + k96 * 2702 + 901) 270 (fun j => xlook j [(0, .ref (A 109)), (1, .int x1), (2, .int x2), (3, .int y96_3)]) [] (WW Z A s ++ ex) 0 0 := by
        intro s  hI j270_3
        refine g_iinc 273 (gd rfl) rfl rfl (Nat.le_of_ble_eq_true rfl) (fun z1 e2 => ?_)
        have i3 := in_add 1 401 e2 j270_3 (in_c 1 rfl) rfl rfl
        refine g_goto 96 (gd rfl) rfl ?_
        exact gg_w (by omega) (gg_f (gf_cons rfl (gf_cons rfl (gf_cons rfl (gf_cons rfl gf_nil)))) (ih96 s z1 hI (in_w 0 479 i3 rfl) (m_up mm96 (t_add e2 j270_3 (in_c 1 rfl) rfl) (in_w 1 1 (in_c 1 rfl) rfl))))
      have ct137 : ∀ (s : GS) , Inv s → In y96_3 0 400 → GG Z (d - 1) 407 post (gx xp) (1 + k96 * 2702 + 1802) 137 (fun j => xlook j [(0, .ref (A 109)), (1, .int x1), (2, .int x2), (3, .int y96_3)]) [] (WW Z A s ++ ex) 0 0 := by
        intro s  hI j137_3
        refine g_aload_n 138 (gd rfl) rfl rfl ?_
        refine g_getA (q2 := 112) 141 (gd rfl) rfl rfl rfl rfl rfl ?_
        refine g_iload_n 142 (gd rfl) rfl rfl ?_
        refine g_baload 143 (gd rfl) rfl (n := 480) rfl (in_ix j137_3 rfl) (fun z4 e5 => ?_)
        have i6 := inv_I hI (n := 480) (t := 3) 0 1 rfl (in_ix j137_3 rfl) rfl e5
        refine g_if_eq 146 270 (gd rfl) rfl rfl (fun c7 => ?_) (fun c7 => ?_)
        · skip
          have i8 := z_eq 0 0 c7 i6 rfl
          exact gg_w (by omega) (gg_f (gf_cons rfl (gf_cons rfl (gf_cons rfl (gf_cons rfl gf_nil)))) (ct270 s  hI (in_w 0 400 j137_3 rfl)))
        · skip
          have i9 := z_ne 1 1 c7 i6 rfl
          refine g_aload_n 147 (gd rfl) rfl rfl ?_
          refine g_getA (q2 := 114) 150 (gd rfl) rfl rfl rfl rfl rfl ?_
          refine g_iload_n 151 (gd rfl) rfl rfl ?_
          refine g_iaload 152 (gd rfl) rfl (n := 480) rfl (in_ix j137_3 rfl) (fun z10 e11 => ?_)
          have i12 := inv_I hI (n := 480) (t := 0) 0 31 rfl (in_ix j137_3 rfl) rfl e11
          refine g_iload_n 153 (gd rfl) rfl rfl ?_
          refine g_cmp_ne 156 270 (gd rfl) rfl rfl (fun c13 => ?_) (fun c13 => ?_)
          · skip
            exact gg_w (by omega) (gg_f (gf_cons rfl (gf_cons rfl (gf_cons rfl (gf_cons rfl gf_nil)))) (ct270 s  hI (in_w 0 400 j137_3 rfl)))
          · skip
            refine g_aload_n 157 (gd rfl) rfl rfl ?_
            refine g_getA (q2 := 191) 160 (gd rfl) rfl rfl rfl rfl rfl ?_
            refine g_aload_n 161 (gd rfl) rfl rfl ?_
            refine g_getA (q2 := 113) 164 (gd rfl) rfl rfl rfl rfl rfl ?_
            refine g_iload_n 165 (gd rfl) rfl rfl ?_
            refine g_iaload 166 (gd rfl) rfl (n := 480) rfl (in_ix j137_3 rfl) (fun z14 e15 => ?_)
            have i16 := inv_I hI (n := 480) (t := 0) 0 31 rfl (in_ix j137_3 rfl) rfl e15
            refine g_laload 167 (gd rfl) rfl (n := 32) rfl (in_ix i16 rfl) (fun z17 e18 => ?_)
            refine g_lstore 169 (gd rfl) rfl (Nat.le_of_ble_eq_true rfl) ?_
            refine g_lload 171 (gd rfl) rfl rfl ?_
            refine g_aload_n 172 (gd rfl) rfl rfl ?_
            refine g_getA (q2 := 115) 175 (gd rfl) rfl rfl rfl rfl rfl ?_
            refine g_iload_n 176 (gd rfl) rfl rfl ?_
            refine g_iaload 177 (gd rfl) rfl (n := 480) rfl (in_ix j137_3 rfl) (fun z19 e20 => ?_)
            have i21 := inv_I hI (n := 480) (t := 0) (-1000000) 1000000 rfl (in_ix j137_3 rfl) rfl e20
            refine g_i2l 178 (gd rfl) rfl (fun z22 e23 => ?_)
            have i24 := l_i e23 i21
            refine g_ladd 179 (gd rfl) rfl (fun z25 e26 => ?_)
            refine g_calls (As := [.long z25]) (r := []) 182 (gd rfl) rfl rfl rfl rfl rfl (Nat.le_of_ble_eq_true rfl) (mc := 0) (ms := 0) (Nat.zero_le _) (Nat.zero_le _) (P := fun v u => _) ?_ (fun v u h => h)
            intro po27 xx28 hp29 hx30
            refine g_enter2 (k := 405) (N := 300) (by omega) rfl (Nat.le_of_ble_eq_true rfl) ?_
            refine g_lload_n 1 (gd rfl) rfl rfl ?_
            refine g_ldc2_w 1000000000000 4 (gd rfl) rfl rfl ?_
            refine g_lcmp 5 (gd rfl) rfl (fun z31 e32 => ?_)
            have i33 := lc_in e32
            refine g_if_le 8 14 (gd rfl) rfl rfl (fun c34 => ?_) (fun c34 => ?_)
            · skip
              have i35 := z_le (-1) 0 c34 i33 rfl
              have c36 := lc_le e32 c34
              have i37 := lr_le1 (-9223372036854775808) 1000000000000 c36 (l_rng z25) (l_c 1000000000000 rfl) rfl
              refine g_lload_n 15 (gd rfl) rfl rfl ?_
              refine g_ldc2_w (-1000000000000) 18 (gd rfl) rfl rfl ?_
              refine g_lcmp 19 (gd rfl) rfl (fun z38 e39 => ?_)
              have i40 := lc_in e39
              refine g_if_ge 22 28 (gd rfl) rfl rfl (fun c41 => ?_) (fun c41 => ?_)
              · skip
                have i42 := z_ge 0 1 c41 i40 rfl
                have c43 := lc_ge e39 c41
                have i44 := lr_le2 (-1000000000000) 1000000000000 c43 (l_c (-1000000000000) rfl) i37 rfl
                refine g_lload_n 29 (gd rfl) rfl rfl ?_
                refine g_lreturn (gd rfl) rfl (hp29 _ _ ?_)
                show GG _ _ _ _ _ _ _ _ [.long z25] _ _ _
                refine g_lstore 184 (gd rfl) rfl (Nat.le_of_ble_eq_true rfl) ?_
                refine g_aload_n 185 (gd rfl) rfl rfl ?_
                refine g_getA (q2 := 194) 188 (gd rfl) rfl rfl rfl rfl rfl ?_
                refine g_iconst 4 189 (gd rfl) rfl rfl ?_
                refine g_dup2 190 (gd rfl) rfl rfl rfl ?_
                refine g_laload 191 (gd rfl) rfl (n := 9) rfl (in_ix (in_c 4 rfl) rfl) (fun z45 e46 => ?_)
                refine g_lconst 1 192 (gd rfl) rfl rfl ?_
                refine g_ladd 193 (gd rfl) rfl (fun z47 e48 => ?_)
                refine g_lastore 194 (gd rfl) rfl (n := 9) rfl (in_ix (in_c 4 rfl) rfl) ?_
                have hI49 := inv_sL (q := 194) (j := (Int32.ofInt 4).toNatClampNeg) (x := z47) hI
                refine g_aload_n 195 (gd rfl) rfl rfl ?_
                refine g_getA (q2 := 194) 198 (gd rfl) rfl rfl rfl rfl rfl ?_
                refine g_bipush 6 200 (gd rfl) rfl rfl ?_
                refine g_dup2 201 (gd rfl) rfl rfl rfl ?_
                refine g_laload 202 (gd rfl) rfl (n := 9) rfl (in_ix (in_c 6 rfl) rfl) (fun z50 e51 => ?_)
                refine g_lload 204 (gd rfl) rfl rfl ?_
                refine g_ladd 205 (gd rfl) rfl (fun z52 e53 => ?_)
                refine g_lastore 206 (gd rfl) rfl (n := 9) rfl (in_ix (in_c 6 rfl) rfl) ?_
                have hI54 := inv_sL (q := 194) (j := (Int32.ofInt 6).toNatClampNeg) (x := z52) hI49
                refine g_aload_n 207 (gd rfl) rfl rfl ?_
                refine g_getA (q2 := 194) 210 (gd rfl) rfl rfl rfl rfl rfl ?_
                refine g_bipush 7 212 (gd rfl) rfl rfl ?_
                refine g_lload 214 (gd rfl) rfl rfl ?_
                refine g_aload_n 215 (gd rfl) rfl rfl ?_
                refine g_getA (q2 := 194) 218 (gd rfl) rfl rfl rfl rfl rfl ?_
                refine g_bipush 7 220 (gd rfl) rfl rfl ?_
                refine g_laload 221 (gd rfl) rfl (n := 9) rfl (in_ix (in_c 7 rfl) rfl) (fun z55 e56 => ?_)
                refine g_lcmp 222 (gd rfl) rfl (fun z57 e58 => ?_)
                have i59 := lc_in e58
                refine g_if_ge 225 230 (gd rfl) rfl rfl (fun c60 => ?_) (fun c60 => ?_)
                · skip
                  have i61 := z_ge 0 1 c60 i59 rfl
                  have c62 := lc_ge e58 c60
                  have i63 := lr_le1 (-9223372036854775808) 1000000000000 c62 (l_rng z55) i44 rfl
                  refine g_aload_n 231 (gd rfl) rfl rfl ?_
                  refine g_getA (q2 := 194) 234 (gd rfl) rfl rfl rfl rfl rfl ?_
                  refine g_bipush 7 236 (gd rfl) rfl rfl ?_
                  refine g_laload 237 (gd rfl) rfl (n := 9) rfl (in_ix (in_c 7 rfl) rfl) (fun z64 e65 => ?_)
                  refine g_lastore 238 (gd rfl) rfl (n := 9) rfl (in_ix (in_c 7 rfl) rfl) ?_
                  have hI66 := inv_sL (q := 194) (j := (Int32.ofInt 7).toNatClampNeg) (x := z64) hI54
                  refine g_aload_n 239 (gd rfl) rfl rfl ?_
                  refine g_getA (q2 := 194) 242 (gd rfl) rfl rfl rfl rfl rfl ?_
                  refine g_bipush 8 244 (gd rfl) rfl rfl ?_
                  refine g_lload 246 (gd rfl) rfl rfl ?_
                  refine g_aload_n 247 (gd rfl) rfl rfl ?_
                  refine g_getA (q2 := 194) 250 (gd rfl) rfl rfl rfl rfl rfl ?_
                  refine g_bipush 8 252 (gd rfl) rfl rfl ?_
                  refine g_laload 253 (gd rfl) rfl (n := 9) rfl (in_ix (in_c 8 rfl) rfl) (fun z67 e68 => ?_)
                  refine g_lcmp 254 (gd rfl) rfl (fun z69 e70 => ?_)
                  have i71 := lc_in e70
                  refine g_if_le 257 262 (gd rfl) rfl rfl (fun c72 => ?_) (fun c72 => ?_)
                  · skip
                    have i73 := z_le (-1) 0 c72 i71 rfl
                    have c74 := lc_le e70 c72
                    have i75 := lr_le2 (-1000000000000) 9223372036854775807 c74 i44 (l_rng z67) rfl
                    refine g_aload_n 263 (gd rfl) rfl rfl ?_
                    refine g_getA (q2 := 194) 266 (gd rfl) rfl rfl rfl rfl rfl ?_
                    refine g_bipush 8 268 (gd rfl) rfl rfl ?_
                    refine g_laload 269 (gd rfl) rfl (n := 9) rfl (in_ix (in_c 8 rfl) rfl) (fun z76 e77 => ?_)
                    refine g_lastore 270 (gd rfl) rfl (n := 9) rfl (in_ix (in_c 8 rfl) rfl) ?_
                    have hI78 := inv_sL (q := 194) (j := (Int32.ofInt 8).toNatClampNeg) (x := z76) hI66
                    exact gg_w (by omega) (gg_f (gf_cons rfl (gf_cons rfl (gf_cons rfl (gf_cons rfl gf_nil)))) (ct270 (sL (sL (sL (sL s 194 (Int32.ofInt 4).toNatClampNeg z47) 194 (Int32.ofInt 6).toNatClampNeg z52) 194 (Int32.ofInt 7).toNatClampNeg z64) 194 (Int32.ofInt 8).toNatClampNeg z76)  hI78 (in_w 0 400 j137_3 rfl)))
                  · skip
                    have i79 := z_gt 1 1 c72 i71 rfl
                    have c80 := lc_gt e70 c72
                    have i81 := lr_lt1 (-9223372036854775808) 999999999999 c80 (l_rng z67) i44 rfl
                    refine g_lload 259 (gd rfl) rfl rfl ?_
                    refine g_goto 269 (gd rfl) rfl ?_
                    refine g_lastore 270 (gd rfl) rfl (n := 9) rfl (in_ix (in_c 8 rfl) rfl) ?_
                    have hI82 := inv_sL (q := 194) (j := (Int32.ofInt 8).toNatClampNeg) (x := z25) hI66
                    exact gg_w (by omega) (gg_f (gf_cons rfl (gf_cons rfl (gf_cons rfl (gf_cons rfl gf_nil)))) (ct270 (sL (sL (sL (sL s 194 (Int32.ofInt 4).toNatClampNeg z47) 194 (Int32.ofInt 6).toNatClampNeg z52) 194 (Int32.ofInt 7).toNatClampNeg z64) 194 (Int32.ofInt 8).toNatClampNeg z25)  hI82 (in_w 0 400 j137_3 rfl)))
                · skip
                  have i83 := z_lt (-1) (-1) c60 i59 rfl
                  have c84 := lc_lt e58 c60
                  have i85 := lr_lt2 (-999999999999) 9223372036854775807 c84 i44 (l_rng z55) rfl
                  refine g_lload 227 (gd rfl) rfl rfl ?_
                  refine g_goto 237 (gd rfl) rfl ?_
                  refine g_lastore 238 (gd rfl) rfl (n := 9) rfl (in_ix (in_c 7 rfl) rfl) ?_
                  have hI86 := inv_sL (q := 194) (j := (Int32.ofInt 7).toNatClampNeg) (x := z25) hI54
                  refine g_aload_n 239 (gd rfl) rfl rfl ?_
                  refine g_getA (q2 := 194) 242 (gd rfl) rfl rfl rfl rfl rfl ?_
                  refine g_bipush 8 244 (gd rfl) rfl rfl ?_
                  refine g_lload 246 (gd rfl) rfl rfl ?_
                  refine g_aload_n 247 (gd rfl) rfl rfl ?_
                  refine g_getA (q2 := 194) 250 (gd rfl) rfl rfl rfl rfl rfl ?_
                  refine g_bipush 8 252 (gd rfl) rfl rfl ?_
                  refine g_laload 253 (gd rfl) rfl (n := 9) rfl (in_ix (in_c 8 rfl) rfl) (fun z87 e88 => ?_)
                  refine g_lcmp 254 (gd rfl) rfl (fun z89 e90 => ?_)
                  have i91 := lc_in e90
                  refine g_if_le 257 262 (gd rfl) rfl rfl (fun c92 => ?_) (fun c92 => ?_)
                  · skip
                    have i93 := z_le (-1) 0 c92 i91 rfl
                    have c94 := lc_le e90 c92
                    have i95 := lr_le2 (-1000000000000) 9223372036854775807 c94 i44 (l_rng z87) rfl
                    refine g_aload_n 263 (gd rfl) rfl rfl ?_
                    refine g_getA (q2 := 194) 266 (gd rfl) rfl rfl rfl rfl rfl ?_
                    refine g_bipush 8 268 (gd rfl) rfl rfl ?_
                    refine g_laload 269 (gd rfl) rfl (n := 9) rfl (in_ix (in_c 8 rfl) rfl) (fun z96 e97 => ?_)
                    refine g_lastore 270 (gd rfl) rfl (n := 9) rfl (in_ix (in_c 8 rfl) rfl) ?_
                    have hI98 := inv_sL (q := 194) (j := (Int32.ofInt 8).toNatClampNeg) (x := z96) hI86
                    exact gg_w (by omega) (gg_f (gf_cons rfl (gf_cons rfl (gf_cons rfl (gf_cons rfl gf_nil)))) (ct270 (sL (sL (sL (sL s 194 (Int32.ofInt 4).toNatClampNeg z47) 194 (Int32.ofInt 6).toNatClampNeg z52) 194 (Int32.ofInt 7).toNatClampNeg z25) 194 (Int32.ofInt 8).toNatClampNeg z96)  hI98 (in_w 0 400 j137_3 rfl)))
                  · skip
                    have i99 := z_gt 1 1 c92 i91 rfl
                    have c100 := lc_gt e90 c92
                    have i101 := lr_lt1 (-9223372036854775808) 999999999999 c100 (l_rng z87) i44 rfl
                    refine g_lload 259 (gd rfl) rfl rfl ?_
                    refine g_goto 269 (gd rfl) rfl ?_
                    refine g_lastore 270 (gd rfl) rfl (n := 9) rfl (in_ix (in_c 8 rfl) rfl) ?_
                    have hI102 := inv_sL (q := 194) (j := (Int32.ofInt 8).toNatClampNeg) (x := z25) hI86
                    exact gg_w (by omega) (gg_f (gf_cons rfl (gf_cons rfl (gf_cons rfl (gf_cons rfl gf_nil)))) (ct270 (sL (sL (sL (sL s 194 (Int32.ofInt 4).toNatClampNeg z47) 194 (Int32.ofInt 6).toNatClampNeg z52) 194 (Int32.ofInt 7).toNatClampNeg z25) 194 (Int32.ofInt 8).toNatClampNeg z25)  hI102 (in_w 0 400 j137_3 rfl)))
              · skip
                have i103 := z_lt (-1) (-1) c41 i40 rfl
                have c104 := lc_lt e39 c41
                have i105 := lr_lt1 (-9223372036854775808) (-1000000000001) c104 i37 (l_c (-1000000000000) rfl) rfl
                refine g_ldc2_w (-1000000000000) 25 (gd rfl) rfl rfl ?_
                refine g_goto 29 (gd rfl) rfl ?_
                refine g_lreturn (gd rfl) rfl (hp29 _ _ ?_)
                show GG _ _ _ _ _ _ _ _ [.long (Int64.ofInt (-1000000000000))] _ _ _
                refine g_lstore 184 (gd rfl) rfl (Nat.le_of_ble_eq_true rfl) ?_
                refine g_aload_n 185 (gd rfl) rfl rfl ?_
                refine g_getA (q2 := 194) 188 (gd rfl) rfl rfl rfl rfl rfl ?_
                refine g_iconst 4 189 (gd rfl) rfl rfl ?_
                refine g_dup2 190 (gd rfl) rfl rfl rfl ?_
                refine g_laload 191 (gd rfl) rfl (n := 9) rfl (in_ix (in_c 4 rfl) rfl) (fun z106 e107 => ?_)
                refine g_lconst 1 192 (gd rfl) rfl rfl ?_
                refine g_ladd 193 (gd rfl) rfl (fun z108 e109 => ?_)
                refine g_lastore 194 (gd rfl) rfl (n := 9) rfl (in_ix (in_c 4 rfl) rfl) ?_
                have hI110 := inv_sL (q := 194) (j := (Int32.ofInt 4).toNatClampNeg) (x := z108) hI
                refine g_aload_n 195 (gd rfl) rfl rfl ?_
                refine g_getA (q2 := 194) 198 (gd rfl) rfl rfl rfl rfl rfl ?_
                refine g_bipush 6 200 (gd rfl) rfl rfl ?_
                refine g_dup2 201 (gd rfl) rfl rfl rfl ?_
                refine g_laload 202 (gd rfl) rfl (n := 9) rfl (in_ix (in_c 6 rfl) rfl) (fun z111 e112 => ?_)
                refine g_lload 204 (gd rfl) rfl rfl ?_
                refine g_ladd 205 (gd rfl) rfl (fun z113 e114 => ?_)
                refine g_lastore 206 (gd rfl) rfl (n := 9) rfl (in_ix (in_c 6 rfl) rfl) ?_
                have hI115 := inv_sL (q := 194) (j := (Int32.ofInt 6).toNatClampNeg) (x := z113) hI110
                refine g_aload_n 207 (gd rfl) rfl rfl ?_
                refine g_getA (q2 := 194) 210 (gd rfl) rfl rfl rfl rfl rfl ?_
                refine g_bipush 7 212 (gd rfl) rfl rfl ?_
                refine g_lload 214 (gd rfl) rfl rfl ?_
                refine g_aload_n 215 (gd rfl) rfl rfl ?_
                refine g_getA (q2 := 194) 218 (gd rfl) rfl rfl rfl rfl rfl ?_
                refine g_bipush 7 220 (gd rfl) rfl rfl ?_
                refine g_laload 221 (gd rfl) rfl (n := 9) rfl (in_ix (in_c 7 rfl) rfl) (fun z116 e117 => ?_)
                refine g_lcmp 222 (gd rfl) rfl (fun z118 e119 => ?_)
                have i120 := lc_in e119
                refine g_if_ge 225 230 (gd rfl) rfl rfl (fun c121 => ?_) (fun c121 => ?_)
                · skip
                  have i122 := z_ge 0 1 c121 i120 rfl
                  have c123 := lc_ge e119 c121
                  have i124 := lr_le1 (-9223372036854775808) (-1000000000000) c123 (l_rng z116) (l_c (-1000000000000) rfl) rfl
                  refine g_aload_n 231 (gd rfl) rfl rfl ?_
                  refine g_getA (q2 := 194) 234 (gd rfl) rfl rfl rfl rfl rfl ?_
                  refine g_bipush 7 236 (gd rfl) rfl rfl ?_
                  refine g_laload 237 (gd rfl) rfl (n := 9) rfl (in_ix (in_c 7 rfl) rfl) (fun z125 e126 => ?_)
                  refine g_lastore 238 (gd rfl) rfl (n := 9) rfl (in_ix (in_c 7 rfl) rfl) ?_
                  have hI127 := inv_sL (q := 194) (j := (Int32.ofInt 7).toNatClampNeg) (x := z125) hI115
                  refine g_aload_n 239 (gd rfl) rfl rfl ?_
                  refine g_getA (q2 := 194) 242 (gd rfl) rfl rfl rfl rfl rfl ?_
                  refine g_bipush 8 244 (gd rfl) rfl rfl ?_
                  refine g_lload 246 (gd rfl) rfl rfl ?_
                  refine g_aload_n 247 (gd rfl) rfl rfl ?_
                  refine g_getA (q2 := 194) 250 (gd rfl) rfl rfl rfl rfl rfl ?_
                  refine g_bipush 8 252 (gd rfl) rfl rfl ?_
                  refine g_laload 253 (gd rfl) rfl (n := 9) rfl (in_ix (in_c 8 rfl) rfl) (fun z128 e129 => ?_)
                  refine g_lcmp 254 (gd rfl) rfl (fun z130 e131 => ?_)
                  have i132 := lc_in e131
                  refine g_if_le 257 262 (gd rfl) rfl rfl (fun c133 => ?_) (fun c133 => ?_)
                  · skip
                    have i134 := z_le (-1) 0 c133 i132 rfl
                    have c135 := lc_le e131 c133
                    have i136 := lr_le2 (-1000000000000) 9223372036854775807 c135 (l_c (-1000000000000) rfl) (l_rng z128) rfl
                    refine g_aload_n 263 (gd rfl) rfl rfl ?_
                    refine g_getA (q2 := 194) 266 (gd rfl) rfl rfl rfl rfl rfl ?_
                    refine g_bipush 8 268 (gd rfl) rfl rfl ?_
                    refine g_laload 269 (gd rfl) rfl (n := 9) rfl (in_ix (in_c 8 rfl) rfl) (fun z137 e138 => ?_)
                    refine g_lastore 270 (gd rfl) rfl (n := 9) rfl (in_ix (in_c 8 rfl) rfl) ?_
                    have hI139 := inv_sL (q := 194) (j := (Int32.ofInt 8).toNatClampNeg) (x := z137) hI127
                    exact gg_w (by omega) (gg_f (gf_cons rfl (gf_cons rfl (gf_cons rfl (gf_cons rfl gf_nil)))) (ct270 (sL (sL (sL (sL s 194 (Int32.ofInt 4).toNatClampNeg z108) 194 (Int32.ofInt 6).toNatClampNeg z113) 194 (Int32.ofInt 7).toNatClampNeg z125) 194 (Int32.ofInt 8).toNatClampNeg z137)  hI139 (in_w 0 400 j137_3 rfl)))
                  · skip
                    have i140 := z_gt 1 1 c133 i132 rfl
                    have c141 := lc_gt e131 c133
                    have i142 := lr_lt1 (-9223372036854775808) (-1000000000001) c141 (l_rng z128) (l_c (-1000000000000) rfl) rfl
                    refine g_lload 259 (gd rfl) rfl rfl ?_
                    refine g_goto 269 (gd rfl) rfl ?_
                    refine g_lastore 270 (gd rfl) rfl (n := 9) rfl (in_ix (in_c 8 rfl) rfl) ?_
                    have hI143 := inv_sL (q := 194) (j := (Int32.ofInt 8).toNatClampNeg) (x := (Int64.ofInt (-1000000000000))) hI127
                    exact gg_w (by omega) (gg_f (gf_cons rfl (gf_cons rfl (gf_cons rfl (gf_cons rfl gf_nil)))) (ct270 (sL (sL (sL (sL s 194 (Int32.ofInt 4).toNatClampNeg z108) 194 (Int32.ofInt 6).toNatClampNeg z113) 194 (Int32.ofInt 7).toNatClampNeg z125) 194 (Int32.ofInt 8).toNatClampNeg (Int64.ofInt (-1000000000000)))  hI143 (in_w 0 400 j137_3 rfl)))
                · skip
                  have i144 := z_lt (-1) (-1) c121 i120 rfl
                  have c145 := lc_lt e119 c121
                  have i146 := lr_lt2 (-999999999999) 9223372036854775807 c145 (l_c (-1000000000000) rfl) (l_rng z116) rfl
                  refine g_lload 227 (gd rfl) rfl rfl ?_
                  refine g_goto 237 (gd rfl) rfl ?_
                  refine g_lastore 238 (gd rfl) rfl (n := 9) rfl (in_ix (in_c 7 rfl) rfl) ?_
                  have hI147 := inv_sL (q := 194) (j := (Int32.ofInt 7).toNatClampNeg) (x := (Int64.ofInt (-1000000000000))) hI115
                  refine g_aload_n 239 (gd rfl) rfl rfl ?_
                  refine g_getA (q2 := 194) 242 (gd rfl) rfl rfl rfl rfl rfl ?_
                  refine g_bipush 8 244 (gd rfl) rfl rfl ?_
                  refine g_lload 246 (gd rfl) rfl rfl ?_
                  refine g_aload_n 247 (gd rfl) rfl rfl ?_
                  refine g_getA (q2 := 194) 250 (gd rfl) rfl rfl rfl rfl rfl ?_
                  refine g_bipush 8 252 (gd rfl) rfl rfl ?_
                  refine g_laload 253 (gd rfl) rfl (n := 9) rfl (in_ix (in_c 8 rfl) rfl) (fun z148 e149 => ?_)
                  refine g_lcmp 254 (gd rfl) rfl (fun z150 e151 => ?_)
                  have i152 := lc_in e151
                  refine g_if_le 257 262 (gd rfl) rfl rfl (fun c153 => ?_) (fun c153 => ?_)
                  · skip
                    have i154 := z_le (-1) 0 c153 i152 rfl
                    have c155 := lc_le e151 c153
                    have i156 := lr_le2 (-1000000000000) 9223372036854775807 c155 (l_c (-1000000000000) rfl) (l_rng z148) rfl
                    refine g_aload_n 263 (gd rfl) rfl rfl ?_
                    refine g_getA (q2 := 194) 266 (gd rfl) rfl rfl rfl rfl rfl ?_
                    refine g_bipush 8 268 (gd rfl) rfl rfl ?_
                    refine g_laload 269 (gd rfl) rfl (n := 9) rfl (in_ix (in_c 8 rfl) rfl) (fun z157 e158 => ?_)
                    refine g_lastore 270 (gd rfl) rfl (n := 9) rfl (in_ix (in_c 8 rfl) rfl) ?_
                    have hI159 := inv_sL (q := 194) (j := (Int32.ofInt 8).toNatClampNeg) (x := z157) hI147
                    exact gg_w (by omega) (gg_f (gf_cons rfl (gf_cons rfl (gf_cons rfl (gf_cons rfl gf_nil)))) (ct270 (sL (sL (sL (sL s 194 (Int32.ofInt 4).toNatClampNeg z108) 194 (Int32.ofInt 6).toNatClampNeg z113) 194 (Int32.ofInt 7).toNatClampNeg (Int64.ofInt (-1000000000000))) 194 (Int32.ofInt 8).toNatClampNeg z157)  hI159 (in_w 0 400 j137_3 rfl)))
                  · skip
                    have i160 := z_gt 1 1 c153 i152 rfl
                    have c161 := lc_gt e151 c153
                    have i162 := lr_lt1 (-9223372036854775808) (-1000000000001) c161 (l_rng z148) (l_c (-1000000000000) rfl) rfl
                    refine g_lload 259 (gd rfl) rfl rfl ?_
                    refine g_goto 269 (gd rfl) rfl ?_
                    refine g_lastore 270 (gd rfl) rfl (n := 9) rfl (in_ix (in_c 8 rfl) rfl) ?_
                    have hI163 := inv_sL (q := 194) (j := (Int32.ofInt 8).toNatClampNeg) (x := (Int64.ofInt (-1000000000000))) hI147
                    exact gg_w (by omega) (gg_f (gf_cons rfl (gf_cons rfl (gf_cons rfl (gf_cons rfl gf_nil)))) (ct270 (sL (sL (sL (sL s 194 (Int32.ofInt 4).toNatClampNeg z108) 194 (Int32.ofInt 6).toNatClampNeg z113) 194 (Int32.ofInt 7).toNatClampNeg (Int64.ofInt (-1000000000000))) 194 (Int32.ofInt 8).toNatClampNeg (Int64.ofInt (-1000000000000)))  hI163 (in_w 0 400 j137_3 rfl)))
            · skip
              have i164 := z_gt 1 1 c34 i33 rfl
              have c165 := lc_gt e32 c34
              have i166 := lr_lt2 1000000000001 9223372036854775807 c165 (l_c 1000000000000 rfl) (l_rng z25) rfl
              refine g_ldc2_w 1000000000000 11 (gd rfl) rfl rfl ?_
              refine g_goto 29 (gd rfl) rfl ?_
              refine g_lreturn (gd rfl) rfl (hp29 _ _ ?_)
              show GG _ _ _ _ _ _ _ _ [.long (Int64.ofInt 1000000000000)] _ _ _
              refine g_lstore 184 (gd rfl) rfl (Nat.le_of_ble_eq_true rfl) ?_
              refine g_aload_n 185 (gd rfl) rfl rfl ?_
              refine g_getA (q2 := 194) 188 (gd rfl) rfl rfl rfl rfl rfl ?_
              refine g_iconst 4 189 (gd rfl) rfl rfl ?_
              refine g_dup2 190 (gd rfl) rfl rfl rfl ?_
              refine g_laload 191 (gd rfl) rfl (n := 9) rfl (in_ix (in_c 4 rfl) rfl) (fun z167 e168 => ?_)
              refine g_lconst 1 192 (gd rfl) rfl rfl ?_
              refine g_ladd 193 (gd rfl) rfl (fun z169 e170 => ?_)
              refine g_lastore 194 (gd rfl) rfl (n := 9) rfl (in_ix (in_c 4 rfl) rfl) ?_
              have hI171 := inv_sL (q := 194) (j := (Int32.ofInt 4).toNatClampNeg) (x := z169) hI
              refine g_aload_n 195 (gd rfl) rfl rfl ?_
              refine g_getA (q2 := 194) 198 (gd rfl) rfl rfl rfl rfl rfl ?_
              refine g_bipush 6 200 (gd rfl) rfl rfl ?_
              refine g_dup2 201 (gd rfl) rfl rfl rfl ?_
              refine g_laload 202 (gd rfl) rfl (n := 9) rfl (in_ix (in_c 6 rfl) rfl) (fun z172 e173 => ?_)
              refine g_lload 204 (gd rfl) rfl rfl ?_
              refine g_ladd 205 (gd rfl) rfl (fun z174 e175 => ?_)
              refine g_lastore 206 (gd rfl) rfl (n := 9) rfl (in_ix (in_c 6 rfl) rfl) ?_
              have hI176 := inv_sL (q := 194) (j := (Int32.ofInt 6).toNatClampNeg) (x := z174) hI171
              refine g_aload_n 207 (gd rfl) rfl rfl ?_
              refine g_getA (q2 := 194) 210 (gd rfl) rfl rfl rfl rfl rfl ?_
              refine g_bipush 7 212 (gd rfl) rfl rfl ?_
              refine g_lload 214 (gd rfl) rfl rfl ?_
              refine g_aload_n 215 (gd rfl) rfl rfl ?_
              refine g_getA (q2 := 194) 218 (gd rfl) rfl rfl rfl rfl rfl ?_
              refine g_bipush 7 220 (gd rfl) rfl rfl ?_
              refine g_laload 221 (gd rfl) rfl (n := 9) rfl (in_ix (in_c 7 rfl) rfl) (fun z177 e178 => ?_)
              refine g_lcmp 222 (gd rfl) rfl (fun z179 e180 => ?_)
              have i181 := lc_in e180
              refine g_if_ge 225 230 (gd rfl) rfl rfl (fun c182 => ?_) (fun c182 => ?_)
              · skip
                have i183 := z_ge 0 1 c182 i181 rfl
                have c184 := lc_ge e180 c182
                have i185 := lr_le1 (-9223372036854775808) 1000000000000 c184 (l_rng z177) (l_c 1000000000000 rfl) rfl
                refine g_aload_n 231 (gd rfl) rfl rfl ?_
                refine g_getA (q2 := 194) 234 (gd rfl) rfl rfl rfl rfl rfl ?_
                refine g_bipush 7 236 (gd rfl) rfl rfl ?_
                refine g_laload 237 (gd rfl) rfl (n := 9) rfl (in_ix (in_c 7 rfl) rfl) (fun z186 e187 => ?_)
                refine g_lastore 238 (gd rfl) rfl (n := 9) rfl (in_ix (in_c 7 rfl) rfl) ?_
                have hI188 := inv_sL (q := 194) (j := (Int32.ofInt 7).toNatClampNeg) (x := z186) hI176
                refine g_aload_n 239 (gd rfl) rfl rfl ?_
                refine g_getA (q2 := 194) 242 (gd rfl) rfl rfl rfl rfl rfl ?_
                refine g_bipush 8 244 (gd rfl) rfl rfl ?_
                refine g_lload 246 (gd rfl) rfl rfl ?_
                refine g_aload_n 247 (gd rfl) rfl rfl ?_
                refine g_getA (q2 := 194) 250 (gd rfl) rfl rfl rfl rfl rfl ?_
                refine g_bipush 8 252 (gd rfl) rfl rfl ?_
                refine g_laload 253 (gd rfl) rfl (n := 9) rfl (in_ix (in_c 8 rfl) rfl) (fun z189 e190 => ?_)
                refine g_lcmp 254 (gd rfl) rfl (fun z191 e192 => ?_)
                have i193 := lc_in e192
                refine g_if_le 257 262 (gd rfl) rfl rfl (fun c194 => ?_) (fun c194 => ?_)
                · skip
                  have i195 := z_le (-1) 0 c194 i193 rfl
                  have c196 := lc_le e192 c194
                  have i197 := lr_le2 1000000000000 9223372036854775807 c196 (l_c 1000000000000 rfl) (l_rng z189) rfl
                  refine g_aload_n 263 (gd rfl) rfl rfl ?_
                  refine g_getA (q2 := 194) 266 (gd rfl) rfl rfl rfl rfl rfl ?_
                  refine g_bipush 8 268 (gd rfl) rfl rfl ?_
                  refine g_laload 269 (gd rfl) rfl (n := 9) rfl (in_ix (in_c 8 rfl) rfl) (fun z198 e199 => ?_)
                  refine g_lastore 270 (gd rfl) rfl (n := 9) rfl (in_ix (in_c 8 rfl) rfl) ?_
                  have hI200 := inv_sL (q := 194) (j := (Int32.ofInt 8).toNatClampNeg) (x := z198) hI188
                  exact gg_w (by omega) (gg_f (gf_cons rfl (gf_cons rfl (gf_cons rfl (gf_cons rfl gf_nil)))) (ct270 (sL (sL (sL (sL s 194 (Int32.ofInt 4).toNatClampNeg z169) 194 (Int32.ofInt 6).toNatClampNeg z174) 194 (Int32.ofInt 7).toNatClampNeg z186) 194 (Int32.ofInt 8).toNatClampNeg z198)  hI200 (in_w 0 400 j137_3 rfl)))
                · skip
                  have i201 := z_gt 1 1 c194 i193 rfl
                  have c202 := lc_gt e192 c194
                  have i203 := lr_lt1 (-9223372036854775808) 999999999999 c202 (l_rng z189) (l_c 1000000000000 rfl) rfl
                  refine g_lload 259 (gd rfl) rfl rfl ?_
                  refine g_goto 269 (gd rfl) rfl ?_
                  refine g_lastore 270 (gd rfl) rfl (n := 9) rfl (in_ix (in_c 8 rfl) rfl) ?_
                  have hI204 := inv_sL (q := 194) (j := (Int32.ofInt 8).toNatClampNeg) (x := (Int64.ofInt 1000000000000)) hI188
                  exact gg_w (by omega) (gg_f (gf_cons rfl (gf_cons rfl (gf_cons rfl (gf_cons rfl gf_nil)))) (ct270 (sL (sL (sL (sL s 194 (Int32.ofInt 4).toNatClampNeg z169) 194 (Int32.ofInt 6).toNatClampNeg z174) 194 (Int32.ofInt 7).toNatClampNeg z186) 194 (Int32.ofInt 8).toNatClampNeg (Int64.ofInt 1000000000000))  hI204 (in_w 0 400 j137_3 rfl)))
              · skip
                have i205 := z_lt (-1) (-1) c182 i181 rfl
                have c206 := lc_lt e180 c182
                have i207 := lr_lt2 1000000000001 9223372036854775807 c206 (l_c 1000000000000 rfl) (l_rng z177) rfl
                refine g_lload 227 (gd rfl) rfl rfl ?_
                refine g_goto 237 (gd rfl) rfl ?_
                refine g_lastore 238 (gd rfl) rfl (n := 9) rfl (in_ix (in_c 7 rfl) rfl) ?_
                have hI208 := inv_sL (q := 194) (j := (Int32.ofInt 7).toNatClampNeg) (x := (Int64.ofInt 1000000000000)) hI176
                refine g_aload_n 239 (gd rfl) rfl rfl ?_
                refine g_getA (q2 := 194) 242 (gd rfl) rfl rfl rfl rfl rfl ?_
                refine g_bipush 8 244 (gd rfl) rfl rfl ?_
                refine g_lload 246 (gd rfl) rfl rfl ?_
                refine g_aload_n 247 (gd rfl) rfl rfl ?_
                refine g_getA (q2 := 194) 250 (gd rfl) rfl rfl rfl rfl rfl ?_
                refine g_bipush 8 252 (gd rfl) rfl rfl ?_
                refine g_laload 253 (gd rfl) rfl (n := 9) rfl (in_ix (in_c 8 rfl) rfl) (fun z209 e210 => ?_)
                refine g_lcmp 254 (gd rfl) rfl (fun z211 e212 => ?_)
                have i213 := lc_in e212
                refine g_if_le 257 262 (gd rfl) rfl rfl (fun c214 => ?_) (fun c214 => ?_)
                · skip
                  have i215 := z_le (-1) 0 c214 i213 rfl
                  have c216 := lc_le e212 c214
                  have i217 := lr_le2 1000000000000 9223372036854775807 c216 (l_c 1000000000000 rfl) (l_rng z209) rfl
                  refine g_aload_n 263 (gd rfl) rfl rfl ?_
                  refine g_getA (q2 := 194) 266 (gd rfl) rfl rfl rfl rfl rfl ?_
                  refine g_bipush 8 268 (gd rfl) rfl rfl ?_
                  refine g_laload 269 (gd rfl) rfl (n := 9) rfl (in_ix (in_c 8 rfl) rfl) (fun z218 e219 => ?_)
                  refine g_lastore 270 (gd rfl) rfl (n := 9) rfl (in_ix (in_c 8 rfl) rfl) ?_
                  have hI220 := inv_sL (q := 194) (j := (Int32.ofInt 8).toNatClampNeg) (x := z218) hI208
                  exact gg_w (by omega) (gg_f (gf_cons rfl (gf_cons rfl (gf_cons rfl (gf_cons rfl gf_nil)))) (ct270 (sL (sL (sL (sL s 194 (Int32.ofInt 4).toNatClampNeg z169) 194 (Int32.ofInt 6).toNatClampNeg z174) 194 (Int32.ofInt 7).toNatClampNeg (Int64.ofInt 1000000000000)) 194 (Int32.ofInt 8).toNatClampNeg z218)  hI220 (in_w 0 400 j137_3 rfl)))
                · skip
                  have i221 := z_gt 1 1 c214 i213 rfl
                  have c222 := lc_gt e212 c214
                  have i223 := lr_lt1 (-9223372036854775808) 999999999999 c222 (l_rng z209) (l_c 1000000000000 rfl) rfl
                  refine g_lload 259 (gd rfl) rfl rfl ?_
                  refine g_goto 269 (gd rfl) rfl ?_
                  refine g_lastore 270 (gd rfl) rfl (n := 9) rfl (in_ix (in_c 8 rfl) rfl) ?_
                  have hI224 := inv_sL (q := 194) (j := (Int32.ofInt 8).toNatClampNeg) (x := (Int64.ofInt 1000000000000)) hI208
                  exact gg_w (by omega) (gg_f (gf_cons rfl (gf_cons rfl (gf_cons rfl (gf_cons rfl gf_nil)))) (ct270 (sL (sL (sL (sL s 194 (Int32.ofInt 4).toNatClampNeg z169) 194 (Int32.ofInt 6).toNatClampNeg z174) 194 (Int32.ofInt 7).toNatClampNeg (Int64.ofInt 1000000000000)) 194 (Int32.ofInt 8).toNatClampNeg (Int64.ofInt 1000000000000))  hI224 (in_w 0 400 j137_3 rfl)))
      refine g_iload_n 97 (gd rfl) rfl rfl ?_
      refine g_aload_n 98 (gd rfl) rfl rfl ?_
      refine g_getI 101 (gd rfl) rfl rfl rfl (fun z225 e226 => ?_)
      have i227 := inv_F hI 0 160 rfl e226
      refine g_sipush 160 104 (gd rfl) rfl rfl ?_
      refine g_iadd 105 (gd rfl) rfl (fun z228 e229 => ?_)
      have i230 := in_add 160 320 e229 i227 (in_c 160 rfl) rfl rfl
      refine g_cmp_ge 108 276 (gd rfl) rfl rfl (fun c231 => ?_) (fun c231 => ?_)
      · skip
        have i232 := r_le2 160 479 c231 i230 j96_3 rfl
        refine g_aload_n 277 (gd rfl) rfl rfl ?_
        refine g_getA (q2 := 194) 280 (gd rfl) rfl rfl rfl rfl rfl ?_
        refine g_bipush 6 282 (gd rfl) rfl rfl ?_
        refine g_aload_n 283 (gd rfl) rfl rfl ?_
        refine g_getA (q2 := 194) 286 (gd rfl) rfl rfl rfl rfl rfl ?_
        refine g_bipush 6 288 (gd rfl) rfl rfl ?_
        refine g_laload 289 (gd rfl) rfl (n := 9) rfl (in_ix (in_c 6 rfl) rfl) (fun z233 e234 => ?_)
        refine g_calls (As := [.long z233]) (r := [.int (Int32.ofInt 6), .ref (A 194)]) 292 (gd rfl) rfl rfl rfl rfl rfl (Nat.le_of_ble_eq_true rfl) (mc := 0) (ms := 0) (Nat.zero_le _) (Nat.zero_le _) (P := fun v u => _) ?_ (fun v u h => h)
        intro po235 xx236 hp237 hx238
        refine g_enter2 (k := 405) (N := 300) (by omega) rfl (Nat.le_of_ble_eq_true rfl) ?_
        refine g_lload_n 1 (gd rfl) rfl rfl ?_
        refine g_ldc2_w 1000000000000 4 (gd rfl) rfl rfl ?_
        refine g_lcmp 5 (gd rfl) rfl (fun z239 e240 => ?_)
        have i241 := lc_in e240
        refine g_if_le 8 14 (gd rfl) rfl rfl (fun c242 => ?_) (fun c242 => ?_)
        · skip
          have i243 := z_le (-1) 0 c242 i241 rfl
          have c244 := lc_le e240 c242
          have i245 := lr_le1 (-9223372036854775808) 1000000000000 c244 (l_rng z233) (l_c 1000000000000 rfl) rfl
          refine g_lload_n 15 (gd rfl) rfl rfl ?_
          refine g_ldc2_w (-1000000000000) 18 (gd rfl) rfl rfl ?_
          refine g_lcmp 19 (gd rfl) rfl (fun z246 e247 => ?_)
          have i248 := lc_in e247
          refine g_if_ge 22 28 (gd rfl) rfl rfl (fun c249 => ?_) (fun c249 => ?_)
          · skip
            have i250 := z_ge 0 1 c249 i248 rfl
            have c251 := lc_ge e247 c249
            have i252 := lr_le2 (-1000000000000) 1000000000000 c251 (l_c (-1000000000000) rfl) i245 rfl
            refine g_lload_n 29 (gd rfl) rfl rfl ?_
            refine g_lreturn (gd rfl) rfl (hp237 _ _ ?_)
            show GG _ _ _ _ _ _ _ _ [.long z233, .int (Int32.ofInt 6), .ref (A 194)] _ _ _
            refine g_lastore 293 (gd rfl) rfl (n := 9) rfl (in_ix (in_c 6 rfl) rfl) ?_
            have hI253 := inv_sL (q := 194) (j := (Int32.ofInt 6).toNatClampNeg) (x := z233) hI
            exact g_return (gd rfl) rfl (hP _ _ ⟨(sL s 194 (Int32.ofInt 6).toNatClampNeg z233), hI253, rfl, rfl⟩)
          · skip
            have i254 := z_lt (-1) (-1) c249 i248 rfl
            have c255 := lc_lt e247 c249
            have i256 := lr_lt1 (-9223372036854775808) (-1000000000001) c255 i245 (l_c (-1000000000000) rfl) rfl
            refine g_ldc2_w (-1000000000000) 25 (gd rfl) rfl rfl ?_
            refine g_goto 29 (gd rfl) rfl ?_
            refine g_lreturn (gd rfl) rfl (hp237 _ _ ?_)
            show GG _ _ _ _ _ _ _ _ [.long (Int64.ofInt (-1000000000000)), .int (Int32.ofInt 6), .ref (A 194)] _ _ _
            refine g_lastore 293 (gd rfl) rfl (n := 9) rfl (in_ix (in_c 6 rfl) rfl) ?_
            have hI257 := inv_sL (q := 194) (j := (Int32.ofInt 6).toNatClampNeg) (x := (Int64.ofInt (-1000000000000))) hI
            exact g_return (gd rfl) rfl (hP _ _ ⟨(sL s 194 (Int32.ofInt 6).toNatClampNeg (Int64.ofInt (-1000000000000))), hI257, rfl, rfl⟩)
        · skip
          have i258 := z_gt 1 1 c242 i241 rfl
          have c259 := lc_gt e240 c242
          have i260 := lr_lt2 1000000000001 9223372036854775807 c259 (l_c 1000000000000 rfl) (l_rng z233) rfl
          refine g_ldc2_w 1000000000000 11 (gd rfl) rfl rfl ?_
          refine g_goto 29 (gd rfl) rfl ?_
          refine g_lreturn (gd rfl) rfl (hp237 _ _ ?_)
          show GG _ _ _ _ _ _ _ _ [.long (Int64.ofInt 1000000000000), .int (Int32.ofInt 6), .ref (A 194)] _ _ _
          refine g_lastore 293 (gd rfl) rfl (n := 9) rfl (in_ix (in_c 6 rfl) rfl) ?_
          have hI261 := inv_sL (q := 194) (j := (Int32.ofInt 6).toNatClampNeg) (x := (Int64.ofInt 1000000000000)) hI
          exact g_return (gd rfl) rfl (hP _ _ ⟨(sL s 194 (Int32.ofInt 6).toNatClampNeg (Int64.ofInt 1000000000000)), hI261, rfl, rfl⟩)
      · skip
        have i262 := r_lt1 0 319 c231 j96_3 i230 rfl
        refine g_aload_n 109 (gd rfl) rfl rfl ?_
        refine g_getA (q2 := 112) 112 (gd rfl) rfl rfl rfl rfl rfl ?_
        refine g_iload_n 113 (gd rfl) rfl rfl ?_
        refine g_baload 114 (gd rfl) rfl (n := 480) rfl (in_ix i262 rfl) (fun z263 e264 => ?_)
        have i265 := inv_I hI (n := 480) (t := 3) 0 1 rfl (in_ix i262 rfl) rfl e264
        refine g_if_eq 117 137 (gd rfl) rfl rfl (fun c266 => ?_) (fun c266 => ?_)
        · skip
          have i267 := z_eq 0 0 c266 i265 rfl
          exact gg_w (by omega) (gg_f (gf_cons rfl (gf_cons rfl (gf_cons rfl (gf_cons rfl gf_nil)))) (ct137 s  hI (in_w 0 400 i262 rfl)))
        · skip
          have i268 := z_ne 1 1 c266 i265 rfl
          refine g_aload_n 118 (gd rfl) rfl rfl ?_
          refine g_getA (q2 := 113) 121 (gd rfl) rfl rfl rfl rfl rfl ?_
          refine g_iload_n 122 (gd rfl) rfl rfl ?_
          refine g_iaload 123 (gd rfl) rfl (n := 480) rfl (in_ix i262 rfl) (fun z269 e270 => ?_)
          have i271 := inv_I hI (n := 480) (t := 0) 0 31 rfl (in_ix i262 rfl) rfl e270
          refine g_iload_n 124 (gd rfl) rfl rfl ?_
          refine g_cmp_ne 127 137 (gd rfl) rfl rfl (fun c272 => ?_) (fun c272 => ?_)
          · skip
            exact gg_w (by omega) (gg_f (gf_cons rfl (gf_cons rfl (gf_cons rfl (gf_cons rfl gf_nil)))) (ct137 s  hI (in_w 0 400 i262 rfl)))
          · skip
            refine g_aload_n 128 (gd rfl) rfl rfl ?_
            refine g_getA (q2 := 194) 131 (gd rfl) rfl rfl rfl rfl rfl ?_
            refine g_iconst 3 132 (gd rfl) rfl rfl ?_
            refine g_dup2 133 (gd rfl) rfl rfl rfl ?_
            refine g_laload 134 (gd rfl) rfl (n := 9) rfl (in_ix (in_c 3 rfl) rfl) (fun z273 e274 => ?_)
            refine g_lconst 1 135 (gd rfl) rfl rfl ?_
            refine g_ladd 136 (gd rfl) rfl (fun z275 e276 => ?_)
            refine g_lastore 137 (gd rfl) rfl (n := 9) rfl (in_ix (in_c 3 rfl) rfl) ?_
            have hI277 := inv_sL (q := 194) (j := (Int32.ofInt 3).toNatClampNeg) (x := z275) hI
            exact gg_w (by omega) (gg_f (gf_cons rfl (gf_cons rfl (gf_cons rfl (gf_cons rfl gf_nil)))) (ct137 (sL s 194 (Int32.ofInt 3).toNatClampNeg z275)  hI277 (in_w 0 400 i262 rfl)))
  refine g_enter2 (k := 407) (N := 1297861) (by omega) rfl (Nat.le_of_ble_eq_true rfl) ?_
  refine g_aload_n 1 (gd rfl) rfl rfl ?_
  refine g_getA (q2 := 194) 4 (gd rfl) rfl rfl rfl rfl rfl ?_
  refine g_iconst 0 5 (gd rfl) rfl rfl ?_
  refine g_aload_n 6 (gd rfl) rfl rfl ?_
  refine g_getA (q2 := 191) 9 (gd rfl) rfl rfl rfl rfl rfl ?_
  refine g_iload_n 10 (gd rfl) rfl rfl ?_
  refine g_laload 11 (gd rfl) rfl (n := 32) rfl (in_ix h1 rfl) (fun z278 e279 => ?_)
  refine g_lastore 12 (gd rfl) rfl (n := 9) rfl (in_ix (in_c 0 rfl) rfl) ?_
  have hI280 := inv_sL (q := 194) (j := (Int32.ofInt 0).toNatClampNeg) (x := z278) hI
  refine g_aload_n 13 (gd rfl) rfl rfl ?_
  refine g_getA (q2 := 194) 16 (gd rfl) rfl rfl rfl rfl rfl ?_
  refine g_iconst 1 17 (gd rfl) rfl rfl ?_
  refine g_iload_n 18 (gd rfl) rfl rfl ?_
  refine g_i2l 19 (gd rfl) rfl (fun z281 e282 => ?_)
  have i283 := l_i e282 h1
  refine g_lastore 20 (gd rfl) rfl (n := 9) rfl (in_ix (in_c 1 rfl) rfl) ?_
  have hI284 := inv_sL (q := 194) (j := (Int32.ofInt 1).toNatClampNeg) (x := z281) hI280
  refine g_aload_n 21 (gd rfl) rfl rfl ?_
  refine g_getA (q2 := 194) 24 (gd rfl) rfl rfl rfl rfl rfl ?_
  refine g_iconst 2 25 (gd rfl) rfl rfl ?_
  refine g_aload_n 26 (gd rfl) rfl rfl ?_
  refine g_getA (q2 := 111) 29 (gd rfl) rfl rfl rfl rfl rfl ?_
  refine g_bipush 32 31 (gd rfl) rfl rfl ?_
  refine g_aload_n 32 (gd rfl) rfl rfl ?_
  refine g_getI 35 (gd rfl) rfl rfl rfl (fun z285 e286 => ?_)
  have i287 := inv_F hI284 0 1 rfl e286
  refine g_imul 36 (gd rfl) rfl (fun z288 e289 => ?_)
  have i290 := in_mulc 32 0 32 (Or.inl e289) i287 rfl rfl
  refine g_iload_n 37 (gd rfl) rfl rfl ?_
  refine g_iadd 38 (gd rfl) rfl (fun z291 e292 => ?_)
  have i293 := in_add 0 63 e292 i290 h1 rfl rfl
  refine g_iaload 39 (gd rfl) rfl (n := 96) rfl (in_ix i293 rfl) (fun z294 e295 => ?_)
  have i296 := inv_I hI284 (n := 96) (t := 0) 0 25 rfl (in_ix i293 rfl) rfl e295
  refine g_i2l 40 (gd rfl) rfl (fun z297 e298 => ?_)
  have i299 := l_i e298 i296
  refine g_lastore 41 (gd rfl) rfl (n := 9) rfl (in_ix (in_c 2 rfl) rfl) ?_
  have hI300 := inv_sL (q := 194) (j := (Int32.ofInt 2).toNatClampNeg) (x := z297) hI284
  refine g_aload_n 42 (gd rfl) rfl rfl ?_
  refine g_getA (q2 := 194) 45 (gd rfl) rfl rfl rfl rfl rfl ?_
  refine g_iconst 3 46 (gd rfl) rfl rfl ?_
  refine g_lconst 0 47 (gd rfl) rfl rfl ?_
  refine g_lastore 48 (gd rfl) rfl (n := 9) rfl (in_ix (in_c 3 rfl) rfl) ?_
  have hI301 := inv_sL (q := 194) (j := (Int32.ofInt 3).toNatClampNeg) (x := (Int64.ofInt 0)) hI300
  refine g_aload_n 49 (gd rfl) rfl rfl ?_
  refine g_getA (q2 := 194) 52 (gd rfl) rfl rfl rfl rfl rfl ?_
  refine g_iconst 4 53 (gd rfl) rfl rfl ?_
  refine g_lconst 0 54 (gd rfl) rfl rfl ?_
  refine g_lastore 55 (gd rfl) rfl (n := 9) rfl (in_ix (in_c 4 rfl) rfl) ?_
  have hI302 := inv_sL (q := 194) (j := (Int32.ofInt 4).toNatClampNeg) (x := (Int64.ofInt 0)) hI301
  refine g_aload_n 56 (gd rfl) rfl rfl ?_
  refine g_getA (q2 := 194) 59 (gd rfl) rfl rfl rfl rfl rfl ?_
  refine g_iconst 5 60 (gd rfl) rfl rfl ?_
  refine g_iload_n 61 (gd rfl) rfl rfl ?_
  refine g_i2l 62 (gd rfl) rfl (fun z303 e304 => ?_)
  have i305 := l_i e304 h2
  refine g_lastore 63 (gd rfl) rfl (n := 9) rfl (in_ix (in_c 5 rfl) rfl) ?_
  have hI306 := inv_sL (q := 194) (j := (Int32.ofInt 5).toNatClampNeg) (x := z303) hI302
  refine g_aload_n 64 (gd rfl) rfl rfl ?_
  refine g_getA (q2 := 194) 67 (gd rfl) rfl rfl rfl rfl rfl ?_
  refine g_bipush 6 69 (gd rfl) rfl rfl ?_
  refine g_lconst 0 70 (gd rfl) rfl rfl ?_
  refine g_lastore 71 (gd rfl) rfl (n := 9) rfl (in_ix (in_c 6 rfl) rfl) ?_
  have hI307 := inv_sL (q := 194) (j := (Int32.ofInt 6).toNatClampNeg) (x := (Int64.ofInt 0)) hI306
  refine g_aload_n 72 (gd rfl) rfl rfl ?_
  refine g_getA (q2 := 194) 75 (gd rfl) rfl rfl rfl rfl rfl ?_
  refine g_bipush 7 77 (gd rfl) rfl rfl ?_
  refine g_ldc2_w 1000000000000 80 (gd rfl) rfl rfl ?_
  refine g_lastore 81 (gd rfl) rfl (n := 9) rfl (in_ix (in_c 7 rfl) rfl) ?_
  have hI308 := inv_sL (q := 194) (j := (Int32.ofInt 7).toNatClampNeg) (x := (Int64.ofInt 1000000000000)) hI307
  refine g_aload_n 82 (gd rfl) rfl rfl ?_
  refine g_getA (q2 := 194) 85 (gd rfl) rfl rfl rfl rfl rfl ?_
  refine g_bipush 8 87 (gd rfl) rfl rfl ?_
  refine g_ldc2_w (-1000000000000) 90 (gd rfl) rfl rfl ?_
  refine g_lastore 91 (gd rfl) rfl (n := 9) rfl (in_ix (in_c 8 rfl) rfl) ?_
  have hI309 := inv_sL (q := 194) (j := (Int32.ofInt 8).toNatClampNeg) (x := (Int64.ofInt (-1000000000000))) hI308
  refine g_aload_n 92 (gd rfl) rfl rfl ?_
  refine g_getI 95 (gd rfl) rfl rfl rfl (fun z310 e311 => ?_)
  have i312 := inv_F hI309 0 160 rfl e311
  refine g_istore_n 96 (gd rfl) rfl (Nat.le_of_ble_eq_true rfl) ?_
  exact gg_w (by omega) (gg_f (gf_cons rfl (gf_cons rfl (gf_cons rfl (gf_cons rfl gf_nil)))) (ct96 480 (sL (sL (sL (sL (sL (sL (sL (sL (sL s 194 (Int32.ofInt 0).toNatClampNeg z278) 194 (Int32.ofInt 1).toNatClampNeg z281) 194 (Int32.ofInt 2).toNatClampNeg z297) 194 (Int32.ofInt 3).toNatClampNeg (Int64.ofInt 0)) 194 (Int32.ofInt 4).toNatClampNeg (Int64.ofInt 0)) 194 (Int32.ofInt 5).toNatClampNeg z303) 194 (Int32.ofInt 6).toNatClampNeg (Int64.ofInt 0)) 194 (Int32.ofInt 7).toNatClampNeg (Int64.ofInt 1000000000000)) 194 (Int32.ofInt 8).toNatClampNeg (Int64.ofInt (-1000000000000))) z310 hI309 (in_w 0 479 i312 rfl) (m_in 480 (in_w 0 479 i312 rfl) rfl)))

/-- GraphHouseModel.goesTo -/
theorem k_410 {Z : AmZ} {A : Nat → Nat} {s : GS} {ex : va_W} {d : Nat} {X : AmX} {x1 : Int32} {x2 : Int32} {x3 : Int32} (hd : 1 ≤ d) (hI : Inv s) (h1 : In x1 0 31) (h2 : In x2 0 3) (h3 : In x3 1 4) : GC Z d 410 [.ref (A 109), .int x1, .int x2, .int x3] (WW Z A s ++ ex) 0 0 (fun v u => ∃ z : Int32, v = some (.int z) ∧ u = WW Z A s ++ ex ∧ In z 0 1) X := by
  intro post xp hP hX
  have ct9 : ∀ (k9 : Nat) (y9_4 : Int32) (y9_5 : Int32), In y9_4 0 1 → In y9_5 0 400 → 400 - (y9_5).toInt < (k9 : Int) → GG Z (d - 1) 410 post (gx xp) (1 + k9 * 900) 9 (fun j => xlook j [(0, .ref (A 109)), (1, .int x1), (2, .int x2), (3, .int x3), (4, .int y9_4), (5, .int y9_5)]) [] (WW Z A s ++ ex) 0 0 := by
    intro k9
    induction k9 with
    | zero => intro y9_4 y9_5 j9_4 j9_5 mm9; exact m_no mm9 j9_5 rfl
    | succ k9 ih9 =>
      intro y9_4 y9_5 j9_4 j9_5 mm9
      refine gg_w (M := 1 + k9 * 900 + 900) (by omega) ?_
      refine g_iload 11 (gd rfl) rfl rfl ?_
      refine g_aload_n 12 (gd rfl) rfl rfl ?_
      refine g_getI 15 (gd rfl) rfl rfl rfl (fun z1 e2 => ?_)
      have i3 := inv_F hI 0 160 rfl e2
      refine g_sipush 160 18 (gd rfl) rfl rfl ?_
      refine g_iadd 19 (gd rfl) rfl (fun z4 e5 => ?_)
      have i6 := in_add 160 320 e5 i3 (in_c 160 rfl) rfl rfl
      refine g_cmp_ge 22 74 (gd rfl) rfl rfl (fun c7 => ?_) (fun c7 => ?_)
      · skip
        have i8 := r_le2 160 400 c7 i6 j9_5 rfl
        refine g_iload 76 (gd rfl) rfl rfl ?_
        refine g_if_eq 79 90 (gd rfl) rfl rfl (fun c9 => ?_) (fun c9 => ?_)
        · skip
          have i10 := z_eq 0 0 c9 j9_4 rfl
          refine g_iconst 0 91 (gd rfl) rfl rfl ?_
          exact g_ireturn (gd rfl) rfl (nb01 (in_w 0 1 (in_c 0 rfl) rfl)) (hP _ _ ⟨(Int32.ofInt 0), rfl, rfl, in_w 0 1 (in_c 0 rfl) rfl⟩)
        · skip
          have i11 := z_ne 1 1 c9 j9_4 rfl
          refine g_iload_n 80 (gd rfl) rfl rfl ?_
          refine g_iload_n 81 (gd rfl) rfl rfl ?_
          refine g_irem 82 (gd rfl) rfl (dv_nz h3 rfl) (fun z12 e13 => ?_)
          have i14 := in_remv 3 e13 h1 h3 rfl
          refine g_iload_n 83 (gd rfl) rfl rfl ?_
          refine g_cmp_eq 86 90 (gd rfl) rfl rfl (fun c15 => ?_) (fun c15 => ?_)
          · skip
            refine g_iconst 0 91 (gd rfl) rfl rfl ?_
            exact g_ireturn (gd rfl) rfl (nb01 (in_w 0 1 (in_c 0 rfl) rfl)) (hP _ _ ⟨(Int32.ofInt 0), rfl, rfl, in_w 0 1 (in_c 0 rfl) rfl⟩)
          · skip
            refine g_iconst 1 87 (gd rfl) rfl rfl ?_
            refine g_goto 91 (gd rfl) rfl ?_
            exact g_ireturn (gd rfl) rfl (nb01 (in_w 0 1 (in_c 1 rfl) rfl)) (hP _ _ ⟨(Int32.ofInt 1), rfl, rfl, in_w 0 1 (in_c 1 rfl) rfl⟩)
      · skip
        have i16 := r_lt1 0 319 c7 j9_5 i6 rfl
        refine g_iload 24 (gd rfl) rfl rfl ?_
        refine g_if_ne 27 61 (gd rfl) rfl rfl (fun c17 => ?_) (fun c17 => ?_)
        · skip
          have i18 := z_ne 1 1 c17 j9_4 rfl
          refine g_iconst 1 62 (gd rfl) rfl rfl ?_
          refine g_goto 66 (gd rfl) rfl ?_
          refine g_istore 68 (gd rfl) rfl (Nat.le_of_ble_eq_true rfl) ?_
          refine g_iinc 71 (gd rfl) rfl rfl (Nat.le_of_ble_eq_true rfl) (fun z19 e20 => ?_)
          have i21 := in_add 1 320 e20 i16 (in_c 1 rfl) rfl rfl
          refine g_goto 9 (gd rfl) rfl ?_
          exact gg_w (by omega) (gg_f (gf_cons rfl (gf_cons rfl (gf_cons rfl (gf_cons rfl (gf_cons rfl (gf_cons rfl gf_nil)))))) (ih9  (Int32.ofInt 1) z19  (in_w 0 1 (in_c 1 rfl) rfl) (in_w 0 400 i21 rfl) (m_up mm9 (t_add e20 i16 (in_c 1 rfl) rfl) (in_w 1 1 (in_c 1 rfl) rfl))))
        · skip
          have i22 := z_eq 0 0 c17 j9_4 rfl
          refine g_aload_n 28 (gd rfl) rfl rfl ?_
          refine g_getA (q2 := 112) 31 (gd rfl) rfl rfl rfl rfl rfl ?_
          refine g_iload 33 (gd rfl) rfl rfl ?_
          refine g_baload 34 (gd rfl) rfl (n := 480) rfl (in_ix i16 rfl) (fun z23 e24 => ?_)
          have i25 := inv_I hI (n := 480) (t := 3) 0 1 rfl (in_ix i16 rfl) rfl e24
          refine g_if_eq 37 65 (gd rfl) rfl rfl (fun c26 => ?_) (fun c26 => ?_)
          · skip
            have i27 := z_eq 0 0 c26 i25 rfl
            refine g_iconst 0 66 (gd rfl) rfl rfl ?_
            refine g_istore 68 (gd rfl) rfl (Nat.le_of_ble_eq_true rfl) ?_
            refine g_iinc 71 (gd rfl) rfl rfl (Nat.le_of_ble_eq_true rfl) (fun z28 e29 => ?_)
            have i30 := in_add 1 320 e29 i16 (in_c 1 rfl) rfl rfl
            refine g_goto 9 (gd rfl) rfl ?_
            exact gg_w (by omega) (gg_f (gf_cons rfl (gf_cons rfl (gf_cons rfl (gf_cons rfl (gf_cons rfl (gf_cons rfl gf_nil)))))) (ih9  (Int32.ofInt 0) z28  (in_w 0 1 (in_c 0 rfl) rfl) (in_w 0 400 i30 rfl) (m_up mm9 (t_add e29 i16 (in_c 1 rfl) rfl) (in_w 1 1 (in_c 1 rfl) rfl))))
          · skip
            have i31 := z_ne 1 1 c26 i25 rfl
            refine g_aload_n 38 (gd rfl) rfl rfl ?_
            refine g_getA (q2 := 113) 41 (gd rfl) rfl rfl rfl rfl rfl ?_
            refine g_iload 43 (gd rfl) rfl rfl ?_
            refine g_iaload 44 (gd rfl) rfl (n := 480) rfl (in_ix i16 rfl) (fun z32 e33 => ?_)
            have i34 := inv_I hI (n := 480) (t := 0) 0 31 rfl (in_ix i16 rfl) rfl e33
            refine g_iload_n 45 (gd rfl) rfl rfl ?_
            refine g_cmp_ne 48 65 (gd rfl) rfl rfl (fun c35 => ?_) (fun c35 => ?_)
            · skip
              refine g_iconst 0 66 (gd rfl) rfl rfl ?_
              refine g_istore 68 (gd rfl) rfl (Nat.le_of_ble_eq_true rfl) ?_
              refine g_iinc 71 (gd rfl) rfl rfl (Nat.le_of_ble_eq_true rfl) (fun z36 e37 => ?_)
              have i38 := in_add 1 320 e37 i16 (in_c 1 rfl) rfl rfl
              refine g_goto 9 (gd rfl) rfl ?_
              exact gg_w (by omega) (gg_f (gf_cons rfl (gf_cons rfl (gf_cons rfl (gf_cons rfl (gf_cons rfl (gf_cons rfl gf_nil)))))) (ih9  (Int32.ofInt 0) z36  (in_w 0 1 (in_c 0 rfl) rfl) (in_w 0 400 i38 rfl) (m_up mm9 (t_add e37 i16 (in_c 1 rfl) rfl) (in_w 1 1 (in_c 1 rfl) rfl))))
            · skip
              refine g_aload_n 49 (gd rfl) rfl rfl ?_
              refine g_getA (q2 := 114) 52 (gd rfl) rfl rfl rfl rfl rfl ?_
              refine g_iload 54 (gd rfl) rfl rfl ?_
              refine g_iaload 55 (gd rfl) rfl (n := 480) rfl (in_ix i16 rfl) (fun z39 e40 => ?_)
              have i41 := inv_I hI (n := 480) (t := 0) 0 31 rfl (in_ix i16 rfl) rfl e40
              refine g_iload_n 56 (gd rfl) rfl rfl ?_
              refine g_irem 57 (gd rfl) rfl (dv_nz h3 rfl) (fun z42 e43 => ?_)
              have i44 := in_remv 3 e43 i41 h3 rfl
              refine g_iload_n 58 (gd rfl) rfl rfl ?_
              refine g_cmp_ne 61 65 (gd rfl) rfl rfl (fun c45 => ?_) (fun c45 => ?_)
              · skip
                refine g_iconst 0 66 (gd rfl) rfl rfl ?_
                refine g_istore 68 (gd rfl) rfl (Nat.le_of_ble_eq_true rfl) ?_
                refine g_iinc 71 (gd rfl) rfl rfl (Nat.le_of_ble_eq_true rfl) (fun z46 e47 => ?_)
                have i48 := in_add 1 320 e47 i16 (in_c 1 rfl) rfl rfl
                refine g_goto 9 (gd rfl) rfl ?_
                exact gg_w (by omega) (gg_f (gf_cons rfl (gf_cons rfl (gf_cons rfl (gf_cons rfl (gf_cons rfl (gf_cons rfl gf_nil)))))) (ih9  (Int32.ofInt 0) z46  (in_w 0 1 (in_c 0 rfl) rfl) (in_w 0 400 i48 rfl) (m_up mm9 (t_add e47 i16 (in_c 1 rfl) rfl) (in_w 1 1 (in_c 1 rfl) rfl))))
              · skip
                refine g_iconst 1 62 (gd rfl) rfl rfl ?_
                refine g_goto 66 (gd rfl) rfl ?_
                refine g_istore 68 (gd rfl) rfl (Nat.le_of_ble_eq_true rfl) ?_
                refine g_iinc 71 (gd rfl) rfl rfl (Nat.le_of_ble_eq_true rfl) (fun z49 e50 => ?_)
                have i51 := in_add 1 320 e50 i16 (in_c 1 rfl) rfl rfl
                refine g_goto 9 (gd rfl) rfl ?_
                exact gg_w (by omega) (gg_f (gf_cons rfl (gf_cons rfl (gf_cons rfl (gf_cons rfl (gf_cons rfl (gf_cons rfl gf_nil)))))) (ih9  (Int32.ofInt 1) z49  (in_w 0 1 (in_c 1 rfl) rfl) (in_w 0 400 i51 rfl) (m_up mm9 (t_add e50 i16 (in_c 1 rfl) rfl) (in_w 1 1 (in_c 1 rfl) rfl))))
  refine g_enter2 (k := 410) (N := 361801) (by omega) rfl (Nat.le_of_ble_eq_true rfl) ?_
  refine g_iconst 0 1 (gd rfl) rfl rfl ?_
  refine g_istore 3 (gd rfl) rfl (Nat.le_of_ble_eq_true rfl) ?_
  refine g_aload_n 4 (gd rfl) rfl rfl ?_
  refine g_getI 7 (gd rfl) rfl rfl rfl (fun z52 e53 => ?_)
  have i54 := inv_F hI 0 160 rfl e53
  refine g_istore 9 (gd rfl) rfl (Nat.le_of_ble_eq_true rfl) ?_
  exact gg_w (by omega) (gg_f (gf_cons rfl (gf_cons rfl (gf_cons rfl (gf_cons rfl (gf_cons rfl (gf_cons rfl gf_nil)))))) (ct9 401  (Int32.ofInt 0) z52  (in_w 0 1 (in_c 0 rfl) rfl) (in_w 0 400 i54 rfl) (m_in 401 (in_w 0 400 i54 rfl) rfl)))

/-- GraphHouseModel.state -/
theorem k_412 {Z : AmZ} {A : Nat → Nat} {s : GS} {ex : va_W} {d : Nat} {X : AmX} {x1 : Int32} (hd : 4 ≤ d) (hI : Inv s)  : GC Z d 412 [.ref (A 109), .int x1] (WW Z A s ++ ex) 0 0 (fun v u => ∃ t : GS, Inv t ∧ ∃ z : Int64, v = some (.long z) ∧ u = WW Z A t ++ ex) X := by
  intro post xp hP hX
  refine g_enter2 (k := 412) (N := 900) (by omega) rfl (Nat.le_of_ble_eq_true rfl) ?_
  refine g_aload_n 1 (gd rfl) rfl rfl ?_
  refine g_iload_n 2 (gd rfl) rfl rfl ?_
  refine g_if_lt 5 17 (gd rfl) rfl rfl (fun c1 => ?_) (fun c1 => ?_)
  · skip
    have i2 := z_lt (-2147483648) (-1) c1 (i_rng x1) rfl
    refine g_iconst 0 18 (gd rfl) rfl rfl ?_
    refine g_callv (X := _) (As := [.int (Int32.ofInt 0)]) (r := []) (b := A 109) (q := 109) 21 (gd rfl) rfl rfl rfl rfl rfl (ww_o rfl) (Nat.le_of_ble_eq_true rfl) (mc := 0) (ms := 0) (Nat.zero_le _) (Nat.zero_le _) (P := fun v u => _) ?_ (fun e u h => h) (fun v u h => h)
    intro po3 xx4 hp5 hx6
    refine g_enter2 (k := 271) (N := 300) (by omega) rfl (Nat.le_of_ble_eq_true rfl) ?_
    refine g_aload_n 1 (gd rfl) rfl rfl ?_
    refine g_iload_n 2 (gd rfl) rfl rfl ?_
    refine g_iconst 1 3 (gd rfl) rfl rfl ?_
    refine g_callv (X := _) (As := [.int (Int32.ofInt 0), .int (Int32.ofInt 1)]) (r := []) (b := A 109) (q := 109) 6 (gd rfl) rfl rfl rfl rfl rfl (ww_o rfl) (Nat.le_of_ble_eq_true rfl) (mc := 0) (ms := 0) (Nat.zero_le _) (Nat.zero_le _) (P := fun v u => _) ?_ (fun e u h => h) (fun v u h => h)
    intro po7 xx8 hp9 hx10
    refine g_enter2 (k := 270) (N := 300) (by omega) rfl (Nat.le_of_ble_eq_true rfl) ?_
    refine g_aload_n 1 (gd rfl) rfl rfl ?_
    refine g_iload_n 2 (gd rfl) rfl rfl ?_
    refine g_if_ne 5 9 (gd rfl) rfl rfl (fun c11 => ?_) (fun c11 => ?_)
    · skip
      exact zn_ne c11 (in_c 0 rfl) rfl
    · skip
      refine g_iconst 1 6 (gd rfl) rfl rfl ?_
      refine g_goto 18 (gd rfl) rfl ?_
      refine g_putI 21 (gd rfl) rfl rfl rfl rfl ?_
      have hI12 := inv_sF (q := 109) (j := 0) hI rfl (in_w 0 2 (in_c 1 rfl) rfl)
      refine g_aload_n 22 (gd rfl) rfl rfl ?_
      refine g_getI 25 (gd rfl) rfl rfl rfl (fun z13 e14 => ?_)
      have q15 : (Int32.ofInt 1) = z13 := (sF_get).trans e14.symm
      subst q15
      refine g_if_le 28 32 (gd rfl) rfl rfl (fun c16 => ?_) (fun c16 => ?_)
      · skip
        exact zn_le c16 (in_c 1 rfl) rfl
      · skip
        refine g_iconst 1 29 (gd rfl) rfl rfl ?_
        refine g_goto 33 (gd rfl) rfl ?_
        refine g_ireturn (gd rfl) rfl (nb01 (in_w 0 1 (in_c 1 rfl) rfl)) (hp9 _ _ ?_)
        show GG _ _ _ _ _ _ _ _ [.int (Int32.ofInt 1)] _ _ _
        refine g_ireturn (gd rfl) rfl (nb01 (in_w 0 1 (in_c 1 rfl) rfl)) (hp5 _ _ ?_)
        show GG _ _ _ _ _ _ _ _ [.int (Int32.ofInt 1)] _ _ _
        refine g_if_eq 24 28 (gd rfl) rfl rfl (fun c17 => ?_) (fun c17 => ?_)
        · skip
          exact zn_eq c17 (in_c 1 rfl) rfl
        · skip
          refine g_lconst 0 25 (gd rfl) rfl rfl ?_
          refine g_goto 34 (gd rfl) rfl ?_
          exact g_lreturn (gd rfl) rfl (hP _ _ ⟨(sF s 109 0 (Int32.ofInt 1)), hI12, (Int64.ofInt 0), rfl, rfl⟩)
  · skip
    have i18 := z_ge 0 2147483647 c1 (i_rng x1) rfl
    refine g_iload_n 6 (gd rfl) rfl rfl ?_
    refine g_aload_n 7 (gd rfl) rfl rfl ?_
    refine g_getI 10 (gd rfl) rfl rfl rfl (fun z19 e20 => ?_)
    have i21 := inv_F hI 0 32 rfl e20
    refine g_cmp_ge 13 17 (gd rfl) rfl rfl (fun c22 => ?_) (fun c22 => ?_)
    · skip
      refine g_iconst 0 18 (gd rfl) rfl rfl ?_
      refine g_callv (X := _) (As := [.int (Int32.ofInt 0)]) (r := []) (b := A 109) (q := 109) 21 (gd rfl) rfl rfl rfl rfl rfl (ww_o rfl) (Nat.le_of_ble_eq_true rfl) (mc := 0) (ms := 0) (Nat.zero_le _) (Nat.zero_le _) (P := fun v u => _) ?_ (fun e u h => h) (fun v u h => h)
      intro po23 xx24 hp25 hx26
      refine g_enter2 (k := 271) (N := 300) (by omega) rfl (Nat.le_of_ble_eq_true rfl) ?_
      refine g_aload_n 1 (gd rfl) rfl rfl ?_
      refine g_iload_n 2 (gd rfl) rfl rfl ?_
      refine g_iconst 1 3 (gd rfl) rfl rfl ?_
      refine g_callv (X := _) (As := [.int (Int32.ofInt 0), .int (Int32.ofInt 1)]) (r := []) (b := A 109) (q := 109) 6 (gd rfl) rfl rfl rfl rfl rfl (ww_o rfl) (Nat.le_of_ble_eq_true rfl) (mc := 0) (ms := 0) (Nat.zero_le _) (Nat.zero_le _) (P := fun v u => _) ?_ (fun e u h => h) (fun v u h => h)
      intro po27 xx28 hp29 hx30
      refine g_enter2 (k := 270) (N := 300) (by omega) rfl (Nat.le_of_ble_eq_true rfl) ?_
      refine g_aload_n 1 (gd rfl) rfl rfl ?_
      refine g_iload_n 2 (gd rfl) rfl rfl ?_
      refine g_if_ne 5 9 (gd rfl) rfl rfl (fun c31 => ?_) (fun c31 => ?_)
      · skip
        exact zn_ne c31 (in_c 0 rfl) rfl
      · skip
        refine g_iconst 1 6 (gd rfl) rfl rfl ?_
        refine g_goto 18 (gd rfl) rfl ?_
        refine g_putI 21 (gd rfl) rfl rfl rfl rfl ?_
        have hI32 := inv_sF (q := 109) (j := 0) hI rfl (in_w 0 2 (in_c 1 rfl) rfl)
        refine g_aload_n 22 (gd rfl) rfl rfl ?_
        refine g_getI 25 (gd rfl) rfl rfl rfl (fun z33 e34 => ?_)
        have q35 : (Int32.ofInt 1) = z33 := (sF_get).trans e34.symm
        subst q35
        refine g_if_le 28 32 (gd rfl) rfl rfl (fun c36 => ?_) (fun c36 => ?_)
        · skip
          exact zn_le c36 (in_c 1 rfl) rfl
        · skip
          refine g_iconst 1 29 (gd rfl) rfl rfl ?_
          refine g_goto 33 (gd rfl) rfl ?_
          refine g_ireturn (gd rfl) rfl (nb01 (in_w 0 1 (in_c 1 rfl) rfl)) (hp29 _ _ ?_)
          show GG _ _ _ _ _ _ _ _ [.int (Int32.ofInt 1)] _ _ _
          refine g_ireturn (gd rfl) rfl (nb01 (in_w 0 1 (in_c 1 rfl) rfl)) (hp25 _ _ ?_)
          show GG _ _ _ _ _ _ _ _ [.int (Int32.ofInt 1)] _ _ _
          refine g_if_eq 24 28 (gd rfl) rfl rfl (fun c37 => ?_) (fun c37 => ?_)
          · skip
            exact zn_eq c37 (in_c 1 rfl) rfl
          · skip
            refine g_lconst 0 25 (gd rfl) rfl rfl ?_
            refine g_goto 34 (gd rfl) rfl ?_
            exact g_lreturn (gd rfl) rfl (hP _ _ ⟨(sF s 109 0 (Int32.ofInt 1)), hI32, (Int64.ofInt 0), rfl, rfl⟩)
    · skip
      have i38 := r_lt1 0 31 c22 i18 i21 rfl
      have i39 := r_lt2 1 32 c22 i18 i21 rfl
      refine g_iconst 1 14 (gd rfl) rfl rfl ?_
      refine g_goto 18 (gd rfl) rfl ?_
      refine g_callv (X := _) (As := [.int (Int32.ofInt 1)]) (r := []) (b := A 109) (q := 109) 21 (gd rfl) rfl rfl rfl rfl rfl (ww_o rfl) (Nat.le_of_ble_eq_true rfl) (mc := 0) (ms := 0) (Nat.zero_le _) (Nat.zero_le _) (P := fun v u => _) ?_ (fun e u h => h) (fun v u h => h)
      intro po40 xx41 hp42 hx43
      refine g_enter2 (k := 271) (N := 300) (by omega) rfl (Nat.le_of_ble_eq_true rfl) ?_
      refine g_aload_n 1 (gd rfl) rfl rfl ?_
      refine g_iload_n 2 (gd rfl) rfl rfl ?_
      refine g_iconst 1 3 (gd rfl) rfl rfl ?_
      refine g_callv (X := _) (As := [.int (Int32.ofInt 1), .int (Int32.ofInt 1)]) (r := []) (b := A 109) (q := 109) 6 (gd rfl) rfl rfl rfl rfl rfl (ww_o rfl) (Nat.le_of_ble_eq_true rfl) (mc := 0) (ms := 0) (Nat.zero_le _) (Nat.zero_le _) (P := fun v u => _) ?_ (fun e u h => h) (fun v u h => h)
      intro po44 xx45 hp46 hx47
      refine g_enter2 (k := 270) (N := 300) (by omega) rfl (Nat.le_of_ble_eq_true rfl) ?_
      refine g_aload_n 1 (gd rfl) rfl rfl ?_
      refine g_iload_n 2 (gd rfl) rfl rfl ?_
      refine g_if_ne 5 9 (gd rfl) rfl rfl (fun c48 => ?_) (fun c48 => ?_)
      · skip
        refine g_iload_n 10 (gd rfl) rfl rfl ?_
        refine g_if_ne 13 17 (gd rfl) rfl rfl (fun c49 => ?_) (fun c49 => ?_)
        · skip
          refine g_iconst 0 18 (gd rfl) rfl rfl ?_
          refine g_putI 21 (gd rfl) rfl rfl rfl rfl ?_
          have hI50 := inv_sF (q := 109) (j := 0) hI rfl (in_w 0 2 (in_c 0 rfl) rfl)
          refine g_aload_n 22 (gd rfl) rfl rfl ?_
          refine g_getI 25 (gd rfl) rfl rfl rfl (fun z51 e52 => ?_)
          have q53 : (Int32.ofInt 0) = z51 := (sF_get).trans e52.symm
          subst q53
          refine g_if_le 28 32 (gd rfl) rfl rfl (fun c54 => ?_) (fun c54 => ?_)
          · skip
            refine g_iconst 0 33 (gd rfl) rfl rfl ?_
            refine g_ireturn (gd rfl) rfl (nb01 (in_w 0 1 (in_c 0 rfl) rfl)) (hp46 _ _ ?_)
            show GG _ _ _ _ _ _ _ _ [.int (Int32.ofInt 0)] _ _ _
            refine g_ireturn (gd rfl) rfl (nb01 (in_w 0 1 (in_c 0 rfl) rfl)) (hp42 _ _ ?_)
            show GG _ _ _ _ _ _ _ _ [.int (Int32.ofInt 0)] _ _ _
            refine g_if_eq 24 28 (gd rfl) rfl rfl (fun c55 => ?_) (fun c55 => ?_)
            · skip
              refine g_aload_n 29 (gd rfl) rfl rfl ?_
              refine g_getA (q2 := 191) 32 (gd rfl) rfl rfl rfl rfl rfl ?_
              refine g_iload_n 33 (gd rfl) rfl rfl ?_
              refine g_laload 34 (gd rfl) rfl (n := 32) rfl (in_ix i38 rfl) (fun z56 e57 => ?_)
              exact g_lreturn (gd rfl) rfl (hP _ _ ⟨(sF s 109 0 (Int32.ofInt 0)), hI50, z56, rfl, rfl⟩)
            · skip
              exact zn_ne c55 (in_c 0 rfl) rfl
          · skip
            exact zn_gt c54 (in_c 0 rfl) rfl
        · skip
          exact zn_eq c49 (in_c 1 rfl) rfl
      · skip
        exact zn_eq c48 (in_c 1 rfl) rfl

/-- GraphHouseModel.letters -/
theorem k_413 {Z : AmZ} {A : Nat → Nat} {s : GS} {ex : va_W} {d : Nat} {X : AmX} {x1 : Int32} (hd : 4 ≤ d) (hI : Inv s)  : GC Z d 413 [.ref (A 109), .int x1] (WW Z A s ++ ex) 0 0 (fun v u => ∃ t : GS, Inv t ∧ ∃ z : Int32, v = some (.int z) ∧ u = WW Z A t ++ ex ∧ In z (-2147483648) 2147483647) X := by
  intro post xp hP hX
  refine g_enter2 (k := 413) (N := 900) (by omega) rfl (Nat.le_of_ble_eq_true rfl) ?_
  refine g_aload_n 1 (gd rfl) rfl rfl ?_
  refine g_iload_n 2 (gd rfl) rfl rfl ?_
  refine g_i2l 3 (gd rfl) rfl (fun z1 e2 => ?_)
  have i3 := l_i e2 (i_rng x1)
  refine g_lconst 0 4 (gd rfl) rfl rfl ?_
  refine g_ldc2_w 2 7 (gd rfl) rfl rfl ?_
  refine g_calls (As := [.long z1, .long (Int64.ofInt 0), .long (Int64.ofInt 2)]) (r := [.ref (A 109)]) 10 (gd rfl) rfl rfl rfl rfl rfl (Nat.le_of_ble_eq_true rfl) (mc := 0) (ms := 0) (Nat.zero_le _) (Nat.zero_le _) (P := fun v u => _) ?_ (fun v u h => h)
  intro po4 xx5 hp6 hx7
  refine g_enter2 (k := 269) (N := 300) (by omega) rfl (Nat.le_of_ble_eq_true rfl) ?_
  refine g_lload_n 1 (gd rfl) rfl rfl ?_
  refine g_lload_n 2 (gd rfl) rfl rfl ?_
  refine g_lcmp 3 (gd rfl) rfl (fun z8 e9 => ?_)
  have i10 := lc_in e9
  refine g_if_lt 6 17 (gd rfl) rfl rfl (fun c11 => ?_) (fun c11 => ?_)
  · skip
    have i12 := z_lt (-1) (-1) c11 i10 rfl
    have c13 := lc_lt e9 c11
    have i14 := lr_lt1 (-2147483648) (-1) c13 i3 (l_c 0 rfl) rfl
    have i15 := l_b e2 i14
    refine g_iconst 0 18 (gd rfl) rfl rfl ?_
    refine g_ireturn (gd rfl) rfl (nb01 (in_w 0 1 (in_c 0 rfl) rfl)) (hp6 _ _ ?_)
    show GG _ _ _ _ _ _ _ _ [.int (Int32.ofInt 0), .ref (A 109)] _ _ _
    refine g_callv (X := _) (As := [.int (Int32.ofInt 0)]) (r := []) (b := A 109) (q := 109) 13 (gd rfl) rfl rfl rfl rfl rfl (ww_o rfl) (Nat.le_of_ble_eq_true rfl) (mc := 0) (ms := 0) (Nat.zero_le _) (Nat.zero_le _) (P := fun v u => _) ?_ (fun e u h => h) (fun v u h => h)
    intro po16 xx17 hp18 hx19
    refine g_enter2 (k := 271) (N := 300) (by omega) rfl (Nat.le_of_ble_eq_true rfl) ?_
    refine g_aload_n 1 (gd rfl) rfl rfl ?_
    refine g_iload_n 2 (gd rfl) rfl rfl ?_
    refine g_iconst 1 3 (gd rfl) rfl rfl ?_
    refine g_callv (X := _) (As := [.int (Int32.ofInt 0), .int (Int32.ofInt 1)]) (r := []) (b := A 109) (q := 109) 6 (gd rfl) rfl rfl rfl rfl rfl (ww_o rfl) (Nat.le_of_ble_eq_true rfl) (mc := 0) (ms := 0) (Nat.zero_le _) (Nat.zero_le _) (P := fun v u => _) ?_ (fun e u h => h) (fun v u h => h)
    intro po20 xx21 hp22 hx23
    refine g_enter2 (k := 270) (N := 300) (by omega) rfl (Nat.le_of_ble_eq_true rfl) ?_
    refine g_aload_n 1 (gd rfl) rfl rfl ?_
    refine g_iload_n 2 (gd rfl) rfl rfl ?_
    refine g_if_ne 5 9 (gd rfl) rfl rfl (fun c24 => ?_) (fun c24 => ?_)
    · skip
      exact zn_ne c24 (in_c 0 rfl) rfl
    · skip
      refine g_iconst 1 6 (gd rfl) rfl rfl ?_
      refine g_goto 18 (gd rfl) rfl ?_
      refine g_putI 21 (gd rfl) rfl rfl rfl rfl ?_
      have hI25 := inv_sF (q := 109) (j := 0) hI rfl (in_w 0 2 (in_c 1 rfl) rfl)
      refine g_aload_n 22 (gd rfl) rfl rfl ?_
      refine g_getI 25 (gd rfl) rfl rfl rfl (fun z26 e27 => ?_)
      have q28 : (Int32.ofInt 1) = z26 := (sF_get).trans e27.symm
      subst q28
      refine g_if_le 28 32 (gd rfl) rfl rfl (fun c29 => ?_) (fun c29 => ?_)
      · skip
        exact zn_le c29 (in_c 1 rfl) rfl
      · skip
        refine g_iconst 1 29 (gd rfl) rfl rfl ?_
        refine g_goto 33 (gd rfl) rfl ?_
        refine g_ireturn (gd rfl) rfl (nb01 (in_w 0 1 (in_c 1 rfl) rfl)) (hp22 _ _ ?_)
        show GG _ _ _ _ _ _ _ _ [.int (Int32.ofInt 1)] _ _ _
        refine g_ireturn (gd rfl) rfl (nb01 (in_w 0 1 (in_c 1 rfl) rfl)) (hp18 _ _ ?_)
        show GG _ _ _ _ _ _ _ _ [.int (Int32.ofInt 1)] _ _ _
        refine g_if_eq 16 18 (gd rfl) rfl rfl (fun c30 => ?_) (fun c30 => ?_)
        · skip
          exact zn_eq c30 (in_c 1 rfl) rfl
        · skip
          refine g_iconst 0 17 (gd rfl) rfl rfl ?_
          exact g_ireturn (gd rfl) rfl rfl (hP _ _ ⟨(sF s 109 0 (Int32.ofInt 1)), hI25, (Int32.ofInt 0), rfl, rfl, in_w (-2147483648) 2147483647 (in_c 0 rfl) rfl⟩)
  · skip
    have i31 := z_ge 0 1 c11 i10 rfl
    have c32 := lc_ge e9 c11
    have i33 := lr_le2 0 2147483647 c32 (l_c 0 rfl) i3 rfl
    have i34 := l_b e2 i33
    refine g_lload_n 7 (gd rfl) rfl rfl ?_
    refine g_lload 9 (gd rfl) rfl rfl ?_
    refine g_lcmp 10 (gd rfl) rfl (fun z35 e36 => ?_)
    have i37 := lc_in e36
    refine g_if_gt 13 17 (gd rfl) rfl rfl (fun c38 => ?_) (fun c38 => ?_)
    · skip
      have i39 := z_gt 1 1 c38 i37 rfl
      have c40 := lc_gt e36 c38
      have i41 := lr_lt2 3 2147483647 c40 (l_c 2 rfl) i33 rfl
      have i42 := l_b e2 i41
      refine g_iconst 0 18 (gd rfl) rfl rfl ?_
      refine g_ireturn (gd rfl) rfl (nb01 (in_w 0 1 (in_c 0 rfl) rfl)) (hp6 _ _ ?_)
      show GG _ _ _ _ _ _ _ _ [.int (Int32.ofInt 0), .ref (A 109)] _ _ _
      refine g_callv (X := _) (As := [.int (Int32.ofInt 0)]) (r := []) (b := A 109) (q := 109) 13 (gd rfl) rfl rfl rfl rfl rfl (ww_o rfl) (Nat.le_of_ble_eq_true rfl) (mc := 0) (ms := 0) (Nat.zero_le _) (Nat.zero_le _) (P := fun v u => _) ?_ (fun e u h => h) (fun v u h => h)
      intro po43 xx44 hp45 hx46
      refine g_enter2 (k := 271) (N := 300) (by omega) rfl (Nat.le_of_ble_eq_true rfl) ?_
      refine g_aload_n 1 (gd rfl) rfl rfl ?_
      refine g_iload_n 2 (gd rfl) rfl rfl ?_
      refine g_iconst 1 3 (gd rfl) rfl rfl ?_
      refine g_callv (X := _) (As := [.int (Int32.ofInt 0), .int (Int32.ofInt 1)]) (r := []) (b := A 109) (q := 109) 6 (gd rfl) rfl rfl rfl rfl rfl (ww_o rfl) (Nat.le_of_ble_eq_true rfl) (mc := 0) (ms := 0) (Nat.zero_le _) (Nat.zero_le _) (P := fun v u => _) ?_ (fun e u h => h) (fun v u h => h)
      intro po47 xx48 hp49 hx50
      refine g_enter2 (k := 270) (N := 300) (by omega) rfl (Nat.le_of_ble_eq_true rfl) ?_
      refine g_aload_n 1 (gd rfl) rfl rfl ?_
      refine g_iload_n 2 (gd rfl) rfl rfl ?_
      refine g_if_ne 5 9 (gd rfl) rfl rfl (fun c51 => ?_) (fun c51 => ?_)
      · skip
        exact zn_ne c51 (in_c 0 rfl) rfl
      · skip
        refine g_iconst 1 6 (gd rfl) rfl rfl ?_
        refine g_goto 18 (gd rfl) rfl ?_
        refine g_putI 21 (gd rfl) rfl rfl rfl rfl ?_
        have hI52 := inv_sF (q := 109) (j := 0) hI rfl (in_w 0 2 (in_c 1 rfl) rfl)
        refine g_aload_n 22 (gd rfl) rfl rfl ?_
        refine g_getI 25 (gd rfl) rfl rfl rfl (fun z53 e54 => ?_)
        have q55 : (Int32.ofInt 1) = z53 := (sF_get).trans e54.symm
        subst q55
        refine g_if_le 28 32 (gd rfl) rfl rfl (fun c56 => ?_) (fun c56 => ?_)
        · skip
          exact zn_le c56 (in_c 1 rfl) rfl
        · skip
          refine g_iconst 1 29 (gd rfl) rfl rfl ?_
          refine g_goto 33 (gd rfl) rfl ?_
          refine g_ireturn (gd rfl) rfl (nb01 (in_w 0 1 (in_c 1 rfl) rfl)) (hp49 _ _ ?_)
          show GG _ _ _ _ _ _ _ _ [.int (Int32.ofInt 1)] _ _ _
          refine g_ireturn (gd rfl) rfl (nb01 (in_w 0 1 (in_c 1 rfl) rfl)) (hp45 _ _ ?_)
          show GG _ _ _ _ _ _ _ _ [.int (Int32.ofInt 1)] _ _ _
          refine g_if_eq 16 18 (gd rfl) rfl rfl (fun c57 => ?_) (fun c57 => ?_)
          · skip
            exact zn_eq c57 (in_c 1 rfl) rfl
          · skip
            refine g_iconst 0 17 (gd rfl) rfl rfl ?_
            exact g_ireturn (gd rfl) rfl rfl (hP _ _ ⟨(sF s 109 0 (Int32.ofInt 1)), hI52, (Int32.ofInt 0), rfl, rfl, in_w (-2147483648) 2147483647 (in_c 0 rfl) rfl⟩)
    · skip
      have i58 := z_le (-1) 0 c38 i37 rfl
      have c59 := lc_le e36 c38
      have i60 := lr_le1 0 2 c59 i33 (l_c 2 rfl) rfl
      have i61 := l_b e2 i60
      refine g_iconst 1 14 (gd rfl) rfl rfl ?_
      refine g_goto 18 (gd rfl) rfl ?_
      refine g_ireturn (gd rfl) rfl (nb01 (in_w 0 1 (in_c 1 rfl) rfl)) (hp6 _ _ ?_)
      show GG _ _ _ _ _ _ _ _ [.int (Int32.ofInt 1), .ref (A 109)] _ _ _
      refine g_callv (X := _) (As := [.int (Int32.ofInt 1)]) (r := []) (b := A 109) (q := 109) 13 (gd rfl) rfl rfl rfl rfl rfl (ww_o rfl) (Nat.le_of_ble_eq_true rfl) (mc := 0) (ms := 0) (Nat.zero_le _) (Nat.zero_le _) (P := fun v u => _) ?_ (fun e u h => h) (fun v u h => h)
      intro po62 xx63 hp64 hx65
      refine g_enter2 (k := 271) (N := 300) (by omega) rfl (Nat.le_of_ble_eq_true rfl) ?_
      refine g_aload_n 1 (gd rfl) rfl rfl ?_
      refine g_iload_n 2 (gd rfl) rfl rfl ?_
      refine g_iconst 1 3 (gd rfl) rfl rfl ?_
      refine g_callv (X := _) (As := [.int (Int32.ofInt 1), .int (Int32.ofInt 1)]) (r := []) (b := A 109) (q := 109) 6 (gd rfl) rfl rfl rfl rfl rfl (ww_o rfl) (Nat.le_of_ble_eq_true rfl) (mc := 0) (ms := 0) (Nat.zero_le _) (Nat.zero_le _) (P := fun v u => _) ?_ (fun e u h => h) (fun v u h => h)
      intro po66 xx67 hp68 hx69
      refine g_enter2 (k := 270) (N := 300) (by omega) rfl (Nat.le_of_ble_eq_true rfl) ?_
      refine g_aload_n 1 (gd rfl) rfl rfl ?_
      refine g_iload_n 2 (gd rfl) rfl rfl ?_
      refine g_if_ne 5 9 (gd rfl) rfl rfl (fun c70 => ?_) (fun c70 => ?_)
      · skip
        refine g_iload_n 10 (gd rfl) rfl rfl ?_
        refine g_if_ne 13 17 (gd rfl) rfl rfl (fun c71 => ?_) (fun c71 => ?_)
        · skip
          refine g_iconst 0 18 (gd rfl) rfl rfl ?_
          refine g_putI 21 (gd rfl) rfl rfl rfl rfl ?_
          have hI72 := inv_sF (q := 109) (j := 0) hI rfl (in_w 0 2 (in_c 0 rfl) rfl)
          refine g_aload_n 22 (gd rfl) rfl rfl ?_
          refine g_getI 25 (gd rfl) rfl rfl rfl (fun z73 e74 => ?_)
          have q75 : (Int32.ofInt 0) = z73 := (sF_get).trans e74.symm
          subst q75
          refine g_if_le 28 32 (gd rfl) rfl rfl (fun c76 => ?_) (fun c76 => ?_)
          · skip
            refine g_iconst 0 33 (gd rfl) rfl rfl ?_
            refine g_ireturn (gd rfl) rfl (nb01 (in_w 0 1 (in_c 0 rfl) rfl)) (hp68 _ _ ?_)
            show GG _ _ _ _ _ _ _ _ [.int (Int32.ofInt 0)] _ _ _
            refine g_ireturn (gd rfl) rfl (nb01 (in_w 0 1 (in_c 0 rfl) rfl)) (hp64 _ _ ?_)
            show GG _ _ _ _ _ _ _ _ [.int (Int32.ofInt 0)] _ _ _
            refine g_if_eq 16 18 (gd rfl) rfl rfl (fun c77 => ?_) (fun c77 => ?_)
            · skip
              refine g_iload_n 19 (gd rfl) rfl rfl ?_
              refine g_if_ne 22 29 (gd rfl) rfl rfl (fun c78 => ?_) (fun c78 => ?_)
              · skip
                have i79 := z_ne 1 2 c78 i61 rfl
                refine g_iload_n 30 (gd rfl) rfl rfl ?_
                refine g_iconst 1 31 (gd rfl) rfl rfl ?_
                refine g_cmp_ne 34 41 (gd rfl) rfl rfl (fun c80 => ?_) (fun c80 => ?_)
                · skip
                  have i81 := r_ne1 2 2 c80 i79 (in_c 1 rfl) rfl
                  refine g_aload_n 42 (gd rfl) rfl rfl ?_
                  refine g_getI 45 (gd rfl) rfl rfl rfl (fun z82 e83 => ?_)
                  exact g_ireturn (gd rfl) rfl rfl (hP _ _ ⟨(sF s 109 0 (Int32.ofInt 0)), hI72, z82, rfl, rfl, in_w (-2147483648) 2147483647 (i_rng z82) rfl⟩)
                · skip
                  have i84 := r_eq1 1 1 c80 i79 (in_c 1 rfl) rfl
                  refine g_aload_n 35 (gd rfl) rfl rfl ?_
                  refine g_getI 38 (gd rfl) rfl rfl rfl (fun z85 e86 => ?_)
                  refine g_goto 45 (gd rfl) rfl ?_
                  exact g_ireturn (gd rfl) rfl rfl (hP _ _ ⟨(sF s 109 0 (Int32.ofInt 0)), hI72, z85, rfl, rfl, in_w (-2147483648) 2147483647 (i_rng z85) rfl⟩)
              · skip
                have i87 := z_eq 0 0 c78 i61 rfl
                refine g_aload_n 23 (gd rfl) rfl rfl ?_
                refine g_getI 26 (gd rfl) rfl rfl rfl (fun z88 e89 => ?_)
                refine g_goto 45 (gd rfl) rfl ?_
                exact g_ireturn (gd rfl) rfl rfl (hP _ _ ⟨(sF s 109 0 (Int32.ofInt 0)), hI72, z88, rfl, rfl, in_w (-2147483648) 2147483647 (i_rng z88) rfl⟩)
            · skip
              exact zn_ne c77 (in_c 0 rfl) rfl
          · skip
            exact zn_gt c76 (in_c 0 rfl) rfl
        · skip
          exact zn_eq c71 (in_c 1 rfl) rfl
      · skip
        exact zn_eq c70 (in_c 1 rfl) rfl
