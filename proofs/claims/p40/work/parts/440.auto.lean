section
/-! methods, by vc.py -/
def fm_325 : FM := ([134], [135], [(109, 0), (109, 40)], [])
/-- GraphHouseModel.shorts -/
theorem k_325 {Z : AmZ} {A : Nat → Nat} {s : GS} {ex : va_W} {d : Nat} {X : AmX} {x1 : Int32} {x2 : Int32} (hd : 7 ≤ d) (hI : Inv s)  : GC Z d 325 [.ref (A 109), .int x1, .int x2] (WW Z A s ++ ex) 0 0 (fun v u => ∃ t : GS, Inv t ∧ Fr fm_325 s t ∧ ∃ z : Int32, v = some (.int z) ∧ u = WW Z A t ++ ex ∧ In z (-2) 2000) X := by
  intro post xp hP hX
  obtain ⟨u_109_20, e_109_20⟩ : ∃ w, w = s.2.2.1 109 20 := ⟨_, rfl⟩
  have ro_109_20 := inv_F hI 0 32 rfl e_109_20
  refine g_enter2 (k := 325) (N := 900) (by first | exact dq1 hd rfl | exact dq0 hd rfl | exact dq2 hd rfl | exact dq3 hd rfl | omega) rfl (Nat.le_of_ble_eq_true rfl) ?_
  refine g_aload_n 1 (gd rfl) rfl rfl ?_
  refine g_aload_n 2 (gd rfl) rfl rfl ?_
  refine g_iload_n 3 (gd rfl) rfl rfl ?_
  refine g_callv (X := _) (As := [.int x1]) (r := [.ref (A 109)]) (b := A 109) (q := 109) 6 (gd rfl) rfl rfl rfl rfl rfl (ww_o rfl) (Nat.le_of_ble_eq_true rfl) (mc := 0) (ms := 0) (Nat.zero_le _) (Nat.zero_le _) (P := fun v u => _) ?_ (fun e u h => h) (fun v u h => h)
  intro po3 xx3 hp3 hx3
  refine g_enter2 (k := 272) (N := 300) (by first | exact dq1 hd rfl | exact dq0 hd rfl | exact dq2 hd rfl | exact dq3 hd rfl | omega) rfl (Nat.le_of_ble_eq_true rfl) ?_
  refine g_iload_n 1 (gd rfl) rfl rfl ?_
  refine g_if_lt 4 16 (gd rfl) rfl rfl (fun c3x1 => ?_) (fun c3x1 => ?_)
  · skip
    have i3x1 := z_lt (-2147483648) (-1) c3x1 (i_rng x1) rfl
    refine g_iconst 0 17 (gd rfl) rfl rfl ?_
    refine g_ireturn (gd rfl) rfl (nb01 (in_w 0 1 (in_c 0 rfl) rfl)) (hp3 _ _ ?_)
    show GG _ _ _ _ _ _ _ _ [.int (Int32.ofInt 0), .ref (A 109)] _ _ _
    refine g_if_eq 9 26 (gd rfl) rfl rfl (fun c6 => ?_) (fun c6 => ?_)
    · skip
      refine g_iconst 0 27 (gd rfl) rfl rfl ?_
      refine g_callv (X := _) (As := [.int (Int32.ofInt 0)]) (r := []) (b := A 109) (q := 109) 30 (gd rfl) rfl rfl rfl rfl rfl (ww_o rfl) (Nat.le_of_ble_eq_true rfl) (mc := 0) (ms := 0) (Nat.zero_le _) (Nat.zero_le _) (P := fun v u => _) ?_ (fun e u h => h) (fun v u h => h)
      intro po27 xx27 hp27 hx27
      refine g_enter2 (k := 271) (N := 300) (by first | exact dq1 hd rfl | exact dq0 hd rfl | exact dq2 hd rfl | exact dq3 hd rfl | omega) rfl (Nat.le_of_ble_eq_true rfl) ?_
      refine g_aload_n 1 (gd rfl) rfl rfl ?_
      refine g_iload_n 2 (gd rfl) rfl rfl ?_
      refine g_iconst 1 3 (gd rfl) rfl rfl ?_
      refine g_callv (X := _) (As := [.int (Int32.ofInt 0), .int (Int32.ofInt 1)]) (r := []) (b := A 109) (q := 109) 6 (gd rfl) rfl rfl rfl rfl rfl (ww_o rfl) (Nat.le_of_ble_eq_true rfl) (mc := 0) (ms := 0) (Nat.zero_le _) (Nat.zero_le _) (P := fun v u => _) ?_ (fun e u h => h) (fun v u h => h)
      intro po27x3 xx27x3 hp27x3 hx27x3
      refine g_enter2 (k := 270) (N := 300) (by first | exact dq1 hd rfl | exact dq0 hd rfl | exact dq2 hd rfl | exact dq3 hd rfl | omega) rfl (Nat.le_of_ble_eq_true rfl) ?_
      refine g_aload_n 1 (gd rfl) rfl rfl ?_
      refine g_iload_n 2 (gd rfl) rfl rfl ?_
      refine g_if_ne 5 9 (gd rfl) rfl rfl (fun c27x3x2 => ?_) (fun c27x3x2 => ?_)
      · skip
        exact zn_ne c27x3x2 (in_c 0 rfl) rfl
      · skip
        refine g_iconst 1 6 (gd rfl) rfl rfl ?_
        refine g_goto 18 (gd rfl) rfl ?_
        refine g_putI 21 (gd rfl) rfl rfl rfl rfl ?_
        have hI27x3x18 := inv_sF (q := 109) (j := 0) hI rfl (in_w 0 2 (in_c 1 rfl) rfl)
        refine g_aload_n 22 (gd rfl) rfl rfl ?_
        refine g_getI 25 (gd rfl) rfl rfl rfl (fun z27x3x22 e27x3x22 => ?_)
        have q27x3x22 : (Int32.ofInt 1) = z27x3x22 := (sF_get).trans e27x3x22.symm
        subst q27x3x22
        refine g_if_le 28 32 (gd rfl) rfl rfl (fun c27x3x25 => ?_) (fun c27x3x25 => ?_)
        · skip
          exact zn_le c27x3x25 (in_c 1 rfl) rfl
        · skip
          refine g_iconst 1 29 (gd rfl) rfl rfl ?_
          refine g_goto 33 (gd rfl) rfl ?_
          refine g_ireturn (gd rfl) rfl (nb01 (in_w 0 1 (in_c 1 rfl) rfl)) (hp27x3 _ _ ?_)
          show GG _ _ _ _ _ _ _ _ [.int (Int32.ofInt 1)] _ _ _
          refine g_ireturn (gd rfl) rfl (nb01 (in_w 0 1 (in_c 1 rfl) rfl)) (hp27 _ _ ?_)
          show GG _ _ _ _ _ _ _ _ [.int (Int32.ofInt 1)] _ _ _
          refine g_if_eq 33 35 (gd rfl) rfl rfl (fun c30 => ?_) (fun c30 => ?_)
          · skip
            exact zn_eq c30 (in_c 1 rfl) rfl
          · skip
            refine g_iconst 0 34 (gd rfl) rfl rfl ?_
            exact g_ireturn (gd rfl) rfl rfl (hP _ _ ⟨(sF s 109 0 (Int32.ofInt 1)), hI27x3x18, (fr_sF rfl fr_rf), (Int32.ofInt 0), rfl, rfl, in_w (-2) 2000 (in_c 0 rfl) rfl⟩)
    · skip
      exact zn_ne c6 (in_c 0 rfl) rfl
  · skip
    have i3x1 := z_ge 0 2147483647 c3x1 (i_rng x1) rfl
    refine g_iload_n 5 (gd rfl) rfl rfl ?_
    refine g_aload_n 6 (gd rfl) rfl rfl ?_
    refine g_getI 9 (gd rfl) rfl rfl rfl (fun z3x6 e3x6 => ?_)
    have q3x6 : u_109_20 = z3x6 := (e_109_20).trans e3x6.symm
    subst q3x6
    refine g_cmp_ge 12 16 (gd rfl) rfl rfl (fun c3x9 => ?_) (fun c3x9 => ?_)
    · skip
      refine g_iconst 0 17 (gd rfl) rfl rfl ?_
      refine g_ireturn (gd rfl) rfl (nb01 (in_w 0 1 (in_c 0 rfl) rfl)) (hp3 _ _ ?_)
      show GG _ _ _ _ _ _ _ _ [.int (Int32.ofInt 0), .ref (A 109)] _ _ _
      refine g_if_eq 9 26 (gd rfl) rfl rfl (fun c6 => ?_) (fun c6 => ?_)
      · skip
        refine g_iconst 0 27 (gd rfl) rfl rfl ?_
        refine g_callv (X := _) (As := [.int (Int32.ofInt 0)]) (r := []) (b := A 109) (q := 109) 30 (gd rfl) rfl rfl rfl rfl rfl (ww_o rfl) (Nat.le_of_ble_eq_true rfl) (mc := 0) (ms := 0) (Nat.zero_le _) (Nat.zero_le _) (P := fun v u => _) ?_ (fun e u h => h) (fun v u h => h)
        intro po27 xx27 hp27 hx27
        refine g_enter2 (k := 271) (N := 300) (by first | exact dq1 hd rfl | exact dq0 hd rfl | exact dq2 hd rfl | exact dq3 hd rfl | omega) rfl (Nat.le_of_ble_eq_true rfl) ?_
        refine g_aload_n 1 (gd rfl) rfl rfl ?_
        refine g_iload_n 2 (gd rfl) rfl rfl ?_
        refine g_iconst 1 3 (gd rfl) rfl rfl ?_
        refine g_callv (X := _) (As := [.int (Int32.ofInt 0), .int (Int32.ofInt 1)]) (r := []) (b := A 109) (q := 109) 6 (gd rfl) rfl rfl rfl rfl rfl (ww_o rfl) (Nat.le_of_ble_eq_true rfl) (mc := 0) (ms := 0) (Nat.zero_le _) (Nat.zero_le _) (P := fun v u => _) ?_ (fun e u h => h) (fun v u h => h)
        intro po27x3 xx27x3 hp27x3 hx27x3
        refine g_enter2 (k := 270) (N := 300) (by first | exact dq1 hd rfl | exact dq0 hd rfl | exact dq2 hd rfl | exact dq3 hd rfl | omega) rfl (Nat.le_of_ble_eq_true rfl) ?_
        refine g_aload_n 1 (gd rfl) rfl rfl ?_
        refine g_iload_n 2 (gd rfl) rfl rfl ?_
        refine g_if_ne 5 9 (gd rfl) rfl rfl (fun c27x3x2 => ?_) (fun c27x3x2 => ?_)
        · skip
          exact zn_ne c27x3x2 (in_c 0 rfl) rfl
        · skip
          refine g_iconst 1 6 (gd rfl) rfl rfl ?_
          refine g_goto 18 (gd rfl) rfl ?_
          refine g_putI 21 (gd rfl) rfl rfl rfl rfl ?_
          have hI27x3x18 := inv_sF (q := 109) (j := 0) hI rfl (in_w 0 2 (in_c 1 rfl) rfl)
          refine g_aload_n 22 (gd rfl) rfl rfl ?_
          refine g_getI 25 (gd rfl) rfl rfl rfl (fun z27x3x22 e27x3x22 => ?_)
          have q27x3x22 : (Int32.ofInt 1) = z27x3x22 := (sF_get).trans e27x3x22.symm
          subst q27x3x22
          refine g_if_le 28 32 (gd rfl) rfl rfl (fun c27x3x25 => ?_) (fun c27x3x25 => ?_)
          · skip
            exact zn_le c27x3x25 (in_c 1 rfl) rfl
          · skip
            refine g_iconst 1 29 (gd rfl) rfl rfl ?_
            refine g_goto 33 (gd rfl) rfl ?_
            refine g_ireturn (gd rfl) rfl (nb01 (in_w 0 1 (in_c 1 rfl) rfl)) (hp27x3 _ _ ?_)
            show GG _ _ _ _ _ _ _ _ [.int (Int32.ofInt 1)] _ _ _
            refine g_ireturn (gd rfl) rfl (nb01 (in_w 0 1 (in_c 1 rfl) rfl)) (hp27 _ _ ?_)
            show GG _ _ _ _ _ _ _ _ [.int (Int32.ofInt 1)] _ _ _
            refine g_if_eq 33 35 (gd rfl) rfl rfl (fun c30 => ?_) (fun c30 => ?_)
            · skip
              exact zn_eq c30 (in_c 1 rfl) rfl
            · skip
              refine g_iconst 0 34 (gd rfl) rfl rfl ?_
              exact g_ireturn (gd rfl) rfl rfl (hP _ _ ⟨(sF s 109 0 (Int32.ofInt 1)), hI27x3x18, (fr_sF rfl fr_rf), (Int32.ofInt 0), rfl, rfl, in_w (-2) 2000 (in_c 0 rfl) rfl⟩)
      · skip
        exact zn_ne c6 (in_c 0 rfl) rfl
    · skip
      have i3x9 := r_lt1 0 31 c3x9 i3x1 ro_109_20 rfl
      have i3x9a := r_lt2 1 32 c3x9 i3x1 ro_109_20 rfl
      refine g_iconst 1 13 (gd rfl) rfl rfl ?_
      refine g_goto 17 (gd rfl) rfl ?_
      refine g_ireturn (gd rfl) rfl (nb01 (in_w 0 1 (in_c 1 rfl) rfl)) (hp3 _ _ ?_)
      show GG _ _ _ _ _ _ _ _ [.int (Int32.ofInt 1), .ref (A 109)] _ _ _
      refine g_if_eq 9 26 (gd rfl) rfl rfl (fun c6 => ?_) (fun c6 => ?_)
      · skip
        exact zn_eq c6 (in_c 1 rfl) rfl
      · skip
        refine g_aload_n 10 (gd rfl) rfl rfl ?_
        refine g_iload_n 11 (gd rfl) rfl rfl ?_
        refine g_callv (X := _) (As := [.int x2]) (r := [.ref (A 109)]) (b := A 109) (q := 109) 14 (gd rfl) rfl rfl rfl rfl rfl (ww_o rfl) (Nat.le_of_ble_eq_true rfl) (mc := 0) (ms := 0) (Nat.zero_le _) (Nat.zero_le _) (P := fun v u => _) ?_ (fun e u h => h) (fun v u h => h)
        intro po11 xx11 hp11 hx11
        refine g_enter2 (k := 272) (N := 300) (by first | exact dq1 hd rfl | exact dq0 hd rfl | exact dq2 hd rfl | exact dq3 hd rfl | omega) rfl (Nat.le_of_ble_eq_true rfl) ?_
        refine g_iload_n 1 (gd rfl) rfl rfl ?_
        refine g_if_lt 4 16 (gd rfl) rfl rfl (fun c11x1 => ?_) (fun c11x1 => ?_)
        · skip
          have i11x1 := z_lt (-2147483648) (-1) c11x1 (i_rng x2) rfl
          refine g_iconst 0 17 (gd rfl) rfl rfl ?_
          refine g_ireturn (gd rfl) rfl (nb01 (in_w 0 1 (in_c 0 rfl) rfl)) (hp11 _ _ ?_)
          show GG _ _ _ _ _ _ _ _ [.int (Int32.ofInt 0), .ref (A 109)] _ _ _
          refine g_if_eq 17 26 (gd rfl) rfl rfl (fun c14 => ?_) (fun c14 => ?_)
          · skip
            refine g_iconst 0 27 (gd rfl) rfl rfl ?_
            refine g_callv (X := _) (As := [.int (Int32.ofInt 0)]) (r := []) (b := A 109) (q := 109) 30 (gd rfl) rfl rfl rfl rfl rfl (ww_o rfl) (Nat.le_of_ble_eq_true rfl) (mc := 0) (ms := 0) (Nat.zero_le _) (Nat.zero_le _) (P := fun v u => _) ?_ (fun e u h => h) (fun v u h => h)
            intro po27 xx27 hp27 hx27
            refine g_enter2 (k := 271) (N := 300) (by first | exact dq1 hd rfl | exact dq0 hd rfl | exact dq2 hd rfl | exact dq3 hd rfl | omega) rfl (Nat.le_of_ble_eq_true rfl) ?_
            refine g_aload_n 1 (gd rfl) rfl rfl ?_
            refine g_iload_n 2 (gd rfl) rfl rfl ?_
            refine g_iconst 1 3 (gd rfl) rfl rfl ?_
            refine g_callv (X := _) (As := [.int (Int32.ofInt 0), .int (Int32.ofInt 1)]) (r := []) (b := A 109) (q := 109) 6 (gd rfl) rfl rfl rfl rfl rfl (ww_o rfl) (Nat.le_of_ble_eq_true rfl) (mc := 0) (ms := 0) (Nat.zero_le _) (Nat.zero_le _) (P := fun v u => _) ?_ (fun e u h => h) (fun v u h => h)
            intro po27x3 xx27x3 hp27x3 hx27x3
            refine g_enter2 (k := 270) (N := 300) (by first | exact dq1 hd rfl | exact dq0 hd rfl | exact dq2 hd rfl | exact dq3 hd rfl | omega) rfl (Nat.le_of_ble_eq_true rfl) ?_
            refine g_aload_n 1 (gd rfl) rfl rfl ?_
            refine g_iload_n 2 (gd rfl) rfl rfl ?_
            refine g_if_ne 5 9 (gd rfl) rfl rfl (fun c27x3x2 => ?_) (fun c27x3x2 => ?_)
            · skip
              exact zn_ne c27x3x2 (in_c 0 rfl) rfl
            · skip
              refine g_iconst 1 6 (gd rfl) rfl rfl ?_
              refine g_goto 18 (gd rfl) rfl ?_
              refine g_putI 21 (gd rfl) rfl rfl rfl rfl ?_
              have hI27x3x18 := inv_sF (q := 109) (j := 0) hI rfl (in_w 0 2 (in_c 1 rfl) rfl)
              refine g_aload_n 22 (gd rfl) rfl rfl ?_
              refine g_getI 25 (gd rfl) rfl rfl rfl (fun z27x3x22 e27x3x22 => ?_)
              have q27x3x22 : (Int32.ofInt 1) = z27x3x22 := (sF_get).trans e27x3x22.symm
              subst q27x3x22
              refine g_if_le 28 32 (gd rfl) rfl rfl (fun c27x3x25 => ?_) (fun c27x3x25 => ?_)
              · skip
                exact zn_le c27x3x25 (in_c 1 rfl) rfl
              · skip
                refine g_iconst 1 29 (gd rfl) rfl rfl ?_
                refine g_goto 33 (gd rfl) rfl ?_
                refine g_ireturn (gd rfl) rfl (nb01 (in_w 0 1 (in_c 1 rfl) rfl)) (hp27x3 _ _ ?_)
                show GG _ _ _ _ _ _ _ _ [.int (Int32.ofInt 1)] _ _ _
                refine g_ireturn (gd rfl) rfl (nb01 (in_w 0 1 (in_c 1 rfl) rfl)) (hp27 _ _ ?_)
                show GG _ _ _ _ _ _ _ _ [.int (Int32.ofInt 1)] _ _ _
                refine g_if_eq 33 35 (gd rfl) rfl rfl (fun c30 => ?_) (fun c30 => ?_)
                · skip
                  exact zn_eq c30 (in_c 1 rfl) rfl
                · skip
                  refine g_iconst 0 34 (gd rfl) rfl rfl ?_
                  exact g_ireturn (gd rfl) rfl rfl (hP _ _ ⟨(sF s 109 0 (Int32.ofInt 1)), hI27x3x18, (fr_sF rfl fr_rf), (Int32.ofInt 0), rfl, rfl, in_w (-2) 2000 (in_c 0 rfl) rfl⟩)
          · skip
            exact zn_ne c14 (in_c 0 rfl) rfl
        · skip
          have i11x1 := z_ge 0 2147483647 c11x1 (i_rng x2) rfl
          refine g_iload_n 5 (gd rfl) rfl rfl ?_
          refine g_aload_n 6 (gd rfl) rfl rfl ?_
          refine g_getI 9 (gd rfl) rfl rfl rfl (fun z11x6 e11x6 => ?_)
          have q11x6 : u_109_20 = z11x6 := (e_109_20).trans e11x6.symm
          subst q11x6
          refine g_cmp_ge 12 16 (gd rfl) rfl rfl (fun c11x9 => ?_) (fun c11x9 => ?_)
          · skip
            have i11x9 := r_le2 1 2147483647 c11x9 i3x9a i11x1 rfl
            refine g_iconst 0 17 (gd rfl) rfl rfl ?_
            refine g_ireturn (gd rfl) rfl (nb01 (in_w 0 1 (in_c 0 rfl) rfl)) (hp11 _ _ ?_)
            show GG _ _ _ _ _ _ _ _ [.int (Int32.ofInt 0), .ref (A 109)] _ _ _
            refine g_if_eq 17 26 (gd rfl) rfl rfl (fun c14 => ?_) (fun c14 => ?_)
            · skip
              refine g_iconst 0 27 (gd rfl) rfl rfl ?_
              refine g_callv (X := _) (As := [.int (Int32.ofInt 0)]) (r := []) (b := A 109) (q := 109) 30 (gd rfl) rfl rfl rfl rfl rfl (ww_o rfl) (Nat.le_of_ble_eq_true rfl) (mc := 0) (ms := 0) (Nat.zero_le _) (Nat.zero_le _) (P := fun v u => _) ?_ (fun e u h => h) (fun v u h => h)
              intro po27 xx27 hp27 hx27
              refine g_enter2 (k := 271) (N := 300) (by first | exact dq1 hd rfl | exact dq0 hd rfl | exact dq2 hd rfl | exact dq3 hd rfl | omega) rfl (Nat.le_of_ble_eq_true rfl) ?_
              refine g_aload_n 1 (gd rfl) rfl rfl ?_
              refine g_iload_n 2 (gd rfl) rfl rfl ?_
              refine g_iconst 1 3 (gd rfl) rfl rfl ?_
              refine g_callv (X := _) (As := [.int (Int32.ofInt 0), .int (Int32.ofInt 1)]) (r := []) (b := A 109) (q := 109) 6 (gd rfl) rfl rfl rfl rfl rfl (ww_o rfl) (Nat.le_of_ble_eq_true rfl) (mc := 0) (ms := 0) (Nat.zero_le _) (Nat.zero_le _) (P := fun v u => _) ?_ (fun e u h => h) (fun v u h => h)
              intro po27x3 xx27x3 hp27x3 hx27x3
              refine g_enter2 (k := 270) (N := 300) (by first | exact dq1 hd rfl | exact dq0 hd rfl | exact dq2 hd rfl | exact dq3 hd rfl | omega) rfl (Nat.le_of_ble_eq_true rfl) ?_
              refine g_aload_n 1 (gd rfl) rfl rfl ?_
              refine g_iload_n 2 (gd rfl) rfl rfl ?_
              refine g_if_ne 5 9 (gd rfl) rfl rfl (fun c27x3x2 => ?_) (fun c27x3x2 => ?_)
              · skip
                exact zn_ne c27x3x2 (in_c 0 rfl) rfl
              · skip
                refine g_iconst 1 6 (gd rfl) rfl rfl ?_
                refine g_goto 18 (gd rfl) rfl ?_
                refine g_putI 21 (gd rfl) rfl rfl rfl rfl ?_
                have hI27x3x18 := inv_sF (q := 109) (j := 0) hI rfl (in_w 0 2 (in_c 1 rfl) rfl)
                refine g_aload_n 22 (gd rfl) rfl rfl ?_
                refine g_getI 25 (gd rfl) rfl rfl rfl (fun z27x3x22 e27x3x22 => ?_)
                have q27x3x22 : (Int32.ofInt 1) = z27x3x22 := (sF_get).trans e27x3x22.symm
                subst q27x3x22
                refine g_if_le 28 32 (gd rfl) rfl rfl (fun c27x3x25 => ?_) (fun c27x3x25 => ?_)
                · skip
                  exact zn_le c27x3x25 (in_c 1 rfl) rfl
                · skip
                  refine g_iconst 1 29 (gd rfl) rfl rfl ?_
                  refine g_goto 33 (gd rfl) rfl ?_
                  refine g_ireturn (gd rfl) rfl (nb01 (in_w 0 1 (in_c 1 rfl) rfl)) (hp27x3 _ _ ?_)
                  show GG _ _ _ _ _ _ _ _ [.int (Int32.ofInt 1)] _ _ _
                  refine g_ireturn (gd rfl) rfl (nb01 (in_w 0 1 (in_c 1 rfl) rfl)) (hp27 _ _ ?_)
                  show GG _ _ _ _ _ _ _ _ [.int (Int32.ofInt 1)] _ _ _
                  refine g_if_eq 33 35 (gd rfl) rfl rfl (fun c30 => ?_) (fun c30 => ?_)
                  · skip
                    exact zn_eq c30 (in_c 1 rfl) rfl
                  · skip
                    refine g_iconst 0 34 (gd rfl) rfl rfl ?_
                    exact g_ireturn (gd rfl) rfl rfl (hP _ _ ⟨(sF s 109 0 (Int32.ofInt 1)), hI27x3x18, (fr_sF rfl fr_rf), (Int32.ofInt 0), rfl, rfl, in_w (-2) 2000 (in_c 0 rfl) rfl⟩)
            · skip
              exact zn_ne c14 (in_c 0 rfl) rfl
          · skip
            have i11x9 := r_lt1 0 31 c11x9 i11x1 i3x9a rfl
            refine g_iconst 1 13 (gd rfl) rfl rfl ?_
            refine g_goto 17 (gd rfl) rfl ?_
            refine g_ireturn (gd rfl) rfl (nb01 (in_w 0 1 (in_c 1 rfl) rfl)) (hp11 _ _ ?_)
            show GG _ _ _ _ _ _ _ _ [.int (Int32.ofInt 1), .ref (A 109)] _ _ _
            refine g_if_eq 17 26 (gd rfl) rfl rfl (fun c14 => ?_) (fun c14 => ?_)
            · skip
              exact zn_eq c14 (in_c 1 rfl) rfl
            · skip
              refine g_iload_n 18 (gd rfl) rfl rfl ?_
              refine g_iload_n 19 (gd rfl) rfl rfl ?_
              refine g_cmp_eq 22 26 (gd rfl) rfl rfl (fun c19 => ?_) (fun c19 => ?_)
              · skip
                refine g_iconst 0 27 (gd rfl) rfl rfl ?_
                refine g_callv (X := _) (As := [.int (Int32.ofInt 0)]) (r := []) (b := A 109) (q := 109) 30 (gd rfl) rfl rfl rfl rfl rfl (ww_o rfl) (Nat.le_of_ble_eq_true rfl) (mc := 0) (ms := 0) (Nat.zero_le _) (Nat.zero_le _) (P := fun v u => _) ?_ (fun e u h => h) (fun v u h => h)
                intro po27 xx27 hp27 hx27
                refine g_enter2 (k := 271) (N := 300) (by first | exact dq1 hd rfl | exact dq0 hd rfl | exact dq2 hd rfl | exact dq3 hd rfl | omega) rfl (Nat.le_of_ble_eq_true rfl) ?_
                refine g_aload_n 1 (gd rfl) rfl rfl ?_
                refine g_iload_n 2 (gd rfl) rfl rfl ?_
                refine g_iconst 1 3 (gd rfl) rfl rfl ?_
                refine g_callv (X := _) (As := [.int (Int32.ofInt 0), .int (Int32.ofInt 1)]) (r := []) (b := A 109) (q := 109) 6 (gd rfl) rfl rfl rfl rfl rfl (ww_o rfl) (Nat.le_of_ble_eq_true rfl) (mc := 0) (ms := 0) (Nat.zero_le _) (Nat.zero_le _) (P := fun v u => _) ?_ (fun e u h => h) (fun v u h => h)
                intro po27x3 xx27x3 hp27x3 hx27x3
                refine g_enter2 (k := 270) (N := 300) (by first | exact dq1 hd rfl | exact dq0 hd rfl | exact dq2 hd rfl | exact dq3 hd rfl | omega) rfl (Nat.le_of_ble_eq_true rfl) ?_
                refine g_aload_n 1 (gd rfl) rfl rfl ?_
                refine g_iload_n 2 (gd rfl) rfl rfl ?_
                refine g_if_ne 5 9 (gd rfl) rfl rfl (fun c27x3x2 => ?_) (fun c27x3x2 => ?_)
                · skip
                  exact zn_ne c27x3x2 (in_c 0 rfl) rfl
                · skip
                  refine g_iconst 1 6 (gd rfl) rfl rfl ?_
                  refine g_goto 18 (gd rfl) rfl ?_
                  refine g_putI 21 (gd rfl) rfl rfl rfl rfl ?_
                  have hI27x3x18 := inv_sF (q := 109) (j := 0) hI rfl (in_w 0 2 (in_c 1 rfl) rfl)
                  refine g_aload_n 22 (gd rfl) rfl rfl ?_
                  refine g_getI 25 (gd rfl) rfl rfl rfl (fun z27x3x22 e27x3x22 => ?_)
                  have q27x3x22 : (Int32.ofInt 1) = z27x3x22 := (sF_get).trans e27x3x22.symm
                  subst q27x3x22
                  refine g_if_le 28 32 (gd rfl) rfl rfl (fun c27x3x25 => ?_) (fun c27x3x25 => ?_)
                  · skip
                    exact zn_le c27x3x25 (in_c 1 rfl) rfl
                  · skip
                    refine g_iconst 1 29 (gd rfl) rfl rfl ?_
                    refine g_goto 33 (gd rfl) rfl ?_
                    refine g_ireturn (gd rfl) rfl (nb01 (in_w 0 1 (in_c 1 rfl) rfl)) (hp27x3 _ _ ?_)
                    show GG _ _ _ _ _ _ _ _ [.int (Int32.ofInt 1)] _ _ _
                    refine g_ireturn (gd rfl) rfl (nb01 (in_w 0 1 (in_c 1 rfl) rfl)) (hp27 _ _ ?_)
                    show GG _ _ _ _ _ _ _ _ [.int (Int32.ofInt 1)] _ _ _
                    refine g_if_eq 33 35 (gd rfl) rfl rfl (fun c30 => ?_) (fun c30 => ?_)
                    · skip
                      exact zn_eq c30 (in_c 1 rfl) rfl
                    · skip
                      refine g_iconst 0 34 (gd rfl) rfl rfl ?_
                      exact g_ireturn (gd rfl) rfl rfl (hP _ _ ⟨(sF s 109 0 (Int32.ofInt 1)), hI27x3x18, (fr_sF rfl fr_rf), (Int32.ofInt 0), rfl, rfl, in_w (-2) 2000 (in_c 0 rfl) rfl⟩)
              · skip
                refine g_iconst 1 23 (gd rfl) rfl rfl ?_
                refine g_goto 27 (gd rfl) rfl ?_
                refine g_callv (X := _) (As := [.int (Int32.ofInt 1)]) (r := []) (b := A 109) (q := 109) 30 (gd rfl) rfl rfl rfl rfl rfl (ww_o rfl) (Nat.le_of_ble_eq_true rfl) (mc := 0) (ms := 0) (Nat.zero_le _) (Nat.zero_le _) (P := fun v u => _) ?_ (fun e u h => h) (fun v u h => h)
                intro po27 xx27 hp27 hx27
                refine g_enter2 (k := 271) (N := 300) (by first | exact dq1 hd rfl | exact dq0 hd rfl | exact dq2 hd rfl | exact dq3 hd rfl | omega) rfl (Nat.le_of_ble_eq_true rfl) ?_
                refine g_aload_n 1 (gd rfl) rfl rfl ?_
                refine g_iload_n 2 (gd rfl) rfl rfl ?_
                refine g_iconst 1 3 (gd rfl) rfl rfl ?_
                refine g_callv (X := _) (As := [.int (Int32.ofInt 1), .int (Int32.ofInt 1)]) (r := []) (b := A 109) (q := 109) 6 (gd rfl) rfl rfl rfl rfl rfl (ww_o rfl) (Nat.le_of_ble_eq_true rfl) (mc := 0) (ms := 0) (Nat.zero_le _) (Nat.zero_le _) (P := fun v u => _) ?_ (fun e u h => h) (fun v u h => h)
                intro po27x3 xx27x3 hp27x3 hx27x3
                refine g_enter2 (k := 270) (N := 300) (by first | exact dq1 hd rfl | exact dq0 hd rfl | exact dq2 hd rfl | exact dq3 hd rfl | omega) rfl (Nat.le_of_ble_eq_true rfl) ?_
                refine g_aload_n 1 (gd rfl) rfl rfl ?_
                refine g_iload_n 2 (gd rfl) rfl rfl ?_
                refine g_if_ne 5 9 (gd rfl) rfl rfl (fun c27x3x2 => ?_) (fun c27x3x2 => ?_)
                · skip
                  refine g_iload_n 10 (gd rfl) rfl rfl ?_
                  refine g_if_ne 13 17 (gd rfl) rfl rfl (fun c27x3x10 => ?_) (fun c27x3x10 => ?_)
                  · skip
                    refine g_iconst 0 18 (gd rfl) rfl rfl ?_
                    refine g_putI 21 (gd rfl) rfl rfl rfl rfl ?_
                    have hI27x3x18 := inv_sF (q := 109) (j := 0) hI rfl (in_w 0 2 (in_c 0 rfl) rfl)
                    refine g_aload_n 22 (gd rfl) rfl rfl ?_
                    refine g_getI 25 (gd rfl) rfl rfl rfl (fun z27x3x22 e27x3x22 => ?_)
                    have q27x3x22 : (Int32.ofInt 0) = z27x3x22 := (sF_get).trans e27x3x22.symm
                    subst q27x3x22
                    refine g_if_le 28 32 (gd rfl) rfl rfl (fun c27x3x25 => ?_) (fun c27x3x25 => ?_)
                    · skip
                      refine g_iconst 0 33 (gd rfl) rfl rfl ?_
                      refine g_ireturn (gd rfl) rfl (nb01 (in_w 0 1 (in_c 0 rfl) rfl)) (hp27x3 _ _ ?_)
                      show GG _ _ _ _ _ _ _ _ [.int (Int32.ofInt 0)] _ _ _
                      refine g_ireturn (gd rfl) rfl (nb01 (in_w 0 1 (in_c 0 rfl) rfl)) (hp27 _ _ ?_)
                      show GG _ _ _ _ _ _ _ _ [.int (Int32.ofInt 0)] _ _ _
                      refine g_if_eq 33 35 (gd rfl) rfl rfl (fun c30 => ?_) (fun c30 => ?_)
                      · skip
                        refine g_aload_n 36 (gd rfl) rfl rfl ?_
                        refine g_iload_n 37 (gd rfl) rfl rfl ?_
                        refine g_iload_n 38 (gd rfl) rfl rfl ?_
                        refine g_callv (X := _) (As := [.int x1, .int x2]) (r := []) (b := A 109) (q := 109) 41 (gd rfl) rfl rfl rfl rfl rfl (ww_o rfl) (Nat.le_of_ble_eq_true rfl) (Nat.zero_le _) (Nat.zero_le _) (k_320 (by first | exact dq1 hd rfl | exact dq0 hd rfl | exact dq2 hd rfl | exact dq3 hd rfl | omega) hI27x3x18 (in_w 0 31 i3x9 rfl) (in_w 0 31 i11x9 rfl)) (fun e u h => h) (fun v u h => ?_)
                        obtain ⟨s38, hI38, hF38, rfl, rfl⟩ := h
                        show GG _ _ _ _ _ _ _ _ [] _ _ _
                        refine g_aload_n 42 (gd rfl) rfl rfl ?_
                        refine g_getI 45 (gd rfl) rfl rfl rfl (fun z42 e42 => ?_)
                        have i42 := inv_F hI38 0 2001 rfl e42
                        refine g_sipush 2000 48 (gd rfl) rfl rfl ?_
                        refine g_cmp_le 51 56 (gd rfl) rfl rfl (fun c48 => ?_) (fun c48 => ?_)
                        · skip
                          have i48 := r_le1 0 2000 c48 i42 (in_c 2000 rfl) rfl
                          refine g_aload_n 57 (gd rfl) rfl rfl ?_
                          refine g_getI 60 (gd rfl) rfl rfl rfl (fun z57 e57 => ?_)
                          have q57 : z42 = z57 := (e42).trans e57.symm
                          subst q57
                          exact g_ireturn (gd rfl) rfl rfl (hP _ _ ⟨s38, hI38, (fr_tr rfl (fr_sF rfl fr_rf) hF38), z42, rfl, rfl, in_w (-2) 2000 i48 rfl⟩)
                        · skip
                          have i48 := r_lt2 2001 2001 c48 (in_c 2000 rfl) i42 rfl
                          refine g_bipush (-2) 53 (gd rfl) rfl rfl ?_
                          refine g_goto 60 (gd rfl) rfl ?_
                          exact g_ireturn (gd rfl) rfl rfl (hP _ _ ⟨s38, hI38, (fr_tr rfl (fr_sF rfl fr_rf) hF38), (Int32.ofInt (-2)), rfl, rfl, in_w (-2) 2000 (in_c (-2) rfl) rfl⟩)
                      · skip
                        exact zn_ne c30 (in_c 0 rfl) rfl
                    · skip
                      exact zn_gt c27x3x25 (in_c 0 rfl) rfl
                  · skip
                    exact zn_eq c27x3x10 (in_c 1 rfl) rfl
                · skip
                  exact zn_eq c27x3x2 (in_c 1 rfl) rfl

def fm_326 : FM := ([134, 136, 137], [135], [(109, 0), (109, 40)], [])
/-- GraphHouseModel.shortArc -/
theorem k_326 {Z : AmZ} {A : Nat → Nat} {s : GS} {ex : va_W} {d : Nat} {X : AmX} {x1 : Int32} {x2 : Int32} {x3 : Int32} {x4 : Int32} (hd : 7 ≤ d) (hI : Inv s)  : GC Z d 326 [.ref (A 109), .int x1, .int x2, .int x3, .int x4] (WW Z A s ++ ex) 0 0 (fun v u => ∃ t : GS, Inv t ∧ Fr fm_326 s t ∧ ∃ z : Int32, v = some (.int z) ∧ u = WW Z A t ++ ex ∧ In z (-1) 159) X := by
  intro post xp hP hX
  obtain ⟨u_109_20, e_109_20⟩ : ∃ w, w = s.2.2.1 109 20 := ⟨_, rfl⟩
  have ro_109_20 := inv_F hI 0 32 rfl e_109_20
  refine g_enter2 (k := 326) (N := 900) (by first | exact dq1 hd rfl | exact dq0 hd rfl | exact dq2 hd rfl | exact dq3 hd rfl | omega) rfl (Nat.le_of_ble_eq_true rfl) ?_
  refine g_aload_n 1 (gd rfl) rfl rfl ?_
  refine g_aload_n 2 (gd rfl) rfl rfl ?_
  refine g_iload_n 3 (gd rfl) rfl rfl ?_
  refine g_callv (X := _) (As := [.int x1]) (r := [.ref (A 109)]) (b := A 109) (q := 109) 6 (gd rfl) rfl rfl rfl rfl rfl (ww_o rfl) (Nat.le_of_ble_eq_true rfl) (mc := 0) (ms := 0) (Nat.zero_le _) (Nat.zero_le _) (P := fun v u => _) ?_ (fun e u h => h) (fun v u h => h)
  intro po3 xx3 hp3 hx3
  refine g_enter2 (k := 272) (N := 300) (by first | exact dq1 hd rfl | exact dq0 hd rfl | exact dq2 hd rfl | exact dq3 hd rfl | omega) rfl (Nat.le_of_ble_eq_true rfl) ?_
  refine g_iload_n 1 (gd rfl) rfl rfl ?_
  refine g_if_lt 4 16 (gd rfl) rfl rfl (fun c3x1 => ?_) (fun c3x1 => ?_)
  · skip
    have i3x1 := z_lt (-2147483648) (-1) c3x1 (i_rng x1) rfl
    refine g_iconst 0 17 (gd rfl) rfl rfl ?_
    refine g_ireturn (gd rfl) rfl (nb01 (in_w 0 1 (in_c 0 rfl) rfl)) (hp3 _ _ ?_)
    show GG _ _ _ _ _ _ _ _ [.int (Int32.ofInt 0), .ref (A 109)] _ _ _
    refine g_if_eq 9 35 (gd rfl) rfl rfl (fun c6 => ?_) (fun c6 => ?_)
    · skip
      refine g_iconst 0 36 (gd rfl) rfl rfl ?_
      refine g_callv (X := _) (As := [.int (Int32.ofInt 0)]) (r := []) (b := A 109) (q := 109) 39 (gd rfl) rfl rfl rfl rfl rfl (ww_o rfl) (Nat.le_of_ble_eq_true rfl) (mc := 0) (ms := 0) (Nat.zero_le _) (Nat.zero_le _) (P := fun v u => _) ?_ (fun e u h => h) (fun v u h => h)
      intro po36 xx36 hp36 hx36
      refine g_enter2 (k := 271) (N := 300) (by first | exact dq1 hd rfl | exact dq0 hd rfl | exact dq2 hd rfl | exact dq3 hd rfl | omega) rfl (Nat.le_of_ble_eq_true rfl) ?_
      refine g_aload_n 1 (gd rfl) rfl rfl ?_
      refine g_iload_n 2 (gd rfl) rfl rfl ?_
      refine g_iconst 1 3 (gd rfl) rfl rfl ?_
      refine g_callv (X := _) (As := [.int (Int32.ofInt 0), .int (Int32.ofInt 1)]) (r := []) (b := A 109) (q := 109) 6 (gd rfl) rfl rfl rfl rfl rfl (ww_o rfl) (Nat.le_of_ble_eq_true rfl) (mc := 0) (ms := 0) (Nat.zero_le _) (Nat.zero_le _) (P := fun v u => _) ?_ (fun e u h => h) (fun v u h => h)
      intro po36x3 xx36x3 hp36x3 hx36x3
      refine g_enter2 (k := 270) (N := 300) (by first | exact dq1 hd rfl | exact dq0 hd rfl | exact dq2 hd rfl | exact dq3 hd rfl | omega) rfl (Nat.le_of_ble_eq_true rfl) ?_
      refine g_aload_n 1 (gd rfl) rfl rfl ?_
      refine g_iload_n 2 (gd rfl) rfl rfl ?_
      refine g_if_ne 5 9 (gd rfl) rfl rfl (fun c36x3x2 => ?_) (fun c36x3x2 => ?_)
      · skip
        exact zn_ne c36x3x2 (in_c 0 rfl) rfl
      · skip
        refine g_iconst 1 6 (gd rfl) rfl rfl ?_
        refine g_goto 18 (gd rfl) rfl ?_
        refine g_putI 21 (gd rfl) rfl rfl rfl rfl ?_
        have hI36x3x18 := inv_sF (q := 109) (j := 0) hI rfl (in_w 0 2 (in_c 1 rfl) rfl)
        refine g_aload_n 22 (gd rfl) rfl rfl ?_
        refine g_getI 25 (gd rfl) rfl rfl rfl (fun z36x3x22 e36x3x22 => ?_)
        have q36x3x22 : (Int32.ofInt 1) = z36x3x22 := (sF_get).trans e36x3x22.symm
        subst q36x3x22
        refine g_if_le 28 32 (gd rfl) rfl rfl (fun c36x3x25 => ?_) (fun c36x3x25 => ?_)
        · skip
          exact zn_le c36x3x25 (in_c 1 rfl) rfl
        · skip
          refine g_iconst 1 29 (gd rfl) rfl rfl ?_
          refine g_goto 33 (gd rfl) rfl ?_
          refine g_ireturn (gd rfl) rfl (nb01 (in_w 0 1 (in_c 1 rfl) rfl)) (hp36x3 _ _ ?_)
          show GG _ _ _ _ _ _ _ _ [.int (Int32.ofInt 1)] _ _ _
          refine g_ireturn (gd rfl) rfl (nb01 (in_w 0 1 (in_c 1 rfl) rfl)) (hp36 _ _ ?_)
          show GG _ _ _ _ _ _ _ _ [.int (Int32.ofInt 1)] _ _ _
          refine g_if_eq 42 44 (gd rfl) rfl rfl (fun c39 => ?_) (fun c39 => ?_)
          · skip
            exact zn_eq c39 (in_c 1 rfl) rfl
          · skip
            refine g_iconst 0 43 (gd rfl) rfl rfl ?_
            exact g_ireturn (gd rfl) rfl rfl (hP _ _ ⟨(sF s 109 0 (Int32.ofInt 1)), hI36x3x18, (fr_sF rfl fr_rf), (Int32.ofInt 0), rfl, rfl, in_w (-1) 159 (in_c 0 rfl) rfl⟩)
    · skip
      exact zn_ne c6 (in_c 0 rfl) rfl
  · skip
    have i3x1 := z_ge 0 2147483647 c3x1 (i_rng x1) rfl
    refine g_iload_n 5 (gd rfl) rfl rfl ?_
    refine g_aload_n 6 (gd rfl) rfl rfl ?_
    refine g_getI 9 (gd rfl) rfl rfl rfl (fun z3x6 e3x6 => ?_)
    have q3x6 : u_109_20 = z3x6 := (e_109_20).trans e3x6.symm
    subst q3x6
    refine g_cmp_ge 12 16 (gd rfl) rfl rfl (fun c3x9 => ?_) (fun c3x9 => ?_)
    · skip
      refine g_iconst 0 17 (gd rfl) rfl rfl ?_
      refine g_ireturn (gd rfl) rfl (nb01 (in_w 0 1 (in_c 0 rfl) rfl)) (hp3 _ _ ?_)
      show GG _ _ _ _ _ _ _ _ [.int (Int32.ofInt 0), .ref (A 109)] _ _ _
      refine g_if_eq 9 35 (gd rfl) rfl rfl (fun c6 => ?_) (fun c6 => ?_)
      · skip
        refine g_iconst 0 36 (gd rfl) rfl rfl ?_
        refine g_callv (X := _) (As := [.int (Int32.ofInt 0)]) (r := []) (b := A 109) (q := 109) 39 (gd rfl) rfl rfl rfl rfl rfl (ww_o rfl) (Nat.le_of_ble_eq_true rfl) (mc := 0) (ms := 0) (Nat.zero_le _) (Nat.zero_le _) (P := fun v u => _) ?_ (fun e u h => h) (fun v u h => h)
        intro po36 xx36 hp36 hx36
        refine g_enter2 (k := 271) (N := 300) (by first | exact dq1 hd rfl | exact dq0 hd rfl | exact dq2 hd rfl | exact dq3 hd rfl | omega) rfl (Nat.le_of_ble_eq_true rfl) ?_
        refine g_aload_n 1 (gd rfl) rfl rfl ?_
        refine g_iload_n 2 (gd rfl) rfl rfl ?_
        refine g_iconst 1 3 (gd rfl) rfl rfl ?_
        refine g_callv (X := _) (As := [.int (Int32.ofInt 0), .int (Int32.ofInt 1)]) (r := []) (b := A 109) (q := 109) 6 (gd rfl) rfl rfl rfl rfl rfl (ww_o rfl) (Nat.le_of_ble_eq_true rfl) (mc := 0) (ms := 0) (Nat.zero_le _) (Nat.zero_le _) (P := fun v u => _) ?_ (fun e u h => h) (fun v u h => h)
        intro po36x3 xx36x3 hp36x3 hx36x3
        refine g_enter2 (k := 270) (N := 300) (by first | exact dq1 hd rfl | exact dq0 hd rfl | exact dq2 hd rfl | exact dq3 hd rfl | omega) rfl (Nat.le_of_ble_eq_true rfl) ?_
        refine g_aload_n 1 (gd rfl) rfl rfl ?_
        refine g_iload_n 2 (gd rfl) rfl rfl ?_
        refine g_if_ne 5 9 (gd rfl) rfl rfl (fun c36x3x2 => ?_) (fun c36x3x2 => ?_)
        · skip
          exact zn_ne c36x3x2 (in_c 0 rfl) rfl
        · skip
          refine g_iconst 1 6 (gd rfl) rfl rfl ?_
          refine g_goto 18 (gd rfl) rfl ?_
          refine g_putI 21 (gd rfl) rfl rfl rfl rfl ?_
          have hI36x3x18 := inv_sF (q := 109) (j := 0) hI rfl (in_w 0 2 (in_c 1 rfl) rfl)
          refine g_aload_n 22 (gd rfl) rfl rfl ?_
          refine g_getI 25 (gd rfl) rfl rfl rfl (fun z36x3x22 e36x3x22 => ?_)
          have q36x3x22 : (Int32.ofInt 1) = z36x3x22 := (sF_get).trans e36x3x22.symm
          subst q36x3x22
          refine g_if_le 28 32 (gd rfl) rfl rfl (fun c36x3x25 => ?_) (fun c36x3x25 => ?_)
          · skip
            exact zn_le c36x3x25 (in_c 1 rfl) rfl
          · skip
            refine g_iconst 1 29 (gd rfl) rfl rfl ?_
            refine g_goto 33 (gd rfl) rfl ?_
            refine g_ireturn (gd rfl) rfl (nb01 (in_w 0 1 (in_c 1 rfl) rfl)) (hp36x3 _ _ ?_)
            show GG _ _ _ _ _ _ _ _ [.int (Int32.ofInt 1)] _ _ _
            refine g_ireturn (gd rfl) rfl (nb01 (in_w 0 1 (in_c 1 rfl) rfl)) (hp36 _ _ ?_)
            show GG _ _ _ _ _ _ _ _ [.int (Int32.ofInt 1)] _ _ _
            refine g_if_eq 42 44 (gd rfl) rfl rfl (fun c39 => ?_) (fun c39 => ?_)
            · skip
              exact zn_eq c39 (in_c 1 rfl) rfl
            · skip
              refine g_iconst 0 43 (gd rfl) rfl rfl ?_
              exact g_ireturn (gd rfl) rfl rfl (hP _ _ ⟨(sF s 109 0 (Int32.ofInt 1)), hI36x3x18, (fr_sF rfl fr_rf), (Int32.ofInt 0), rfl, rfl, in_w (-1) 159 (in_c 0 rfl) rfl⟩)
      · skip
        exact zn_ne c6 (in_c 0 rfl) rfl
    · skip
      have i3x9 := r_lt1 0 31 c3x9 i3x1 ro_109_20 rfl
      have i3x9a := r_lt2 1 32 c3x9 i3x1 ro_109_20 rfl
      refine g_iconst 1 13 (gd rfl) rfl rfl ?_
      refine g_goto 17 (gd rfl) rfl ?_
      refine g_ireturn (gd rfl) rfl (nb01 (in_w 0 1 (in_c 1 rfl) rfl)) (hp3 _ _ ?_)
      show GG _ _ _ _ _ _ _ _ [.int (Int32.ofInt 1), .ref (A 109)] _ _ _
      refine g_if_eq 9 35 (gd rfl) rfl rfl (fun c6 => ?_) (fun c6 => ?_)
      · skip
        exact zn_eq c6 (in_c 1 rfl) rfl
      · skip
        refine g_aload_n 10 (gd rfl) rfl rfl ?_
        refine g_iload_n 11 (gd rfl) rfl rfl ?_
        refine g_callv (X := _) (As := [.int x2]) (r := [.ref (A 109)]) (b := A 109) (q := 109) 14 (gd rfl) rfl rfl rfl rfl rfl (ww_o rfl) (Nat.le_of_ble_eq_true rfl) (mc := 0) (ms := 0) (Nat.zero_le _) (Nat.zero_le _) (P := fun v u => _) ?_ (fun e u h => h) (fun v u h => h)
        intro po11 xx11 hp11 hx11
        refine g_enter2 (k := 272) (N := 300) (by first | exact dq1 hd rfl | exact dq0 hd rfl | exact dq2 hd rfl | exact dq3 hd rfl | omega) rfl (Nat.le_of_ble_eq_true rfl) ?_
        refine g_iload_n 1 (gd rfl) rfl rfl ?_
        refine g_if_lt 4 16 (gd rfl) rfl rfl (fun c11x1 => ?_) (fun c11x1 => ?_)
        · skip
          have i11x1 := z_lt (-2147483648) (-1) c11x1 (i_rng x2) rfl
          refine g_iconst 0 17 (gd rfl) rfl rfl ?_
          refine g_ireturn (gd rfl) rfl (nb01 (in_w 0 1 (in_c 0 rfl) rfl)) (hp11 _ _ ?_)
          show GG _ _ _ _ _ _ _ _ [.int (Int32.ofInt 0), .ref (A 109)] _ _ _
          refine g_if_eq 17 35 (gd rfl) rfl rfl (fun c14 => ?_) (fun c14 => ?_)
          · skip
            refine g_iconst 0 36 (gd rfl) rfl rfl ?_
            refine g_callv (X := _) (As := [.int (Int32.ofInt 0)]) (r := []) (b := A 109) (q := 109) 39 (gd rfl) rfl rfl rfl rfl rfl (ww_o rfl) (Nat.le_of_ble_eq_true rfl) (mc := 0) (ms := 0) (Nat.zero_le _) (Nat.zero_le _) (P := fun v u => _) ?_ (fun e u h => h) (fun v u h => h)
            intro po36 xx36 hp36 hx36
            refine g_enter2 (k := 271) (N := 300) (by first | exact dq1 hd rfl | exact dq0 hd rfl | exact dq2 hd rfl | exact dq3 hd rfl | omega) rfl (Nat.le_of_ble_eq_true rfl) ?_
            refine g_aload_n 1 (gd rfl) rfl rfl ?_
            refine g_iload_n 2 (gd rfl) rfl rfl ?_
            refine g_iconst 1 3 (gd rfl) rfl rfl ?_
            refine g_callv (X := _) (As := [.int (Int32.ofInt 0), .int (Int32.ofInt 1)]) (r := []) (b := A 109) (q := 109) 6 (gd rfl) rfl rfl rfl rfl rfl (ww_o rfl) (Nat.le_of_ble_eq_true rfl) (mc := 0) (ms := 0) (Nat.zero_le _) (Nat.zero_le _) (P := fun v u => _) ?_ (fun e u h => h) (fun v u h => h)
            intro po36x3 xx36x3 hp36x3 hx36x3
            refine g_enter2 (k := 270) (N := 300) (by first | exact dq1 hd rfl | exact dq0 hd rfl | exact dq2 hd rfl | exact dq3 hd rfl | omega) rfl (Nat.le_of_ble_eq_true rfl) ?_
            refine g_aload_n 1 (gd rfl) rfl rfl ?_
            refine g_iload_n 2 (gd rfl) rfl rfl ?_
            refine g_if_ne 5 9 (gd rfl) rfl rfl (fun c36x3x2 => ?_) (fun c36x3x2 => ?_)
            · skip
              exact zn_ne c36x3x2 (in_c 0 rfl) rfl
            · skip
              refine g_iconst 1 6 (gd rfl) rfl rfl ?_
              refine g_goto 18 (gd rfl) rfl ?_
              refine g_putI 21 (gd rfl) rfl rfl rfl rfl ?_
              have hI36x3x18 := inv_sF (q := 109) (j := 0) hI rfl (in_w 0 2 (in_c 1 rfl) rfl)
              refine g_aload_n 22 (gd rfl) rfl rfl ?_
              refine g_getI 25 (gd rfl) rfl rfl rfl (fun z36x3x22 e36x3x22 => ?_)
              have q36x3x22 : (Int32.ofInt 1) = z36x3x22 := (sF_get).trans e36x3x22.symm
              subst q36x3x22
              refine g_if_le 28 32 (gd rfl) rfl rfl (fun c36x3x25 => ?_) (fun c36x3x25 => ?_)
              · skip
                exact zn_le c36x3x25 (in_c 1 rfl) rfl
              · skip
                refine g_iconst 1 29 (gd rfl) rfl rfl ?_
                refine g_goto 33 (gd rfl) rfl ?_
                refine g_ireturn (gd rfl) rfl (nb01 (in_w 0 1 (in_c 1 rfl) rfl)) (hp36x3 _ _ ?_)
                show GG _ _ _ _ _ _ _ _ [.int (Int32.ofInt 1)] _ _ _
                refine g_ireturn (gd rfl) rfl (nb01 (in_w 0 1 (in_c 1 rfl) rfl)) (hp36 _ _ ?_)
                show GG _ _ _ _ _ _ _ _ [.int (Int32.ofInt 1)] _ _ _
                refine g_if_eq 42 44 (gd rfl) rfl rfl (fun c39 => ?_) (fun c39 => ?_)
                · skip
                  exact zn_eq c39 (in_c 1 rfl) rfl
                · skip
                  refine g_iconst 0 43 (gd rfl) rfl rfl ?_
                  exact g_ireturn (gd rfl) rfl rfl (hP _ _ ⟨(sF s 109 0 (Int32.ofInt 1)), hI36x3x18, (fr_sF rfl fr_rf), (Int32.ofInt 0), rfl, rfl, in_w (-1) 159 (in_c 0 rfl) rfl⟩)
          · skip
            exact zn_ne c14 (in_c 0 rfl) rfl
        · skip
          have i11x1 := z_ge 0 2147483647 c11x1 (i_rng x2) rfl
          refine g_iload_n 5 (gd rfl) rfl rfl ?_
          refine g_aload_n 6 (gd rfl) rfl rfl ?_
          refine g_getI 9 (gd rfl) rfl rfl rfl (fun z11x6 e11x6 => ?_)
          have q11x6 : u_109_20 = z11x6 := (e_109_20).trans e11x6.symm
          subst q11x6
          refine g_cmp_ge 12 16 (gd rfl) rfl rfl (fun c11x9 => ?_) (fun c11x9 => ?_)
          · skip
            have i11x9 := r_le2 1 2147483647 c11x9 i3x9a i11x1 rfl
            refine g_iconst 0 17 (gd rfl) rfl rfl ?_
            refine g_ireturn (gd rfl) rfl (nb01 (in_w 0 1 (in_c 0 rfl) rfl)) (hp11 _ _ ?_)
            show GG _ _ _ _ _ _ _ _ [.int (Int32.ofInt 0), .ref (A 109)] _ _ _
            refine g_if_eq 17 35 (gd rfl) rfl rfl (fun c14 => ?_) (fun c14 => ?_)
            · skip
              refine g_iconst 0 36 (gd rfl) rfl rfl ?_
              refine g_callv (X := _) (As := [.int (Int32.ofInt 0)]) (r := []) (b := A 109) (q := 109) 39 (gd rfl) rfl rfl rfl rfl rfl (ww_o rfl) (Nat.le_of_ble_eq_true rfl) (mc := 0) (ms := 0) (Nat.zero_le _) (Nat.zero_le _) (P := fun v u => _) ?_ (fun e u h => h) (fun v u h => h)
              intro po36 xx36 hp36 hx36
              refine g_enter2 (k := 271) (N := 300) (by first | exact dq1 hd rfl | exact dq0 hd rfl | exact dq2 hd rfl | exact dq3 hd rfl | omega) rfl (Nat.le_of_ble_eq_true rfl) ?_
              refine g_aload_n 1 (gd rfl) rfl rfl ?_
              refine g_iload_n 2 (gd rfl) rfl rfl ?_
              refine g_iconst 1 3 (gd rfl) rfl rfl ?_
              refine g_callv (X := _) (As := [.int (Int32.ofInt 0), .int (Int32.ofInt 1)]) (r := []) (b := A 109) (q := 109) 6 (gd rfl) rfl rfl rfl rfl rfl (ww_o rfl) (Nat.le_of_ble_eq_true rfl) (mc := 0) (ms := 0) (Nat.zero_le _) (Nat.zero_le _) (P := fun v u => _) ?_ (fun e u h => h) (fun v u h => h)
              intro po36x3 xx36x3 hp36x3 hx36x3
              refine g_enter2 (k := 270) (N := 300) (by first | exact dq1 hd rfl | exact dq0 hd rfl | exact dq2 hd rfl | exact dq3 hd rfl | omega) rfl (Nat.le_of_ble_eq_true rfl) ?_
              refine g_aload_n 1 (gd rfl) rfl rfl ?_
              refine g_iload_n 2 (gd rfl) rfl rfl ?_
              refine g_if_ne 5 9 (gd rfl) rfl rfl (fun c36x3x2 => ?_) (fun c36x3x2 => ?_)
              · skip
                exact zn_ne c36x3x2 (in_c 0 rfl) rfl
              · skip
                refine g_iconst 1 6 (gd rfl) rfl rfl ?_
                refine g_goto 18 (gd rfl) rfl ?_
                refine g_putI 21 (gd rfl) rfl rfl rfl rfl ?_
                have hI36x3x18 := inv_sF (q := 109) (j := 0) hI rfl (in_w 0 2 (in_c 1 rfl) rfl)
                refine g_aload_n 22 (gd rfl) rfl rfl ?_
                refine g_getI 25 (gd rfl) rfl rfl rfl (fun z36x3x22 e36x3x22 => ?_)
                have q36x3x22 : (Int32.ofInt 1) = z36x3x22 := (sF_get).trans e36x3x22.symm
                subst q36x3x22
                refine g_if_le 28 32 (gd rfl) rfl rfl (fun c36x3x25 => ?_) (fun c36x3x25 => ?_)
                · skip
                  exact zn_le c36x3x25 (in_c 1 rfl) rfl
                · skip
                  refine g_iconst 1 29 (gd rfl) rfl rfl ?_
                  refine g_goto 33 (gd rfl) rfl ?_
                  refine g_ireturn (gd rfl) rfl (nb01 (in_w 0 1 (in_c 1 rfl) rfl)) (hp36x3 _ _ ?_)
                  show GG _ _ _ _ _ _ _ _ [.int (Int32.ofInt 1)] _ _ _
                  refine g_ireturn (gd rfl) rfl (nb01 (in_w 0 1 (in_c 1 rfl) rfl)) (hp36 _ _ ?_)
                  show GG _ _ _ _ _ _ _ _ [.int (Int32.ofInt 1)] _ _ _
                  refine g_if_eq 42 44 (gd rfl) rfl rfl (fun c39 => ?_) (fun c39 => ?_)
                  · skip
                    exact zn_eq c39 (in_c 1 rfl) rfl
                  · skip
                    refine g_iconst 0 43 (gd rfl) rfl rfl ?_
                    exact g_ireturn (gd rfl) rfl rfl (hP _ _ ⟨(sF s 109 0 (Int32.ofInt 1)), hI36x3x18, (fr_sF rfl fr_rf), (Int32.ofInt 0), rfl, rfl, in_w (-1) 159 (in_c 0 rfl) rfl⟩)
            · skip
              exact zn_ne c14 (in_c 0 rfl) rfl
          · skip
            have i11x9 := r_lt1 0 31 c11x9 i11x1 i3x9a rfl
            refine g_iconst 1 13 (gd rfl) rfl rfl ?_
            refine g_goto 17 (gd rfl) rfl ?_
            refine g_ireturn (gd rfl) rfl (nb01 (in_w 0 1 (in_c 1 rfl) rfl)) (hp11 _ _ ?_)
            show GG _ _ _ _ _ _ _ _ [.int (Int32.ofInt 1), .ref (A 109)] _ _ _
            refine g_if_eq 17 35 (gd rfl) rfl rfl (fun c14 => ?_) (fun c14 => ?_)
            · skip
              exact zn_eq c14 (in_c 1 rfl) rfl
            · skip
              refine g_iload_n 18 (gd rfl) rfl rfl ?_
              refine g_iload_n 19 (gd rfl) rfl rfl ?_
              refine g_cmp_eq 22 35 (gd rfl) rfl rfl (fun c19 => ?_) (fun c19 => ?_)
              · skip
                refine g_iconst 0 36 (gd rfl) rfl rfl ?_
                refine g_callv (X := _) (As := [.int (Int32.ofInt 0)]) (r := []) (b := A 109) (q := 109) 39 (gd rfl) rfl rfl rfl rfl rfl (ww_o rfl) (Nat.le_of_ble_eq_true rfl) (mc := 0) (ms := 0) (Nat.zero_le _) (Nat.zero_le _) (P := fun v u => _) ?_ (fun e u h => h) (fun v u h => h)
                intro po36 xx36 hp36 hx36
                refine g_enter2 (k := 271) (N := 300) (by first | exact dq1 hd rfl | exact dq0 hd rfl | exact dq2 hd rfl | exact dq3 hd rfl | omega) rfl (Nat.le_of_ble_eq_true rfl) ?_
                refine g_aload_n 1 (gd rfl) rfl rfl ?_
                refine g_iload_n 2 (gd rfl) rfl rfl ?_
                refine g_iconst 1 3 (gd rfl) rfl rfl ?_
                refine g_callv (X := _) (As := [.int (Int32.ofInt 0), .int (Int32.ofInt 1)]) (r := []) (b := A 109) (q := 109) 6 (gd rfl) rfl rfl rfl rfl rfl (ww_o rfl) (Nat.le_of_ble_eq_true rfl) (mc := 0) (ms := 0) (Nat.zero_le _) (Nat.zero_le _) (P := fun v u => _) ?_ (fun e u h => h) (fun v u h => h)
                intro po36x3 xx36x3 hp36x3 hx36x3
                refine g_enter2 (k := 270) (N := 300) (by first | exact dq1 hd rfl | exact dq0 hd rfl | exact dq2 hd rfl | exact dq3 hd rfl | omega) rfl (Nat.le_of_ble_eq_true rfl) ?_
                refine g_aload_n 1 (gd rfl) rfl rfl ?_
                refine g_iload_n 2 (gd rfl) rfl rfl ?_
                refine g_if_ne 5 9 (gd rfl) rfl rfl (fun c36x3x2 => ?_) (fun c36x3x2 => ?_)
                · skip
                  exact zn_ne c36x3x2 (in_c 0 rfl) rfl
                · skip
                  refine g_iconst 1 6 (gd rfl) rfl rfl ?_
                  refine g_goto 18 (gd rfl) rfl ?_
                  refine g_putI 21 (gd rfl) rfl rfl rfl rfl ?_
                  have hI36x3x18 := inv_sF (q := 109) (j := 0) hI rfl (in_w 0 2 (in_c 1 rfl) rfl)
                  refine g_aload_n 22 (gd rfl) rfl rfl ?_
                  refine g_getI 25 (gd rfl) rfl rfl rfl (fun z36x3x22 e36x3x22 => ?_)
                  have q36x3x22 : (Int32.ofInt 1) = z36x3x22 := (sF_get).trans e36x3x22.symm
                  subst q36x3x22
                  refine g_if_le 28 32 (gd rfl) rfl rfl (fun c36x3x25 => ?_) (fun c36x3x25 => ?_)
                  · skip
                    exact zn_le c36x3x25 (in_c 1 rfl) rfl
                  · skip
                    refine g_iconst 1 29 (gd rfl) rfl rfl ?_
                    refine g_goto 33 (gd rfl) rfl ?_
                    refine g_ireturn (gd rfl) rfl (nb01 (in_w 0 1 (in_c 1 rfl) rfl)) (hp36x3 _ _ ?_)
                    show GG _ _ _ _ _ _ _ _ [.int (Int32.ofInt 1)] _ _ _
                    refine g_ireturn (gd rfl) rfl (nb01 (in_w 0 1 (in_c 1 rfl) rfl)) (hp36 _ _ ?_)
                    show GG _ _ _ _ _ _ _ _ [.int (Int32.ofInt 1)] _ _ _
                    refine g_if_eq 42 44 (gd rfl) rfl rfl (fun c39 => ?_) (fun c39 => ?_)
                    · skip
                      exact zn_eq c39 (in_c 1 rfl) rfl
                    · skip
                      refine g_iconst 0 43 (gd rfl) rfl rfl ?_
                      exact g_ireturn (gd rfl) rfl rfl (hP _ _ ⟨(sF s 109 0 (Int32.ofInt 1)), hI36x3x18, (fr_sF rfl fr_rf), (Int32.ofInt 0), rfl, rfl, in_w (-1) 159 (in_c 0 rfl) rfl⟩)
              · skip
                refine g_iload_n 23 (gd rfl) rfl rfl ?_
                refine g_if_lt 26 35 (gd rfl) rfl rfl (fun c23 => ?_) (fun c23 => ?_)
                · skip
                  have i23 := z_lt (-2147483648) (-1) c23 (i_rng x3) rfl
                  refine g_iconst 0 36 (gd rfl) rfl rfl ?_
                  refine g_callv (X := _) (As := [.int (Int32.ofInt 0)]) (r := []) (b := A 109) (q := 109) 39 (gd rfl) rfl rfl rfl rfl rfl (ww_o rfl) (Nat.le_of_ble_eq_true rfl) (mc := 0) (ms := 0) (Nat.zero_le _) (Nat.zero_le _) (P := fun v u => _) ?_ (fun e u h => h) (fun v u h => h)
                  intro po36 xx36 hp36 hx36
                  refine g_enter2 (k := 271) (N := 300) (by first | exact dq1 hd rfl | exact dq0 hd rfl | exact dq2 hd rfl | exact dq3 hd rfl | omega) rfl (Nat.le_of_ble_eq_true rfl) ?_
                  refine g_aload_n 1 (gd rfl) rfl rfl ?_
                  refine g_iload_n 2 (gd rfl) rfl rfl ?_
                  refine g_iconst 1 3 (gd rfl) rfl rfl ?_
                  refine g_callv (X := _) (As := [.int (Int32.ofInt 0), .int (Int32.ofInt 1)]) (r := []) (b := A 109) (q := 109) 6 (gd rfl) rfl rfl rfl rfl rfl (ww_o rfl) (Nat.le_of_ble_eq_true rfl) (mc := 0) (ms := 0) (Nat.zero_le _) (Nat.zero_le _) (P := fun v u => _) ?_ (fun e u h => h) (fun v u h => h)
                  intro po36x3 xx36x3 hp36x3 hx36x3
                  refine g_enter2 (k := 270) (N := 300) (by first | exact dq1 hd rfl | exact dq0 hd rfl | exact dq2 hd rfl | exact dq3 hd rfl | omega) rfl (Nat.le_of_ble_eq_true rfl) ?_
                  refine g_aload_n 1 (gd rfl) rfl rfl ?_
                  refine g_iload_n 2 (gd rfl) rfl rfl ?_
                  refine g_if_ne 5 9 (gd rfl) rfl rfl (fun c36x3x2 => ?_) (fun c36x3x2 => ?_)
                  · skip
                    exact zn_ne c36x3x2 (in_c 0 rfl) rfl
                  · skip
                    refine g_iconst 1 6 (gd rfl) rfl rfl ?_
                    refine g_goto 18 (gd rfl) rfl ?_
                    refine g_putI 21 (gd rfl) rfl rfl rfl rfl ?_
                    have hI36x3x18 := inv_sF (q := 109) (j := 0) hI rfl (in_w 0 2 (in_c 1 rfl) rfl)
                    refine g_aload_n 22 (gd rfl) rfl rfl ?_
                    refine g_getI 25 (gd rfl) rfl rfl rfl (fun z36x3x22 e36x3x22 => ?_)
                    have q36x3x22 : (Int32.ofInt 1) = z36x3x22 := (sF_get).trans e36x3x22.symm
                    subst q36x3x22
                    refine g_if_le 28 32 (gd rfl) rfl rfl (fun c36x3x25 => ?_) (fun c36x3x25 => ?_)
                    · skip
                      exact zn_le c36x3x25 (in_c 1 rfl) rfl
                    · skip
                      refine g_iconst 1 29 (gd rfl) rfl rfl ?_
                      refine g_goto 33 (gd rfl) rfl ?_
                      refine g_ireturn (gd rfl) rfl (nb01 (in_w 0 1 (in_c 1 rfl) rfl)) (hp36x3 _ _ ?_)
                      show GG _ _ _ _ _ _ _ _ [.int (Int32.ofInt 1)] _ _ _
                      refine g_ireturn (gd rfl) rfl (nb01 (in_w 0 1 (in_c 1 rfl) rfl)) (hp36 _ _ ?_)
                      show GG _ _ _ _ _ _ _ _ [.int (Int32.ofInt 1)] _ _ _
                      refine g_if_eq 42 44 (gd rfl) rfl rfl (fun c39 => ?_) (fun c39 => ?_)
                      · skip
                        exact zn_eq c39 (in_c 1 rfl) rfl
                      · skip
                        refine g_iconst 0 43 (gd rfl) rfl rfl ?_
                        exact g_ireturn (gd rfl) rfl rfl (hP _ _ ⟨(sF s 109 0 (Int32.ofInt 1)), hI36x3x18, (fr_sF rfl fr_rf), (Int32.ofInt 0), rfl, rfl, in_w (-1) 159 (in_c 0 rfl) rfl⟩)
                · skip
                  have i23 := z_ge 0 2147483647 c23 (i_rng x3) rfl
                  refine g_iload 28 (gd rfl) rfl rfl ?_
                  refine g_if_lt 31 35 (gd rfl) rfl rfl (fun c28 => ?_) (fun c28 => ?_)
                  · skip
                    have i28 := z_lt (-2147483648) (-1) c28 (i_rng x4) rfl
                    refine g_iconst 0 36 (gd rfl) rfl rfl ?_
                    refine g_callv (X := _) (As := [.int (Int32.ofInt 0)]) (r := []) (b := A 109) (q := 109) 39 (gd rfl) rfl rfl rfl rfl rfl (ww_o rfl) (Nat.le_of_ble_eq_true rfl) (mc := 0) (ms := 0) (Nat.zero_le _) (Nat.zero_le _) (P := fun v u => _) ?_ (fun e u h => h) (fun v u h => h)
                    intro po36 xx36 hp36 hx36
                    refine g_enter2 (k := 271) (N := 300) (by first | exact dq1 hd rfl | exact dq0 hd rfl | exact dq2 hd rfl | exact dq3 hd rfl | omega) rfl (Nat.le_of_ble_eq_true rfl) ?_
                    refine g_aload_n 1 (gd rfl) rfl rfl ?_
                    refine g_iload_n 2 (gd rfl) rfl rfl ?_
                    refine g_iconst 1 3 (gd rfl) rfl rfl ?_
                    refine g_callv (X := _) (As := [.int (Int32.ofInt 0), .int (Int32.ofInt 1)]) (r := []) (b := A 109) (q := 109) 6 (gd rfl) rfl rfl rfl rfl rfl (ww_o rfl) (Nat.le_of_ble_eq_true rfl) (mc := 0) (ms := 0) (Nat.zero_le _) (Nat.zero_le _) (P := fun v u => _) ?_ (fun e u h => h) (fun v u h => h)
                    intro po36x3 xx36x3 hp36x3 hx36x3
                    refine g_enter2 (k := 270) (N := 300) (by first | exact dq1 hd rfl | exact dq0 hd rfl | exact dq2 hd rfl | exact dq3 hd rfl | omega) rfl (Nat.le_of_ble_eq_true rfl) ?_
                    refine g_aload_n 1 (gd rfl) rfl rfl ?_
                    refine g_iload_n 2 (gd rfl) rfl rfl ?_
                    refine g_if_ne 5 9 (gd rfl) rfl rfl (fun c36x3x2 => ?_) (fun c36x3x2 => ?_)
                    · skip
                      exact zn_ne c36x3x2 (in_c 0 rfl) rfl
                    · skip
                      refine g_iconst 1 6 (gd rfl) rfl rfl ?_
                      refine g_goto 18 (gd rfl) rfl ?_
                      refine g_putI 21 (gd rfl) rfl rfl rfl rfl ?_
                      have hI36x3x18 := inv_sF (q := 109) (j := 0) hI rfl (in_w 0 2 (in_c 1 rfl) rfl)
                      refine g_aload_n 22 (gd rfl) rfl rfl ?_
                      refine g_getI 25 (gd rfl) rfl rfl rfl (fun z36x3x22 e36x3x22 => ?_)
                      have q36x3x22 : (Int32.ofInt 1) = z36x3x22 := (sF_get).trans e36x3x22.symm
                      subst q36x3x22
                      refine g_if_le 28 32 (gd rfl) rfl rfl (fun c36x3x25 => ?_) (fun c36x3x25 => ?_)
                      · skip
                        exact zn_le c36x3x25 (in_c 1 rfl) rfl
                      · skip
                        refine g_iconst 1 29 (gd rfl) rfl rfl ?_
                        refine g_goto 33 (gd rfl) rfl ?_
                        refine g_ireturn (gd rfl) rfl (nb01 (in_w 0 1 (in_c 1 rfl) rfl)) (hp36x3 _ _ ?_)
                        show GG _ _ _ _ _ _ _ _ [.int (Int32.ofInt 1)] _ _ _
                        refine g_ireturn (gd rfl) rfl (nb01 (in_w 0 1 (in_c 1 rfl) rfl)) (hp36 _ _ ?_)
                        show GG _ _ _ _ _ _ _ _ [.int (Int32.ofInt 1)] _ _ _
                        refine g_if_eq 42 44 (gd rfl) rfl rfl (fun c39 => ?_) (fun c39 => ?_)
                        · skip
                          exact zn_eq c39 (in_c 1 rfl) rfl
                        · skip
                          refine g_iconst 0 43 (gd rfl) rfl rfl ?_
                          exact g_ireturn (gd rfl) rfl rfl (hP _ _ ⟨(sF s 109 0 (Int32.ofInt 1)), hI36x3x18, (fr_sF rfl fr_rf), (Int32.ofInt 0), rfl, rfl, in_w (-1) 159 (in_c 0 rfl) rfl⟩)
                  · skip
                    have i28 := z_ge 0 2147483647 c28 (i_rng x4) rfl
                    refine g_iconst 1 32 (gd rfl) rfl rfl ?_
                    refine g_goto 36 (gd rfl) rfl ?_
                    refine g_callv (X := _) (As := [.int (Int32.ofInt 1)]) (r := []) (b := A 109) (q := 109) 39 (gd rfl) rfl rfl rfl rfl rfl (ww_o rfl) (Nat.le_of_ble_eq_true rfl) (mc := 0) (ms := 0) (Nat.zero_le _) (Nat.zero_le _) (P := fun v u => _) ?_ (fun e u h => h) (fun v u h => h)
                    intro po36 xx36 hp36 hx36
                    refine g_enter2 (k := 271) (N := 300) (by first | exact dq1 hd rfl | exact dq0 hd rfl | exact dq2 hd rfl | exact dq3 hd rfl | omega) rfl (Nat.le_of_ble_eq_true rfl) ?_
                    refine g_aload_n 1 (gd rfl) rfl rfl ?_
                    refine g_iload_n 2 (gd rfl) rfl rfl ?_
                    refine g_iconst 1 3 (gd rfl) rfl rfl ?_
                    refine g_callv (X := _) (As := [.int (Int32.ofInt 1), .int (Int32.ofInt 1)]) (r := []) (b := A 109) (q := 109) 6 (gd rfl) rfl rfl rfl rfl rfl (ww_o rfl) (Nat.le_of_ble_eq_true rfl) (mc := 0) (ms := 0) (Nat.zero_le _) (Nat.zero_le _) (P := fun v u => _) ?_ (fun e u h => h) (fun v u h => h)
                    intro po36x3 xx36x3 hp36x3 hx36x3
                    refine g_enter2 (k := 270) (N := 300) (by first | exact dq1 hd rfl | exact dq0 hd rfl | exact dq2 hd rfl | exact dq3 hd rfl | omega) rfl (Nat.le_of_ble_eq_true rfl) ?_
                    refine g_aload_n 1 (gd rfl) rfl rfl ?_
                    refine g_iload_n 2 (gd rfl) rfl rfl ?_
                    refine g_if_ne 5 9 (gd rfl) rfl rfl (fun c36x3x2 => ?_) (fun c36x3x2 => ?_)
                    · skip
                      refine g_iload_n 10 (gd rfl) rfl rfl ?_
                      refine g_if_ne 13 17 (gd rfl) rfl rfl (fun c36x3x10 => ?_) (fun c36x3x10 => ?_)
                      · skip
                        refine g_iconst 0 18 (gd rfl) rfl rfl ?_
                        refine g_putI 21 (gd rfl) rfl rfl rfl rfl ?_
                        have hI36x3x18 := inv_sF (q := 109) (j := 0) hI rfl (in_w 0 2 (in_c 0 rfl) rfl)
                        refine g_aload_n 22 (gd rfl) rfl rfl ?_
                        refine g_getI 25 (gd rfl) rfl rfl rfl (fun z36x3x22 e36x3x22 => ?_)
                        have q36x3x22 : (Int32.ofInt 0) = z36x3x22 := (sF_get).trans e36x3x22.symm
                        subst q36x3x22
                        refine g_if_le 28 32 (gd rfl) rfl rfl (fun c36x3x25 => ?_) (fun c36x3x25 => ?_)
                        · skip
                          refine g_iconst 0 33 (gd rfl) rfl rfl ?_
                          refine g_ireturn (gd rfl) rfl (nb01 (in_w 0 1 (in_c 0 rfl) rfl)) (hp36x3 _ _ ?_)
                          show GG _ _ _ _ _ _ _ _ [.int (Int32.ofInt 0)] _ _ _
                          refine g_ireturn (gd rfl) rfl (nb01 (in_w 0 1 (in_c 0 rfl) rfl)) (hp36 _ _ ?_)
                          show GG _ _ _ _ _ _ _ _ [.int (Int32.ofInt 0)] _ _ _
                          refine g_if_eq 42 44 (gd rfl) rfl rfl (fun c39 => ?_) (fun c39 => ?_)
                          · skip
                            refine g_aload_n 45 (gd rfl) rfl rfl ?_
                            refine g_iload_n 46 (gd rfl) rfl rfl ?_
                            refine g_iload_n 47 (gd rfl) rfl rfl ?_
                            refine g_callv (X := _) (As := [.int x1, .int x2]) (r := []) (b := A 109) (q := 109) 50 (gd rfl) rfl rfl rfl rfl rfl (ww_o rfl) (Nat.le_of_ble_eq_true rfl) (Nat.zero_le _) (Nat.zero_le _) (k_320 (by first | exact dq1 hd rfl | exact dq0 hd rfl | exact dq2 hd rfl | exact dq3 hd rfl | omega) hI36x3x18 (in_w 0 31 i3x9 rfl) (in_w 0 31 i11x9 rfl)) (fun e u h => h) (fun v u h => ?_)
                            obtain ⟨s47, hI47, hF47, rfl, rfl⟩ := h
                            show GG _ _ _ _ _ _ _ _ [] _ _ _
                            refine g_aload_n 51 (gd rfl) rfl rfl ?_
                            refine g_getI 54 (gd rfl) rfl rfl rfl (fun z51 e51 => ?_)
                            have i51 := inv_F hI47 0 2001 rfl e51
                            refine g_sipush 2000 57 (gd rfl) rfl rfl ?_
                            refine g_cmp_gt 60 68 (gd rfl) rfl rfl (fun c57 => ?_) (fun c57 => ?_)
                            · skip
                              have i57 := r_lt2 2001 2001 c57 (in_c 2000 rfl) i51 rfl
                              refine g_iconst (-1) 69 (gd rfl) rfl rfl ?_
                              exact g_ireturn (gd rfl) rfl rfl (hP _ _ ⟨s47, hI47, (fr_tr rfl (fr_sF rfl fr_rf) hF47), (Int32.ofInt (-1)), rfl, rfl, in_w (-1) 159 (in_c (-1) rfl) rfl⟩)
                            · skip
                              have i57 := r_le1 0 2000 c57 i51 (in_c 2000 rfl) rfl
                              refine g_iload_n 61 (gd rfl) rfl rfl ?_
                              refine g_aload_n 62 (gd rfl) rfl rfl ?_
                              refine g_getI 65 (gd rfl) rfl rfl rfl (fun z62 e62 => ?_)
                              have q62 : z51 = z62 := (e51).trans e62.symm
                              subst q62
                              refine g_cmp_lt 68 70 (gd rfl) rfl rfl (fun c65 => ?_) (fun c65 => ?_)
                              · skip
                                have i65 := r_lt1 0 1999 c65 i23 i57 rfl
                                have i65a := r_lt2 1 2000 c65 i23 i57 rfl
                                refine g_aload_n 71 (gd rfl) rfl rfl ?_
                                refine g_callv (X := _) (As := []) (r := []) (b := A 109) (q := 109) 74 (gd rfl) rfl rfl rfl rfl rfl (ww_o rfl) (Nat.le_of_ble_eq_true rfl) (Nat.zero_le _) (Nat.zero_le _) (k_324 (by first | exact dq1 hd rfl | exact dq0 hd rfl | exact dq2 hd rfl | exact dq3 hd rfl | omega) hI47 ) (fun e u h => h) (fun v u h => ?_)
                                obtain ⟨s71, hI71, hF71, rfl, rfl⟩ := h
                                show GG _ _ _ _ _ _ _ _ [] _ _ _
                                refine g_iconst 5 75 (gd rfl) rfl rfl ?_
                                refine g_aload_n 76 (gd rfl) rfl rfl ?_
                                refine g_getA (q2 := 136) 79 (gd rfl) rfl rfl rfl rfl ?_
                                refine g_iload_n 80 (gd rfl) rfl rfl ?_
                                refine g_iaload 81 (gd rfl) rfl (n := 2001) rfl (in_ix i65 rfl) (fun z80 e80 => ?_)
                                have i80 := inv_I hI71 (n := 2001) (t := 0) 0 2000 rfl (in_ix i65 rfl) rfl e80
                                refine g_imul 82 (gd rfl) rfl (fun z81 e81 => ?_)
                                have i81 := in_mulc 5 0 10000 (Or.inl e81) i80 rfl rfl
                                refine g_istore 84 (gd rfl) rfl (Nat.le_of_ble_eq_true rfl) ?_
                                refine g_iload 86 (gd rfl) rfl rfl ?_
                                refine g_aload_n 87 (gd rfl) rfl rfl ?_
                                refine g_getA (q2 := 134) 90 (gd rfl) rfl rfl rfl rfl ?_
                                refine g_iload 92 (gd rfl) rfl rfl ?_
                                refine g_iaload 93 (gd rfl) rfl (n := 10005) rfl (in_ix i81 rfl) (fun z92 e92 => ?_)
                                have i92 := inv_I hI71 (n := 10005) (t := 0) 0 159 rfl (in_ix i81 rfl) rfl e92
                                have i93 : In z92 0 4 := by exact ks_u hI71 e92 (t_mulc 5 (Or.inl e81) i80 rfl).1 i80 i92
                                refine g_cmp_ge 96 111 (gd rfl) rfl rfl (fun c93 => ?_) (fun c93 => ?_)
                                · skip
                                  refine g_iconst (-1) 112 (gd rfl) rfl rfl ?_
                                  exact g_ireturn (gd rfl) rfl rfl (hP _ _ ⟨s71, hI71, (fr_tr rfl (fr_tr rfl (fr_sF rfl fr_rf) hF47) hF71), (Int32.ofInt (-1)), rfl, rfl, in_w (-1) 159 (in_c (-1) rfl) rfl⟩)
                                · skip
                                  have i93a := r_lt1 0 3 c93 i28 i93 rfl
                                  have i93b := r_lt2 1 4 c93 i28 i93 rfl
                                  refine g_aload_n 97 (gd rfl) rfl rfl ?_
                                  refine g_getA (q2 := 134) 100 (gd rfl) rfl rfl rfl rfl ?_
                                  refine g_iload 102 (gd rfl) rfl rfl ?_
                                  refine g_iconst 1 103 (gd rfl) rfl rfl ?_
                                  refine g_iadd 104 (gd rfl) rfl (fun z103 e103 => ?_)
                                  have i103 := in_add 1 10001 e103 i81 (in_c 1 rfl) rfl rfl
                                  refine g_iload 106 (gd rfl) rfl rfl ?_
                                  refine g_iadd 107 (gd rfl) rfl (fun z106 e106 => ?_)
                                  have i106 := in_add 1 10004 e106 i103 i93a rfl rfl
                                  refine g_iaload 108 (gd rfl) rfl (n := 10005) rfl (in_ix i106 rfl) (fun z107 e107 => ?_)
                                  have i107 := inv_I hI71 (n := 10005) (t := 0) 0 159 rfl (in_ix i106 rfl) rfl e107
                                  refine g_goto 112 (gd rfl) rfl ?_
                                  exact g_ireturn (gd rfl) rfl rfl (hP _ _ ⟨s71, hI71, (fr_tr rfl (fr_tr rfl (fr_sF rfl fr_rf) hF47) hF71), z107, rfl, rfl, in_w (-1) 159 i107 rfl⟩)
                              · skip
                                refine g_iconst (-1) 69 (gd rfl) rfl rfl ?_
                                exact g_ireturn (gd rfl) rfl rfl (hP _ _ ⟨s47, hI47, (fr_tr rfl (fr_sF rfl fr_rf) hF47), (Int32.ofInt (-1)), rfl, rfl, in_w (-1) 159 (in_c (-1) rfl) rfl⟩)
                          · skip
                            exact zn_ne c39 (in_c 0 rfl) rfl
                        · skip
                          exact zn_gt c36x3x25 (in_c 0 rfl) rfl
                      · skip
                        exact zn_eq c36x3x10 (in_c 1 rfl) rfl
                    · skip
                      exact zn_eq c36x3x2 (in_c 1 rfl) rfl

def fm_357 : FM := ([148], [147, 149, 150], [(109, 0)], [])
/-- GraphHouseModel.cost -/
theorem k_357 {Z : AmZ} {A : Nat → Nat} {s : GS} {ex : va_W} {d : Nat} {X : AmX} {x1 : Int32} {x2 : Int32} {x3 : Int32} (hd : 4 ≤ d) (hI : Inv s)  : GC Z d 357 [.ref (A 109), .int x1, .int x2, .int x3] (WW Z A s ++ ex) 0 0 (fun v u => ∃ t : GS, Inv t ∧ Fr fm_357 s t ∧ ∃ z : Int64, v = some (.long z) ∧ u = WW Z A t ++ ex) X := by
  intro post xp hP hX
  obtain ⟨u_109_19, e_109_19⟩ : ∃ w, w = s.2.2.1 109 19 := ⟨_, rfl⟩
  have ro_109_19 := inv_F hI 0 160 rfl e_109_19
  obtain ⟨u_109_20, e_109_20⟩ : ∃ w, w = s.2.2.1 109 20 := ⟨_, rfl⟩
  have ro_109_20 := inv_F hI 0 32 rfl e_109_20
  have ct263 : ∀ (k263 : Nat) (sc263 : GS) (y263_4 : Int32) (y263_5 : Int64) (y263_7 : Int32), Inv sc263 → Fr fm_357 s sc263 → (In x1 0 31) → (In x2 0 31) → (In x3 0 200000000) → (In y263_4 0 1) → (In y263_7 0 160) → 160 - (y263_7).toInt < (k263 : Int) → GG Z (d - 1) 357 post (gx xp) (1 + k263 * 900) 263 (fun j => xlook j [(0, .ref (A 109)), (1, .int x1), (2, .int x2), (3, .int x3), (4, .int y263_4), (5, .long y263_5), (7, .int y263_7)]) [] (WW Z A sc263 ++ ex) 0 0 := by
    intro k263
    induction k263 with
    | zero => intro sc263 y263_4 y263_5 y263_7 hIc263 hFc263 j263_1 j263_2 j263_3 j263_4 j263_7 mm263; exact m_no mm263 j263_7 rfl
    | succ k263 ih263 =>
      intro sc263 y263_4 y263_5 y263_7 hIc263 hFc263 j263_1 j263_2 j263_3 j263_4 j263_7 mm263
      refine gg_w (M := 1 + k263 * 900 + 900) gws ?_
      refine g_iload 265 (gd rfl) rfl rfl ?_
      refine g_sipush 160 268 (gd rfl) rfl rfl ?_
      refine g_cmp_ge 271 322 (gd rfl) rfl rfl (fun c268 => ?_) (fun c268 => ?_)
      · skip
        have i268 := r_le2 160 160 c268 (in_c 160 rfl) j263_7 rfl
        refine g_iload 324 (gd rfl) rfl rfl ?_
        refine g_if_eq 327 332 (gd rfl) rfl rfl (fun c324 => ?_) (fun c324 => ?_)
        · skip
          have i324 := z_eq 0 0 c324 j263_4 rfl
          refine g_ldc2_w 9000000000000000 335 (gd rfl) rfl rfl ?_
          exact g_lreturn (gd rfl) rfl (hP _ _ ⟨sc263, hIc263, hFc263, (Int64.ofInt 9000000000000000), rfl, rfl⟩)
        · skip
          have i324 := z_ne 1 1 c324 j263_4 rfl
          refine g_lload 329 (gd rfl) rfl rfl ?_
          refine g_goto 335 (gd rfl) rfl ?_
          exact g_lreturn (gd rfl) rfl (hP _ _ ⟨sc263, hIc263, hFc263, y263_5, rfl, rfl⟩)
      · skip
        have i268 := r_lt1 0 159 c268 j263_7 (in_c 160 rfl) rfl
        refine g_lload 273 (gd rfl) rfl rfl ?_
        refine g_aload_n 274 (gd rfl) rfl rfl ?_
        refine g_getA (q2 := 112) 277 (gd rfl) rfl rfl rfl rfl ?_
        refine g_aload_n 278 (gd rfl) rfl rfl ?_
        refine g_getI 281 (gd rfl) rfl rfl rfl (fun z278 e278 => ?_)
        have q278 : u_109_19 = z278 := (fr_F e_109_19 hFc263 rfl).trans e278.symm
        subst q278
        refine g_iload 283 (gd rfl) rfl rfl ?_
        refine g_iadd 284 (gd rfl) rfl (fun z283 e283 => ?_)
        have i283 := in_add 0 319 e283 ro_109_19 i268 rfl rfl
        refine g_baload 285 (gd rfl) rfl (n := 480) rfl (in_ix i283 rfl) (fun z284 e284 => ?_)
        have i284 := inv_I hIc263 (n := 480) (t := 3) 0 1 rfl (in_ix i283 rfl) rfl e284
        refine g_if_eq 288 312 (gd rfl) rfl rfl (fun c285 => ?_) (fun c285 => ?_)
        · skip
          have i285 := z_eq 0 0 c285 i284 rfl
          refine g_lconst 0 313 (gd rfl) rfl rfl ?_
          refine g_ladd 314 (gd rfl) rfl (fun z313 e313 => ?_)
          refine g_lstore 316 (gd rfl) rfl (Nat.le_of_ble_eq_true rfl) ?_
          refine g_iinc 319 (gd rfl) rfl rfl (Nat.le_of_ble_eq_true rfl) (fun z316 e316 => ?_)
          have i316 := in_add 1 160 e316 i268 (in_c 1 rfl) rfl rfl
          refine g_goto 263 (gd rfl) rfl ?_
          exact gg_w (by first | exact Nat.le_add_right _ _ | exact gw2 | exact gw3 | exact gwe rfl | exact gwf rfl | exact gwg rfl | exact gwh rfl | omega) (gg_f (gf_cons rfl (gf_cons rfl (gf_cons rfl (gf_cons rfl (gf_cons rfl (gf_cons rfl (gf_cons rfl gf_nil))))))) (ih263 sc263 y263_4 z313 z316 hIc263 hFc263 (in_w 0 31 j263_1 rfl) (in_w 0 31 j263_2 rfl) (in_w 0 200000000 j263_3 rfl) (in_w 0 1 j263_4 rfl) (in_w 0 160 i316 rfl) (m_up mm263 (t_add e316 i268 (in_c 1 rfl) rfl) (in_w 1 1 (in_c 1 rfl) rfl))))
        · skip
          have i285 := z_ne 1 1 c285 i284 rfl
          refine g_aload_n 289 (gd rfl) rfl rfl ?_
          refine g_getA (q2 := 147) 292 (gd rfl) rfl rfl rfl rfl ?_
          refine g_iload 294 (gd rfl) rfl rfl ?_
          refine g_laload 295 (gd rfl) rfl (n := 160) rfl (in_ix i268 rfl) (fun z294 e294 => ?_)
          refine g_aload_n 296 (gd rfl) rfl rfl ?_
          refine g_getA (q2 := 115) 299 (gd rfl) rfl rfl rfl rfl ?_
          refine g_aload_n 300 (gd rfl) rfl rfl ?_
          refine g_getI 303 (gd rfl) rfl rfl rfl (fun z300 e300 => ?_)
          have q300 : u_109_19 = z300 := (fr_F e_109_19 hFc263 rfl).trans e300.symm
          subst q300
          refine g_iload 305 (gd rfl) rfl rfl ?_
          refine g_iadd 306 (gd rfl) rfl (fun z305 e305 => ?_)
          have i305 := in_add 0 319 e305 ro_109_19 i268 rfl rfl
          refine g_iaload 307 (gd rfl) rfl (n := 480) rfl (in_ix i305 rfl) (fun z306 e306 => ?_)
          have i306 := inv_I hIc263 (n := 480) (t := 0) (-1000000) 1000000 rfl (in_ix i305 rfl) rfl e306
          refine g_i2l 308 (gd rfl) rfl (fun z307 e307 => ?_)
          have i307 := l_i e307 i306
          refine g_lmul 309 (gd rfl) rfl (fun z308 e308 => ?_)
          refine g_goto 313 (gd rfl) rfl ?_
          refine g_ladd 314 (gd rfl) rfl (fun z313 e313 => ?_)
          refine g_lstore 316 (gd rfl) rfl (Nat.le_of_ble_eq_true rfl) ?_
          refine g_iinc 319 (gd rfl) rfl rfl (Nat.le_of_ble_eq_true rfl) (fun z316 e316 => ?_)
          have i316 := in_add 1 160 e316 i268 (in_c 1 rfl) rfl rfl
          refine g_goto 263 (gd rfl) rfl ?_
          exact gg_w (by first | exact Nat.le_add_right _ _ | exact gw2 | exact gw3 | exact gwe rfl | exact gwf rfl | exact gwg rfl | exact gwh rfl | omega) (gg_f (gf_cons rfl (gf_cons rfl (gf_cons rfl (gf_cons rfl (gf_cons rfl (gf_cons rfl (gf_cons rfl gf_nil))))))) (ih263 sc263 y263_4 z313 z316 hIc263 hFc263 (in_w 0 31 j263_1 rfl) (in_w 0 31 j263_2 rfl) (in_w 0 200000000 j263_3 rfl) (in_w 0 1 j263_4 rfl) (in_w 0 160 i316 rfl) (m_up mm263 (t_add e316 i268 (in_c 1 rfl) rfl) (in_w 1 1 (in_c 1 rfl) rfl))))
  have ct209 : ∀ (k209 : Nat) (sc209 : GS) (y209_4 : Int32) (y209_5 : Int32), Inv sc209 → Fr fm_357 s sc209 → (In x1 0 31) → (In x2 0 31) → (In x3 0 200000000) → (In y209_4 0 1) → (In y209_5 0 32) → (CO sc209) → (SU sc209) → 32 - (y209_5).toInt < (k209 : Int) → GG Z (d - 1) 357 post (gx xp) (144902 + k209 * 1080000005401) 209 (fun j => xlook j [(0, .ref (A 109)), (1, .int x1), (2, .int x2), (3, .int x3), (4, .int y209_4), (5, .int y209_5)]) [] (WW Z A sc209 ++ ex) 0 0 := by
    intro k209
    induction k209 with
    | zero => intro sc209 y209_4 y209_5 hIc209 hFc209 j209_1 j209_2 j209_3 j209_4 j209_5 g209_0 g209_1 mm209; exact m_no mm209 j209_5 rfl
    | succ k209 ih209 =>
      intro sc209 y209_4 y209_5 hIc209 hFc209 j209_1 j209_2 j209_3 j209_4 j209_5 g209_0 g209_1 mm209
      refine gg_w (M := 144902 + k209 * 1080000005401 + 1080000005401) gws ?_
      have ct223 : ∀ (k223 : Nat) (sc223 : GS) (y223_4 : Int32), Inv sc223 → Fr fm_357 s sc223 → (In y223_4 0 1) → (In y209_5 0 31) → ((y209_5).toInt < (u_109_20).toInt) → (CO sc223) → (SU sc223) → 2 * (sc223.2.1 150 (y209_5).toNatClampNeg).toInt.toNat + (y223_4).toInt.toNat < k223 → GG Z (d - 1) 357 post (gx xp) (144902 + k209 * 1080000005401 + 1 + k223 * 900) 223 (fun j => xlook j [(0, .ref (A 109)), (1, .int x1), (2, .int x2), (3, .int x3), (4, .int y223_4), (5, .int y209_5)]) [] (WW Z A sc223 ++ ex) 0 0 := by
        intro k223
        induction k223 with
        | zero => intro sc223 y223_4 hIc223 hFc223 j223_4 j223_5 n223_0 g223_0 g223_1 mm223; exact absurd mm223 (Nat.not_lt_zero _)
        | succ k223 ih223 =>
          intro sc223 y223_4 hIc223 hFc223 j223_4 j223_5 n223_0 g223_0 g223_1 mm223
          refine gg_w (M := 144902 + k209 * 1080000005401 + 1 + k223 * 900 + 900) gws ?_
          refine g_aload_n 224 (gd rfl) rfl rfl ?_
          refine g_getA (q2 := 150) 227 (gd rfl) rfl rfl rfl rfl ?_
          refine g_iload 229 (gd rfl) rfl rfl ?_
          refine g_laload 230 (gd rfl) rfl (n := 32) rfl (in_ix j223_5 rfl) (fun z229 e229 => ?_)
          refine g_lconst 0 231 (gd rfl) rfl rfl ?_
          refine g_lcmp 232 (gd rfl) rfl (fun z231 e231 => ?_)
          have i231 := lc_in e231
          refine g_if_le 235 251 (gd rfl) rfl rfl (fun c232 => ?_) (fun c232 => ?_)
          · skip
            have i232 := z_le (-1) 0 c232 i231 rfl
            have c232a := lc_le e231 c232
            have i232a := lr_le1 (-9223372036854775808) 0 c232a (l_rng z229) (l_c 0 rfl) rfl
            refine g_iinc 254 (gd rfl) rfl rfl (Nat.le_of_ble_eq_true rfl) (fun z251 e251 => ?_)
            have i251 := in_add 1 32 e251 j223_5 (in_c 1 rfl) rfl rfl
            refine g_goto 209 (gd rfl) rfl ?_
            have n209 : CO sc223 := by first | exact g223_0 | (first | exact g223_0 | exact g209_0 | exact co_0 hI ⟨hFc87.1 112 rfl, hFc87.1 113 rfl, hFc87.1 114 rfl, hFc87.1 115 rfl, hFc87.1 116 rfl, hFc87.2.2.1 109 19 rfl⟩ (by have h := g87_0; rw [show y87_4.toNatClampNeg = 160 from (by show y87_4.toInt.toNat = 160; have a0 := in_u j223_5; have a1 := in_u j209_2; have a2 := in_u j209_1; have a3 := in_u ro_109_20; have a4 := in_u ro_109_19; have a5 := in_u j223_4; have a6 := in_u i251; have a7 := t_add e251 j223_5 (in_c 1 rfl) rfl; have a8 := in_u ((in_c 1 rfl)); have a9 := in_u j209_3; omega)] at h; exact h))
            have n209a : SU sc223 := by first | exact g223_1 | (first | exact g223_1 | exact g209_1 | exact fun v hv hn => sb_w g87_1 (by have a0 := in_u j223_5; have a1 := in_u j209_2; have a2 := in_u j209_1; have a3 := in_u ro_109_20; have a4 := in_u ro_109_19; have a5 := in_u j223_4; have a6 := in_u i251; have a7 := t_add e251 j223_5 (in_c 1 rfl) rfl; have a8 := in_u ((in_c 1 rfl)); have a9 := in_u j209_3; omega) v hv (by rw [← hFc87.2.2.1 109 20 rfl]; exact hn))
            exact gg_w (by first | exact Nat.le_add_right _ _ | exact gw2 | exact gw3 | exact gwe rfl | exact gwf rfl | exact gwg rfl | exact gwh rfl | omega) (gg_f (gf_cons rfl (gf_cons rfl (gf_cons rfl (gf_cons rfl (gf_cons rfl (gf_cons rfl gf_nil)))))) (ih209 sc223 y223_4 z251 hIc223 hFc223 (in_w 0 31 j209_1 rfl) (in_w 0 31 j209_2 rfl) (in_w 0 200000000 j209_3 rfl) (in_w 0 1 j223_4 rfl) (in_w 0 32 i251 rfl) n209 n209a (m_up mm209 (t_add e251 j223_5 (in_c 1 rfl) rfl) (in_w 1 1 (in_c 1 rfl) rfl))))
          · skip
            have i232 := z_gt 1 1 c232 i231 rfl
            have c232a := lc_gt e231 c232
            have i232a := lr_lt2 1 9223372036854775807 c232a (l_c 0 rfl) (l_rng z229) rfl
            refine g_iload 237 (gd rfl) rfl rfl ?_
            refine g_if_eq 240 251 (gd rfl) rfl rfl (fun c237 => ?_) (fun c237 => ?_)
            · skip
              have i237 := z_eq 0 0 c237 j223_4 rfl
              refine g_iinc 254 (gd rfl) rfl rfl (Nat.le_of_ble_eq_true rfl) (fun z251 e251 => ?_)
              have i251 := in_add 1 32 e251 j223_5 (in_c 1 rfl) rfl rfl
              refine g_goto 209 (gd rfl) rfl ?_
              have n209 : CO sc223 := by first | exact g223_0 | (first | exact g223_0 | exact g209_0 | exact co_0 hI ⟨hFc87.1 112 rfl, hFc87.1 113 rfl, hFc87.1 114 rfl, hFc87.1 115 rfl, hFc87.1 116 rfl, hFc87.2.2.1 109 19 rfl⟩ (by have h := g87_0; rw [show y87_4.toNatClampNeg = 160 from (by show y87_4.toInt.toNat = 160; have a0 := in_u j223_5; have a1 := in_u j209_2; have a2 := in_u j209_1; have a3 := in_u ro_109_20; have a4 := in_u ro_109_19; have a5 := in_u i237; have a6 := in_u i251; have a7 := t_add e251 j223_5 (in_c 1 rfl) rfl; have a8 := in_u ((in_c 1 rfl)); have a9 := in_u j209_3; omega)] at h; exact h))
              have n209a : SU sc223 := by first | exact g223_1 | (first | exact g223_1 | exact g209_1 | exact fun v hv hn => sb_w g87_1 (by have a0 := in_u j223_5; have a1 := in_u j209_2; have a2 := in_u j209_1; have a3 := in_u ro_109_20; have a4 := in_u ro_109_19; have a5 := in_u i237; have a6 := in_u i251; have a7 := t_add e251 j223_5 (in_c 1 rfl) rfl; have a8 := in_u ((in_c 1 rfl)); have a9 := in_u j209_3; omega) v hv (by rw [← hFc87.2.2.1 109 20 rfl]; exact hn))
              exact gg_w (by first | exact Nat.le_add_right _ _ | exact gw2 | exact gw3 | exact gwe rfl | exact gwf rfl | exact gwg rfl | exact gwh rfl | omega) (gg_f (gf_cons rfl (gf_cons rfl (gf_cons rfl (gf_cons rfl (gf_cons rfl (gf_cons rfl gf_nil)))))) (ih209 sc223 y223_4 z251 hIc223 hFc223 (in_w 0 31 j209_1 rfl) (in_w 0 31 j209_2 rfl) (in_w 0 200000000 j209_3 rfl) (in_w 0 1 i237 rfl) (in_w 0 32 i251 rfl) n209 n209a (m_up mm209 (t_add e251 j223_5 (in_c 1 rfl) rfl) (in_w 1 1 (in_c 1 rfl) rfl))))
            · skip
              have i237 := z_ne 1 1 c237 j223_4 rfl
              refine g_aload_n 241 (gd rfl) rfl rfl ?_
              refine g_iload 243 (gd rfl) rfl rfl ?_
              have p243 : CO sc223 := by exact g223_0
              have p243a : SU sc223 := by exact g223_1
              have p243b : (y209_5).toInt < (sc223.2.2.1 109 20).toInt ∧ 0 < (sc223.2.1 150 (y209_5).toNatClampNeg).toInt := by exact ⟨by rw [hFc223.2.2.1 109 20 rfl, ← e_109_20]; have a0 := in_u j223_5; have a1 := in_u j209_2; have a2 := in_u j209_1; have a3 := in_u ro_109_20; have a4 := in_u ro_109_19; have a5 := in_u i237; have a6 := in_u j209_3; omega, by rw [← e229]; have h := i232a.1; omega⟩
              refine g_callv (X := _) (As := [.int y209_5]) (r := []) (b := A 109) (q := 109) 246 (gd rfl) rfl rfl rfl rfl rfl (ww_o rfl) (Nat.le_of_ble_eq_true rfl) (Nat.zero_le _) (Nat.zero_le _) (k_358 (by first | exact dq1 hd rfl | exact dq0 hd rfl | exact dq2 hd rfl | exact dq3 hd rfl | omega) hIc223 (in_w 0 31 j223_5 rfl) p243 p243a p243b) (fun e u h => h) (fun v u h => ?_)
              obtain ⟨s243, hI243, hF243, z243, rfl, rfl, i243, p243c, p243d, p243e⟩ := h
              show GG _ _ _ _ _ _ _ _ [.int z243] _ _ _
              refine g_istore 248 (gd rfl) rfl (Nat.le_of_ble_eq_true rfl) ?_
              refine g_goto 223 (gd rfl) rfl ?_
              have n223 : (y209_5).toInt < (u_109_20).toInt := by first | exact n223_0 | (have a0 := in_u j223_5; have a1 := in_u j209_2; have a2 := in_u j209_1; have a3 := in_u ro_109_20; have a4 := in_u ro_109_19; have a5 := in_u i237; have a6 := in_u i243; have a7 := in_u j209_3; omega)
              have n223a : CO s243 := by first | exact p243c | exact g209_0
              have n223b : SU s243 := by first | exact p243d | exact g209_1
              have m223 : 2 * (s243.2.1 150 (y209_5).toNatClampNeg).toInt.toNat + (z243).toInt.toNat < k223 := by have hm := mm223; by_cases hz : z243.toInt = 0; (rw [p243e.2 hz]; have a0 := in_u j223_5; have a1 := in_u j209_2; have a2 := in_u j209_1; have a3 := in_u ro_109_20; have a4 := in_u ro_109_19; have a5 := in_u i237; have a6 := in_u i243; have a7 := in_u j209_3; omega); (have h := p243e.1 hz; have a0 := in_u j223_5; have a1 := in_u j209_2; have a2 := in_u j209_1; have a3 := in_u ro_109_20; have a4 := in_u ro_109_19; have a5 := in_u i237; have a6 := in_u i243; have a7 := in_u j209_3; omega)
              exact gg_w (by first | exact Nat.le_add_right _ _ | exact gw2 | exact gw3 | exact gwe rfl | exact gwf rfl | exact gwg rfl | exact gwh rfl | omega) (gg_f (gf_cons rfl (gf_cons rfl (gf_cons rfl (gf_cons rfl (gf_cons rfl (gf_cons rfl gf_nil)))))) (ih223  s243 z243 hI243 (fr_tr rfl hFc223 hF243) (in_w 0 1 i243 rfl) (in_w 0 31 j223_5 rfl) n223 n223a n223b m223))
      refine g_iload 211 (gd rfl) rfl rfl ?_
      refine g_aload_n 212 (gd rfl) rfl rfl ?_
      refine g_getI 215 (gd rfl) rfl rfl rfl (fun z212 e212 => ?_)
      have q212 : u_109_20 = z212 := (fr_F e_109_20 hFc209 rfl).trans e212.symm
      subst q212
      refine g_cmp_ge 218 257 (gd rfl) rfl rfl (fun c215 => ?_) (fun c215 => ?_)
      · skip
        refine g_lconst 0 258 (gd rfl) rfl rfl ?_
        refine g_lstore 260 (gd rfl) rfl (Nat.le_of_ble_eq_true rfl) ?_
        refine g_iconst 0 261 (gd rfl) rfl rfl ?_
        refine g_istore 263 (gd rfl) rfl (Nat.le_of_ble_eq_true rfl) ?_
        exact gg_w (by first | exact Nat.le_add_right _ _ | exact gw2 | exact gw3 | exact gwe rfl | exact gwf rfl | exact gwg rfl | exact gwh rfl | omega) (gg_f (gf_cons rfl (gf_cons rfl (gf_cons rfl (gf_cons rfl (gf_cons rfl (gf_cons rfl (gf_cons rfl gf_nil))))))) (ct263 161 sc209 y209_4 (Int64.ofInt 0) (Int32.ofInt 0) hIc209 hFc209 (in_w 0 31 j209_1 rfl) (in_w 0 31 j209_2 rfl) (in_w 0 200000000 j209_3 rfl) (in_w 0 1 j209_4 rfl) (in_w 0 160 (in_c 0 rfl) rfl) (m_in 161 (in_w 0 160 (in_c 0 rfl) rfl) rfl)))
      · skip
        have i215 := r_lt1 0 31 c215 j209_5 ro_109_20 rfl
        have i215a := r_lt2 1 32 c215 j209_5 ro_109_20 rfl
        refine g_iload 220 (gd rfl) rfl rfl ?_
        refine g_if_eq 223 257 (gd rfl) rfl rfl (fun c220 => ?_) (fun c220 => ?_)
        · skip
          have i220 := z_eq 0 0 c220 j209_4 rfl
          refine g_lconst 0 258 (gd rfl) rfl rfl ?_
          refine g_lstore 260 (gd rfl) rfl (Nat.le_of_ble_eq_true rfl) ?_
          refine g_iconst 0 261 (gd rfl) rfl rfl ?_
          refine g_istore 263 (gd rfl) rfl (Nat.le_of_ble_eq_true rfl) ?_
          exact gg_w (by first | exact Nat.le_add_right _ _ | exact gw2 | exact gw3 | exact gwe rfl | exact gwf rfl | exact gwg rfl | exact gwh rfl | omega) (gg_f (gf_cons rfl (gf_cons rfl (gf_cons rfl (gf_cons rfl (gf_cons rfl (gf_cons rfl (gf_cons rfl gf_nil))))))) (ct263 161 sc209 y209_4 (Int64.ofInt 0) (Int32.ofInt 0) hIc209 hFc209 (in_w 0 31 j209_1 rfl) (in_w 0 31 j209_2 rfl) (in_w 0 200000000 j209_3 rfl) (in_w 0 1 i220 rfl) (in_w 0 160 (in_c 0 rfl) rfl) (m_in 161 (in_w 0 160 (in_c 0 rfl) rfl) rfl)))
        · skip
          have i220 := z_ne 1 1 c220 j209_4 rfl
          have n223 : (y209_5).toInt < (u_109_20).toInt := by have a0 := in_u j209_2; have a1 := in_u j209_1; have a2 := in_u i215a; have a3 := in_u ro_109_19; have a4 := in_u i215; have a5 := in_u i220; have a6 := in_u j209_3; omega
          have n223a : CO sc209 := by first | exact p243c | exact g209_0
          have n223b : SU sc209 := by first | exact p243d | exact g209_1
          have m223 : 2 * (sc209.2.1 150 (y209_5).toNatClampNeg).toInt.toNat + (y209_4).toInt.toNat < 1200000003 := by have hv := nat_in (n := (sc209.2.2.1 109 20).toInt) i215 (by rw [hFc209.2.2.1 109 20 rfl, ← e_109_20]; have a0 := in_u j209_2; have a1 := in_u j209_1; have a2 := in_u i215a; have a3 := in_u ro_109_19; have a4 := in_u i215; have a5 := in_u i220; have a6 := in_u j209_3; omega); have h := n223b _ hv.1 hv.2; have a0 := in_u j209_2; have a1 := in_u j209_1; have a2 := in_u i215a; have a3 := in_u ro_109_19; have a4 := in_u i215; have a5 := in_u i220; have a6 := in_u j209_3; omega
          exact gg_w (by first | exact Nat.le_add_right _ _ | exact gw2 | exact gw3 | exact gwe rfl | exact gwf rfl | exact gwg rfl | exact gwh rfl | omega) (gg_f (gf_cons rfl (gf_cons rfl (gf_cons rfl (gf_cons rfl (gf_cons rfl (gf_cons rfl gf_nil)))))) (ct223 (1200000003) sc209 y209_4 hIc209 hFc209 (in_w 0 1 i220 rfl) (in_w 0 31 i215 rfl) n223 n223a n223b m223))
  have ct87 : ∀ (k87 : Nat) (sc87 : GS) (y87_4 : Int32), Inv sc87 → Fr fm_357 s sc87 → (In x1 0 31) → (In x2 0 31) → (In x3 0 200000000) → (In y87_4 0 160) → (IFQ s (sc87.2.1 147) (y87_4).toNatClampNeg) → (SB (200000000 + 2000000 * (y87_4).toInt) s (sc87.2.1 150)) → 160 - (y87_4).toInt < (k87 : Int) → GG Z (d - 1) 357 post (gx xp) (35640000323136 + k87 * 900) 87 (fun j => xlook j [(0, .ref (A 109)), (1, .int x1), (2, .int x2), (3, .int x3), (4, .int y87_4)]) [] (WW Z A sc87 ++ ex) 0 0 := by
    intro k87
    induction k87 with
    | zero => intro sc87 y87_4 hIc87 hFc87 j87_1 j87_2 j87_3 j87_4 g87_0 g87_1 mm87; exact m_no mm87 j87_4 rfl
    | succ k87 ih87 =>
      intro sc87 y87_4 hIc87 hFc87 j87_1 j87_2 j87_3 j87_4 g87_0 g87_1 mm87
      refine gg_w (M := 35640000323136 + k87 * 900 + 900) gws ?_
      refine g_iload 89 (gd rfl) rfl rfl ?_
      refine g_sipush 160 92 (gd rfl) rfl rfl ?_
      refine g_cmp_ge 95 203 (gd rfl) rfl rfl (fun c92 => ?_) (fun c92 => ?_)
      · skip
        have i92 := r_le2 160 160 c92 (in_c 160 rfl) j87_4 rfl
        refine g_iconst 1 204 (gd rfl) rfl rfl ?_
        refine g_istore 206 (gd rfl) rfl (Nat.le_of_ble_eq_true rfl) ?_
        refine g_iconst 0 207 (gd rfl) rfl rfl ?_
        refine g_istore 209 (gd rfl) rfl (Nat.le_of_ble_eq_true rfl) ?_
        have n209 : CO sc87 := by first | exact g223_0 | exact g209_0 | exact co_0 hI ⟨hFc87.1 112 rfl, hFc87.1 113 rfl, hFc87.1 114 rfl, hFc87.1 115 rfl, hFc87.1 116 rfl, hFc87.2.2.1 109 19 rfl⟩ (by have h := g87_0; rw [show y87_4.toNatClampNeg = 160 from (by show y87_4.toInt.toNat = 160; have a0 := in_u j87_2; have a1 := in_u j87_1; have a2 := in_u ro_109_20; have a3 := in_u ro_109_19; have a4 := in_u i92; have a5 := in_u ((in_c 0 rfl)); have a6 := in_u ((in_c 1 rfl)); have a7 := in_u j87_3; omega)] at h; exact h)
        have n209a : SU sc87 := by first | exact g223_1 | exact g209_1 | exact fun v hv hn => sb_w g87_1 (by have a0 := in_u j87_2; have a1 := in_u j87_1; have a2 := in_u ro_109_20; have a3 := in_u ro_109_19; have a4 := in_u i92; have a5 := in_u ((in_c 0 rfl)); have a6 := in_u ((in_c 1 rfl)); have a7 := in_u j87_3; omega) v hv (by rw [← hFc87.2.2.1 109 20 rfl]; exact hn)
        exact gg_w (by first | exact Nat.le_add_right _ _ | exact gw2 | exact gw3 | exact gwe rfl | exact gwf rfl | exact gwg rfl | exact gwh rfl | omega) (gg_f (gf_cons rfl (gf_cons rfl (gf_cons rfl (gf_cons rfl (gf_cons rfl (gf_cons rfl gf_nil)))))) (ct209 33 sc87 (Int32.ofInt 1) (Int32.ofInt 0) hIc87 hFc87 (in_w 0 31 j87_1 rfl) (in_w 0 31 j87_2 rfl) (in_w 0 200000000 j87_3 rfl) (in_w 0 1 (in_c 1 rfl) rfl) (in_w 0 32 (in_c 0 rfl) rfl) n209 n209a (m_in 33 (in_w 0 32 (in_c 0 rfl) rfl) rfl)))
      · skip
        have i92 := r_lt1 0 159 c92 j87_4 (in_c 160 rfl) rfl
        refine g_aload_n 96 (gd rfl) rfl rfl ?_
        refine g_getI 99 (gd rfl) rfl rfl rfl (fun z96 e96 => ?_)
        have q96 : u_109_19 = z96 := (fr_F e_109_19 hFc87 rfl).trans e96.symm
        subst q96
        refine g_iload 101 (gd rfl) rfl rfl ?_
        refine g_iadd 102 (gd rfl) rfl (fun z101 e101 => ?_)
        have i101 := in_add 0 319 e101 ro_109_19 i92 rfl rfl
        refine g_istore 104 (gd rfl) rfl (Nat.le_of_ble_eq_true rfl) ?_
        refine g_aload_n 105 (gd rfl) rfl rfl ?_
        refine g_getA (q2 := 147) 108 (gd rfl) rfl rfl rfl rfl ?_
        refine g_iload 110 (gd rfl) rfl rfl ?_
        refine g_aload_n 111 (gd rfl) rfl rfl ?_
        refine g_getA (q2 := 112) 114 (gd rfl) rfl rfl rfl rfl ?_
        refine g_iload 116 (gd rfl) rfl rfl ?_
        refine g_baload 117 (gd rfl) rfl (n := 480) rfl (in_ix i101 rfl) (fun z116 e116 => ?_)
        have i116 := inv_I hIc87 (n := 480) (t := 3) 0 1 rfl (in_ix i101 rfl) rfl e116
        refine g_if_eq 120 141 (gd rfl) rfl rfl (fun c117 => ?_) (fun c117 => ?_)
        · skip
          have i117 := z_eq 0 0 c117 i116 rfl
          refine g_lconst 0 142 (gd rfl) rfl rfl ?_
          refine g_lastore 143 (gd rfl) rfl (n := 160) rfl (in_ix i92 rfl) ?_
          have hI142 := inv_sL (q := 147) (j := y87_4.toNatClampNeg) (x := (Int64.ofInt 0)) hIc87 rfl (l_rng (Int64.ofInt 0))
          refine g_aload_n 144 (gd rfl) rfl rfl ?_
          refine g_getA (q2 := 112) 147 (gd rfl) rfl rfl rfl rfl ?_
          refine g_iload 149 (gd rfl) rfl rfl ?_
          refine g_baload 150 (gd rfl) rfl (n := 480) rfl (in_ix i101 rfl) (fun z149 e149 => ?_)
          have q149 : z116 = z149 := (sL_I (e116)).trans e149.symm
          subst q149
          refine g_if_eq 153 197 (gd rfl) rfl rfl (fun c150 => ?_) (fun c150 => ?_)
          · skip
            refine g_iinc 200 (gd rfl) rfl rfl (Nat.le_of_ble_eq_true rfl) (fun z197 e197 => ?_)
            have i197 := in_add 1 160 e197 i92 (in_c 1 rfl) rfl rfl
            refine g_goto 87 (gd rfl) rfl ?_
            have n87 : IFQ s ((sL sc87 147 y87_4.toNatClampNeg (Int64.ofInt 0)).2.1 147) (z197).toNatClampNeg := by (rw [show ((sL sc87 147 y87_4.toNatClampNeg (Int64.ofInt 0))).2.1 147 = vp_updL (sc87.2.1 147) y87_4.toNatClampNeg (Int64.ofInt 0) from (by simp [sL]), show z197.toNatClampNeg = y87_4.toNatClampNeg + 1 from (by show z197.toInt.toNat = y87_4.toInt.toNat + 1; have a0 := in_u j87_2; have a1 := in_u j87_1; have a2 := in_u ro_109_20; have a3 := in_u ro_109_19; have a4 := in_u i92; have a5 := in_u i101; have a6 := t_add e101 ro_109_19 i92 rfl; have a7 := in_u i197; have a8 := t_add e197 i92 (in_c 1 rfl) rfl; have a9 := in_u ((in_c 1 rfl)); have a10 := in_u j87_3; omega)]; exact ifq_s g87_0 (fun ht => absurd (by rw [(bs_x (x := z101) (a := y87_4) e_109_19 (by have a0 := in_u j87_2; have a1 := in_u j87_1; have a2 := in_u ro_109_20; have a3 := in_u ro_109_19; have a4 := in_u i92; have a5 := in_u i101; have a6 := t_add e101 ro_109_19 i92 rfl; have a7 := in_u i197; have a8 := t_add e197 i92 (in_c 1 rfl) rfl; have a9 := in_u ((in_c 1 rfl)); have a10 := in_u j87_3; omega) (by have a0 := in_u j87_2; have a1 := in_u j87_1; have a2 := in_u ro_109_20; have a3 := in_u ro_109_19; have a4 := in_u i92; have a5 := in_u i101; have a6 := t_add e101 ro_109_19 i92 rfl; have a7 := in_u i197; have a8 := t_add e197 i92 (in_c 1 rfl) rfl; have a9 := in_u ((in_c 1 rfl)); have a10 := in_u j87_3; omega) (by have a0 := in_u j87_2; have a1 := in_u j87_1; have a2 := in_u ro_109_20; have a3 := in_u ro_109_19; have a4 := in_u i92; have a5 := in_u i101; have a6 := t_add e101 ro_109_19 i92 rfl; have a7 := in_u i197; have a8 := t_add e197 i92 (in_c 1 rfl) rfl; have a9 := in_u ((in_c 1 rfl)); have a10 := in_u j87_3; omega)), ← hFc87.1 112 rfl, ← e116]; exact c117) ht))
            have n87a : SB (200000000 + 2000000 * (z197).toInt) s ((sL sc87 147 y87_4.toNatClampNeg (Int64.ofInt 0)).2.1 150) := by (rw [show ((sL sc87 147 y87_4.toNatClampNeg (Int64.ofInt 0))).2.1 150 = sc87.2.1 150 from (by simp [sL])]; exact sb_w g87_1 (by have a0 := in_u j87_2; have a1 := in_u j87_1; have a2 := in_u ro_109_20; have a3 := in_u ro_109_19; have a4 := in_u i92; have a5 := in_u i101; have a6 := t_add e101 ro_109_19 i92 rfl; have a7 := in_u i197; have a8 := t_add e197 i92 (in_c 1 rfl) rfl; have a9 := in_u ((in_c 1 rfl)); have a10 := in_u j87_3; omega))
            exact gg_w (by first | exact Nat.le_add_right _ _ | exact gw2 | exact gw3 | exact gwe rfl | exact gwf rfl | exact gwg rfl | exact gwh rfl | omega) (gg_f (gf_cons rfl (gf_cons rfl (gf_cons rfl (gf_cons rfl (gf_cons rfl gf_nil))))) (ih87 (sL sc87 147 y87_4.toNatClampNeg (Int64.ofInt 0)) z197 hI142 (fr_sL rfl hFc87) (in_w 0 31 j87_1 rfl) (in_w 0 31 j87_2 rfl) (in_w 0 200000000 j87_3 rfl) (in_w 0 160 i197 rfl) n87 n87a (m_up mm87 (t_add e197 i92 (in_c 1 rfl) rfl) (in_w 1 1 (in_c 1 rfl) rfl))))
          · skip
            exact zn_ne c150 i117 rfl
        · skip
          have i117 := z_ne 1 1 c117 i116 rfl
          refine g_aload_n 121 (gd rfl) rfl rfl ?_
          refine g_getA (q2 := 115) 124 (gd rfl) rfl rfl rfl rfl ?_
          refine g_iload 126 (gd rfl) rfl rfl ?_
          refine g_iaload 127 (gd rfl) rfl (n := 480) rfl (in_ix i101 rfl) (fun z126 e126 => ?_)
          have i126 := inv_I hIc87 (n := 480) (t := 0) (-1000000) 1000000 rfl (in_ix i101 rfl) rfl e126
          refine g_if_ge 130 141 (gd rfl) rfl rfl (fun c127 => ?_) (fun c127 => ?_)
          · skip
            have i127 := z_ge 0 1000000 c127 i126 rfl
            refine g_lconst 0 142 (gd rfl) rfl rfl ?_
            refine g_lastore 143 (gd rfl) rfl (n := 160) rfl (in_ix i92 rfl) ?_
            have hI142 := inv_sL (q := 147) (j := y87_4.toNatClampNeg) (x := (Int64.ofInt 0)) hIc87 rfl (l_rng (Int64.ofInt 0))
            refine g_aload_n 144 (gd rfl) rfl rfl ?_
            refine g_getA (q2 := 112) 147 (gd rfl) rfl rfl rfl rfl ?_
            refine g_iload 149 (gd rfl) rfl rfl ?_
            refine g_baload 150 (gd rfl) rfl (n := 480) rfl (in_ix i101 rfl) (fun z149 e149 => ?_)
            have q149 : z116 = z149 := (sL_I (e116)).trans e149.symm
            subst q149
            refine g_if_eq 153 197 (gd rfl) rfl rfl (fun c150 => ?_) (fun c150 => ?_)
            · skip
              exact zn_eq c150 i117 rfl
            · skip
              refine g_aload_n 154 (gd rfl) rfl rfl ?_
              refine g_getA (q2 := 150) 157 (gd rfl) rfl rfl rfl rfl ?_
              refine g_aload_n 158 (gd rfl) rfl rfl ?_
              refine g_getA (q2 := 113) 161 (gd rfl) rfl rfl rfl rfl ?_
              refine g_iload 163 (gd rfl) rfl rfl ?_
              refine g_iaload 164 (gd rfl) rfl (n := 480) rfl (in_ix i101 rfl) (fun z163 e163 => ?_)
              have i163 := inv_I hI142 (n := 480) (t := 0) 0 31 rfl (in_ix i101 rfl) rfl e163
              refine g_dup2 165 (gd rfl) rfl rfl rfl ?_
              refine g_laload 166 (gd rfl) rfl (n := 32) rfl (in_ix i163 rfl) (fun z165 e165 => ?_)
              refine g_aload_n 167 (gd rfl) rfl rfl ?_
              refine g_getA (q2 := 147) 170 (gd rfl) rfl rfl rfl rfl ?_
              refine g_iload 172 (gd rfl) rfl rfl ?_
              refine g_laload 173 (gd rfl) rfl (n := 160) rfl (in_ix i92 rfl) (fun z172 e172 => ?_)
              refine g_lsub 174 (gd rfl) rfl (fun z173 e173 => ?_)
              refine g_lastore 175 (gd rfl) rfl (n := 32) rfl (in_ix i163 rfl) ?_
              have hI174 := inv_sL (q := 150) (j := z163.toNatClampNeg) (x := z173) hI142 rfl (l_rng z173)
              refine g_aload_n 176 (gd rfl) rfl rfl ?_
              refine g_getA (q2 := 150) 179 (gd rfl) rfl rfl rfl rfl ?_
              refine g_aload_n 180 (gd rfl) rfl rfl ?_
              refine g_getA (q2 := 114) 183 (gd rfl) rfl rfl rfl rfl ?_
              refine g_iload 185 (gd rfl) rfl rfl ?_
              refine g_iaload 186 (gd rfl) rfl (n := 480) rfl (in_ix i101 rfl) (fun z185 e185 => ?_)
              have i185 := inv_I hI174 (n := 480) (t := 0) 0 31 rfl (in_ix i101 rfl) rfl e185
              refine g_dup2 187 (gd rfl) rfl rfl rfl ?_
              refine g_laload 188 (gd rfl) rfl (n := 32) rfl (in_ix i185 rfl) (fun z187 e187 => ?_)
              refine g_aload_n 189 (gd rfl) rfl rfl ?_
              refine g_getA (q2 := 147) 192 (gd rfl) rfl rfl rfl rfl ?_
              refine g_iload 194 (gd rfl) rfl rfl ?_
              refine g_laload 195 (gd rfl) rfl (n := 160) rfl (in_ix i92 rfl) (fun z194 e194 => ?_)
              refine g_ladd 196 (gd rfl) rfl (fun z195 e195 => ?_)
              refine g_lastore 197 (gd rfl) rfl (n := 32) rfl (in_ix i185 rfl) ?_
              have hI196 := inv_sL (q := 150) (j := z185.toNatClampNeg) (x := z195) hI174 rfl (l_rng z195)
              refine g_iinc 200 (gd rfl) rfl rfl (Nat.le_of_ble_eq_true rfl) (fun z197 e197 => ?_)
              have i197 := in_add 1 160 e197 i92 (in_c 1 rfl) rfl rfl
              refine g_goto 87 (gd rfl) rfl ?_
              have n87 : IFQ s ((sL (sL (sL sc87 147 y87_4.toNatClampNeg (Int64.ofInt 0)) 150 z163.toNatClampNeg z173) 150 z185.toNatClampNeg z195).2.1 147) (z197).toNatClampNeg := by (rw [show ((sL (sL (sL sc87 147 y87_4.toNatClampNeg (Int64.ofInt 0)) 150 z163.toNatClampNeg z173) 150 z185.toNatClampNeg z195)).2.1 147 = vp_updL (sc87.2.1 147) y87_4.toNatClampNeg (Int64.ofInt 0) from (by simp [sL]), show z197.toNatClampNeg = y87_4.toNatClampNeg + 1 from (by show z197.toInt.toNat = y87_4.toInt.toNat + 1; have a0 := in_u j87_2; have a1 := in_u j87_1; have a2 := in_u ro_109_20; have a3 := in_u ro_109_19; have a4 := in_u i92; have a5 := in_u i101; have a6 := t_add e101 ro_109_19 i92 rfl; have a7 := in_u i197; have a8 := t_add e197 i92 (in_c 1 rfl) rfl; have a9 := in_u ((in_c 1 rfl)); have a10 := in_u j87_3; omega)]; exact ifq_s g87_0 (fun _ => by rw [(bs_x (x := z101) (a := y87_4) e_109_19 (by have a0 := in_u j87_2; have a1 := in_u j87_1; have a2 := in_u ro_109_20; have a3 := in_u ro_109_19; have a4 := in_u i92; have a5 := in_u i101; have a6 := t_add e101 ro_109_19 i92 rfl; have a7 := in_u i197; have a8 := t_add e197 i92 (in_c 1 rfl) rfl; have a9 := in_u ((in_c 1 rfl)); have a10 := in_u j87_3; omega) (by have a0 := in_u j87_2; have a1 := in_u j87_1; have a2 := in_u ro_109_20; have a3 := in_u ro_109_19; have a4 := in_u i92; have a5 := in_u i101; have a6 := t_add e101 ro_109_19 i92 rfl; have a7 := in_u i197; have a8 := t_add e197 i92 (in_c 1 rfl) rfl; have a9 := in_u ((in_c 1 rfl)); have a10 := in_u j87_3; omega) (by have a0 := in_u j87_2; have a1 := in_u j87_1; have a2 := in_u ro_109_20; have a3 := in_u ro_109_19; have a4 := in_u i92; have a5 := in_u i101; have a6 := t_add e101 ro_109_19 i92 rfl; have a7 := in_u i197; have a8 := t_add e197 i92 (in_c 1 rfl) rfl; have a9 := in_u ((in_c 1 rfl)); have a10 := in_u j87_3; omega)), if_neg (by rw [← hFc87.1 115 rfl, ← e126]; have h := c127; omega)]; rfl))
              have n87a : SB (200000000 + 2000000 * (z197).toInt) s ((sL (sL (sL sc87 147 y87_4.toNatClampNeg (Int64.ofInt 0)) 150 z163.toNatClampNeg z173) 150 z185.toNatClampNeg z195).2.1 150) := by (rw [show ((sL (sL (sL sc87 147 y87_4.toNatClampNeg (Int64.ofInt 0)) 150 z163.toNatClampNeg z173) 150 z185.toNatClampNeg z195)).2.1 150 = vp_updL (vp_updL (sc87.2.1 150) z163.toNatClampNeg z173) z185.toNatClampNeg z195 from (by simp [sL]), show ((200000000 + 2000000 * (z197).toInt : Int)) = 200000000 + 2000000 * (y87_4).toInt + 2000000 from (by have a0 := in_u j87_2; have a1 := in_u j87_1; have a2 := in_u ro_109_20; have a3 := in_u ro_109_19; have a4 := in_u i92; have a5 := in_u i101; have a6 := t_add e101 ro_109_19 i92 rfl; have a7 := in_u i197; have a8 := t_add e197 i92 (in_c 1 rfl) rfl; have a9 := in_u ((in_c 1 rfl)); have a10 := in_u j87_3; omega)]; exact sb_2 (w := (Int64.ofInt 0)) g87_1 (by have a0 := in_u j87_2; have a1 := in_u j87_1; have a2 := in_u ro_109_20; have a3 := in_u ro_109_19; have a4 := in_u i92; have a5 := in_u i101; have a6 := t_add e101 ro_109_19 i92 rfl; have a7 := in_u i197; have a8 := t_add e197 i92 (in_c 1 rfl) rfl; have a9 := in_u ((in_c 1 rfl)); have a10 := in_u j87_3; omega) (by have a0 := in_u j87_2; have a1 := in_u j87_1; have a2 := in_u ro_109_20; have a3 := in_u ro_109_19; have a4 := in_u i92; have a5 := in_u i101; have a6 := t_add e101 ro_109_19 i92 rfl; have a7 := in_u i197; have a8 := t_add e197 i92 (in_c 1 rfl) rfl; have a9 := in_u ((in_c 1 rfl)); have a10 := in_u j87_3; omega) ⟨by decide, by decide⟩ (by rw [e165]; simp [sL]) e173 (by rw [e172]; simp [sL, vp_updL]) (by rw [e187]; simp [sL]) e195 (by rw [e194]; simp [sL, vp_updL]))
              exact gg_w (by first | exact Nat.le_add_right _ _ | exact gw2 | exact gw3 | exact gwe rfl | exact gwf rfl | exact gwg rfl | exact gwh rfl | omega) (gg_f (gf_cons rfl (gf_cons rfl (gf_cons rfl (gf_cons rfl (gf_cons rfl gf_nil))))) (ih87 (sL (sL (sL sc87 147 y87_4.toNatClampNeg (Int64.ofInt 0)) 150 z163.toNatClampNeg z173) 150 z185.toNatClampNeg z195) z197 hI196 (fr_sL rfl (fr_sL rfl (fr_sL rfl hFc87))) (in_w 0 31 j87_1 rfl) (in_w 0 31 j87_2 rfl) (in_w 0 200000000 j87_3 rfl) (in_w 0 160 i197 rfl) n87 n87a (m_up mm87 (t_add e197 i92 (in_c 1 rfl) rfl) (in_w 1 1 (in_c 1 rfl) rfl))))
          · skip
            have i127 := z_lt (-1000000) (-1) c127 i126 rfl
            refine g_aload_n 131 (gd rfl) rfl rfl ?_
            refine g_getA (q2 := 116) 134 (gd rfl) rfl rfl rfl rfl ?_
            refine g_iload 136 (gd rfl) rfl rfl ?_
            refine g_iaload 137 (gd rfl) rfl (n := 480) rfl (in_ix i101 rfl) (fun z136 e136 => ?_)
            have i136 := inv_I hIc87 (n := 480) (t := 0) 0 1000000 rfl (in_ix i101 rfl) rfl e136
            refine g_i2l 138 (gd rfl) rfl (fun z137 e137 => ?_)
            have i137 := l_i e137 i136
            refine g_goto 142 (gd rfl) rfl ?_
            refine g_lastore 143 (gd rfl) rfl (n := 160) rfl (in_ix i92 rfl) ?_
            have hI142 := inv_sL (q := 147) (j := y87_4.toNatClampNeg) (x := z137) hIc87 rfl (l_rng z137)
            refine g_aload_n 144 (gd rfl) rfl rfl ?_
            refine g_getA (q2 := 112) 147 (gd rfl) rfl rfl rfl rfl ?_
            refine g_iload 149 (gd rfl) rfl rfl ?_
            refine g_baload 150 (gd rfl) rfl (n := 480) rfl (in_ix i101 rfl) (fun z149 e149 => ?_)
            have q149 : z116 = z149 := (sL_I (e116)).trans e149.symm
            subst q149
            refine g_if_eq 153 197 (gd rfl) rfl rfl (fun c150 => ?_) (fun c150 => ?_)
            · skip
              exact zn_eq c150 i117 rfl
            · skip
              refine g_aload_n 154 (gd rfl) rfl rfl ?_
              refine g_getA (q2 := 150) 157 (gd rfl) rfl rfl rfl rfl ?_
              refine g_aload_n 158 (gd rfl) rfl rfl ?_
              refine g_getA (q2 := 113) 161 (gd rfl) rfl rfl rfl rfl ?_
              refine g_iload 163 (gd rfl) rfl rfl ?_
              refine g_iaload 164 (gd rfl) rfl (n := 480) rfl (in_ix i101 rfl) (fun z163 e163 => ?_)
              have i163 := inv_I hI142 (n := 480) (t := 0) 0 31 rfl (in_ix i101 rfl) rfl e163
              refine g_dup2 165 (gd rfl) rfl rfl rfl ?_
              refine g_laload 166 (gd rfl) rfl (n := 32) rfl (in_ix i163 rfl) (fun z165 e165 => ?_)
              refine g_aload_n 167 (gd rfl) rfl rfl ?_
              refine g_getA (q2 := 147) 170 (gd rfl) rfl rfl rfl rfl ?_
              refine g_iload 172 (gd rfl) rfl rfl ?_
              refine g_laload 173 (gd rfl) rfl (n := 160) rfl (in_ix i92 rfl) (fun z172 e172 => ?_)
              refine g_lsub 174 (gd rfl) rfl (fun z173 e173 => ?_)
              refine g_lastore 175 (gd rfl) rfl (n := 32) rfl (in_ix i163 rfl) ?_
              have hI174 := inv_sL (q := 150) (j := z163.toNatClampNeg) (x := z173) hI142 rfl (l_rng z173)
              refine g_aload_n 176 (gd rfl) rfl rfl ?_
              refine g_getA (q2 := 150) 179 (gd rfl) rfl rfl rfl rfl ?_
              refine g_aload_n 180 (gd rfl) rfl rfl ?_
              refine g_getA (q2 := 114) 183 (gd rfl) rfl rfl rfl rfl ?_
              refine g_iload 185 (gd rfl) rfl rfl ?_
              refine g_iaload 186 (gd rfl) rfl (n := 480) rfl (in_ix i101 rfl) (fun z185 e185 => ?_)
              have i185 := inv_I hI174 (n := 480) (t := 0) 0 31 rfl (in_ix i101 rfl) rfl e185
              refine g_dup2 187 (gd rfl) rfl rfl rfl ?_
              refine g_laload 188 (gd rfl) rfl (n := 32) rfl (in_ix i185 rfl) (fun z187 e187 => ?_)
              refine g_aload_n 189 (gd rfl) rfl rfl ?_
              refine g_getA (q2 := 147) 192 (gd rfl) rfl rfl rfl rfl ?_
              refine g_iload 194 (gd rfl) rfl rfl ?_
              refine g_laload 195 (gd rfl) rfl (n := 160) rfl (in_ix i92 rfl) (fun z194 e194 => ?_)
              refine g_ladd 196 (gd rfl) rfl (fun z195 e195 => ?_)
              refine g_lastore 197 (gd rfl) rfl (n := 32) rfl (in_ix i185 rfl) ?_
              have hI196 := inv_sL (q := 150) (j := z185.toNatClampNeg) (x := z195) hI174 rfl (l_rng z195)
              refine g_iinc 200 (gd rfl) rfl rfl (Nat.le_of_ble_eq_true rfl) (fun z197 e197 => ?_)
              have i197 := in_add 1 160 e197 i92 (in_c 1 rfl) rfl rfl
              refine g_goto 87 (gd rfl) rfl ?_
              have n87 : IFQ s ((sL (sL (sL sc87 147 y87_4.toNatClampNeg z137) 150 z163.toNatClampNeg z173) 150 z185.toNatClampNeg z195).2.1 147) (z197).toNatClampNeg := by (rw [show ((sL (sL (sL sc87 147 y87_4.toNatClampNeg z137) 150 z163.toNatClampNeg z173) 150 z185.toNatClampNeg z195)).2.1 147 = vp_updL (sc87.2.1 147) y87_4.toNatClampNeg z137 from (by simp [sL]), show z197.toNatClampNeg = y87_4.toNatClampNeg + 1 from (by show z197.toInt.toNat = y87_4.toInt.toNat + 1; have a0 := in_u j87_2; have a1 := in_u j87_1; have a2 := in_u ro_109_20; have a3 := in_u ro_109_19; have a4 := in_u i92; have a5 := in_u i101; have a6 := t_add e101 ro_109_19 i92 rfl; have a7 := in_u i197; have a8 := t_add e197 i92 (in_c 1 rfl) rfl; have a9 := in_u ((in_c 1 rfl)); have a10 := in_u j87_3; have a11 := tx_i2l e137; have a12 := in_u i136; omega)]; exact ifq_s g87_0 (fun _ => by rw [(bs_x (x := z101) (a := y87_4) e_109_19 (by have a0 := in_u j87_2; have a1 := in_u j87_1; have a2 := in_u ro_109_20; have a3 := in_u ro_109_19; have a4 := in_u i92; have a5 := in_u i101; have a6 := t_add e101 ro_109_19 i92 rfl; have a7 := in_u i197; have a8 := t_add e197 i92 (in_c 1 rfl) rfl; have a9 := in_u ((in_c 1 rfl)); have a10 := in_u j87_3; have a11 := tx_i2l e137; have a12 := in_u i136; omega) (by have a0 := in_u j87_2; have a1 := in_u j87_1; have a2 := in_u ro_109_20; have a3 := in_u ro_109_19; have a4 := in_u i92; have a5 := in_u i101; have a6 := t_add e101 ro_109_19 i92 rfl; have a7 := in_u i197; have a8 := t_add e197 i92 (in_c 1 rfl) rfl; have a9 := in_u ((in_c 1 rfl)); have a10 := in_u j87_3; have a11 := tx_i2l e137; have a12 := in_u i136; omega) (by have a0 := in_u j87_2; have a1 := in_u j87_1; have a2 := in_u ro_109_20; have a3 := in_u ro_109_19; have a4 := in_u i92; have a5 := in_u i101; have a6 := t_add e101 ro_109_19 i92 rfl; have a7 := in_u i197; have a8 := t_add e197 i92 (in_c 1 rfl) rfl; have a9 := in_u ((in_c 1 rfl)); have a10 := in_u j87_3; have a11 := tx_i2l e137; have a12 := in_u i136; omega)), if_pos (by rw [← hFc87.1 115 rfl, ← e126]; have h := c127; omega), ← hFc87.1 116 rfl, ← e136]; exact tx_i2l e137))
              have n87a : SB (200000000 + 2000000 * (z197).toInt) s ((sL (sL (sL sc87 147 y87_4.toNatClampNeg z137) 150 z163.toNatClampNeg z173) 150 z185.toNatClampNeg z195).2.1 150) := by (rw [show ((sL (sL (sL sc87 147 y87_4.toNatClampNeg z137) 150 z163.toNatClampNeg z173) 150 z185.toNatClampNeg z195)).2.1 150 = vp_updL (vp_updL (sc87.2.1 150) z163.toNatClampNeg z173) z185.toNatClampNeg z195 from (by simp [sL]), show ((200000000 + 2000000 * (z197).toInt : Int)) = 200000000 + 2000000 * (y87_4).toInt + 2000000 from (by have a0 := in_u j87_2; have a1 := in_u j87_1; have a2 := in_u ro_109_20; have a3 := in_u ro_109_19; have a4 := in_u i92; have a5 := in_u i101; have a6 := t_add e101 ro_109_19 i92 rfl; have a7 := in_u i197; have a8 := t_add e197 i92 (in_c 1 rfl) rfl; have a9 := in_u ((in_c 1 rfl)); have a10 := in_u j87_3; have a11 := tx_i2l e137; have a12 := in_u i136; omega)]; exact sb_2 (w := z137) g87_1 (by have a0 := in_u j87_2; have a1 := in_u j87_1; have a2 := in_u ro_109_20; have a3 := in_u ro_109_19; have a4 := in_u i92; have a5 := in_u i101; have a6 := t_add e101 ro_109_19 i92 rfl; have a7 := in_u i197; have a8 := t_add e197 i92 (in_c 1 rfl) rfl; have a9 := in_u ((in_c 1 rfl)); have a10 := in_u j87_3; have a11 := tx_i2l e137; have a12 := in_u i136; omega) (by have a0 := in_u j87_2; have a1 := in_u j87_1; have a2 := in_u ro_109_20; have a3 := in_u ro_109_19; have a4 := in_u i92; have a5 := in_u i101; have a6 := t_add e101 ro_109_19 i92 rfl; have a7 := in_u i197; have a8 := t_add e197 i92 (in_c 1 rfl) rfl; have a9 := in_u ((in_c 1 rfl)); have a10 := in_u j87_3; have a11 := tx_i2l e137; have a12 := in_u i136; omega) ⟨by have h := i137.1; omega, by have h := i137.2; omega⟩ (by rw [e165]; simp [sL]) e173 (by rw [e172]; simp [sL, vp_updL]) (by rw [e187]; simp [sL]) e195 (by rw [e194]; simp [sL, vp_updL]))
              exact gg_w (by first | exact Nat.le_add_right _ _ | exact gw2 | exact gw3 | exact gwe rfl | exact gwf rfl | exact gwg rfl | exact gwh rfl | omega) (gg_f (gf_cons rfl (gf_cons rfl (gf_cons rfl (gf_cons rfl (gf_cons rfl gf_nil))))) (ih87 (sL (sL (sL sc87 147 y87_4.toNatClampNeg z137) 150 z163.toNatClampNeg z173) 150 z185.toNatClampNeg z195) z197 hI196 (fr_sL rfl (fr_sL rfl (fr_sL rfl hFc87))) (in_w 0 31 j87_1 rfl) (in_w 0 31 j87_2 rfl) (in_w 0 200000000 j87_3 rfl) (in_w 0 160 i197 rfl) n87 n87a (m_up mm87 (t_add e197 i92 (in_c 1 rfl) rfl) (in_w 1 1 (in_c 1 rfl) rfl))))
  have ct38 : ∀ (k38 : Nat) (sc38 : GS) (y38_4 : Int32), Inv sc38 → Fr fm_357 s sc38 → (In x1 0 31) → (In x2 0 31) → (In x3 0 200000000) → (In y38_4 0 32) → (∀ k : Nat, (k : Int) < (y38_4).toInt → -200000000 ≤ (sc38.2.1 150 k).toInt ∧ (sc38.2.1 150 k).toInt ≤ 200000000) → 32 - (y38_4).toInt < (k38 : Int) → GG Z (d - 1) 357 post (gx xp) (35640000468037 + k38 * 900) 38 (fun j => xlook j [(0, .ref (A 109)), (1, .int x1), (2, .int x2), (3, .int x3), (4, .int y38_4)]) [] (WW Z A sc38 ++ ex) 0 0 := by
    intro k38
    induction k38 with
    | zero => intro sc38 y38_4 hIc38 hFc38 j38_1 j38_2 j38_3 j38_4 g38_0 mm38; exact m_no mm38 j38_4 rfl
    | succ k38 ih38 =>
      intro sc38 y38_4 hIc38 hFc38 j38_1 j38_2 j38_3 j38_4 g38_0 mm38
      refine gg_w (M := 35640000468037 + k38 * 900 + 900) gws ?_
      refine g_iload 40 (gd rfl) rfl rfl ?_
      refine g_aload_n 41 (gd rfl) rfl rfl ?_
      refine g_getI 44 (gd rfl) rfl rfl rfl (fun z41 e41 => ?_)
      have q41 : u_109_20 = z41 := (fr_F e_109_20 hFc38 rfl).trans e41.symm
      subst q41
      refine g_cmp_ge 47 84 (gd rfl) rfl rfl (fun c44 => ?_) (fun c44 => ?_)
      · skip
        refine g_iconst 0 85 (gd rfl) rfl rfl ?_
        refine g_istore 87 (gd rfl) rfl (Nat.le_of_ble_eq_true rfl) ?_
        have n87 : IFQ s (sc38.2.1 147) ((Int32.ofInt 0)).toNatClampNeg := by exact fun a ha => absurd ha (Nat.not_lt_zero _)
        have n87a : SB (200000000 + 2000000 * ((Int32.ofInt 0)).toInt) s (sc38.2.1 150) := by exact sb_w (B := 200000000) (fun v hv hn => g38_0 v (by rw [← e_109_20] at hn; have a0 := in_u j38_2; have a1 := in_u j38_1; have a2 := in_u ro_109_20; have a3 := in_u ro_109_19; have a4 := in_u j38_4; have a5 := in_u ((in_c 0 rfl)); have a6 := in_u j38_3; omega)) (by have h0 : (Int32.ofInt 0).toInt = 0 := rfl; omega)
        exact gg_w (by first | exact Nat.le_add_right _ _ | exact gw2 | exact gw3 | exact gwe rfl | exact gwf rfl | exact gwg rfl | exact gwh rfl | omega) (gg_f (gf_cons rfl (gf_cons rfl (gf_cons rfl (gf_cons rfl (gf_cons rfl gf_nil))))) (ct87 161 sc38 (Int32.ofInt 0) hIc38 hFc38 (in_w 0 31 j38_1 rfl) (in_w 0 31 j38_2 rfl) (in_w 0 200000000 j38_3 rfl) (in_w 0 160 (in_c 0 rfl) rfl) n87 n87a (m_in 161 (in_w 0 160 (in_c 0 rfl) rfl) rfl)))
      · skip
        have i44 := r_lt1 0 31 c44 j38_4 ro_109_20 rfl
        have i44a := r_lt2 1 32 c44 j38_4 ro_109_20 rfl
        refine g_aload_n 48 (gd rfl) rfl rfl ?_
        refine g_getA (q2 := 150) 51 (gd rfl) rfl rfl rfl rfl ?_
        refine g_iload 53 (gd rfl) rfl rfl ?_
        refine g_iload 55 (gd rfl) rfl rfl ?_
        refine g_iload_n 56 (gd rfl) rfl rfl ?_
        refine g_cmp_ne 59 64 (gd rfl) rfl rfl (fun c56 => ?_) (fun c56 => ?_)
        · skip
          refine g_iload 66 (gd rfl) rfl rfl ?_
          refine g_iload_n 67 (gd rfl) rfl rfl ?_
          refine g_cmp_ne 70 76 (gd rfl) rfl rfl (fun c67 => ?_) (fun c67 => ?_)
          · skip
            refine g_lconst 0 77 (gd rfl) rfl rfl ?_
            refine g_lastore 78 (gd rfl) rfl (n := 32) rfl (in_ix i44 rfl) ?_
            have hI77 := inv_sL (q := 150) (j := y38_4.toNatClampNeg) (x := (Int64.ofInt 0)) hIc38 rfl (l_rng (Int64.ofInt 0))
            refine g_iinc 81 (gd rfl) rfl rfl (Nat.le_of_ble_eq_true rfl) (fun z78 e78 => ?_)
            have i78 := in_add 1 32 e78 i44 (in_c 1 rfl) rfl rfl
            refine g_goto 38 (gd rfl) rfl ?_
            have n38 : ∀ k : Nat, (k : Int) < (z78).toInt → -200000000 ≤ ((sL sc38 150 y38_4.toNatClampNeg (Int64.ofInt 0)).2.1 150 k).toInt ∧ ((sL sc38 150 y38_4.toNatClampNeg (Int64.ofInt 0)).2.1 150 k).toInt ≤ 200000000 := by (intro k hk; have e4 : y38_4.toNatClampNeg = y38_4.toInt.toNat := rfl; rw [show ((sL sc38 150 y38_4.toNatClampNeg (Int64.ofInt 0))).2.1 150 = vp_updL (sc38.2.1 150) y38_4.toNatClampNeg (Int64.ofInt 0) from (by simp [sL])]; by_cases c : k = y38_4.toNatClampNeg; (rw [c, ul_eq]; exact ⟨by decide, by decide⟩); (rw [ul_ne c]; exact g38_0 k (by have a0 := in_u j38_2; have a1 := in_u j38_1; have a2 := in_u i44a; have a3 := in_u ro_109_19; have a4 := in_u i44; have a5 := in_u i78; have a6 := t_add e78 i44 (in_c 1 rfl) rfl; have a7 := in_u ((in_c 1 rfl)); have a8 := in_u j38_3; omega)))
            exact gg_w (by first | exact Nat.le_add_right _ _ | exact gw2 | exact gw3 | exact gwe rfl | exact gwf rfl | exact gwg rfl | exact gwh rfl | omega) (gg_f (gf_cons rfl (gf_cons rfl (gf_cons rfl (gf_cons rfl (gf_cons rfl gf_nil))))) (ih38 (sL sc38 150 y38_4.toNatClampNeg (Int64.ofInt 0)) z78 hI77 (fr_sL rfl hFc38) (in_w 0 31 j38_1 rfl) (in_w 0 31 j38_2 rfl) (in_w 0 200000000 j38_3 rfl) (in_w 0 32 i78 rfl) n38 (m_up mm38 (t_add e78 i44 (in_c 1 rfl) rfl) (in_w 1 1 (in_c 1 rfl) rfl))))
          · skip
            refine g_iload_n 71 (gd rfl) rfl rfl ?_
            refine g_ineg 72 (gd rfl) rfl (fun z71 e71 => ?_)
            have i71 := in_neg (-200000000) 0 e71 j38_3 rfl
            refine g_i2l 73 (gd rfl) rfl (fun z72 e72 => ?_)
            have i72 := l_i e72 i71
            refine g_goto 77 (gd rfl) rfl ?_
            refine g_lastore 78 (gd rfl) rfl (n := 32) rfl (in_ix i44 rfl) ?_
            have hI77 := inv_sL (q := 150) (j := y38_4.toNatClampNeg) (x := z72) hIc38 rfl (l_rng z72)
            refine g_iinc 81 (gd rfl) rfl rfl (Nat.le_of_ble_eq_true rfl) (fun z78 e78 => ?_)
            have i78 := in_add 1 32 e78 i44 (in_c 1 rfl) rfl rfl
            refine g_goto 38 (gd rfl) rfl ?_
            have n38 : ∀ k : Nat, (k : Int) < (z78).toInt → -200000000 ≤ ((sL sc38 150 y38_4.toNatClampNeg z72).2.1 150 k).toInt ∧ ((sL sc38 150 y38_4.toNatClampNeg z72).2.1 150 k).toInt ≤ 200000000 := by (intro k hk; have e4 : y38_4.toNatClampNeg = y38_4.toInt.toNat := rfl; rw [show ((sL sc38 150 y38_4.toNatClampNeg z72)).2.1 150 = vp_updL (sc38.2.1 150) y38_4.toNatClampNeg z72 from (by simp [sL])]; by_cases c : k = y38_4.toNatClampNeg; (rw [c, ul_eq]; exact ⟨by have h := i72.1; omega, by have h := i72.2; omega⟩); (rw [ul_ne c]; exact g38_0 k (by have a0 := in_u j38_2; have a1 := in_u j38_1; have a2 := in_u i44a; have a3 := in_u ro_109_19; have a4 := in_u i44; have a5 := in_u i78; have a6 := t_add e78 i44 (in_c 1 rfl) rfl; have a7 := in_u ((in_c 1 rfl)); have a8 := in_u j38_3; have a9 := tx_i2l e72; have a10 := in_u i71; omega)))
            exact gg_w (by first | exact Nat.le_add_right _ _ | exact gw2 | exact gw3 | exact gwe rfl | exact gwf rfl | exact gwg rfl | exact gwh rfl | omega) (gg_f (gf_cons rfl (gf_cons rfl (gf_cons rfl (gf_cons rfl (gf_cons rfl gf_nil))))) (ih38 (sL sc38 150 y38_4.toNatClampNeg z72) z78 hI77 (fr_sL rfl hFc38) (in_w 0 31 j38_1 rfl) (in_w 0 31 j38_2 rfl) (in_w 0 200000000 j38_3 rfl) (in_w 0 32 i78 rfl) n38 (m_up mm38 (t_add e78 i44 (in_c 1 rfl) rfl) (in_w 1 1 (in_c 1 rfl) rfl))))
        · skip
          refine g_iload_n 60 (gd rfl) rfl rfl ?_
          refine g_i2l 61 (gd rfl) rfl (fun z60 e60 => ?_)
          have i60 := l_i e60 j38_3
          refine g_goto 77 (gd rfl) rfl ?_
          refine g_lastore 78 (gd rfl) rfl (n := 32) rfl (in_ix i44 rfl) ?_
          have hI77 := inv_sL (q := 150) (j := y38_4.toNatClampNeg) (x := z60) hIc38 rfl (l_rng z60)
          refine g_iinc 81 (gd rfl) rfl rfl (Nat.le_of_ble_eq_true rfl) (fun z78 e78 => ?_)
          have i78 := in_add 1 32 e78 i44 (in_c 1 rfl) rfl rfl
          refine g_goto 38 (gd rfl) rfl ?_
          have n38 : ∀ k : Nat, (k : Int) < (z78).toInt → -200000000 ≤ ((sL sc38 150 y38_4.toNatClampNeg z60).2.1 150 k).toInt ∧ ((sL sc38 150 y38_4.toNatClampNeg z60).2.1 150 k).toInt ≤ 200000000 := by (intro k hk; have e4 : y38_4.toNatClampNeg = y38_4.toInt.toNat := rfl; rw [show ((sL sc38 150 y38_4.toNatClampNeg z60)).2.1 150 = vp_updL (sc38.2.1 150) y38_4.toNatClampNeg z60 from (by simp [sL])]; by_cases c : k = y38_4.toNatClampNeg; (rw [c, ul_eq]; exact ⟨by have h := i60.1; omega, by have h := i60.2; omega⟩); (rw [ul_ne c]; exact g38_0 k (by have a0 := in_u j38_2; have a1 := in_u j38_1; have a2 := in_u i44a; have a3 := in_u ro_109_19; have a4 := in_u i44; have a5 := in_u i78; have a6 := t_add e78 i44 (in_c 1 rfl) rfl; have a7 := in_u ((in_c 1 rfl)); have a8 := in_u j38_3; have a9 := tx_i2l e60; omega)))
          exact gg_w (by first | exact Nat.le_add_right _ _ | exact gw2 | exact gw3 | exact gwe rfl | exact gwf rfl | exact gwg rfl | exact gwh rfl | omega) (gg_f (gf_cons rfl (gf_cons rfl (gf_cons rfl (gf_cons rfl (gf_cons rfl gf_nil))))) (ih38 (sL sc38 150 y38_4.toNatClampNeg z60) z78 hI77 (fr_sL rfl hFc38) (in_w 0 31 j38_1 rfl) (in_w 0 31 j38_2 rfl) (in_w 0 200000000 j38_3 rfl) (in_w 0 32 i78 rfl) n38 (m_up mm38 (t_add e78 i44 (in_c 1 rfl) rfl) (in_w 1 1 (in_c 1 rfl) rfl))))
  refine g_enter2 (k := 357) (N := 35640000498637) (by first | exact dq1 hd rfl | exact dq0 hd rfl | exact dq2 hd rfl | exact dq3 hd rfl | omega) rfl (Nat.le_of_ble_eq_true rfl) ?_
  refine g_aload_n 1 (gd rfl) rfl rfl ?_
  refine g_aload_n 2 (gd rfl) rfl rfl ?_
  refine g_iload_n 3 (gd rfl) rfl rfl ?_
  refine g_iload_n 4 (gd rfl) rfl rfl ?_
  refine g_callv (X := _) (As := [.int x1, .int x2]) (r := [.ref (A 109)]) (b := A 109) (q := 109) 7 (gd rfl) rfl rfl rfl rfl rfl (ww_o rfl) (Nat.le_of_ble_eq_true rfl) (mc := 0) (ms := 0) (Nat.zero_le _) (Nat.zero_le _) (P := fun v u => _) ?_ (fun e u h => h) (fun v u h => h)
  intro po4 xx4 hp4 hx4
  refine g_enter2 (k := 353) (N := 300) (by first | exact dq1 hd rfl | exact dq0 hd rfl | exact dq2 hd rfl | exact dq3 hd rfl | omega) rfl (Nat.le_of_ble_eq_true rfl) ?_
  refine g_aload_n 1 (gd rfl) rfl rfl ?_
  refine g_iload_n 2 (gd rfl) rfl rfl ?_
  refine g_callv (X := _) (As := [.int x1]) (r := []) (b := A 109) (q := 109) 5 (gd rfl) rfl rfl rfl rfl rfl (ww_o rfl) (Nat.le_of_ble_eq_true rfl) (mc := 0) (ms := 0) (Nat.zero_le _) (Nat.zero_le _) (P := fun v u => _) ?_ (fun e u h => h) (fun v u h => h)
  intro po4x2 xx4x2 hp4x2 hx4x2
  refine g_enter2 (k := 272) (N := 300) (by first | exact dq1 hd rfl | exact dq0 hd rfl | exact dq2 hd rfl | exact dq3 hd rfl | omega) rfl (Nat.le_of_ble_eq_true rfl) ?_
  refine g_iload_n 1 (gd rfl) rfl rfl ?_
  refine g_if_lt 4 16 (gd rfl) rfl rfl (fun c4x2x1 => ?_) (fun c4x2x1 => ?_)
  · skip
    have i4x2x1 := z_lt (-2147483648) (-1) c4x2x1 (i_rng x1) rfl
    refine g_iconst 0 17 (gd rfl) rfl rfl ?_
    refine g_ireturn (gd rfl) rfl (nb01 (in_w 0 1 (in_c 0 rfl) rfl)) (hp4x2 _ _ ?_)
    show GG _ _ _ _ _ _ _ _ [.int (Int32.ofInt 0)] _ _ _
    refine g_if_eq 8 25 (gd rfl) rfl rfl (fun c4x5 => ?_) (fun c4x5 => ?_)
    · skip
      refine g_iconst 0 26 (gd rfl) rfl rfl ?_
      refine g_ireturn (gd rfl) rfl (nb01 (in_w 0 1 (in_c 0 rfl) rfl)) (hp4 _ _ ?_)
      show GG _ _ _ _ _ _ _ _ [.int (Int32.ofInt 0), .ref (A 109)] _ _ _
      refine g_if_eq 10 26 (gd rfl) rfl rfl (fun c7 => ?_) (fun c7 => ?_)
      · skip
        refine g_iconst 0 27 (gd rfl) rfl rfl ?_
        refine g_callv (X := _) (As := [.int (Int32.ofInt 0)]) (r := []) (b := A 109) (q := 109) 30 (gd rfl) rfl rfl rfl rfl rfl (ww_o rfl) (Nat.le_of_ble_eq_true rfl) (mc := 0) (ms := 0) (Nat.zero_le _) (Nat.zero_le _) (P := fun v u => _) ?_ (fun e u h => h) (fun v u h => h)
        intro po27 xx27 hp27 hx27
        refine g_enter2 (k := 271) (N := 300) (by first | exact dq1 hd rfl | exact dq0 hd rfl | exact dq2 hd rfl | exact dq3 hd rfl | omega) rfl (Nat.le_of_ble_eq_true rfl) ?_
        refine g_aload_n 1 (gd rfl) rfl rfl ?_
        refine g_iload_n 2 (gd rfl) rfl rfl ?_
        refine g_iconst 1 3 (gd rfl) rfl rfl ?_
        refine g_callv (X := _) (As := [.int (Int32.ofInt 0), .int (Int32.ofInt 1)]) (r := []) (b := A 109) (q := 109) 6 (gd rfl) rfl rfl rfl rfl rfl (ww_o rfl) (Nat.le_of_ble_eq_true rfl) (mc := 0) (ms := 0) (Nat.zero_le _) (Nat.zero_le _) (P := fun v u => _) ?_ (fun e u h => h) (fun v u h => h)
        intro po27x3 xx27x3 hp27x3 hx27x3
        refine g_enter2 (k := 270) (N := 300) (by first | exact dq1 hd rfl | exact dq0 hd rfl | exact dq2 hd rfl | exact dq3 hd rfl | omega) rfl (Nat.le_of_ble_eq_true rfl) ?_
        refine g_aload_n 1 (gd rfl) rfl rfl ?_
        refine g_iload_n 2 (gd rfl) rfl rfl ?_
        refine g_if_ne 5 9 (gd rfl) rfl rfl (fun c27x3x2 => ?_) (fun c27x3x2 => ?_)
        · skip
          exact zn_ne c27x3x2 (in_c 0 rfl) rfl
        · skip
          refine g_iconst 1 6 (gd rfl) rfl rfl ?_
          refine g_goto 18 (gd rfl) rfl ?_
          refine g_putI 21 (gd rfl) rfl rfl rfl rfl ?_
          have hI27x3x18 := inv_sF (q := 109) (j := 0) hI rfl (in_w 0 2 (in_c 1 rfl) rfl)
          refine g_aload_n 22 (gd rfl) rfl rfl ?_
          refine g_getI 25 (gd rfl) rfl rfl rfl (fun z27x3x22 e27x3x22 => ?_)
          have q27x3x22 : (Int32.ofInt 1) = z27x3x22 := (sF_get).trans e27x3x22.symm
          subst q27x3x22
          refine g_if_le 28 32 (gd rfl) rfl rfl (fun c27x3x25 => ?_) (fun c27x3x25 => ?_)
          · skip
            exact zn_le c27x3x25 (in_c 1 rfl) rfl
          · skip
            refine g_iconst 1 29 (gd rfl) rfl rfl ?_
            refine g_goto 33 (gd rfl) rfl ?_
            refine g_ireturn (gd rfl) rfl (nb01 (in_w 0 1 (in_c 1 rfl) rfl)) (hp27x3 _ _ ?_)
            show GG _ _ _ _ _ _ _ _ [.int (Int32.ofInt 1)] _ _ _
            refine g_ireturn (gd rfl) rfl (nb01 (in_w 0 1 (in_c 1 rfl) rfl)) (hp27 _ _ ?_)
            show GG _ _ _ _ _ _ _ _ [.int (Int32.ofInt 1)] _ _ _
            refine g_if_eq 33 35 (gd rfl) rfl rfl (fun c30 => ?_) (fun c30 => ?_)
            · skip
              exact zn_eq c30 (in_c 1 rfl) rfl
            · skip
              refine g_lconst 0 34 (gd rfl) rfl rfl ?_
              exact g_lreturn (gd rfl) rfl (hP _ _ ⟨(sF s 109 0 (Int32.ofInt 1)), hI27x3x18, (fr_sF rfl fr_rf), (Int64.ofInt 0), rfl, rfl⟩)
      · skip
        exact zn_ne c7 (in_c 0 rfl) rfl
    · skip
      exact zn_ne c4x5 (in_c 0 rfl) rfl
  · skip
    have i4x2x1 := z_ge 0 2147483647 c4x2x1 (i_rng x1) rfl
    refine g_iload_n 5 (gd rfl) rfl rfl ?_
    refine g_aload_n 6 (gd rfl) rfl rfl ?_
    refine g_getI 9 (gd rfl) rfl rfl rfl (fun z4x2x6 e4x2x6 => ?_)
    have q4x2x6 : u_109_20 = z4x2x6 := (e_109_20).trans e4x2x6.symm
    subst q4x2x6
    refine g_cmp_ge 12 16 (gd rfl) rfl rfl (fun c4x2x9 => ?_) (fun c4x2x9 => ?_)
    · skip
      refine g_iconst 0 17 (gd rfl) rfl rfl ?_
      refine g_ireturn (gd rfl) rfl (nb01 (in_w 0 1 (in_c 0 rfl) rfl)) (hp4x2 _ _ ?_)
      show GG _ _ _ _ _ _ _ _ [.int (Int32.ofInt 0)] _ _ _
      refine g_if_eq 8 25 (gd rfl) rfl rfl (fun c4x5 => ?_) (fun c4x5 => ?_)
      · skip
        refine g_iconst 0 26 (gd rfl) rfl rfl ?_
        refine g_ireturn (gd rfl) rfl (nb01 (in_w 0 1 (in_c 0 rfl) rfl)) (hp4 _ _ ?_)
        show GG _ _ _ _ _ _ _ _ [.int (Int32.ofInt 0), .ref (A 109)] _ _ _
        refine g_if_eq 10 26 (gd rfl) rfl rfl (fun c7 => ?_) (fun c7 => ?_)
        · skip
          refine g_iconst 0 27 (gd rfl) rfl rfl ?_
          refine g_callv (X := _) (As := [.int (Int32.ofInt 0)]) (r := []) (b := A 109) (q := 109) 30 (gd rfl) rfl rfl rfl rfl rfl (ww_o rfl) (Nat.le_of_ble_eq_true rfl) (mc := 0) (ms := 0) (Nat.zero_le _) (Nat.zero_le _) (P := fun v u => _) ?_ (fun e u h => h) (fun v u h => h)
          intro po27 xx27 hp27 hx27
          refine g_enter2 (k := 271) (N := 300) (by first | exact dq1 hd rfl | exact dq0 hd rfl | exact dq2 hd rfl | exact dq3 hd rfl | omega) rfl (Nat.le_of_ble_eq_true rfl) ?_
          refine g_aload_n 1 (gd rfl) rfl rfl ?_
          refine g_iload_n 2 (gd rfl) rfl rfl ?_
          refine g_iconst 1 3 (gd rfl) rfl rfl ?_
          refine g_callv (X := _) (As := [.int (Int32.ofInt 0), .int (Int32.ofInt 1)]) (r := []) (b := A 109) (q := 109) 6 (gd rfl) rfl rfl rfl rfl rfl (ww_o rfl) (Nat.le_of_ble_eq_true rfl) (mc := 0) (ms := 0) (Nat.zero_le _) (Nat.zero_le _) (P := fun v u => _) ?_ (fun e u h => h) (fun v u h => h)
          intro po27x3 xx27x3 hp27x3 hx27x3
          refine g_enter2 (k := 270) (N := 300) (by first | exact dq1 hd rfl | exact dq0 hd rfl | exact dq2 hd rfl | exact dq3 hd rfl | omega) rfl (Nat.le_of_ble_eq_true rfl) ?_
          refine g_aload_n 1 (gd rfl) rfl rfl ?_
          refine g_iload_n 2 (gd rfl) rfl rfl ?_
          refine g_if_ne 5 9 (gd rfl) rfl rfl (fun c27x3x2 => ?_) (fun c27x3x2 => ?_)
          · skip
            exact zn_ne c27x3x2 (in_c 0 rfl) rfl
          · skip
            refine g_iconst 1 6 (gd rfl) rfl rfl ?_
            refine g_goto 18 (gd rfl) rfl ?_
            refine g_putI 21 (gd rfl) rfl rfl rfl rfl ?_
            have hI27x3x18 := inv_sF (q := 109) (j := 0) hI rfl (in_w 0 2 (in_c 1 rfl) rfl)
            refine g_aload_n 22 (gd rfl) rfl rfl ?_
            refine g_getI 25 (gd rfl) rfl rfl rfl (fun z27x3x22 e27x3x22 => ?_)
            have q27x3x22 : (Int32.ofInt 1) = z27x3x22 := (sF_get).trans e27x3x22.symm
            subst q27x3x22
            refine g_if_le 28 32 (gd rfl) rfl rfl (fun c27x3x25 => ?_) (fun c27x3x25 => ?_)
            · skip
              exact zn_le c27x3x25 (in_c 1 rfl) rfl
            · skip
              refine g_iconst 1 29 (gd rfl) rfl rfl ?_
              refine g_goto 33 (gd rfl) rfl ?_
              refine g_ireturn (gd rfl) rfl (nb01 (in_w 0 1 (in_c 1 rfl) rfl)) (hp27x3 _ _ ?_)
              show GG _ _ _ _ _ _ _ _ [.int (Int32.ofInt 1)] _ _ _
              refine g_ireturn (gd rfl) rfl (nb01 (in_w 0 1 (in_c 1 rfl) rfl)) (hp27 _ _ ?_)
              show GG _ _ _ _ _ _ _ _ [.int (Int32.ofInt 1)] _ _ _
              refine g_if_eq 33 35 (gd rfl) rfl rfl (fun c30 => ?_) (fun c30 => ?_)
              · skip
                exact zn_eq c30 (in_c 1 rfl) rfl
              · skip
                refine g_lconst 0 34 (gd rfl) rfl rfl ?_
                exact g_lreturn (gd rfl) rfl (hP _ _ ⟨(sF s 109 0 (Int32.ofInt 1)), hI27x3x18, (fr_sF rfl fr_rf), (Int64.ofInt 0), rfl, rfl⟩)
        · skip
          exact zn_ne c7 (in_c 0 rfl) rfl
      · skip
        exact zn_ne c4x5 (in_c 0 rfl) rfl
    · skip
      have i4x2x9 := r_lt1 0 31 c4x2x9 i4x2x1 ro_109_20 rfl
      have i4x2x9a := r_lt2 1 32 c4x2x9 i4x2x1 ro_109_20 rfl
      refine g_iconst 1 13 (gd rfl) rfl rfl ?_
      refine g_goto 17 (gd rfl) rfl ?_
      refine g_ireturn (gd rfl) rfl (nb01 (in_w 0 1 (in_c 1 rfl) rfl)) (hp4x2 _ _ ?_)
      show GG _ _ _ _ _ _ _ _ [.int (Int32.ofInt 1)] _ _ _
      refine g_if_eq 8 25 (gd rfl) rfl rfl (fun c4x5 => ?_) (fun c4x5 => ?_)
      · skip
        exact zn_eq c4x5 (in_c 1 rfl) rfl
      · skip
        refine g_aload_n 9 (gd rfl) rfl rfl ?_
        refine g_iload_n 10 (gd rfl) rfl rfl ?_
        refine g_callv (X := _) (As := [.int x2]) (r := []) (b := A 109) (q := 109) 13 (gd rfl) rfl rfl rfl rfl rfl (ww_o rfl) (Nat.le_of_ble_eq_true rfl) (mc := 0) (ms := 0) (Nat.zero_le _) (Nat.zero_le _) (P := fun v u => _) ?_ (fun e u h => h) (fun v u h => h)
        intro po4x10 xx4x10 hp4x10 hx4x10
        refine g_enter2 (k := 272) (N := 300) (by first | exact dq1 hd rfl | exact dq0 hd rfl | exact dq2 hd rfl | exact dq3 hd rfl | omega) rfl (Nat.le_of_ble_eq_true rfl) ?_
        refine g_iload_n 1 (gd rfl) rfl rfl ?_
        refine g_if_lt 4 16 (gd rfl) rfl rfl (fun c4x10x1 => ?_) (fun c4x10x1 => ?_)
        · skip
          have i4x10x1 := z_lt (-2147483648) (-1) c4x10x1 (i_rng x2) rfl
          refine g_iconst 0 17 (gd rfl) rfl rfl ?_
          refine g_ireturn (gd rfl) rfl (nb01 (in_w 0 1 (in_c 0 rfl) rfl)) (hp4x10 _ _ ?_)
          show GG _ _ _ _ _ _ _ _ [.int (Int32.ofInt 0)] _ _ _
          refine g_if_eq 16 25 (gd rfl) rfl rfl (fun c4x13 => ?_) (fun c4x13 => ?_)
          · skip
            refine g_iconst 0 26 (gd rfl) rfl rfl ?_
            refine g_ireturn (gd rfl) rfl (nb01 (in_w 0 1 (in_c 0 rfl) rfl)) (hp4 _ _ ?_)
            show GG _ _ _ _ _ _ _ _ [.int (Int32.ofInt 0), .ref (A 109)] _ _ _
            refine g_if_eq 10 26 (gd rfl) rfl rfl (fun c7 => ?_) (fun c7 => ?_)
            · skip
              refine g_iconst 0 27 (gd rfl) rfl rfl ?_
              refine g_callv (X := _) (As := [.int (Int32.ofInt 0)]) (r := []) (b := A 109) (q := 109) 30 (gd rfl) rfl rfl rfl rfl rfl (ww_o rfl) (Nat.le_of_ble_eq_true rfl) (mc := 0) (ms := 0) (Nat.zero_le _) (Nat.zero_le _) (P := fun v u => _) ?_ (fun e u h => h) (fun v u h => h)
              intro po27 xx27 hp27 hx27
              refine g_enter2 (k := 271) (N := 300) (by first | exact dq1 hd rfl | exact dq0 hd rfl | exact dq2 hd rfl | exact dq3 hd rfl | omega) rfl (Nat.le_of_ble_eq_true rfl) ?_
              refine g_aload_n 1 (gd rfl) rfl rfl ?_
              refine g_iload_n 2 (gd rfl) rfl rfl ?_
              refine g_iconst 1 3 (gd rfl) rfl rfl ?_
              refine g_callv (X := _) (As := [.int (Int32.ofInt 0), .int (Int32.ofInt 1)]) (r := []) (b := A 109) (q := 109) 6 (gd rfl) rfl rfl rfl rfl rfl (ww_o rfl) (Nat.le_of_ble_eq_true rfl) (mc := 0) (ms := 0) (Nat.zero_le _) (Nat.zero_le _) (P := fun v u => _) ?_ (fun e u h => h) (fun v u h => h)
              intro po27x3 xx27x3 hp27x3 hx27x3
              refine g_enter2 (k := 270) (N := 300) (by first | exact dq1 hd rfl | exact dq0 hd rfl | exact dq2 hd rfl | exact dq3 hd rfl | omega) rfl (Nat.le_of_ble_eq_true rfl) ?_
              refine g_aload_n 1 (gd rfl) rfl rfl ?_
              refine g_iload_n 2 (gd rfl) rfl rfl ?_
              refine g_if_ne 5 9 (gd rfl) rfl rfl (fun c27x3x2 => ?_) (fun c27x3x2 => ?_)
              · skip
                exact zn_ne c27x3x2 (in_c 0 rfl) rfl
              · skip
                refine g_iconst 1 6 (gd rfl) rfl rfl ?_
                refine g_goto 18 (gd rfl) rfl ?_
                refine g_putI 21 (gd rfl) rfl rfl rfl rfl ?_
                have hI27x3x18 := inv_sF (q := 109) (j := 0) hI rfl (in_w 0 2 (in_c 1 rfl) rfl)
                refine g_aload_n 22 (gd rfl) rfl rfl ?_
                refine g_getI 25 (gd rfl) rfl rfl rfl (fun z27x3x22 e27x3x22 => ?_)
                have q27x3x22 : (Int32.ofInt 1) = z27x3x22 := (sF_get).trans e27x3x22.symm
                subst q27x3x22
                refine g_if_le 28 32 (gd rfl) rfl rfl (fun c27x3x25 => ?_) (fun c27x3x25 => ?_)
                · skip
                  exact zn_le c27x3x25 (in_c 1 rfl) rfl
                · skip
                  refine g_iconst 1 29 (gd rfl) rfl rfl ?_
                  refine g_goto 33 (gd rfl) rfl ?_
                  refine g_ireturn (gd rfl) rfl (nb01 (in_w 0 1 (in_c 1 rfl) rfl)) (hp27x3 _ _ ?_)
                  show GG _ _ _ _ _ _ _ _ [.int (Int32.ofInt 1)] _ _ _
                  refine g_ireturn (gd rfl) rfl (nb01 (in_w 0 1 (in_c 1 rfl) rfl)) (hp27 _ _ ?_)
                  show GG _ _ _ _ _ _ _ _ [.int (Int32.ofInt 1)] _ _ _
                  refine g_if_eq 33 35 (gd rfl) rfl rfl (fun c30 => ?_) (fun c30 => ?_)
                  · skip
                    exact zn_eq c30 (in_c 1 rfl) rfl
                  · skip
                    refine g_lconst 0 34 (gd rfl) rfl rfl ?_
                    exact g_lreturn (gd rfl) rfl (hP _ _ ⟨(sF s 109 0 (Int32.ofInt 1)), hI27x3x18, (fr_sF rfl fr_rf), (Int64.ofInt 0), rfl, rfl⟩)
            · skip
              exact zn_ne c7 (in_c 0 rfl) rfl
          · skip
            exact zn_ne c4x13 (in_c 0 rfl) rfl
        · skip
          have i4x10x1 := z_ge 0 2147483647 c4x10x1 (i_rng x2) rfl
          refine g_iload_n 5 (gd rfl) rfl rfl ?_
          refine g_aload_n 6 (gd rfl) rfl rfl ?_
          refine g_getI 9 (gd rfl) rfl rfl rfl (fun z4x10x6 e4x10x6 => ?_)
          have q4x10x6 : u_109_20 = z4x10x6 := (e_109_20).trans e4x10x6.symm
          subst q4x10x6
          refine g_cmp_ge 12 16 (gd rfl) rfl rfl (fun c4x10x9 => ?_) (fun c4x10x9 => ?_)
          · skip
            have i4x10x9 := r_le2 1 2147483647 c4x10x9 i4x2x9a i4x10x1 rfl
            refine g_iconst 0 17 (gd rfl) rfl rfl ?_
            refine g_ireturn (gd rfl) rfl (nb01 (in_w 0 1 (in_c 0 rfl) rfl)) (hp4x10 _ _ ?_)
            show GG _ _ _ _ _ _ _ _ [.int (Int32.ofInt 0)] _ _ _
            refine g_if_eq 16 25 (gd rfl) rfl rfl (fun c4x13 => ?_) (fun c4x13 => ?_)
            · skip
              refine g_iconst 0 26 (gd rfl) rfl rfl ?_
              refine g_ireturn (gd rfl) rfl (nb01 (in_w 0 1 (in_c 0 rfl) rfl)) (hp4 _ _ ?_)
              show GG _ _ _ _ _ _ _ _ [.int (Int32.ofInt 0), .ref (A 109)] _ _ _
              refine g_if_eq 10 26 (gd rfl) rfl rfl (fun c7 => ?_) (fun c7 => ?_)
              · skip
                refine g_iconst 0 27 (gd rfl) rfl rfl ?_
                refine g_callv (X := _) (As := [.int (Int32.ofInt 0)]) (r := []) (b := A 109) (q := 109) 30 (gd rfl) rfl rfl rfl rfl rfl (ww_o rfl) (Nat.le_of_ble_eq_true rfl) (mc := 0) (ms := 0) (Nat.zero_le _) (Nat.zero_le _) (P := fun v u => _) ?_ (fun e u h => h) (fun v u h => h)
                intro po27 xx27 hp27 hx27
                refine g_enter2 (k := 271) (N := 300) (by first | exact dq1 hd rfl | exact dq0 hd rfl | exact dq2 hd rfl | exact dq3 hd rfl | omega) rfl (Nat.le_of_ble_eq_true rfl) ?_
                refine g_aload_n 1 (gd rfl) rfl rfl ?_
                refine g_iload_n 2 (gd rfl) rfl rfl ?_
                refine g_iconst 1 3 (gd rfl) rfl rfl ?_
                refine g_callv (X := _) (As := [.int (Int32.ofInt 0), .int (Int32.ofInt 1)]) (r := []) (b := A 109) (q := 109) 6 (gd rfl) rfl rfl rfl rfl rfl (ww_o rfl) (Nat.le_of_ble_eq_true rfl) (mc := 0) (ms := 0) (Nat.zero_le _) (Nat.zero_le _) (P := fun v u => _) ?_ (fun e u h => h) (fun v u h => h)
                intro po27x3 xx27x3 hp27x3 hx27x3
                refine g_enter2 (k := 270) (N := 300) (by first | exact dq1 hd rfl | exact dq0 hd rfl | exact dq2 hd rfl | exact dq3 hd rfl | omega) rfl (Nat.le_of_ble_eq_true rfl) ?_
                refine g_aload_n 1 (gd rfl) rfl rfl ?_
                refine g_iload_n 2 (gd rfl) rfl rfl ?_
                refine g_if_ne 5 9 (gd rfl) rfl rfl (fun c27x3x2 => ?_) (fun c27x3x2 => ?_)
                · skip
                  exact zn_ne c27x3x2 (in_c 0 rfl) rfl
                · skip
                  refine g_iconst 1 6 (gd rfl) rfl rfl ?_
                  refine g_goto 18 (gd rfl) rfl ?_
                  refine g_putI 21 (gd rfl) rfl rfl rfl rfl ?_
                  have hI27x3x18 := inv_sF (q := 109) (j := 0) hI rfl (in_w 0 2 (in_c 1 rfl) rfl)
                  refine g_aload_n 22 (gd rfl) rfl rfl ?_
                  refine g_getI 25 (gd rfl) rfl rfl rfl (fun z27x3x22 e27x3x22 => ?_)
                  have q27x3x22 : (Int32.ofInt 1) = z27x3x22 := (sF_get).trans e27x3x22.symm
                  subst q27x3x22
                  refine g_if_le 28 32 (gd rfl) rfl rfl (fun c27x3x25 => ?_) (fun c27x3x25 => ?_)
                  · skip
                    exact zn_le c27x3x25 (in_c 1 rfl) rfl
                  · skip
                    refine g_iconst 1 29 (gd rfl) rfl rfl ?_
                    refine g_goto 33 (gd rfl) rfl ?_
                    refine g_ireturn (gd rfl) rfl (nb01 (in_w 0 1 (in_c 1 rfl) rfl)) (hp27x3 _ _ ?_)
                    show GG _ _ _ _ _ _ _ _ [.int (Int32.ofInt 1)] _ _ _
                    refine g_ireturn (gd rfl) rfl (nb01 (in_w 0 1 (in_c 1 rfl) rfl)) (hp27 _ _ ?_)
                    show GG _ _ _ _ _ _ _ _ [.int (Int32.ofInt 1)] _ _ _
                    refine g_if_eq 33 35 (gd rfl) rfl rfl (fun c30 => ?_) (fun c30 => ?_)
                    · skip
                      exact zn_eq c30 (in_c 1 rfl) rfl
                    · skip
                      refine g_lconst 0 34 (gd rfl) rfl rfl ?_
                      exact g_lreturn (gd rfl) rfl (hP _ _ ⟨(sF s 109 0 (Int32.ofInt 1)), hI27x3x18, (fr_sF rfl fr_rf), (Int64.ofInt 0), rfl, rfl⟩)
              · skip
                exact zn_ne c7 (in_c 0 rfl) rfl
            · skip
              exact zn_ne c4x13 (in_c 0 rfl) rfl
          · skip
            have i4x10x9 := r_lt1 0 31 c4x10x9 i4x10x1 i4x2x9a rfl
            refine g_iconst 1 13 (gd rfl) rfl rfl ?_
            refine g_goto 17 (gd rfl) rfl ?_
            refine g_ireturn (gd rfl) rfl (nb01 (in_w 0 1 (in_c 1 rfl) rfl)) (hp4x10 _ _ ?_)
            show GG _ _ _ _ _ _ _ _ [.int (Int32.ofInt 1)] _ _ _
            refine g_if_eq 16 25 (gd rfl) rfl rfl (fun c4x13 => ?_) (fun c4x13 => ?_)
            · skip
              exact zn_eq c4x13 (in_c 1 rfl) rfl
            · skip
              refine g_iload_n 17 (gd rfl) rfl rfl ?_
              refine g_iload_n 18 (gd rfl) rfl rfl ?_
              refine g_cmp_eq 21 25 (gd rfl) rfl rfl (fun c4x18 => ?_) (fun c4x18 => ?_)
              · skip
                refine g_iconst 0 26 (gd rfl) rfl rfl ?_
                refine g_ireturn (gd rfl) rfl (nb01 (in_w 0 1 (in_c 0 rfl) rfl)) (hp4 _ _ ?_)
                show GG _ _ _ _ _ _ _ _ [.int (Int32.ofInt 0), .ref (A 109)] _ _ _
                refine g_if_eq 10 26 (gd rfl) rfl rfl (fun c7 => ?_) (fun c7 => ?_)
                · skip
                  refine g_iconst 0 27 (gd rfl) rfl rfl ?_
                  refine g_callv (X := _) (As := [.int (Int32.ofInt 0)]) (r := []) (b := A 109) (q := 109) 30 (gd rfl) rfl rfl rfl rfl rfl (ww_o rfl) (Nat.le_of_ble_eq_true rfl) (mc := 0) (ms := 0) (Nat.zero_le _) (Nat.zero_le _) (P := fun v u => _) ?_ (fun e u h => h) (fun v u h => h)
                  intro po27 xx27 hp27 hx27
                  refine g_enter2 (k := 271) (N := 300) (by first | exact dq1 hd rfl | exact dq0 hd rfl | exact dq2 hd rfl | exact dq3 hd rfl | omega) rfl (Nat.le_of_ble_eq_true rfl) ?_
                  refine g_aload_n 1 (gd rfl) rfl rfl ?_
                  refine g_iload_n 2 (gd rfl) rfl rfl ?_
                  refine g_iconst 1 3 (gd rfl) rfl rfl ?_
                  refine g_callv (X := _) (As := [.int (Int32.ofInt 0), .int (Int32.ofInt 1)]) (r := []) (b := A 109) (q := 109) 6 (gd rfl) rfl rfl rfl rfl rfl (ww_o rfl) (Nat.le_of_ble_eq_true rfl) (mc := 0) (ms := 0) (Nat.zero_le _) (Nat.zero_le _) (P := fun v u => _) ?_ (fun e u h => h) (fun v u h => h)
                  intro po27x3 xx27x3 hp27x3 hx27x3
                  refine g_enter2 (k := 270) (N := 300) (by first | exact dq1 hd rfl | exact dq0 hd rfl | exact dq2 hd rfl | exact dq3 hd rfl | omega) rfl (Nat.le_of_ble_eq_true rfl) ?_
                  refine g_aload_n 1 (gd rfl) rfl rfl ?_
                  refine g_iload_n 2 (gd rfl) rfl rfl ?_
                  refine g_if_ne 5 9 (gd rfl) rfl rfl (fun c27x3x2 => ?_) (fun c27x3x2 => ?_)
                  · skip
                    exact zn_ne c27x3x2 (in_c 0 rfl) rfl
                  · skip
                    refine g_iconst 1 6 (gd rfl) rfl rfl ?_
                    refine g_goto 18 (gd rfl) rfl ?_
                    refine g_putI 21 (gd rfl) rfl rfl rfl rfl ?_
                    have hI27x3x18 := inv_sF (q := 109) (j := 0) hI rfl (in_w 0 2 (in_c 1 rfl) rfl)
                    refine g_aload_n 22 (gd rfl) rfl rfl ?_
                    refine g_getI 25 (gd rfl) rfl rfl rfl (fun z27x3x22 e27x3x22 => ?_)
                    have q27x3x22 : (Int32.ofInt 1) = z27x3x22 := (sF_get).trans e27x3x22.symm
                    subst q27x3x22
                    refine g_if_le 28 32 (gd rfl) rfl rfl (fun c27x3x25 => ?_) (fun c27x3x25 => ?_)
                    · skip
                      exact zn_le c27x3x25 (in_c 1 rfl) rfl
                    · skip
                      refine g_iconst 1 29 (gd rfl) rfl rfl ?_
                      refine g_goto 33 (gd rfl) rfl ?_
                      refine g_ireturn (gd rfl) rfl (nb01 (in_w 0 1 (in_c 1 rfl) rfl)) (hp27x3 _ _ ?_)
                      show GG _ _ _ _ _ _ _ _ [.int (Int32.ofInt 1)] _ _ _
                      refine g_ireturn (gd rfl) rfl (nb01 (in_w 0 1 (in_c 1 rfl) rfl)) (hp27 _ _ ?_)
                      show GG _ _ _ _ _ _ _ _ [.int (Int32.ofInt 1)] _ _ _
                      refine g_if_eq 33 35 (gd rfl) rfl rfl (fun c30 => ?_) (fun c30 => ?_)
                      · skip
                        exact zn_eq c30 (in_c 1 rfl) rfl
                      · skip
                        refine g_lconst 0 34 (gd rfl) rfl rfl ?_
                        exact g_lreturn (gd rfl) rfl (hP _ _ ⟨(sF s 109 0 (Int32.ofInt 1)), hI27x3x18, (fr_sF rfl fr_rf), (Int64.ofInt 0), rfl, rfl⟩)
                · skip
                  exact zn_ne c7 (in_c 0 rfl) rfl
              · skip
                refine g_iconst 1 22 (gd rfl) rfl rfl ?_
                refine g_goto 26 (gd rfl) rfl ?_
                refine g_ireturn (gd rfl) rfl (nb01 (in_w 0 1 (in_c 1 rfl) rfl)) (hp4 _ _ ?_)
                show GG _ _ _ _ _ _ _ _ [.int (Int32.ofInt 1), .ref (A 109)] _ _ _
                refine g_if_eq 10 26 (gd rfl) rfl rfl (fun c7 => ?_) (fun c7 => ?_)
                · skip
                  exact zn_eq c7 (in_c 1 rfl) rfl
                · skip
                  refine g_iload_n 11 (gd rfl) rfl rfl ?_
                  refine g_i2l 12 (gd rfl) rfl (fun z11 e11 => ?_)
                  have i11 := l_i e11 (i_rng x3)
                  refine g_lconst 0 13 (gd rfl) rfl rfl ?_
                  refine g_ldc2_w 200000000 16 (gd rfl) rfl rfl ?_
                  refine g_calls (As := [.long z11, .long (Int64.ofInt 0), .long (Int64.ofInt 200000000)]) (r := [.ref (A 109)]) 19 (gd rfl) rfl rfl rfl rfl rfl (Nat.le_of_ble_eq_true rfl) (mc := 0) (ms := 0) (Nat.zero_le _) (Nat.zero_le _) (P := fun v u => _) ?_ (fun v u h => h)
                  intro po16 xx16 hp16 hx16
                  refine g_enter2 (k := 269) (N := 300) (by first | exact dq1 hd rfl | exact dq0 hd rfl | exact dq2 hd rfl | exact dq3 hd rfl | omega) rfl (Nat.le_of_ble_eq_true rfl) ?_
                  refine g_lload_n 1 (gd rfl) rfl rfl ?_
                  refine g_lload_n 2 (gd rfl) rfl rfl ?_
                  refine g_lcmp 3 (gd rfl) rfl (fun z16x2 e16x2 => ?_)
                  have i16x2 := lc_in e16x2
                  refine g_if_lt 6 17 (gd rfl) rfl rfl (fun c16x3 => ?_) (fun c16x3 => ?_)
                  · skip
                    have i16x3 := z_lt (-1) (-1) c16x3 i16x2 rfl
                    have c16x3a := lc_lt e16x2 c16x3
                    have i16x3a := lr_lt1 (-2147483648) (-1) c16x3a i11 (l_c 0 rfl) rfl
                    have i16x3b := l_b e11 i16x3a
                    refine g_iconst 0 18 (gd rfl) rfl rfl ?_
                    refine g_ireturn (gd rfl) rfl (nb01 (in_w 0 1 (in_c 0 rfl) rfl)) (hp16 _ _ ?_)
                    show GG _ _ _ _ _ _ _ _ [.int (Int32.ofInt 0), .ref (A 109)] _ _ _
                    refine g_if_eq 22 26 (gd rfl) rfl rfl (fun c19 => ?_) (fun c19 => ?_)
                    · skip
                      refine g_iconst 0 27 (gd rfl) rfl rfl ?_
                      refine g_callv (X := _) (As := [.int (Int32.ofInt 0)]) (r := []) (b := A 109) (q := 109) 30 (gd rfl) rfl rfl rfl rfl rfl (ww_o rfl) (Nat.le_of_ble_eq_true rfl) (mc := 0) (ms := 0) (Nat.zero_le _) (Nat.zero_le _) (P := fun v u => _) ?_ (fun e u h => h) (fun v u h => h)
                      intro po27 xx27 hp27 hx27
                      refine g_enter2 (k := 271) (N := 300) (by first | exact dq1 hd rfl | exact dq0 hd rfl | exact dq2 hd rfl | exact dq3 hd rfl | omega) rfl (Nat.le_of_ble_eq_true rfl) ?_
                      refine g_aload_n 1 (gd rfl) rfl rfl ?_
                      refine g_iload_n 2 (gd rfl) rfl rfl ?_
                      refine g_iconst 1 3 (gd rfl) rfl rfl ?_
                      refine g_callv (X := _) (As := [.int (Int32.ofInt 0), .int (Int32.ofInt 1)]) (r := []) (b := A 109) (q := 109) 6 (gd rfl) rfl rfl rfl rfl rfl (ww_o rfl) (Nat.le_of_ble_eq_true rfl) (mc := 0) (ms := 0) (Nat.zero_le _) (Nat.zero_le _) (P := fun v u => _) ?_ (fun e u h => h) (fun v u h => h)
                      intro po27x3 xx27x3 hp27x3 hx27x3
                      refine g_enter2 (k := 270) (N := 300) (by first | exact dq1 hd rfl | exact dq0 hd rfl | exact dq2 hd rfl | exact dq3 hd rfl | omega) rfl (Nat.le_of_ble_eq_true rfl) ?_
                      refine g_aload_n 1 (gd rfl) rfl rfl ?_
                      refine g_iload_n 2 (gd rfl) rfl rfl ?_
                      refine g_if_ne 5 9 (gd rfl) rfl rfl (fun c27x3x2 => ?_) (fun c27x3x2 => ?_)
                      · skip
                        exact zn_ne c27x3x2 (in_c 0 rfl) rfl
                      · skip
                        refine g_iconst 1 6 (gd rfl) rfl rfl ?_
                        refine g_goto 18 (gd rfl) rfl ?_
                        refine g_putI 21 (gd rfl) rfl rfl rfl rfl ?_
                        have hI27x3x18 := inv_sF (q := 109) (j := 0) hI rfl (in_w 0 2 (in_c 1 rfl) rfl)
                        refine g_aload_n 22 (gd rfl) rfl rfl ?_
                        refine g_getI 25 (gd rfl) rfl rfl rfl (fun z27x3x22 e27x3x22 => ?_)
                        have q27x3x22 : (Int32.ofInt 1) = z27x3x22 := (sF_get).trans e27x3x22.symm
                        subst q27x3x22
                        refine g_if_le 28 32 (gd rfl) rfl rfl (fun c27x3x25 => ?_) (fun c27x3x25 => ?_)
                        · skip
                          exact zn_le c27x3x25 (in_c 1 rfl) rfl
                        · skip
                          refine g_iconst 1 29 (gd rfl) rfl rfl ?_
                          refine g_goto 33 (gd rfl) rfl ?_
                          refine g_ireturn (gd rfl) rfl (nb01 (in_w 0 1 (in_c 1 rfl) rfl)) (hp27x3 _ _ ?_)
                          show GG _ _ _ _ _ _ _ _ [.int (Int32.ofInt 1)] _ _ _
                          refine g_ireturn (gd rfl) rfl (nb01 (in_w 0 1 (in_c 1 rfl) rfl)) (hp27 _ _ ?_)
                          show GG _ _ _ _ _ _ _ _ [.int (Int32.ofInt 1)] _ _ _
                          refine g_if_eq 33 35 (gd rfl) rfl rfl (fun c30 => ?_) (fun c30 => ?_)
                          · skip
                            exact zn_eq c30 (in_c 1 rfl) rfl
                          · skip
                            refine g_lconst 0 34 (gd rfl) rfl rfl ?_
                            exact g_lreturn (gd rfl) rfl (hP _ _ ⟨(sF s 109 0 (Int32.ofInt 1)), hI27x3x18, (fr_sF rfl fr_rf), (Int64.ofInt 0), rfl, rfl⟩)
                    · skip
                      exact zn_ne c19 (in_c 0 rfl) rfl
                  · skip
                    have i16x3 := z_ge 0 1 c16x3 i16x2 rfl
                    have c16x3a := lc_ge e16x2 c16x3
                    have i16x3a := lr_le2 0 2147483647 c16x3a (l_c 0 rfl) i11 rfl
                    have i16x3b := l_b e11 i16x3a
                    refine g_lload_n 7 (gd rfl) rfl rfl ?_
                    refine g_lload 9 (gd rfl) rfl rfl ?_
                    refine g_lcmp 10 (gd rfl) rfl (fun z16x9 e16x9 => ?_)
                    have i16x9 := lc_in e16x9
                    refine g_if_gt 13 17 (gd rfl) rfl rfl (fun c16x10 => ?_) (fun c16x10 => ?_)
                    · skip
                      have i16x10 := z_gt 1 1 c16x10 i16x9 rfl
                      have c16x10a := lc_gt e16x9 c16x10
                      have i16x10a := lr_lt2 200000001 2147483647 c16x10a (l_c 200000000 rfl) i16x3a rfl
                      have i16x10b := l_b e11 i16x10a
                      refine g_iconst 0 18 (gd rfl) rfl rfl ?_
                      refine g_ireturn (gd rfl) rfl (nb01 (in_w 0 1 (in_c 0 rfl) rfl)) (hp16 _ _ ?_)
                      show GG _ _ _ _ _ _ _ _ [.int (Int32.ofInt 0), .ref (A 109)] _ _ _
                      refine g_if_eq 22 26 (gd rfl) rfl rfl (fun c19 => ?_) (fun c19 => ?_)
                      · skip
                        refine g_iconst 0 27 (gd rfl) rfl rfl ?_
                        refine g_callv (X := _) (As := [.int (Int32.ofInt 0)]) (r := []) (b := A 109) (q := 109) 30 (gd rfl) rfl rfl rfl rfl rfl (ww_o rfl) (Nat.le_of_ble_eq_true rfl) (mc := 0) (ms := 0) (Nat.zero_le _) (Nat.zero_le _) (P := fun v u => _) ?_ (fun e u h => h) (fun v u h => h)
                        intro po27 xx27 hp27 hx27
                        refine g_enter2 (k := 271) (N := 300) (by first | exact dq1 hd rfl | exact dq0 hd rfl | exact dq2 hd rfl | exact dq3 hd rfl | omega) rfl (Nat.le_of_ble_eq_true rfl) ?_
                        refine g_aload_n 1 (gd rfl) rfl rfl ?_
                        refine g_iload_n 2 (gd rfl) rfl rfl ?_
                        refine g_iconst 1 3 (gd rfl) rfl rfl ?_
                        refine g_callv (X := _) (As := [.int (Int32.ofInt 0), .int (Int32.ofInt 1)]) (r := []) (b := A 109) (q := 109) 6 (gd rfl) rfl rfl rfl rfl rfl (ww_o rfl) (Nat.le_of_ble_eq_true rfl) (mc := 0) (ms := 0) (Nat.zero_le _) (Nat.zero_le _) (P := fun v u => _) ?_ (fun e u h => h) (fun v u h => h)
                        intro po27x3 xx27x3 hp27x3 hx27x3
                        refine g_enter2 (k := 270) (N := 300) (by first | exact dq1 hd rfl | exact dq0 hd rfl | exact dq2 hd rfl | exact dq3 hd rfl | omega) rfl (Nat.le_of_ble_eq_true rfl) ?_
                        refine g_aload_n 1 (gd rfl) rfl rfl ?_
                        refine g_iload_n 2 (gd rfl) rfl rfl ?_
                        refine g_if_ne 5 9 (gd rfl) rfl rfl (fun c27x3x2 => ?_) (fun c27x3x2 => ?_)
                        · skip
                          exact zn_ne c27x3x2 (in_c 0 rfl) rfl
                        · skip
                          refine g_iconst 1 6 (gd rfl) rfl rfl ?_
                          refine g_goto 18 (gd rfl) rfl ?_
                          refine g_putI 21 (gd rfl) rfl rfl rfl rfl ?_
                          have hI27x3x18 := inv_sF (q := 109) (j := 0) hI rfl (in_w 0 2 (in_c 1 rfl) rfl)
                          refine g_aload_n 22 (gd rfl) rfl rfl ?_
                          refine g_getI 25 (gd rfl) rfl rfl rfl (fun z27x3x22 e27x3x22 => ?_)
                          have q27x3x22 : (Int32.ofInt 1) = z27x3x22 := (sF_get).trans e27x3x22.symm
                          subst q27x3x22
                          refine g_if_le 28 32 (gd rfl) rfl rfl (fun c27x3x25 => ?_) (fun c27x3x25 => ?_)
                          · skip
                            exact zn_le c27x3x25 (in_c 1 rfl) rfl
                          · skip
                            refine g_iconst 1 29 (gd rfl) rfl rfl ?_
                            refine g_goto 33 (gd rfl) rfl ?_
                            refine g_ireturn (gd rfl) rfl (nb01 (in_w 0 1 (in_c 1 rfl) rfl)) (hp27x3 _ _ ?_)
                            show GG _ _ _ _ _ _ _ _ [.int (Int32.ofInt 1)] _ _ _
                            refine g_ireturn (gd rfl) rfl (nb01 (in_w 0 1 (in_c 1 rfl) rfl)) (hp27 _ _ ?_)
                            show GG _ _ _ _ _ _ _ _ [.int (Int32.ofInt 1)] _ _ _
                            refine g_if_eq 33 35 (gd rfl) rfl rfl (fun c30 => ?_) (fun c30 => ?_)
                            · skip
                              exact zn_eq c30 (in_c 1 rfl) rfl
                            · skip
                              refine g_lconst 0 34 (gd rfl) rfl rfl ?_
                              exact g_lreturn (gd rfl) rfl (hP _ _ ⟨(sF s 109 0 (Int32.ofInt 1)), hI27x3x18, (fr_sF rfl fr_rf), (Int64.ofInt 0), rfl, rfl⟩)
                      · skip
                        exact zn_ne c19 (in_c 0 rfl) rfl
                    · skip
                      have i16x10 := z_le (-1) 0 c16x10 i16x9 rfl
                      have c16x10a := lc_le e16x9 c16x10
                      have i16x10a := lr_le1 0 200000000 c16x10a i16x3a (l_c 200000000 rfl) rfl
                      have i16x10b := l_b e11 i16x10a
                      refine g_iconst 1 14 (gd rfl) rfl rfl ?_
                      refine g_goto 18 (gd rfl) rfl ?_
                      refine g_ireturn (gd rfl) rfl (nb01 (in_w 0 1 (in_c 1 rfl) rfl)) (hp16 _ _ ?_)
                      show GG _ _ _ _ _ _ _ _ [.int (Int32.ofInt 1), .ref (A 109)] _ _ _
                      refine g_if_eq 22 26 (gd rfl) rfl rfl (fun c19 => ?_) (fun c19 => ?_)
                      · skip
                        exact zn_eq c19 (in_c 1 rfl) rfl
                      · skip
                        refine g_iconst 1 23 (gd rfl) rfl rfl ?_
                        refine g_goto 27 (gd rfl) rfl ?_
                        refine g_callv (X := _) (As := [.int (Int32.ofInt 1)]) (r := []) (b := A 109) (q := 109) 30 (gd rfl) rfl rfl rfl rfl rfl (ww_o rfl) (Nat.le_of_ble_eq_true rfl) (mc := 0) (ms := 0) (Nat.zero_le _) (Nat.zero_le _) (P := fun v u => _) ?_ (fun e u h => h) (fun v u h => h)
                        intro po27 xx27 hp27 hx27
                        refine g_enter2 (k := 271) (N := 300) (by first | exact dq1 hd rfl | exact dq0 hd rfl | exact dq2 hd rfl | exact dq3 hd rfl | omega) rfl (Nat.le_of_ble_eq_true rfl) ?_
                        refine g_aload_n 1 (gd rfl) rfl rfl ?_
                        refine g_iload_n 2 (gd rfl) rfl rfl ?_
                        refine g_iconst 1 3 (gd rfl) rfl rfl ?_
                        refine g_callv (X := _) (As := [.int (Int32.ofInt 1), .int (Int32.ofInt 1)]) (r := []) (b := A 109) (q := 109) 6 (gd rfl) rfl rfl rfl rfl rfl (ww_o rfl) (Nat.le_of_ble_eq_true rfl) (mc := 0) (ms := 0) (Nat.zero_le _) (Nat.zero_le _) (P := fun v u => _) ?_ (fun e u h => h) (fun v u h => h)
                        intro po27x3 xx27x3 hp27x3 hx27x3
                        refine g_enter2 (k := 270) (N := 300) (by first | exact dq1 hd rfl | exact dq0 hd rfl | exact dq2 hd rfl | exact dq3 hd rfl | omega) rfl (Nat.le_of_ble_eq_true rfl) ?_
                        refine g_aload_n 1 (gd rfl) rfl rfl ?_
                        refine g_iload_n 2 (gd rfl) rfl rfl ?_
                        refine g_if_ne 5 9 (gd rfl) rfl rfl (fun c27x3x2 => ?_) (fun c27x3x2 => ?_)
                        · skip
                          refine g_iload_n 10 (gd rfl) rfl rfl ?_
                          refine g_if_ne 13 17 (gd rfl) rfl rfl (fun c27x3x10 => ?_) (fun c27x3x10 => ?_)
                          · skip
                            refine g_iconst 0 18 (gd rfl) rfl rfl ?_
                            refine g_putI 21 (gd rfl) rfl rfl rfl rfl ?_
                            have hI27x3x18 := inv_sF (q := 109) (j := 0) hI rfl (in_w 0 2 (in_c 0 rfl) rfl)
                            refine g_aload_n 22 (gd rfl) rfl rfl ?_
                            refine g_getI 25 (gd rfl) rfl rfl rfl (fun z27x3x22 e27x3x22 => ?_)
                            have q27x3x22 : (Int32.ofInt 0) = z27x3x22 := (sF_get).trans e27x3x22.symm
                            subst q27x3x22
                            refine g_if_le 28 32 (gd rfl) rfl rfl (fun c27x3x25 => ?_) (fun c27x3x25 => ?_)
                            · skip
                              refine g_iconst 0 33 (gd rfl) rfl rfl ?_
                              refine g_ireturn (gd rfl) rfl (nb01 (in_w 0 1 (in_c 0 rfl) rfl)) (hp27x3 _ _ ?_)
                              show GG _ _ _ _ _ _ _ _ [.int (Int32.ofInt 0)] _ _ _
                              refine g_ireturn (gd rfl) rfl (nb01 (in_w 0 1 (in_c 0 rfl) rfl)) (hp27 _ _ ?_)
                              show GG _ _ _ _ _ _ _ _ [.int (Int32.ofInt 0)] _ _ _
                              refine g_if_eq 33 35 (gd rfl) rfl rfl (fun c30 => ?_) (fun c30 => ?_)
                              · skip
                                refine g_iconst 0 36 (gd rfl) rfl rfl ?_
                                refine g_istore 38 (gd rfl) rfl (Nat.le_of_ble_eq_true rfl) ?_
                                have n38 : ∀ k : Nat, (k : Int) < ((Int32.ofInt 0)).toInt → -200000000 ≤ ((sF s 109 0 (Int32.ofInt 0)).2.1 150 k).toInt ∧ ((sF s 109 0 (Int32.ofInt 0)).2.1 150 k).toInt ≤ 200000000 := by (intro k hk; exfalso; have h0 : (Int32.ofInt 0).toInt = 0 := rfl; omega)
                                exact gg_w (by first | exact Nat.le_of_ble_eq_true rfl | omega) (gg_f (gf_cons rfl (gf_cons rfl (gf_cons rfl (gf_cons rfl (gf_cons rfl gf_nil))))) (ct38 33 (sF s 109 0 (Int32.ofInt 0)) (Int32.ofInt 0) hI27x3x18 (fr_sF rfl fr_rf) (in_w 0 31 i4x2x9 rfl) (in_w 0 31 i4x10x9 rfl) (in_w 0 200000000 i16x10b rfl) (in_w 0 32 (in_c 0 rfl) rfl) n38 (m_in 33 (in_w 0 32 (in_c 0 rfl) rfl) rfl)))
                              · skip
                                exact zn_ne c30 (in_c 0 rfl) rfl
                            · skip
                              exact zn_gt c27x3x25 (in_c 0 rfl) rfl
                          · skip
                            exact zn_eq c27x3x10 (in_c 1 rfl) rfl
                        · skip
                          exact zn_eq c27x3x2 (in_c 1 rfl) rfl

def fm_360 : FM := ([148, 151], [149, 152], [], [])
/-- GraphHouseModel.pairUp -/
theorem k_360 {Z : AmZ} {A : Nat → Nat} {s : GS} {ex : va_W} {d : Nat} {X : AmX}  (hd : 3 ≤ d) (hI : Inv s)  : GC Z d 360 [.ref (A 109)] (WW Z A s ++ ex) 0 0 (fun v u => ∃ t : GS, Inv t ∧ Fr fm_360 s t ∧ v = none ∧ u = WW Z A t ++ ex) X := by
  intro post xp hP hX
  obtain ⟨u_109_19, e_109_19⟩ : ∃ w, w = s.2.2.1 109 19 := ⟨_, rfl⟩
  have ro_109_19 := inv_F hI 0 160 rfl e_109_19
  obtain ⟨u_109_20, e_109_20⟩ : ∃ w, w = s.2.2.1 109 20 := ⟨_, rfl⟩
  have ro_109_20 := inv_F hI 0 32 rfl e_109_20
  have ct186 : ∀ (k186 : Nat) (sc186 : GS) (y186_1 : Int32), Inv sc186 → Fr fm_360 s sc186 → (In y186_1 0 1) → (PP sc186) → 2 * cM (sc186.1 151) (s.2.2.1 109 20).toNatClampNeg + (y186_1).toInt.toNat < k186 → GG Z (d - 1) 360 post (gx xp) (1 + k186 * 32401) 186 (fun j => xlook j [(0, .ref (A 109)), (1, .int y186_1)]) [] (WW Z A sc186 ++ ex) 0 0 := by
    intro k186
    induction k186 with
    | zero => intro sc186 y186_1 hIc186 hFc186 j186_1 g186_0 mm186; exact absurd mm186 (Nat.not_lt_zero _)
    | succ k186 ih186 =>
      intro sc186 y186_1 hIc186 hFc186 j186_1 g186_0 mm186
      refine gg_w (M := 1 + k186 * 32401 + 32401) gws ?_
      have ct205 : ∀ (k205 : Nat) (sc205 : GS) (y205_1 : Int32) (y205_2 : Int32), Inv sc205 → Fr fm_360 s sc205 → (In y205_1 0 1) → (In y205_2 (-1) 31) → (∃ n, FLP sc205 (y205_2).toInt n) → (y186_1.toInt = 1) → (cM (sc205.1 151) (s.2.2.1 109 20).toNatClampNeg < cM (sc186.1 151) (s.2.2.1 109 20).toNatClampNeg ∨ (cM (sc205.1 151) (s.2.2.1 109 20).toNatClampNeg ≤ cM (sc186.1 151) (s.2.2.1 109 20).toNatClampNeg ∧ ((0 ≤ (y205_2).toInt ∧ (sc205.1 151 (y205_2).toNatClampNeg).toInt < 0) ∨ (y205_1).toInt = 0))) → lst (FLP sc205 (y205_2).toInt) < k205 → GG Z (d - 1) 360 post (gx xp) (1 + k186 * 32401 + 1 + k205 * 900) 205 (fun j => xlook j [(0, .ref (A 109)), (1, .int y205_1), (2, .int y205_2)]) [] (WW Z A sc205 ++ ex) 0 0 := by
        intro k205
        induction k205 with
        | zero => intro sc205 y205_1 y205_2 hIc205 hFc205 j205_1 j205_2 g205_0 g205_1 g205_2 mm205; exact absurd mm205 (Nat.not_lt_zero _)
        | succ k205 ih205 =>
          intro sc205 y205_1 y205_2 hIc205 hFc205 j205_1 j205_2 g205_0 g205_1 g205_2 mm205
          refine gg_w (M := 1 + k186 * 32401 + 1 + k205 * 900 + 900) gws ?_
          refine g_iload_n 206 (gd rfl) rfl rfl ?_
          refine g_if_lt 209 244 (gd rfl) rfl rfl (fun c206 => ?_) (fun c206 => ?_)
          · skip
            have i206 := z_lt (-1) (-1) c206 j205_2 rfl
            refine g_goto 186 (gd rfl) rfl ?_
            have n186 : PP sc205 := by first | exact pp_0 g163_0 (fun k hk => g163_1 k (by unfold nnq at hk; rw [hFc163.2.2.1 109 20 rfl, ← e_109_20] at hk; have a0 := in_u ro_109_20; have a1 := in_u ro_109_19; have a2 := in_u i206; have a3 := in_u j205_1; omega)) | (obtain ⟨n, hn⟩ := g205_0; exact flp_pp hn (by have a0 := in_u ro_109_20; have a1 := in_u ro_109_19; have a2 := in_u i206; have a3 := in_u j205_1; omega))
            have m186 : 2 * cM (sc205.1 151) (s.2.2.1 109 20).toNatClampNeg + (y205_1).toInt.toNat < k186 := by have hm := mm186; have hj := g205_1; rcases g205_2 with h | ⟨h1, h2⟩; (have a0 := in_u ro_109_20; have a1 := in_u ro_109_19; have a2 := in_u i206; have a3 := in_u j205_1; omega); (rcases h2 with h2 | h2; (exfalso; have hc := c206; omega); (have a0 := in_u ro_109_20; have a1 := in_u ro_109_19; have a2 := in_u i206; have a3 := in_u j205_1; omega))
            exact gg_w (by first | exact Nat.le_add_right _ _ | exact gw2 | exact gw3 | exact gwe rfl | exact gwf rfl | exact gwg rfl | exact gwh rfl | omega) (gg_f (gf_cons rfl (gf_cons rfl gf_nil)) (ih186  sc205 y205_1 hIc205 hFc205 (in_w 0 1 j205_1 rfl) n186 m186))
          · skip
            have i206 := z_ge 0 31 c206 j205_2 rfl
            refine g_aload_n 210 (gd rfl) rfl rfl ?_
            refine g_getA (q2 := 148) 213 (gd rfl) rfl rfl rfl rfl ?_
            refine g_iload_n 214 (gd rfl) rfl rfl ?_
            refine g_iaload 215 (gd rfl) rfl (n := 34) rfl (in_ix i206 rfl) (fun z214 e214 => ?_)
            have i214 := inv_I hIc205 (n := 34) (t := 0) (-1) 1000 rfl (in_ix i206 rfl) rfl e214
            have i215 : In z214 0 31 := by obtain ⟨n, hn⟩ := g205_0; have hu := flp_u hn i206.1; rw [show sc205.1 148 y205_2.toInt.toNat = z214 from e214.symm] at hu; exact ⟨hu.1, hu.2.1⟩
            refine g_istore_n 216 (gd rfl) rfl (Nat.le_of_ble_eq_true rfl) ?_
            refine g_aload_n 217 (gd rfl) rfl rfl ?_
            refine g_getA (q2 := 151) 220 (gd rfl) rfl rfl rfl rfl ?_
            refine g_iload_n 221 (gd rfl) rfl rfl ?_
            refine g_iaload 222 (gd rfl) rfl (n := 32) rfl (in_ix i215 rfl) (fun z221 e221 => ?_)
            have i221 := inv_I hIc205 (n := 32) (t := 0) (-1) 31 rfl (in_ix i215 rfl) rfl e221
            refine g_istore 224 (gd rfl) rfl (Nat.le_of_ble_eq_true rfl) ?_
            refine g_aload_n 225 (gd rfl) rfl rfl ?_
            refine g_getA (q2 := 151) 228 (gd rfl) rfl rfl rfl rfl ?_
            refine g_iload_n 229 (gd rfl) rfl rfl ?_
            refine g_iload_n 230 (gd rfl) rfl rfl ?_
            refine g_iastore 231 (gd rfl) rfl (n := 32) rfl (in_ix i215 rfl) ?_
            have hI230 := inv_sI (q := 151) (j := z214.toNatClampNeg) hIc205 rfl (in_w (-1) 31 i206 rfl)
            refine g_aload_n 232 (gd rfl) rfl rfl ?_
            refine g_getA (q2 := 151) 235 (gd rfl) rfl rfl rfl rfl ?_
            refine g_iload_n 236 (gd rfl) rfl rfl ?_
            refine g_iload_n 237 (gd rfl) rfl rfl ?_
            refine g_iastore 238 (gd rfl) rfl (n := 32) rfl (in_ix i206 rfl) ?_
            have hI237 := inv_sI (q := 151) (j := y205_2.toNatClampNeg) hI230 rfl (in_w (-1) 31 i215 rfl)
            refine g_iload 240 (gd rfl) rfl rfl ?_
            refine g_istore_n 241 (gd rfl) rfl (Nat.le_of_ble_eq_true rfl) ?_
            refine g_goto 205 (gd rfl) rfl ?_
            have n205 : ∃ n, FLP (sI (sI sc205 151 z214.toNatClampNeg y205_2) 151 y205_2.toNatClampNeg z214) (z221).toInt n := by first | (obtain ⟨n, _, hn⟩ := p191a; exact ⟨n, hn⟩) | (obtain ⟨n, hn⟩ := g205_0; obtain ⟨k, hk, hf⟩ := flp_s hn i206.1 e214 e221 i221; exact ⟨k, hf⟩)
            have n205a : y186_1.toInt = 1 := by first | exact g205_1 | (first | exact g205_1 | (have hj := j186_1; unfold In at hj; have hc := c187; omega))
            have n205b : cM ((sI (sI sc205 151 z214.toNatClampNeg y205_2) 151 y205_2.toNatClampNeg z214).1 151) (s.2.2.1 109 20).toNatClampNeg < cM (sc186.1 151) (s.2.2.1 109 20).toNatClampNeg ∨ (cM ((sI (sI sc205 151 z214.toNatClampNeg y205_2) 151 y205_2.toNatClampNeg z214).1 151) (s.2.2.1 109 20).toNatClampNeg ≤ cM (sc186.1 151) (s.2.2.1 109 20).toNatClampNeg ∧ ((0 ≤ (z221).toInt ∧ ((sI (sI sc205 151 z214.toNatClampNeg y205_2) 151 y205_2.toNatClampNeg z214).1 151 (z221).toNatClampNeg).toInt < 0) ∨ (y205_1).toInt = 0)) := by first | exact Or.inr ⟨by rw [hF191.1 151 rfl]; exact Nat.le_refl _, Or.inl ⟨i196.1, p191b i196.1⟩⟩ | exact Or.inr ⟨by rw [hF191.1 151 rfl]; exact Nat.le_refl _, Or.inr (by decide)⟩ | (obtain ⟨n, hn⟩ := g205_0; have hu := flp_u hn i206.1; have hf := cM_fl (f := sc205.1 151) (N := (s.2.2.1 109 20).toNatClampNeg) i206 i215 (by show y205_2.toInt.toNat < (s.2.2.1 109 20).toInt.toNat; have h := hu.2.2.1; unfold nnq at h; rw [hFc205.2.2.1 109 20 rfl] at h; have h0 := i206.1; omega); rw [show ((sI (sI sc205 151 z214.toNatClampNeg y205_2) 151 y205_2.toNatClampNeg z214)).1 151 = upd (upd (sc205.1 151) z214.toNatClampNeg y205_2) y205_2.toNatClampNeg z214 from (by rw [sI_q, sI_q])]; rcases g205_2 with h | ⟨h1, h2⟩; (exact Or.inl (by omega)); (rcases h2 with h2 | h2; (exact Or.inl (by have h3 := hf.2 h2.2; omega)); (exact Or.inr ⟨by omega, Or.inr h2⟩)))
            have m205 : lst (FLP (sI (sI sc205 151 z214.toNatClampNeg y205_2) 151 y205_2.toNatClampNeg z214) (z221).toInt) < k205 := by have hl := lst_ok g205_0; obtain ⟨k, hk, hf⟩ := flp_s hl.1 i206.1 e214 e221 i221; have h2 := (lst_ok ⟨k, hf⟩).2 k hf; have hm := mm205; omega
            exact gg_w (by first | exact Nat.le_add_right _ _ | exact gw2 | exact gw3 | exact gwe rfl | exact gwf rfl | exact gwg rfl | exact gwh rfl | omega) (gg_f (gf_cons rfl (gf_cons rfl (gf_cons rfl gf_nil))) (ih205  (sI (sI sc205 151 z214.toNatClampNeg y205_2) 151 y205_2.toNatClampNeg z214) y205_1 z221 hI237 (fr_sI rfl (fr_sI rfl hFc205)) (in_w 0 1 j205_1 rfl) (in_w (-1) 31 i221 rfl) n205 n205a n205b m205))
      refine g_iload_n 187 (gd rfl) rfl rfl ?_
      refine g_if_eq 190 247 (gd rfl) rfl rfl (fun c187 => ?_) (fun c187 => ?_)
      · skip
        have i187 := z_eq 0 0 c187 j186_1 rfl
        exact g_return (gd rfl) rfl (hP _ _ ⟨sc186, hIc186, hFc186, rfl, rfl⟩)
      · skip
        have i187 := z_ne 1 1 c187 j186_1 rfl
        refine g_aload_n 191 (gd rfl) rfl rfl ?_
        have p191 : PP sc186 := by exact g186_0
        refine g_callv (X := _) (As := []) (r := []) (b := A 109) (q := 109) 194 (gd rfl) rfl rfl rfl rfl rfl (ww_o rfl) (Nat.le_of_ble_eq_true rfl) (Nat.zero_le _) (Nat.zero_le _) (k_361 (by first | exact dq1 hd rfl | exact dq0 hd rfl | exact dq2 hd rfl | exact dq3 hd rfl | omega) hIc186 p191) (fun e u h => h) (fun v u h => ?_)
        obtain ⟨s191, hI191, hF191, z191, rfl, rfl, i191, p191a, p191b⟩ := h
        show GG _ _ _ _ _ _ _ _ [.int z191] _ _ _
        refine g_istore_n 195 (gd rfl) rfl (Nat.le_of_ble_eq_true rfl) ?_
        refine g_iload_n 196 (gd rfl) rfl rfl ?_
        refine g_if_lt 199 203 (gd rfl) rfl rfl (fun c196 => ?_) (fun c196 => ?_)
        · skip
          have i196 := z_lt (-1) (-1) c196 i191 rfl
          refine g_iconst 0 204 (gd rfl) rfl rfl ?_
          refine g_istore_n 205 (gd rfl) rfl (Nat.le_of_ble_eq_true rfl) ?_
          have n205 : ∃ n, FLP s191 (z191).toInt n := by first | (obtain ⟨n, _, hn⟩ := p191a; exact ⟨n, hn⟩) | (obtain ⟨n, hn⟩ := g205_0; obtain ⟨k, hk, hf⟩ := flp_s hn i206.1 e214 e221 i221; exact ⟨k, hf⟩)
          have n205a : y186_1.toInt = 1 := by first | exact g205_1 | (have hj := j186_1; unfold In at hj; have hc := c187; omega)
          have n205b : cM (s191.1 151) (s.2.2.1 109 20).toNatClampNeg < cM (sc186.1 151) (s.2.2.1 109 20).toNatClampNeg ∨ (cM (s191.1 151) (s.2.2.1 109 20).toNatClampNeg ≤ cM (sc186.1 151) (s.2.2.1 109 20).toNatClampNeg ∧ ((0 ≤ (z191).toInt ∧ (s191.1 151 (z191).toNatClampNeg).toInt < 0) ∨ ((Int32.ofInt 0)).toInt = 0)) := by first | exact Or.inr ⟨by rw [hF191.1 151 rfl]; exact Nat.le_refl _, Or.inl ⟨i196.1, p191b i196.1⟩⟩ | exact Or.inr ⟨by rw [hF191.1 151 rfl]; exact Nat.le_refl _, Or.inr (by decide)⟩ | (obtain ⟨n, hn⟩ := g205_0; have hu := flp_u hn i206.1; have hf := cM_fl (f := sc205.1 151) (N := (s.2.2.1 109 20).toNatClampNeg) i206 i215 (by show y205_2.toInt.toNat < (s.2.2.1 109 20).toInt.toNat; have h := hu.2.2.1; unfold nnq at h; rw [hFc205.2.2.1 109 20 rfl] at h; have h0 := i206.1; omega); rw [show (s191).1 151 = upd (upd (sc205.1 151) z214.toNatClampNeg y205_2) y205_2.toNatClampNeg z214 from (by rw [sI_q, sI_q])]; rcases g205_2 with h | ⟨h1, h2⟩; (exact Or.inl (by omega)); (rcases h2 with h2 | h2; (exact Or.inl (by have h3 := hf.2 h2.2; omega)); (exact Or.inr ⟨by omega, Or.inr h2⟩)))
          have m205 : lst (FLP s191 (z191).toInt) < 33 := by obtain ⟨n, hn1, hn⟩ := p191a; have h := (lst_ok ⟨n, hn⟩).2 n hn; omega
          exact gg_w (by first | exact Nat.le_add_right _ _ | exact gw2 | exact gw3 | exact gwe rfl | exact gwf rfl | exact gwg rfl | exact gwh rfl | omega) (gg_f (gf_cons rfl (gf_cons rfl (gf_cons rfl gf_nil))) (ct205 (33) s191 (Int32.ofInt 0) z191 hI191 (fr_tr rfl hFc186 hF191) (in_w 0 1 (in_c 0 rfl) rfl) (in_w (-1) 31 i196 rfl) n205 n205a n205b m205))
        · skip
          have i196 := z_ge 0 31 c196 i191 rfl
          refine g_iconst 1 200 (gd rfl) rfl rfl ?_
          refine g_goto 204 (gd rfl) rfl ?_
          refine g_istore_n 205 (gd rfl) rfl (Nat.le_of_ble_eq_true rfl) ?_
          have n205 : ∃ n, FLP s191 (z191).toInt n := by first | (obtain ⟨n, _, hn⟩ := p191a; exact ⟨n, hn⟩) | (obtain ⟨n, hn⟩ := g205_0; obtain ⟨k, hk, hf⟩ := flp_s hn i206.1 e214 e221 i221; exact ⟨k, hf⟩)
          have n205a : y186_1.toInt = 1 := by first | exact g205_1 | (have hj := j186_1; unfold In at hj; have hc := c187; omega)
          have n205b : cM (s191.1 151) (s.2.2.1 109 20).toNatClampNeg < cM (sc186.1 151) (s.2.2.1 109 20).toNatClampNeg ∨ (cM (s191.1 151) (s.2.2.1 109 20).toNatClampNeg ≤ cM (sc186.1 151) (s.2.2.1 109 20).toNatClampNeg ∧ ((0 ≤ (z191).toInt ∧ (s191.1 151 (z191).toNatClampNeg).toInt < 0) ∨ ((Int32.ofInt 1)).toInt = 0)) := by first | exact Or.inr ⟨by rw [hF191.1 151 rfl]; exact Nat.le_refl _, Or.inl ⟨i196.1, p191b i196.1⟩⟩ | exact Or.inr ⟨by rw [hF191.1 151 rfl]; exact Nat.le_refl _, Or.inr (by decide)⟩ | (obtain ⟨n, hn⟩ := g205_0; have hu := flp_u hn i206.1; have hf := cM_fl (f := sc205.1 151) (N := (s.2.2.1 109 20).toNatClampNeg) i206 i215 (by show y205_2.toInt.toNat < (s.2.2.1 109 20).toInt.toNat; have h := hu.2.2.1; unfold nnq at h; rw [hFc205.2.2.1 109 20 rfl] at h; have h0 := i206.1; omega); rw [show (s191).1 151 = upd (upd (sc205.1 151) z214.toNatClampNeg y205_2) y205_2.toNatClampNeg z214 from (by rw [sI_q, sI_q])]; rcases g205_2 with h | ⟨h1, h2⟩; (exact Or.inl (by omega)); (rcases h2 with h2 | h2; (exact Or.inl (by have h3 := hf.2 h2.2; omega)); (exact Or.inr ⟨by omega, Or.inr h2⟩)))
          have m205 : lst (FLP s191 (z191).toInt) < 33 := by obtain ⟨n, hn1, hn⟩ := p191a; have h := (lst_ok ⟨n, hn⟩).2 n hn; omega
          exact gg_w (by first | exact Nat.le_add_right _ _ | exact gw2 | exact gw3 | exact gwe rfl | exact gwf rfl | exact gwg rfl | exact gwh rfl | omega) (gg_f (gf_cons rfl (gf_cons rfl (gf_cons rfl gf_nil))) (ct205 (33) s191 (Int32.ofInt 1) z191 hI191 (fr_tr rfl hFc186 hF191) (in_w 0 1 (in_c 1 rfl) rfl) (in_w (-1) 31 i196 rfl) n205 n205a n205b m205))
  have ct163 : ∀ (k163 : Nat) (sc163 : GS) (y163_1 : Int32), Inv sc163 → Fr fm_360 s sc163 → (In y163_1 0 32) → (PWI sc163) → (∀ k : Nat, (k : Int) < (y163_1).toInt → (sc163.1 151 k).toInt < 0) → 32 - (y163_1).toInt < (k163 : Int) → GG Z (d - 1) 360 post (gx xp) (2138468 + k163 * 900) 163 (fun j => xlook j [(0, .ref (A 109)), (1, .int y163_1)]) [] (WW Z A sc163 ++ ex) 0 0 := by
    intro k163
    induction k163 with
    | zero => intro sc163 y163_1 hIc163 hFc163 j163_1 g163_0 g163_1 mm163; exact m_no mm163 j163_1 rfl
    | succ k163 ih163 =>
      intro sc163 y163_1 hIc163 hFc163 j163_1 g163_0 g163_1 mm163
      refine gg_w (M := 2138468 + k163 * 900 + 900) gws ?_
      refine g_iload_n 164 (gd rfl) rfl rfl ?_
      refine g_aload_n 165 (gd rfl) rfl rfl ?_
      refine g_getI 168 (gd rfl) rfl rfl rfl (fun z165 e165 => ?_)
      have q165 : u_109_20 = z165 := (fr_F e_109_20 hFc163 rfl).trans e165.symm
      subst q165
      refine g_cmp_ge 171 184 (gd rfl) rfl rfl (fun c168 => ?_) (fun c168 => ?_)
      · skip
        refine g_iconst 1 185 (gd rfl) rfl rfl ?_
        refine g_istore_n 186 (gd rfl) rfl (Nat.le_of_ble_eq_true rfl) ?_
        have n186 : PP sc163 := by first | exact pp_0 g163_0 (fun k hk => g163_1 k (by unfold nnq at hk; rw [hFc163.2.2.1 109 20 rfl, ← e_109_20] at hk; have a0 := in_u ro_109_20; have a1 := in_u ro_109_19; have a2 := in_u j163_1; have a3 := in_u ((in_c 1 rfl)); omega)) | (obtain ⟨n, hn⟩ := g205_0; exact flp_pp hn (by have a0 := in_u ro_109_20; have a1 := in_u ro_109_19; have a2 := in_u j163_1; have a3 := in_u ((in_c 1 rfl)); omega))
        have m186 : 2 * cM (sc163.1 151) (s.2.2.1 109 20).toNatClampNeg + ((Int32.ofInt 1)).toInt.toNat < 66 := by have h := cM_le (sc163.1 151) (s.2.2.1 109 20).toNatClampNeg; have hn : (s.2.2.1 109 20).toNatClampNeg ≤ 32 := (by rw [← e_109_20]; show u_109_20.toInt.toNat ≤ 32; have a0 := in_u ro_109_20; have a1 := in_u ro_109_19; have a2 := in_u j163_1; have a3 := in_u ((in_c 1 rfl)); omega); have h1 : (Int32.ofInt 1).toInt.toNat = 1 := rfl; omega
        exact gg_w (by first | exact Nat.le_add_right _ _ | exact gw2 | exact gw3 | exact gwe rfl | exact gwf rfl | exact gwg rfl | exact gwh rfl | omega) (gg_f (gf_cons rfl (gf_cons rfl gf_nil)) (ct186 (66) sc163 (Int32.ofInt 1) hIc163 hFc163 (in_w 0 1 (in_c 1 rfl) rfl) n186 m186))
      · skip
        have i168 := r_lt1 0 31 c168 j163_1 ro_109_20 rfl
        have i168a := r_lt2 1 32 c168 j163_1 ro_109_20 rfl
        refine g_aload_n 172 (gd rfl) rfl rfl ?_
        refine g_getA (q2 := 151) 175 (gd rfl) rfl rfl rfl rfl ?_
        refine g_iload_n 176 (gd rfl) rfl rfl ?_
        refine g_iconst (-1) 177 (gd rfl) rfl rfl ?_
        refine g_iastore 178 (gd rfl) rfl (n := 32) rfl (in_ix i168 rfl) ?_
        have hI177 := inv_sI (q := 151) (j := y163_1.toNatClampNeg) hIc163 rfl (in_w (-1) 31 (in_c (-1) rfl) rfl)
        refine g_iinc 181 (gd rfl) rfl rfl (Nat.le_of_ble_eq_true rfl) (fun z178 e178 => ?_)
        have i178 := in_add 1 32 e178 i168 (in_c 1 rfl) rfl rfl
        refine g_goto 163 (gd rfl) rfl ?_
        have n163 : PWI (sI sc163 151 y163_1.toNatClampNeg (Int32.ofInt (-1))) := by first | exact g26_0 | exact pwi_cg g163_0 (sI_p rfl) rfl rfl rfl
        have n163a : ∀ k : Nat, (k : Int) < (z178).toInt → ((sI sc163 151 y163_1.toNatClampNeg (Int32.ofInt (-1))).1 151 k).toInt < 0 := by first | (intro k hk; exfalso; have h0 : (Int32.ofInt 0).toInt = 0 := rfl; omega) | (intro k hk; rw [sI_q]; unfold upd; have e3 : y163_1.toNatClampNeg = y163_1.toInt.toNat := rfl; by_cases c : k = y163_1.toNatClampNeg; (rw [if_pos c]; decide); (rw [if_neg c]; exact g163_1 k (by have a0 := in_u i168a; have a1 := in_u ro_109_19; have a2 := in_u i168; have a3 := in_u i178; have a4 := t_add e178 i168 (in_c 1 rfl) rfl; have a5 := in_u ((in_c 1 rfl)); omega)))
        exact gg_w (by first | exact Nat.le_add_right _ _ | exact gw2 | exact gw3 | exact gwe rfl | exact gwf rfl | exact gwg rfl | exact gwh rfl | omega) (gg_f (gf_cons rfl (gf_cons rfl gf_nil)) (ih163 (sI sc163 151 y163_1.toNatClampNeg (Int32.ofInt (-1))) z178 hI177 (fr_sI rfl hFc163) (in_w 0 32 i178 rfl) n163 n163a (m_up mm163 (t_add e178 i168 (in_c 1 rfl) rfl) (in_w 1 1 (in_c 1 rfl) rfl))))
  have ct26 : ∀ (k26 : Nat) (sc26 : GS) (y26_1 : Int32), Inv sc26 → Fr fm_360 s sc26 → (In y26_1 0 160) → (PWI sc26) → 160 - (y26_1).toInt < (k26 : Int) → GG Z (d - 1) 360 post (gx xp) (2168169 + k26 * 900) 26 (fun j => xlook j [(0, .ref (A 109)), (1, .int y26_1)]) [] (WW Z A sc26 ++ ex) 0 0 := by
    intro k26
    induction k26 with
    | zero => intro sc26 y26_1 hIc26 hFc26 j26_1 g26_0 mm26; exact m_no mm26 j26_1 rfl
    | succ k26 ih26 =>
      intro sc26 y26_1 hIc26 hFc26 j26_1 g26_0 mm26
      refine gg_w (M := 2168169 + k26 * 900 + 900) gws ?_
      refine g_iload_n 27 (gd rfl) rfl rfl ?_
      refine g_sipush 160 30 (gd rfl) rfl rfl ?_
      refine g_cmp_ge 33 161 (gd rfl) rfl rfl (fun c30 => ?_) (fun c30 => ?_)
      · skip
        have i30 := r_le2 160 160 c30 (in_c 160 rfl) j26_1 rfl
        refine g_iconst 0 162 (gd rfl) rfl rfl ?_
        refine g_istore_n 163 (gd rfl) rfl (Nat.le_of_ble_eq_true rfl) ?_
        have n163 : PWI sc26 := by first | exact g26_0 | exact pwi_cg g163_0 (sI_p rfl) rfl rfl rfl
        have n163a : ∀ k : Nat, (k : Int) < ((Int32.ofInt 0)).toInt → (sc26.1 151 k).toInt < 0 := by first | (intro k hk; exfalso; have h0 : (Int32.ofInt 0).toInt = 0 := rfl; omega) | (intro k hk; rw [sI_q]; unfold upd; have e3 : y163_1.toNatClampNeg = y163_1.toInt.toNat := rfl; by_cases c : k = y163_1.toNatClampNeg; (rw [if_pos c]; decide); (rw [if_neg c]; exact g163_1 k (by have a0 := in_u ro_109_20; have a1 := in_u ro_109_19; have a2 := in_u i30; have a3 := in_u ((in_c 0 rfl)); omega)))
        exact gg_w (by first | exact Nat.le_add_right _ _ | exact gw2 | exact gw3 | exact gwe rfl | exact gwf rfl | exact gwg rfl | exact gwh rfl | omega) (gg_f (gf_cons rfl (gf_cons rfl gf_nil)) (ct163 33 sc26 (Int32.ofInt 0) hIc26 hFc26 (in_w 0 32 (in_c 0 rfl) rfl) n163 n163a (m_in 33 (in_w 0 32 (in_c 0 rfl) rfl) rfl)))
      · skip
        have i30 := r_lt1 0 159 c30 j26_1 (in_c 160 rfl) rfl
        refine g_aload_n 34 (gd rfl) rfl rfl ?_
        refine g_iload_n 35 (gd rfl) rfl rfl ?_
        refine g_callv (X := _) (As := [.int y26_1]) (r := []) (b := A 109) (q := 109) 38 (gd rfl) rfl rfl rfl rfl rfl (ww_o rfl) (Nat.le_of_ble_eq_true rfl) (mc := 0) (ms := 0) (Nat.zero_le _) (Nat.zero_le _) (P := fun v u => _) ?_ (fun e u h => h) (fun v u h => h)
        intro po35 xx35 hp35 hx35
        refine g_enter2 (k := 288) (N := 300) (by first | exact dq1 hd rfl | exact dq0 hd rfl | exact dq2 hd rfl | exact dq3 hd rfl | omega) rfl (Nat.le_of_ble_eq_true rfl) ?_
        refine g_aload_n 1 (gd rfl) rfl rfl ?_
        refine g_getA (q2 := 112) 4 (gd rfl) rfl rfl rfl rfl ?_
        refine g_aload_n 5 (gd rfl) rfl rfl ?_
        refine g_getI 8 (gd rfl) rfl rfl rfl (fun z35x5 e35x5 => ?_)
        have q35x5 : u_109_19 = z35x5 := (fr_F e_109_19 hFc26 rfl).trans e35x5.symm
        subst q35x5
        refine g_iload_n 9 (gd rfl) rfl rfl ?_
        refine g_iadd 10 (gd rfl) rfl (fun z35x9 e35x9 => ?_)
        have i35x9 := in_add 0 319 e35x9 ro_109_19 i30 rfl rfl
        refine g_baload 11 (gd rfl) rfl (n := 480) rfl (in_ix i35x9 rfl) (fun z35x10 e35x10 => ?_)
        have i35x10 := inv_I hIc26 (n := 480) (t := 3) 0 1 rfl (in_ix i35x9 rfl) rfl e35x10
        refine g_if_eq 14 43 (gd rfl) rfl rfl (fun c35x11 => ?_) (fun c35x11 => ?_)
        · skip
          have i35x11 := z_eq 0 0 c35x11 i35x10 rfl
          refine g_iconst 0 44 (gd rfl) rfl rfl ?_
          refine g_ireturn (gd rfl) rfl (nb01 (in_w 0 1 (in_c 0 rfl) rfl)) (hp35 _ _ ?_)
          show GG _ _ _ _ _ _ _ _ [.int (Int32.ofInt 0)] _ _ _
          refine g_if_eq 41 155 (gd rfl) rfl rfl (fun c38 => ?_) (fun c38 => ?_)
          · skip
            refine g_iinc 158 (gd rfl) rfl rfl (Nat.le_of_ble_eq_true rfl) (fun z155 e155 => ?_)
            have i155 := in_add 1 160 e155 i30 (in_c 1 rfl) rfl rfl
            refine g_goto 26 (gd rfl) rfl ?_
            have n26 : PWI sc26 := by exact g26_0
            exact gg_w (by first | exact Nat.le_add_right _ _ | exact gw2 | exact gw3 | exact gwe rfl | exact gwf rfl | exact gwg rfl | exact gwh rfl | omega) (gg_f (gf_cons rfl (gf_cons rfl gf_nil)) (ih26 sc26 z155 hIc26 hFc26 (in_w 0 160 i155 rfl) n26 (m_up mm26 (t_add e155 i30 (in_c 1 rfl) rfl) (in_w 1 1 (in_c 1 rfl) rfl))))
          · skip
            exact zn_ne c38 (in_c 0 rfl) rfl
        · skip
          have i35x11 := z_ne 1 1 c35x11 i35x10 rfl
          refine g_aload_n 15 (gd rfl) rfl rfl ?_
          refine g_getA (q2 := 113) 18 (gd rfl) rfl rfl rfl rfl ?_
          refine g_aload_n 19 (gd rfl) rfl rfl ?_
          refine g_getI 22 (gd rfl) rfl rfl rfl (fun z35x19 e35x19 => ?_)
          have q35x19 : u_109_19 = z35x19 := (fr_F e_109_19 hFc26 rfl).trans e35x19.symm
          subst q35x19
          refine g_iload_n 23 (gd rfl) rfl rfl ?_
          refine g_iadd 24 (gd rfl) rfl (fun z35x23 e35x23 => ?_)
          have i35x23 := in_add 0 319 e35x23 ro_109_19 i30 rfl rfl
          refine g_iaload 25 (gd rfl) rfl (n := 480) rfl (in_ix i35x23 rfl) (fun z35x24 e35x24 => ?_)
          have i35x24 := inv_I hIc26 (n := 480) (t := 0) 0 31 rfl (in_ix i35x23 rfl) rfl e35x24
          refine g_aload_n 26 (gd rfl) rfl rfl ?_
          refine g_getA (q2 := 114) 29 (gd rfl) rfl rfl rfl rfl ?_
          refine g_aload_n 30 (gd rfl) rfl rfl ?_
          refine g_getI 33 (gd rfl) rfl rfl rfl (fun z35x30 e35x30 => ?_)
          have q35x30 : u_109_19 = z35x30 := (fr_F e_109_19 hFc26 rfl).trans e35x30.symm
          subst q35x30
          refine g_iload_n 34 (gd rfl) rfl rfl ?_
          refine g_iadd 35 (gd rfl) rfl (fun z35x34 e35x34 => ?_)
          have i35x34 := in_add 0 319 e35x34 ro_109_19 i30 rfl rfl
          refine g_iaload 36 (gd rfl) rfl (n := 480) rfl (in_ix i35x34 rfl) (fun z35x35 e35x35 => ?_)
          have i35x35 := inv_I hIc26 (n := 480) (t := 0) 0 31 rfl (in_ix i35x34 rfl) rfl e35x35
          refine g_cmp_eq 39 43 (gd rfl) rfl rfl (fun c35x36 => ?_) (fun c35x36 => ?_)
          · skip
            refine g_iconst 0 44 (gd rfl) rfl rfl ?_
            refine g_ireturn (gd rfl) rfl (nb01 (in_w 0 1 (in_c 0 rfl) rfl)) (hp35 _ _ ?_)
            show GG _ _ _ _ _ _ _ _ [.int (Int32.ofInt 0)] _ _ _
            refine g_if_eq 41 155 (gd rfl) rfl rfl (fun c38 => ?_) (fun c38 => ?_)
            · skip
              refine g_iinc 158 (gd rfl) rfl rfl (Nat.le_of_ble_eq_true rfl) (fun z155 e155 => ?_)
              have i155 := in_add 1 160 e155 i30 (in_c 1 rfl) rfl rfl
              refine g_goto 26 (gd rfl) rfl ?_
              have n26 : PWI sc26 := by exact g26_0
              exact gg_w (by first | exact Nat.le_add_right _ _ | exact gw2 | exact gw3 | exact gwe rfl | exact gwf rfl | exact gwg rfl | exact gwh rfl | omega) (gg_f (gf_cons rfl (gf_cons rfl gf_nil)) (ih26 sc26 z155 hIc26 hFc26 (in_w 0 160 i155 rfl) n26 (m_up mm26 (t_add e155 i30 (in_c 1 rfl) rfl) (in_w 1 1 (in_c 1 rfl) rfl))))
            · skip
              exact zn_ne c38 (in_c 0 rfl) rfl
          · skip
            refine g_iconst 1 40 (gd rfl) rfl rfl ?_
            refine g_goto 44 (gd rfl) rfl ?_
            refine g_ireturn (gd rfl) rfl (nb01 (in_w 0 1 (in_c 1 rfl) rfl)) (hp35 _ _ ?_)
            show GG _ _ _ _ _ _ _ _ [.int (Int32.ofInt 1)] _ _ _
            refine g_if_eq 41 155 (gd rfl) rfl rfl (fun c38 => ?_) (fun c38 => ?_)
            · skip
              exact zn_eq c38 (in_c 1 rfl) rfl
            · skip
              refine g_aload_n 42 (gd rfl) rfl rfl ?_
              refine g_getA (q2 := 113) 45 (gd rfl) rfl rfl rfl rfl ?_
              refine g_aload_n 46 (gd rfl) rfl rfl ?_
              refine g_getI 49 (gd rfl) rfl rfl rfl (fun z46 e46 => ?_)
              have q46 : u_109_19 = z46 := (fr_F e_109_19 hFc26 rfl).trans e46.symm
              subst q46
              refine g_iload_n 50 (gd rfl) rfl rfl ?_
              refine g_iadd 51 (gd rfl) rfl (fun z50 e50 => ?_)
              have i50 := in_add 0 319 e50 ro_109_19 i30 rfl rfl
              refine g_iaload 52 (gd rfl) rfl (n := 480) rfl (in_ix i50 rfl) (fun z51 e51 => ?_)
              have i51 := inv_I hIc26 (n := 480) (t := 0) 0 31 rfl (in_ix i50 rfl) rfl e51
              refine g_istore_n 53 (gd rfl) rfl (Nat.le_of_ble_eq_true rfl) ?_
              refine g_aload_n 54 (gd rfl) rfl rfl ?_
              refine g_getA (q2 := 114) 57 (gd rfl) rfl rfl rfl rfl ?_
              refine g_aload_n 58 (gd rfl) rfl rfl ?_
              refine g_getI 61 (gd rfl) rfl rfl rfl (fun z58 e58 => ?_)
              have q58 : u_109_19 = z58 := (fr_F e_109_19 hFc26 rfl).trans e58.symm
              subst q58
              refine g_iload_n 62 (gd rfl) rfl rfl ?_
              refine g_iadd 63 (gd rfl) rfl (fun z62 e62 => ?_)
              have i62 := in_add 0 319 e62 ro_109_19 i30 rfl rfl
              refine g_iaload 64 (gd rfl) rfl (n := 480) rfl (in_ix i62 rfl) (fun z63 e63 => ?_)
              have i63 := inv_I hIc26 (n := 480) (t := 0) 0 31 rfl (in_ix i62 rfl) rfl e63
              refine g_istore_n 65 (gd rfl) rfl (Nat.le_of_ble_eq_true rfl) ?_
              have hk65 := ke_n hIc26 (i := z35x9.toNatClampNeg) (by rw [← (show u_109_19 = sc26.2.2.1 109 19 from fr_F e_109_19 hFc26 rfl)]; show _ ≤ ((z35x9.toInt.toNat : Nat) : Int); have a0 := in_u ro_109_20; have a1 := in_u ro_109_19; have a2 := in_u i30; have a3 := in_u i63; have a4 := in_u i51; have a5 := in_u i62; have a6 := t_add e62 ro_109_19 i30 rfl; have a7 := in_u i50; have a8 := t_add e50 ro_109_19 i30 rfl; have a9 := in_u i35x34; have a10 := t_add e35x34 ro_109_19 i30 rfl; have a11 := in_u i35x23; have a12 := t_add e35x23 ro_109_19 i30 rfl; have a13 := in_u i35x9; have a14 := t_add e35x9 ro_109_19 i30 rfl; omega) (by rw [← (show u_109_19 = sc26.2.2.1 109 19 from fr_F e_109_19 hFc26 rfl)]; show ((z35x9.toInt.toNat : Nat) : Int) < _; have a0 := in_u ro_109_20; have a1 := in_u ro_109_19; have a2 := in_u i30; have a3 := in_u i63; have a4 := in_u i51; have a5 := in_u i62; have a6 := t_add e62 ro_109_19 i30 rfl; have a7 := in_u i50; have a8 := t_add e50 ro_109_19 i30 rfl; have a9 := in_u i35x34; have a10 := t_add e35x34 ro_109_19 i30 rfl; have a11 := in_u i35x23; have a12 := t_add e35x23 ro_109_19 i30 rfl; have a13 := in_u i35x9; have a14 := t_add e35x9 ro_109_19 i30 rfl; omega) (by rw [← e35x10]; exact c35x11); have ez65 : z50 = z35x9 := e50.trans e35x9.symm; have ey65 : z62 = z35x9 := e62.trans e35x9.symm
              refine g_aload_n 66 (gd rfl) rfl rfl ?_
              refine g_iload_n 67 (gd rfl) rfl rfl ?_
              refine g_callv (X := _) (As := [.int z51]) (r := []) (b := A 109) (q := 109) 70 (gd rfl) rfl rfl rfl rfl rfl (ww_o rfl) (Nat.le_of_ble_eq_true rfl) (Nat.zero_le _) (Nat.zero_le _) (k_359 (by first | exact dq1 hd rfl | exact dq0 hd rfl | exact dq2 hd rfl | exact dq3 hd rfl | omega) hIc26 (in_w 0 31 i51 rfl)) (fun e u h => h) (fun v u h => ?_)
              obtain ⟨z67, rfl, rfl, i67, p67⟩ := h
              show GG _ _ _ _ _ _ _ _ [.int z67] _ _ _
              refine g_aload_n 71 (gd rfl) rfl rfl ?_
              refine g_iload_n 72 (gd rfl) rfl rfl ?_
              refine g_callv (X := _) (As := [.int z63]) (r := [.int z67]) (b := A 109) (q := 109) 75 (gd rfl) rfl rfl rfl rfl rfl (ww_o rfl) (Nat.le_of_ble_eq_true rfl) (Nat.zero_le _) (Nat.zero_le _) (k_359 (by first | exact dq1 hd rfl | exact dq0 hd rfl | exact dq2 hd rfl | exact dq3 hd rfl | omega) hIc26 (in_w 0 31 i63 rfl)) (fun e u h => h) (fun v u h => ?_)
              obtain ⟨z72, rfl, rfl, i72, p72⟩ := h
              show GG _ _ _ _ _ _ _ _ [.int z72, .int z67] _ _ _
              refine g_cmp_eq 78 155 (gd rfl) rfl rfl (fun c75 => ?_) (fun c75 => ?_)
              · skip
                refine g_iinc 158 (gd rfl) rfl rfl (Nat.le_of_ble_eq_true rfl) (fun z155 e155 => ?_)
                have i155 := in_add 1 160 e155 i30 (in_c 1 rfl) rfl rfl
                refine g_goto 26 (gd rfl) rfl ?_
                have n26 : PWI sc26 := by exact g26_0
                exact gg_w (by first | exact Nat.le_add_right _ _ | exact gw2 | exact gw3 | exact gwe rfl | exact gwf rfl | exact gwg rfl | exact gwh rfl | omega) (gg_f (gf_cons rfl (gf_cons rfl gf_nil)) (ih26 sc26 z155 hIc26 hFc26 (in_w 0 160 i155 rfl) n26 (m_up mm26 (t_add e155 i30 (in_c 1 rfl) rfl) (in_w 1 1 (in_c 1 rfl) rfl))))
              · skip
                refine g_aload_n 79 (gd rfl) rfl rfl ?_
                refine g_iload_n 80 (gd rfl) rfl rfl ?_
                refine g_callv (X := _) (As := [.int z51]) (r := []) (b := A 109) (q := 109) 83 (gd rfl) rfl rfl rfl rfl rfl (ww_o rfl) (Nat.le_of_ble_eq_true rfl) (Nat.zero_le _) (Nat.zero_le _) (k_359 (by first | exact dq1 hd rfl | exact dq0 hd rfl | exact dq2 hd rfl | exact dq3 hd rfl | omega) hIc26 (in_w 0 31 i51 rfl)) (fun e u h => h) (fun v u h => ?_)
                obtain ⟨z80, rfl, rfl, i80, p80⟩ := h
                show GG _ _ _ _ _ _ _ _ [.int z80] _ _ _
                refine g_if_eq 86 95 (gd rfl) rfl rfl (fun c83 => ?_) (fun c83 => ?_)
                · skip
                  have i83 := z_eq 0 0 c83 i80 rfl
                  refine g_bipush 32 97 (gd rfl) rfl rfl ?_
                  refine g_iload_n 98 (gd rfl) rfl rfl ?_
                  refine g_imul 99 (gd rfl) rfl (fun z98 e98 => ?_)
                  have i98 := in_mulc 32 0 992 (Or.inl e98) i63 rfl rfl
                  refine g_iload_n 100 (gd rfl) rfl rfl ?_
                  refine g_iadd 101 (gd rfl) rfl (fun z100 e100 => ?_)
                  have i100 := in_add 0 1023 e100 i98 i51 rfl rfl
                  refine g_istore 103 (gd rfl) rfl (Nat.le_of_ble_eq_true rfl) ?_
                  refine g_aload_n 104 (gd rfl) rfl rfl ?_
                  refine g_getA (q2 := 152) 107 (gd rfl) rfl rfl rfl rfl ?_
                  refine g_iload 109 (gd rfl) rfl rfl ?_
                  refine g_aload_n 110 (gd rfl) rfl rfl ?_
                  refine g_getA (q2 := 115) 113 (gd rfl) rfl rfl rfl rfl ?_
                  refine g_aload_n 114 (gd rfl) rfl rfl ?_
                  refine g_getI 117 (gd rfl) rfl rfl rfl (fun z114 e114 => ?_)
                  have q114 : u_109_19 = z114 := (fr_F e_109_19 hFc26 rfl).trans e114.symm
                  subst q114
                  refine g_iload_n 118 (gd rfl) rfl rfl ?_
                  refine g_iadd 119 (gd rfl) rfl (fun z118 e118 => ?_)
                  have i118 := in_add 0 319 e118 ro_109_19 i30 rfl rfl
                  refine g_iaload 120 (gd rfl) rfl (n := 480) rfl (in_ix i118 rfl) (fun z119 e119 => ?_)
                  have i119 := inv_I hIc26 (n := 480) (t := 0) (-1000000) 1000000 rfl (in_ix i118 rfl) rfl e119
                  refine g_i2l 121 (gd rfl) rfl (fun z120 e120 => ?_)
                  have i120 := l_i e120 i119
                  refine g_aload_n 122 (gd rfl) rfl rfl ?_
                  refine g_getA (q2 := 152) 125 (gd rfl) rfl rfl rfl rfl ?_
                  refine g_iload 127 (gd rfl) rfl rfl ?_
                  refine g_laload 128 (gd rfl) rfl (n := 1024) rfl (in_ix i100 rfl) (fun z127 e127 => ?_)
                  refine g_lcmp 129 (gd rfl) rfl (fun z128 e128 => ?_)
                  have i128 := lc_in e128
                  refine g_if_ge 132 147 (gd rfl) rfl rfl (fun c129 => ?_) (fun c129 => ?_)
                  · skip
                    have i129 := z_ge 0 1 c129 i128 rfl
                    have c129a := lc_ge e128 c129
                    have i129a := lr_le1 (-9223372036854775808) 1000000 c129a (l_rng z127) i120 rfl
                    refine g_aload_n 148 (gd rfl) rfl rfl ?_
                    refine g_getA (q2 := 152) 151 (gd rfl) rfl rfl rfl rfl ?_
                    refine g_iload 153 (gd rfl) rfl rfl ?_
                    refine g_laload 154 (gd rfl) rfl (n := 1024) rfl (in_ix i100 rfl) (fun z153 e153 => ?_)
                    refine g_lastore 155 (gd rfl) rfl (n := 1024) rfl (in_ix i100 rfl) ?_
                    have hI154 := inv_sL (q := 152) (j := z100.toNatClampNeg) (x := z153) hIc26 rfl (l_rng z153)
                    refine g_iinc 158 (gd rfl) rfl rfl (Nat.le_of_ble_eq_true rfl) (fun z155 e155 => ?_)
                    have i155 := in_add 1 160 e155 i30 (in_c 1 rfl) rfl rfl
                    refine g_goto 26 (gd rfl) rfl ?_
                    have n26 : PWI (sL sc26 152 z100.toNatClampNeg z153) := by exact pwi_s (u := z63) (v := z51) (k := z100.toNatClampNeg) (w := z153) g26_0 i63 i51 (by show z100.toInt.toNat = 32 * z63.toInt.toNat + z51.toInt.toNat; have a0 := in_u ro_109_20; have a1 := in_u ro_109_19; have a2 := in_u i30; have a3 := in_u i100; have a4 := t_add e100 i98 i51 rfl; have a5 := in_u i51; have a6 := in_u i98; have a7 := (t_mulc 32 (Or.inl e98) i63 rfl).1; have a8 := in_u i63; have a9 := in_u i155; have a10 := t_add e155 i30 (in_c 1 rfl) rfl; have a11 := in_u ((in_c 1 rfl)); have a12 := tx_i2l e120; have a13 := in_u i119; have a14 := in_u i118; have a15 := t_add e118 ro_109_19 i30 rfl; have a16 := in_u i62; have a17 := t_add e62 ro_109_19 i30 rfl; have a18 := in_u i50; have a19 := t_add e50 ro_109_19 i30 rfl; have a20 := in_u i35x34; have a21 := t_add e35x34 ro_109_19 i30 rfl; have a22 := in_u i35x23; have a23 := t_add e35x23 ro_109_19 i30 rfl; have a24 := in_u i35x9; have a25 := t_add e35x9 ro_109_19 i30 rfl; omega) rfl rfl rfl (by simp [sL]) (Or.inl e153)
                    exact gg_w (by first | exact Nat.le_add_right _ _ | exact gw2 | exact gw3 | exact gwe rfl | exact gwf rfl | exact gwg rfl | exact gwh rfl | omega) (gg_f (gf_cons rfl (gf_cons rfl gf_nil)) (ih26 (sL sc26 152 z100.toNatClampNeg z153) z155 hI154 (fr_sL rfl hFc26) (in_w 0 160 i155 rfl) n26 (m_up mm26 (t_add e155 i30 (in_c 1 rfl) rfl) (in_w 1 1 (in_c 1 rfl) rfl))))
                  · skip
                    have i129 := z_lt (-1) (-1) c129 i128 rfl
                    have c129a := lc_lt e128 c129
                    have i129a := lr_lt2 (-999999) 9223372036854775807 c129a i120 (l_rng z127) rfl
                    refine g_aload_n 133 (gd rfl) rfl rfl ?_
                    refine g_getA (q2 := 115) 136 (gd rfl) rfl rfl rfl rfl ?_
                    refine g_aload_n 137 (gd rfl) rfl rfl ?_
                    refine g_getI 140 (gd rfl) rfl rfl rfl (fun z137 e137 => ?_)
                    have q137 : u_109_19 = z137 := (fr_F e_109_19 hFc26 rfl).trans e137.symm
                    subst q137
                    refine g_iload_n 141 (gd rfl) rfl rfl ?_
                    refine g_iadd 142 (gd rfl) rfl (fun z141 e141 => ?_)
                    have i141 := in_add 0 319 e141 ro_109_19 i30 rfl rfl
                    refine g_iaload 143 (gd rfl) rfl (n := 480) rfl (in_ix i141 rfl) (fun z142 e142 => ?_)
                    have i142 := inv_I hIc26 (n := 480) (t := 0) (-1000000) 1000000 rfl (in_ix i141 rfl) rfl e142
                    refine g_i2l 144 (gd rfl) rfl (fun z143 e143 => ?_)
                    have i143 := l_i e143 i142
                    refine g_goto 154 (gd rfl) rfl ?_
                    refine g_lastore 155 (gd rfl) rfl (n := 1024) rfl (in_ix i100 rfl) ?_
                    have hI154 := inv_sL (q := 152) (j := z100.toNatClampNeg) (x := z143) hIc26 rfl (l_rng z143)
                    refine g_iinc 158 (gd rfl) rfl rfl (Nat.le_of_ble_eq_true rfl) (fun z155 e155 => ?_)
                    have i155 := in_add 1 160 e155 i30 (in_c 1 rfl) rfl rfl
                    refine g_goto 26 (gd rfl) rfl ?_
                    have n26 : PWI (sL sc26 152 z100.toNatClampNeg z143) := by exact pwi_s (u := z63) (v := z51) (k := z100.toNatClampNeg) (w := z143) g26_0 i63 i51 (by show z100.toInt.toNat = 32 * z63.toInt.toNat + z51.toInt.toNat; have a0 := in_u ro_109_20; have a1 := in_u ro_109_19; have a2 := in_u i30; have a3 := in_u i100; have a4 := t_add e100 i98 i51 rfl; have a5 := in_u i51; have a6 := in_u i98; have a7 := (t_mulc 32 (Or.inl e98) i63 rfl).1; have a8 := in_u i63; have a9 := in_u i155; have a10 := t_add e155 i30 (in_c 1 rfl) rfl; have a11 := in_u ((in_c 1 rfl)); have a12 := tx_i2l e143; have a13 := in_u i142; have a14 := in_u i141; have a15 := t_add e141 ro_109_19 i30 rfl; have a16 := tx_i2l e120; have a17 := in_u i119; have a18 := in_u i118; have a19 := t_add e118 ro_109_19 i30 rfl; have a20 := in_u i62; have a21 := t_add e62 ro_109_19 i30 rfl; have a22 := in_u i50; have a23 := t_add e50 ro_109_19 i30 rfl; have a24 := in_u i35x34; have a25 := t_add e35x34 ro_109_19 i30 rfl; have a26 := in_u i35x23; have a27 := t_add e35x23 ro_109_19 i30 rfl; have a28 := in_u i35x9; have a29 := t_add e35x9 ro_109_19 i30 rfl; omega) rfl rfl rfl (by simp [sL]) (Or.inr ⟨(by rw [e63, ey65]; exact hk65.2), (by rw [e51, ez65]; exact hk65.1), (p72.mp (by intro h72; have h1 : ¬ z67.toInt ≠ 0 := (fun h => absurd (p80.mpr (p67.mp h)) (by have h2 := c83; omega)); have r67 := i67; have r72 := i72; unfold In at r67 r72; have h3 := c75; omega)), (fun h => absurd (p80.mpr h) (by have h2 := c83; omega)), i143⟩)
                    exact gg_w (by first | exact Nat.le_add_right _ _ | exact gw2 | exact gw3 | exact gwe rfl | exact gwf rfl | exact gwg rfl | exact gwh rfl | omega) (gg_f (gf_cons rfl (gf_cons rfl gf_nil)) (ih26 (sL sc26 152 z100.toNatClampNeg z143) z155 hI154 (fr_sL rfl hFc26) (in_w 0 160 i155 rfl) n26 (m_up mm26 (t_add e155 i30 (in_c 1 rfl) rfl) (in_w 1 1 (in_c 1 rfl) rfl))))
                · skip
                  have i83 := z_ne 1 1 c83 i80 rfl
                  refine g_bipush 32 88 (gd rfl) rfl rfl ?_
                  refine g_iload_n 89 (gd rfl) rfl rfl ?_
                  refine g_imul 90 (gd rfl) rfl (fun z89 e89 => ?_)
                  have i89 := in_mulc 32 0 992 (Or.inl e89) i51 rfl rfl
                  refine g_iload_n 91 (gd rfl) rfl rfl ?_
                  refine g_iadd 92 (gd rfl) rfl (fun z91 e91 => ?_)
                  have i91 := in_add 0 1023 e91 i89 i63 rfl rfl
                  refine g_goto 101 (gd rfl) rfl ?_
                  refine g_istore 103 (gd rfl) rfl (Nat.le_of_ble_eq_true rfl) ?_
                  refine g_aload_n 104 (gd rfl) rfl rfl ?_
                  refine g_getA (q2 := 152) 107 (gd rfl) rfl rfl rfl rfl ?_
                  refine g_iload 109 (gd rfl) rfl rfl ?_
                  refine g_aload_n 110 (gd rfl) rfl rfl ?_
                  refine g_getA (q2 := 115) 113 (gd rfl) rfl rfl rfl rfl ?_
                  refine g_aload_n 114 (gd rfl) rfl rfl ?_
                  refine g_getI 117 (gd rfl) rfl rfl rfl (fun z114 e114 => ?_)
                  have q114 : u_109_19 = z114 := (fr_F e_109_19 hFc26 rfl).trans e114.symm
                  subst q114
                  refine g_iload_n 118 (gd rfl) rfl rfl ?_
                  refine g_iadd 119 (gd rfl) rfl (fun z118 e118 => ?_)
                  have i118 := in_add 0 319 e118 ro_109_19 i30 rfl rfl
                  refine g_iaload 120 (gd rfl) rfl (n := 480) rfl (in_ix i118 rfl) (fun z119 e119 => ?_)
                  have i119 := inv_I hIc26 (n := 480) (t := 0) (-1000000) 1000000 rfl (in_ix i118 rfl) rfl e119
                  refine g_i2l 121 (gd rfl) rfl (fun z120 e120 => ?_)
                  have i120 := l_i e120 i119
                  refine g_aload_n 122 (gd rfl) rfl rfl ?_
                  refine g_getA (q2 := 152) 125 (gd rfl) rfl rfl rfl rfl ?_
                  refine g_iload 127 (gd rfl) rfl rfl ?_
                  refine g_laload 128 (gd rfl) rfl (n := 1024) rfl (in_ix i91 rfl) (fun z127 e127 => ?_)
                  refine g_lcmp 129 (gd rfl) rfl (fun z128 e128 => ?_)
                  have i128 := lc_in e128
                  refine g_if_ge 132 147 (gd rfl) rfl rfl (fun c129 => ?_) (fun c129 => ?_)
                  · skip
                    have i129 := z_ge 0 1 c129 i128 rfl
                    have c129a := lc_ge e128 c129
                    have i129a := lr_le1 (-9223372036854775808) 1000000 c129a (l_rng z127) i120 rfl
                    refine g_aload_n 148 (gd rfl) rfl rfl ?_
                    refine g_getA (q2 := 152) 151 (gd rfl) rfl rfl rfl rfl ?_
                    refine g_iload 153 (gd rfl) rfl rfl ?_
                    refine g_laload 154 (gd rfl) rfl (n := 1024) rfl (in_ix i91 rfl) (fun z153 e153 => ?_)
                    refine g_lastore 155 (gd rfl) rfl (n := 1024) rfl (in_ix i91 rfl) ?_
                    have hI154 := inv_sL (q := 152) (j := z91.toNatClampNeg) (x := z153) hIc26 rfl (l_rng z153)
                    refine g_iinc 158 (gd rfl) rfl rfl (Nat.le_of_ble_eq_true rfl) (fun z155 e155 => ?_)
                    have i155 := in_add 1 160 e155 i30 (in_c 1 rfl) rfl rfl
                    refine g_goto 26 (gd rfl) rfl ?_
                    have n26 : PWI (sL sc26 152 z91.toNatClampNeg z153) := by exact pwi_s (u := z51) (v := z63) (k := z91.toNatClampNeg) (w := z153) g26_0 i51 i63 (by show z91.toInt.toNat = 32 * z51.toInt.toNat + z63.toInt.toNat; have a0 := in_u ro_109_20; have a1 := in_u ro_109_19; have a2 := in_u i30; have a3 := in_u i91; have a4 := t_add e91 i89 i63 rfl; have a5 := in_u i63; have a6 := in_u i89; have a7 := (t_mulc 32 (Or.inl e89) i51 rfl).1; have a8 := in_u i51; have a9 := in_u i155; have a10 := t_add e155 i30 (in_c 1 rfl) rfl; have a11 := in_u ((in_c 1 rfl)); have a12 := tx_i2l e120; have a13 := in_u i119; have a14 := in_u i118; have a15 := t_add e118 ro_109_19 i30 rfl; have a16 := in_u i62; have a17 := t_add e62 ro_109_19 i30 rfl; have a18 := in_u i50; have a19 := t_add e50 ro_109_19 i30 rfl; have a20 := in_u i35x34; have a21 := t_add e35x34 ro_109_19 i30 rfl; have a22 := in_u i35x23; have a23 := t_add e35x23 ro_109_19 i30 rfl; have a24 := in_u i35x9; have a25 := t_add e35x9 ro_109_19 i30 rfl; omega) rfl rfl rfl (by simp [sL]) (Or.inl e153)
                    exact gg_w (by first | exact Nat.le_add_right _ _ | exact gw2 | exact gw3 | exact gwe rfl | exact gwf rfl | exact gwg rfl | exact gwh rfl | omega) (gg_f (gf_cons rfl (gf_cons rfl gf_nil)) (ih26 (sL sc26 152 z91.toNatClampNeg z153) z155 hI154 (fr_sL rfl hFc26) (in_w 0 160 i155 rfl) n26 (m_up mm26 (t_add e155 i30 (in_c 1 rfl) rfl) (in_w 1 1 (in_c 1 rfl) rfl))))
                  · skip
                    have i129 := z_lt (-1) (-1) c129 i128 rfl
                    have c129a := lc_lt e128 c129
                    have i129a := lr_lt2 (-999999) 9223372036854775807 c129a i120 (l_rng z127) rfl
                    refine g_aload_n 133 (gd rfl) rfl rfl ?_
                    refine g_getA (q2 := 115) 136 (gd rfl) rfl rfl rfl rfl ?_
                    refine g_aload_n 137 (gd rfl) rfl rfl ?_
                    refine g_getI 140 (gd rfl) rfl rfl rfl (fun z137 e137 => ?_)
                    have q137 : u_109_19 = z137 := (fr_F e_109_19 hFc26 rfl).trans e137.symm
                    subst q137
                    refine g_iload_n 141 (gd rfl) rfl rfl ?_
                    refine g_iadd 142 (gd rfl) rfl (fun z141 e141 => ?_)
                    have i141 := in_add 0 319 e141 ro_109_19 i30 rfl rfl
                    refine g_iaload 143 (gd rfl) rfl (n := 480) rfl (in_ix i141 rfl) (fun z142 e142 => ?_)
                    have i142 := inv_I hIc26 (n := 480) (t := 0) (-1000000) 1000000 rfl (in_ix i141 rfl) rfl e142
                    refine g_i2l 144 (gd rfl) rfl (fun z143 e143 => ?_)
                    have i143 := l_i e143 i142
                    refine g_goto 154 (gd rfl) rfl ?_
                    refine g_lastore 155 (gd rfl) rfl (n := 1024) rfl (in_ix i91 rfl) ?_
                    have hI154 := inv_sL (q := 152) (j := z91.toNatClampNeg) (x := z143) hIc26 rfl (l_rng z143)
                    refine g_iinc 158 (gd rfl) rfl rfl (Nat.le_of_ble_eq_true rfl) (fun z155 e155 => ?_)
                    have i155 := in_add 1 160 e155 i30 (in_c 1 rfl) rfl rfl
                    refine g_goto 26 (gd rfl) rfl ?_
                    have n26 : PWI (sL sc26 152 z91.toNatClampNeg z143) := by exact pwi_s (u := z51) (v := z63) (k := z91.toNatClampNeg) (w := z143) g26_0 i51 i63 (by show z91.toInt.toNat = 32 * z51.toInt.toNat + z63.toInt.toNat; have a0 := in_u ro_109_20; have a1 := in_u ro_109_19; have a2 := in_u i30; have a3 := in_u i91; have a4 := t_add e91 i89 i63 rfl; have a5 := in_u i63; have a6 := in_u i89; have a7 := (t_mulc 32 (Or.inl e89) i51 rfl).1; have a8 := in_u i51; have a9 := in_u i155; have a10 := t_add e155 i30 (in_c 1 rfl) rfl; have a11 := in_u ((in_c 1 rfl)); have a12 := tx_i2l e143; have a13 := in_u i142; have a14 := in_u i141; have a15 := t_add e141 ro_109_19 i30 rfl; have a16 := tx_i2l e120; have a17 := in_u i119; have a18 := in_u i118; have a19 := t_add e118 ro_109_19 i30 rfl; have a20 := in_u i62; have a21 := t_add e62 ro_109_19 i30 rfl; have a22 := in_u i50; have a23 := t_add e50 ro_109_19 i30 rfl; have a24 := in_u i35x34; have a25 := t_add e35x34 ro_109_19 i30 rfl; have a26 := in_u i35x23; have a27 := t_add e35x23 ro_109_19 i30 rfl; have a28 := in_u i35x9; have a29 := t_add e35x9 ro_109_19 i30 rfl; omega) rfl rfl rfl (by simp [sL]) (Or.inr ⟨(by rw [e51, ez65]; exact hk65.1), (by rw [e63, ey65]; exact hk65.2), p80.mp c83, (fun h => by have h1 := p72.mpr h; have h2 := p67.mpr (p80.mp c83); have r67 := i67; have r72 := i72; unfold In at r67 r72; have h3 := c75; omega), i143⟩)
                    exact gg_w (by first | exact Nat.le_add_right _ _ | exact gw2 | exact gw3 | exact gwe rfl | exact gwf rfl | exact gwg rfl | exact gwh rfl | omega) (gg_f (gf_cons rfl (gf_cons rfl gf_nil)) (ih26 (sL sc26 152 z91.toNatClampNeg z143) z155 hI154 (fr_sL rfl hFc26) (in_w 0 160 i155 rfl) n26 (m_up mm26 (t_add e155 i30 (in_c 1 rfl) rfl) (in_w 1 1 (in_c 1 rfl) rfl))))
  have ct2 : ∀ (k2 : Nat) (sc2 : GS) (y2_1 : Int32), Inv sc2 → Fr fm_360 s sc2 → (In y2_1 0 1024) → (∀ k : Nat, (k : Int) < (y2_1).toInt → (sc2.2.1 152 k).toInt = 9000000000000000) → 1024 - (y2_1).toInt < (k2 : Int) → GG Z (d - 1) 360 post (gx xp) (2313070 + k2 * 900) 2 (fun j => xlook j [(0, .ref (A 109)), (1, .int y2_1)]) [] (WW Z A sc2 ++ ex) 0 0 := by
    intro k2
    induction k2 with
    | zero => intro sc2 y2_1 hIc2 hFc2 j2_1 g2_0 mm2; exact m_no mm2 j2_1 rfl
    | succ k2 ih2 =>
      intro sc2 y2_1 hIc2 hFc2 j2_1 g2_0 mm2
      refine gg_w (M := 2313070 + k2 * 900 + 900) gws ?_
      refine g_iload_n 3 (gd rfl) rfl rfl ?_
      refine g_sipush 1024 6 (gd rfl) rfl rfl ?_
      refine g_cmp_ge 9 24 (gd rfl) rfl rfl (fun c6 => ?_) (fun c6 => ?_)
      · skip
        have i6 := r_le2 1024 1024 c6 (in_c 1024 rfl) j2_1 rfl
        refine g_iconst 0 25 (gd rfl) rfl rfl ?_
        refine g_istore_n 26 (gd rfl) rfl (Nat.le_of_ble_eq_true rfl) ?_
        have n26 : PWI sc2 := by (intro u v hu hv hp; exfalso; have h := g2_0 (32 * u + v) (by have a0 := in_u ro_109_20; have a1 := in_u ro_109_19; have a2 := in_u i6; have a3 := in_u ((in_c 0 rfl)); omega); unfold pwq at hp; omega)
        exact gg_w (by first | exact Nat.le_add_right _ _ | exact gw2 | exact gw3 | exact gwe rfl | exact gwf rfl | exact gwg rfl | exact gwh rfl | omega) (gg_f (gf_cons rfl (gf_cons rfl gf_nil)) (ct26 161 sc2 (Int32.ofInt 0) hIc2 hFc2 (in_w 0 160 (in_c 0 rfl) rfl) n26 (m_in 161 (in_w 0 160 (in_c 0 rfl) rfl) rfl)))
      · skip
        have i6 := r_lt1 0 1023 c6 j2_1 (in_c 1024 rfl) rfl
        refine g_aload_n 10 (gd rfl) rfl rfl ?_
        refine g_getA (q2 := 152) 13 (gd rfl) rfl rfl rfl rfl ?_
        refine g_iload_n 14 (gd rfl) rfl rfl ?_
        refine g_ldc2_w 9000000000000000 17 (gd rfl) rfl rfl ?_
        refine g_lastore 18 (gd rfl) rfl (n := 1024) rfl (in_ix i6 rfl) ?_
        have hI17 := inv_sL (q := 152) (j := y2_1.toNatClampNeg) (x := (Int64.ofInt 9000000000000000)) hIc2 rfl (l_rng (Int64.ofInt 9000000000000000))
        refine g_iinc 21 (gd rfl) rfl rfl (Nat.le_of_ble_eq_true rfl) (fun z18 e18 => ?_)
        have i18 := in_add 1 1024 e18 i6 (in_c 1 rfl) rfl rfl
        refine g_goto 2 (gd rfl) rfl ?_
        have n2 : ∀ k : Nat, (k : Int) < (z18).toInt → ((sL sc2 152 y2_1.toNatClampNeg (Int64.ofInt 9000000000000000)).2.1 152 k).toInt = 9000000000000000 := by first | (intro k hk; exfalso; have h0 : (Int32.ofInt 0).toInt = 0 := rfl; omega) | (intro k hk; have e2 : y2_1.toNatClampNeg = y2_1.toInt.toNat := rfl; rw [show ((sL sc2 152 y2_1.toNatClampNeg (Int64.ofInt 9000000000000000))).2.1 152 = vp_updL (sc2.2.1 152) y2_1.toNatClampNeg (Int64.ofInt 9000000000000000) from (by simp [sI, sL])]; by_cases c : k = y2_1.toNatClampNeg; (rw [c, ul_eq]; exact (by have hl : InL (Int64.ofInt 9000000000000000) 9000000000000000 9000000000000000 := l_c 9000000000000000 rfl; exact Int.le_antisymm hl.2 hl.1)); (rw [ul_ne c]; exact g2_0 k (by have a0 := in_u ro_109_20; have a1 := in_u ro_109_19; have a2 := in_u i6; have a3 := in_u i18; have a4 := t_add e18 i6 (in_c 1 rfl) rfl; have a5 := in_u ((in_c 1 rfl)); omega)))
        exact gg_w (by first | exact Nat.le_add_right _ _ | exact gw2 | exact gw3 | exact gwe rfl | exact gwf rfl | exact gwg rfl | exact gwh rfl | omega) (gg_f (gf_cons rfl (gf_cons rfl gf_nil)) (ih2 (sL sc2 152 y2_1.toNatClampNeg (Int64.ofInt 9000000000000000)) z18 hI17 (fr_sL rfl hFc2) (in_w 0 1024 i18 rfl) n2 (m_up mm2 (t_add e18 i6 (in_c 1 rfl) rfl) (in_w 1 1 (in_c 1 rfl) rfl))))
  refine g_enter2 (k := 360) (N := 3236470) (by first | exact dq1 hd rfl | exact dq0 hd rfl | exact dq2 hd rfl | exact dq3 hd rfl | omega) rfl (Nat.le_of_ble_eq_true rfl) ?_
  refine g_iconst 0 1 (gd rfl) rfl rfl ?_
  refine g_istore_n 2 (gd rfl) rfl (Nat.le_of_ble_eq_true rfl) ?_
  have n2 : ∀ k : Nat, (k : Int) < ((Int32.ofInt 0)).toInt → (s.2.1 152 k).toInt = 9000000000000000 := by first | (intro k hk; exfalso; have h0 : (Int32.ofInt 0).toInt = 0 := rfl; omega) | (intro k hk; have e2 : y2_1.toNatClampNeg = y2_1.toInt.toNat := rfl; rw [show (s).2.1 152 = vp_updL (sc2.2.1 152) y2_1.toNatClampNeg (Int64.ofInt 9000000000000000) from (by simp [sI, sL])]; by_cases c : k = y2_1.toNatClampNeg; (rw [c, ul_eq]; exact (by have hl : InL (Int64.ofInt 9000000000000000) 9000000000000000 9000000000000000 := l_c 9000000000000000 rfl; exact Int.le_antisymm hl.2 hl.1)); (rw [ul_ne c]; exact g2_0 k (by have a0 := in_u ro_109_20; have a1 := in_u ro_109_19; have a2 := in_u ((in_c 0 rfl)); omega)))
  exact gg_w (by first | exact Nat.le_of_ble_eq_true rfl | omega) (gg_f (gf_cons rfl (gf_cons rfl gf_nil)) (ct2 1025 s (Int32.ofInt 0) hI fr_rf (in_w 0 1024 (in_c 0 rfl) rfl) n2 (m_in 1025 (in_w 0 1024 (in_c 0 rfl) rfl) rfl)))

def fm_362 : FM := ([148, 151], [149, 152], [(109, 0)], [])
/-- GraphHouseModel.pairing -/
theorem k_362 {Z : AmZ} {A : Nat → Nat} {s : GS} {ex : va_W} {d : Nat} {X : AmX} {x1 : Int32} (hd : 4 ≤ d) (hI : Inv s)  : GC Z d 362 [.ref (A 109), .int x1] (WW Z A s ++ ex) 0 0 (fun v u => ∃ t : GS, Inv t ∧ Fr fm_362 s t ∧ ∃ z : Int64, v = some (.long z) ∧ u = WW Z A t ++ ex) X := by
  intro post xp hP hX
  obtain ⟨u_109_20, e_109_20⟩ : ∃ w, w = s.2.2.1 109 20 := ⟨_, rfl⟩
  have ro_109_20 := inv_F hI 0 32 rfl e_109_20
  have ct28 : ∀ (k28 : Nat) (sc28 : GS) (y28_2 : Int64) (y28_4 : Int64) (y28_6 : Int32), Inv sc28 → Fr fm_362 s sc28 → (In x1 0 1) → (In y28_6 0 32) → 32 - (y28_6).toInt < (k28 : Int) → GG Z (d - 1) 362 post (gx xp) (1 + k28 * 900) 28 (fun j => xlook j [(0, .ref (A 109)), (1, .int x1), (2, .long y28_2), (4, .long y28_4), (6, .int y28_6)]) [] (WW Z A sc28 ++ ex) 0 0 := by
    intro k28
    induction k28 with
    | zero => intro sc28 y28_2 y28_4 y28_6 hIc28 hFc28 j28_1 j28_6 mm28; exact m_no mm28 j28_6 rfl
    | succ k28 ih28 =>
      intro sc28 y28_2 y28_4 y28_6 hIc28 hFc28 j28_1 j28_6 mm28
      refine gg_w (M := 1 + k28 * 900 + 900) gws ?_
      refine g_iload 30 (gd rfl) rfl rfl ?_
      refine g_aload_n 31 (gd rfl) rfl rfl ?_
      refine g_getI 34 (gd rfl) rfl rfl rfl (fun z31 e31 => ?_)
      have q31 : u_109_20 = z31 := (fr_F e_109_20 hFc28 rfl).trans e31.symm
      subst q31
      refine g_cmp_ge 37 89 (gd rfl) rfl rfl (fun c34 => ?_) (fun c34 => ?_)
      · skip
        refine g_iload_n 90 (gd rfl) rfl rfl ?_
        refine g_if_ne 93 97 (gd rfl) rfl rfl (fun c90 => ?_) (fun c90 => ?_)
        · skip
          have i90 := z_ne 1 1 c90 j28_1 rfl
          refine g_lload 99 (gd rfl) rfl rfl ?_
          exact g_lreturn (gd rfl) rfl (hP _ _ ⟨sc28, hIc28, hFc28, y28_4, rfl, rfl⟩)
        · skip
          have i90 := z_eq 0 0 c90 j28_1 rfl
          refine g_lload_n 94 (gd rfl) rfl rfl ?_
          refine g_goto 99 (gd rfl) rfl ?_
          exact g_lreturn (gd rfl) rfl (hP _ _ ⟨sc28, hIc28, hFc28, y28_2, rfl, rfl⟩)
      · skip
        have i34 := r_lt1 0 31 c34 j28_6 ro_109_20 rfl
        have i34a := r_lt2 1 32 c34 j28_6 ro_109_20 rfl
        refine g_aload_n 38 (gd rfl) rfl rfl ?_
        refine g_iload 40 (gd rfl) rfl rfl ?_
        refine g_callv (X := _) (As := [.int y28_6]) (r := []) (b := A 109) (q := 109) 43 (gd rfl) rfl rfl rfl rfl rfl (ww_o rfl) (Nat.le_of_ble_eq_true rfl) (Nat.zero_le _) (Nat.zero_le _) (k_359 (by first | exact dq1 hd rfl | exact dq0 hd rfl | exact dq2 hd rfl | exact dq3 hd rfl | omega) hIc28 (in_w 0 31 i34 rfl)) (fun e u h => h) (fun v u h => ?_)
        obtain ⟨z40, rfl, rfl, i40, p40⟩ := h
        show GG _ _ _ _ _ _ _ _ [.int z40] _ _ _
        refine g_if_eq 46 83 (gd rfl) rfl rfl (fun c43 => ?_) (fun c43 => ?_)
        · skip
          have i43 := z_eq 0 0 c43 i40 rfl
          refine g_iinc 86 (gd rfl) rfl rfl (Nat.le_of_ble_eq_true rfl) (fun z83 e83 => ?_)
          have i83 := in_add 1 32 e83 i34 (in_c 1 rfl) rfl rfl
          refine g_goto 28 (gd rfl) rfl ?_
          exact gg_w (by first | exact Nat.le_add_right _ _ | exact gw2 | exact gw3 | exact gwe rfl | exact gwf rfl | exact gwg rfl | exact gwh rfl | omega) (gg_f (gf_cons rfl (gf_cons rfl (gf_cons rfl (gf_cons rfl (gf_cons rfl gf_nil))))) (ih28 sc28 y28_2 y28_4 z83 hIc28 hFc28 (in_w 0 1 j28_1 rfl) (in_w 0 32 i83 rfl) (m_up mm28 (t_add e83 i34 (in_c 1 rfl) rfl) (in_w 1 1 (in_c 1 rfl) rfl))))
        · skip
          have i43 := z_ne 1 1 c43 i40 rfl
          refine g_aload_n 47 (gd rfl) rfl rfl ?_
          refine g_getA (q2 := 151) 50 (gd rfl) rfl rfl rfl rfl ?_
          refine g_iload 52 (gd rfl) rfl rfl ?_
          refine g_iaload 53 (gd rfl) rfl (n := 32) rfl (in_ix i34 rfl) (fun z52 e52 => ?_)
          have i52 := inv_I hIc28 (n := 32) (t := 0) (-1) 31 rfl (in_ix i34 rfl) rfl e52
          refine g_if_lt 56 83 (gd rfl) rfl rfl (fun c53 => ?_) (fun c53 => ?_)
          · skip
            have i53 := z_lt (-1) (-1) c53 i52 rfl
            refine g_iinc 86 (gd rfl) rfl rfl (Nat.le_of_ble_eq_true rfl) (fun z83 e83 => ?_)
            have i83 := in_add 1 32 e83 i34 (in_c 1 rfl) rfl rfl
            refine g_goto 28 (gd rfl) rfl ?_
            exact gg_w (by first | exact Nat.le_add_right _ _ | exact gw2 | exact gw3 | exact gwe rfl | exact gwf rfl | exact gwg rfl | exact gwh rfl | omega) (gg_f (gf_cons rfl (gf_cons rfl (gf_cons rfl (gf_cons rfl (gf_cons rfl gf_nil))))) (ih28 sc28 y28_2 y28_4 z83 hIc28 hFc28 (in_w 0 1 j28_1 rfl) (in_w 0 32 i83 rfl) (m_up mm28 (t_add e83 i34 (in_c 1 rfl) rfl) (in_w 1 1 (in_c 1 rfl) rfl))))
          · skip
            have i53 := z_ge 0 31 c53 i52 rfl
            refine g_lload_n 57 (gd rfl) rfl rfl ?_
            refine g_lconst 1 58 (gd rfl) rfl rfl ?_
            refine g_ladd 59 (gd rfl) rfl (fun z58 e58 => ?_)
            refine g_lstore_n 60 (gd rfl) rfl (Nat.le_of_ble_eq_true rfl) ?_
            refine g_lload 62 (gd rfl) rfl rfl ?_
            refine g_aload_n 63 (gd rfl) rfl rfl ?_
            refine g_getA (q2 := 152) 66 (gd rfl) rfl rfl rfl rfl ?_
            refine g_bipush 32 68 (gd rfl) rfl rfl ?_
            refine g_iload 70 (gd rfl) rfl rfl ?_
            refine g_imul 71 (gd rfl) rfl (fun z70 e70 => ?_)
            have i70 := in_mulc 32 0 992 (Or.inl e70) i34 rfl rfl
            refine g_aload_n 72 (gd rfl) rfl rfl ?_
            refine g_getA (q2 := 151) 75 (gd rfl) rfl rfl rfl rfl ?_
            refine g_iload 77 (gd rfl) rfl rfl ?_
            refine g_iaload 78 (gd rfl) rfl (n := 32) rfl (in_ix i34 rfl) (fun z77 e77 => ?_)
            have q77 : z52 = z77 := (e52).trans e77.symm
            subst q77
            refine g_iadd 79 (gd rfl) rfl (fun z78 e78 => ?_)
            have i78 := in_add 0 1023 e78 i70 i53 rfl rfl
            refine g_laload 80 (gd rfl) rfl (n := 1024) rfl (in_ix i78 rfl) (fun z79 e79 => ?_)
            refine g_ladd 81 (gd rfl) rfl (fun z80 e80 => ?_)
            refine g_lstore 83 (gd rfl) rfl (Nat.le_of_ble_eq_true rfl) ?_
            refine g_iinc 86 (gd rfl) rfl rfl (Nat.le_of_ble_eq_true rfl) (fun z83 e83 => ?_)
            have i83 := in_add 1 32 e83 i34 (in_c 1 rfl) rfl rfl
            refine g_goto 28 (gd rfl) rfl ?_
            exact gg_w (by first | exact Nat.le_add_right _ _ | exact gw2 | exact gw3 | exact gwe rfl | exact gwf rfl | exact gwg rfl | exact gwh rfl | omega) (gg_f (gf_cons rfl (gf_cons rfl (gf_cons rfl (gf_cons rfl (gf_cons rfl gf_nil))))) (ih28 sc28 z58 z80 z83 hIc28 hFc28 (in_w 0 1 j28_1 rfl) (in_w 0 32 i83 rfl) (m_up mm28 (t_add e83 i34 (in_c 1 rfl) rfl) (in_w 1 1 (in_c 1 rfl) rfl))))
  refine g_enter2 (k := 362) (N := 30601) (by first | exact dq1 hd rfl | exact dq0 hd rfl | exact dq2 hd rfl | exact dq3 hd rfl | omega) rfl (Nat.le_of_ble_eq_true rfl) ?_
  refine g_aload_n 1 (gd rfl) rfl rfl ?_
  refine g_iload_n 2 (gd rfl) rfl rfl ?_
  refine g_i2l 3 (gd rfl) rfl (fun z2 e2 => ?_)
  have i2 := l_i e2 (i_rng x1)
  refine g_lconst 0 4 (gd rfl) rfl rfl ?_
  refine g_lconst 1 5 (gd rfl) rfl rfl ?_
  refine g_calls (As := [.long z2, .long (Int64.ofInt 0), .long (Int64.ofInt 1)]) (r := [.ref (A 109)]) 8 (gd rfl) rfl rfl rfl rfl rfl (Nat.le_of_ble_eq_true rfl) (mc := 0) (ms := 0) (Nat.zero_le _) (Nat.zero_le _) (P := fun v u => _) ?_ (fun v u h => h)
  intro po5 xx5 hp5 hx5
  refine g_enter2 (k := 269) (N := 300) (by first | exact dq1 hd rfl | exact dq0 hd rfl | exact dq2 hd rfl | exact dq3 hd rfl | omega) rfl (Nat.le_of_ble_eq_true rfl) ?_
  refine g_lload_n 1 (gd rfl) rfl rfl ?_
  refine g_lload_n 2 (gd rfl) rfl rfl ?_
  refine g_lcmp 3 (gd rfl) rfl (fun z5x2 e5x2 => ?_)
  have i5x2 := lc_in e5x2
  refine g_if_lt 6 17 (gd rfl) rfl rfl (fun c5x3 => ?_) (fun c5x3 => ?_)
  · skip
    have i5x3 := z_lt (-1) (-1) c5x3 i5x2 rfl
    have c5x3a := lc_lt e5x2 c5x3
    have i5x3a := lr_lt1 (-2147483648) (-1) c5x3a i2 (l_c 0 rfl) rfl
    have i5x3b := l_b e2 i5x3a
    refine g_iconst 0 18 (gd rfl) rfl rfl ?_
    refine g_ireturn (gd rfl) rfl (nb01 (in_w 0 1 (in_c 0 rfl) rfl)) (hp5 _ _ ?_)
    show GG _ _ _ _ _ _ _ _ [.int (Int32.ofInt 0), .ref (A 109)] _ _ _
    refine g_callv (X := _) (As := [.int (Int32.ofInt 0)]) (r := []) (b := A 109) (q := 109) 11 (gd rfl) rfl rfl rfl rfl rfl (ww_o rfl) (Nat.le_of_ble_eq_true rfl) (mc := 0) (ms := 0) (Nat.zero_le _) (Nat.zero_le _) (P := fun v u => _) ?_ (fun e u h => h) (fun v u h => h)
    intro po8 xx8 hp8 hx8
    refine g_enter2 (k := 271) (N := 300) (by first | exact dq1 hd rfl | exact dq0 hd rfl | exact dq2 hd rfl | exact dq3 hd rfl | omega) rfl (Nat.le_of_ble_eq_true rfl) ?_
    refine g_aload_n 1 (gd rfl) rfl rfl ?_
    refine g_iload_n 2 (gd rfl) rfl rfl ?_
    refine g_iconst 1 3 (gd rfl) rfl rfl ?_
    refine g_callv (X := _) (As := [.int (Int32.ofInt 0), .int (Int32.ofInt 1)]) (r := []) (b := A 109) (q := 109) 6 (gd rfl) rfl rfl rfl rfl rfl (ww_o rfl) (Nat.le_of_ble_eq_true rfl) (mc := 0) (ms := 0) (Nat.zero_le _) (Nat.zero_le _) (P := fun v u => _) ?_ (fun e u h => h) (fun v u h => h)
    intro po8x3 xx8x3 hp8x3 hx8x3
    refine g_enter2 (k := 270) (N := 300) (by first | exact dq1 hd rfl | exact dq0 hd rfl | exact dq2 hd rfl | exact dq3 hd rfl | omega) rfl (Nat.le_of_ble_eq_true rfl) ?_
    refine g_aload_n 1 (gd rfl) rfl rfl ?_
    refine g_iload_n 2 (gd rfl) rfl rfl ?_
    refine g_if_ne 5 9 (gd rfl) rfl rfl (fun c8x3x2 => ?_) (fun c8x3x2 => ?_)
    · skip
      exact zn_ne c8x3x2 (in_c 0 rfl) rfl
    · skip
      refine g_iconst 1 6 (gd rfl) rfl rfl ?_
      refine g_goto 18 (gd rfl) rfl ?_
      refine g_putI 21 (gd rfl) rfl rfl rfl rfl ?_
      have hI8x3x18 := inv_sF (q := 109) (j := 0) hI rfl (in_w 0 2 (in_c 1 rfl) rfl)
      refine g_aload_n 22 (gd rfl) rfl rfl ?_
      refine g_getI 25 (gd rfl) rfl rfl rfl (fun z8x3x22 e8x3x22 => ?_)
      have q8x3x22 : (Int32.ofInt 1) = z8x3x22 := (sF_get).trans e8x3x22.symm
      subst q8x3x22
      refine g_if_le 28 32 (gd rfl) rfl rfl (fun c8x3x25 => ?_) (fun c8x3x25 => ?_)
      · skip
        exact zn_le c8x3x25 (in_c 1 rfl) rfl
      · skip
        refine g_iconst 1 29 (gd rfl) rfl rfl ?_
        refine g_goto 33 (gd rfl) rfl ?_
        refine g_ireturn (gd rfl) rfl (nb01 (in_w 0 1 (in_c 1 rfl) rfl)) (hp8x3 _ _ ?_)
        show GG _ _ _ _ _ _ _ _ [.int (Int32.ofInt 1)] _ _ _
        refine g_ireturn (gd rfl) rfl (nb01 (in_w 0 1 (in_c 1 rfl) rfl)) (hp8 _ _ ?_)
        show GG _ _ _ _ _ _ _ _ [.int (Int32.ofInt 1)] _ _ _
        refine g_if_eq 14 16 (gd rfl) rfl rfl (fun c11 => ?_) (fun c11 => ?_)
        · skip
          exact zn_eq c11 (in_c 1 rfl) rfl
        · skip
          refine g_lconst 0 15 (gd rfl) rfl rfl ?_
          exact g_lreturn (gd rfl) rfl (hP _ _ ⟨(sF s 109 0 (Int32.ofInt 1)), hI8x3x18, (fr_sF rfl fr_rf), (Int64.ofInt 0), rfl, rfl⟩)
  · skip
    have i5x3 := z_ge 0 1 c5x3 i5x2 rfl
    have c5x3a := lc_ge e5x2 c5x3
    have i5x3a := lr_le2 0 2147483647 c5x3a (l_c 0 rfl) i2 rfl
    have i5x3b := l_b e2 i5x3a
    refine g_lload_n 7 (gd rfl) rfl rfl ?_
    refine g_lload 9 (gd rfl) rfl rfl ?_
    refine g_lcmp 10 (gd rfl) rfl (fun z5x9 e5x9 => ?_)
    have i5x9 := lc_in e5x9
    refine g_if_gt 13 17 (gd rfl) rfl rfl (fun c5x10 => ?_) (fun c5x10 => ?_)
    · skip
      have i5x10 := z_gt 1 1 c5x10 i5x9 rfl
      have c5x10a := lc_gt e5x9 c5x10
      have i5x10a := lr_lt2 2 2147483647 c5x10a (l_c 1 rfl) i5x3a rfl
      have i5x10b := l_b e2 i5x10a
      refine g_iconst 0 18 (gd rfl) rfl rfl ?_
      refine g_ireturn (gd rfl) rfl (nb01 (in_w 0 1 (in_c 0 rfl) rfl)) (hp5 _ _ ?_)
      show GG _ _ _ _ _ _ _ _ [.int (Int32.ofInt 0), .ref (A 109)] _ _ _
      refine g_callv (X := _) (As := [.int (Int32.ofInt 0)]) (r := []) (b := A 109) (q := 109) 11 (gd rfl) rfl rfl rfl rfl rfl (ww_o rfl) (Nat.le_of_ble_eq_true rfl) (mc := 0) (ms := 0) (Nat.zero_le _) (Nat.zero_le _) (P := fun v u => _) ?_ (fun e u h => h) (fun v u h => h)
      intro po8 xx8 hp8 hx8
      refine g_enter2 (k := 271) (N := 300) (by first | exact dq1 hd rfl | exact dq0 hd rfl | exact dq2 hd rfl | exact dq3 hd rfl | omega) rfl (Nat.le_of_ble_eq_true rfl) ?_
      refine g_aload_n 1 (gd rfl) rfl rfl ?_
      refine g_iload_n 2 (gd rfl) rfl rfl ?_
      refine g_iconst 1 3 (gd rfl) rfl rfl ?_
      refine g_callv (X := _) (As := [.int (Int32.ofInt 0), .int (Int32.ofInt 1)]) (r := []) (b := A 109) (q := 109) 6 (gd rfl) rfl rfl rfl rfl rfl (ww_o rfl) (Nat.le_of_ble_eq_true rfl) (mc := 0) (ms := 0) (Nat.zero_le _) (Nat.zero_le _) (P := fun v u => _) ?_ (fun e u h => h) (fun v u h => h)
      intro po8x3 xx8x3 hp8x3 hx8x3
      refine g_enter2 (k := 270) (N := 300) (by first | exact dq1 hd rfl | exact dq0 hd rfl | exact dq2 hd rfl | exact dq3 hd rfl | omega) rfl (Nat.le_of_ble_eq_true rfl) ?_
      refine g_aload_n 1 (gd rfl) rfl rfl ?_
      refine g_iload_n 2 (gd rfl) rfl rfl ?_
      refine g_if_ne 5 9 (gd rfl) rfl rfl (fun c8x3x2 => ?_) (fun c8x3x2 => ?_)
      · skip
        exact zn_ne c8x3x2 (in_c 0 rfl) rfl
      · skip
        refine g_iconst 1 6 (gd rfl) rfl rfl ?_
        refine g_goto 18 (gd rfl) rfl ?_
        refine g_putI 21 (gd rfl) rfl rfl rfl rfl ?_
        have hI8x3x18 := inv_sF (q := 109) (j := 0) hI rfl (in_w 0 2 (in_c 1 rfl) rfl)
        refine g_aload_n 22 (gd rfl) rfl rfl ?_
        refine g_getI 25 (gd rfl) rfl rfl rfl (fun z8x3x22 e8x3x22 => ?_)
        have q8x3x22 : (Int32.ofInt 1) = z8x3x22 := (sF_get).trans e8x3x22.symm
        subst q8x3x22
        refine g_if_le 28 32 (gd rfl) rfl rfl (fun c8x3x25 => ?_) (fun c8x3x25 => ?_)
        · skip
          exact zn_le c8x3x25 (in_c 1 rfl) rfl
        · skip
          refine g_iconst 1 29 (gd rfl) rfl rfl ?_
          refine g_goto 33 (gd rfl) rfl ?_
          refine g_ireturn (gd rfl) rfl (nb01 (in_w 0 1 (in_c 1 rfl) rfl)) (hp8x3 _ _ ?_)
          show GG _ _ _ _ _ _ _ _ [.int (Int32.ofInt 1)] _ _ _
          refine g_ireturn (gd rfl) rfl (nb01 (in_w 0 1 (in_c 1 rfl) rfl)) (hp8 _ _ ?_)
          show GG _ _ _ _ _ _ _ _ [.int (Int32.ofInt 1)] _ _ _
          refine g_if_eq 14 16 (gd rfl) rfl rfl (fun c11 => ?_) (fun c11 => ?_)
          · skip
            exact zn_eq c11 (in_c 1 rfl) rfl
          · skip
            refine g_lconst 0 15 (gd rfl) rfl rfl ?_
            exact g_lreturn (gd rfl) rfl (hP _ _ ⟨(sF s 109 0 (Int32.ofInt 1)), hI8x3x18, (fr_sF rfl fr_rf), (Int64.ofInt 0), rfl, rfl⟩)
    · skip
      have i5x10 := z_le (-1) 0 c5x10 i5x9 rfl
      have c5x10a := lc_le e5x9 c5x10
      have i5x10a := lr_le1 0 1 c5x10a i5x3a (l_c 1 rfl) rfl
      have i5x10b := l_b e2 i5x10a
      refine g_iconst 1 14 (gd rfl) rfl rfl ?_
      refine g_goto 18 (gd rfl) rfl ?_
      refine g_ireturn (gd rfl) rfl (nb01 (in_w 0 1 (in_c 1 rfl) rfl)) (hp5 _ _ ?_)
      show GG _ _ _ _ _ _ _ _ [.int (Int32.ofInt 1), .ref (A 109)] _ _ _
      refine g_callv (X := _) (As := [.int (Int32.ofInt 1)]) (r := []) (b := A 109) (q := 109) 11 (gd rfl) rfl rfl rfl rfl rfl (ww_o rfl) (Nat.le_of_ble_eq_true rfl) (mc := 0) (ms := 0) (Nat.zero_le _) (Nat.zero_le _) (P := fun v u => _) ?_ (fun e u h => h) (fun v u h => h)
      intro po8 xx8 hp8 hx8
      refine g_enter2 (k := 271) (N := 300) (by first | exact dq1 hd rfl | exact dq0 hd rfl | exact dq2 hd rfl | exact dq3 hd rfl | omega) rfl (Nat.le_of_ble_eq_true rfl) ?_
      refine g_aload_n 1 (gd rfl) rfl rfl ?_
      refine g_iload_n 2 (gd rfl) rfl rfl ?_
      refine g_iconst 1 3 (gd rfl) rfl rfl ?_
      refine g_callv (X := _) (As := [.int (Int32.ofInt 1), .int (Int32.ofInt 1)]) (r := []) (b := A 109) (q := 109) 6 (gd rfl) rfl rfl rfl rfl rfl (ww_o rfl) (Nat.le_of_ble_eq_true rfl) (mc := 0) (ms := 0) (Nat.zero_le _) (Nat.zero_le _) (P := fun v u => _) ?_ (fun e u h => h) (fun v u h => h)
      intro po8x3 xx8x3 hp8x3 hx8x3
      refine g_enter2 (k := 270) (N := 300) (by first | exact dq1 hd rfl | exact dq0 hd rfl | exact dq2 hd rfl | exact dq3 hd rfl | omega) rfl (Nat.le_of_ble_eq_true rfl) ?_
      refine g_aload_n 1 (gd rfl) rfl rfl ?_
      refine g_iload_n 2 (gd rfl) rfl rfl ?_
      refine g_if_ne 5 9 (gd rfl) rfl rfl (fun c8x3x2 => ?_) (fun c8x3x2 => ?_)
      · skip
        refine g_iload_n 10 (gd rfl) rfl rfl ?_
        refine g_if_ne 13 17 (gd rfl) rfl rfl (fun c8x3x10 => ?_) (fun c8x3x10 => ?_)
        · skip
          refine g_iconst 0 18 (gd rfl) rfl rfl ?_
          refine g_putI 21 (gd rfl) rfl rfl rfl rfl ?_
          have hI8x3x18 := inv_sF (q := 109) (j := 0) hI rfl (in_w 0 2 (in_c 0 rfl) rfl)
          refine g_aload_n 22 (gd rfl) rfl rfl ?_
          refine g_getI 25 (gd rfl) rfl rfl rfl (fun z8x3x22 e8x3x22 => ?_)
          have q8x3x22 : (Int32.ofInt 0) = z8x3x22 := (sF_get).trans e8x3x22.symm
          subst q8x3x22
          refine g_if_le 28 32 (gd rfl) rfl rfl (fun c8x3x25 => ?_) (fun c8x3x25 => ?_)
          · skip
            refine g_iconst 0 33 (gd rfl) rfl rfl ?_
            refine g_ireturn (gd rfl) rfl (nb01 (in_w 0 1 (in_c 0 rfl) rfl)) (hp8x3 _ _ ?_)
            show GG _ _ _ _ _ _ _ _ [.int (Int32.ofInt 0)] _ _ _
            refine g_ireturn (gd rfl) rfl (nb01 (in_w 0 1 (in_c 0 rfl) rfl)) (hp8 _ _ ?_)
            show GG _ _ _ _ _ _ _ _ [.int (Int32.ofInt 0)] _ _ _
            refine g_if_eq 14 16 (gd rfl) rfl rfl (fun c11 => ?_) (fun c11 => ?_)
            · skip
              refine g_aload_n 17 (gd rfl) rfl rfl ?_
              refine g_callv (X := _) (As := []) (r := []) (b := A 109) (q := 109) 20 (gd rfl) rfl rfl rfl rfl rfl (ww_o rfl) (Nat.le_of_ble_eq_true rfl) (Nat.zero_le _) (Nat.zero_le _) (k_360 (by first | exact dq1 hd rfl | exact dq0 hd rfl | exact dq2 hd rfl | exact dq3 hd rfl | omega) hI8x3x18 ) (fun e u h => h) (fun v u h => ?_)
              obtain ⟨s17, hI17, hF17, rfl, rfl⟩ := h
              show GG _ _ _ _ _ _ _ _ [] _ _ _
              refine g_lconst 0 21 (gd rfl) rfl rfl ?_
              refine g_lstore_n 22 (gd rfl) rfl (Nat.le_of_ble_eq_true rfl) ?_
              refine g_lconst 0 23 (gd rfl) rfl rfl ?_
              refine g_lstore 25 (gd rfl) rfl (Nat.le_of_ble_eq_true rfl) ?_
              refine g_iconst 0 26 (gd rfl) rfl rfl ?_
              refine g_istore 28 (gd rfl) rfl (Nat.le_of_ble_eq_true rfl) ?_
              exact gg_w (by first | exact Nat.le_of_ble_eq_true rfl | omega) (gg_f (gf_cons rfl (gf_cons rfl (gf_cons rfl (gf_cons rfl (gf_cons rfl gf_nil))))) (ct28 33 s17 (Int64.ofInt 0) (Int64.ofInt 0) (Int32.ofInt 0) hI17 (fr_tr rfl (fr_sF rfl fr_rf) hF17) (in_w 0 1 i5x10b rfl) (in_w 0 32 (in_c 0 rfl) rfl) (m_in 33 (in_w 0 32 (in_c 0 rfl) rfl) rfl)))
            · skip
              exact zn_ne c11 (in_c 0 rfl) rfl
          · skip
            exact zn_gt c8x3x25 (in_c 0 rfl) rfl
        · skip
          exact zn_eq c8x3x10 (in_c 1 rfl) rfl
      · skip
        exact zn_eq c8x3x2 (in_c 1 rfl) rfl
end
section
/-! methods, by vc.py -/
def fm_374 : FM := ([169, 170, 171], [], [(109, 80)], [])
def fm_378 : FM := ([169, 170, 171], [], [(109, 0), (109, 80)], [])
def fm_379 : FM := ([169, 170, 171], [], [(109, 0), (109, 80)], [])
def fm_386 : FM := ([172, 174, 176, 177, 180], [173, 175, 178, 179, 181, 182], [(109, 0), (109, 23), (109, 24), (109, 81), (109, 84), (109, 96), (109, 97), (109, 98), (109, 99)], [(109, 85), (109, 86), (109, 100), (109, 101)])
/-- GraphHouseModel.pattern -/
theorem k_386 {Z : AmZ} {A : Nat → Nat} {s : GS} {ex : va_W} {d : Nat} {X : AmX}  (hd : 5 ≤ d) (hI : Inv s)  : GC Z d 386 [.ref (A 109)] (WW Z A s ++ ex) 0 0 (fun v u => ∃ t : GS, Inv t ∧ Fr fm_386 s t ∧ ∃ z : Int32, v = some (.int z) ∧ u = WW Z A t ++ ex ∧ In z (-4) 0) X := by
  intro post xp hP hX
  obtain ⟨u_109_22, e_109_22⟩ : ∃ w, w = s.2.2.1 109 22 := ⟨_, rfl⟩
  have ro_109_22 := inv_F hI 0 1000 rfl e_109_22
  have ct226 : ∀ (k226 : Nat) (sc226 : GS) (y226_1 : Int32) (y226_2 : Int32), Inv sc226 → Fr fm_386 s sc226 → (In y226_1 0 60) → (In y226_2 0 60) → 60 - (y226_2).toInt < (k226 : Int) → GG Z (d - 1) 386 post (gx xp) (1 + k226 * 900) 226 (fun j => xlook j [(0, .ref (A 109)), (1, .int y226_1), (2, .int y226_2)]) [] (WW Z A sc226 ++ ex) 0 0 := by
    intro k226
    induction k226 with
    | zero => intro sc226 y226_1 y226_2 hIc226 hFc226 j226_1 j226_2 mm226; exact m_no mm226 j226_2 rfl
    | succ k226 ih226 =>
      intro sc226 y226_1 y226_2 hIc226 hFc226 j226_1 j226_2 mm226
      refine gg_w (M := 1 + k226 * 900 + 900) gws ?_
      refine g_iload_n 227 (gd rfl) rfl rfl ?_
      refine g_bipush 60 229 (gd rfl) rfl rfl ?_
      refine g_cmp_ge 232 262 (gd rfl) rfl rfl (fun c229 => ?_) (fun c229 => ?_)
      · skip
        have i229 := r_le2 60 60 c229 (in_c 60 rfl) j226_2 rfl
        refine g_iconst 0 263 (gd rfl) rfl rfl ?_
        exact g_ireturn (gd rfl) rfl rfl (hP _ _ ⟨sc226, hIc226, hFc226, (Int32.ofInt 0), rfl, rfl, in_w (-4) 0 (in_c 0 rfl) rfl⟩)
      · skip
        have i229 := r_lt1 0 59 c229 j226_2 (in_c 60 rfl) rfl
        refine g_aload_n 233 (gd rfl) rfl rfl ?_
        refine g_getA (q2 := 172) 236 (gd rfl) rfl rfl rfl rfl ?_
        refine g_iload_n 237 (gd rfl) rfl rfl ?_
        refine g_aload_n 238 (gd rfl) rfl rfl ?_
        refine g_getA (q2 := 174) 241 (gd rfl) rfl rfl rfl rfl ?_
        refine g_iload_n 242 (gd rfl) rfl rfl ?_
        refine g_iaload 243 (gd rfl) rfl (n := 60) rfl (in_ix i229 rfl) (fun z242 e242 => ?_)
        have i242 := inv_I hIc226 (n := 60) (t := 0) 0 26 rfl (in_ix i229 rfl) rfl e242
        refine g_iastore 244 (gd rfl) rfl (n := 60) rfl (in_ix i229 rfl) ?_
        have hI243 := inv_sI (q := 172) (j := y226_2.toNatClampNeg) hIc226 rfl (in_w 0 26 i242 rfl)
        refine g_aload_n 245 (gd rfl) rfl rfl ?_
        refine g_getA (q2 := 173) 248 (gd rfl) rfl rfl rfl rfl ?_
        refine g_iload_n 249 (gd rfl) rfl rfl ?_
        refine g_aload_n 250 (gd rfl) rfl rfl ?_
        refine g_getA (q2 := 175) 253 (gd rfl) rfl rfl rfl rfl ?_
        refine g_iload_n 254 (gd rfl) rfl rfl ?_
        refine g_laload 255 (gd rfl) rfl (n := 60) rfl (in_ix i229 rfl) (fun z254 e254 => ?_)
        refine g_lastore 256 (gd rfl) rfl (n := 60) rfl (in_ix i229 rfl) ?_
        have hI255 := inv_sL (q := 173) (j := y226_2.toNatClampNeg) (x := z254) hI243 rfl (l_rng z254)
        refine g_iinc 259 (gd rfl) rfl rfl (Nat.le_of_ble_eq_true rfl) (fun z256 e256 => ?_)
        have i256 := in_add 1 60 e256 i229 (in_c 1 rfl) rfl rfl
        refine g_goto 226 (gd rfl) rfl ?_
        exact gg_w (by first | exact Nat.le_add_right _ _ | exact gw2 | exact gw3 | exact gwe rfl | exact gwf rfl | exact gwg rfl | exact gwh rfl | omega) (gg_f (gf_cons rfl (gf_cons rfl (gf_cons rfl gf_nil))) (ih226 (sL (sI sc226 172 y226_2.toNatClampNeg z242) 173 y226_2.toNatClampNeg z254) y226_1 z256 hI255 (fr_sL rfl (fr_sI rfl hFc226)) (in_w 0 60 j226_1 rfl) (in_w 0 60 i256 rfl) (m_up mm226 (t_add e256 i229 (in_c 1 rfl) rfl) (in_w 1 1 (in_c 1 rfl) rfl))))
  have ct63 : ∀ (k63 : Nat) (sc63 : GS) (y63_1 : Int32) (y63_2 : Int32), Inv sc63 → Fr fm_386 s sc63 → (In y63_1 0 60) → (In y63_2 0 60) → ((u_109_22).toInt ≤ 60) → ((y63_1).toInt ≤ (y63_2).toInt) → 60 - (y63_2).toInt < (k63 : Int) → GG Z (d - 1) 386 post (gx xp) (54902 + k63 * 900) 63 (fun j => xlook j [(0, .ref (A 109)), (1, .int y63_1), (2, .int y63_2)]) [] (WW Z A sc63 ++ ex) 0 0 := by
    intro k63
    induction k63 with
    | zero => intro sc63 y63_1 y63_2 hIc63 hFc63 j63_1 j63_2 n63_0 n63_1 mm63; exact m_no mm63 j63_2 rfl
    | succ k63 ih63 =>
      intro sc63 y63_1 y63_2 hIc63 hFc63 j63_1 j63_2 n63_0 n63_1 mm63
      refine gg_w (M := 54902 + k63 * 900 + 900) gws ?_
      refine g_iload_n 64 (gd rfl) rfl rfl ?_
      refine g_aload_n 65 (gd rfl) rfl rfl ?_
      refine g_getI 68 (gd rfl) rfl rfl rfl (fun z65 e65 => ?_)
      have q65 : u_109_22 = z65 := (fr_F e_109_22 hFc63 rfl).trans e65.symm
      subst q65
      refine g_cmp_ge 71 152 (gd rfl) rfl rfl (fun c68 => ?_) (fun c68 => ?_)
      · skip
        have i68 := r_le1 0 60 c68 ro_109_22 j63_2 rfl
        refine g_aload_n 153 (gd rfl) rfl rfl ?_
        refine g_getI 156 (gd rfl) rfl rfl rfl (fun z153 e153 => ?_)
        have i153 := inv_F hIc63 0 9 rfl e153
        refine g_if_ne 159 175 (gd rfl) rfl rfl (fun c156 => ?_) (fun c156 => ?_)
        · skip
          have i156 := z_ne 1 9 c156 i153 rfl
          refine g_aload_n 176 (gd rfl) rfl rfl ?_
          refine g_getI 179 (gd rfl) rfl rfl rfl (fun z176 e176 => ?_)
          have q176 : z153 = z176 := (e153).trans e176.symm
          subst q176
          refine g_if_le 182 185 (gd rfl) rfl rfl (fun c179 => ?_) (fun c179 => ?_)
          · skip
            exact zn_le c179 i156 rfl
          · skip
            refine g_bipush (-4) 184 (gd rfl) rfl rfl ?_
            exact g_ireturn (gd rfl) rfl rfl (hP _ _ ⟨sc63, hIc63, hFc63, (Int32.ofInt (-4)), rfl, rfl, in_w (-4) 0 (in_c (-4) rfl) rfl⟩)
        · skip
          have i156 := z_eq 0 0 c156 i153 rfl
          refine g_aload_n 160 (gd rfl) rfl rfl ?_
          refine g_getI 163 (gd rfl) rfl rfl rfl (fun z160 e160 => ?_)
          have i160 := inv_F hIc63 0 10 rfl e160
          refine g_if_le 166 175 (gd rfl) rfl rfl (fun c163 => ?_) (fun c163 => ?_)
          · skip
            have i163 := z_le 0 0 c163 i160 rfl
            refine g_aload_n 176 (gd rfl) rfl rfl ?_
            refine g_getI 179 (gd rfl) rfl rfl rfl (fun z176 e176 => ?_)
            have q176 : z153 = z176 := (e153).trans e176.symm
            subst q176
            refine g_if_le 182 185 (gd rfl) rfl rfl (fun c179 => ?_) (fun c179 => ?_)
            · skip
              refine g_aload_n 186 (gd rfl) rfl rfl ?_
              refine g_callv (X := _) (As := []) (r := []) (b := A 109) (q := 109) 189 (gd rfl) rfl rfl rfl rfl rfl (ww_o rfl) (Nat.le_of_ble_eq_true rfl) (Nat.zero_le _) (Nat.zero_le _) (k_385 (by first | exact dq1 hd rfl | exact dq0 hd rfl | exact dq2 hd rfl | exact dq3 hd rfl | omega) hIc63 ) (fun e u h => h) (fun v u h => ?_)
              obtain ⟨s186, hI186, hF186, rfl, rfl⟩ := h
              show GG _ _ _ _ _ _ _ _ [] _ _ _
              refine g_aload_n 190 (gd rfl) rfl rfl ?_
              refine g_iload_n 191 (gd rfl) rfl rfl ?_
              refine g_putI 194 (gd rfl) rfl rfl rfl rfl ?_
              have hI191 := inv_sF (q := 109) (j := 81) hI186 rfl (in_w 0 60 j63_1 rfl)
              refine g_aload_n 195 (gd rfl) rfl rfl ?_
              refine g_aload_n 196 (gd rfl) rfl rfl ?_
              refine g_getA (q2 := 177) 199 (gd rfl) rfl rfl rfl rfl ?_
              refine g_iconst 0 200 (gd rfl) rfl rfl ?_
              refine g_baload 201 (gd rfl) rfl (n := 12) rfl (in_ix (in_c 0 rfl) rfl) (fun z200 e200 => ?_)
              have i200 := inv_I hI191 (n := 12) (t := 3) 0 1 rfl (in_ix (in_c 0 rfl) rfl) rfl e200
              refine g_putZ 204 (gd rfl) rfl rfl rfl rfl (in01 (in_w 0 1 i200 rfl)) ?_
              have hI201 := inv_sF (q := 109) (j := 84) hI191 rfl (in_w 0 1 i200 rfl)
              refine g_aload_n 205 (gd rfl) rfl rfl ?_
              refine g_aload_n 206 (gd rfl) rfl rfl ?_
              refine g_getA (q2 := 178) 209 (gd rfl) rfl rfl rfl rfl ?_
              refine g_iconst 0 210 (gd rfl) rfl rfl ?_
              refine g_laload 211 (gd rfl) rfl (n := 12) rfl (in_ix (in_c 0 rfl) rfl) (fun z210 e210 => ?_)
              refine g_putL 214 (gd rfl) rfl rfl rfl rfl ?_
              have hI211 := inv_sG (q := 109) (j := 85) (x := z210) hI201 rfl (l_rng z210)
              refine g_aload_n 215 (gd rfl) rfl rfl ?_
              refine g_aload_n 216 (gd rfl) rfl rfl ?_
              refine g_getA (q2 := 179) 219 (gd rfl) rfl rfl rfl rfl ?_
              refine g_iconst 0 220 (gd rfl) rfl rfl ?_
              refine g_laload 221 (gd rfl) rfl (n := 12) rfl (in_ix (in_c 0 rfl) rfl) (fun z220 e220 => ?_)
              refine g_putL 224 (gd rfl) rfl rfl rfl rfl ?_
              have hI221 := inv_sG (q := 109) (j := 86) (x := z220) hI211 rfl (l_rng z220)
              refine g_iconst 0 225 (gd rfl) rfl rfl ?_
              refine g_istore_n 226 (gd rfl) rfl (Nat.le_of_ble_eq_true rfl) ?_
              exact gg_w (by first | exact Nat.le_add_right _ _ | exact gw2 | exact gw3 | exact gwe rfl | exact gwf rfl | exact gwg rfl | exact gwh rfl | omega) (gg_f (gf_cons rfl (gf_cons rfl (gf_cons rfl gf_nil))) (ct226 61 (sG (sG (sF (sF s186 109 81 y63_1) 109 84 z200) 109 85 z210) 109 86 z220) y63_1 (Int32.ofInt 0) hI221 (fr_sG rfl (fr_sG rfl (fr_sF rfl (fr_sF rfl (fr_tr rfl hFc63 hF186))))) (in_w 0 60 j63_1 rfl) (in_w 0 60 (in_c 0 rfl) rfl) (m_in 61 (in_w 0 60 (in_c 0 rfl) rfl) rfl)))
            · skip
              exact zn_gt c179 i156 rfl
          · skip
            have i163 := z_gt 1 10 c163 i160 rfl
            refine g_aload_n 167 (gd rfl) rfl rfl ?_
            refine g_iconst 2 168 (gd rfl) rfl rfl ?_
            refine g_aload_n 169 (gd rfl) rfl rfl ?_
            refine g_getI 172 (gd rfl) rfl rfl rfl (fun z169 e169 => ?_)
            have q169 : u_109_22 = z169 := (fr_F e_109_22 hFc63 rfl).trans e169.symm
            subst q169
            refine g_callv (X := _) (As := [.int (Int32.ofInt 2), .int u_109_22]) (r := []) (b := A 109) (q := 109) 175 (gd rfl) rfl rfl rfl rfl rfl (ww_o rfl) (Nat.le_of_ble_eq_true rfl) (Nat.zero_le _) (Nat.zero_le _) (k_298 (by first | exact dq1 hd rfl | exact dq0 hd rfl | exact dq2 hd rfl | exact dq3 hd rfl | omega) hIc63 (in_w 1 5 (in_c 2 rfl) rfl)) (fun e u h => h) (fun v u h => ?_)
            obtain ⟨s172, hI172, hF172, n172, rfl, rfl⟩ := h
            obtain ⟨z172a, e172⟩ : ∃ w, w = s172.2.2.1 109 23 := ⟨_, rfl⟩
            have i172a := inv_F hI172 0 9 rfl e172
            rw [← (show z172a = s172.2.2.1 109 23 from e172)] at n172
            show GG _ _ _ _ _ _ _ _ [] _ _ _
            refine g_aload_n 176 (gd rfl) rfl rfl ?_
            refine g_getI 179 (gd rfl) rfl rfl rfl (fun z176 e176 => ?_)
            have q176 : z172a = z176 := (e172).trans e176.symm
            subst q176
            refine g_if_le 182 185 (gd rfl) rfl rfl (fun c179 => ?_) (fun c179 => ?_)
            · skip
              have i179 := z_le 0 0 c179 i172a rfl
              refine g_aload_n 186 (gd rfl) rfl rfl ?_
              refine g_callv (X := _) (As := []) (r := []) (b := A 109) (q := 109) 189 (gd rfl) rfl rfl rfl rfl rfl (ww_o rfl) (Nat.le_of_ble_eq_true rfl) (Nat.zero_le _) (Nat.zero_le _) (k_385 (by first | exact dq1 hd rfl | exact dq0 hd rfl | exact dq2 hd rfl | exact dq3 hd rfl | omega) hI172 ) (fun e u h => h) (fun v u h => ?_)
              obtain ⟨s186, hI186, hF186, rfl, rfl⟩ := h
              show GG _ _ _ _ _ _ _ _ [] _ _ _
              refine g_aload_n 190 (gd rfl) rfl rfl ?_
              refine g_iload_n 191 (gd rfl) rfl rfl ?_
              refine g_putI 194 (gd rfl) rfl rfl rfl rfl ?_
              have hI191 := inv_sF (q := 109) (j := 81) hI186 rfl (in_w 0 60 j63_1 rfl)
              refine g_aload_n 195 (gd rfl) rfl rfl ?_
              refine g_aload_n 196 (gd rfl) rfl rfl ?_
              refine g_getA (q2 := 177) 199 (gd rfl) rfl rfl rfl rfl ?_
              refine g_iconst 0 200 (gd rfl) rfl rfl ?_
              refine g_baload 201 (gd rfl) rfl (n := 12) rfl (in_ix (in_c 0 rfl) rfl) (fun z200 e200 => ?_)
              have i200 := inv_I hI191 (n := 12) (t := 3) 0 1 rfl (in_ix (in_c 0 rfl) rfl) rfl e200
              refine g_putZ 204 (gd rfl) rfl rfl rfl rfl (in01 (in_w 0 1 i200 rfl)) ?_
              have hI201 := inv_sF (q := 109) (j := 84) hI191 rfl (in_w 0 1 i200 rfl)
              refine g_aload_n 205 (gd rfl) rfl rfl ?_
              refine g_aload_n 206 (gd rfl) rfl rfl ?_
              refine g_getA (q2 := 178) 209 (gd rfl) rfl rfl rfl rfl ?_
              refine g_iconst 0 210 (gd rfl) rfl rfl ?_
              refine g_laload 211 (gd rfl) rfl (n := 12) rfl (in_ix (in_c 0 rfl) rfl) (fun z210 e210 => ?_)
              refine g_putL 214 (gd rfl) rfl rfl rfl rfl ?_
              have hI211 := inv_sG (q := 109) (j := 85) (x := z210) hI201 rfl (l_rng z210)
              refine g_aload_n 215 (gd rfl) rfl rfl ?_
              refine g_aload_n 216 (gd rfl) rfl rfl ?_
              refine g_getA (q2 := 179) 219 (gd rfl) rfl rfl rfl rfl ?_
              refine g_iconst 0 220 (gd rfl) rfl rfl ?_
              refine g_laload 221 (gd rfl) rfl (n := 12) rfl (in_ix (in_c 0 rfl) rfl) (fun z220 e220 => ?_)
              refine g_putL 224 (gd rfl) rfl rfl rfl rfl ?_
              have hI221 := inv_sG (q := 109) (j := 86) (x := z220) hI211 rfl (l_rng z220)
              refine g_iconst 0 225 (gd rfl) rfl rfl ?_
              refine g_istore_n 226 (gd rfl) rfl (Nat.le_of_ble_eq_true rfl) ?_
              exact gg_w (by first | exact Nat.le_add_right _ _ | exact gw2 | exact gw3 | exact gwe rfl | exact gwf rfl | exact gwg rfl | exact gwh rfl | omega) (gg_f (gf_cons rfl (gf_cons rfl (gf_cons rfl gf_nil))) (ct226 61 (sG (sG (sF (sF s186 109 81 y63_1) 109 84 z200) 109 85 z210) 109 86 z220) y63_1 (Int32.ofInt 0) hI221 (fr_sG rfl (fr_sG rfl (fr_sF rfl (fr_sF rfl (fr_tr rfl (fr_tr rfl hFc63 hF172) hF186))))) (in_w 0 60 j63_1 rfl) (in_w 0 60 (in_c 0 rfl) rfl) (m_in 61 (in_w 0 60 (in_c 0 rfl) rfl) rfl)))
            · skip
              have i179 := z_gt 1 9 c179 i172a rfl
              refine g_bipush (-4) 184 (gd rfl) rfl rfl ?_
              exact g_ireturn (gd rfl) rfl rfl (hP _ _ ⟨s172, hI172, (fr_tr rfl hFc63 hF172), (Int32.ofInt (-4)), rfl, rfl, in_w (-4) 0 (in_c (-4) rfl) rfl⟩)
      · skip
        have i68 := r_lt2 1 1000 c68 j63_2 ro_109_22 rfl
        refine g_aload_n 72 (gd rfl) rfl rfl ?_
        refine g_getI 75 (gd rfl) rfl rfl rfl (fun z72 e72 => ?_)
        have i72 := inv_F hIc63 0 9 rfl e72
        refine g_if_ne 78 152 (gd rfl) rfl rfl (fun c75 => ?_) (fun c75 => ?_)
        · skip
          have i75 := z_ne 1 9 c75 i72 rfl
          refine g_aload_n 153 (gd rfl) rfl rfl ?_
          refine g_getI 156 (gd rfl) rfl rfl rfl (fun z153 e153 => ?_)
          have q153 : z72 = z153 := (e72).trans e153.symm
          subst q153
          refine g_if_ne 159 175 (gd rfl) rfl rfl (fun c156 => ?_) (fun c156 => ?_)
          · skip
            refine g_aload_n 176 (gd rfl) rfl rfl ?_
            refine g_getI 179 (gd rfl) rfl rfl rfl (fun z176 e176 => ?_)
            have q176 : z72 = z176 := (e72).trans e176.symm
            subst q176
            refine g_if_le 182 185 (gd rfl) rfl rfl (fun c179 => ?_) (fun c179 => ?_)
            · skip
              exact zn_le c179 i75 rfl
            · skip
              refine g_bipush (-4) 184 (gd rfl) rfl rfl ?_
              exact g_ireturn (gd rfl) rfl rfl (hP _ _ ⟨sc63, hIc63, hFc63, (Int32.ofInt (-4)), rfl, rfl, in_w (-4) 0 (in_c (-4) rfl) rfl⟩)
          · skip
            exact zn_eq c156 i75 rfl
        · skip
          have i75 := z_eq 0 0 c75 i72 rfl
          refine g_aload_n 79 (gd rfl) rfl rfl ?_
          refine g_getA (q2 := 125) 82 (gd rfl) rfl rfl rfl rfl ?_
          refine g_iload_n 83 (gd rfl) rfl rfl ?_
          refine g_iaload 84 (gd rfl) rfl (n := 1000) rfl (in_ix j63_2 rfl) (fun z83 e83 => ?_)
          have i83 := inv_I hIc63 (n := 1000) (t := 0) 0 126 rfl (in_ix j63_2 rfl) rfl e83
          refine g_istore_n 85 (gd rfl) rfl (Nat.le_of_ble_eq_true rfl) ?_
          refine g_iload_n 86 (gd rfl) rfl rfl ?_
          refine g_calls (As := [.int z83]) (r := []) 89 (gd rfl) rfl rfl rfl rfl rfl (Nat.le_of_ble_eq_true rfl) (mc := 0) (ms := 0) (Nat.zero_le _) (Nat.zero_le _) (P := fun v u => _) ?_ (fun v u h => h)
          intro po86 xx86 hp86 hx86
          refine g_enter2 (k := 296) (N := 300) (by first | exact dq1 hd rfl | exact dq0 hd rfl | exact dq2 hd rfl | exact dq3 hd rfl | omega) rfl (Nat.le_of_ble_eq_true rfl) ?_
          refine g_iload_n 1 (gd rfl) rfl rfl ?_
          refine g_bipush 97 3 (gd rfl) rfl rfl ?_
          refine g_cmp_lt 6 16 (gd rfl) rfl rfl (fun c86x3 => ?_) (fun c86x3 => ?_)
          · skip
            have i86x3 := r_lt1 0 96 c86x3 i83 (in_c 97 rfl) rfl
            refine g_iconst 0 17 (gd rfl) rfl rfl ?_
            refine g_ireturn (gd rfl) rfl (nb01 (in_w 0 1 (in_c 0 rfl) rfl)) (hp86 _ _ ?_)
            show GG _ _ _ _ _ _ _ _ [.int (Int32.ofInt 0)] _ _ _
            refine g_if_ne 92 98 (gd rfl) rfl rfl (fun c89 => ?_) (fun c89 => ?_)
            · skip
              exact zn_ne c89 (in_c 0 rfl) rfl
            · skip
              refine g_iload_n 93 (gd rfl) rfl rfl ?_
              refine g_bipush 46 95 (gd rfl) rfl rfl ?_
              refine g_cmp_ne 98 140 (gd rfl) rfl rfl (fun c95 => ?_) (fun c95 => ?_)
              · skip
                refine g_aload_n 141 (gd rfl) rfl rfl ?_
                refine g_iload_n 142 (gd rfl) rfl rfl ?_
                refine g_iload_n 143 (gd rfl) rfl rfl ?_
                refine g_callv (X := _) (As := [.int z83, .int y63_2]) (r := []) (b := A 109) (q := 109) 146 (gd rfl) rfl rfl rfl rfl rfl (ww_o rfl) (Nat.le_of_ble_eq_true rfl) (Nat.zero_le _) (Nat.zero_le _) (k_388 (by first | exact dq1 hd rfl | exact dq0 hd rfl | exact dq2 hd rfl | exact dq3 hd rfl | omega) hIc63 (in_w 0 126 i86x3 rfl) (in_w 0 60 j63_2 rfl)) (fun e u h => h) (fun v u h => ?_)
                obtain ⟨s143, hI143, hF143, rfl, rfl⟩ := h
                show GG _ _ _ _ _ _ _ _ [] _ _ _
                refine g_iinc 149 (gd rfl) rfl rfl (Nat.le_of_ble_eq_true rfl) (fun z146 e146 => ?_)
                have i146 := in_add 1 61 e146 j63_2 (in_c 1 rfl) rfl rfl
                refine g_goto 63 (gd rfl) rfl ?_
                have i63 : In z146 0 60 := by exact ⟨by have a0 := in_u i68; have a1 := in_u j63_2; have a2 := in_u j63_1; have a3 := in_u i86x3; have a4 := in_u i146; have a5 := t_add e146 j63_2 (in_c 1 rfl) rfl; have a6 := in_u ((in_c 1 rfl)); omega, by have a0 := in_u i68; have a1 := in_u j63_2; have a2 := in_u j63_1; have a3 := in_u i86x3; have a4 := in_u i146; have a5 := t_add e146 j63_2 (in_c 1 rfl) rfl; have a6 := in_u ((in_c 1 rfl)); omega⟩
                have n63 : (u_109_22).toInt ≤ 60 := by first | exact n63_0 | (have a0 := in_u i68; have a1 := in_u j63_2; have a2 := in_u j63_1; have a3 := in_u i86x3; have a4 := in_u i63; have a5 := t_add e146 j63_2 (in_c 1 rfl) rfl; have a6 := in_u ((in_c 1 rfl)); omega)
                have n63a : (y63_1).toInt ≤ (z146).toInt := by have a0 := in_u i68; have a1 := in_u j63_2; have a2 := in_u j63_1; have a3 := in_u i86x3; have a4 := in_u i63; have a5 := t_add e146 j63_2 (in_c 1 rfl) rfl; have a6 := in_u ((in_c 1 rfl)); omega
                exact gg_w (by first | exact Nat.le_add_right _ _ | exact gw2 | exact gw3 | exact gwe rfl | exact gwf rfl | exact gwg rfl | exact gwh rfl | omega) (gg_f (gf_cons rfl (gf_cons rfl (gf_cons rfl gf_nil))) (ih63 s143 y63_1 z146 hI143 (fr_tr rfl hFc63 hF143) (in_w 0 60 j63_1 rfl) i63 n63 n63a (m_up mm63 (t_add e146 j63_2 (in_c 1 rfl) rfl) (in_w 1 1 (in_c 1 rfl) rfl))))
              · skip
                have i95 := r_eq1 46 46 c95 i86x3 (in_c 46 rfl) rfl
                refine g_aload_n 99 (gd rfl) rfl rfl ?_
                refine g_callv (X := _) (As := []) (r := []) (b := A 109) (q := 109) 102 (gd rfl) rfl rfl rfl rfl rfl (ww_o rfl) (Nat.le_of_ble_eq_true rfl) (Nat.zero_le _) (Nat.zero_le _) (k_384 (by first | exact dq1 hd rfl | exact dq0 hd rfl | exact dq2 hd rfl | exact dq3 hd rfl | omega) hIc63 ) (fun e u h => h) (fun v u h => ?_)
                obtain ⟨s99, hI99, hF99, rfl, rfl⟩ := h
                show GG _ _ _ _ _ _ _ _ [] _ _ _
                refine g_aload_n 103 (gd rfl) rfl rfl ?_
                refine g_getA (q2 := 174) 106 (gd rfl) rfl rfl rfl rfl ?_
                refine g_iload_n 107 (gd rfl) rfl rfl ?_
                refine g_iload_n 108 (gd rfl) rfl rfl ?_
                refine g_bipush 46 110 (gd rfl) rfl rfl ?_
                refine g_cmp_ne 113 118 (gd rfl) rfl rfl (fun c110 => ?_) (fun c110 => ?_)
                · skip
                  exact n_ne c110 i95 (in_c 46 rfl) rfl
                · skip
                  refine g_bipush 26 115 (gd rfl) rfl rfl ?_
                  refine g_goto 122 (gd rfl) rfl ?_
                  have i122 : In y63_1 0 59 := by have a0 := in_u i68; have a1 := in_u j63_2; have a2 := in_u j63_1; have a3 := in_u i95; have a4 := in_u i75; exact ⟨by omega, by omega⟩
                  refine g_iastore 123 (gd rfl) rfl (n := 60) rfl (in_ix i122 rfl) ?_
                  have hI122 := inv_sI (q := 174) (j := y63_1.toNatClampNeg) hI99 rfl (in_w 0 26 (in_c 26 rfl) rfl)
                  refine g_aload_n 124 (gd rfl) rfl rfl ?_
                  refine g_iconst 0 125 (gd rfl) rfl rfl ?_
                  refine g_lconst 1 126 (gd rfl) rfl rfl ?_
                  refine g_iload_n 127 (gd rfl) rfl rfl ?_
                  refine g_lshl 128 (gd rfl) rfl (fun z127 e127 => ?_)
                  have i127 := l_shl 59 e127 i122 rfl
                  refine g_lconst 1 129 (gd rfl) rfl rfl ?_
                  refine g_iload_n 130 (gd rfl) rfl rfl ?_
                  refine g_lshl 131 (gd rfl) rfl (fun z130 e130 => ?_)
                  have i130 := l_shl 59 e130 i122 rfl
                  refine g_callv (X := _) (As := [.int (Int32.ofInt 0), .long z127, .long z130]) (r := []) (b := A 109) (q := 109) 134 (gd rfl) rfl rfl rfl rfl rfl (ww_o rfl) (Nat.le_of_ble_eq_true rfl) (mc := 0) (ms := 0) (Nat.zero_le _) (Nat.zero_le _) (P := fun v u => _) ?_ (fun e u h => h) (fun v u h => h)
                  intro po131 xx131 hp131 hx131
                  refine g_enter2 (k := 387) (N := 300) (by first | exact dq1 hd rfl | exact dq0 hd rfl | exact dq2 hd rfl | exact dq3 hd rfl | omega) rfl (Nat.le_of_ble_eq_true rfl) ?_
                  refine g_aload_n 1 (gd rfl) rfl rfl ?_
                  refine g_iconst 1 2 (gd rfl) rfl rfl ?_
                  refine g_putZ 5 (gd rfl) rfl rfl rfl rfl (in01 (in_w 0 1 (in_c 1 rfl) rfl)) ?_
                  have hI131x2 := inv_sF (q := 109) (j := 97) hI122 rfl (in_w 0 1 (in_c 1 rfl) rfl)
                  refine g_aload_n 6 (gd rfl) rfl rfl ?_
                  refine g_iconst 1 7 (gd rfl) rfl rfl ?_
                  refine g_putZ 10 (gd rfl) rfl rfl rfl rfl (in01 (in_w 0 1 (in_c 1 rfl) rfl)) ?_
                  have hI131x7 := inv_sF (q := 109) (j := 98) hI131x2 rfl (in_w 0 1 (in_c 1 rfl) rfl)
                  refine g_aload_n 11 (gd rfl) rfl rfl ?_
                  refine g_iload_n 12 (gd rfl) rfl rfl ?_
                  refine g_putZ 15 (gd rfl) rfl rfl rfl rfl (in01 (in_w 0 1 (in_c 0 rfl) rfl)) ?_
                  have hI131x12 := inv_sF (q := 109) (j := 99) hI131x7 rfl (in_w 0 1 (in_c 0 rfl) rfl)
                  refine g_aload_n 16 (gd rfl) rfl rfl ?_
                  refine g_lload_n 17 (gd rfl) rfl rfl ?_
                  refine g_putL 20 (gd rfl) rfl rfl rfl rfl ?_
                  have hI131x17 := inv_sG (q := 109) (j := 100) (x := z127) hI131x12 rfl (l_rng z127)
                  refine g_aload_n 21 (gd rfl) rfl rfl ?_
                  refine g_lload 23 (gd rfl) rfl rfl ?_
                  refine g_putL 26 (gd rfl) rfl rfl rfl rfl ?_
                  have hI131x23 := inv_sG (q := 109) (j := 101) (x := z130) hI131x17 rfl (l_rng z130)
                  refine g_return (gd rfl) rfl (hp131 _ _ ?_)
                  show GG _ _ _ _ _ _ _ _ [] _ _ _
                  refine g_iinc 137 (gd rfl) rfl rfl (Nat.le_of_ble_eq_true rfl) (fun z134 e134 => ?_)
                  have i134 := in_add 1 60 e134 i122 (in_c 1 rfl) rfl rfl
                  refine g_goto 146 (gd rfl) rfl ?_
                  refine g_iinc 149 (gd rfl) rfl rfl (Nat.le_of_ble_eq_true rfl) (fun z146 e146 => ?_)
                  have i146 := in_add 1 61 e146 j63_2 (in_c 1 rfl) rfl rfl
                  refine g_goto 63 (gd rfl) rfl ?_
                  have i63 : In z146 0 60 := by exact ⟨by have a0 := in_u i68; have a1 := in_u j63_2; have a2 := in_u i122; have a3 := in_u i95; have a4 := in_u i146; have a5 := t_add e146 j63_2 (in_c 1 rfl) rfl; have a6 := in_u ((in_c 1 rfl)); have a7 := in_u i134; have a8 := t_add e134 i122 (in_c 1 rfl) rfl; have a9 := in_u ((in_c 0 rfl)); have a10 := in_u i75; omega, by have a0 := in_u i68; have a1 := in_u j63_2; have a2 := in_u i122; have a3 := in_u i95; have a4 := in_u i146; have a5 := t_add e146 j63_2 (in_c 1 rfl) rfl; have a6 := in_u ((in_c 1 rfl)); have a7 := in_u i134; have a8 := t_add e134 i122 (in_c 1 rfl) rfl; have a9 := in_u ((in_c 0 rfl)); have a10 := in_u i75; omega⟩
                  have n63 : (u_109_22).toInt ≤ 60 := by first | exact n63_0 | (have a0 := in_u i68; have a1 := in_u j63_2; have a2 := in_u i122; have a3 := in_u i95; have a4 := in_u i63; have a5 := t_add e146 j63_2 (in_c 1 rfl) rfl; have a6 := in_u ((in_c 1 rfl)); have a7 := in_u i134; have a8 := t_add e134 i122 (in_c 1 rfl) rfl; have a9 := in_u ((in_c 0 rfl)); have a10 := in_u i75; omega)
                  have n63a : (z134).toInt ≤ (z146).toInt := by have a0 := in_u i68; have a1 := in_u j63_2; have a2 := in_u i122; have a3 := in_u i95; have a4 := in_u i63; have a5 := t_add e146 j63_2 (in_c 1 rfl) rfl; have a6 := in_u ((in_c 1 rfl)); have a7 := in_u i134; have a8 := t_add e134 i122 (in_c 1 rfl) rfl; have a9 := in_u ((in_c 0 rfl)); have a10 := in_u i75; omega
                  exact gg_w (by first | exact Nat.le_add_right _ _ | exact gw2 | exact gw3 | exact gwe rfl | exact gwf rfl | exact gwg rfl | exact gwh rfl | omega) (gg_f (gf_cons rfl (gf_cons rfl (gf_cons rfl gf_nil))) (ih63 (sG (sG (sF (sF (sF (sI s99 174 y63_1.toNatClampNeg (Int32.ofInt 26)) 109 97 (Int32.ofInt 1)) 109 98 (Int32.ofInt 1)) 109 99 (Int32.ofInt 0)) 109 100 z127) 109 101 z130) z134 z146 hI131x23 (fr_sG rfl (fr_sG rfl (fr_sF rfl (fr_sF rfl (fr_sF rfl (fr_sI rfl (fr_tr rfl hFc63 hF99))))))) (in_w 0 60 i134 rfl) i63 n63 n63a (m_up mm63 (t_add e146 j63_2 (in_c 1 rfl) rfl) (in_w 1 1 (in_c 1 rfl) rfl))))
          · skip
            have i86x3 := r_le2 97 126 c86x3 (in_c 97 rfl) i83 rfl
            refine g_iload_n 7 (gd rfl) rfl rfl ?_
            refine g_bipush 122 9 (gd rfl) rfl rfl ?_
            refine g_cmp_gt 12 16 (gd rfl) rfl rfl (fun c86x9 => ?_) (fun c86x9 => ?_)
            · skip
              have i86x9 := r_lt2 123 126 c86x9 (in_c 122 rfl) i86x3 rfl
              refine g_iconst 0 17 (gd rfl) rfl rfl ?_
              refine g_ireturn (gd rfl) rfl (nb01 (in_w 0 1 (in_c 0 rfl) rfl)) (hp86 _ _ ?_)
              show GG _ _ _ _ _ _ _ _ [.int (Int32.ofInt 0)] _ _ _
              refine g_if_ne 92 98 (gd rfl) rfl rfl (fun c89 => ?_) (fun c89 => ?_)
              · skip
                exact zn_ne c89 (in_c 0 rfl) rfl
              · skip
                refine g_iload_n 93 (gd rfl) rfl rfl ?_
                refine g_bipush 46 95 (gd rfl) rfl rfl ?_
                refine g_cmp_ne 98 140 (gd rfl) rfl rfl (fun c95 => ?_) (fun c95 => ?_)
                · skip
                  refine g_aload_n 141 (gd rfl) rfl rfl ?_
                  refine g_iload_n 142 (gd rfl) rfl rfl ?_
                  refine g_iload_n 143 (gd rfl) rfl rfl ?_
                  refine g_callv (X := _) (As := [.int z83, .int y63_2]) (r := []) (b := A 109) (q := 109) 146 (gd rfl) rfl rfl rfl rfl rfl (ww_o rfl) (Nat.le_of_ble_eq_true rfl) (Nat.zero_le _) (Nat.zero_le _) (k_388 (by first | exact dq1 hd rfl | exact dq0 hd rfl | exact dq2 hd rfl | exact dq3 hd rfl | omega) hIc63 (in_w 0 126 i86x9 rfl) (in_w 0 60 j63_2 rfl)) (fun e u h => h) (fun v u h => ?_)
                  obtain ⟨s143, hI143, hF143, rfl, rfl⟩ := h
                  show GG _ _ _ _ _ _ _ _ [] _ _ _
                  refine g_iinc 149 (gd rfl) rfl rfl (Nat.le_of_ble_eq_true rfl) (fun z146 e146 => ?_)
                  have i146 := in_add 1 61 e146 j63_2 (in_c 1 rfl) rfl rfl
                  refine g_goto 63 (gd rfl) rfl ?_
                  have i63 : In z146 0 60 := by exact ⟨by have a0 := in_u i68; have a1 := in_u j63_2; have a2 := in_u j63_1; have a3 := in_u i86x9; have a4 := in_u i146; have a5 := t_add e146 j63_2 (in_c 1 rfl) rfl; have a6 := in_u ((in_c 1 rfl)); omega, by have a0 := in_u i68; have a1 := in_u j63_2; have a2 := in_u j63_1; have a3 := in_u i86x9; have a4 := in_u i146; have a5 := t_add e146 j63_2 (in_c 1 rfl) rfl; have a6 := in_u ((in_c 1 rfl)); omega⟩
                  have n63 : (u_109_22).toInt ≤ 60 := by first | exact n63_0 | (have a0 := in_u i68; have a1 := in_u j63_2; have a2 := in_u j63_1; have a3 := in_u i86x9; have a4 := in_u i63; have a5 := t_add e146 j63_2 (in_c 1 rfl) rfl; have a6 := in_u ((in_c 1 rfl)); omega)
                  have n63a : (y63_1).toInt ≤ (z146).toInt := by have a0 := in_u i68; have a1 := in_u j63_2; have a2 := in_u j63_1; have a3 := in_u i86x9; have a4 := in_u i63; have a5 := t_add e146 j63_2 (in_c 1 rfl) rfl; have a6 := in_u ((in_c 1 rfl)); omega
                  exact gg_w (by first | exact Nat.le_add_right _ _ | exact gw2 | exact gw3 | exact gwe rfl | exact gwf rfl | exact gwg rfl | exact gwh rfl | omega) (gg_f (gf_cons rfl (gf_cons rfl (gf_cons rfl gf_nil))) (ih63 s143 y63_1 z146 hI143 (fr_tr rfl hFc63 hF143) (in_w 0 60 j63_1 rfl) i63 n63 n63a (m_up mm63 (t_add e146 j63_2 (in_c 1 rfl) rfl) (in_w 1 1 (in_c 1 rfl) rfl))))
                · skip
                  exact n_eq c95 i86x9 (in_c 46 rfl) rfl
            · skip
              have i86x9 := r_le1 97 122 c86x9 i86x3 (in_c 122 rfl) rfl
              refine g_iconst 1 13 (gd rfl) rfl rfl ?_
              refine g_goto 17 (gd rfl) rfl ?_
              refine g_ireturn (gd rfl) rfl (nb01 (in_w 0 1 (in_c 1 rfl) rfl)) (hp86 _ _ ?_)
              show GG _ _ _ _ _ _ _ _ [.int (Int32.ofInt 1)] _ _ _
              refine g_if_ne 92 98 (gd rfl) rfl rfl (fun c89 => ?_) (fun c89 => ?_)
              · skip
                refine g_aload_n 99 (gd rfl) rfl rfl ?_
                refine g_callv (X := _) (As := []) (r := []) (b := A 109) (q := 109) 102 (gd rfl) rfl rfl rfl rfl rfl (ww_o rfl) (Nat.le_of_ble_eq_true rfl) (Nat.zero_le _) (Nat.zero_le _) (k_384 (by first | exact dq1 hd rfl | exact dq0 hd rfl | exact dq2 hd rfl | exact dq3 hd rfl | omega) hIc63 ) (fun e u h => h) (fun v u h => ?_)
                obtain ⟨s99, hI99, hF99, rfl, rfl⟩ := h
                show GG _ _ _ _ _ _ _ _ [] _ _ _
                refine g_aload_n 103 (gd rfl) rfl rfl ?_
                refine g_getA (q2 := 174) 106 (gd rfl) rfl rfl rfl rfl ?_
                refine g_iload_n 107 (gd rfl) rfl rfl ?_
                refine g_iload_n 108 (gd rfl) rfl rfl ?_
                refine g_bipush 46 110 (gd rfl) rfl rfl ?_
                refine g_cmp_ne 113 118 (gd rfl) rfl rfl (fun c110 => ?_) (fun c110 => ?_)
                · skip
                  refine g_iload_n 119 (gd rfl) rfl rfl ?_
                  refine g_bipush 97 121 (gd rfl) rfl rfl ?_
                  refine g_isub 122 (gd rfl) rfl (fun z121 e121 => ?_)
                  have i121 := in_sub 0 25 e121 i86x9 (in_c 97 rfl) rfl rfl
                  have i122 : In y63_1 0 59 := by have a0 := in_u i68; have a1 := in_u j63_2; have a2 := in_u j63_1; have a3 := in_u i86x9; have a4 := in_u i75; have a5 := in_u i121; have a6 := t_sub e121 i86x9 (in_c 97 rfl) rfl; have a7 := in_u ((in_c 97 rfl)); exact ⟨by omega, by omega⟩
                  refine g_iastore 123 (gd rfl) rfl (n := 60) rfl (in_ix i122 rfl) ?_
                  have hI122 := inv_sI (q := 174) (j := y63_1.toNatClampNeg) hI99 rfl (in_w 0 26 i121 rfl)
                  refine g_aload_n 124 (gd rfl) rfl rfl ?_
                  refine g_iconst 0 125 (gd rfl) rfl rfl ?_
                  refine g_lconst 1 126 (gd rfl) rfl rfl ?_
                  refine g_iload_n 127 (gd rfl) rfl rfl ?_
                  refine g_lshl 128 (gd rfl) rfl (fun z127 e127 => ?_)
                  have i127 := l_shl 59 e127 i122 rfl
                  refine g_lconst 1 129 (gd rfl) rfl rfl ?_
                  refine g_iload_n 130 (gd rfl) rfl rfl ?_
                  refine g_lshl 131 (gd rfl) rfl (fun z130 e130 => ?_)
                  have i130 := l_shl 59 e130 i122 rfl
                  refine g_callv (X := _) (As := [.int (Int32.ofInt 0), .long z127, .long z130]) (r := []) (b := A 109) (q := 109) 134 (gd rfl) rfl rfl rfl rfl rfl (ww_o rfl) (Nat.le_of_ble_eq_true rfl) (mc := 0) (ms := 0) (Nat.zero_le _) (Nat.zero_le _) (P := fun v u => _) ?_ (fun e u h => h) (fun v u h => h)
                  intro po131 xx131 hp131 hx131
                  refine g_enter2 (k := 387) (N := 300) (by first | exact dq1 hd rfl | exact dq0 hd rfl | exact dq2 hd rfl | exact dq3 hd rfl | omega) rfl (Nat.le_of_ble_eq_true rfl) ?_
                  refine g_aload_n 1 (gd rfl) rfl rfl ?_
                  refine g_iconst 1 2 (gd rfl) rfl rfl ?_
                  refine g_putZ 5 (gd rfl) rfl rfl rfl rfl (in01 (in_w 0 1 (in_c 1 rfl) rfl)) ?_
                  have hI131x2 := inv_sF (q := 109) (j := 97) hI122 rfl (in_w 0 1 (in_c 1 rfl) rfl)
                  refine g_aload_n 6 (gd rfl) rfl rfl ?_
                  refine g_iconst 1 7 (gd rfl) rfl rfl ?_
                  refine g_putZ 10 (gd rfl) rfl rfl rfl rfl (in01 (in_w 0 1 (in_c 1 rfl) rfl)) ?_
                  have hI131x7 := inv_sF (q := 109) (j := 98) hI131x2 rfl (in_w 0 1 (in_c 1 rfl) rfl)
                  refine g_aload_n 11 (gd rfl) rfl rfl ?_
                  refine g_iload_n 12 (gd rfl) rfl rfl ?_
                  refine g_putZ 15 (gd rfl) rfl rfl rfl rfl (in01 (in_w 0 1 (in_c 0 rfl) rfl)) ?_
                  have hI131x12 := inv_sF (q := 109) (j := 99) hI131x7 rfl (in_w 0 1 (in_c 0 rfl) rfl)
                  refine g_aload_n 16 (gd rfl) rfl rfl ?_
                  refine g_lload_n 17 (gd rfl) rfl rfl ?_
                  refine g_putL 20 (gd rfl) rfl rfl rfl rfl ?_
                  have hI131x17 := inv_sG (q := 109) (j := 100) (x := z127) hI131x12 rfl (l_rng z127)
                  refine g_aload_n 21 (gd rfl) rfl rfl ?_
                  refine g_lload 23 (gd rfl) rfl rfl ?_
                  refine g_putL 26 (gd rfl) rfl rfl rfl rfl ?_
                  have hI131x23 := inv_sG (q := 109) (j := 101) (x := z130) hI131x17 rfl (l_rng z130)
                  refine g_return (gd rfl) rfl (hp131 _ _ ?_)
                  show GG _ _ _ _ _ _ _ _ [] _ _ _
                  refine g_iinc 137 (gd rfl) rfl rfl (Nat.le_of_ble_eq_true rfl) (fun z134 e134 => ?_)
                  have i134 := in_add 1 60 e134 i122 (in_c 1 rfl) rfl rfl
                  refine g_goto 146 (gd rfl) rfl ?_
                  refine g_iinc 149 (gd rfl) rfl rfl (Nat.le_of_ble_eq_true rfl) (fun z146 e146 => ?_)
                  have i146 := in_add 1 61 e146 j63_2 (in_c 1 rfl) rfl rfl
                  refine g_goto 63 (gd rfl) rfl ?_
                  have i63 : In z146 0 60 := by exact ⟨by have a0 := in_u i68; have a1 := in_u j63_2; have a2 := in_u i122; have a3 := in_u i86x9; have a4 := in_u i146; have a5 := t_add e146 j63_2 (in_c 1 rfl) rfl; have a6 := in_u ((in_c 1 rfl)); have a7 := in_u i134; have a8 := t_add e134 i122 (in_c 1 rfl) rfl; have a9 := in_u ((in_c 0 rfl)); have a10 := in_u i75; have a11 := in_u i121; have a12 := t_sub e121 i86x9 (in_c 97 rfl) rfl; have a13 := in_u ((in_c 97 rfl)); omega, by have a0 := in_u i68; have a1 := in_u j63_2; have a2 := in_u i122; have a3 := in_u i86x9; have a4 := in_u i146; have a5 := t_add e146 j63_2 (in_c 1 rfl) rfl; have a6 := in_u ((in_c 1 rfl)); have a7 := in_u i134; have a8 := t_add e134 i122 (in_c 1 rfl) rfl; have a9 := in_u ((in_c 0 rfl)); have a10 := in_u i75; have a11 := in_u i121; have a12 := t_sub e121 i86x9 (in_c 97 rfl) rfl; have a13 := in_u ((in_c 97 rfl)); omega⟩
                  have n63 : (u_109_22).toInt ≤ 60 := by first | exact n63_0 | (have a0 := in_u i68; have a1 := in_u j63_2; have a2 := in_u i122; have a3 := in_u i86x9; have a4 := in_u i63; have a5 := t_add e146 j63_2 (in_c 1 rfl) rfl; have a6 := in_u ((in_c 1 rfl)); have a7 := in_u i134; have a8 := t_add e134 i122 (in_c 1 rfl) rfl; have a9 := in_u ((in_c 0 rfl)); have a10 := in_u i75; have a11 := in_u i121; have a12 := t_sub e121 i86x9 (in_c 97 rfl) rfl; have a13 := in_u ((in_c 97 rfl)); omega)
                  have n63a : (z134).toInt ≤ (z146).toInt := by have a0 := in_u i68; have a1 := in_u j63_2; have a2 := in_u i122; have a3 := in_u i86x9; have a4 := in_u i63; have a5 := t_add e146 j63_2 (in_c 1 rfl) rfl; have a6 := in_u ((in_c 1 rfl)); have a7 := in_u i134; have a8 := t_add e134 i122 (in_c 1 rfl) rfl; have a9 := in_u ((in_c 0 rfl)); have a10 := in_u i75; have a11 := in_u i121; have a12 := t_sub e121 i86x9 (in_c 97 rfl) rfl; have a13 := in_u ((in_c 97 rfl)); omega
                  exact gg_w (by first | exact Nat.le_add_right _ _ | exact gw2 | exact gw3 | exact gwe rfl | exact gwf rfl | exact gwg rfl | exact gwh rfl | omega) (gg_f (gf_cons rfl (gf_cons rfl (gf_cons rfl gf_nil))) (ih63 (sG (sG (sF (sF (sF (sI s99 174 y63_1.toNatClampNeg z121) 109 97 (Int32.ofInt 1)) 109 98 (Int32.ofInt 1)) 109 99 (Int32.ofInt 0)) 109 100 z127) 109 101 z130) z134 z146 hI131x23 (fr_sG rfl (fr_sG rfl (fr_sF rfl (fr_sF rfl (fr_sF rfl (fr_sI rfl (fr_tr rfl hFc63 hF99))))))) (in_w 0 60 i134 rfl) i63 n63 n63a (m_up mm63 (t_add e146 j63_2 (in_c 1 rfl) rfl) (in_w 1 1 (in_c 1 rfl) rfl))))
                · skip
                  exact n_eq c110 i86x9 (in_c 46 rfl) rfl
              · skip
                exact zn_eq c89 (in_c 1 rfl) rfl
  have ct33 : ∀ (k33 : Nat) (sc33 : GS) (y33_1 : Int32) (y33_2 : Int32), Inv sc33 → Fr fm_386 s sc33 → (In y33_1 0 0) → (In y33_2 0 60) → ((u_109_22).toInt ≤ 60) → 60 - (y33_2).toInt < (k33 : Int) → GG Z (d - 1) 386 post (gx xp) (109803 + k33 * 900) 33 (fun j => xlook j [(0, .ref (A 109)), (1, .int y33_1), (2, .int y33_2)]) [] (WW Z A sc33 ++ ex) 0 0 := by
    intro k33
    induction k33 with
    | zero => intro sc33 y33_1 y33_2 hIc33 hFc33 j33_1 j33_2 n33_0 mm33; exact m_no mm33 j33_2 rfl
    | succ k33 ih33 =>
      intro sc33 y33_1 y33_2 hIc33 hFc33 j33_1 j33_2 n33_0 mm33
      refine gg_w (M := 109803 + k33 * 900 + 900) gws ?_
      refine g_iload_n 34 (gd rfl) rfl rfl ?_
      refine g_bipush 60 36 (gd rfl) rfl rfl ?_
      refine g_cmp_ge 39 52 (gd rfl) rfl rfl (fun c36 => ?_) (fun c36 => ?_)
      · skip
        have i36 := r_le2 60 60 c36 (in_c 60 rfl) j33_2 rfl
        refine g_aload_n 53 (gd rfl) rfl rfl ?_
        refine g_iconst 0 54 (gd rfl) rfl rfl ?_
        refine g_putI 57 (gd rfl) rfl rfl rfl rfl ?_
        have hI54 := inv_sF (q := 109) (j := 96) hIc33 rfl (in_w 0 10 (in_c 0 rfl) rfl)
        refine g_aload_n 58 (gd rfl) rfl rfl ?_
        refine g_callv (X := _) (As := []) (r := []) (b := A 109) (q := 109) 61 (gd rfl) rfl rfl rfl rfl rfl (ww_o rfl) (Nat.le_of_ble_eq_true rfl) (mc := 0) (ms := 0) (Nat.zero_le _) (Nat.zero_le _) (P := fun v u => _) ?_ (fun e u h => h) (fun v u h => h)
        intro po58 xx58 hp58 hx58
        refine g_enter2 (k := 381) (N := 300) (by first | exact dq1 hd rfl | exact dq0 hd rfl | exact dq2 hd rfl | exact dq3 hd rfl | omega) rfl (Nat.le_of_ble_eq_true rfl) ?_
        refine g_aload_n 1 (gd rfl) rfl rfl ?_
        refine g_getA (q2 := 176) 4 (gd rfl) rfl rfl rfl rfl ?_
        refine g_aload_n 5 (gd rfl) rfl rfl ?_
        refine g_getI 8 (gd rfl) rfl rfl rfl (fun z58x5 e58x5 => ?_)
        have q58x5 : (Int32.ofInt 0) = z58x5 := (sF_get).trans e58x5.symm
        subst q58x5
        refine g_iconst 0 9 (gd rfl) rfl rfl ?_
        refine g_bastore 10 (gd rfl) rfl (n := 12) rfl (in_ix (in_c 0 rfl) rfl) ?_
        have hI58x9 := inv_sI (q := 176) (j := (Int32.ofInt 0).toNatClampNeg) hI54 rfl (in_w 0 1 (nar01 (in_w 0 1 (in_c 0 rfl) rfl)) rfl)
        refine g_aload_n 11 (gd rfl) rfl rfl ?_
        refine g_getA (q2 := 177) 14 (gd rfl) rfl rfl rfl rfl ?_
        refine g_aload_n 15 (gd rfl) rfl rfl ?_
        refine g_getI 18 (gd rfl) rfl rfl rfl (fun z58x15 e58x15 => ?_)
        have q58x15 : (Int32.ofInt 0) = z58x15 := (sI_F (sF_get)).trans e58x15.symm
        subst q58x15
        refine g_iconst 0 19 (gd rfl) rfl rfl ?_
        refine g_bastore 20 (gd rfl) rfl (n := 12) rfl (in_ix (in_c 0 rfl) rfl) ?_
        have hI58x19 := inv_sI (q := 177) (j := (Int32.ofInt 0).toNatClampNeg) hI58x9 rfl (in_w 0 1 (nar01 (in_w 0 1 (in_c 0 rfl) rfl)) rfl)
        refine g_aload_n 21 (gd rfl) rfl rfl ?_
        refine g_getA (q2 := 178) 24 (gd rfl) rfl rfl rfl rfl ?_
        refine g_aload_n 25 (gd rfl) rfl rfl ?_
        refine g_getI 28 (gd rfl) rfl rfl rfl (fun z58x25 e58x25 => ?_)
        have q58x25 : (Int32.ofInt 0) = z58x25 := (sI_F (sI_F (sF_get))).trans e58x25.symm
        subst q58x25
        refine g_lconst 0 29 (gd rfl) rfl rfl ?_
        refine g_lastore 30 (gd rfl) rfl (n := 12) rfl (in_ix (in_c 0 rfl) rfl) ?_
        have hI58x29 := inv_sL (q := 178) (j := (Int32.ofInt 0).toNatClampNeg) (x := (Int64.ofInt 0)) hI58x19 rfl (l_rng (Int64.ofInt 0))
        refine g_aload_n 31 (gd rfl) rfl rfl ?_
        refine g_getA (q2 := 179) 34 (gd rfl) rfl rfl rfl rfl ?_
        refine g_aload_n 35 (gd rfl) rfl rfl ?_
        refine g_getI 38 (gd rfl) rfl rfl rfl (fun z58x35 e58x35 => ?_)
        have q58x35 : (Int32.ofInt 0) = z58x35 := (sL_F (sI_F (sI_F (sF_get)))).trans e58x35.symm
        subst q58x35
        refine g_lconst 0 39 (gd rfl) rfl rfl ?_
        refine g_lastore 40 (gd rfl) rfl (n := 12) rfl (in_ix (in_c 0 rfl) rfl) ?_
        have hI58x39 := inv_sL (q := 179) (j := (Int32.ofInt 0).toNatClampNeg) (x := (Int64.ofInt 0)) hI58x29 rfl (l_rng (Int64.ofInt 0))
        refine g_aload_n 41 (gd rfl) rfl rfl ?_
        refine g_callv (X := _) (As := []) (r := []) (b := A 109) (q := 109) 44 (gd rfl) rfl rfl rfl rfl rfl (ww_o rfl) (Nat.le_of_ble_eq_true rfl) (mc := 0) (ms := 0) (Nat.zero_le _) (Nat.zero_le _) (P := fun v u => _) ?_ (fun e u h => h) (fun v u h => h)
        intro po58x41 xx58x41 hp58x41 hx58x41
        refine g_enter2 (k := 382) (N := 300) (by first | exact dq1 hd rfl | exact dq0 hd rfl | exact dq2 hd rfl | exact dq3 hd rfl | omega) rfl (Nat.le_of_ble_eq_true rfl) ?_
        refine g_aload_n 1 (gd rfl) rfl rfl ?_
        refine g_getA (q2 := 180) 4 (gd rfl) rfl rfl rfl rfl ?_
        refine g_aload_n 5 (gd rfl) rfl rfl ?_
        refine g_getI 8 (gd rfl) rfl rfl rfl (fun z58x41x5 e58x41x5 => ?_)
        have q58x41x5 : (Int32.ofInt 0) = z58x41x5 := (sL_F (sL_F (sI_F (sI_F (sF_get))))).trans e58x41x5.symm
        subst q58x41x5
        refine g_iconst 1 9 (gd rfl) rfl rfl ?_
        refine g_bastore 10 (gd rfl) rfl (n := 12) rfl (in_ix (in_c 0 rfl) rfl) ?_
        have hI58x41x9 := inv_sI (q := 180) (j := (Int32.ofInt 0).toNatClampNeg) hI58x39 rfl (in_w 0 1 (nar01 (in_w 0 1 (in_c 1 rfl) rfl)) rfl)
        refine g_aload_n 11 (gd rfl) rfl rfl ?_
        refine g_getA (q2 := 181) 14 (gd rfl) rfl rfl rfl rfl ?_
        refine g_aload_n 15 (gd rfl) rfl rfl ?_
        refine g_getI 18 (gd rfl) rfl rfl rfl (fun z58x41x15 e58x41x15 => ?_)
        have q58x41x15 : (Int32.ofInt 0) = z58x41x15 := (sI_F (sL_F (sL_F (sI_F (sI_F (sF_get)))))).trans e58x41x15.symm
        subst q58x41x15
        refine g_lconst 0 19 (gd rfl) rfl rfl ?_
        refine g_lastore 20 (gd rfl) rfl (n := 12) rfl (in_ix (in_c 0 rfl) rfl) ?_
        have hI58x41x19 := inv_sL (q := 181) (j := (Int32.ofInt 0).toNatClampNeg) (x := (Int64.ofInt 0)) hI58x41x9 rfl (l_rng (Int64.ofInt 0))
        refine g_aload_n 21 (gd rfl) rfl rfl ?_
        refine g_getA (q2 := 182) 24 (gd rfl) rfl rfl rfl rfl ?_
        refine g_aload_n 25 (gd rfl) rfl rfl ?_
        refine g_getI 28 (gd rfl) rfl rfl rfl (fun z58x41x25 e58x41x25 => ?_)
        have q58x41x25 : (Int32.ofInt 0) = z58x41x25 := (sL_F (sI_F (sL_F (sL_F (sI_F (sI_F (sF_get))))))).trans e58x41x25.symm
        subst q58x41x25
        refine g_lconst 0 29 (gd rfl) rfl rfl ?_
        refine g_lastore 30 (gd rfl) rfl (n := 12) rfl (in_ix (in_c 0 rfl) rfl) ?_
        have hI58x41x29 := inv_sL (q := 182) (j := (Int32.ofInt 0).toNatClampNeg) (x := (Int64.ofInt 0)) hI58x41x19 rfl (l_rng (Int64.ofInt 0))
        refine g_aload_n 31 (gd rfl) rfl rfl ?_
        refine g_iconst 0 32 (gd rfl) rfl rfl ?_
        refine g_putZ 35 (gd rfl) rfl rfl rfl rfl (in01 (in_w 0 1 (in_c 0 rfl) rfl)) ?_
        have hI58x41x32 := inv_sF (q := 109) (j := 97) hI58x41x29 rfl (in_w 0 1 (in_c 0 rfl) rfl)
        refine g_aload_n 36 (gd rfl) rfl rfl ?_
        refine g_iconst 0 37 (gd rfl) rfl rfl ?_
        refine g_putZ 40 (gd rfl) rfl rfl rfl rfl (in01 (in_w 0 1 (in_c 0 rfl) rfl)) ?_
        have hI58x41x37 := inv_sF (q := 109) (j := 98) hI58x41x32 rfl (in_w 0 1 (in_c 0 rfl) rfl)
        refine g_return (gd rfl) rfl (hp58x41 _ _ ?_)
        show GG _ _ _ _ _ _ _ _ [] _ _ _
        refine g_return (gd rfl) rfl (hp58 _ _ ?_)
        show GG _ _ _ _ _ _ _ _ [] _ _ _
        refine g_iconst 0 62 (gd rfl) rfl rfl ?_
        refine g_istore_n 63 (gd rfl) rfl (Nat.le_of_ble_eq_true rfl) ?_
        have n63 : (u_109_22).toInt ≤ 60 := by first | exact n33_0 | (have a0 := in_u ro_109_22; have a1 := in_u i36; have a2 := in_u j33_1; have a3 := in_u ((in_c 0 rfl)); omega)
        have n63a : (y33_1).toInt ≤ ((Int32.ofInt 0)).toInt := by have a0 := in_u ro_109_22; have a1 := in_u i36; have a2 := in_u j33_1; have a3 := in_u ((in_c 0 rfl)); omega
        exact gg_w (by first | exact Nat.le_add_right _ _ | exact gw2 | exact gw3 | exact gwe rfl | exact gwf rfl | exact gwg rfl | exact gwh rfl | omega) (gg_f (gf_cons rfl (gf_cons rfl (gf_cons rfl gf_nil))) (ct63 61 (sF (sF (sL (sL (sI (sL (sL (sI (sI (sF sc33 109 96 (Int32.ofInt 0)) 176 (Int32.ofInt 0).toNatClampNeg (vp_nar .boolean (Int32.ofInt 0))) 177 (Int32.ofInt 0).toNatClampNeg (vp_nar .boolean (Int32.ofInt 0))) 178 (Int32.ofInt 0).toNatClampNeg (Int64.ofInt 0)) 179 (Int32.ofInt 0).toNatClampNeg (Int64.ofInt 0)) 180 (Int32.ofInt 0).toNatClampNeg (vp_nar .boolean (Int32.ofInt 1))) 181 (Int32.ofInt 0).toNatClampNeg (Int64.ofInt 0)) 182 (Int32.ofInt 0).toNatClampNeg (Int64.ofInt 0)) 109 97 (Int32.ofInt 0)) 109 98 (Int32.ofInt 0)) y33_1 (Int32.ofInt 0) hI58x41x37 (fr_sF rfl (fr_sF rfl (fr_sL rfl (fr_sL rfl (fr_sI rfl (fr_sL rfl (fr_sL rfl (fr_sI rfl (fr_sI rfl (fr_sF rfl hFc33)))))))))) (in_w 0 60 j33_1 rfl) (in_w 0 60 (in_c 0 rfl) rfl) n63 n63a (m_in 61 (in_w 0 60 (in_c 0 rfl) rfl) rfl)))
      · skip
        have i36 := r_lt1 0 59 c36 j33_2 (in_c 60 rfl) rfl
        refine g_aload_n 40 (gd rfl) rfl rfl ?_
        refine g_getA (q2 := 175) 43 (gd rfl) rfl rfl rfl rfl ?_
        refine g_iload_n 44 (gd rfl) rfl rfl ?_
        refine g_lconst 0 45 (gd rfl) rfl rfl ?_
        refine g_lastore 46 (gd rfl) rfl (n := 60) rfl (in_ix i36 rfl) ?_
        have hI45 := inv_sL (q := 175) (j := y33_2.toNatClampNeg) (x := (Int64.ofInt 0)) hIc33 rfl (l_rng (Int64.ofInt 0))
        refine g_iinc 49 (gd rfl) rfl rfl (Nat.le_of_ble_eq_true rfl) (fun z46 e46 => ?_)
        have i46 := in_add 1 60 e46 i36 (in_c 1 rfl) rfl rfl
        refine g_goto 33 (gd rfl) rfl ?_
        have n33 : (u_109_22).toInt ≤ 60 := by first | exact n33_0 | (have a0 := in_u ro_109_22; have a1 := in_u i36; have a2 := in_u j33_1; have a3 := in_u i46; have a4 := t_add e46 i36 (in_c 1 rfl) rfl; have a5 := in_u ((in_c 1 rfl)); omega)
        exact gg_w (by first | exact Nat.le_add_right _ _ | exact gw2 | exact gw3 | exact gwe rfl | exact gwf rfl | exact gwg rfl | exact gwh rfl | omega) (gg_f (gf_cons rfl (gf_cons rfl (gf_cons rfl gf_nil))) (ih33 (sL sc33 175 y33_2.toNatClampNeg (Int64.ofInt 0)) y33_1 z46 hI45 (fr_sL rfl hFc33) (in_w 0 0 j33_1 rfl) (in_w 0 60 i46 rfl) n33 (m_up mm33 (t_add e46 i36 (in_c 1 rfl) rfl) (in_w 1 1 (in_c 1 rfl) rfl))))
  refine g_enter2 (k := 386) (N := 165603) (by first | exact dq1 hd rfl | exact dq0 hd rfl | exact dq2 hd rfl | exact dq3 hd rfl | omega) rfl (Nat.le_of_ble_eq_true rfl) ?_
  refine g_aload_n 1 (gd rfl) rfl rfl ?_
  refine g_iconst 0 2 (gd rfl) rfl rfl ?_
  refine g_putI 5 (gd rfl) rfl rfl rfl rfl ?_
  have hI2 := inv_sF (q := 109) (j := 0) hI rfl (in_w 0 2 (in_c 0 rfl) rfl)
  refine g_aload_n 6 (gd rfl) rfl rfl ?_
  refine g_iconst 0 7 (gd rfl) rfl rfl ?_
  refine g_putI 10 (gd rfl) rfl rfl rfl rfl ?_
  have hI7 := inv_sF (q := 109) (j := 23) hI2 rfl (in_w 0 9 (in_c 0 rfl) rfl)
  refine g_aload_n 11 (gd rfl) rfl rfl ?_
  refine g_getI 14 (gd rfl) rfl rfl rfl (fun z11 e11 => ?_)
  have q11 : u_109_22 = z11 := (sF_ne rfl (sF_ne rfl (e_109_22))).trans e11.symm
  subst q11
  refine g_bipush 60 16 (gd rfl) rfl rfl ?_
  refine g_cmp_le 19 29 (gd rfl) rfl rfl (fun c16 => ?_) (fun c16 => ?_)
  · skip
    have i16 := r_le1 0 60 c16 ro_109_22 (in_c 60 rfl) rfl
    refine g_iconst 0 30 (gd rfl) rfl rfl ?_
    refine g_istore_n 31 (gd rfl) rfl (Nat.le_of_ble_eq_true rfl) ?_
    refine g_iconst 0 32 (gd rfl) rfl rfl ?_
    refine g_istore_n 33 (gd rfl) rfl (Nat.le_of_ble_eq_true rfl) ?_
    have n33 : (u_109_22).toInt ≤ 60 := by have a0 := in_u i16; have a1 := in_u ((in_c 0 rfl)); omega
    exact gg_w (by first | exact Nat.le_of_ble_eq_true rfl | omega) (gg_f (gf_cons rfl (gf_cons rfl (gf_cons rfl gf_nil))) (ct33 61 (sF (sF s 109 0 (Int32.ofInt 0)) 109 23 (Int32.ofInt 0)) (Int32.ofInt 0) (Int32.ofInt 0) hI7 (fr_sF rfl (fr_sF rfl fr_rf)) (in_w 0 0 (in_c 0 rfl) rfl) (in_w 0 60 (in_c 0 rfl) rfl) n33 (m_in 61 (in_w 0 60 (in_c 0 rfl) rfl) rfl)))
  · skip
    have i16 := r_lt2 61 1000 c16 (in_c 60 rfl) ro_109_22 rfl
    refine g_aload_n 20 (gd rfl) rfl rfl ?_
    refine g_iconst 2 21 (gd rfl) rfl rfl ?_
    refine g_bipush 60 23 (gd rfl) rfl rfl ?_
    refine g_callv (X := _) (As := [.int (Int32.ofInt 2), .int (Int32.ofInt 60)]) (r := []) (b := A 109) (q := 109) 26 (gd rfl) rfl rfl rfl rfl rfl (ww_o rfl) (Nat.le_of_ble_eq_true rfl) (Nat.zero_le _) (Nat.zero_le _) (k_298 (by first | exact dq1 hd rfl | exact dq0 hd rfl | exact dq2 hd rfl | exact dq3 hd rfl | omega) hI7 (in_w 1 5 (in_c 2 rfl) rfl)) (fun e u h => h) (fun v u h => ?_)
    obtain ⟨s23, hI23, hF23, n23, rfl, rfl⟩ := h
    obtain ⟨z23a, e23⟩ : ∃ w, w = s23.2.2.1 109 23 := ⟨_, rfl⟩
    have i23a := inv_F hI23 0 9 rfl e23
    rw [← (show z23a = s23.2.2.1 109 23 from e23)] at n23
    show GG _ _ _ _ _ _ _ _ [] _ _ _
    refine g_bipush (-4) 28 (gd rfl) rfl rfl ?_
    exact g_ireturn (gd rfl) rfl rfl (hP _ _ ⟨s23, hI23, (fr_tr rfl (fr_sF rfl (fr_sF rfl fr_rf)) hF23), (Int32.ofInt (-4)), rfl, rfl, in_w (-4) 0 (in_c (-4) rfl) rfl⟩)
end
