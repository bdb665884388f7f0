/-! methods, by vc.py -/
def fm_56_102_46 : FM := ([103, 104], [], [(46, 2), (46, 3), (46, 4), (46, 5), (46, 6), (46, 7), (102, 1), (102, 2), (102, 4)], [])
/-- GraphHouse$Engine.adopt -/
theorem k_56_102_46 {Z : AmZ} {A : Nat → Nat} {s : GS} {ex : va_W} {d : Nat} {X : AmX}  (hd : 296 ≤ d) (hI : Inv s)  : GC Z d 56 [.ref (A 102), .ref (A 46)] (WW Z A s ++ ex) 0 0 (fun v u => ∃ t : GS, Inv t ∧ Fr fm_56_102_46 s t ∧ ∃ z : Int32, v = some (.int z) ∧ u = WW Z A t ++ ex ∧ In z 0 1) X := by
  intro post xp hP hX
  obtain ⟨u_46_1, e_46_1⟩ : ∃ w, w = s.2.2.1 46 1 := ⟨_, rfl⟩
  have ro_46_1 := inv_F hI 0 1000 rfl e_46_1
  refine g_enter2 (k := 56) (N := 900) (by omega) rfl (Nat.le_of_ble_eq_true rfl) ?_
  refine g_aload_n 1 (gd rfl) rfl rfl ?_
  refine g_callv (X := _) (As := []) (r := []) (b := A 46) (q := 46) 4 (gd rfl) rfl rfl rfl rfl rfl (ww_o rfl) (Nat.le_of_ble_eq_true rfl) (mc := 0) (ms := 0) (Nat.zero_le _) (Nat.zero_le _) (P := fun v u => _) ?_ (fun e u h => h) (fun v u h => h)
  intro po1 xx1 hp1 hx1
  refine g_enter2 (k := 167) (N := 300) (by omega) rfl (Nat.le_of_ble_eq_true rfl) ?_
  refine g_aload_n 1 (gd rfl) rfl rfl ?_
  refine g_iconst 0 2 (gd rfl) rfl rfl ?_
  refine g_putI 5 (gd rfl) rfl rfl rfl rfl ?_
  have hI1x2 := rng_sF (q := 46) (j := 2) hI.1 rfl (in_w 0 1000 (in_c 0 rfl) rfl)
  refine g_aload_n 6 (gd rfl) rfl rfl ?_
  refine g_iconst (-1) 7 (gd rfl) rfl rfl ?_
  refine g_putI 10 (gd rfl) rfl rfl rfl rfl ?_
  have hI1x7 := rng_sF (q := 46) (j := 6) hI1x2 rfl (in_w (-1) 5 (in_c (-1) rfl) rfl)
  refine g_aload_n 11 (gd rfl) rfl rfl ?_
  refine g_iconst (-1) 12 (gd rfl) rfl rfl ?_
  refine g_putI 15 (gd rfl) rfl rfl rfl rfl ?_
  have hI1x12 := rng_sF (q := 46) (j := 7) hI1x7 rfl (in_w (-1) 1000 (in_c (-1) rfl) rfl)
  refine g_return (gd rfl) rfl (hp1 _ _ ?_)
  show GG _ _ _ _ _ _ _ _ [] _ _ _
  refine g_aload_n 5 (gd rfl) rfl rfl ?_
  refine g_getI 8 (gd rfl) rfl rfl rfl (fun z5 e5 => ?_)
  have q5 : u_46_1 = z5 := (sF_ne rfl (sF_ne rfl (sF_ne rfl (e_46_1)))).trans e5.symm
  subst q5
  refine g_bipush 120 10 (gd rfl) rfl rfl ?_
  refine g_cmp_le 13 21 (gd rfl) rfl rfl (fun c10 => ?_) (fun c10 => ?_)
  · skip
    have i10 := r_le1 0 120 c10 ro_46_1 (in_c 120 rfl) rfl
    refine g_aload_n 22 (gd rfl) rfl rfl ?_
    refine g_iconst 0 23 (gd rfl) rfl rfl ?_
    refine g_putI 26 (gd rfl) rfl rfl rfl rfl ?_
    have hI23 := rng_sF (q := 102) (j := 4) hI1x12 rfl (in_w 0 120 (in_c 0 rfl) rfl)
    refine g_aload_n 27 (gd rfl) rfl rfl ?_
    refine g_bipush 6 29 (gd rfl) rfl rfl ?_
    refine g_iconst 0 30 (gd rfl) rfl rfl ?_
    have hI30 : Inv (sF (sF (sF (sF s 46 2 (Int32.ofInt 0)) 46 6 (Int32.ofInt (-1))) 46 7 (Int32.ofInt (-1))) 102 4 (Int32.ofInt 0)) := by have hFF : Fr ([104], [], [(46, 2), (46, 3), (46, 4), (46, 5), (46, 6), (46, 7), (102, 4)], []) s (sF (sF (sF (sF s 46 2 (Int32.ofInt 0)) 46 6 (Int32.ofInt (-1))) 46 7 (Int32.ofInt (-1))) 102 4 (Int32.ofInt 0)) := (fr_sF rfl (fr_sF rfl (fr_sF rfl (fr_sF rfl fr_rf)))); exact ⟨hI23, kk_all hI.2 hFF rfl⟩
    have v30 : (Int32.ofInt 0) = (sF (sF (sF (sF s 46 2 (Int32.ofInt 0)) 46 6 (Int32.ofInt (-1))) 46 7 (Int32.ofInt (-1))) 102 4 (Int32.ofInt 0)).2.2.1 46 2 := sF_ne rfl (sF_ne rfl (sF_ne rfl (sF_get)))
    have v30a : u_46_1 = (sF (sF (sF (sF s 46 2 (Int32.ofInt 0)) 46 6 (Int32.ofInt (-1))) 46 7 (Int32.ofInt (-1))) 102 4 (Int32.ofInt 0)).2.2.1 46 1 := sF_ne rfl (sF_ne rfl (sF_ne rfl (sF_ne rfl (e_46_1))))
    have n30 : ((Int32.ofInt 0)).toInt ≤ (u_46_1).toInt := by have a0 := i10; unfold In at a0; have a1 := (in_c 0 rfl); unfold In at a1; have a2 := (in_c (-1) rfl); unfold In at a2; omega
    refine g_callv (X := _) (As := [.int (Int32.ofInt 6), .int (Int32.ofInt 0)]) (r := []) (b := A 46) (q := 46) 33 (gd rfl) rfl rfl rfl rfl rfl (ww_o rfl) (Nat.le_of_ble_eq_true rfl) (Nat.zero_le _) (Nat.zero_le _) (k_171_46 (by omega) hI30 (in_w 6 7 (in_c 6 rfl) rfl) (in_w 0 1 (in_c 0 rfl) rfl) v30 v30a n30) (fun e u h => h) (fun v u h => ?_)
    obtain ⟨s30, hI30a, hF30, n30a, n30b, n30c, rfl, rfl, p30, p30a⟩ := h
    obtain ⟨z30a, e30⟩ : ∃ w, w = s30.2.2.1 46 2 := ⟨_, rfl⟩
    have i30a := rng_F hI30a.1 0 1000 rfl e30
    obtain ⟨z30b, e30a⟩ : ∃ w, w = s30.2.2.1 46 4 := ⟨_, rfl⟩
    have i30b := rng_F hI30a.1 0 1000 rfl e30a
    rw [← (show z30a = s30.2.2.1 46 2 from e30)] at n30a
    rw [← (show u_46_1 = s30.2.2.1 46 1 from fr_F (s := (sF (sF (sF (sF s 46 2 (Int32.ofInt 0)) 46 6 (Int32.ofInt (-1))) 46 7 (Int32.ofInt (-1))) 102 4 (Int32.ofInt 0))) (sF_ne rfl (sF_ne rfl (sF_ne rfl (sF_ne rfl (e_46_1))))) hF30 rfl)] at n30a
    rw [← (show z30a = s30.2.2.1 46 2 from e30)] at n30b
    rw [← (show z30b = s30.2.2.1 46 4 from e30a)] at n30b
    rw [← (show (Int32.ofInt 0) = (sF (sF (sF (sF s 46 2 (Int32.ofInt 0)) 46 6 (Int32.ofInt (-1))) 46 7 (Int32.ofInt (-1))) 102 4 (Int32.ofInt 0)).2.2.1 46 2 from sF_ne rfl (sF_ne rfl (sF_ne rfl (sF_get))))] at n30c
    rw [← (show z30b = s30.2.2.1 46 4 from e30a)] at n30c
    show GG _ _ _ _ _ _ _ _ [] _ _ _
    refine g_aload_n 34 (gd rfl) rfl rfl ?_
    refine g_aload_n 35 (gd rfl) rfl rfl ?_
    refine g_iconst 0 36 (gd rfl) rfl rfl ?_
    have hI36 : Inv s30 := by have hFF : Fr ([104], [], [(46, 2), (46, 3), (46, 4), (46, 5), (46, 6), (46, 7), (102, 4)], []) s s30 := (fr_tr rfl (fr_sF rfl (fr_sF rfl (fr_sF rfl (fr_sF rfl fr_rf)))) hF30); exact ⟨hI30a.1, kk_all hI.2 hFF rfl⟩
    have v36 : u_46_1 = s30.2.2.1 46 1 := fr_F (s := (sF (sF (sF (sF s 46 2 (Int32.ofInt 0)) 46 6 (Int32.ofInt (-1))) 46 7 (Int32.ofInt (-1))) 102 4 (Int32.ofInt 0))) (sF_ne rfl (sF_ne rfl (sF_ne rfl (sF_ne rfl (e_46_1))))) hF30 rfl
    have v36a : (Int32.ofInt 0) = s30.2.2.1 102 4 := fr_F (s := (sF (sF (sF (sF s 46 2 (Int32.ofInt 0)) 46 6 (Int32.ofInt (-1))) 46 7 (Int32.ofInt (-1))) 102 4 (Int32.ofInt 0))) (sF_get) hF30 rfl
    have n36 : (z30a).toInt ≤ (u_46_1).toInt := by have a0 := i10; unfold In at a0; have a1 := i30b; unfold In at a1; have a2 := i30a; unfold In at a2; have a3 := (in_c 0 rfl); unfold In at a3; have a4 := (in_c (-1) rfl); unfold In at a4; omega
    have n36a : (z30b).toInt ≤ (z30a).toInt := by have a0 := i10; unfold In at a0; have a1 := i30b; unfold In at a1; have a2 := i30a; unfold In at a2; have a3 := (in_c 0 rfl); unfold In at a3; have a4 := (in_c (-1) rfl); unfold In at a4; omega
    have n36b : ((Int32.ofInt 0)).toInt ≤ (z30b).toInt := by have a0 := i10; unfold In at a0; have a1 := i30b; unfold In at a1; have a2 := i30a; unfold In at a2; have a3 := (in_c 0 rfl); unfold In at a3; have a4 := (in_c (-1) rfl); unfold In at a4; omega
    have p36 : TK s30 := by exact p30 (by decide)
    refine g_callv (X := _) (As := [.ref (A 46), .int (Int32.ofInt 0)]) (r := []) (b := A 102) (q := 102) 39 (gd rfl) rfl rfl rfl rfl rfl (ww_o rfl) (Nat.le_of_ble_eq_true rfl) (Nat.zero_le _) (Nat.zero_le _) (k_58_102_46 (by omega) hI36 (in_w 0 10 (in_c 0 rfl) rfl) e30 v36 e30a rfl rfl v36a (in_w 0 120 i10 rfl) n36 n36a n36b p36) (fun e u h => h) (fun v u h => ?_)
    obtain ⟨s36, hI36a, hF36, n36c, n36d, n36e, n36f, z36, rfl, rfl, i36, p36a, p36b⟩ := h
    obtain ⟨z36a, e36⟩ : ∃ w, w = s36.2.2.1 46 2 := ⟨_, rfl⟩
    have i36a := rng_F hI36a.1 0 1000 rfl e36
    obtain ⟨z36b, e36a⟩ : ∃ w, w = s36.2.2.1 46 4 := ⟨_, rfl⟩
    have i36b := rng_F hI36a.1 0 1000 rfl e36a
    obtain ⟨z36c, e36b⟩ : ∃ w, w = s36.2.2.1 102 4 := ⟨_, rfl⟩
    have i36c := rng_F hI36a.1 0 120 rfl e36b
    rw [← (show z36a = s36.2.2.1 46 2 from e36)] at n36c
    rw [← (show u_46_1 = s36.2.2.1 46 1 from fr_F (fr_F (s := (sF (sF (sF (sF s 46 2 (Int32.ofInt 0)) 46 6 (Int32.ofInt (-1))) 46 7 (Int32.ofInt (-1))) 102 4 (Int32.ofInt 0))) (sF_ne rfl (sF_ne rfl (sF_ne rfl (sF_ne rfl (e_46_1))))) hF30 rfl) hF36 rfl)] at n36c
    rw [← (show z36a = s36.2.2.1 46 2 from e36)] at n36d
    rw [← (show z36b = s36.2.2.1 46 4 from e36a)] at n36d
    rw [← (show z36b = s36.2.2.1 46 4 from e36a)] at n36e
    rw [← (show z36c = s36.2.2.1 102 4 from e36b)] at n36e
    rw [← (show z30b = s30.2.2.1 46 4 from e30a)] at n36f
    rw [← (show (Int32.ofInt 0) = s30.2.2.1 102 4 from fr_F (s := (sF (sF (sF (sF s 46 2 (Int32.ofInt 0)) 46 6 (Int32.ofInt (-1))) 46 7 (Int32.ofInt (-1))) 102 4 (Int32.ofInt 0))) (sF_get) hF30 rfl)] at n36f
    rw [← (show z36b = s36.2.2.1 46 4 from e36a)] at n36f
    rw [← (show z36c = s36.2.2.1 102 4 from e36b)] at n36f
    show GG _ _ _ _ _ _ _ _ [.int z36] _ _ _
    refine g_if_ne 42 44 (gd rfl) rfl rfl (fun c39 => ?_) (fun c39 => ?_)
    · skip
      have i39 := z_ne 1 1 c39 i36 rfl
      refine g_aload_n 45 (gd rfl) rfl rfl ?_
      refine g_bipush 59 47 (gd rfl) rfl rfl ?_
      refine g_callv (X := _) (As := [.int (Int32.ofInt 59)]) (r := []) (b := A 46) (q := 46) 50 (gd rfl) rfl rfl rfl rfl rfl (ww_o rfl) (Nat.le_of_ble_eq_true rfl) (mc := 0) (ms := 0) (Nat.zero_le _) (Nat.zero_le _) (P := fun v u => _) ?_ (fun e u h => h) (fun v u h => h)
      intro po47 xx47 hp47 hx47
      refine g_enter2 (k := 170) (N := 300) (by omega) rfl (Nat.le_of_ble_eq_true rfl) ?_
      refine g_aload_n 1 (gd rfl) rfl rfl ?_
      refine g_getI 4 (gd rfl) rfl rfl rfl (fun z47x1 e47x1 => ?_)
      have i47x1 := rng_F hI36a.1 0 5 rfl e47x1
      refine g_iconst 3 5 (gd rfl) rfl rfl ?_
      refine g_cmp_ne 8 20 (gd rfl) rfl rfl (fun c47x5 => ?_) (fun c47x5 => ?_)
      · skip
        refine g_iconst 0 21 (gd rfl) rfl rfl ?_
        refine g_ireturn (gd rfl) rfl (nb01 (in_w 0 1 (in_c 0 rfl) rfl)) (hp47 _ _ ?_)
        show GG _ _ _ _ _ _ _ _ [.int (Int32.ofInt 0)] _ _ _
        refine g_if_ne 53 60 (gd rfl) rfl rfl (fun c50 => ?_) (fun c50 => ?_)
        · skip
          exact zn_ne c50 (in_c 0 rfl) rfl
        · skip
          refine g_aload_n 54 (gd rfl) rfl rfl ?_
          refine g_iconst 2 55 (gd rfl) rfl rfl ?_
          refine g_iconst 4 56 (gd rfl) rfl rfl ?_
          have hI56 : Inv s36 := by have hFF : Fr ([104], [], [(46, 2), (46, 3), (46, 4), (46, 5), (46, 6), (46, 7), (102, 4)], []) s s36 := (fr_tr rfl (fr_tr rfl (fr_sF rfl (fr_sF rfl (fr_sF rfl (fr_sF rfl fr_rf)))) hF30) hF36); exact ⟨hI36a.1, kk_all hI.2 hFF rfl⟩
          refine g_callv (X := _) (As := [.int (Int32.ofInt 2), .int (Int32.ofInt 4)]) (r := []) (b := A 46) (q := 46) 59 (gd rfl) rfl rfl rfl rfl rfl (ww_o rfl) (Nat.le_of_ble_eq_true rfl) (Nat.zero_le _) (Nat.zero_le _) (k_169_46 (by omega) hI56 (in_w 2 2 (in_c 2 rfl) rfl) (in_w 3 4 (in_c 4 rfl) rfl)) (fun e u h => h) (fun v u h => ?_)
          obtain ⟨s56, hI56a, hF56, z56, rfl, rfl, i56⟩ := h
          show GG _ _ _ _ _ _ _ _ [.int z56] _ _ _
          have hI59 : Inv s56 := by have hFF : Fr ([104], [], [(46, 2), (46, 3), (46, 4), (46, 5), (46, 6), (46, 7), (102, 4)], []) s s56 := (fr_tr rfl (fr_tr rfl (fr_tr rfl (fr_sF rfl (fr_sF rfl (fr_sF rfl (fr_sF rfl fr_rf)))) hF30) hF36) hF56); exact ⟨hI56a.1, kk_all hI.2 hFF rfl⟩
          exact g_ireturn (gd rfl) rfl (nb01 (in_w 0 1 i56 rfl)) (hP _ _ ⟨s56, hI59, (fr_tr rfl (fr_tr rfl (fr_tr rfl (fr_sF rfl (fr_sF rfl (fr_sF rfl (fr_sF rfl fr_rf)))) hF30) hF36) hF56), z56, rfl, rfl, in_w 0 1 i56 rfl⟩)
      · skip
        have i47x5 := r_eq1 3 3 c47x5 i47x1 (in_c 3 rfl) rfl
        refine g_aload_n 9 (gd rfl) rfl rfl ?_
        refine g_getI 12 (gd rfl) rfl rfl rfl (fun z47x9 e47x9 => ?_)
        refine g_iload_n 13 (gd rfl) rfl rfl ?_
        refine g_cmp_ne 16 20 (gd rfl) rfl rfl (fun c47x13 => ?_) (fun c47x13 => ?_)
        · skip
          refine g_iconst 0 21 (gd rfl) rfl rfl ?_
          refine g_ireturn (gd rfl) rfl (nb01 (in_w 0 1 (in_c 0 rfl) rfl)) (hp47 _ _ ?_)
          show GG _ _ _ _ _ _ _ _ [.int (Int32.ofInt 0)] _ _ _
          refine g_if_ne 53 60 (gd rfl) rfl rfl (fun c50 => ?_) (fun c50 => ?_)
          · skip
            exact zn_ne c50 (in_c 0 rfl) rfl
          · skip
            refine g_aload_n 54 (gd rfl) rfl rfl ?_
            refine g_iconst 2 55 (gd rfl) rfl rfl ?_
            refine g_iconst 4 56 (gd rfl) rfl rfl ?_
            have hI56 : Inv s36 := by have hFF : Fr ([104], [], [(46, 2), (46, 3), (46, 4), (46, 5), (46, 6), (46, 7), (102, 4)], []) s s36 := (fr_tr rfl (fr_tr rfl (fr_sF rfl (fr_sF rfl (fr_sF rfl (fr_sF rfl fr_rf)))) hF30) hF36); exact ⟨hI36a.1, kk_all hI.2 hFF rfl⟩
            refine g_callv (X := _) (As := [.int (Int32.ofInt 2), .int (Int32.ofInt 4)]) (r := []) (b := A 46) (q := 46) 59 (gd rfl) rfl rfl rfl rfl rfl (ww_o rfl) (Nat.le_of_ble_eq_true rfl) (Nat.zero_le _) (Nat.zero_le _) (k_169_46 (by omega) hI56 (in_w 2 2 (in_c 2 rfl) rfl) (in_w 3 4 (in_c 4 rfl) rfl)) (fun e u h => h) (fun v u h => ?_)
            obtain ⟨s56, hI56a, hF56, z56, rfl, rfl, i56⟩ := h
            show GG _ _ _ _ _ _ _ _ [.int z56] _ _ _
            have hI59 : Inv s56 := by have hFF : Fr ([104], [], [(46, 2), (46, 3), (46, 4), (46, 5), (46, 6), (46, 7), (102, 4)], []) s s56 := (fr_tr rfl (fr_tr rfl (fr_tr rfl (fr_sF rfl (fr_sF rfl (fr_sF rfl (fr_sF rfl fr_rf)))) hF30) hF36) hF56); exact ⟨hI56a.1, kk_all hI.2 hFF rfl⟩
            exact g_ireturn (gd rfl) rfl (nb01 (in_w 0 1 i56 rfl)) (hP _ _ ⟨s56, hI59, (fr_tr rfl (fr_tr rfl (fr_tr rfl (fr_sF rfl (fr_sF rfl (fr_sF rfl (fr_sF rfl fr_rf)))) hF30) hF36) hF56), z56, rfl, rfl, in_w 0 1 i56 rfl⟩)
        · skip
          have i47x13 := r_eq1 59 59 c47x13 (i_rng z47x9) (in_c 59 rfl) rfl
          refine g_iconst 1 17 (gd rfl) rfl rfl ?_
          refine g_goto 21 (gd rfl) rfl ?_
          refine g_ireturn (gd rfl) rfl (nb01 (in_w 0 1 (in_c 1 rfl) rfl)) (hp47 _ _ ?_)
          show GG _ _ _ _ _ _ _ _ [.int (Int32.ofInt 1)] _ _ _
          refine g_if_ne 53 60 (gd rfl) rfl rfl (fun c50 => ?_) (fun c50 => ?_)
          · skip
            refine g_aload_n 61 (gd rfl) rfl rfl ?_
            refine g_getI 64 (gd rfl) rfl rfl rfl (fun z61 e61 => ?_)
            have q61 : z36c = z61 := (e36b).trans e61.symm
            subst q61
            refine g_istore_n 65 (gd rfl) rfl (Nat.le_of_ble_eq_true rfl) ?_
            refine g_aload_n 66 (gd rfl) rfl rfl ?_
            refine g_bipush 6 68 (gd rfl) rfl rfl ?_
            refine g_iconst 0 69 (gd rfl) rfl rfl ?_
            have hI69 : Inv s36 := by have hFF : Fr ([104], [], [(46, 2), (46, 3), (46, 4), (46, 5), (46, 6), (46, 7), (102, 4)], []) s s36 := (fr_tr rfl (fr_tr rfl (fr_sF rfl (fr_sF rfl (fr_sF rfl (fr_sF rfl fr_rf)))) hF30) hF36); exact ⟨hI36a.1, kk_all hI.2 hFF rfl⟩
            have v69 : u_46_1 = s36.2.2.1 46 1 := fr_F (fr_F (s := (sF (sF (sF (sF s 46 2 (Int32.ofInt 0)) 46 6 (Int32.ofInt (-1))) 46 7 (Int32.ofInt (-1))) 102 4 (Int32.ofInt 0))) (sF_ne rfl (sF_ne rfl (sF_ne rfl (sF_ne rfl (e_46_1))))) hF30 rfl) hF36 rfl
            have n69 : (z36a).toInt ≤ (u_46_1).toInt := by have a0 := i10; unfold In at a0; have a1 := i36c; unfold In at a1; have a2 := i47x13; unfold In at a2; have a3 := i47x5; unfold In at a3; have a4 := i36b; unfold In at a4; have a5 := i36a; unfold In at a5; omega
            refine g_callv (X := _) (As := [.int (Int32.ofInt 6), .int (Int32.ofInt 0)]) (r := []) (b := A 46) (q := 46) 72 (gd rfl) rfl rfl rfl rfl rfl (ww_o rfl) (Nat.le_of_ble_eq_true rfl) (Nat.zero_le _) (Nat.zero_le _) (k_171_46 (by omega) hI69 (in_w 6 7 (in_c 6 rfl) rfl) (in_w 0 1 (in_c 0 rfl) rfl) e36 v69 n69) (fun e u h => h) (fun v u h => ?_)
            obtain ⟨s69, hI69a, hF69, n69a, n69b, n69c, rfl, rfl, p69, p69a⟩ := h
            obtain ⟨z69a, e69⟩ : ∃ w, w = s69.2.2.1 46 2 := ⟨_, rfl⟩
            have i69a := rng_F hI69a.1 0 1000 rfl e69
            obtain ⟨z69b, e69a⟩ : ∃ w, w = s69.2.2.1 46 4 := ⟨_, rfl⟩
            have i69b := rng_F hI69a.1 0 1000 rfl e69a
            rw [← (show z69a = s69.2.2.1 46 2 from e69)] at n69a
            rw [← (show u_46_1 = s69.2.2.1 46 1 from fr_F (fr_F (fr_F (s := (sF (sF (sF (sF s 46 2 (Int32.ofInt 0)) 46 6 (Int32.ofInt (-1))) 46 7 (Int32.ofInt (-1))) 102 4 (Int32.ofInt 0))) (sF_ne rfl (sF_ne rfl (sF_ne rfl (sF_ne rfl (e_46_1))))) hF30 rfl) hF36 rfl) hF69 rfl)] at n69a
            rw [← (show z69a = s69.2.2.1 46 2 from e69)] at n69b
            rw [← (show z69b = s69.2.2.1 46 4 from e69a)] at n69b
            rw [← (show z36a = s36.2.2.1 46 2 from e36)] at n69c
            rw [← (show z69b = s69.2.2.1 46 4 from e69a)] at n69c
            show GG _ _ _ _ _ _ _ _ [] _ _ _
            refine g_aload_n 73 (gd rfl) rfl rfl ?_
            refine g_aload_n 74 (gd rfl) rfl rfl ?_
            refine g_iconst 0 75 (gd rfl) rfl rfl ?_
            have hI75 : Inv s69 := by have hFF : Fr ([104], [], [(46, 2), (46, 3), (46, 4), (46, 5), (46, 6), (46, 7), (102, 4)], []) s s69 := (fr_tr rfl (fr_tr rfl (fr_tr rfl (fr_sF rfl (fr_sF rfl (fr_sF rfl (fr_sF rfl fr_rf)))) hF30) hF36) hF69); exact ⟨hI69a.1, kk_all hI.2 hFF rfl⟩
            have v75 : u_46_1 = s69.2.2.1 46 1 := fr_F (fr_F (fr_F (s := (sF (sF (sF (sF s 46 2 (Int32.ofInt 0)) 46 6 (Int32.ofInt (-1))) 46 7 (Int32.ofInt (-1))) 102 4 (Int32.ofInt 0))) (sF_ne rfl (sF_ne rfl (sF_ne rfl (sF_ne rfl (e_46_1))))) hF30 rfl) hF36 rfl) hF69 rfl
            have v75a : z36c = s69.2.2.1 102 4 := fr_F (e36b) hF69 rfl
            have n75 : (z69a).toInt ≤ (u_46_1).toInt := by have a0 := i10; unfold In at a0; have a1 := i36c; unfold In at a1; have a2 := i69b; unfold In at a2; have a3 := i69a; unfold In at a3; omega
            have n75a : (z69b).toInt ≤ (z69a).toInt := by have a0 := i10; unfold In at a0; have a1 := i36c; unfold In at a1; have a2 := i69b; unfold In at a2; have a3 := i69a; unfold In at a3; omega
            have n75b : (z36c).toInt ≤ (z69b).toInt := by have a0 := i10; unfold In at a0; have a1 := i36c; unfold In at a1; have a2 := i69b; unfold In at a2; have a3 := i69a; unfold In at a3; omega
            have p75 : TK s69 := by exact p69 (by decide)
            refine g_callv (X := _) (As := [.ref (A 46), .int (Int32.ofInt 0)]) (r := []) (b := A 102) (q := 102) 78 (gd rfl) rfl rfl rfl rfl rfl (ww_o rfl) (Nat.le_of_ble_eq_true rfl) (Nat.zero_le _) (Nat.zero_le _) (k_58_102_46 (by omega) hI75 (in_w 0 10 (in_c 0 rfl) rfl) e69 v75 e69a rfl rfl v75a (in_w 0 120 i10 rfl) n75 n75a n75b p75) (fun e u h => h) (fun v u h => ?_)
            obtain ⟨s75, hI75a, hF75, n75c, n75d, n75e, n75f, z75, rfl, rfl, i75, p75a, p75b⟩ := h
            obtain ⟨z75a, e75⟩ : ∃ w, w = s75.2.2.1 46 2 := ⟨_, rfl⟩
            have i75a := rng_F hI75a.1 0 1000 rfl e75
            obtain ⟨z75b, e75a⟩ : ∃ w, w = s75.2.2.1 46 4 := ⟨_, rfl⟩
            have i75b := rng_F hI75a.1 0 1000 rfl e75a
            obtain ⟨z75c, e75b⟩ : ∃ w, w = s75.2.2.1 102 4 := ⟨_, rfl⟩
            have i75c := rng_F hI75a.1 0 120 rfl e75b
            rw [← (show z75a = s75.2.2.1 46 2 from e75)] at n75c
            rw [← (show u_46_1 = s75.2.2.1 46 1 from fr_F (fr_F (fr_F (fr_F (s := (sF (sF (sF (sF s 46 2 (Int32.ofInt 0)) 46 6 (Int32.ofInt (-1))) 46 7 (Int32.ofInt (-1))) 102 4 (Int32.ofInt 0))) (sF_ne rfl (sF_ne rfl (sF_ne rfl (sF_ne rfl (e_46_1))))) hF30 rfl) hF36 rfl) hF69 rfl) hF75 rfl)] at n75c
            rw [← (show z75a = s75.2.2.1 46 2 from e75)] at n75d
            rw [← (show z75b = s75.2.2.1 46 4 from e75a)] at n75d
            rw [← (show z75b = s75.2.2.1 46 4 from e75a)] at n75e
            rw [← (show z75c = s75.2.2.1 102 4 from e75b)] at n75e
            rw [← (show z69b = s69.2.2.1 46 4 from e69a)] at n75f
            rw [← (show z36c = s69.2.2.1 102 4 from fr_F (e36b) hF69 rfl)] at n75f
            rw [← (show z75b = s75.2.2.1 46 4 from e75a)] at n75f
            rw [← (show z75c = s75.2.2.1 102 4 from e75b)] at n75f
            show GG _ _ _ _ _ _ _ _ [.int z75] _ _ _
            refine g_if_ne 81 83 (gd rfl) rfl rfl (fun c78 => ?_) (fun c78 => ?_)
            · skip
              have i78 := z_ne 1 1 c78 i75 rfl
              refine g_aload_n 84 (gd rfl) rfl rfl ?_
              refine g_getI 87 (gd rfl) rfl rfl rfl (fun z84 e84 => ?_)
              have i84 := rng_F hI75a.1 0 5 rfl e84
              refine g_if_eq 90 97 (gd rfl) rfl rfl (fun c87 => ?_) (fun c87 => ?_)
              · skip
                have i87 := z_eq 0 0 c87 i84 rfl
                refine g_aload_n 98 (gd rfl) rfl rfl ?_
                refine g_iload_n 99 (gd rfl) rfl rfl ?_
                refine g_putI 102 (gd rfl) rfl rfl rfl rfl ?_
                have hI99 := rng_sF (q := 102) (j := 1) hI75a.1 rfl (in_w 0 120 i36c rfl)
                refine g_aload_n 103 (gd rfl) rfl rfl ?_
                refine g_aload_n 104 (gd rfl) rfl rfl ?_
                refine g_getI 107 (gd rfl) rfl rfl rfl (fun z104 e104 => ?_)
                have q104 : z75c = z104 := (sF_ne rfl (e75b)).trans e104.symm
                subst q104
                refine g_putI 110 (gd rfl) rfl rfl rfl rfl ?_
                have hI107 := rng_sF (q := 102) (j := 2) hI99 rfl (in_w 0 120 i75c rfl)
                refine g_aload_n 111 (gd rfl) rfl rfl ?_
                refine g_getA (q2 := 104) 114 (gd rfl) rfl rfl rfl rfl ?_
                refine g_iconst 0 115 (gd rfl) rfl rfl ?_
                refine g_aload_n 116 (gd rfl) rfl rfl ?_
                refine g_getA (q2 := 103) 119 (gd rfl) rfl rfl rfl rfl ?_
                refine g_iconst 0 120 (gd rfl) rfl rfl ?_
                refine g_aload_n 121 (gd rfl) rfl rfl ?_
                refine g_getI 124 (gd rfl) rfl rfl rfl (fun z121 e121 => ?_)
                have q121 : z75c = z121 := (sF_ne rfl (sF_ne rfl (e75b))).trans e121.symm
                subst q121
                refine g_cpIr (q2 := 104) (q := 103) (n0 := 120) (n1 := 120) 127 (gd rfl) rfl rfl rfl rfl (Nat.le_of_ble_eq_true rfl) (cp_0 (in_c 0 rfl) rfl) (cp_0 (in_c 0 rfl) rfl) (cp_0 i75c rfl) (cp_1 (in_c 0 rfl) i75c rfl) (cp_1 (in_c 0 rfl) i75c rfl) hI107 rfl rfl rfl (fun s124 hI124 hF124 cp124 => ?_)
                refine g_iconst 1 128 (gd rfl) rfl rfl ?_
                have hI128 : Inv s124 := by have p1 := (p36b c39).2.2 0 0 (Nat.zero_le _) (by have e0 : CDL s30 = 0 := (by unfold CDL; rw [hF30.2.2.1 102 4 rfl]; rfl); rw [e0]; rfl); have p2 : PCV s36 s75 1 := pv_tr (j := 0) (k := 1) (pv_sm (hF69.1 104 rfl) (hF69.2.2.1 102 4 rfl)) (p75b c78); have hx : (s124.2.2.1 102 1).toInt.toNat = CDL s36 := (by rw [hF124.2.2.1 102 1 rfl, ← (show z36c = (sF (sF s75 102 1 z36c) 102 2 z75c).2.2.1 102 1 from sF_ne rfl sF_get), e36b]; rfl); have hy : (s124.2.2.1 102 2).toInt.toNat = CDL s75 := (by rw [hF124.2.2.1 102 2 rfl, ← (show z75c = (sF (sF s75 102 1 z36c) 102 2 z75c).2.2.1 102 2 from sF_get), e75b]; rfl); have hcp : ∀ k : Nat, k < CDL s75 → s124.1 103 k = s75.1 104 k := (fun k hk => by rw [cp124 k, show (Int32.ofInt 0).toNatClampNeg = 0 from rfl]; unfold va_cpy; rw [if_pos ⟨Nat.zero_le k, (by rw [e75b, Nat.zero_add]; exact hk)⟩, Nat.zero_add, Nat.sub_zero]; rfl); have hFF : Fr fm_56_102_46 s s124 := (fr_tr rfl (fr_sF rfl (fr_sF rfl (fr_tr rfl (fr_tr rfl (fr_tr rfl (fr_tr rfl (fr_sF rfl (fr_sF rfl (fr_sF rfl (fr_sF rfl fr_rf)))) hF30) hF36) hF69) hF75))) hF124); exact ⟨hI124, kk_cp hI.2 hFF rfl (kc_ad (s1 := s36) (s2 := s75) p1 p2 hx hy hcp)⟩
                exact g_ireturn (gd rfl) rfl (nb01 (in_w 0 1 (in_c 1 rfl) rfl)) (hP _ _ ⟨s124, hI128, (fr_tr rfl (fr_sF rfl (fr_sF rfl (fr_tr rfl (fr_tr rfl (fr_tr rfl (fr_tr rfl (fr_sF rfl (fr_sF rfl (fr_sF rfl (fr_sF rfl fr_rf)))) hF30) hF36) hF69) hF75))) hF124), (Int32.ofInt 1), rfl, rfl, in_w 0 1 (in_c 1 rfl) rfl⟩)
              · skip
                have i87 := z_ne 1 5 c87 i84 rfl
                refine g_aload_n 91 (gd rfl) rfl rfl ?_
                refine g_iconst 2 92 (gd rfl) rfl rfl ?_
                refine g_iconst 4 93 (gd rfl) rfl rfl ?_
                have hI93 : Inv s75 := by have hFF : Fr ([104], [], [(46, 2), (46, 3), (46, 4), (46, 5), (46, 6), (46, 7), (102, 4)], []) s s75 := (fr_tr rfl (fr_tr rfl (fr_tr rfl (fr_tr rfl (fr_sF rfl (fr_sF rfl (fr_sF rfl (fr_sF rfl fr_rf)))) hF30) hF36) hF69) hF75); exact ⟨hI75a.1, kk_all hI.2 hFF rfl⟩
                refine g_callv (X := _) (As := [.int (Int32.ofInt 2), .int (Int32.ofInt 4)]) (r := []) (b := A 46) (q := 46) 96 (gd rfl) rfl rfl rfl rfl rfl (ww_o rfl) (Nat.le_of_ble_eq_true rfl) (Nat.zero_le _) (Nat.zero_le _) (k_169_46 (by omega) hI93 (in_w 2 2 (in_c 2 rfl) rfl) (in_w 3 4 (in_c 4 rfl) rfl)) (fun e u h => h) (fun v u h => ?_)
                obtain ⟨s93, hI93a, hF93, z93, rfl, rfl, i93⟩ := h
                show GG _ _ _ _ _ _ _ _ [.int z93] _ _ _
                have hI96 : Inv s93 := by have hFF : Fr ([104], [], [(46, 2), (46, 3), (46, 4), (46, 5), (46, 6), (46, 7), (102, 4)], []) s s93 := (fr_tr rfl (fr_tr rfl (fr_tr rfl (fr_tr rfl (fr_tr rfl (fr_sF rfl (fr_sF rfl (fr_sF rfl (fr_sF rfl fr_rf)))) hF30) hF36) hF69) hF75) hF93); exact ⟨hI93a.1, kk_all hI.2 hFF rfl⟩
                exact g_ireturn (gd rfl) rfl (nb01 (in_w 0 1 i93 rfl)) (hP _ _ ⟨s93, hI96, (fr_tr rfl (fr_tr rfl (fr_tr rfl (fr_tr rfl (fr_tr rfl (fr_sF rfl (fr_sF rfl (fr_sF rfl (fr_sF rfl fr_rf)))) hF30) hF36) hF69) hF75) hF93), z93, rfl, rfl, in_w 0 1 i93 rfl⟩)
            · skip
              have i78 := z_eq 0 0 c78 i75 rfl
              refine g_iconst 0 82 (gd rfl) rfl rfl ?_
              have hI82 : Inv s75 := by have hFF : Fr ([104], [], [(46, 2), (46, 3), (46, 4), (46, 5), (46, 6), (46, 7), (102, 4)], []) s s75 := (fr_tr rfl (fr_tr rfl (fr_tr rfl (fr_tr rfl (fr_sF rfl (fr_sF rfl (fr_sF rfl (fr_sF rfl fr_rf)))) hF30) hF36) hF69) hF75); exact ⟨hI75a.1, kk_all hI.2 hFF rfl⟩
              exact g_ireturn (gd rfl) rfl (nb01 (in_w 0 1 (in_c 0 rfl) rfl)) (hP _ _ ⟨s75, hI82, (fr_tr rfl (fr_tr rfl (fr_tr rfl (fr_tr rfl (fr_sF rfl (fr_sF rfl (fr_sF rfl (fr_sF rfl fr_rf)))) hF30) hF36) hF69) hF75), (Int32.ofInt 0), rfl, rfl, in_w 0 1 (in_c 0 rfl) rfl⟩)
          · skip
            exact zn_eq c50 (in_c 1 rfl) rfl
    · skip
      have i39 := z_eq 0 0 c39 i36 rfl
      refine g_iconst 0 43 (gd rfl) rfl rfl ?_
      have hI43 : Inv s36 := by have hFF : Fr ([104], [], [(46, 2), (46, 3), (46, 4), (46, 5), (46, 6), (46, 7), (102, 4)], []) s s36 := (fr_tr rfl (fr_tr rfl (fr_sF rfl (fr_sF rfl (fr_sF rfl (fr_sF rfl fr_rf)))) hF30) hF36); exact ⟨hI36a.1, kk_all hI.2 hFF rfl⟩
      exact g_ireturn (gd rfl) rfl (nb01 (in_w 0 1 (in_c 0 rfl) rfl)) (hP _ _ ⟨s36, hI43, (fr_tr rfl (fr_tr rfl (fr_sF rfl (fr_sF rfl (fr_sF rfl (fr_sF rfl fr_rf)))) hF30) hF36), (Int32.ofInt 0), rfl, rfl, in_w 0 1 (in_c 0 rfl) rfl⟩)
  · skip
    have i10 := r_lt2 121 1000 c10 (in_c 120 rfl) ro_46_1 rfl
    refine g_aload_n 14 (gd rfl) rfl rfl ?_
    refine g_iconst 2 15 (gd rfl) rfl rfl ?_
    refine g_bipush 120 17 (gd rfl) rfl rfl ?_
    have hI17 : Inv (sF (sF (sF s 46 2 (Int32.ofInt 0)) 46 6 (Int32.ofInt (-1))) 46 7 (Int32.ofInt (-1))) := by have hFF : Fr ([104], [], [(46, 2), (46, 3), (46, 4), (46, 5), (46, 6), (46, 7), (102, 4)], []) s (sF (sF (sF s 46 2 (Int32.ofInt 0)) 46 6 (Int32.ofInt (-1))) 46 7 (Int32.ofInt (-1))) := (fr_sF rfl (fr_sF rfl (fr_sF rfl fr_rf))); exact ⟨hI1x12, kk_all hI.2 hFF rfl⟩
    refine g_callv (X := _) (As := [.int (Int32.ofInt 2), .int (Int32.ofInt 120)]) (r := []) (b := A 46) (q := 46) 20 (gd rfl) rfl rfl rfl rfl rfl (ww_o rfl) (Nat.le_of_ble_eq_true rfl) (Nat.zero_le _) (Nat.zero_le _) (k_168_46 (by omega) hI17 (in_w 1 5 (in_c 2 rfl) rfl) (in_w 0 1000 (in_c 120 rfl) rfl)) (fun e u h => h) (fun v u h => ?_)
    obtain ⟨s17, hI17a, hF17, z17, rfl, rfl, i17⟩ := h
    show GG _ _ _ _ _ _ _ _ [.int z17] _ _ _
    have hI20 : Inv s17 := by have hFF : Fr ([104], [], [(46, 2), (46, 3), (46, 4), (46, 5), (46, 6), (46, 7), (102, 4)], []) s s17 := (fr_tr rfl (fr_sF rfl (fr_sF rfl (fr_sF rfl fr_rf))) hF17); exact ⟨hI17a.1, kk_all hI.2 hFF rfl⟩
    exact g_ireturn (gd rfl) rfl (nb01 (in_w 0 1 i17 rfl)) (hP _ _ ⟨s17, hI20, (fr_tr rfl (fr_sF rfl (fr_sF rfl (fr_sF rfl fr_rf))) hF17), z17, rfl, rfl, in_w 0 1 i17 rfl⟩)

def fm_255_0 : FM := ([103, 104], [], [(46, 2), (46, 3), (46, 4), (46, 5), (46, 6), (46, 7), (102, 1), (102, 2), (102, 4)], [])
/-- GraphHouse.program -/
theorem k_255_0 {Z : AmZ} {A : Nat → Nat} {s : GS} {ex : va_W} {d : Nat} {X : AmX}  (hd : 297 ≤ d) (hI : Inv s)  : GC Z d 255 [.ref (A 0)] (WW Z A s ++ ex) 3 18 (fun v u => ∃ t : GS, Inv t ∧ Fr fm_255_0 s t ∧ ∃ z : Int32, v = some (.int z) ∧ u = WW Z A t ++ ex ∧ In z (-4) 0) X := by
  intro post xp hP hX
  refine g_enter2 (k := 255) (N := 900) (by omega) rfl (Nat.le_of_ble_eq_true rfl) ?_
  refine g_aload_n 1 (gd rfl) rfl rfl ?_
  refine g_getA (q2 := 102) 4 (gd rfl) rfl rfl rfl rfl ?_
  refine g_aload_n 5 (gd rfl) rfl rfl ?_
  refine g_getA (q2 := 46) 8 (gd rfl) rfl rfl rfl rfl ?_
  refine g_callv (X := _) (As := [.ref (A 46)]) (r := []) (b := A 102) (q := 102) 11 (gd rfl) rfl rfl rfl rfl rfl (ww_o rfl) (Nat.le_of_ble_eq_true rfl) (Nat.zero_le _) (Nat.zero_le _) (k_56_102_46 (by omega) hI ) (fun e u h => h) (fun v u h => ?_)
  obtain ⟨s8, hI8, hF8, z8, rfl, rfl, i8⟩ := h
  show GG _ _ _ _ _ _ _ _ [.int z8] _ _ _
  refine g_if_eq 14 18 (gd rfl) rfl rfl (fun c11 => ?_) (fun c11 => ?_)
  · skip
    have i11 := z_eq 0 0 c11 i8 rfl
    refine g_bipush (-4) 20 (gd rfl) rfl rfl ?_
    exact g_ireturn (gd rfl) rfl rfl (hP _ _ ⟨s8, hI8, (fr_tr rfl fr_rf hF8), (Int32.ofInt (-4)), rfl, rfl, in_w (-4) 0 (in_c (-4) rfl) rfl⟩)
  · skip
    have i11 := z_ne 1 1 c11 i8 rfl
    refine g_iconst 0 15 (gd rfl) rfl rfl ?_
    refine g_goto 20 (gd rfl) rfl ?_
    exact g_ireturn (gd rfl) rfl rfl (hP _ _ ⟨s8, hI8, (fr_tr rfl fr_rf hF8), (Int32.ofInt 0), rfl, rfl, in_w (-4) 0 (in_c 0 rfl) rfl⟩)
