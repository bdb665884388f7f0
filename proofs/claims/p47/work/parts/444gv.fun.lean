/-! FUNCTIONAL CONTRACTS, by fgen.py -/
theorem ocj_56_102_46 : (Int32.ofInt (-1)).toInt = (-1) ∧ (Int32.ofInt 0).toInt = 0 ∧ (Int32.ofInt 1).toInt = 1 ∧ (Int32.ofInt 2).toInt = 2 ∧ (Int32.ofInt 3).toInt = 3 ∧ (Int32.ofInt 4).toInt = 4 ∧ (Int32.ofInt 6).toInt = 6 ∧ (Int32.ofInt 59).toInt = 59 ∧ (Int32.ofInt 120).toInt = 120 := ⟨rfl, rfl, rfl, rfl, rfl, rfl, rfl, rfl, rfl⟩
set_option maxHeartbeats 4000000 in
/-- GraphHouse$Engine.adopt -/
theorem j_56_102_46 {Z : AmZ} {A : Nat → Nat} {s : GS} {ex : va_W} {d : Nat} {X : AmX}  (hd : 296 ≤ d) (hI : Inv s)  : GC Z d 56 [.ref (A 102), .ref (A 46)] (WW Z A s ++ ex) 0 0 (fun v u => ∃ t : GS, Inv t ∧ Fr fm_56_102_46 s t ∧ ∃ z : Int32, v = some (.int z) ∧ u = WW Z A t ++ ex ∧ In z 0 1 ∧ (PAD (s.1 47) (s.2.2.1 46 1).toInt.toNat s t (z).toInt) ∧ ((z).toInt ≠ 0 → (t.2.2.1 46 6).toInt = -1 ∧ (t.2.2.1 46 7).toInt = -1) ∧ ((z).toInt ≠ 0 → PRC t)) X := by
  intro post xp hP hX
  obtain ⟨u_46_1, e_46_1⟩ : ∃ w, w = s.2.2.1 46 1 := ⟨_, rfl⟩
  have ro_46_1 := inv_F hI 0 1000 rfl e_46_1
  refine g_enter2 (k := 56) (N := 900) (by first | exact dq1 hd rfl | exact dq0 hd rfl | exact dq2 hd rfl | exact dq3 hd rfl | omega) rfl (Nat.le_of_ble_eq_true rfl) ?_
  refine g_aload_n 1 (gd rfl) rfl rfl ?_
  refine g_callv (X := _) (As := []) (r := []) (b := A 46) (q := 46) 4 (gd rfl) rfl rfl rfl rfl rfl (ww_o rfl) (Nat.le_of_ble_eq_true rfl) (mc := 0) (ms := 0) (Nat.zero_le _) (Nat.zero_le _) (P := fun v u => _) ?_ (fun e u h => h) (fun v u h => h)
  intro po1 xx1 hp1 hx1
  refine g_enter2 (k := 167) (N := 300) (by first | exact dq1 hd rfl | exact dq0 hd rfl | exact dq2 hd rfl | exact dq3 hd rfl | omega) rfl (Nat.le_of_ble_eq_true rfl) ?_
  refine g_aload_n 1 (gd rfl) rfl rfl ?_
  refine g_iconst 0 2 (gd rfl) rfl rfl ?_
  refine g_putI 5 (gd rfl) rfl rfl rfl rfl ?_
  have hI1x2 := rng_sF (q := 46) (j := 2) hI.1 rfl (in_w 0 1000 (in_c 0 rfl) rfl)
  refine g_aload_n 6 (gd rfl) rfl rfl ?_
  refine g_iconst (-1) 7 (gd rfl) rfl rfl ?_
  refine g_putI 10 (gd rfl) rfl rfl rfl rfl ?_
  have hI1x7 := rng_sF (q := 46) (j := 6) hI1x2 rfl (in_w (-1) 5 (in_c (-1) rfl) rfl)
  refine g_aload_n 11 (gd rfl) rfl rfl ?_
  refine g_iconst (-1) 12 (gd rfl) rfl rfl ?_
  refine g_putI 15 (gd rfl) rfl rfl rfl rfl ?_
  have hI1x12 := rng_sF (q := 46) (j := 7) hI1x7 rfl (in_w (-1) 1000 (in_c (-1) rfl) rfl)
  refine g_return (gd rfl) rfl (hp1 _ _ ?_)
  show GG _ _ _ _ _ _ _ _ [] _ _ _
  refine g_aload_n 5 (gd rfl) rfl rfl ?_
  refine g_getI 8 (gd rfl) rfl rfl rfl (fun z5 e5 => ?_)
  have q5 : u_46_1 = z5 := (sF_ne rfl (sF_ne rfl (sF_ne rfl (e_46_1)))).trans e5.symm
  subst q5
  refine g_bipush 120 10 (gd rfl) rfl rfl ?_
  refine g_cmp_le 13 21 (gd rfl) rfl rfl (fun c10 => ?_) (fun c10 => ?_)
  · skip
    have i10 := r_le1 0 120 c10 ro_46_1 (in_c 120 rfl) rfl
    refine g_aload_n 22 (gd rfl) rfl rfl ?_
    refine g_iconst 0 23 (gd rfl) rfl rfl ?_
    refine g_putI 26 (gd rfl) rfl rfl rfl rfl ?_
    have hI23 := rng_sF (q := 102) (j := 4) hI1x12 rfl (in_w 0 120 (in_c 0 rfl) rfl)
    refine g_aload_n 27 (gd rfl) rfl rfl ?_
    refine g_bipush 6 29 (gd rfl) rfl rfl ?_
    refine g_iconst 0 30 (gd rfl) rfl rfl ?_
    have hI30 : Inv (sF (sF (sF (sF s 46 2 (Int32.ofInt 0)) 46 6 (Int32.ofInt (-1))) 46 7 (Int32.ofInt (-1))) 102 4 (Int32.ofInt 0)) := by have hFF : Fr ([104], [], [(46, 2), (46, 3), (46, 4), (46, 5), (46, 6), (46, 7), (102, 4)], []) s (sF (sF (sF (sF s 46 2 (Int32.ofInt 0)) 46 6 (Int32.ofInt (-1))) 46 7 (Int32.ofInt (-1))) 102 4 (Int32.ofInt 0)) := (fr_sF rfl (fr_sF rfl (fr_sF rfl (fr_sF rfl fr_rf)))); exact ⟨hI23, kk_all hI.2 hFF rfl⟩
    have v30 : (Int32.ofInt 0) = (sF (sF (sF (sF s 46 2 (Int32.ofInt 0)) 46 6 (Int32.ofInt (-1))) 46 7 (Int32.ofInt (-1))) 102 4 (Int32.ofInt 0)).2.2.1 46 2 := sF_ne rfl (sF_ne rfl (sF_ne rfl (sF_get)))
    have v30a : u_46_1 = (sF (sF (sF (sF s 46 2 (Int32.ofInt 0)) 46 6 (Int32.ofInt (-1))) 46 7 (Int32.ofInt (-1))) 102 4 (Int32.ofInt 0)).2.2.1 46 1 := sF_ne rfl (sF_ne rfl (sF_ne rfl (sF_ne rfl (e_46_1))))
    have n30 : ((Int32.ofInt 0)).toInt ≤ (u_46_1).toInt := by (first | have a0 := oa3 i10 ((in_c 0 rfl)) ((in_c (-1) rfl)) | ((first | have a0 := in_u i10 | (have a0 := i10; unfold In at a0)); (first | have a1 := in_u ((in_c 0 rfl)) | (have a1 := (in_c 0 rfl); unfold In at a1)); (first | have a2 := in_u ((in_c (-1) rfl)) | (have a2 := (in_c (-1) rfl); unfold In at a2)))); have oc := ocj_56_102_46; omega
    refine g_callv (X := _) (As := [.int (Int32.ofInt 6), .int (Int32.ofInt 0)]) (r := []) (b := A 46) (q := 46) 33 (gd rfl) rfl rfl rfl rfl rfl (ww_o rfl) (Nat.le_of_ble_eq_true rfl) (Nat.zero_le _) (Nat.zero_le _) (j_171_46 (by omega) hI30 (in_w 6 6 (in_c 6 rfl) rfl) (in_w 0 0 (in_c 0 rfl) rfl) v30 v30a n30) (fun e u h => h) (fun v u h => ?_)
    obtain ⟨s30, hI30a, hF30, n30a, n30b, n30c, rfl, rfl, p30, p30a, p30b⟩ := h
    obtain ⟨z30a, e30⟩ : ∃ w, w = s30.2.2.1 46 2 := ⟨_, rfl⟩
    have i30a := rng_F hI30a.1 0 1000 rfl e30
    obtain ⟨z30b, e30a⟩ : ∃ w, w = s30.2.2.1 46 4 := ⟨_, rfl⟩
    have i30b := rng_F hI30a.1 0 1000 rfl e30a
    rw [← (show z30a = s30.2.2.1 46 2 from e30)] at n30a
    rw [← (show u_46_1 = s30.2.2.1 46 1 from fr_F (s := (sF (sF (sF (sF s 46 2 (Int32.ofInt 0)) 46 6 (Int32.ofInt (-1))) 46 7 (Int32.ofInt (-1))) 102 4 (Int32.ofInt 0))) (sF_ne rfl (sF_ne rfl (sF_ne rfl (sF_ne rfl (e_46_1))))) hF30 rfl)] at n30a
    rw [← (show z30a = s30.2.2.1 46 2 from e30)] at n30b
    rw [← (show z30b = s30.2.2.1 46 4 from e30a)] at n30b
    rw [← (show (Int32.ofInt 0) = (sF (sF (sF (sF s 46 2 (Int32.ofInt 0)) 46 6 (Int32.ofInt (-1))) 46 7 (Int32.ofInt (-1))) 102 4 (Int32.ofInt 0)).2.2.1 46 2 from sF_ne rfl (sF_ne rfl (sF_ne rfl (sF_get))))] at n30c
    rw [← (show z30b = s30.2.2.1 46 4 from e30a)] at n30c
    show GG _ _ _ _ _ _ _ _ [] _ _ _
    refine g_aload_n 34 (gd rfl) rfl rfl ?_
    refine g_aload_n 35 (gd rfl) rfl rfl ?_
    refine g_iconst 0 36 (gd rfl) rfl rfl ?_
    have hI36 : Inv s30 := by have hFF : Fr ([104], [], [(46, 2), (46, 3), (46, 4), (46, 5), (46, 6), (46, 7), (102, 4)], []) s s30 := (fr_tr rfl (fr_sF rfl (fr_sF rfl (fr_sF rfl (fr_sF rfl fr_rf)))) hF30); exact ⟨hI30a.1, kk_all hI.2 hFF rfl⟩
    have v36 : u_46_1 = s30.2.2.1 46 1 := fr_F (s := (sF (sF (sF (sF s 46 2 (Int32.ofInt 0)) 46 6 (Int32.ofInt (-1))) 46 7 (Int32.ofInt (-1))) 102 4 (Int32.ofInt 0))) (sF_ne rfl (sF_ne rfl (sF_ne rfl (sF_ne rfl (e_46_1))))) hF30 rfl
    have v36a : (Int32.ofInt 0) = s30.2.2.1 102 4 := fr_F (s := (sF (sF (sF (sF s 46 2 (Int32.ofInt 0)) 46 6 (Int32.ofInt (-1))) 46 7 (Int32.ofInt (-1))) 102 4 (Int32.ofInt 0))) (sF_get) hF30 rfl
    have n36 : (z30a).toInt ≤ (u_46_1).toInt := by (first | have a0 := oa5 i10 i30b i30a ((in_c 0 rfl)) ((in_c (-1) rfl)) | ((first | have a0 := in_u i10 | (have a0 := i10; unfold In at a0)); (first | have a1 := in_u i30b | (have a1 := i30b; unfold In at a1)); (first | have a2 := in_u i30a | (have a2 := i30a; unfold In at a2)); (first | have a3 := in_u ((in_c 0 rfl)) | (have a3 := (in_c 0 rfl); unfold In at a3)); (first | have a4 := in_u ((in_c (-1) rfl)) | (have a4 := (in_c (-1) rfl); unfold In at a4)))); have oc := ocj_56_102_46; omega
    have n36a : (z30b).toInt ≤ (z30a).toInt := by (first | have a0 := oa5 i10 i30b i30a ((in_c 0 rfl)) ((in_c (-1) rfl)) | ((first | have a0 := in_u i10 | (have a0 := i10; unfold In at a0)); (first | have a1 := in_u i30b | (have a1 := i30b; unfold In at a1)); (first | have a2 := in_u i30a | (have a2 := i30a; unfold In at a2)); (first | have a3 := in_u ((in_c 0 rfl)) | (have a3 := (in_c 0 rfl); unfold In at a3)); (first | have a4 := in_u ((in_c (-1) rfl)) | (have a4 := (in_c (-1) rfl); unfold In at a4)))); have oc := ocj_56_102_46; omega
    have n36b : ((Int32.ofInt 0)).toInt ≤ (z30b).toInt := by (first | have a0 := oa5 i10 i30b i30a ((in_c 0 rfl)) ((in_c (-1) rfl)) | ((first | have a0 := in_u i10 | (have a0 := i10; unfold In at a0)); (first | have a1 := in_u i30b | (have a1 := i30b; unfold In at a1)); (first | have a2 := in_u i30a | (have a2 := i30a; unfold In at a2)); (first | have a3 := in_u ((in_c 0 rfl)) | (have a3 := (in_c 0 rfl); unfold In at a3)); (first | have a4 := in_u ((in_c (-1) rfl)) | (have a4 := (in_c (-1) rfl); unfold In at a4)))); have oc := ocj_56_102_46; omega
    have p36 : TK s30 := by exact p30 (by decide)
    refine g_callv (X := _) (As := [.ref (A 46), .int (Int32.ofInt 0)]) (r := []) (b := A 102) (q := 102) 39 (gd rfl) rfl rfl rfl rfl rfl (ww_o rfl) (Nat.le_of_ble_eq_true rfl) (Nat.zero_le _) (Nat.zero_le _) (j_58_102_46 (by omega) hI36 (in_w 0 10 (in_c 0 rfl) rfl) e30 v36 e30a rfl rfl v36a (in_w 0 120 i10 rfl) n36 n36a n36b p36) (fun e u h => h) (fun v u h => ?_)
    obtain ⟨s36, hI36a, hF36, n36c, n36d, n36e, n36f, z36, rfl, rfl, i36, p36a, p36b, p36c, p36d⟩ := h
    obtain ⟨z36a, e36⟩ : ∃ w, w = s36.2.2.1 46 2 := ⟨_, rfl⟩
    have i36a := rng_F hI36a.1 0 1000 rfl e36
    obtain ⟨z36b, e36a⟩ : ∃ w, w = s36.2.2.1 46 4 := ⟨_, rfl⟩
    have i36b := rng_F hI36a.1 0 1000 rfl e36a
    obtain ⟨z36c, e36b⟩ : ∃ w, w = s36.2.2.1 102 4 := ⟨_, rfl⟩
    have i36c := rng_F hI36a.1 0 120 rfl e36b
    rw [← (show z36a = s36.2.2.1 46 2 from e36)] at n36c
    rw [← (show u_46_1 = s36.2.2.1 46 1 from fr_F (fr_F (s := (sF (sF (sF (sF s 46 2 (Int32.ofInt 0)) 46 6 (Int32.ofInt (-1))) 46 7 (Int32.ofInt (-1))) 102 4 (Int32.ofInt 0))) (sF_ne rfl (sF_ne rfl (sF_ne rfl (sF_ne rfl (e_46_1))))) hF30 rfl) hF36 rfl)] at n36c
    rw [← (show z36a = s36.2.2.1 46 2 from e36)] at n36d
    rw [← (show z36b = s36.2.2.1 46 4 from e36a)] at n36d
    rw [← (show z36b = s36.2.2.1 46 4 from e36a)] at n36e
    rw [← (show z36c = s36.2.2.1 102 4 from e36b)] at n36e
    rw [← (show z30b = s30.2.2.1 46 4 from e30a)] at n36f
    rw [← (show (Int32.ofInt 0) = s30.2.2.1 102 4 from fr_F (s := (sF (sF (sF (sF s 46 2 (Int32.ofInt 0)) 46 6 (Int32.ofInt (-1))) 46 7 (Int32.ofInt (-1))) 102 4 (Int32.ofInt 0))) (sF_get) hF30 rfl)] at n36f
    rw [← (show z36b = s36.2.2.1 46 4 from e36a)] at n36f
    rw [← (show z36c = s36.2.2.1 102 4 from e36b)] at n36f
    show GG _ _ _ _ _ _ _ _ [.int z36] _ _ _
    refine g_if_ne 42 44 (gd rfl) rfl rfl (fun c39 => ?_) (fun c39 => ?_)
    · skip
      have i39 := z_ne 1 1 c39 i36 rfl
      refine g_aload_n 45 (gd rfl) rfl rfl ?_
      refine g_bipush 59 47 (gd rfl) rfl rfl ?_
      refine g_callv (X := _) (As := [.int (Int32.ofInt 59)]) (r := []) (b := A 46) (q := 46) 50 (gd rfl) rfl rfl rfl rfl rfl (ww_o rfl) (Nat.le_of_ble_eq_true rfl) (mc := 0) (ms := 0) (Nat.zero_le _) (Nat.zero_le _) (P := fun v u => _) ?_ (fun e u h => h) (fun v u h => h)
      intro po47 xx47 hp47 hx47
      refine g_enter2 (k := 170) (N := 300) (by first | exact dq1 hd rfl | exact dq0 hd rfl | exact dq2 hd rfl | exact dq3 hd rfl | omega) rfl (Nat.le_of_ble_eq_true rfl) ?_
      refine g_aload_n 1 (gd rfl) rfl rfl ?_
      refine g_getI 4 (gd rfl) rfl rfl rfl (fun z47x1 e47x1 => ?_)
      have i47x1 := rng_F hI36a.1 0 5 rfl e47x1
      refine g_iconst 3 5 (gd rfl) rfl rfl ?_
      refine g_cmp_ne 8 20 (gd rfl) rfl rfl (fun c47x5 => ?_) (fun c47x5 => ?_)
      · skip
        refine g_iconst 0 21 (gd rfl) rfl rfl ?_
        refine g_ireturn (gd rfl) rfl (nb01 (in_w 0 1 (in_c 0 rfl) rfl)) (hp47 _ _ ?_)
        show GG _ _ _ _ _ _ _ _ [.int (Int32.ofInt 0)] _ _ _
        refine g_if_ne 53 60 (gd rfl) rfl rfl (fun c50 => ?_) (fun c50 => ?_)
        · skip
          exact zn_ne c50 (in_c 0 rfl) rfl
        · skip
          refine g_aload_n 54 (gd rfl) rfl rfl ?_
          refine g_iconst 2 55 (gd rfl) rfl rfl ?_
          refine g_iconst 4 56 (gd rfl) rfl rfl ?_
          have hI56 : Inv s36 := by have hFF : Fr ([104], [], [(46, 2), (46, 3), (46, 4), (46, 5), (46, 6), (46, 7), (102, 4)], []) s s36 := (fr_tr rfl (fr_tr rfl (fr_sF rfl (fr_sF rfl (fr_sF rfl (fr_sF rfl fr_rf)))) hF30) hF36); exact ⟨hI36a.1, kk_all hI.2 hFF rfl⟩
          refine g_callv (X := _) (As := [.int (Int32.ofInt 2), .int (Int32.ofInt 4)]) (r := []) (b := A 46) (q := 46) 59 (gd rfl) rfl rfl rfl rfl rfl (ww_o rfl) (Nat.le_of_ble_eq_true rfl) (Nat.zero_le _) (Nat.zero_le _) (j_169_46 (by omega) hI56 (in_w 2 2 (in_c 2 rfl) rfl) (in_w 4 4 (in_c 4 rfl) rfl) e47x1 e36a) (fun e u h => h) (fun v u h => ?_)
          obtain ⟨s56, hI56a, hF56, z56, rfl, rfl, i56, p56⟩ := h
          show GG _ _ _ _ _ _ _ _ [.int z56] _ _ _
          have hI59 : Inv s56 := by have hFF : Fr ([104], [], [(46, 2), (46, 3), (46, 4), (46, 5), (46, 6), (46, 7), (102, 4)], []) s s56 := (fr_tr rfl (fr_tr rfl (fr_tr rfl (fr_sF rfl (fr_sF rfl (fr_sF rfl (fr_sF rfl fr_rf)))) hF30) hF36) hF56); exact ⟨hI56a.1, kk_all hI.2 hFF rfl⟩
          have n59 : PAD (s.1 47) (s.2.2.1 46 1).toInt.toNat s s56 (z56).toInt := by exact ⟨fun h => absurd (by have h9 := i56; unfold In at h9; omega) h, fun _ => ⟨ad_f1 (by rw [← e_46_1]; (first | have a0 := oa5 i10 i47x1 i36c i36b i36a | ((first | have a0 := in_u i10 | (have a0 := i10; unfold In at a0)); (first | have a1 := in_u i47x1 | (have a1 := i47x1; unfold In at a1)); (first | have a2 := in_u i36c | (have a2 := i36c; unfold In at a2)); (first | have a3 := in_u i36b | (have a3 := i36b; unfold In at a3)); (first | have a4 := in_u i36a | (have a4 := i36a; unfold In at a4)))); have oc := ocj_56_102_46; omega) (by have h9 := rng_F hI56a.1 (-1) 5 (q := 46) (j := 6) rfl rfl; unfold In at h9; exact h9.1) (ad_no (fp := 1) (pz1_t (s := s) (u := s30) (hF30.1 47 rfl) (v36.symm.trans e_46_1) p36c) c39 (pka_0 (s := s) (u := (sF (sF (sF (sF s 46 2 (Int32.ofInt 0)) 46 6 (Int32.ofInt (-1))) 46 7 (Int32.ofInt (-1))) 102 4 (Int32.ofInt 0))) (a := 0) rfl (v30a.symm.trans e_46_1) (by rw [← v30]; rfl) p30b) (drf_0 v36a) (fun q => by rw [← e47x1] at q; (first | have a0 := oa5 i10 i47x1 i36c i36b i36a | ((first | have a0 := in_u i10 | (have a0 := i10; unfold In at a0)); (first | have a1 := in_u i47x1 | (have a1 := i47x1; unfold In at a1)); (first | have a2 := in_u i36c | (have a2 := i36c; unfold In at a2)); (first | have a3 := in_u i36b | (have a3 := i36b; unfold In at a3)); (first | have a4 := in_u i36a | (have a4 := i36a; unfold In at a4)))); have oc := ocj_56_102_46; omega) (blt_i p56.1 (congrArg Int32.toInt p56.2) (by have h9 := rng_F hI56.1 0 1000 (q := 46) (j := 4) rfl rfl; unfold In at h9; exact h9.1))), (scq_fr (L := ([104], [], [(46, 2), (46, 3), (46, 4), (46, 5), (46, 6), (46, 7), (102, 4)], [])) (fr_tr rfl (fr_tr rfl (fr_tr rfl (fr_sF rfl (fr_sF rfl (fr_sF rfl (fr_sF rfl fr_rf)))) hF30) hF36) hF56) rfl)⟩⟩
          have n59a : (z56).toInt ≠ 0 → (s56.2.2.1 46 6).toInt = -1 ∧ (s56.2.2.1 46 7).toInt = -1 := by intro h; unfold In at i56; omega
          have n59b : (z56).toInt ≠ 0 → PRC s56 := by intro h; unfold In at i56; omega
          exact g_ireturn (gd rfl) rfl (nb01 (in_w 0 1 i56 rfl)) (hP _ _ ⟨s56, hI59, (fr_tr rfl (fr_tr rfl (fr_tr rfl (fr_sF rfl (fr_sF rfl (fr_sF rfl (fr_sF rfl fr_rf)))) hF30) hF36) hF56), z56, rfl, rfl, in_w 0 1 i56 rfl, n59, n59a, n59b⟩)
      · skip
        have i47x5 := r_eq1 3 3 c47x5 i47x1 (in_c 3 rfl) rfl
        refine g_aload_n 9 (gd rfl) rfl rfl ?_
        refine g_getI 12 (gd rfl) rfl rfl rfl (fun z47x9 e47x9 => ?_)
        refine g_iload_n 13 (gd rfl) rfl rfl ?_
        refine g_cmp_ne 16 20 (gd rfl) rfl rfl (fun c47x13 => ?_) (fun c47x13 => ?_)
        · skip
          refine g_iconst 0 21 (gd rfl) rfl rfl ?_
          refine g_ireturn (gd rfl) rfl (nb01 (in_w 0 1 (in_c 0 rfl) rfl)) (hp47 _ _ ?_)
          show GG _ _ _ _ _ _ _ _ [.int (Int32.ofInt 0)] _ _ _
          refine g_if_ne 53 60 (gd rfl) rfl rfl (fun c50 => ?_) (fun c50 => ?_)
          · skip
            exact zn_ne c50 (in_c 0 rfl) rfl
          · skip
            refine g_aload_n 54 (gd rfl) rfl rfl ?_
            refine g_iconst 2 55 (gd rfl) rfl rfl ?_
            refine g_iconst 4 56 (gd rfl) rfl rfl ?_
            have hI56 : Inv s36 := by have hFF : Fr ([104], [], [(46, 2), (46, 3), (46, 4), (46, 5), (46, 6), (46, 7), (102, 4)], []) s s36 := (fr_tr rfl (fr_tr rfl (fr_sF rfl (fr_sF rfl (fr_sF rfl (fr_sF rfl fr_rf)))) hF30) hF36); exact ⟨hI36a.1, kk_all hI.2 hFF rfl⟩
            refine g_callv (X := _) (As := [.int (Int32.ofInt 2), .int (Int32.ofInt 4)]) (r := []) (b := A 46) (q := 46) 59 (gd rfl) rfl rfl rfl rfl rfl (ww_o rfl) (Nat.le_of_ble_eq_true rfl) (Nat.zero_le _) (Nat.zero_le _) (j_169_46 (by omega) hI56 (in_w 2 2 (in_c 2 rfl) rfl) (in_w 4 4 (in_c 4 rfl) rfl) e47x1 e36a) (fun e u h => h) (fun v u h => ?_)
            obtain ⟨s56, hI56a, hF56, z56, rfl, rfl, i56, p56⟩ := h
            show GG _ _ _ _ _ _ _ _ [.int z56] _ _ _
            have hI59 : Inv s56 := by have hFF : Fr ([104], [], [(46, 2), (46, 3), (46, 4), (46, 5), (46, 6), (46, 7), (102, 4)], []) s s56 := (fr_tr rfl (fr_tr rfl (fr_tr rfl (fr_sF rfl (fr_sF rfl (fr_sF rfl (fr_sF rfl fr_rf)))) hF30) hF36) hF56); exact ⟨hI56a.1, kk_all hI.2 hFF rfl⟩
            have n59 : PAD (s.1 47) (s.2.2.1 46 1).toInt.toNat s s56 (z56).toInt := by exact ⟨fun h => absurd (by have h9 := i56; unfold In at h9; omega) h, fun _ => ⟨ad_f1 (by rw [← e_46_1]; (first | have a0 := oa5 i10 i47x5 i36c i36b i36a | ((first | have a0 := in_u i10 | (have a0 := i10; unfold In at a0)); (first | have a1 := in_u i47x5 | (have a1 := i47x5; unfold In at a1)); (first | have a2 := in_u i36c | (have a2 := i36c; unfold In at a2)); (first | have a3 := in_u i36b | (have a3 := i36b; unfold In at a3)); (first | have a4 := in_u i36a | (have a4 := i36a; unfold In at a4)))); have oc := ocj_56_102_46; omega) (by have h9 := rng_F hI56a.1 (-1) 5 (q := 46) (j := 6) rfl rfl; unfold In at h9; exact h9.1) (ad_no (fp := 1) (pz1_t (s := s) (u := s30) (hF30.1 47 rfl) (v36.symm.trans e_46_1) p36c) c39 (pka_0 (s := s) (u := (sF (sF (sF (sF s 46 2 (Int32.ofInt 0)) 46 6 (Int32.ofInt (-1))) 46 7 (Int32.ofInt (-1))) 102 4 (Int32.ofInt 0))) (a := 0) rfl (v30a.symm.trans e_46_1) (by rw [← v30]; rfl) p30b) (drf_0 v36a) (fun q => by rw [← e47x1, ← e47x9] at q; (first | have a0 := oa5 i10 i47x5 i36c i36b i36a | ((first | have a0 := in_u i10 | (have a0 := i10; unfold In at a0)); (first | have a1 := in_u i47x5 | (have a1 := i47x5; unfold In at a1)); (first | have a2 := in_u i36c | (have a2 := i36c; unfold In at a2)); (first | have a3 := in_u i36b | (have a3 := i36b; unfold In at a3)); (first | have a4 := in_u i36a | (have a4 := i36a; unfold In at a4)))); have oc := ocj_56_102_46; omega) (blt_i p56.1 (congrArg Int32.toInt p56.2) (by have h9 := rng_F hI56.1 0 1000 (q := 46) (j := 4) rfl rfl; unfold In at h9; exact h9.1))), (scq_fr (L := ([104], [], [(46, 2), (46, 3), (46, 4), (46, 5), (46, 6), (46, 7), (102, 4)], [])) (fr_tr rfl (fr_tr rfl (fr_tr rfl (fr_sF rfl (fr_sF rfl (fr_sF rfl (fr_sF rfl fr_rf)))) hF30) hF36) hF56) rfl)⟩⟩
            have n59a : (z56).toInt ≠ 0 → (s56.2.2.1 46 6).toInt = -1 ∧ (s56.2.2.1 46 7).toInt = -1 := by intro h; unfold In at i56; omega
            have n59b : (z56).toInt ≠ 0 → PRC s56 := by intro h; unfold In at i56; omega
            exact g_ireturn (gd rfl) rfl (nb01 (in_w 0 1 i56 rfl)) (hP _ _ ⟨s56, hI59, (fr_tr rfl (fr_tr rfl (fr_tr rfl (fr_sF rfl (fr_sF rfl (fr_sF rfl (fr_sF rfl fr_rf)))) hF30) hF36) hF56), z56, rfl, rfl, in_w 0 1 i56 rfl, n59, n59a, n59b⟩)
        · skip
          have i47x13 := r_eq1 59 59 c47x13 (i_rng z47x9) (in_c 59 rfl) rfl
          refine g_iconst 1 17 (gd rfl) rfl rfl ?_
          refine g_goto 21 (gd rfl) rfl ?_
          refine g_ireturn (gd rfl) rfl (nb01 (in_w 0 1 (in_c 1 rfl) rfl)) (hp47 _ _ ?_)
          show GG _ _ _ _ _ _ _ _ [.int (Int32.ofInt 1)] _ _ _
          refine g_if_ne 53 60 (gd rfl) rfl rfl (fun c50 => ?_) (fun c50 => ?_)
          · skip
            refine g_aload_n 61 (gd rfl) rfl rfl ?_
            refine g_getI 64 (gd rfl) rfl rfl rfl (fun z61 e61 => ?_)
            have q61 : z36c = z61 := (e36b).trans e61.symm
            subst q61
            refine g_istore_n 65 (gd rfl) rfl (Nat.le_of_ble_eq_true rfl) ?_
            refine g_aload_n 66 (gd rfl) rfl rfl ?_
            refine g_bipush 6 68 (gd rfl) rfl rfl ?_
            refine g_iconst 0 69 (gd rfl) rfl rfl ?_
            have hI69 : Inv s36 := by have hFF : Fr ([104], [], [(46, 2), (46, 3), (46, 4), (46, 5), (46, 6), (46, 7), (102, 4)], []) s s36 := (fr_tr rfl (fr_tr rfl (fr_sF rfl (fr_sF rfl (fr_sF rfl (fr_sF rfl fr_rf)))) hF30) hF36); exact ⟨hI36a.1, kk_all hI.2 hFF rfl⟩
            have v69 : u_46_1 = s36.2.2.1 46 1 := fr_F (fr_F (s := (sF (sF (sF (sF s 46 2 (Int32.ofInt 0)) 46 6 (Int32.ofInt (-1))) 46 7 (Int32.ofInt (-1))) 102 4 (Int32.ofInt 0))) (sF_ne rfl (sF_ne rfl (sF_ne rfl (sF_ne rfl (e_46_1))))) hF30 rfl) hF36 rfl
            have n69 : (z36a).toInt ≤ (u_46_1).toInt := by (first | have a0 := oa6 i10 i36c i47x13 i47x5 i36b i36a | ((first | have a0 := in_u i10 | (have a0 := i10; unfold In at a0)); (first | have a1 := in_u i36c | (have a1 := i36c; unfold In at a1)); (first | have a2 := in_u i47x13 | (have a2 := i47x13; unfold In at a2)); (first | have a3 := in_u i47x5 | (have a3 := i47x5; unfold In at a3)); (first | have a4 := in_u i36b | (have a4 := i36b; unfold In at a4)); (first | have a5 := in_u i36a | (have a5 := i36a; unfold In at a5)))); have oc := ocj_56_102_46; omega
            refine g_callv (X := _) (As := [.int (Int32.ofInt 6), .int (Int32.ofInt 0)]) (r := []) (b := A 46) (q := 46) 72 (gd rfl) rfl rfl rfl rfl rfl (ww_o rfl) (Nat.le_of_ble_eq_true rfl) (Nat.zero_le _) (Nat.zero_le _) (j_171_46 (by omega) hI69 (in_w 6 6 (in_c 6 rfl) rfl) (in_w 0 0 (in_c 0 rfl) rfl) e36 v69 n69) (fun e u h => h) (fun v u h => ?_)
            obtain ⟨s69, hI69a, hF69, n69a, n69b, n69c, rfl, rfl, p69, p69a, p69b⟩ := h
            obtain ⟨z69a, e69⟩ : ∃ w, w = s69.2.2.1 46 2 := ⟨_, rfl⟩
            have i69a := rng_F hI69a.1 0 1000 rfl e69
            obtain ⟨z69b, e69a⟩ : ∃ w, w = s69.2.2.1 46 4 := ⟨_, rfl⟩
            have i69b := rng_F hI69a.1 0 1000 rfl e69a
            rw [← (show z69a = s69.2.2.1 46 2 from e69)] at n69a
            rw [← (show u_46_1 = s69.2.2.1 46 1 from fr_F (fr_F (fr_F (s := (sF (sF (sF (sF s 46 2 (Int32.ofInt 0)) 46 6 (Int32.ofInt (-1))) 46 7 (Int32.ofInt (-1))) 102 4 (Int32.ofInt 0))) (sF_ne rfl (sF_ne rfl (sF_ne rfl (sF_ne rfl (e_46_1))))) hF30 rfl) hF36 rfl) hF69 rfl)] at n69a
            rw [← (show z69a = s69.2.2.1 46 2 from e69)] at n69b
            rw [← (show z69b = s69.2.2.1 46 4 from e69a)] at n69b
            rw [← (show z36a = s36.2.2.1 46 2 from e36)] at n69c
            rw [← (show z69b = s69.2.2.1 46 4 from e69a)] at n69c
            show GG _ _ _ _ _ _ _ _ [] _ _ _
            refine g_aload_n 73 (gd rfl) rfl rfl ?_
            refine g_aload_n 74 (gd rfl) rfl rfl ?_
            refine g_iconst 0 75 (gd rfl) rfl rfl ?_
            have hI75 : Inv s69 := by have hFF : Fr ([104], [], [(46, 2), (46, 3), (46, 4), (46, 5), (46, 6), (46, 7), (102, 4)], []) s s69 := (fr_tr rfl (fr_tr rfl (fr_tr rfl (fr_sF rfl (fr_sF rfl (fr_sF rfl (fr_sF rfl fr_rf)))) hF30) hF36) hF69); exact ⟨hI69a.1, kk_all hI.2 hFF rfl⟩
            have v75 : u_46_1 = s69.2.2.1 46 1 := fr_F (fr_F (fr_F (s := (sF (sF (sF (sF s 46 2 (Int32.ofInt 0)) 46 6 (Int32.ofInt (-1))) 46 7 (Int32.ofInt (-1))) 102 4 (Int32.ofInt 0))) (sF_ne rfl (sF_ne rfl (sF_ne rfl (sF_ne rfl (e_46_1))))) hF30 rfl) hF36 rfl) hF69 rfl
            have v75a : z36c = s69.2.2.1 102 4 := fr_F (e36b) hF69 rfl
            have n75 : (z69a).toInt ≤ (u_46_1).toInt := by (first | have a0 := oa4 i10 i36c i69b i69a | ((first | have a0 := in_u i10 | (have a0 := i10; unfold In at a0)); (first | have a1 := in_u i36c | (have a1 := i36c; unfold In at a1)); (first | have a2 := in_u i69b | (have a2 := i69b; unfold In at a2)); (first | have a3 := in_u i69a | (have a3 := i69a; unfold In at a3)))); have oc := ocj_56_102_46; omega
            have n75a : (z69b).toInt ≤ (z69a).toInt := by (first | have a0 := oa4 i10 i36c i69b i69a | ((first | have a0 := in_u i10 | (have a0 := i10; unfold In at a0)); (first | have a1 := in_u i36c | (have a1 := i36c; unfold In at a1)); (first | have a2 := in_u i69b | (have a2 := i69b; unfold In at a2)); (first | have a3 := in_u i69a | (have a3 := i69a; unfold In at a3)))); have oc := ocj_56_102_46; omega
            have n75b : (z36c).toInt ≤ (z69b).toInt := by (first | have a0 := oa4 i10 i36c i69b i69a | ((first | have a0 := in_u i10 | (have a0 := i10; unfold In at a0)); (first | have a1 := in_u i36c | (have a1 := i36c; unfold In at a1)); (first | have a2 := in_u i69b | (have a2 := i69b; unfold In at a2)); (first | have a3 := in_u i69a | (have a3 := i69a; unfold In at a3)))); have oc := ocj_56_102_46; omega
            have p75 : TK s69 := by exact p69 (by decide)
            refine g_callv (X := _) (As := [.ref (A 46), .int (Int32.ofInt 0)]) (r := []) (b := A 102) (q := 102) 78 (gd rfl) rfl rfl rfl rfl rfl (ww_o rfl) (Nat.le_of_ble_eq_true rfl) (Nat.zero_le _) (Nat.zero_le _) (j_58_102_46 (by omega) hI75 (in_w 0 10 (in_c 0 rfl) rfl) e69 v75 e69a rfl rfl v75a (in_w 0 120 i10 rfl) n75 n75a n75b p75) (fun e u h => h) (fun v u h => ?_)
            obtain ⟨s75, hI75a, hF75, n75c, n75d, n75e, n75f, z75, rfl, rfl, i75, p75a, p75b, p75c, p75d⟩ := h
            obtain ⟨z75a, e75⟩ : ∃ w, w = s75.2.2.1 46 2 := ⟨_, rfl⟩
            have i75a := rng_F hI75a.1 0 1000 rfl e75
            obtain ⟨z75b, e75a⟩ : ∃ w, w = s75.2.2.1 46 4 := ⟨_, rfl⟩
            have i75b := rng_F hI75a.1 0 1000 rfl e75a
            obtain ⟨z75c, e75b⟩ : ∃ w, w = s75.2.2.1 102 4 := ⟨_, rfl⟩
            have i75c := rng_F hI75a.1 0 120 rfl e75b
            rw [← (show z75a = s75.2.2.1 46 2 from e75)] at n75c
            rw [← (show u_46_1 = s75.2.2.1 46 1 from fr_F (fr_F (fr_F (fr_F (s := (sF (sF (sF (sF s 46 2 (Int32.ofInt 0)) 46 6 (Int32.ofInt (-1))) 46 7 (Int32.ofInt (-1))) 102 4 (Int32.ofInt 0))) (sF_ne rfl (sF_ne rfl (sF_ne rfl (sF_ne rfl (e_46_1))))) hF30 rfl) hF36 rfl) hF69 rfl) hF75 rfl)] at n75c
            rw [← (show z75a = s75.2.2.1 46 2 from e75)] at n75d
            rw [← (show z75b = s75.2.2.1 46 4 from e75a)] at n75d
            rw [← (show z75b = s75.2.2.1 46 4 from e75a)] at n75e
            rw [← (show z75c = s75.2.2.1 102 4 from e75b)] at n75e
            rw [← (show z69b = s69.2.2.1 46 4 from e69a)] at n75f
            rw [← (show z36c = s69.2.2.1 102 4 from fr_F (e36b) hF69 rfl)] at n75f
            rw [← (show z75b = s75.2.2.1 46 4 from e75a)] at n75f
            rw [← (show z75c = s75.2.2.1 102 4 from e75b)] at n75f
            show GG _ _ _ _ _ _ _ _ [.int z75] _ _ _
            refine g_if_ne 81 83 (gd rfl) rfl rfl (fun c78 => ?_) (fun c78 => ?_)
            · skip
              have i78 := z_ne 1 1 c78 i75 rfl
              refine g_aload_n 84 (gd rfl) rfl rfl ?_
              refine g_getI 87 (gd rfl) rfl rfl rfl (fun z84 e84 => ?_)
              have i84 := rng_F hI75a.1 0 5 rfl e84
              refine g_if_eq 90 97 (gd rfl) rfl rfl (fun c87 => ?_) (fun c87 => ?_)
              · skip
                have i87 := z_eq 0 0 c87 i84 rfl
                refine g_aload_n 98 (gd rfl) rfl rfl ?_
                refine g_iload_n 99 (gd rfl) rfl rfl ?_
                refine g_putI 102 (gd rfl) rfl rfl rfl rfl ?_
                have hI99 := rng_sF (q := 102) (j := 1) hI75a.1 rfl (in_w 0 120 i36c rfl)
                refine g_aload_n 103 (gd rfl) rfl rfl ?_
                refine g_aload_n 104 (gd rfl) rfl rfl ?_
                refine g_getI 107 (gd rfl) rfl rfl rfl (fun z104 e104 => ?_)
                have q104 : z75c = z104 := (sF_ne rfl (e75b)).trans e104.symm
                subst q104
                refine g_putI 110 (gd rfl) rfl rfl rfl rfl ?_
                have hI107 := rng_sF (q := 102) (j := 2) hI99 rfl (in_w 0 120 i75c rfl)
                refine g_aload_n 111 (gd rfl) rfl rfl ?_
                refine g_getA (q2 := 104) 114 (gd rfl) rfl rfl rfl rfl ?_
                refine g_iconst 0 115 (gd rfl) rfl rfl ?_
                refine g_aload_n 116 (gd rfl) rfl rfl ?_
                refine g_getA (q2 := 103) 119 (gd rfl) rfl rfl rfl rfl ?_
                refine g_iconst 0 120 (gd rfl) rfl rfl ?_
                refine g_aload_n 121 (gd rfl) rfl rfl ?_
                refine g_getI 124 (gd rfl) rfl rfl rfl (fun z121 e121 => ?_)
                have q121 : z75c = z121 := (sF_ne rfl (sF_ne rfl (e75b))).trans e121.symm
                subst q121
                refine g_cpIr (q2 := 104) (q := 103) (n0 := 120) (n1 := 120) 127 (gd rfl) rfl rfl rfl rfl (Nat.le_of_ble_eq_true rfl) (cp_0 (in_c 0 rfl) rfl) (cp_0 (in_c 0 rfl) rfl) (cp_0 i75c rfl) (cp_1 (in_c 0 rfl) i75c rfl) (cp_1 (in_c 0 rfl) i75c rfl) hI107 rfl rfl rfl (fun s124 hI124 hF124 cp124 => ?_)
                refine g_iconst 1 128 (gd rfl) rfl rfl ?_
                have hI128 : Inv s124 := by have p1 := (p36b c39).2.2 0 0 (Nat.zero_le _) (by have e0 : CDL s30 = 0 := (by unfold CDL; rw [hF30.2.2.1 102 4 rfl]; rfl); rw [e0]; rfl); have p2 : PCV s36 s75 1 := pv_tr (j := 0) (k := 1) (pv_sm (hF69.1 104 rfl) (hF69.2.2.1 102 4 rfl)) (p75b c78); have hx : (s124.2.2.1 102 1).toInt.toNat = CDL s36 := (by rw [hF124.2.2.1 102 1 rfl, ← (show z36c = (sF (sF s75 102 1 z36c) 102 2 z75c).2.2.1 102 1 from sF_ne rfl sF_get), e36b]; rfl); have hy : (s124.2.2.1 102 2).toInt.toNat = CDL s75 := (by rw [hF124.2.2.1 102 2 rfl, ← (show z75c = (sF (sF s75 102 1 z36c) 102 2 z75c).2.2.1 102 2 from sF_get), e75b]; rfl); have hcp : ∀ k : Nat, k < CDL s75 → s124.1 103 k = s75.1 104 k := (fun k hk => by rw [cp124 k, show (Int32.ofInt 0).toNatClampNeg = 0 from rfl]; unfold va_cpy; rw [if_pos ⟨Nat.zero_le k, (by rw [e75b, Nat.zero_add]; exact hk)⟩, Nat.zero_add, Nat.sub_zero]; rfl); have hFF : Fr fm_56_102_46 s s124 := (fr_tr rfl (fr_sF rfl (fr_sF rfl (fr_tr rfl (fr_tr rfl (fr_tr rfl (fr_tr rfl (fr_sF rfl (fr_sF rfl (fr_sF rfl (fr_sF rfl fr_rf)))) hF30) hF36) hF69) hF75))) hF124); exact ⟨hI124, kk_cp hI.2 hFF rfl (kc_ad (s1 := s36) (s2 := s75) p1 p2 hx hy hcp)⟩
                have n128 : PAD (s.1 47) (s.2.2.1 46 1).toInt.toNat s s124 ((Int32.ofInt 1)).toInt := by have p2 : PCV s36 s75 1 := pv_tr (j := 0) (k := 1) (pv_sm (hF69.1 104 rfl) (hF69.2.2.1 102 4 rfl)) (p75b c78); have hx : (s124.2.2.1 102 1).toInt.toNat = CDL s36 := (by rw [hF124.2.2.1 102 1 rfl, ← (show z36c = (sF (sF s75 102 1 z36c) 102 2 z75c).2.2.1 102 1 from sF_ne rfl sF_get), e36b]; rfl); have hy : (s124.2.2.1 102 2).toInt.toNat = CDL s75 := (by rw [hF124.2.2.1 102 2 rfl, ← (show z75c = (sF (sF s75 102 1 z36c) 102 2 z75c).2.2.1 102 2 from sF_get), e75b]; rfl); have hcp : ∀ k : Nat, k < CDL s75 → s124.1 103 k = s75.1 104 k := (fun k hk => by rw [cp124 k, show (Int32.ofInt 0).toNatClampNeg = 0 from rfl]; unfold va_cpy; rw [if_pos ⟨Nat.zero_le k, (by rw [e75b, Nat.zero_add]; exact hk)⟩, Nat.zero_add, Nat.sub_zero]; rfl); exact ⟨fun _ => ⟨DRF s36, DRF s75, Or.inl ⟨rfl, (by rw [← e_46_1]; (first | have a0 := oa6 i10 i36c i75c i87 i75b i75a | ((first | have a0 := in_u i10 | (have a0 := i10; unfold In at a0)); (first | have a1 := in_u i36c | (have a1 := i36c; unfold In at a1)); (first | have a2 := in_u i75c | (have a2 := i75c; unfold In at a2)); (first | have a3 := in_u i87 | (have a3 := i87; unfold In at a3)); (first | have a4 := in_u i75b | (have a4 := i75b; unfold In at a4)); (first | have a5 := in_u i75a | (have a5 := i75a; unfold In at a5)))); have oc := ocj_56_102_46; omega), _, _, (ad_ok (fp := 1) (a := 0) (pz1_t (s := s) (u := s30) (hF30.1 47 rfl) (v36.symm.trans e_46_1) p36c) c39 (pka_0 (s := s) (u := (sF (sF (sF (sF s 46 2 (Int32.ofInt 0)) 46 6 (Int32.ofInt (-1))) 46 7 (Int32.ofInt (-1))) 102 4 (Int32.ofInt 0))) (a := 0) rfl (v30a.symm.trans e_46_1) (by rw [← v30]; rfl) p30b) (drf_0 v36a) (Or.inl ⟨by rw [← e47x1]; (first | have a0 := oa6 i10 i36c i75c i87 i75b i75a | ((first | have a0 := in_u i10 | (have a0 := i10; unfold In at a0)); (first | have a1 := in_u i36c | (have a1 := i36c; unfold In at a1)); (first | have a2 := in_u i75c | (have a2 := i75c; unfold In at a2)); (first | have a3 := in_u i87 | (have a3 := i87; unfold In at a3)); (first | have a4 := in_u i75b | (have a4 := i75b; unfold In at a4)); (first | have a5 := in_u i75a | (have a5 := i75a; unfold In at a5)))); have oc := ocj_56_102_46; omega, by rw [← e47x9]; (first | have a0 := oa6 i10 i36c i75c i87 i75b i75a | ((first | have a0 := in_u i10 | (have a0 := i10; unfold In at a0)); (first | have a1 := in_u i36c | (have a1 := i36c; unfold In at a1)); (first | have a2 := in_u i75c | (have a2 := i75c; unfold In at a2)); (first | have a3 := in_u i87 | (have a3 := i87; unfold In at a3)); (first | have a4 := in_u i75b | (have a4 := i75b; unfold In at a4)); (first | have a5 := in_u i75a | (have a5 := i75a; unfold In at a5)))); have oc := ocj_56_102_46; omega, rfl⟩)), ad_ok (fp := 0) (pz1_t (s := s) (u := s69) ((hF69.1 47 rfl).trans ((hF36.1 47 rfl).trans (hF30.1 47 rfl))) (v75.symm.trans e_46_1) p75c) c78 (pka_n (s := s) (u := s36) (w := s36) ((hF36.1 47 rfl).trans (hF30.1 47 rfl)) (v69.symm.trans e_46_1) rfl p69b) (drf_s (hF69.1 104 rfl) (hF69.2.2.1 102 4 rfl)) (Or.inr ⟨by rw [← e84]; (first | have a0 := oa6 i10 i36c i75c i87 i75b i75a | ((first | have a0 := in_u i10 | (have a0 := i10; unfold In at a0)); (first | have a1 := in_u i36c | (have a1 := i36c; unfold In at a1)); (first | have a2 := in_u i75c | (have a2 := i75c; unfold In at a2)); (first | have a3 := in_u i87 | (have a3 := i87; unfold In at a3)); (first | have a4 := in_u i75b | (have a4 := i75b; unfold In at a4)); (first | have a5 := in_u i75a | (have a5 := i75a; unfold In at a5)))); have oc := ocj_56_102_46; omega, rfl⟩)⟩, cpq_i p2 hx hy hcp⟩, fun h => absurd h (by decide)⟩
                have n128a : ((Int32.ofInt 1)).toInt ≠ 0 → (s124.2.2.1 46 6).toInt = -1 ∧ (s124.2.2.1 46 7).toInt = -1 := by intro _; have hb : BSM s30 s75 := bsm_t (p36d c39) (bsm_t (bsm_fr hF69 rfl) (p75d c78)); have h6 : s30.2.2.1 46 6 = Int32.ofInt (-1) := (hF30.2.2.1 46 6 rfl).trans (show Int32.ofInt (-1) = (sF (sF (sF (sF s 46 2 (Int32.ofInt 0)) 46 6 (Int32.ofInt (-1))) 46 7 (Int32.ofInt (-1))) 102 4 (Int32.ofInt 0)).2.2.1 46 6 from sF_ne rfl (sF_ne rfl sF_get)).symm; have h7 : s30.2.2.1 46 7 = Int32.ofInt (-1) := (hF30.2.2.1 46 7 rfl).trans (show Int32.ofInt (-1) = (sF (sF (sF (sF s 46 2 (Int32.ofInt 0)) 46 6 (Int32.ofInt (-1))) 46 7 (Int32.ofInt (-1))) 102 4 (Int32.ofInt 0)).2.2.1 46 7 from sF_ne rfl sF_get).symm; exact ⟨(by rw [hF124.2.2.1 46 6 rfl, ← (show s75.2.2.1 46 6 = (sF (sF s75 102 1 z36c) 102 2 z75c).2.2.1 46 6 from sF_ne rfl (sF_ne rfl rfl)), hb.1, h6]; rfl), (by rw [hF124.2.2.1 46 7 rfl, ← (show s75.2.2.1 46 7 = (sF (sF s75 102 1 z36c) 102 2 z75c).2.2.1 46 7 from sF_ne rfl (sF_ne rfl rfl)), hb.2, h7]; rfl)⟩
                have n128b : ((Int32.ofInt 1)).toInt ≠ 0 → PRC s124 := by intro _; have p2 : PCV s36 s75 1 := pv_tr (j := 0) (k := 1) (pv_sm (hF69.1 104 rfl) (hF69.2.2.1 102 4 rfl)) (p75b c78); have hx : (s124.2.2.1 102 1).toInt.toNat = CDL s36 := (by rw [hF124.2.2.1 102 1 rfl, ← (show z36c = (sF (sF s75 102 1 z36c) 102 2 z75c).2.2.1 102 1 from sF_ne rfl sF_get), e36b]; rfl); have hy : (s124.2.2.1 102 2).toInt.toNat = CDL s75 := (by rw [hF124.2.2.1 102 2 rfl, ← (show z75c = (sF (sF s75 102 1 z36c) 102 2 z75c).2.2.1 102 2 from sF_get), e75b]; rfl); have hcp : ∀ k : Nat, k < CDL s75 → s124.1 103 k = s75.1 104 k := (fun k hk => by rw [cp124 k, show (Int32.ofInt 0).toNatClampNeg = 0 from rfl]; unfold va_cpy; rw [if_pos ⟨Nat.zero_le k, (by rw [e75b, Nat.zero_add]; exact hk)⟩, Nat.zero_add, Nat.sub_zero]; rfl); exact prc_i (s := s30) (u := s36) (v := s75) (by unfold CDL; rw [hF30.2.2.1 102 4 rfl]; rfl) (p36b c39) p2 hx hy
                exact g_ireturn (gd rfl) rfl (nb01 (in_w 0 1 (in_c 1 rfl) rfl)) (hP _ _ ⟨s124, hI128, (fr_tr rfl (fr_sF rfl (fr_sF rfl (fr_tr rfl (fr_tr rfl (fr_tr rfl (fr_tr rfl (fr_sF rfl (fr_sF rfl (fr_sF rfl (fr_sF rfl fr_rf)))) hF30) hF36) hF69) hF75))) hF124), (Int32.ofInt 1), rfl, rfl, in_w 0 1 (in_c 1 rfl) rfl, n128, n128a, n128b⟩)
              · skip
                have i87 := z_ne 1 5 c87 i84 rfl
                refine g_aload_n 91 (gd rfl) rfl rfl ?_
                refine g_iconst 2 92 (gd rfl) rfl rfl ?_
                refine g_iconst 4 93 (gd rfl) rfl rfl ?_
                have hI93 : Inv s75 := by have hFF : Fr ([104], [], [(46, 2), (46, 3), (46, 4), (46, 5), (46, 6), (46, 7), (102, 4)], []) s s75 := (fr_tr rfl (fr_tr rfl (fr_tr rfl (fr_tr rfl (fr_sF rfl (fr_sF rfl (fr_sF rfl (fr_sF rfl fr_rf)))) hF30) hF36) hF69) hF75); exact ⟨hI75a.1, kk_all hI.2 hFF rfl⟩
                refine g_callv (X := _) (As := [.int (Int32.ofInt 2), .int (Int32.ofInt 4)]) (r := []) (b := A 46) (q := 46) 96 (gd rfl) rfl rfl rfl rfl rfl (ww_o rfl) (Nat.le_of_ble_eq_true rfl) (Nat.zero_le _) (Nat.zero_le _) (j_169_46 (by omega) hI93 (in_w 2 2 (in_c 2 rfl) rfl) (in_w 4 4 (in_c 4 rfl) rfl) e84 e75a) (fun e u h => h) (fun v u h => ?_)
                obtain ⟨s93, hI93a, hF93, z93, rfl, rfl, i93, p93⟩ := h
                show GG _ _ _ _ _ _ _ _ [.int z93] _ _ _
                have hI96 : Inv s93 := by have hFF : Fr ([104], [], [(46, 2), (46, 3), (46, 4), (46, 5), (46, 6), (46, 7), (102, 4)], []) s s93 := (fr_tr rfl (fr_tr rfl (fr_tr rfl (fr_tr rfl (fr_tr rfl (fr_sF rfl (fr_sF rfl (fr_sF rfl (fr_sF rfl fr_rf)))) hF30) hF36) hF69) hF75) hF93); exact ⟨hI93a.1, kk_all hI.2 hFF rfl⟩
                have n96 : PAD (s.1 47) (s.2.2.1 46 1).toInt.toNat s s93 (z93).toInt := by exact ⟨fun h => absurd (by have h9 := i93; unfold In at h9; omega) h, fun _ => ⟨ad_f2 (by rw [← e_46_1]; (first | have a0 := oa6 i10 i36c i87 i75c i75b i75a | ((first | have a0 := in_u i10 | (have a0 := i10; unfold In at a0)); (first | have a1 := in_u i36c | (have a1 := i36c; unfold In at a1)); (first | have a2 := in_u i87 | (have a2 := i87; unfold In at a2)); (first | have a3 := in_u i75c | (have a3 := i75c; unfold In at a3)); (first | have a4 := in_u i75b | (have a4 := i75b; unfold In at a4)); (first | have a5 := in_u i75a | (have a5 := i75a; unfold In at a5)))); have oc := ocj_56_102_46; omega) (by have h9 := rng_F hI93a.1 (-1) 5 (q := 46) (j := 6) rfl rfl; unfold In at h9; exact h9.1) (ad_ok (fp := 1) (a := 0) (pz1_t (s := s) (u := s30) (hF30.1 47 rfl) (v36.symm.trans e_46_1) p36c) c39 (pka_0 (s := s) (u := (sF (sF (sF (sF s 46 2 (Int32.ofInt 0)) 46 6 (Int32.ofInt (-1))) 46 7 (Int32.ofInt (-1))) 102 4 (Int32.ofInt 0))) (a := 0) rfl (v30a.symm.trans e_46_1) (by rw [← v30]; rfl) p30b) (drf_0 v36a) (Or.inl ⟨by rw [← e47x1]; (first | have a0 := oa6 i10 i36c i87 i75c i75b i75a | ((first | have a0 := in_u i10 | (have a0 := i10; unfold In at a0)); (first | have a1 := in_u i36c | (have a1 := i36c; unfold In at a1)); (first | have a2 := in_u i87 | (have a2 := i87; unfold In at a2)); (first | have a3 := in_u i75c | (have a3 := i75c; unfold In at a3)); (first | have a4 := in_u i75b | (have a4 := i75b; unfold In at a4)); (first | have a5 := in_u i75a | (have a5 := i75a; unfold In at a5)))); have oc := ocj_56_102_46; omega, by rw [← e47x9]; (first | have a0 := oa6 i10 i36c i87 i75c i75b i75a | ((first | have a0 := in_u i10 | (have a0 := i10; unfold In at a0)); (first | have a1 := in_u i36c | (have a1 := i36c; unfold In at a1)); (first | have a2 := in_u i87 | (have a2 := i87; unfold In at a2)); (first | have a3 := in_u i75c | (have a3 := i75c; unfold In at a3)); (first | have a4 := in_u i75b | (have a4 := i75b; unfold In at a4)); (first | have a5 := in_u i75a | (have a5 := i75a; unfold In at a5)))); have oc := ocj_56_102_46; omega, rfl⟩)) (ad_no (fp := 0) (pz1_t (s := s) (u := s69) ((hF69.1 47 rfl).trans ((hF36.1 47 rfl).trans (hF30.1 47 rfl))) (v75.symm.trans e_46_1) p75c) c78 (pka_n (s := s) (u := s36) (w := s36) ((hF36.1 47 rfl).trans (hF30.1 47 rfl)) (v69.symm.trans e_46_1) rfl p69b) (drf_s (hF69.1 104 rfl) (hF69.2.2.1 102 4 rfl)) (fun q => by rw [← e84] at q; (first | have a0 := oa6 i10 i36c i87 i75c i75b i75a | ((first | have a0 := in_u i10 | (have a0 := i10; unfold In at a0)); (first | have a1 := in_u i36c | (have a1 := i36c; unfold In at a1)); (first | have a2 := in_u i87 | (have a2 := i87; unfold In at a2)); (first | have a3 := in_u i75c | (have a3 := i75c; unfold In at a3)); (first | have a4 := in_u i75b | (have a4 := i75b; unfold In at a4)); (first | have a5 := in_u i75a | (have a5 := i75a; unfold In at a5)))); have oc := ocj_56_102_46; omega) (blt_i p93.1 (congrArg Int32.toInt p93.2) (by have h9 := rng_F hI93.1 0 1000 (q := 46) (j := 4) rfl rfl; unfold In at h9; exact h9.1))), (scq_fr (L := ([104], [], [(46, 2), (46, 3), (46, 4), (46, 5), (46, 6), (46, 7), (102, 4)], [])) (fr_tr rfl (fr_tr rfl (fr_tr rfl (fr_tr rfl (fr_tr rfl (fr_sF rfl (fr_sF rfl (fr_sF rfl (fr_sF rfl fr_rf)))) hF30) hF36) hF69) hF75) hF93) rfl)⟩⟩
                have n96a : (z93).toInt ≠ 0 → (s93.2.2.1 46 6).toInt = -1 ∧ (s93.2.2.1 46 7).toInt = -1 := by intro h; unfold In at i93; omega
                have n96b : (z93).toInt ≠ 0 → PRC s93 := by intro h; unfold In at i93; omega
                exact g_ireturn (gd rfl) rfl (nb01 (in_w 0 1 i93 rfl)) (hP _ _ ⟨s93, hI96, (fr_tr rfl (fr_tr rfl (fr_tr rfl (fr_tr rfl (fr_tr rfl (fr_sF rfl (fr_sF rfl (fr_sF rfl (fr_sF rfl fr_rf)))) hF30) hF36) hF69) hF75) hF93), z93, rfl, rfl, in_w 0 1 i93 rfl, n96, n96a, n96b⟩)
            · skip
              have i78 := z_eq 0 0 c78 i75 rfl
              refine g_iconst 0 82 (gd rfl) rfl rfl ?_
              have hI82 : Inv s75 := by have hFF : Fr ([104], [], [(46, 2), (46, 3), (46, 4), (46, 5), (46, 6), (46, 7), (102, 4)], []) s s75 := (fr_tr rfl (fr_tr rfl (fr_tr rfl (fr_tr rfl (fr_sF rfl (fr_sF rfl (fr_sF rfl (fr_sF rfl fr_rf)))) hF30) hF36) hF69) hF75); exact ⟨hI75a.1, kk_all hI.2 hFF rfl⟩
              have n82 : PAD (s.1 47) (s.2.2.1 46 1).toInt.toNat s s75 ((Int32.ofInt 0)).toInt := by exact ⟨fun h => absurd rfl h, fun _ => ⟨ad_f2 (by rw [← e_46_1]; (first | have a0 := oa5 i10 i36c i75c i75b i75a | ((first | have a0 := in_u i10 | (have a0 := i10; unfold In at a0)); (first | have a1 := in_u i36c | (have a1 := i36c; unfold In at a1)); (first | have a2 := in_u i75c | (have a2 := i75c; unfold In at a2)); (first | have a3 := in_u i75b | (have a3 := i75b; unfold In at a3)); (first | have a4 := in_u i75a | (have a4 := i75a; unfold In at a4)))); have oc := ocj_56_102_46; omega) (by have h9 := rng_F hI75a.1 (-1) 5 (q := 46) (j := 6) rfl rfl; unfold In at h9; exact h9.1) (ad_ok (fp := 1) (a := 0) (pz1_t (s := s) (u := s30) (hF30.1 47 rfl) (v36.symm.trans e_46_1) p36c) c39 (pka_0 (s := s) (u := (sF (sF (sF (sF s 46 2 (Int32.ofInt 0)) 46 6 (Int32.ofInt (-1))) 46 7 (Int32.ofInt (-1))) 102 4 (Int32.ofInt 0))) (a := 0) rfl (v30a.symm.trans e_46_1) (by rw [← v30]; rfl) p30b) (drf_0 v36a) (Or.inl ⟨by rw [← e47x1]; (first | have a0 := oa5 i10 i36c i75c i75b i75a | ((first | have a0 := in_u i10 | (have a0 := i10; unfold In at a0)); (first | have a1 := in_u i36c | (have a1 := i36c; unfold In at a1)); (first | have a2 := in_u i75c | (have a2 := i75c; unfold In at a2)); (first | have a3 := in_u i75b | (have a3 := i75b; unfold In at a3)); (first | have a4 := in_u i75a | (have a4 := i75a; unfold In at a4)))); have oc := ocj_56_102_46; omega, by rw [← e47x9]; (first | have a0 := oa5 i10 i36c i75c i75b i75a | ((first | have a0 := in_u i10 | (have a0 := i10; unfold In at a0)); (first | have a1 := in_u i36c | (have a1 := i36c; unfold In at a1)); (first | have a2 := in_u i75c | (have a2 := i75c; unfold In at a2)); (first | have a3 := in_u i75b | (have a3 := i75b; unfold In at a3)); (first | have a4 := in_u i75a | (have a4 := i75a; unfold In at a4)))); have oc := ocj_56_102_46; omega, rfl⟩)) (ad_x (pz1_t (s := s) (u := s69) ((hF69.1 47 rfl).trans ((hF36.1 47 rfl).trans (hF30.1 47 rfl))) (v75.symm.trans e_46_1) p75c) c78 (pka_n (s := s) (u := s36) (w := s36) ((hF36.1 47 rfl).trans (hF30.1 47 rfl)) (v69.symm.trans e_46_1) rfl p69b) (drf_s (hF69.1 104 rfl) (hF69.2.2.1 102 4 rfl))), (scq_fr (L := ([104], [], [(46, 2), (46, 3), (46, 4), (46, 5), (46, 6), (46, 7), (102, 4)], [])) (fr_tr rfl (fr_tr rfl (fr_tr rfl (fr_tr rfl (fr_sF rfl (fr_sF rfl (fr_sF rfl (fr_sF rfl fr_rf)))) hF30) hF36) hF69) hF75) rfl)⟩⟩
              have n82a : ((Int32.ofInt 0)).toInt ≠ 0 → (s75.2.2.1 46 6).toInt = -1 ∧ (s75.2.2.1 46 7).toInt = -1 := by intro h; exact absurd rfl h
              have n82b : ((Int32.ofInt 0)).toInt ≠ 0 → PRC s75 := by intro h; exact absurd rfl h
              exact g_ireturn (gd rfl) rfl (nb01 (in_w 0 1 (in_c 0 rfl) rfl)) (hP _ _ ⟨s75, hI82, (fr_tr rfl (fr_tr rfl (fr_tr rfl (fr_tr rfl (fr_sF rfl (fr_sF rfl (fr_sF rfl (fr_sF rfl fr_rf)))) hF30) hF36) hF69) hF75), (Int32.ofInt 0), rfl, rfl, in_w 0 1 (in_c 0 rfl) rfl, n82, n82a, n82b⟩)
          · skip
            exact zn_eq c50 (in_c 1 rfl) rfl
    · skip
      have i39 := z_eq 0 0 c39 i36 rfl
      refine g_iconst 0 43 (gd rfl) rfl rfl ?_
      have hI43 : Inv s36 := by have hFF : Fr ([104], [], [(46, 2), (46, 3), (46, 4), (46, 5), (46, 6), (46, 7), (102, 4)], []) s s36 := (fr_tr rfl (fr_tr rfl (fr_sF rfl (fr_sF rfl (fr_sF rfl (fr_sF rfl fr_rf)))) hF30) hF36); exact ⟨hI36a.1, kk_all hI.2 hFF rfl⟩
      have n43 : PAD (s.1 47) (s.2.2.1 46 1).toInt.toNat s s36 ((Int32.ofInt 0)).toInt := by exact ⟨fun h => absurd rfl h, fun _ => ⟨ad_f1 (by rw [← e_46_1]; (first | have a0 := oa4 i10 i36c i36b i36a | ((first | have a0 := in_u i10 | (have a0 := i10; unfold In at a0)); (first | have a1 := in_u i36c | (have a1 := i36c; unfold In at a1)); (first | have a2 := in_u i36b | (have a2 := i36b; unfold In at a2)); (first | have a3 := in_u i36a | (have a3 := i36a; unfold In at a3)))); have oc := ocj_56_102_46; omega) (by have h9 := rng_F hI36a.1 (-1) 5 (q := 46) (j := 6) rfl rfl; unfold In at h9; exact h9.1) (ad_x (pz1_t (s := s) (u := s30) (hF30.1 47 rfl) (v36.symm.trans e_46_1) p36c) c39 (pka_0 (s := s) (u := (sF (sF (sF (sF s 46 2 (Int32.ofInt 0)) 46 6 (Int32.ofInt (-1))) 46 7 (Int32.ofInt (-1))) 102 4 (Int32.ofInt 0))) (a := 0) rfl (v30a.symm.trans e_46_1) (by rw [← v30]; rfl) p30b) (drf_0 v36a)), (scq_fr (L := ([104], [], [(46, 2), (46, 3), (46, 4), (46, 5), (46, 6), (46, 7), (102, 4)], [])) (fr_tr rfl (fr_tr rfl (fr_sF rfl (fr_sF rfl (fr_sF rfl (fr_sF rfl fr_rf)))) hF30) hF36) rfl)⟩⟩
      have n43a : ((Int32.ofInt 0)).toInt ≠ 0 → (s36.2.2.1 46 6).toInt = -1 ∧ (s36.2.2.1 46 7).toInt = -1 := by intro h; exact absurd rfl h
      have n43b : ((Int32.ofInt 0)).toInt ≠ 0 → PRC s36 := by intro h; exact absurd rfl h
      exact g_ireturn (gd rfl) rfl (nb01 (in_w 0 1 (in_c 0 rfl) rfl)) (hP _ _ ⟨s36, hI43, (fr_tr rfl (fr_tr rfl (fr_sF rfl (fr_sF rfl (fr_sF rfl (fr_sF rfl fr_rf)))) hF30) hF36), (Int32.ofInt 0), rfl, rfl, in_w 0 1 (in_c 0 rfl) rfl, n43, n43a, n43b⟩)
  · skip
    have i10 := r_lt2 121 1000 c10 (in_c 120 rfl) ro_46_1 rfl
    refine g_aload_n 14 (gd rfl) rfl rfl ?_
    refine g_iconst 2 15 (gd rfl) rfl rfl ?_
    refine g_bipush 120 17 (gd rfl) rfl rfl ?_
    have hI17 : Inv (sF (sF (sF s 46 2 (Int32.ofInt 0)) 46 6 (Int32.ofInt (-1))) 46 7 (Int32.ofInt (-1))) := by have hFF : Fr ([104], [], [(46, 2), (46, 3), (46, 4), (46, 5), (46, 6), (46, 7), (102, 4)], []) s (sF (sF (sF s 46 2 (Int32.ofInt 0)) 46 6 (Int32.ofInt (-1))) 46 7 (Int32.ofInt (-1))) := (fr_sF rfl (fr_sF rfl (fr_sF rfl fr_rf))); exact ⟨hI1x12, kk_all hI.2 hFF rfl⟩
    refine g_callv (X := _) (As := [.int (Int32.ofInt 2), .int (Int32.ofInt 120)]) (r := []) (b := A 46) (q := 46) 20 (gd rfl) rfl rfl rfl rfl rfl (ww_o rfl) (Nat.le_of_ble_eq_true rfl) (Nat.zero_le _) (Nat.zero_le _) (f_168_46 (by first | exact dq1 hd rfl | exact dq0 hd rfl | exact dq2 hd rfl | exact dq3 hd rfl | omega) hI17 (in_w 1 5 (in_c 2 rfl) rfl) (in_w 0 1000 (in_c 120 rfl) rfl)) (fun e u h => h) (fun v u h => ?_)
    obtain ⟨s17, hI17a, hF17, z17, rfl, rfl, i17, p17⟩ := h
    show GG _ _ _ _ _ _ _ _ [.int z17] _ _ _
    have hI20 : Inv s17 := by have hFF : Fr ([104], [], [(46, 2), (46, 3), (46, 4), (46, 5), (46, 6), (46, 7), (102, 4)], []) s s17 := (fr_tr rfl (fr_sF rfl (fr_sF rfl (fr_sF rfl fr_rf))) hF17); exact ⟨hI17a.1, kk_all hI.2 hFF rfl⟩
    have n20 : PAD (s.1 47) (s.2.2.1 46 1).toInt.toNat s s17 (z17).toInt := by exact ⟨fun h => absurd (by have h9 := i17; unfold In at h9; omega) h, fun _ => ⟨ad_f0 (by rw [← e_46_1]; (first | have a0 := oa2 i10 ((in_c 0 rfl)) | ((first | have a0 := in_u i10 | (have a0 := i10; unfold In at a0)); (first | have a1 := in_u ((in_c 0 rfl)) | (have a1 := (in_c 0 rfl); unfold In at a1)))); have oc := ocj_56_102_46; omega) (by rw [p17.1]; rfl) (by rw [p17.2]; rfl), (scq_fr (L := ([104], [], [(46, 2), (46, 3), (46, 4), (46, 5), (46, 6), (46, 7), (102, 4)], [])) (fr_tr rfl (fr_sF rfl (fr_sF rfl (fr_sF rfl fr_rf))) hF17) rfl)⟩⟩
    have n20a : (z17).toInt ≠ 0 → (s17.2.2.1 46 6).toInt = -1 ∧ (s17.2.2.1 46 7).toInt = -1 := by intro h; unfold In at i17; omega
    have n20b : (z17).toInt ≠ 0 → PRC s17 := by intro h; unfold In at i17; omega
    exact g_ireturn (gd rfl) rfl (nb01 (in_w 0 1 i17 rfl)) (hP _ _ ⟨s17, hI20, (fr_tr rfl (fr_sF rfl (fr_sF rfl (fr_sF rfl fr_rf))) hF17), z17, rfl, rfl, in_w 0 1 i17 rfl, n20, n20a, n20b⟩)

theorem ocj_255_0 : (Int32.ofInt (-4)).toInt = (-4) ∧ (Int32.ofInt (-1)).toInt = (-1) ∧ (Int32.ofInt 0).toInt = 0 ∧ (Int32.ofInt 1).toInt = 1 := ⟨rfl, rfl, rfl, rfl⟩
/-- GraphHouse.program -/
theorem j_255_0 {Z : AmZ} {A : Nat → Nat} {s : GS} {ex : va_W} {d : Nat} {X : AmX}  (hd : 297 ≤ d) (hI : Inv s)  : GC Z d 255 [.ref (A 0)] (WW Z A s ++ ex) 3 18 (fun v u => ∃ t : GS, Inv t ∧ Fr fm_255_0 s t ∧ ∃ z : Int32, v = some (.int z) ∧ u = WW Z A t ++ ex ∧ In z (-4) 0 ∧ (PGP (s.1 47) (s.2.2.1 46 1).toInt.toNat s t (z).toInt) ∧ ((z).toInt = 0 → (t.2.2.1 46 6).toInt = -1 ∧ (t.2.2.1 46 7).toInt = -1) ∧ ((z).toInt = 0 → PRC t)) X := by
  intro post xp hP hX
  refine g_enter2 (k := 255) (N := 900) (by first | exact dq1 hd rfl | exact dq0 hd rfl | exact dq2 hd rfl | exact dq3 hd rfl | omega) rfl (Nat.le_of_ble_eq_true rfl) ?_
  refine g_aload_n 1 (gd rfl) rfl rfl ?_
  refine g_getA (q2 := 102) 4 (gd rfl) rfl rfl rfl rfl ?_
  refine g_aload_n 5 (gd rfl) rfl rfl ?_
  refine g_getA (q2 := 46) 8 (gd rfl) rfl rfl rfl rfl ?_
  refine g_callv (X := _) (As := [.ref (A 46)]) (r := []) (b := A 102) (q := 102) 11 (gd rfl) rfl rfl rfl rfl rfl (ww_o rfl) (Nat.le_of_ble_eq_true rfl) (Nat.zero_le _) (Nat.zero_le _) (j_56_102_46 (by omega) hI ) (fun e u h => h) (fun v u h => ?_)
  obtain ⟨s8, hI8, hF8, z8, rfl, rfl, i8, p8, p8a, p8b⟩ := h
  show GG _ _ _ _ _ _ _ _ [.int z8] _ _ _
  refine g_if_eq 14 18 (gd rfl) rfl rfl (fun c11 => ?_) (fun c11 => ?_)
  · skip
    have i11 := z_eq 0 0 c11 i8 rfl
    refine g_bipush (-4) 20 (gd rfl) rfl rfl ?_
    have n20 : PGP (s.1 47) (s.2.2.1 46 1).toInt.toNat s s8 ((Int32.ofInt (-4))).toInt := by first | exact Or.inl ⟨rfl, p8.1 (by have oc := ocj_255_0; omega)⟩ | exact Or.inr ⟨rfl, p8.2 (by have oc := ocj_255_0; omega)⟩
    have n20a : ((Int32.ofInt (-4))).toInt = 0 → (s8.2.2.1 46 6).toInt = -1 ∧ (s8.2.2.1 46 7).toInt = -1 := by exact fun h => absurd h (by decide)
    have n20b : ((Int32.ofInt (-4))).toInt = 0 → PRC s8 := by exact fun h => absurd h (by decide)
    exact g_ireturn (gd rfl) rfl rfl (hP _ _ ⟨s8, hI8, (fr_tr rfl fr_rf hF8), (Int32.ofInt (-4)), rfl, rfl, in_w (-4) 0 (in_c (-4) rfl) rfl, n20, n20a, n20b⟩)
  · skip
    have i11 := z_ne 1 1 c11 i8 rfl
    refine g_iconst 0 15 (gd rfl) rfl rfl ?_
    refine g_goto 20 (gd rfl) rfl ?_
    have n20 : PGP (s.1 47) (s.2.2.1 46 1).toInt.toNat s s8 ((Int32.ofInt 0)).toInt := by first | exact Or.inl ⟨rfl, p8.1 (by have oc := ocj_255_0; omega)⟩ | exact Or.inr ⟨rfl, p8.2 (by have oc := ocj_255_0; omega)⟩
    have n20a : ((Int32.ofInt 0)).toInt = 0 → (s8.2.2.1 46 6).toInt = -1 ∧ (s8.2.2.1 46 7).toInt = -1 := by first | exact (fun _ => p8a (by have oc := ocj_255_0; omega)) | exact (fun h => absurd h (by decide))
    have n20b : ((Int32.ofInt 0)).toInt = 0 → PRC s8 := by first | exact (fun _ => p8b (by have oc := ocj_255_0; omega)) | exact (fun h => absurd h (by decide))
    exact g_ireturn (gd rfl) rfl rfl (hP _ _ ⟨s8, hI8, (fr_tr rfl fr_rf hF8), (Int32.ofInt 0), rfl, rfl, in_w (-4) 0 (in_c 0 rfl) rfl, n20, n20a, n20b⟩)

theorem ocj_398 : (Int32.ofInt (-1)).toInt = (-1) ∧ (Int32.ofInt 0).toInt = 0 ∧ (Int32.ofInt 1).toInt = 1 ∧ (Int32.ofInt 2).toInt = 2 ∧ (Int32.ofInt 3).toInt = 3 ∧ (Int32.ofInt 42).toInt = 42 ∧ (Int32.ofInt 43).toInt = 43 ∧ (Int32.ofInt 45).toInt = 45 ∧ (Int32.ofInt 60).toInt = 60 ∧ (Int32.ofInt 61).toInt = 61 := ⟨rfl, rfl, rfl, rfl, rfl, rfl, rfl, rfl, rfl, rfl⟩
/-- GraphHouseModel.strength -/
theorem j_398 {Z : AmZ} {A : Nat → Nat} {s : GS} {ex : va_W} {d : Nat} {X : AmX} {x0 : Int32} (hd : 1 ≤ d) (hI : Inv s)  : GC Z d 398 [.int x0] (WW Z A s ++ ex) 0 0 (fun v u => ∃ z : Int32, v = some (.int z) ∧ u = WW Z A s ++ ex ∧ In z 0 3 ∧ ((z).toInt = pgT (x0).toInt)) X := by
  intro post xp hP hX
  refine g_enter2 (k := 398) (N := 900) (by first | exact dq1 hd rfl | exact dq0 hd rfl | exact dq2 hd rfl | exact dq3 hd rfl | omega) rfl (Nat.le_of_ble_eq_true rfl) ?_
  refine g_iload_n 1 (gd rfl) rfl rfl ?_
  refine g_bipush 42 3 (gd rfl) rfl rfl ?_
  refine g_cmp_ne 6 10 (gd rfl) rfl rfl (fun c3 => ?_) (fun c3 => ?_)
  · skip
    refine g_iload_n 11 (gd rfl) rfl rfl ?_
    refine g_bipush 43 13 (gd rfl) rfl rfl ?_
    refine g_cmp_eq 16 22 (gd rfl) rfl rfl (fun c13 => ?_) (fun c13 => ?_)
    · skip
      have i13 := r_eq1 43 43 c13 (i_rng x0) (in_c 43 rfl) rfl
      refine g_iconst 2 23 (gd rfl) rfl rfl ?_
      refine g_goto 43 (gd rfl) rfl ?_
      have n43 : ((Int32.ofInt 2)).toInt = pgT (x0).toInt := by have hT := pgT_o (x0).toInt; (first | have a0 := in_u i13 | (have a0 := i13; unfold In at a0)); have oc := ocj_398; omega
      exact g_ireturn (gd rfl) rfl rfl (hP _ _ ⟨(Int32.ofInt 2), rfl, rfl, in_w 0 3 (in_c 2 rfl) rfl, n43⟩)
    · skip
      refine g_iload_n 17 (gd rfl) rfl rfl ?_
      refine g_bipush 45 19 (gd rfl) rfl rfl ?_
      refine g_cmp_ne 22 26 (gd rfl) rfl rfl (fun c19 => ?_) (fun c19 => ?_)
      · skip
        refine g_iload_n 27 (gd rfl) rfl rfl ?_
        refine g_bipush 60 29 (gd rfl) rfl rfl ?_
        refine g_cmp_eq 32 38 (gd rfl) rfl rfl (fun c29 => ?_) (fun c29 => ?_)
        · skip
          have i29 := r_eq1 60 60 c29 (i_rng x0) (in_c 60 rfl) rfl
          refine g_iconst 1 39 (gd rfl) rfl rfl ?_
          refine g_goto 43 (gd rfl) rfl ?_
          have n43 : ((Int32.ofInt 1)).toInt = pgT (x0).toInt := by have hT := pgT_o (x0).toInt; (first | have a0 := in_u i29 | (have a0 := i29; unfold In at a0)); have oc := ocj_398; omega
          exact g_ireturn (gd rfl) rfl rfl (hP _ _ ⟨(Int32.ofInt 1), rfl, rfl, in_w 0 3 (in_c 1 rfl) rfl, n43⟩)
        · skip
          refine g_iload_n 33 (gd rfl) rfl rfl ?_
          refine g_bipush 61 35 (gd rfl) rfl rfl ?_
          refine g_cmp_ne 38 42 (gd rfl) rfl rfl (fun c35 => ?_) (fun c35 => ?_)
          · skip
            refine g_iconst 0 43 (gd rfl) rfl rfl ?_
            have n43 : ((Int32.ofInt 0)).toInt = pgT (x0).toInt := by have hT := pgT_o (x0).toInt; have oc := ocj_398; omega
            exact g_ireturn (gd rfl) rfl rfl (hP _ _ ⟨(Int32.ofInt 0), rfl, rfl, in_w 0 3 (in_c 0 rfl) rfl, n43⟩)
          · skip
            have i35 := r_eq1 61 61 c35 (i_rng x0) (in_c 61 rfl) rfl
            refine g_iconst 1 39 (gd rfl) rfl rfl ?_
            refine g_goto 43 (gd rfl) rfl ?_
            have n43 : ((Int32.ofInt 1)).toInt = pgT (x0).toInt := by have hT := pgT_o (x0).toInt; (first | have a0 := in_u i35 | (have a0 := i35; unfold In at a0)); have oc := ocj_398; omega
            exact g_ireturn (gd rfl) rfl rfl (hP _ _ ⟨(Int32.ofInt 1), rfl, rfl, in_w 0 3 (in_c 1 rfl) rfl, n43⟩)
      · skip
        have i19 := r_eq1 45 45 c19 (i_rng x0) (in_c 45 rfl) rfl
        refine g_iconst 2 23 (gd rfl) rfl rfl ?_
        refine g_goto 43 (gd rfl) rfl ?_
        have n43 : ((Int32.ofInt 2)).toInt = pgT (x0).toInt := by have hT := pgT_o (x0).toInt; (first | have a0 := in_u i19 | (have a0 := i19; unfold In at a0)); have oc := ocj_398; omega
        exact g_ireturn (gd rfl) rfl rfl (hP _ _ ⟨(Int32.ofInt 2), rfl, rfl, in_w 0 3 (in_c 2 rfl) rfl, n43⟩)
  · skip
    have i3 := r_eq1 42 42 c3 (i_rng x0) (in_c 42 rfl) rfl
    refine g_iconst 3 7 (gd rfl) rfl rfl ?_
    refine g_goto 43 (gd rfl) rfl ?_
    have n43 : ((Int32.ofInt 3)).toInt = pgT (x0).toInt := by have hT := pgT_o (x0).toInt; (first | have a0 := in_u i3 | (have a0 := i3; unfold In at a0)); have oc := ocj_398; omega
    exact g_ireturn (gd rfl) rfl rfl (hP _ _ ⟨(Int32.ofInt 3), rfl, rfl, in_w 0 3 (in_c 3 rfl) rfl, n43⟩)

theorem ocj_394 : (Int32.ofInt (-1)).toInt = (-1) ∧ (Int32.ofInt 0).toInt = 0 ∧ (Int32.ofInt 1).toInt = 1 ∧ (Int32.ofInt 2).toInt = 2 ∧ (Int32.ofInt 3).toInt = 3 ∧ (Int32.ofInt 4).toInt = 4 ∧ (Int32.ofInt 5).toInt = 5 ∧ (Int32.ofInt 6).toInt = 6 ∧ (Int32.ofInt 7).toInt = 7 ∧ (Int32.ofInt 8).toInt = 8 := ⟨rfl, rfl, rfl, rfl, rfl, rfl, rfl, rfl, rfl, rfl⟩
/-- GraphHouseModel.nameOf -/
theorem j_394 {Z : AmZ} {A : Nat → Nat} {s : GS} {ex : va_W} {d : Nat} {X : AmX} {x0 : Int32} (hd : 1 ≤ d) (hI : Inv s)  : GC Z d 394 [.int x0] (WW Z A s ++ ex) 0 0 (fun v u => ∃ z : Int32, v = some (.int z) ∧ u = WW Z A s ++ ex ∧ In z (-1) 8 ∧ ((z).toInt = pgN ((x0).toInt - 97))) X := by
  intro post xp hP hX
  refine g_enter2 (k := 394) (N := 900) (by first | exact dq1 hd rfl | exact dq0 hd rfl | exact dq2 hd rfl | exact dq3 hd rfl | omega) rfl (Nat.le_of_ble_eq_true rfl) ?_
  refine g_iload_n 1 (gd rfl) rfl rfl ?_
  refine g_tsw [106, 121, 121, 118, 121, 108, 121, 121, 104, 115, 102, 121, 121, 121, 110, 112, 121, 121, 121, 121, 100] 121 (gd rfl) rfl rfl rfl ⟨fun c1 => ?_, fun c1 => ?_, fun c1 => ?_, fun c1 => ?_, fun c1 => ?_, fun c1 => ?_, fun c1 => ?_, fun c1 => ?_, fun c1 => ?_, fun c1 => ?_, fun c1 => ?_, fun c1 => ?_, fun c1 => ?_, fun c1 => ?_, fun c1 => ?_, fun c1 => ?_, fun c1 => ?_, fun c1 => ?_, fun c1 => ?_, fun c1 => ?_, fun c1 => ?_, trivial⟩ (fun c1 => ?_)
  · skip
    have i1 := sw_eq c1
    refine g_iconst 3 107 (gd rfl) rfl rfl ?_
    have n107 : ((Int32.ofInt 3)).toInt = pgN ((x0).toInt - 97) := by have hN := pgN_o ((x0).toInt - 97); (first | have a0 := in_u i1 | (have a0 := i1; unfold In at a0)); have oc := ocj_394; omega
    exact g_ireturn (gd rfl) rfl rfl (hP _ _ ⟨(Int32.ofInt 3), rfl, rfl, in_w (-1) 8 (in_c 3 rfl) rfl, n107⟩)
  · skip
    have i1 := sw_eq c1
    refine g_iconst (-1) 122 (gd rfl) rfl rfl ?_
    have n122 : ((Int32.ofInt (-1))).toInt = pgN ((x0).toInt - 97) := by have hN := pgN_o ((x0).toInt - 97); (first | have a0 := in_u i1 | (have a0 := i1; unfold In at a0)); have oc := ocj_394; omega
    exact g_ireturn (gd rfl) rfl rfl (hP _ _ ⟨(Int32.ofInt (-1)), rfl, rfl, in_w (-1) 8 (in_c (-1) rfl) rfl, n122⟩)
  · skip
    have i1 := sw_eq c1
    refine g_iconst (-1) 122 (gd rfl) rfl rfl ?_
    have n122 : ((Int32.ofInt (-1))).toInt = pgN ((x0).toInt - 97) := by have hN := pgN_o ((x0).toInt - 97); (first | have a0 := in_u i1 | (have a0 := i1; unfold In at a0)); have oc := ocj_394; omega
    exact g_ireturn (gd rfl) rfl rfl (hP _ _ ⟨(Int32.ofInt (-1)), rfl, rfl, in_w (-1) 8 (in_c (-1) rfl) rfl, n122⟩)
  · skip
    have i1 := sw_eq c1
    refine g_bipush 8 120 (gd rfl) rfl rfl ?_
    have n120 : ((Int32.ofInt 8)).toInt = pgN ((x0).toInt - 97) := by have hN := pgN_o ((x0).toInt - 97); (first | have a0 := in_u i1 | (have a0 := i1; unfold In at a0)); have oc := ocj_394; omega
    exact g_ireturn (gd rfl) rfl rfl (hP _ _ ⟨(Int32.ofInt 8), rfl, rfl, in_w (-1) 8 (in_c 8 rfl) rfl, n120⟩)
  · skip
    have i1 := sw_eq c1
    refine g_iconst (-1) 122 (gd rfl) rfl rfl ?_
    have n122 : ((Int32.ofInt (-1))).toInt = pgN ((x0).toInt - 97) := by have hN := pgN_o ((x0).toInt - 97); (first | have a0 := in_u i1 | (have a0 := i1; unfold In at a0)); have oc := ocj_394; omega
    exact g_ireturn (gd rfl) rfl rfl (hP _ _ ⟨(Int32.ofInt (-1)), rfl, rfl, in_w (-1) 8 (in_c (-1) rfl) rfl, n122⟩)
  · skip
    have i1 := sw_eq c1
    refine g_iconst 4 109 (gd rfl) rfl rfl ?_
    have n109 : ((Int32.ofInt 4)).toInt = pgN ((x0).toInt - 97) := by have hN := pgN_o ((x0).toInt - 97); (first | have a0 := in_u i1 | (have a0 := i1; unfold In at a0)); have oc := ocj_394; omega
    exact g_ireturn (gd rfl) rfl rfl (hP _ _ ⟨(Int32.ofInt 4), rfl, rfl, in_w (-1) 8 (in_c 4 rfl) rfl, n109⟩)
  · skip
    have i1 := sw_eq c1
    refine g_iconst (-1) 122 (gd rfl) rfl rfl ?_
    have n122 : ((Int32.ofInt (-1))).toInt = pgN ((x0).toInt - 97) := by have hN := pgN_o ((x0).toInt - 97); (first | have a0 := in_u i1 | (have a0 := i1; unfold In at a0)); have oc := ocj_394; omega
    exact g_ireturn (gd rfl) rfl rfl (hP _ _ ⟨(Int32.ofInt (-1)), rfl, rfl, in_w (-1) 8 (in_c (-1) rfl) rfl, n122⟩)
  · skip
    have i1 := sw_eq c1
    refine g_iconst (-1) 122 (gd rfl) rfl rfl ?_
    have n122 : ((Int32.ofInt (-1))).toInt = pgN ((x0).toInt - 97) := by have hN := pgN_o ((x0).toInt - 97); (first | have a0 := in_u i1 | (have a0 := i1; unfold In at a0)); have oc := ocj_394; omega
    exact g_ireturn (gd rfl) rfl rfl (hP _ _ ⟨(Int32.ofInt (-1)), rfl, rfl, in_w (-1) 8 (in_c (-1) rfl) rfl, n122⟩)
  · skip
    have i1 := sw_eq c1
    refine g_iconst 2 105 (gd rfl) rfl rfl ?_
    have n105 : ((Int32.ofInt 2)).toInt = pgN ((x0).toInt - 97) := by have hN := pgN_o ((x0).toInt - 97); (first | have a0 := in_u i1 | (have a0 := i1; unfold In at a0)); have oc := ocj_394; omega
    exact g_ireturn (gd rfl) rfl rfl (hP _ _ ⟨(Int32.ofInt 2), rfl, rfl, in_w (-1) 8 (in_c 2 rfl) rfl, n105⟩)
  · skip
    have i1 := sw_eq c1
    refine g_bipush 7 117 (gd rfl) rfl rfl ?_
    have n117 : ((Int32.ofInt 7)).toInt = pgN ((x0).toInt - 97) := by have hN := pgN_o ((x0).toInt - 97); (first | have a0 := in_u i1 | (have a0 := i1; unfold In at a0)); have oc := ocj_394; omega
    exact g_ireturn (gd rfl) rfl rfl (hP _ _ ⟨(Int32.ofInt 7), rfl, rfl, in_w (-1) 8 (in_c 7 rfl) rfl, n117⟩)
  · skip
    have i1 := sw_eq c1
    refine g_iconst 1 103 (gd rfl) rfl rfl ?_
    have n103 : ((Int32.ofInt 1)).toInt = pgN ((x0).toInt - 97) := by have hN := pgN_o ((x0).toInt - 97); (first | have a0 := in_u i1 | (have a0 := i1; unfold In at a0)); have oc := ocj_394; omega
    exact g_ireturn (gd rfl) rfl rfl (hP _ _ ⟨(Int32.ofInt 1), rfl, rfl, in_w (-1) 8 (in_c 1 rfl) rfl, n103⟩)
  · skip
    have i1 := sw_eq c1
    refine g_iconst (-1) 122 (gd rfl) rfl rfl ?_
    have n122 : ((Int32.ofInt (-1))).toInt = pgN ((x0).toInt - 97) := by have hN := pgN_o ((x0).toInt - 97); (first | have a0 := in_u i1 | (have a0 := i1; unfold In at a0)); have oc := ocj_394; omega
    exact g_ireturn (gd rfl) rfl rfl (hP _ _ ⟨(Int32.ofInt (-1)), rfl, rfl, in_w (-1) 8 (in_c (-1) rfl) rfl, n122⟩)
  · skip
    have i1 := sw_eq c1
    refine g_iconst (-1) 122 (gd rfl) rfl rfl ?_
    have n122 : ((Int32.ofInt (-1))).toInt = pgN ((x0).toInt - 97) := by have hN := pgN_o ((x0).toInt - 97); (first | have a0 := in_u i1 | (have a0 := i1; unfold In at a0)); have oc := ocj_394; omega
    exact g_ireturn (gd rfl) rfl rfl (hP _ _ ⟨(Int32.ofInt (-1)), rfl, rfl, in_w (-1) 8 (in_c (-1) rfl) rfl, n122⟩)
  · skip
    have i1 := sw_eq c1
    refine g_iconst (-1) 122 (gd rfl) rfl rfl ?_
    have n122 : ((Int32.ofInt (-1))).toInt = pgN ((x0).toInt - 97) := by have hN := pgN_o ((x0).toInt - 97); (first | have a0 := in_u i1 | (have a0 := i1; unfold In at a0)); have oc := ocj_394; omega
    exact g_ireturn (gd rfl) rfl rfl (hP _ _ ⟨(Int32.ofInt (-1)), rfl, rfl, in_w (-1) 8 (in_c (-1) rfl) rfl, n122⟩)
  · skip
    have i1 := sw_eq c1
    refine g_iconst 5 111 (gd rfl) rfl rfl ?_
    have n111 : ((Int32.ofInt 5)).toInt = pgN ((x0).toInt - 97) := by have hN := pgN_o ((x0).toInt - 97); (first | have a0 := in_u i1 | (have a0 := i1; unfold In at a0)); have oc := ocj_394; omega
    exact g_ireturn (gd rfl) rfl rfl (hP _ _ ⟨(Int32.ofInt 5), rfl, rfl, in_w (-1) 8 (in_c 5 rfl) rfl, n111⟩)
  · skip
    have i1 := sw_eq c1
    refine g_bipush 6 114 (gd rfl) rfl rfl ?_
    have n114 : ((Int32.ofInt 6)).toInt = pgN ((x0).toInt - 97) := by have hN := pgN_o ((x0).toInt - 97); (first | have a0 := in_u i1 | (have a0 := i1; unfold In at a0)); have oc := ocj_394; omega
    exact g_ireturn (gd rfl) rfl rfl (hP _ _ ⟨(Int32.ofInt 6), rfl, rfl, in_w (-1) 8 (in_c 6 rfl) rfl, n114⟩)
  · skip
    have i1 := sw_eq c1
    refine g_iconst (-1) 122 (gd rfl) rfl rfl ?_
    have n122 : ((Int32.ofInt (-1))).toInt = pgN ((x0).toInt - 97) := by have hN := pgN_o ((x0).toInt - 97); (first | have a0 := in_u i1 | (have a0 := i1; unfold In at a0)); have oc := ocj_394; omega
    exact g_ireturn (gd rfl) rfl rfl (hP _ _ ⟨(Int32.ofInt (-1)), rfl, rfl, in_w (-1) 8 (in_c (-1) rfl) rfl, n122⟩)
  · skip
    have i1 := sw_eq c1
    refine g_iconst (-1) 122 (gd rfl) rfl rfl ?_
    have n122 : ((Int32.ofInt (-1))).toInt = pgN ((x0).toInt - 97) := by have hN := pgN_o ((x0).toInt - 97); (first | have a0 := in_u i1 | (have a0 := i1; unfold In at a0)); have oc := ocj_394; omega
    exact g_ireturn (gd rfl) rfl rfl (hP _ _ ⟨(Int32.ofInt (-1)), rfl, rfl, in_w (-1) 8 (in_c (-1) rfl) rfl, n122⟩)
  · skip
    have i1 := sw_eq c1
    refine g_iconst (-1) 122 (gd rfl) rfl rfl ?_
    have n122 : ((Int32.ofInt (-1))).toInt = pgN ((x0).toInt - 97) := by have hN := pgN_o ((x0).toInt - 97); (first | have a0 := in_u i1 | (have a0 := i1; unfold In at a0)); have oc := ocj_394; omega
    exact g_ireturn (gd rfl) rfl rfl (hP _ _ ⟨(Int32.ofInt (-1)), rfl, rfl, in_w (-1) 8 (in_c (-1) rfl) rfl, n122⟩)
  · skip
    have i1 := sw_eq c1
    refine g_iconst (-1) 122 (gd rfl) rfl rfl ?_
    have n122 : ((Int32.ofInt (-1))).toInt = pgN ((x0).toInt - 97) := by have hN := pgN_o ((x0).toInt - 97); (first | have a0 := in_u i1 | (have a0 := i1; unfold In at a0)); have oc := ocj_394; omega
    exact g_ireturn (gd rfl) rfl rfl (hP _ _ ⟨(Int32.ofInt (-1)), rfl, rfl, in_w (-1) 8 (in_c (-1) rfl) rfl, n122⟩)
  · skip
    have i1 := sw_eq c1
    refine g_iconst 0 101 (gd rfl) rfl rfl ?_
    have n101 : ((Int32.ofInt 0)).toInt = pgN ((x0).toInt - 97) := by have hN := pgN_o ((x0).toInt - 97); (first | have a0 := in_u i1 | (have a0 := i1; unfold In at a0)); have oc := ocj_394; omega
    exact g_ireturn (gd rfl) rfl rfl (hP _ _ ⟨(Int32.ofInt 0), rfl, rfl, in_w (-1) 8 (in_c 0 rfl) rfl, n101⟩)
  · skip
    refine g_iconst (-1) 122 (gd rfl) rfl rfl ?_
    have n122 : ((Int32.ofInt (-1))).toInt = pgN ((x0).toInt - 97) := by have hN := pgN_o ((x0).toInt - 97); have oc := ocj_394; omega
    exact g_ireturn (gd rfl) rfl rfl (hP _ _ ⟨(Int32.ofInt (-1)), rfl, rfl, in_w (-1) 8 (in_c (-1) rfl) rfl, n122⟩)

theorem ocj_396_109 : (Int32.ofInt (-1)).toInt = (-1) ∧ (Int32.ofInt 0).toInt = 0 ∧ (Int32.ofInt 1).toInt = 1 ∧ (Int32.ofInt 2).toInt = 2 ∧ (Int32.ofInt 40).toInt = 40 := ⟨rfl, rfl, rfl, rfl, rfl⟩
/-- GraphHouseModel.hold -/
theorem j_396 {Z : AmZ} {A : Nat → Nat} {s : GS} {ex : va_W} {d : Nat} {X : AmX} {x1 : Int32} {u_109_111 : Int32} {u_109_112 : Int32} (hd : 1 ≤ d) (hI : Inv s) (e_109_111 : u_109_111 = s.2.2.1 109 111) (e_109_112 : u_109_112 = s.2.2.1 109 112) (p_0 : (u_109_111).toInt ≤ 199) : GC Z d 396 [.ref (A 109), .int x1] (WW Z A s ++ ex) 0 0 (fun v u => ∃ t : GS, Inv t ∧ Fr fm_396 s t ∧ ((t.2.2.1 109 111).toInt = (s.2.2.1 109 111).toInt + 1) ∧ v = none ∧ u = WW Z A t ++ ex ∧ (t.1 190 = upd (s.1 190) (s.2.2.1 109 111).toNatClampNeg x1) ∧ (DPR s → DPR t)) X := by
  intro post xp hP hX
  refine g_enter2 (k := 396) (N := 900) (by first | exact dq1 hd rfl | exact dq0 hd rfl | exact dq2 hd rfl | exact dq3 hd rfl | omega) rfl (Nat.le_of_ble_eq_true rfl) ?_
  refine g_aload_n 1 (gd rfl) rfl rfl ?_
  refine g_getA (q2 := 190) 4 (gd rfl) rfl rfl rfl rfl ?_
  refine g_aload_n 5 (gd rfl) rfl rfl ?_
  refine g_getI 8 (gd rfl) rfl rfl rfl (fun z5 e5 => ?_)
  have q5 : u_109_111 = z5 := (e_109_111).trans e5.symm
  subst q5
  refine g_iload_n 9 (gd rfl) rfl rfl ?_
  have i9 : In u_109_111 0 199 := by (first | have a0 := in_u ((inv_F hI 0 200 rfl e_109_111)) | (have a0 := (inv_F hI 0 200 rfl e_109_111); unfold In at a0)); have oc := ocj_396_109; exact ⟨by omega, by omega⟩
  refine g_iastore 10 (gd rfl) rfl (n := 200) rfl (in_ix i9 rfl) ?_
  have hI9 := inv_sI (q := 190) (j := u_109_111.toNatClampNeg) hI rfl (in_w (-2147483648) 2147483647 (i_rng x1) rfl)
  refine g_aload_n 11 (gd rfl) rfl rfl ?_
  refine g_dup 12 (gd rfl) rfl rfl ?_
  refine g_getI 15 (gd rfl) rfl rfl rfl (fun z12 e12 => ?_)
  have q12 : u_109_111 = z12 := (sI_F (e_109_111)).trans e12.symm
  subst q12
  refine g_iconst 1 16 (gd rfl) rfl rfl ?_
  refine g_iadd 17 (gd rfl) rfl (fun z16 e16 => ?_)
  have i16 := in_add 1 200 e16 i9 (in_c 1 rfl) rfl rfl
  refine g_putI 20 (gd rfl) rfl rfl rfl rfl ?_
  have hI17 := inv_sF (q := 109) (j := 111) hI9 rfl (in_w 0 200 i16 rfl)
  refine g_aload_n 21 (gd rfl) rfl rfl ?_
  refine g_dup 22 (gd rfl) rfl rfl ?_
  refine g_getI 25 (gd rfl) rfl rfl rfl (fun z22 e22 => ?_)
  have q22 : u_109_112 = z22 := (sF_ne rfl (sI_F (e_109_112))).trans e22.symm
  subst q22
  refine g_iload_n 26 (gd rfl) rfl rfl ?_
  refine g_iconst 2 27 (gd rfl) rfl rfl ?_
  refine g_cmp_eq 30 36 (gd rfl) rfl rfl (fun c27 => ?_) (fun c27 => ?_)
  · skip
    have i27 := r_eq1 2 2 c27 (i_rng x1) (in_c 2 rfl) rfl
    refine g_iconst 1 37 (gd rfl) rfl rfl ?_
    refine g_goto 41 (gd rfl) rfl ?_
    refine g_iadd 42 (gd rfl) rfl (fun z41 e41 => ?_)
    refine g_putI 45 (gd rfl) rfl rfl rfl rfl ?_
    have hI42 := inv_sF (q := 109) (j := 112) hI17 rfl (in_w (-2147483648) 2147483647 (i_rng z41) rfl)
    have n45 : (sF (sF (sI s 190 u_109_111.toNatClampNeg x1) 109 111 z16) 109 112 z41).1 190 = upd (s.1 190) (s.2.2.1 109 111).toNatClampNeg x1 := by rw [← e_109_111]; simp [sI, sF]
    have n45a : DPR s → DPR (sF (sF (sI s 190 u_109_111.toNatClampNeg x1) 109 111 z16) 109 112 z41) := by intro hd; first | exact dpr_1 hd (inv_F hI 0 200 (q := 109) (j := 111) rfl rfl) (rwl_h n45 (by rw [← (show z16 = (sF (sF (sI s 190 u_109_111.toNatClampNeg x1) 109 111 z16) 109 112 z41).2.2.1 109 111 from sF_ne rfl (sF_get)), ← e_109_111]; (first | have a0 := oa3 i27 i9 i16 | ((first | have a0 := in_u i27 | (have a0 := i27; unfold In at a0)); (first | have a1 := in_u i9 | (have a1 := i9; unfold In at a1)); (first | have a2 := in_u i16 | (have a2 := i16; unfold In at a2)))); have a3 := t_add e16 i9 (in_c 1 rfl) rfl; (first | have a4 := in_u ((in_c 1 rfl)) | (have a4 := (in_c 1 rfl); unfold In at a4)); have oc := ocj_396_109; omega) (inv_F hI 0 200 (q := 109) (j := 111) rfl rfl).1) (by (first | have a0 := oa3 i27 i9 i16 | ((first | have a0 := in_u i27 | (have a0 := i27; unfold In at a0)); (first | have a1 := in_u i9 | (have a1 := i9; unfold In at a1)); (first | have a2 := in_u i16 | (have a2 := i16; unfold In at a2)))); have a3 := t_add e16 i9 (in_c 1 rfl) rfl; (first | have a4 := in_u ((in_c 1 rfl)) | (have a4 := (in_c 1 rfl); unfold In at a4)); have oc := ocj_396_109; omega) e41 e_109_112 (show z41 = (sF (sF (sI s 190 u_109_111.toNatClampNeg x1) 109 111 z16) 109 112 z41).2.2.1 109 112 from sF_get) | exact dpr_0 hd (inv_F hI 0 200 (q := 109) (j := 111) rfl rfl) (rwl_h n45 (by rw [← (show z16 = (sF (sF (sI s 190 u_109_111.toNatClampNeg x1) 109 111 z16) 109 112 z41).2.2.1 109 111 from sF_ne rfl (sF_get)), ← e_109_111]; (first | have a0 := oa3 i27 i9 i16 | ((first | have a0 := in_u i27 | (have a0 := i27; unfold In at a0)); (first | have a1 := in_u i9 | (have a1 := i9; unfold In at a1)); (first | have a2 := in_u i16 | (have a2 := i16; unfold In at a2)))); have a3 := t_add e16 i9 (in_c 1 rfl) rfl; (first | have a4 := in_u ((in_c 1 rfl)) | (have a4 := (in_c 1 rfl); unfold In at a4)); have oc := ocj_396_109; omega) (inv_F hI 0 200 (q := 109) (j := 111) rfl rfl).1) (by (first | have a0 := oa3 i27 i9 i16 | ((first | have a0 := in_u i27 | (have a0 := i27; unfold In at a0)); (first | have a1 := in_u i9 | (have a1 := i9; unfold In at a1)); (first | have a2 := in_u i16 | (have a2 := i16; unfold In at a2)))); have a3 := t_add e16 i9 (in_c 1 rfl) rfl; (first | have a4 := in_u ((in_c 1 rfl)) | (have a4 := (in_c 1 rfl); unfold In at a4)); have oc := ocj_396_109; omega) e41 e_109_112 (show z41 = (sF (sF (sI s 190 u_109_111.toNatClampNeg x1) 109 111 z16) 109 112 z41).2.2.1 109 112 from sF_get)
    have n45b : (z16).toInt = (u_109_111).toInt + 1 := by (first | have a0 := oa3 i27 i9 i16 | ((first | have a0 := in_u i27 | (have a0 := i27; unfold In at a0)); (first | have a1 := in_u i9 | (have a1 := i9; unfold In at a1)); (first | have a2 := in_u i16 | (have a2 := i16; unfold In at a2)))); have a3 := t_add e16 i9 (in_c 1 rfl) rfl; (first | have a4 := in_u ((in_c 1 rfl)) | (have a4 := (in_c 1 rfl); unfold In at a4)); have oc := ocj_396_109; omega
    have n45c : ((sF (sF (sI s 190 u_109_111.toNatClampNeg x1) 109 111 z16) 109 112 z41).2.2.1 109 111).toInt = (s.2.2.1 109 111).toInt + 1 := by have b0 : z16 = (sF (sF (sI s 190 u_109_111.toNatClampNeg x1) 109 111 z16) 109 112 z41).2.2.1 109 111 := sF_ne rfl (sF_get); first | (rw [← b0, ← e_109_111]; exact n45b) | (rw [← b0]; exact n45b)
    exact g_return (gd rfl) rfl (hP _ _ ⟨(sF (sF (sI s 190 u_109_111.toNatClampNeg x1) 109 111 z16) 109 112 z41), hI42, (fr_sF rfl (fr_sF rfl (fr_sI rfl fr_rf))), n45c, rfl, rfl, n45, n45a⟩)
  · skip
    refine g_iload_n 31 (gd rfl) rfl rfl ?_
    refine g_bipush 40 33 (gd rfl) rfl rfl ?_
    refine g_cmp_ne 36 40 (gd rfl) rfl rfl (fun c33 => ?_) (fun c33 => ?_)
    · skip
      refine g_iconst 0 41 (gd rfl) rfl rfl ?_
      refine g_iadd 42 (gd rfl) rfl (fun z41 e41 => ?_)
      have i41 := in_add (-2147483648) 2147483647 e41 (inv_F hI (-2147483648) 2147483647 rfl e_109_112) (in_c 0 rfl) rfl rfl
      refine g_putI 45 (gd rfl) rfl rfl rfl rfl ?_
      have hI42 := inv_sF (q := 109) (j := 112) hI17 rfl (in_w (-2147483648) 2147483647 i41 rfl)
      have n45 : (sF (sF (sI s 190 u_109_111.toNatClampNeg x1) 109 111 z16) 109 112 z41).1 190 = upd (s.1 190) (s.2.2.1 109 111).toNatClampNeg x1 := by rw [← e_109_111]; simp [sI, sF]
      have n45a : DPR s → DPR (sF (sF (sI s 190 u_109_111.toNatClampNeg x1) 109 111 z16) 109 112 z41) := by intro hd; first | exact dpr_1 hd (inv_F hI 0 200 (q := 109) (j := 111) rfl rfl) (rwl_h n45 (by rw [← (show z16 = (sF (sF (sI s 190 u_109_111.toNatClampNeg x1) 109 111 z16) 109 112 z41).2.2.1 109 111 from sF_ne rfl (sF_get)), ← e_109_111]; (first | have a0 := in_u i9 | (have a0 := i9; unfold In at a0)); have a1 := t_add e41 (inv_F hI (-2147483648) 2147483647 rfl e_109_112) (in_c 0 rfl) rfl; (first | have a2 := oa2 ((in_c 0 rfl)) i16 | ((first | have a2 := in_u ((in_c 0 rfl)) | (have a2 := (in_c 0 rfl); unfold In at a2)); (first | have a3 := in_u i16 | (have a3 := i16; unfold In at a3)))); have a4 := t_add e16 i9 (in_c 1 rfl) rfl; (first | have a5 := in_u ((in_c 1 rfl)) | (have a5 := (in_c 1 rfl); unfold In at a5)); have oc := ocj_396_109; omega) (inv_F hI 0 200 (q := 109) (j := 111) rfl rfl).1) (by (first | have a0 := in_u i9 | (have a0 := i9; unfold In at a0)); have a1 := t_add e41 (inv_F hI (-2147483648) 2147483647 rfl e_109_112) (in_c 0 rfl) rfl; (first | have a2 := oa2 ((in_c 0 rfl)) i16 | ((first | have a2 := in_u ((in_c 0 rfl)) | (have a2 := (in_c 0 rfl); unfold In at a2)); (first | have a3 := in_u i16 | (have a3 := i16; unfold In at a3)))); have a4 := t_add e16 i9 (in_c 1 rfl) rfl; (first | have a5 := in_u ((in_c 1 rfl)) | (have a5 := (in_c 1 rfl); unfold In at a5)); have oc := ocj_396_109; omega) e41 e_109_112 (show z41 = (sF (sF (sI s 190 u_109_111.toNatClampNeg x1) 109 111 z16) 109 112 z41).2.2.1 109 112 from sF_get) | exact dpr_0 hd (inv_F hI 0 200 (q := 109) (j := 111) rfl rfl) (rwl_h n45 (by rw [← (show z16 = (sF (sF (sI s 190 u_109_111.toNatClampNeg x1) 109 111 z16) 109 112 z41).2.2.1 109 111 from sF_ne rfl (sF_get)), ← e_109_111]; (first | have a0 := in_u i9 | (have a0 := i9; unfold In at a0)); have a1 := t_add e41 (inv_F hI (-2147483648) 2147483647 rfl e_109_112) (in_c 0 rfl) rfl; (first | have a2 := oa2 ((in_c 0 rfl)) i16 | ((first | have a2 := in_u ((in_c 0 rfl)) | (have a2 := (in_c 0 rfl); unfold In at a2)); (first | have a3 := in_u i16 | (have a3 := i16; unfold In at a3)))); have a4 := t_add e16 i9 (in_c 1 rfl) rfl; (first | have a5 := in_u ((in_c 1 rfl)) | (have a5 := (in_c 1 rfl); unfold In at a5)); have oc := ocj_396_109; omega) (inv_F hI 0 200 (q := 109) (j := 111) rfl rfl).1) (by (first | have a0 := in_u i9 | (have a0 := i9; unfold In at a0)); have a1 := t_add e41 (inv_F hI (-2147483648) 2147483647 rfl e_109_112) (in_c 0 rfl) rfl; (first | have a2 := oa2 ((in_c 0 rfl)) i16 | ((first | have a2 := in_u ((in_c 0 rfl)) | (have a2 := (in_c 0 rfl); unfold In at a2)); (first | have a3 := in_u i16 | (have a3 := i16; unfold In at a3)))); have a4 := t_add e16 i9 (in_c 1 rfl) rfl; (first | have a5 := in_u ((in_c 1 rfl)) | (have a5 := (in_c 1 rfl); unfold In at a5)); have oc := ocj_396_109; omega) e41 e_109_112 (show z41 = (sF (sF (sI s 190 u_109_111.toNatClampNeg x1) 109 111 z16) 109 112 z41).2.2.1 109 112 from sF_get)
      have n45b : (z16).toInt = (u_109_111).toInt + 1 := by (first | have a0 := in_u i9 | (have a0 := i9; unfold In at a0)); have a1 := t_add e41 (inv_F hI (-2147483648) 2147483647 rfl e_109_112) (in_c 0 rfl) rfl; (first | have a2 := oa2 ((in_c 0 rfl)) i16 | ((first | have a2 := in_u ((in_c 0 rfl)) | (have a2 := (in_c 0 rfl); unfold In at a2)); (first | have a3 := in_u i16 | (have a3 := i16; unfold In at a3)))); have a4 := t_add e16 i9 (in_c 1 rfl) rfl; (first | have a5 := in_u ((in_c 1 rfl)) | (have a5 := (in_c 1 rfl); unfold In at a5)); have oc := ocj_396_109; omega
      have n45c : ((sF (sF (sI s 190 u_109_111.toNatClampNeg x1) 109 111 z16) 109 112 z41).2.2.1 109 111).toInt = (s.2.2.1 109 111).toInt + 1 := by have b0 : z16 = (sF (sF (sI s 190 u_109_111.toNatClampNeg x1) 109 111 z16) 109 112 z41).2.2.1 109 111 := sF_ne rfl (sF_get); first | (rw [← b0, ← e_109_111]; exact n45b) | (rw [← b0]; exact n45b)
      exact g_return (gd rfl) rfl (hP _ _ ⟨(sF (sF (sI s 190 u_109_111.toNatClampNeg x1) 109 111 z16) 109 112 z41), hI42, (fr_sF rfl (fr_sF rfl (fr_sI rfl fr_rf))), n45c, rfl, rfl, n45, n45a⟩)
    · skip
      have i33 := r_eq1 40 40 c33 (i_rng x1) (in_c 40 rfl) rfl
      refine g_iconst 1 37 (gd rfl) rfl rfl ?_
      refine g_goto 41 (gd rfl) rfl ?_
      refine g_iadd 42 (gd rfl) rfl (fun z41 e41 => ?_)
      refine g_putI 45 (gd rfl) rfl rfl rfl rfl ?_
      have hI42 := inv_sF (q := 109) (j := 112) hI17 rfl (in_w (-2147483648) 2147483647 (i_rng z41) rfl)
      have n45 : (sF (sF (sI s 190 u_109_111.toNatClampNeg x1) 109 111 z16) 109 112 z41).1 190 = upd (s.1 190) (s.2.2.1 109 111).toNatClampNeg x1 := by rw [← e_109_111]; simp [sI, sF]
      have n45a : DPR s → DPR (sF (sF (sI s 190 u_109_111.toNatClampNeg x1) 109 111 z16) 109 112 z41) := by intro hd; first | exact dpr_1 hd (inv_F hI 0 200 (q := 109) (j := 111) rfl rfl) (rwl_h n45 (by rw [← (show z16 = (sF (sF (sI s 190 u_109_111.toNatClampNeg x1) 109 111 z16) 109 112 z41).2.2.1 109 111 from sF_ne rfl (sF_get)), ← e_109_111]; (first | have a0 := oa3 i33 i9 i16 | ((first | have a0 := in_u i33 | (have a0 := i33; unfold In at a0)); (first | have a1 := in_u i9 | (have a1 := i9; unfold In at a1)); (first | have a2 := in_u i16 | (have a2 := i16; unfold In at a2)))); have a3 := t_add e16 i9 (in_c 1 rfl) rfl; (first | have a4 := in_u ((in_c 1 rfl)) | (have a4 := (in_c 1 rfl); unfold In at a4)); have oc := ocj_396_109; omega) (inv_F hI 0 200 (q := 109) (j := 111) rfl rfl).1) (by (first | have a0 := oa3 i33 i9 i16 | ((first | have a0 := in_u i33 | (have a0 := i33; unfold In at a0)); (first | have a1 := in_u i9 | (have a1 := i9; unfold In at a1)); (first | have a2 := in_u i16 | (have a2 := i16; unfold In at a2)))); have a3 := t_add e16 i9 (in_c 1 rfl) rfl; (first | have a4 := in_u ((in_c 1 rfl)) | (have a4 := (in_c 1 rfl); unfold In at a4)); have oc := ocj_396_109; omega) e41 e_109_112 (show z41 = (sF (sF (sI s 190 u_109_111.toNatClampNeg x1) 109 111 z16) 109 112 z41).2.2.1 109 112 from sF_get) | exact dpr_0 hd (inv_F hI 0 200 (q := 109) (j := 111) rfl rfl) (rwl_h n45 (by rw [← (show z16 = (sF (sF (sI s 190 u_109_111.toNatClampNeg x1) 109 111 z16) 109 112 z41).2.2.1 109 111 from sF_ne rfl (sF_get)), ← e_109_111]; (first | have a0 := oa3 i33 i9 i16 | ((first | have a0 := in_u i33 | (have a0 := i33; unfold In at a0)); (first | have a1 := in_u i9 | (have a1 := i9; unfold In at a1)); (first | have a2 := in_u i16 | (have a2 := i16; unfold In at a2)))); have a3 := t_add e16 i9 (in_c 1 rfl) rfl; (first | have a4 := in_u ((in_c 1 rfl)) | (have a4 := (in_c 1 rfl); unfold In at a4)); have oc := ocj_396_109; omega) (inv_F hI 0 200 (q := 109) (j := 111) rfl rfl).1) (by (first | have a0 := oa3 i33 i9 i16 | ((first | have a0 := in_u i33 | (have a0 := i33; unfold In at a0)); (first | have a1 := in_u i9 | (have a1 := i9; unfold In at a1)); (first | have a2 := in_u i16 | (have a2 := i16; unfold In at a2)))); have a3 := t_add e16 i9 (in_c 1 rfl) rfl; (first | have a4 := in_u ((in_c 1 rfl)) | (have a4 := (in_c 1 rfl); unfold In at a4)); have oc := ocj_396_109; omega) e41 e_109_112 (show z41 = (sF (sF (sI s 190 u_109_111.toNatClampNeg x1) 109 111 z16) 109 112 z41).2.2.1 109 112 from sF_get)
      have n45b : (z16).toInt = (u_109_111).toInt + 1 := by (first | have a0 := oa3 i33 i9 i16 | ((first | have a0 := in_u i33 | (have a0 := i33; unfold In at a0)); (first | have a1 := in_u i9 | (have a1 := i9; unfold In at a1)); (first | have a2 := in_u i16 | (have a2 := i16; unfold In at a2)))); have a3 := t_add e16 i9 (in_c 1 rfl) rfl; (first | have a4 := in_u ((in_c 1 rfl)) | (have a4 := (in_c 1 rfl); unfold In at a4)); have oc := ocj_396_109; omega
      have n45c : ((sF (sF (sI s 190 u_109_111.toNatClampNeg x1) 109 111 z16) 109 112 z41).2.2.1 109 111).toInt = (s.2.2.1 109 111).toInt + 1 := by have b0 : z16 = (sF (sF (sI s 190 u_109_111.toNatClampNeg x1) 109 111 z16) 109 112 z41).2.2.1 109 111 := sF_ne rfl (sF_get); first | (rw [← b0, ← e_109_111]; exact n45b) | (rw [← b0]; exact n45b)
      exact g_return (gd rfl) rfl (hP _ _ ⟨(sF (sF (sI s 190 u_109_111.toNatClampNeg x1) 109 111 z16) 109 112 z41), hI42, (fr_sF rfl (fr_sF rfl (fr_sI rfl fr_rf))), n45c, rfl, rfl, n45, n45a⟩)

theorem ocj_397_109 : (Int32.ofInt (-1)).toInt = (-1) ∧ (Int32.ofInt 0).toInt = 0 ∧ (Int32.ofInt 1).toInt = 1 ∧ (Int32.ofInt 2).toInt = 2 ∧ (Int32.ofInt 40).toInt = 40 := ⟨rfl, rfl, rfl, rfl, rfl⟩
/-- GraphHouseModel.drop -/
theorem j_397 {Z : AmZ} {A : Nat → Nat} {s : GS} {ex : va_W} {d : Nat} {X : AmX} {u_109_111 : Int32} {u_109_112 : Int32} (hd : 1 ≤ d) (hI : Inv s) (e_109_111 : u_109_111 = s.2.2.1 109 111) (e_109_112 : u_109_112 = s.2.2.1 109 112) (p_0 : 1 ≤ (u_109_111).toInt) : GC Z d 397 [.ref (A 109)] (WW Z A s ++ ex) 0 0 (fun v u => ∃ t : GS, Inv t ∧ Fr fm_397 s t ∧ ((t.2.2.1 109 111).toInt = (s.2.2.1 109 111).toInt - 1) ∧ v = none ∧ u = WW Z A t ++ ex ∧ (RWL s = (s.1 190 ((t).2.2.1 109 111).toNatClampNeg).toInt :: RWL t) ∧ (DPR s → DPR t)) X := by
  intro post xp hP hX
  refine g_enter2 (k := 397) (N := 900) (by first | exact dq1 hd rfl | exact dq0 hd rfl | exact dq2 hd rfl | exact dq3 hd rfl | omega) rfl (Nat.le_of_ble_eq_true rfl) ?_
  refine g_aload_n 1 (gd rfl) rfl rfl ?_
  refine g_dup 2 (gd rfl) rfl rfl ?_
  refine g_getI 5 (gd rfl) rfl rfl rfl (fun z2 e2 => ?_)
  have q2 : u_109_111 = z2 := (e_109_111).trans e2.symm
  subst q2
  refine g_iconst 1 6 (gd rfl) rfl rfl ?_
  refine g_isub 7 (gd rfl) rfl (fun z6 e6 => ?_)
  have i6 := in_sub (-1) 199 e6 (inv_F hI 0 200 rfl e_109_111) (in_c 1 rfl) rfl rfl
  have i7 : In z6 0 200 := by (first | have a0 := oa2 ((inv_F hI 0 200 rfl e_109_111)) i6 | ((first | have a0 := in_u ((inv_F hI 0 200 rfl e_109_111)) | (have a0 := (inv_F hI 0 200 rfl e_109_111); unfold In at a0)); (first | have a1 := in_u i6 | (have a1 := i6; unfold In at a1)))); have a2 := t_sub e6 (inv_F hI 0 200 rfl e_109_111) (in_c 1 rfl) rfl; (first | have a3 := in_u ((in_c 1 rfl)) | (have a3 := (in_c 1 rfl); unfold In at a3)); have oc := ocj_397_109; exact ⟨by omega, by omega⟩
  refine g_putI 10 (gd rfl) rfl rfl rfl rfl ?_
  have hI7 := inv_sF (q := 109) (j := 111) hI rfl (in_w 0 200 i7 rfl)
  refine g_aload_n 11 (gd rfl) rfl rfl ?_
  refine g_dup 12 (gd rfl) rfl rfl ?_
  refine g_getI 15 (gd rfl) rfl rfl rfl (fun z12 e12 => ?_)
  have q12 : u_109_112 = z12 := (sF_ne rfl (e_109_112)).trans e12.symm
  subst q12
  refine g_aload_n 16 (gd rfl) rfl rfl ?_
  refine g_getA (q2 := 190) 19 (gd rfl) rfl rfl rfl rfl ?_
  refine g_aload_n 20 (gd rfl) rfl rfl ?_
  refine g_getI 23 (gd rfl) rfl rfl rfl (fun z20 e20 => ?_)
  have q20 : z6 = z20 := (sF_get).trans e20.symm
  subst q20
  have i23 : In z6 0 199 := by (first | have a0 := oa2 ((inv_F hI 0 200 rfl e_109_111)) i7 | ((first | have a0 := in_u ((inv_F hI 0 200 rfl e_109_111)) | (have a0 := (inv_F hI 0 200 rfl e_109_111); unfold In at a0)); (first | have a1 := in_u i7 | (have a1 := i7; unfold In at a1)))); have a2 := t_sub e6 (inv_F hI 0 200 rfl e_109_111) (in_c 1 rfl) rfl; (first | have a3 := in_u ((in_c 1 rfl)) | (have a3 := (in_c 1 rfl); unfold In at a3)); have oc := ocj_397_109; exact ⟨by omega, by omega⟩
  refine g_iaload 24 (gd rfl) rfl (n := 200) rfl (in_ix i23 rfl) (fun z23 e23 => ?_)
  refine g_iconst 2 25 (gd rfl) rfl rfl ?_
  refine g_cmp_eq 28 42 (gd rfl) rfl rfl (fun c25 => ?_) (fun c25 => ?_)
  · skip
    have i25 := r_eq1 2 2 c25 (i_rng z23) (in_c 2 rfl) rfl
    refine g_iconst 1 43 (gd rfl) rfl rfl ?_
    refine g_goto 47 (gd rfl) rfl ?_
    refine g_isub 48 (gd rfl) rfl (fun z47 e47 => ?_)
    refine g_putI 51 (gd rfl) rfl rfl rfl rfl ?_
    have hI48 := inv_sF (q := 109) (j := 112) hI7 rfl (in_w (-2147483648) 2147483647 (i_rng z47) rfl)
    have n51 : RWL s = (s.1 190 (((sF (sF s 109 111 z6) 109 112 z47)).2.2.1 109 111).toNatClampNeg).toInt :: RWL (sF (sF s 109 111 z6) 109 112 z47) := by exact rwl_d rfl (by rw [← (show z6 = (sF (sF s 109 111 z6) 109 112 z47).2.2.1 109 111 from sF_ne rfl (sF_get)), ← e_109_111]; (first | have a0 := oa2 ((inv_F hI 0 200 rfl e_109_111)) i23 | ((first | have a0 := in_u ((inv_F hI 0 200 rfl e_109_111)) | (have a0 := (inv_F hI 0 200 rfl e_109_111); unfold In at a0)); (first | have a1 := in_u i23 | (have a1 := i23; unfold In at a1)))); have a2 := t_sub e6 (inv_F hI 0 200 rfl e_109_111) (in_c 1 rfl) rfl; (first | have a3 := in_u ((in_c 1 rfl)) | (have a3 := (in_c 1 rfl); unfold In at a3)); have oc := ocj_397_109; omega) (by rw [← e_109_111]; (first | have a0 := oa2 ((inv_F hI 0 200 rfl e_109_111)) i23 | ((first | have a0 := in_u ((inv_F hI 0 200 rfl e_109_111)) | (have a0 := (inv_F hI 0 200 rfl e_109_111); unfold In at a0)); (first | have a1 := in_u i23 | (have a1 := i23; unfold In at a1)))); have a2 := t_sub e6 (inv_F hI 0 200 rfl e_109_111) (in_c 1 rfl) rfl; (first | have a3 := in_u ((in_c 1 rfl)) | (have a3 := (in_c 1 rfl); unfold In at a3)); have oc := ocj_397_109; omega)
    have n51a : DPR s → DPR (sF (sF s 109 111 z6) 109 112 z47) := by intro hd; have hr := n51; rw [(show (s.1 190 (((sF (sF s 109 111 z6) 109 112 z47)).2.2.1 109 111).toNatClampNeg).toInt = (z23).toInt from (by rw [← (show z6 = (sF (sF s 109 111 z6) 109 112 z47).2.2.1 109 111 from sF_ne rfl (sF_get))]; exact congrArg Int32.toInt e23.symm))] at hr; first | exact dpq_1 hd (inv_F hI 0 200 (q := 109) (j := 111) rfl rfl) hr (by (first | have a0 := oa2 ((inv_F hI 0 200 rfl e_109_111)) i23 | ((first | have a0 := in_u ((inv_F hI 0 200 rfl e_109_111)) | (have a0 := (inv_F hI 0 200 rfl e_109_111); unfold In at a0)); (first | have a1 := in_u i23 | (have a1 := i23; unfold In at a1)))); have a2 := t_sub e6 (inv_F hI 0 200 rfl e_109_111) (in_c 1 rfl) rfl; (first | have a3 := in_u ((in_c 1 rfl)) | (have a3 := (in_c 1 rfl); unfold In at a3)); have oc := ocj_397_109; omega) e47 e_109_112 (show z47 = (sF (sF s 109 111 z6) 109 112 z47).2.2.1 109 112 from sF_get) | exact dpq_0 hd (inv_F hI 0 200 (q := 109) (j := 111) rfl rfl) hr (by (first | have a0 := oa2 ((inv_F hI 0 200 rfl e_109_111)) i23 | ((first | have a0 := in_u ((inv_F hI 0 200 rfl e_109_111)) | (have a0 := (inv_F hI 0 200 rfl e_109_111); unfold In at a0)); (first | have a1 := in_u i23 | (have a1 := i23; unfold In at a1)))); have a2 := t_sub e6 (inv_F hI 0 200 rfl e_109_111) (in_c 1 rfl) rfl; (first | have a3 := in_u ((in_c 1 rfl)) | (have a3 := (in_c 1 rfl); unfold In at a3)); have oc := ocj_397_109; omega) e47 e_109_112 (show z47 = (sF (sF s 109 111 z6) 109 112 z47).2.2.1 109 112 from sF_get)
    have n51b : (z6).toInt = (u_109_111).toInt - 1 := by (first | have a0 := oa2 ((inv_F hI 0 200 rfl e_109_111)) i23 | ((first | have a0 := in_u ((inv_F hI 0 200 rfl e_109_111)) | (have a0 := (inv_F hI 0 200 rfl e_109_111); unfold In at a0)); (first | have a1 := in_u i23 | (have a1 := i23; unfold In at a1)))); have a2 := t_sub e6 (inv_F hI 0 200 rfl e_109_111) (in_c 1 rfl) rfl; (first | have a3 := in_u ((in_c 1 rfl)) | (have a3 := (in_c 1 rfl); unfold In at a3)); have oc := ocj_397_109; omega
    have n51c : ((sF (sF s 109 111 z6) 109 112 z47).2.2.1 109 111).toInt = (s.2.2.1 109 111).toInt - 1 := by have b0 : z6 = (sF (sF s 109 111 z6) 109 112 z47).2.2.1 109 111 := sF_ne rfl (sF_get); first | (rw [← b0, ← e_109_111]; exact n51b) | (rw [← b0]; exact n51b)
    exact g_return (gd rfl) rfl (hP _ _ ⟨(sF (sF s 109 111 z6) 109 112 z47), hI48, (fr_sF rfl (fr_sF rfl fr_rf)), n51c, rfl, rfl, n51, n51a⟩)
  · skip
    refine g_aload_n 29 (gd rfl) rfl rfl ?_
    refine g_getA (q2 := 190) 32 (gd rfl) rfl rfl rfl rfl ?_
    refine g_aload_n 33 (gd rfl) rfl rfl ?_
    refine g_getI 36 (gd rfl) rfl rfl rfl (fun z33 e33 => ?_)
    have q33 : z6 = z33 := (sF_get).trans e33.symm
    subst q33
    refine g_iaload 37 (gd rfl) rfl (n := 200) rfl (in_ix i23 rfl) (fun z36 e36 => ?_)
    have q36 : z23 = z36 := (e23).trans e36.symm
    subst q36
    refine g_bipush 40 39 (gd rfl) rfl rfl ?_
    refine g_cmp_ne 42 46 (gd rfl) rfl rfl (fun c39 => ?_) (fun c39 => ?_)
    · skip
      refine g_iconst 0 47 (gd rfl) rfl rfl ?_
      refine g_isub 48 (gd rfl) rfl (fun z47 e47 => ?_)
      have i47 := in_sub (-2147483648) 2147483647 e47 (inv_F hI (-2147483648) 2147483647 rfl e_109_112) (in_c 0 rfl) rfl rfl
      refine g_putI 51 (gd rfl) rfl rfl rfl rfl ?_
      have hI48 := inv_sF (q := 109) (j := 112) hI7 rfl (in_w (-2147483648) 2147483647 i47 rfl)
      have n51 : RWL s = (s.1 190 (((sF (sF s 109 111 z6) 109 112 z47)).2.2.1 109 111).toNatClampNeg).toInt :: RWL (sF (sF s 109 111 z6) 109 112 z47) := by exact rwl_d rfl (by rw [← (show z6 = (sF (sF s 109 111 z6) 109 112 z47).2.2.1 109 111 from sF_ne rfl (sF_get)), ← e_109_111]; (first | have a0 := in_u ((inv_F hI 0 200 rfl e_109_111)) | (have a0 := (inv_F hI 0 200 rfl e_109_111); unfold In at a0)); have a1 := t_sub e47 (inv_F hI (-2147483648) 2147483647 rfl e_109_112) (in_c 0 rfl) rfl; (first | have a2 := oa2 ((in_c 0 rfl)) i23 | ((first | have a2 := in_u ((in_c 0 rfl)) | (have a2 := (in_c 0 rfl); unfold In at a2)); (first | have a3 := in_u i23 | (have a3 := i23; unfold In at a3)))); have a4 := t_sub e6 (inv_F hI 0 200 rfl e_109_111) (in_c 1 rfl) rfl; (first | have a5 := in_u ((in_c 1 rfl)) | (have a5 := (in_c 1 rfl); unfold In at a5)); have oc := ocj_397_109; omega) (by rw [← e_109_111]; (first | have a0 := in_u ((inv_F hI 0 200 rfl e_109_111)) | (have a0 := (inv_F hI 0 200 rfl e_109_111); unfold In at a0)); have a1 := t_sub e47 (inv_F hI (-2147483648) 2147483647 rfl e_109_112) (in_c 0 rfl) rfl; (first | have a2 := oa2 ((in_c 0 rfl)) i23 | ((first | have a2 := in_u ((in_c 0 rfl)) | (have a2 := (in_c 0 rfl); unfold In at a2)); (first | have a3 := in_u i23 | (have a3 := i23; unfold In at a3)))); have a4 := t_sub e6 (inv_F hI 0 200 rfl e_109_111) (in_c 1 rfl) rfl; (first | have a5 := in_u ((in_c 1 rfl)) | (have a5 := (in_c 1 rfl); unfold In at a5)); have oc := ocj_397_109; omega)
      have n51a : DPR s → DPR (sF (sF s 109 111 z6) 109 112 z47) := by intro hd; have hr := n51; rw [(show (s.1 190 (((sF (sF s 109 111 z6) 109 112 z47)).2.2.1 109 111).toNatClampNeg).toInt = (z23).toInt from (by rw [← (show z6 = (sF (sF s 109 111 z6) 109 112 z47).2.2.1 109 111 from sF_ne rfl (sF_get))]; exact congrArg Int32.toInt e23.symm))] at hr; first | exact dpq_1 hd (inv_F hI 0 200 (q := 109) (j := 111) rfl rfl) hr (by (first | have a0 := in_u ((inv_F hI 0 200 rfl e_109_111)) | (have a0 := (inv_F hI 0 200 rfl e_109_111); unfold In at a0)); have a1 := t_sub e47 (inv_F hI (-2147483648) 2147483647 rfl e_109_112) (in_c 0 rfl) rfl; (first | have a2 := oa2 ((in_c 0 rfl)) i23 | ((first | have a2 := in_u ((in_c 0 rfl)) | (have a2 := (in_c 0 rfl); unfold In at a2)); (first | have a3 := in_u i23 | (have a3 := i23; unfold In at a3)))); have a4 := t_sub e6 (inv_F hI 0 200 rfl e_109_111) (in_c 1 rfl) rfl; (first | have a5 := in_u ((in_c 1 rfl)) | (have a5 := (in_c 1 rfl); unfold In at a5)); have oc := ocj_397_109; omega) e47 e_109_112 (show z47 = (sF (sF s 109 111 z6) 109 112 z47).2.2.1 109 112 from sF_get) | exact dpq_0 hd (inv_F hI 0 200 (q := 109) (j := 111) rfl rfl) hr (by (first | have a0 := in_u ((inv_F hI 0 200 rfl e_109_111)) | (have a0 := (inv_F hI 0 200 rfl e_109_111); unfold In at a0)); have a1 := t_sub e47 (inv_F hI (-2147483648) 2147483647 rfl e_109_112) (in_c 0 rfl) rfl; (first | have a2 := oa2 ((in_c 0 rfl)) i23 | ((first | have a2 := in_u ((in_c 0 rfl)) | (have a2 := (in_c 0 rfl); unfold In at a2)); (first | have a3 := in_u i23 | (have a3 := i23; unfold In at a3)))); have a4 := t_sub e6 (inv_F hI 0 200 rfl e_109_111) (in_c 1 rfl) rfl; (first | have a5 := in_u ((in_c 1 rfl)) | (have a5 := (in_c 1 rfl); unfold In at a5)); have oc := ocj_397_109; omega) e47 e_109_112 (show z47 = (sF (sF s 109 111 z6) 109 112 z47).2.2.1 109 112 from sF_get)
      have n51b : (z6).toInt = (u_109_111).toInt - 1 := by (first | have a0 := in_u ((inv_F hI 0 200 rfl e_109_111)) | (have a0 := (inv_F hI 0 200 rfl e_109_111); unfold In at a0)); have a1 := t_sub e47 (inv_F hI (-2147483648) 2147483647 rfl e_109_112) (in_c 0 rfl) rfl; (first | have a2 := oa2 ((in_c 0 rfl)) i23 | ((first | have a2 := in_u ((in_c 0 rfl)) | (have a2 := (in_c 0 rfl); unfold In at a2)); (first | have a3 := in_u i23 | (have a3 := i23; unfold In at a3)))); have a4 := t_sub e6 (inv_F hI 0 200 rfl e_109_111) (in_c 1 rfl) rfl; (first | have a5 := in_u ((in_c 1 rfl)) | (have a5 := (in_c 1 rfl); unfold In at a5)); have oc := ocj_397_109; omega
      have n51c : ((sF (sF s 109 111 z6) 109 112 z47).2.2.1 109 111).toInt = (s.2.2.1 109 111).toInt - 1 := by have b0 : z6 = (sF (sF s 109 111 z6) 109 112 z47).2.2.1 109 111 := sF_ne rfl (sF_get); first | (rw [← b0, ← e_109_111]; exact n51b) | (rw [← b0]; exact n51b)
      exact g_return (gd rfl) rfl (hP _ _ ⟨(sF (sF s 109 111 z6) 109 112 z47), hI48, (fr_sF rfl (fr_sF rfl fr_rf)), n51c, rfl, rfl, n51, n51a⟩)
    · skip
      have i39 := r_eq1 40 40 c39 (i_rng z23) (in_c 40 rfl) rfl
      refine g_iconst 1 43 (gd rfl) rfl rfl ?_
      refine g_goto 47 (gd rfl) rfl ?_
      refine g_isub 48 (gd rfl) rfl (fun z47 e47 => ?_)
      refine g_putI 51 (gd rfl) rfl rfl rfl rfl ?_
      have hI48 := inv_sF (q := 109) (j := 112) hI7 rfl (in_w (-2147483648) 2147483647 (i_rng z47) rfl)
      have n51 : RWL s = (s.1 190 (((sF (sF s 109 111 z6) 109 112 z47)).2.2.1 109 111).toNatClampNeg).toInt :: RWL (sF (sF s 109 111 z6) 109 112 z47) := by exact rwl_d rfl (by rw [← (show z6 = (sF (sF s 109 111 z6) 109 112 z47).2.2.1 109 111 from sF_ne rfl (sF_get)), ← e_109_111]; (first | have a0 := oa2 ((inv_F hI 0 200 rfl e_109_111)) i23 | ((first | have a0 := in_u ((inv_F hI 0 200 rfl e_109_111)) | (have a0 := (inv_F hI 0 200 rfl e_109_111); unfold In at a0)); (first | have a1 := in_u i23 | (have a1 := i23; unfold In at a1)))); have a2 := t_sub e6 (inv_F hI 0 200 rfl e_109_111) (in_c 1 rfl) rfl; (first | have a3 := in_u ((in_c 1 rfl)) | (have a3 := (in_c 1 rfl); unfold In at a3)); have oc := ocj_397_109; omega) (by rw [← e_109_111]; (first | have a0 := oa2 ((inv_F hI 0 200 rfl e_109_111)) i23 | ((first | have a0 := in_u ((inv_F hI 0 200 rfl e_109_111)) | (have a0 := (inv_F hI 0 200 rfl e_109_111); unfold In at a0)); (first | have a1 := in_u i23 | (have a1 := i23; unfold In at a1)))); have a2 := t_sub e6 (inv_F hI 0 200 rfl e_109_111) (in_c 1 rfl) rfl; (first | have a3 := in_u ((in_c 1 rfl)) | (have a3 := (in_c 1 rfl); unfold In at a3)); have oc := ocj_397_109; omega)
      have n51a : DPR s → DPR (sF (sF s 109 111 z6) 109 112 z47) := by intro hd; have hr := n51; rw [(show (s.1 190 (((sF (sF s 109 111 z6) 109 112 z47)).2.2.1 109 111).toNatClampNeg).toInt = (z23).toInt from (by rw [← (show z6 = (sF (sF s 109 111 z6) 109 112 z47).2.2.1 109 111 from sF_ne rfl (sF_get))]; exact congrArg Int32.toInt e23.symm))] at hr; first | exact dpq_1 hd (inv_F hI 0 200 (q := 109) (j := 111) rfl rfl) hr (by (first | have a0 := oa2 ((inv_F hI 0 200 rfl e_109_111)) i23 | ((first | have a0 := in_u ((inv_F hI 0 200 rfl e_109_111)) | (have a0 := (inv_F hI 0 200 rfl e_109_111); unfold In at a0)); (first | have a1 := in_u i23 | (have a1 := i23; unfold In at a1)))); have a2 := t_sub e6 (inv_F hI 0 200 rfl e_109_111) (in_c 1 rfl) rfl; (first | have a3 := in_u ((in_c 1 rfl)) | (have a3 := (in_c 1 rfl); unfold In at a3)); have oc := ocj_397_109; omega) e47 e_109_112 (show z47 = (sF (sF s 109 111 z6) 109 112 z47).2.2.1 109 112 from sF_get) | exact dpq_0 hd (inv_F hI 0 200 (q := 109) (j := 111) rfl rfl) hr (by (first | have a0 := oa2 ((inv_F hI 0 200 rfl e_109_111)) i23 | ((first | have a0 := in_u ((inv_F hI 0 200 rfl e_109_111)) | (have a0 := (inv_F hI 0 200 rfl e_109_111); unfold In at a0)); (first | have a1 := in_u i23 | (have a1 := i23; unfold In at a1)))); have a2 := t_sub e6 (inv_F hI 0 200 rfl e_109_111) (in_c 1 rfl) rfl; (first | have a3 := in_u ((in_c 1 rfl)) | (have a3 := (in_c 1 rfl); unfold In at a3)); have oc := ocj_397_109; omega) e47 e_109_112 (show z47 = (sF (sF s 109 111 z6) 109 112 z47).2.2.1 109 112 from sF_get)
      have n51b : (z6).toInt = (u_109_111).toInt - 1 := by (first | have a0 := oa2 ((inv_F hI 0 200 rfl e_109_111)) i23 | ((first | have a0 := in_u ((inv_F hI 0 200 rfl e_109_111)) | (have a0 := (inv_F hI 0 200 rfl e_109_111); unfold In at a0)); (first | have a1 := in_u i23 | (have a1 := i23; unfold In at a1)))); have a2 := t_sub e6 (inv_F hI 0 200 rfl e_109_111) (in_c 1 rfl) rfl; (first | have a3 := in_u ((in_c 1 rfl)) | (have a3 := (in_c 1 rfl); unfold In at a3)); have oc := ocj_397_109; omega
      have n51c : ((sF (sF s 109 111 z6) 109 112 z47).2.2.1 109 111).toInt = (s.2.2.1 109 111).toInt - 1 := by have b0 : z6 = (sF (sF s 109 111 z6) 109 112 z47).2.2.1 109 111 := sF_ne rfl (sF_get); first | (rw [← b0, ← e_109_111]; exact n51b) | (rw [← b0]; exact n51b)
      exact g_return (gd rfl) rfl (hP _ _ ⟨(sF (sF s 109 111 z6) 109 112 z47), hI48, (fr_sF rfl (fr_sF rfl fr_rf)), n51c, rfl, rfl, n51, n51a⟩)

theorem ocj_399_109 : (Int32.ofInt (-1)).toInt = (-1) ∧ (Int32.ofInt 0).toInt = 0 ∧ (Int32.ofInt 1).toInt = 1 := ⟨rfl, rfl, rfl⟩
/-- GraphHouseModel.settle -/
theorem j_399 {Z : AmZ} {A : Nat → Nat} {s : GS} {ex : va_W} {d : Nat} {X : AmX} {x1 : Int32} {u_109_109 : Int32} {u_109_111 : Int32} (hd : 3 ≤ d) (hI : Inv s) (h1 : In x1 1 3) (e_109_109 : u_109_109 = s.2.2.1 109 109) (e_109_111 : u_109_111 = s.2.2.1 109 111) (p_0 : (u_109_109).toInt + (u_109_111).toInt ≤ 120) : GC Z d 399 [.ref (A 109), .int x1] (WW Z A s ++ ex) 0 0 (fun v u => ∃ t : GS, Inv t ∧ Fr fm_399 s t ∧ ((t.2.2.1 109 109).toInt + (t.2.2.1 109 111).toInt = (s.2.2.1 109 109).toInt + (s.2.2.1 109 111).toInt) ∧ v = none ∧ u = WW Z A t ++ ex ∧ (PR s t 1 1) ∧ (pgL (x1).toInt (RWL s) (RQL s) = (RWL t, RQL t)) ∧ (DPR s → DPR t) ∧ (QOK s → QOK t)) X := by
  intro post xp hP hX
  have ct0 : ∀ (k0 : Nat) (sc0 : GS) (w0_109_109 : Int32) (w0_109_111 : Int32), Inv sc0 → Fr fm_399 s sc0 → (w0_109_109 = sc0.2.2.1 109 109) → (w0_109_111 = sc0.2.2.1 109 111) → ((w0_109_109).toInt + (w0_109_111).toInt = (u_109_109).toInt + (u_109_111).toInt) → (PR s sc0 1 1) → (pgL (x1).toInt (RWL sc0) (RQL sc0) = pgL (x1).toInt (RWL s) (RQL s)) → (DPR s → DPR sc0) → (QOK s → QOK sc0) → (w0_109_111).toInt < (k0 : Int) → GG Z (d - 1) 399 post (gx xp) (1 + k0 * 900) 0 (fun j => xlook j [(0, .ref (A 109)), (1, .int x1)]) [] (WW Z A sc0 ++ ex) 0 0 := by
    intro k0
    induction k0 with
    | zero => intro sc0 w0_109_109 w0_109_111 hIc0 hFc0 v0_109_109 v0_109_111 n0_0 g0_0 g0_1 g0_2 g0_3 mm0; exfalso; (first | have a0 := oa3 h1 ((inv_F hIc0 0 200 rfl v0_109_111)) ((inv_F hIc0 0 400 rfl v0_109_109)) | ((first | have a0 := in_u h1 | (have a0 := h1; unfold In at a0)); (first | have a1 := in_u ((inv_F hIc0 0 200 rfl v0_109_111)) | (have a1 := (inv_F hIc0 0 200 rfl v0_109_111); unfold In at a1)); (first | have a2 := in_u ((inv_F hIc0 0 400 rfl v0_109_109)) | (have a2 := (inv_F hIc0 0 400 rfl v0_109_109); unfold In at a2)))); have oc := ocj_399_109; omega
    | succ k0 ih0 =>
      intro sc0 w0_109_109 w0_109_111 hIc0 hFc0 v0_109_109 v0_109_111 n0_0 g0_0 g0_1 g0_2 g0_3 mm0
      refine gg_w (M := 1 + k0 * 900 + 900) gws ?_
      refine g_aload_n 1 (gd rfl) rfl rfl ?_
      refine g_getI 4 (gd rfl) rfl rfl rfl (fun z1 e1 => ?_)
      have q1 : w0_109_111 = z1 := (v0_109_111).trans e1.symm
      subst q1
      refine g_if_le 7 34 (gd rfl) rfl rfl (fun c4 => ?_) (fun c4 => ?_)
      · skip
        have i4 := z_le 0 0 c4 (inv_F hIc0 0 200 rfl v0_109_111) rfl
        have n34 : PR s sc0 1 1 := by exact g0_0
        have n34a : pgL (x1).toInt (RWL s) (RQL s) = (RWL sc0, RQL sc0) := by rw [← g0_1]; exact sl_en (by rw [top_0 (s := sc0) (by rw [← v0_109_111]; (first | have a0 := oa3 h1 i4 ((inv_F hIc0 0 400 rfl v0_109_109)) | ((first | have a0 := in_u h1 | (have a0 := h1; unfold In at a0)); (first | have a1 := in_u i4 | (have a1 := i4; unfold In at a1)); (first | have a2 := in_u ((inv_F hIc0 0 400 rfl v0_109_109)) | (have a2 := (inv_F hIc0 0 400 rfl v0_109_109); unfold In at a2)))); have oc := ocj_399_109; omega)]; have h9 : pgT (pgW []) = 0 := rfl; (first | have a0 := oa3 h1 i4 ((inv_F hIc0 0 400 rfl v0_109_109)) | ((first | have a0 := in_u h1 | (have a0 := h1; unfold In at a0)); (first | have a1 := in_u i4 | (have a1 := i4; unfold In at a1)); (first | have a2 := in_u ((inv_F hIc0 0 400 rfl v0_109_109)) | (have a2 := (inv_F hIc0 0 400 rfl v0_109_109); unfold In at a2)))); have oc := ocj_399_109; omega)
        have n34b : DPR s → DPR sc0 := by exact g0_2
        have n34c : QOK s → QOK sc0 := by exact g0_3
        have n34d : (w0_109_109).toInt + (w0_109_111).toInt = (u_109_109).toInt + (u_109_111).toInt := by first | exact n0_0 | ((first | have a0 := oa3 h1 i4 ((inv_F hIc0 0 400 rfl v0_109_109)) | ((first | have a0 := in_u h1 | (have a0 := h1; unfold In at a0)); (first | have a1 := in_u i4 | (have a1 := i4; unfold In at a1)); (first | have a2 := in_u ((inv_F hIc0 0 400 rfl v0_109_109)) | (have a2 := (inv_F hIc0 0 400 rfl v0_109_109); unfold In at a2)))); have oc := ocj_399_109; omega)
        have n34e : (sc0.2.2.1 109 109).toInt + (sc0.2.2.1 109 111).toInt = (s.2.2.1 109 109).toInt + (s.2.2.1 109 111).toInt := by have b0 : w0_109_109 = sc0.2.2.1 109 109 := v0_109_109; have b1 : w0_109_111 = sc0.2.2.1 109 111 := v0_109_111; first | (rw [← b0, ← b1, ← e_109_109, ← e_109_111]; exact n34d) | (rw [← b0, ← b1]; exact n34d)
        exact g_return (gd rfl) rfl (hP _ _ ⟨sc0, hIc0, hFc0, n34e, rfl, rfl, n34, n34a, n34b, n34c⟩)
      · skip
        have i4 := z_gt 1 200 c4 (inv_F hIc0 0 200 rfl v0_109_111) rfl
        refine g_aload_n 8 (gd rfl) rfl rfl ?_
        refine g_callv (X := _) (As := []) (r := []) (b := A 109) (q := 109) 11 (gd rfl) rfl rfl rfl rfl rfl (ww_o rfl) (Nat.le_of_ble_eq_true rfl) (mc := 0) (ms := 0) (Nat.zero_le _) (Nat.zero_le _) (P := fun v u => _) ?_ (fun e u h => h) (fun v u h => h)
        intro po8 xx8 hp8 hx8
        refine g_enter2 (k := 395) (N := 300) (by first | exact dq1 hd rfl | exact dq0 hd rfl | exact dq2 hd rfl | exact dq3 hd rfl | omega) rfl (Nat.le_of_ble_eq_true rfl) ?_
        refine g_aload_n 1 (gd rfl) rfl rfl ?_
        refine g_getI 4 (gd rfl) rfl rfl rfl (fun z8x1 e8x1 => ?_)
        have q8x1 : w0_109_111 = z8x1 := (v0_109_111).trans e8x1.symm
        subst q8x1
        refine g_if_ne 7 11 (gd rfl) rfl rfl (fun c8x4 => ?_) (fun c8x4 => ?_)
        · skip
          refine g_aload_n 12 (gd rfl) rfl rfl ?_
          refine g_getA (q2 := 190) 15 (gd rfl) rfl rfl rfl rfl ?_
          refine g_aload_n 16 (gd rfl) rfl rfl ?_
          refine g_getI 19 (gd rfl) rfl rfl rfl (fun z8x16 e8x16 => ?_)
          have q8x16 : w0_109_111 = z8x16 := (v0_109_111).trans e8x16.symm
          subst q8x16
          refine g_iconst 1 20 (gd rfl) rfl rfl ?_
          refine g_isub 21 (gd rfl) rfl (fun z8x20 e8x20 => ?_)
          have i8x20 := in_sub 0 199 e8x20 i4 (in_c 1 rfl) rfl rfl
          refine g_iaload 22 (gd rfl) rfl (n := 200) rfl (in_ix i8x20 rfl) (fun z8x21 e8x21 => ?_)
          refine g_ireturn (gd rfl) rfl rfl (hp8 _ _ ?_)
          show GG _ _ _ _ _ _ _ _ [.int z8x21] _ _ _
          refine g_calls (As := [.int z8x21]) (r := []) 14 (gd rfl) rfl rfl rfl rfl rfl (Nat.le_of_ble_eq_true rfl) (Nat.zero_le _) (Nat.zero_le _) (j_398 (by omega) hIc0 ) (fun v u h => ?_)
          obtain ⟨z11, rfl, rfl, i11, p11⟩ := h
          show GG _ _ _ _ _ _ _ _ [.int z11] _ _ _
          refine g_iload_n 15 (gd rfl) rfl rfl ?_
          refine g_cmp_lt 18 34 (gd rfl) rfl rfl (fun c15 => ?_) (fun c15 => ?_)
          · skip
            have i15 := r_lt1 0 2 c15 i11 h1 rfl
            have n34 : PR s sc0 1 1 := by exact g0_0
            have n34a : pgL (x1).toInt (RWL s) (RQL s) = (RWL sc0, RQL sc0) := by rw [← g0_1]; exact sl_en (by rw [(top_v (s := sc0) (by rw [← v0_109_111]; (first | have a0 := oa4 h1 i4 ((inv_F hIc0 0 400 rfl v0_109_109)) i8x20 | ((first | have a0 := in_u h1 | (have a0 := h1; unfold In at a0)); (first | have a1 := in_u i4 | (have a1 := i4; unfold In at a1)); (first | have a2 := in_u ((inv_F hIc0 0 400 rfl v0_109_109)) | (have a2 := (inv_F hIc0 0 400 rfl v0_109_109); unfold In at a2)); (first | have a3 := in_u i8x20 | (have a3 := i8x20; unfold In at a3)))); have a4 := t_sub e8x20 i4 (in_c 1 rfl) rfl; (first | have a5 := in_u ((in_c 1 rfl)) | (have a5 := (in_c 1 rfl); unfold In at a5)); have oc := ocj_399_109; omega) i8x20.1 e8x21), ← p11]; (first | have a0 := oa4 h1 i4 ((inv_F hIc0 0 400 rfl v0_109_109)) i8x20 | ((first | have a0 := in_u h1 | (have a0 := h1; unfold In at a0)); (first | have a1 := in_u i4 | (have a1 := i4; unfold In at a1)); (first | have a2 := in_u ((inv_F hIc0 0 400 rfl v0_109_109)) | (have a2 := (inv_F hIc0 0 400 rfl v0_109_109); unfold In at a2)); (first | have a3 := in_u i8x20 | (have a3 := i8x20; unfold In at a3)))); have a4 := t_sub e8x20 i4 (in_c 1 rfl) rfl; (first | have a5 := in_u ((in_c 1 rfl)) | (have a5 := (in_c 1 rfl); unfold In at a5)); have oc := ocj_399_109; omega)
            have n34b : DPR s → DPR sc0 := by exact g0_2
            have n34c : QOK s → QOK sc0 := by exact g0_3
            have n34d : (w0_109_109).toInt + (w0_109_111).toInt = (u_109_109).toInt + (u_109_111).toInt := by first | exact n0_0 | ((first | have a0 := oa4 h1 i4 ((inv_F hIc0 0 400 rfl v0_109_109)) i8x20 | ((first | have a0 := in_u h1 | (have a0 := h1; unfold In at a0)); (first | have a1 := in_u i4 | (have a1 := i4; unfold In at a1)); (first | have a2 := in_u ((inv_F hIc0 0 400 rfl v0_109_109)) | (have a2 := (inv_F hIc0 0 400 rfl v0_109_109); unfold In at a2)); (first | have a3 := in_u i8x20 | (have a3 := i8x20; unfold In at a3)))); have a4 := t_sub e8x20 i4 (in_c 1 rfl) rfl; (first | have a5 := in_u ((in_c 1 rfl)) | (have a5 := (in_c 1 rfl); unfold In at a5)); have oc := ocj_399_109; omega)
            have n34e : (sc0.2.2.1 109 109).toInt + (sc0.2.2.1 109 111).toInt = (s.2.2.1 109 109).toInt + (s.2.2.1 109 111).toInt := by have b0 : w0_109_109 = sc0.2.2.1 109 109 := v0_109_109; have b1 : w0_109_111 = sc0.2.2.1 109 111 := v0_109_111; first | (rw [← b0, ← b1, ← e_109_109, ← e_109_111]; exact n34d) | (rw [← b0, ← b1]; exact n34d)
            exact g_return (gd rfl) rfl (hP _ _ ⟨sc0, hIc0, hFc0, n34e, rfl, rfl, n34, n34a, n34b, n34c⟩)
          · skip
            have i15 := r_le2 1 3 c15 h1 i11 rfl
            refine g_aload_n 19 (gd rfl) rfl rfl ?_
            refine g_aload_n 20 (gd rfl) rfl rfl ?_
            refine g_callv (X := _) (As := []) (r := [.ref (A 109)]) (b := A 109) (q := 109) 23 (gd rfl) rfl rfl rfl rfl rfl (ww_o rfl) (Nat.le_of_ble_eq_true rfl) (mc := 0) (ms := 0) (Nat.zero_le _) (Nat.zero_le _) (P := fun v u => _) ?_ (fun e u h => h) (fun v u h => h)
            intro po20 xx20 hp20 hx20
            refine g_enter2 (k := 395) (N := 300) (by first | exact dq1 hd rfl | exact dq0 hd rfl | exact dq2 hd rfl | exact dq3 hd rfl | omega) rfl (Nat.le_of_ble_eq_true rfl) ?_
            refine g_aload_n 1 (gd rfl) rfl rfl ?_
            refine g_getI 4 (gd rfl) rfl rfl rfl (fun z20x1 e20x1 => ?_)
            have q20x1 : w0_109_111 = z20x1 := (v0_109_111).trans e20x1.symm
            subst q20x1
            refine g_if_ne 7 11 (gd rfl) rfl rfl (fun c20x4 => ?_) (fun c20x4 => ?_)
            · skip
              refine g_aload_n 12 (gd rfl) rfl rfl ?_
              refine g_getA (q2 := 190) 15 (gd rfl) rfl rfl rfl rfl ?_
              refine g_aload_n 16 (gd rfl) rfl rfl ?_
              refine g_getI 19 (gd rfl) rfl rfl rfl (fun z20x16 e20x16 => ?_)
              have q20x16 : w0_109_111 = z20x16 := (v0_109_111).trans e20x16.symm
              subst q20x16
              refine g_iconst 1 20 (gd rfl) rfl rfl ?_
              refine g_isub 21 (gd rfl) rfl (fun z20x20 e20x20 => ?_)
              have i20x20 := in_sub 0 199 e20x20 i4 (in_c 1 rfl) rfl rfl
              refine g_iaload 22 (gd rfl) rfl (n := 200) rfl (in_ix i20x20 rfl) (fun z20x21 e20x21 => ?_)
              refine g_ireturn (gd rfl) rfl rfl (hp20 _ _ ?_)
              show GG _ _ _ _ _ _ _ _ [.int z20x21, .ref (A 109)] _ _ _
              refine g_iconst 0 24 (gd rfl) rfl rfl ?_
              have n24 : (w0_109_109).toInt ≤ 399 := by (first | have a0 := oa4 h1 i4 ((inv_F hIc0 0 400 rfl v0_109_109)) i20x20 | ((first | have a0 := in_u h1 | (have a0 := h1; unfold In at a0)); (first | have a1 := in_u i4 | (have a1 := i4; unfold In at a1)); (first | have a2 := in_u ((inv_F hIc0 0 400 rfl v0_109_109)) | (have a2 := (inv_F hIc0 0 400 rfl v0_109_109); unfold In at a2)); (first | have a3 := in_u i20x20 | (have a3 := i20x20; unfold In at a3)))); have a4 := t_sub e20x20 i4 (in_c 1 rfl) rfl; (first | have a5 := oa2 ((in_c 1 rfl)) i8x20 | ((first | have a5 := in_u ((in_c 1 rfl)) | (have a5 := (in_c 1 rfl); unfold In at a5)); (first | have a6 := in_u i8x20 | (have a6 := i8x20; unfold In at a6)))); have a7 := t_sub e8x20 i4 (in_c 1 rfl) rfl; have oc := ocj_399_109; omega
              refine g_callv (X := _) (As := [.int z20x21, .int (Int32.ofInt 0)]) (r := []) (b := A 109) (q := 109) 27 (gd rfl) rfl rfl rfl rfl rfl (ww_o rfl) (Nat.le_of_ble_eq_true rfl) (Nat.zero_le _) (Nat.zero_le _) (k_393 (by first | exact dq1 hd rfl | exact dq0 hd rfl | exact dq2 hd rfl | exact dq3 hd rfl | omega) hIc0 v0_109_109 n24) (fun e u h => h) (fun v u h => ?_)
              obtain ⟨s24, hI24, hF24, n24a, rfl, rfl, p24, p24a⟩ := h
              obtain ⟨z24a, e24⟩ : ∃ w, w = s24.2.2.1 109 109 := ⟨_, rfl⟩
              have i24a := inv_F hI24 0 400 rfl e24
              rw [← (show w0_109_109 = sc0.2.2.1 109 109 from v0_109_109)] at n24a
              rw [← (show z24a = s24.2.2.1 109 109 from e24)] at n24a
              show GG _ _ _ _ _ _ _ _ [] _ _ _
              refine g_aload_n 28 (gd rfl) rfl rfl ?_
              have v28 : w0_109_111 = s24.2.2.1 109 111 := fr_F (v0_109_111) hF24 rfl
              have n28 : 1 ≤ (w0_109_111).toInt := by (first | have a0 := oa5 h1 i4 ((inv_F hIc0 0 400 rfl v0_109_109)) i24a i20x20 | ((first | have a0 := in_u h1 | (have a0 := h1; unfold In at a0)); (first | have a1 := in_u i4 | (have a1 := i4; unfold In at a1)); (first | have a2 := in_u ((inv_F hIc0 0 400 rfl v0_109_109)) | (have a2 := (inv_F hIc0 0 400 rfl v0_109_109); unfold In at a2)); (first | have a3 := in_u i24a | (have a3 := i24a; unfold In at a3)); (first | have a4 := in_u i20x20 | (have a4 := i20x20; unfold In at a4)))); have a5 := t_sub e20x20 i4 (in_c 1 rfl) rfl; (first | have a6 := oa2 ((in_c 1 rfl)) i8x20 | ((first | have a6 := in_u ((in_c 1 rfl)) | (have a6 := (in_c 1 rfl); unfold In at a6)); (first | have a7 := in_u i8x20 | (have a7 := i8x20; unfold In at a7)))); have a8 := t_sub e8x20 i4 (in_c 1 rfl) rfl; have oc := ocj_399_109; omega
              refine g_callv (X := _) (As := []) (r := []) (b := A 109) (q := 109) 31 (gd rfl) rfl rfl rfl rfl rfl (ww_o rfl) (Nat.le_of_ble_eq_true rfl) (Nat.zero_le _) (Nat.zero_le _) (j_397 (by omega) hI24 v28 rfl n28) (fun e u h => h) (fun v u h => ?_)
              obtain ⟨s28, hI28, hF28, n28a, rfl, rfl, p28, p28a⟩ := h
              obtain ⟨z28a, e28⟩ : ∃ w, w = s28.2.2.1 109 111 := ⟨_, rfl⟩
              have i28a := inv_F hI28 0 200 rfl e28
              rw [← (show w0_109_111 = s24.2.2.1 109 111 from fr_F (v0_109_111) hF24 rfl)] at n28a
              rw [← (show z28a = s28.2.2.1 109 111 from e28)] at n28a
              show GG _ _ _ _ _ _ _ _ [] _ _ _
              refine g_goto 0 (gd rfl) rfl ?_
              have v0 : z24a = s28.2.2.1 109 109 := fr_F (e24) hF28 rfl
              have n0 : (z24a).toInt + (z28a).toInt = (u_109_109).toInt + (u_109_111).toInt := by (first | have a0 := oa6 h1 i4 ((inv_F hIc0 0 400 rfl v0_109_109)) i28a i24a i20x20 | ((first | have a0 := in_u h1 | (have a0 := h1; unfold In at a0)); (first | have a1 := in_u i4 | (have a1 := i4; unfold In at a1)); (first | have a2 := in_u ((inv_F hIc0 0 400 rfl v0_109_109)) | (have a2 := (inv_F hIc0 0 400 rfl v0_109_109); unfold In at a2)); (first | have a3 := in_u i28a | (have a3 := i28a; unfold In at a3)); (first | have a4 := in_u i24a | (have a4 := i24a; unfold In at a4)); (first | have a5 := in_u i20x20 | (have a5 := i20x20; unfold In at a5)))); have a6 := t_sub e20x20 i4 (in_c 1 rfl) rfl; (first | have a7 := oa2 ((in_c 1 rfl)) i8x20 | ((first | have a7 := in_u ((in_c 1 rfl)) | (have a7 := (in_c 1 rfl); unfold In at a7)); (first | have a8 := in_u i8x20 | (have a8 := i8x20; unfold In at a8)))); have a9 := t_sub e8x20 i4 (in_c 1 rfl) rfl; have oc := ocj_399_109; omega
              have n0a : PR s s28 1 1 := by have hz : z20x21 = z8x21 := (by rw [e20x21, e8x21, e20x20, e8x20]); exact pr_tr g0_0 (pr_set (n := (sc0.2.2.1 109 109).toNatClampNeg) (x := z20x21) (v := Int32.ofInt 0) (b := z20x20) ((hF28.1 187 rfl).trans p24) ((hF28.1 188 rfl).trans p24a) rfl (inv_F hIc0 0 400 rfl rfl).1 (by rw [hF28.2.2.1 109 109 rfl, ← e24, ← v0_109_109]; exact n24a) ((hF28.2.2.1 109 23 rfl).trans (hF24.2.2.1 109 23 rfl)) ((hF28.1 190 rfl).trans (hF24.1 190 rfl)) (by rw [← e28]; (first | have a0 := oa6 h1 i4 ((inv_F hIc0 0 400 rfl v0_109_109)) i28a i24a i20x20 | ((first | have a0 := in_u h1 | (have a0 := h1; unfold In at a0)); (first | have a1 := in_u i4 | (have a1 := i4; unfold In at a1)); (first | have a2 := in_u ((inv_F hIc0 0 400 rfl v0_109_109)) | (have a2 := (inv_F hIc0 0 400 rfl v0_109_109); unfold In at a2)); (first | have a3 := in_u i28a | (have a3 := i28a; unfold In at a3)); (first | have a4 := in_u i24a | (have a4 := i24a; unfold In at a4)); (first | have a5 := in_u i20x20 | (have a5 := i20x20; unfold In at a5)))); have a6 := t_sub e20x20 i4 (in_c 1 rfl) rfl; (first | have a7 := oa2 ((in_c 1 rfl)) i8x20 | ((first | have a7 := in_u ((in_c 1 rfl)) | (have a7 := (in_c 1 rfl); unfold In at a7)); (first | have a8 := in_u i8x20 | (have a8 := i8x20; unfold In at a8)))); have a9 := t_sub e8x20 i4 (in_c 1 rfl) rfl; have oc := ocj_399_109; omega) (by rw [← v0_109_111]; (first | have a0 := oa6 h1 i4 ((inv_F hIc0 0 400 rfl v0_109_109)) i28a i24a i20x20 | ((first | have a0 := in_u h1 | (have a0 := h1; unfold In at a0)); (first | have a1 := in_u i4 | (have a1 := i4; unfold In at a1)); (first | have a2 := in_u ((inv_F hIc0 0 400 rfl v0_109_109)) | (have a2 := (inv_F hIc0 0 400 rfl v0_109_109); unfold In at a2)); (first | have a3 := in_u i28a | (have a3 := i28a; unfold In at a3)); (first | have a4 := in_u i24a | (have a4 := i24a; unfold In at a4)); (first | have a5 := in_u i20x20 | (have a5 := i20x20; unfold In at a5)))); have a6 := t_sub e20x20 i4 (in_c 1 rfl) rfl; (first | have a7 := oa2 ((in_c 1 rfl)) i8x20 | ((first | have a7 := in_u ((in_c 1 rfl)) | (have a7 := (in_c 1 rfl); unfold In at a7)); (first | have a8 := in_u i8x20 | (have a8 := i8x20; unfold In at a8)))); have a9 := t_sub e8x20 i4 (in_c 1 rfl) rfl; have oc := ocj_399_109; omega) i20x20.1 e20x21 (Or.inl (by rw [hz]; have hT := pgT_o (z8x21).toInt; (first | have a0 := oa6 h1 i4 ((inv_F hIc0 0 400 rfl v0_109_109)) i28a i24a i20x20 | ((first | have a0 := in_u h1 | (have a0 := h1; unfold In at a0)); (first | have a1 := in_u i4 | (have a1 := i4; unfold In at a1)); (first | have a2 := in_u ((inv_F hIc0 0 400 rfl v0_109_109)) | (have a2 := (inv_F hIc0 0 400 rfl v0_109_109); unfold In at a2)); (first | have a3 := in_u i28a | (have a3 := i28a; unfold In at a3)); (first | have a4 := in_u i24a | (have a4 := i24a; unfold In at a4)); (first | have a5 := in_u i20x20 | (have a5 := i20x20; unfold In at a5)))); have a6 := t_sub e20x20 i4 (in_c 1 rfl) rfl; (first | have a7 := oa2 ((in_c 1 rfl)) i8x20 | ((first | have a7 := in_u ((in_c 1 rfl)) | (have a7 := (in_c 1 rfl); unfold In at a7)); (first | have a8 := in_u i8x20 | (have a8 := i8x20; unfold In at a8)))); have a9 := t_sub e8x20 i4 (in_c 1 rfl) rfl; have oc := ocj_399_109; omega)))
              have n0b : pgL (x1).toInt (RWL s28) (RQL s28) = pgL (x1).toInt (RWL s) (RQL s) := by exact sl_st g0_1 (show RWL sc0 = (z8x21).toInt :: RWL s28 from (by have h9 := p28; rw [rwl_s (hF24.1 190 rfl) (hF24.2.2.1 109 111 rfl)] at h9; have h8 := (top_v (s := sc0) (by rw [← v0_109_111]; (first | have a0 := oa6 h1 i4 ((inv_F hIc0 0 400 rfl v0_109_109)) i28a i24a i20x20 | ((first | have a0 := in_u h1 | (have a0 := h1; unfold In at a0)); (first | have a1 := in_u i4 | (have a1 := i4; unfold In at a1)); (first | have a2 := in_u ((inv_F hIc0 0 400 rfl v0_109_109)) | (have a2 := (inv_F hIc0 0 400 rfl v0_109_109); unfold In at a2)); (first | have a3 := in_u i28a | (have a3 := i28a; unfold In at a3)); (first | have a4 := in_u i24a | (have a4 := i24a; unfold In at a4)); (first | have a5 := in_u i20x20 | (have a5 := i20x20; unfold In at a5)))); have a6 := t_sub e20x20 i4 (in_c 1 rfl) rfl; (first | have a7 := oa2 ((in_c 1 rfl)) i8x20 | ((first | have a7 := in_u ((in_c 1 rfl)) | (have a7 := (in_c 1 rfl); unfold In at a7)); (first | have a8 := in_u i8x20 | (have a8 := i8x20; unfold In at a8)))); have a9 := t_sub e8x20 i4 (in_c 1 rfl) rfl; have oc := ocj_399_109; omega) i8x20.1 e8x21); rw [h9] at h8; rw [h9, show (s24.1 190 (s28.2.2.1 109 111).toNatClampNeg).toInt = (z8x21).toInt from h8])) (by rw [← p11]; (first | have a0 := oa6 h1 i4 ((inv_F hIc0 0 400 rfl v0_109_109)) i28a i24a i20x20 | ((first | have a0 := in_u h1 | (have a0 := h1; unfold In at a0)); (first | have a1 := in_u i4 | (have a1 := i4; unfold In at a1)); (first | have a2 := in_u ((inv_F hIc0 0 400 rfl v0_109_109)) | (have a2 := (inv_F hIc0 0 400 rfl v0_109_109); unfold In at a2)); (first | have a3 := in_u i28a | (have a3 := i28a; unfold In at a3)); (first | have a4 := in_u i24a | (have a4 := i24a; unfold In at a4)); (first | have a5 := in_u i20x20 | (have a5 := i20x20; unfold In at a5)))); have a6 := t_sub e20x20 i4 (in_c 1 rfl) rfl; (first | have a7 := oa2 ((in_c 1 rfl)) i8x20 | ((first | have a7 := in_u ((in_c 1 rfl)) | (have a7 := (in_c 1 rfl); unfold In at a7)); (first | have a8 := in_u i8x20 | (have a8 := i8x20; unfold In at a8)))); have a9 := t_sub e8x20 i4 (in_c 1 rfl) rfl; have oc := ocj_399_109; omega) (show RQL s28 = (1000100 + (z8x21).toInt) :: RQL sc0 from (by have hz : z20x21 = z8x21 := (by rw [e20x21, e8x21, e20x20, e8x20]); rw [rql_s (hF28.1 187 rfl) (hF28.1 188 rfl) (hF28.2.2.1 109 109 rfl), rql_a p24 p24a (by rw [← e24, ← v0_109_109]; exact n24a) (inv_F hIc0 0 400 (q := 109) (j := 109) rfl rfl).1, hz, rcd_w (by have hT := pgT_o (z8x21).toInt; (first | have a0 := oa6 h1 i4 ((inv_F hIc0 0 400 rfl v0_109_109)) i28a i24a i20x20 | ((first | have a0 := in_u h1 | (have a0 := h1; unfold In at a0)); (first | have a1 := in_u i4 | (have a1 := i4; unfold In at a1)); (first | have a2 := in_u ((inv_F hIc0 0 400 rfl v0_109_109)) | (have a2 := (inv_F hIc0 0 400 rfl v0_109_109); unfold In at a2)); (first | have a3 := in_u i28a | (have a3 := i28a; unfold In at a3)); (first | have a4 := in_u i24a | (have a4 := i24a; unfold In at a4)); (first | have a5 := in_u i20x20 | (have a5 := i20x20; unfold In at a5)))); have a6 := t_sub e20x20 i4 (in_c 1 rfl) rfl; (first | have a7 := oa2 ((in_c 1 rfl)) i8x20 | ((first | have a7 := in_u ((in_c 1 rfl)) | (have a7 := (in_c 1 rfl); unfold In at a7)); (first | have a8 := in_u i8x20 | (have a8 := i8x20; unfold In at a8)))); have a9 := t_sub e8x20 i4 (in_c 1 rfl) rfl; have oc := ocj_399_109; omega)]))
              have n0c : DPR s → DPR s28 := by intro hd; exact p28a (dpr_s (g0_2 hd) (rwl_s (hF24.1 190 rfl) (hF24.2.2.1 109 111 rfl)) (hF24.2.2.1 109 112 rfl))
              have n0d : QOK s → QOK s28 := by intro hq; have hz : z20x21 = z8x21 := (by rw [e20x21, e8x21, e20x20, e8x20]); exact qok_fr (qok_a (g0_3 hq) p24 p24a (by rw [← e24, ← v0_109_109]; exact n24a) (inv_F hIc0 0 400 (q := 109) (j := 109) rfl rfl).1 (by rw [hz]; have hT := pgT_o (z8x21).toInt; exact okr_b (by (first | have a0 := oa6 h1 i4 ((inv_F hIc0 0 400 rfl v0_109_109)) i28a i24a i20x20 | ((first | have a0 := in_u h1 | (have a0 := h1; unfold In at a0)); (first | have a1 := in_u i4 | (have a1 := i4; unfold In at a1)); (first | have a2 := in_u ((inv_F hIc0 0 400 rfl v0_109_109)) | (have a2 := (inv_F hIc0 0 400 rfl v0_109_109); unfold In at a2)); (first | have a3 := in_u i28a | (have a3 := i28a; unfold In at a3)); (first | have a4 := in_u i24a | (have a4 := i24a; unfold In at a4)); (first | have a5 := in_u i20x20 | (have a5 := i20x20; unfold In at a5)))); have a6 := t_sub e20x20 i4 (in_c 1 rfl) rfl; (first | have a7 := oa2 ((in_c 1 rfl)) i8x20 | ((first | have a7 := in_u ((in_c 1 rfl)) | (have a7 := (in_c 1 rfl); unfold In at a7)); (first | have a8 := in_u i8x20 | (have a8 := i8x20; unfold In at a8)))); have a9 := t_sub e8x20 i4 (in_c 1 rfl) rfl; have oc := ocj_399_109; omega) (by (first | have a0 := oa6 h1 i4 ((inv_F hIc0 0 400 rfl v0_109_109)) i28a i24a i20x20 | ((first | have a0 := in_u h1 | (have a0 := h1; unfold In at a0)); (first | have a1 := in_u i4 | (have a1 := i4; unfold In at a1)); (first | have a2 := in_u ((inv_F hIc0 0 400 rfl v0_109_109)) | (have a2 := (inv_F hIc0 0 400 rfl v0_109_109); unfold In at a2)); (first | have a3 := in_u i28a | (have a3 := i28a; unfold In at a3)); (first | have a4 := in_u i24a | (have a4 := i24a; unfold In at a4)); (first | have a5 := in_u i20x20 | (have a5 := i20x20; unfold In at a5)))); have a6 := t_sub e20x20 i4 (in_c 1 rfl) rfl; (first | have a7 := oa2 ((in_c 1 rfl)) i8x20 | ((first | have a7 := in_u ((in_c 1 rfl)) | (have a7 := (in_c 1 rfl); unfold In at a7)); (first | have a8 := in_u i8x20 | (have a8 := i8x20; unfold In at a8)))); have a9 := t_sub e8x20 i4 (in_c 1 rfl) rfl; have oc := ocj_399_109; omega))) hF28 rfl
              have m0 : (z28a).toInt < ((k0 : Nat) : Int) := by (first | have a0 := oa6 h1 i4 ((inv_F hIc0 0 400 rfl v0_109_109)) i28a i24a i20x20 | ((first | have a0 := in_u h1 | (have a0 := h1; unfold In at a0)); (first | have a1 := in_u i4 | (have a1 := i4; unfold In at a1)); (first | have a2 := in_u ((inv_F hIc0 0 400 rfl v0_109_109)) | (have a2 := (inv_F hIc0 0 400 rfl v0_109_109); unfold In at a2)); (first | have a3 := in_u i28a | (have a3 := i28a; unfold In at a3)); (first | have a4 := in_u i24a | (have a4 := i24a; unfold In at a4)); (first | have a5 := in_u i20x20 | (have a5 := i20x20; unfold In at a5)))); have a6 := t_sub e20x20 i4 (in_c 1 rfl) rfl; (first | have a7 := oa2 ((in_c 1 rfl)) i8x20 | ((first | have a7 := in_u ((in_c 1 rfl)) | (have a7 := (in_c 1 rfl); unfold In at a7)); (first | have a8 := in_u i8x20 | (have a8 := i8x20; unfold In at a8)))); have a9 := t_sub e8x20 i4 (in_c 1 rfl) rfl; have oc := ocj_399_109; omega
              exact gg_w (by first | exact Nat.le_add_right _ _ | exact gw2 | exact gw3 | exact gwe rfl | exact gwf rfl | exact gwg rfl | exact gwh rfl | omega) (gg_f (gf_cons rfl (gf_cons rfl gf_nil)) (ih0  s28 z24a z28a hI28 (fr_tr rfl (fr_tr rfl hFc0 hF24) hF28) v0 e28 n0 n0a n0b n0c n0d m0))
            · skip
              exact zn_eq c20x4 i4 rfl
        · skip
          exact zn_eq c8x4 i4 rfl
  refine g_enter2 (k := 399) (N := 181801) (by first | exact dq1 hd rfl | exact dq0 hd rfl | exact dq2 hd rfl | exact dq3 hd rfl | omega) rfl (Nat.le_of_ble_eq_true rfl) ?_
  have n0 : (u_109_109).toInt + (u_109_111).toInt = (u_109_109).toInt + (u_109_111).toInt := by (first | have a0 := oa3 ((inv_F hI 0 200 rfl e_109_111)) ((inv_F hI 0 400 rfl e_109_109)) h1 | ((first | have a0 := in_u ((inv_F hI 0 200 rfl e_109_111)) | (have a0 := (inv_F hI 0 200 rfl e_109_111); unfold In at a0)); (first | have a1 := in_u ((inv_F hI 0 400 rfl e_109_109)) | (have a1 := (inv_F hI 0 400 rfl e_109_109); unfold In at a1)); (first | have a2 := in_u h1 | (have a2 := h1; unfold In at a2)))); have oc := ocj_399_109; omega
  have n0a : PR s s 1 1 := by exact pr_rf
  have n0b : pgL (x1).toInt (RWL s) (RQL s) = pgL (x1).toInt (RWL s) (RQL s) := by rfl
  have n0c : DPR s → DPR s := by exact fun h => h
  have n0d : QOK s → QOK s := by exact fun h => h
  have m0 : (u_109_111).toInt < ((201 : Nat) : Int) := by (first | have a0 := oa3 ((inv_F hI 0 200 rfl e_109_111)) ((inv_F hI 0 400 rfl e_109_109)) h1 | ((first | have a0 := in_u ((inv_F hI 0 200 rfl e_109_111)) | (have a0 := (inv_F hI 0 200 rfl e_109_111); unfold In at a0)); (first | have a1 := in_u ((inv_F hI 0 400 rfl e_109_109)) | (have a1 := (inv_F hI 0 400 rfl e_109_109); unfold In at a1)); (first | have a2 := in_u h1 | (have a2 := h1; unfold In at a2)))); have oc := ocj_399_109; omega
  exact gg_w (by first | exact Nat.le_of_ble_eq_true rfl | omega) (gg_f (gf_cons rfl (gf_cons rfl gf_nil)) (ct0 201 s u_109_109 u_109_111 hI fr_rf e_109_109 e_109_111 n0 n0a n0b n0c n0d m0))

theorem ocj_400_109 : (Int32.ofInt (-1)).toInt = (-1) ∧ (Int32.ofInt 0).toInt = 0 ∧ (Int32.ofInt 1).toInt = 1 ∧ (Int32.ofInt 2).toInt = 2 := ⟨rfl, rfl, rfl, rfl⟩
/-- GraphHouseModel.turn -/
theorem j_400 {Z : AmZ} {A : Nat → Nat} {s : GS} {ex : va_W} {d : Nat} {X : AmX} {u_109_109 : Int32} {u_109_111 : Int32} (hd : 3 ≤ d) (hI : Inv s) (e_109_109 : u_109_109 = s.2.2.1 109 109) (e_109_111 : u_109_111 = s.2.2.1 109 111) (p_0 : (u_109_109).toInt + (u_109_111).toInt ≤ 120) : GC Z d 400 [.ref (A 109)] (WW Z A s ++ ex) 0 0 (fun v u => ∃ t : GS, Inv t ∧ Fr fm_400 s t ∧ ((t.2.2.1 109 109).toInt + (t.2.2.1 109 111).toInt = (s.2.2.1 109 109).toInt + (s.2.2.1 109 111).toInt) ∧ v = none ∧ u = WW Z A t ++ ex ∧ (PR s t 1 1) ∧ (pgU (RWL s) (RQL s) = (RWL t, RQL t)) ∧ (DPR s → DPR t) ∧ (QOK s → QOK t)) X := by
  intro post xp hP hX
  have ct0 : ∀ (k0 : Nat) (sc0 : GS) (w0_109_109 : Int32) (w0_109_111 : Int32), Inv sc0 → Fr fm_400 s sc0 → (w0_109_109 = sc0.2.2.1 109 109) → (w0_109_111 = sc0.2.2.1 109 111) → ((w0_109_109).toInt + (w0_109_111).toInt = (u_109_109).toInt + (u_109_111).toInt) → (PR s sc0 1 1) → (pgU (RWL sc0) (RQL sc0) = pgU (RWL s) (RQL s)) → (DPR s → DPR sc0) → (QOK s → QOK sc0) → (w0_109_111).toInt < (k0 : Int) → GG Z (d - 1) 400 post (gx xp) (1 + k0 * 900) 0 (fun j => xlook j [(0, .ref (A 109))]) [] (WW Z A sc0 ++ ex) 0 0 := by
    intro k0
    induction k0 with
    | zero => intro sc0 w0_109_109 w0_109_111 hIc0 hFc0 v0_109_109 v0_109_111 n0_0 g0_0 g0_1 g0_2 g0_3 mm0; exfalso; (first | have a0 := oa2 ((inv_F hIc0 0 200 rfl v0_109_111)) ((inv_F hIc0 0 400 rfl v0_109_109)) | ((first | have a0 := in_u ((inv_F hIc0 0 200 rfl v0_109_111)) | (have a0 := (inv_F hIc0 0 200 rfl v0_109_111); unfold In at a0)); (first | have a1 := in_u ((inv_F hIc0 0 400 rfl v0_109_109)) | (have a1 := (inv_F hIc0 0 400 rfl v0_109_109); unfold In at a1)))); have oc := ocj_400_109; omega
    | succ k0 ih0 =>
      intro sc0 w0_109_109 w0_109_111 hIc0 hFc0 v0_109_109 v0_109_111 n0_0 g0_0 g0_1 g0_2 g0_3 mm0
      refine gg_w (M := 1 + k0 * 900 + 900) gws ?_
      refine g_aload_n 1 (gd rfl) rfl rfl ?_
      refine g_callv (X := _) (As := []) (r := []) (b := A 109) (q := 109) 4 (gd rfl) rfl rfl rfl rfl rfl (ww_o rfl) (Nat.le_of_ble_eq_true rfl) (mc := 0) (ms := 0) (Nat.zero_le _) (Nat.zero_le _) (P := fun v u => _) ?_ (fun e u h => h) (fun v u h => h)
      intro po1 xx1 hp1 hx1
      refine g_enter2 (k := 395) (N := 300) (by first | exact dq1 hd rfl | exact dq0 hd rfl | exact dq2 hd rfl | exact dq3 hd rfl | omega) rfl (Nat.le_of_ble_eq_true rfl) ?_
      refine g_aload_n 1 (gd rfl) rfl rfl ?_
      refine g_getI 4 (gd rfl) rfl rfl rfl (fun z1x1 e1x1 => ?_)
      have q1x1 : w0_109_111 = z1x1 := (v0_109_111).trans e1x1.symm
      subst q1x1
      refine g_if_ne 7 11 (gd rfl) rfl rfl (fun c1x4 => ?_) (fun c1x4 => ?_)
      · skip
        have i1x4 := z_ne 1 200 c1x4 (inv_F hIc0 0 200 rfl v0_109_111) rfl
        refine g_aload_n 12 (gd rfl) rfl rfl ?_
        refine g_getA (q2 := 190) 15 (gd rfl) rfl rfl rfl rfl ?_
        refine g_aload_n 16 (gd rfl) rfl rfl ?_
        refine g_getI 19 (gd rfl) rfl rfl rfl (fun z1x16 e1x16 => ?_)
        have q1x16 : w0_109_111 = z1x16 := (v0_109_111).trans e1x16.symm
        subst q1x16
        refine g_iconst 1 20 (gd rfl) rfl rfl ?_
        refine g_isub 21 (gd rfl) rfl (fun z1x20 e1x20 => ?_)
        have i1x20 := in_sub 0 199 e1x20 i1x4 (in_c 1 rfl) rfl rfl
        refine g_iaload 22 (gd rfl) rfl (n := 200) rfl (in_ix i1x20 rfl) (fun z1x21 e1x21 => ?_)
        refine g_ireturn (gd rfl) rfl rfl (hp1 _ _ ?_)
        show GG _ _ _ _ _ _ _ _ [.int z1x21] _ _ _
        refine g_iconst 2 5 (gd rfl) rfl rfl ?_
        refine g_cmp_ne 8 21 (gd rfl) rfl rfl (fun c5 => ?_) (fun c5 => ?_)
        · skip
          have n21 : PR s sc0 1 1 := by exact g0_0
          have n21a : pgU (RWL s) (RQL s) = (RWL sc0, RQL sc0) := by rw [← g0_1]; exact tu_en (by rw [(top_v (s := sc0) (by rw [← v0_109_111]; (first | have a0 := oa3 i1x4 ((inv_F hIc0 0 400 rfl v0_109_109)) i1x20 | ((first | have a0 := in_u i1x4 | (have a0 := i1x4; unfold In at a0)); (first | have a1 := in_u ((inv_F hIc0 0 400 rfl v0_109_109)) | (have a1 := (inv_F hIc0 0 400 rfl v0_109_109); unfold In at a1)); (first | have a2 := in_u i1x20 | (have a2 := i1x20; unfold In at a2)))); have a3 := t_sub e1x20 i1x4 (in_c 1 rfl) rfl; (first | have a4 := in_u ((in_c 1 rfl)) | (have a4 := (in_c 1 rfl); unfold In at a4)); have oc := ocj_400_109; omega) i1x20.1 e1x21)]; (first | have a0 := oa3 i1x4 ((inv_F hIc0 0 400 rfl v0_109_109)) i1x20 | ((first | have a0 := in_u i1x4 | (have a0 := i1x4; unfold In at a0)); (first | have a1 := in_u ((inv_F hIc0 0 400 rfl v0_109_109)) | (have a1 := (inv_F hIc0 0 400 rfl v0_109_109); unfold In at a1)); (first | have a2 := in_u i1x20 | (have a2 := i1x20; unfold In at a2)))); have a3 := t_sub e1x20 i1x4 (in_c 1 rfl) rfl; (first | have a4 := in_u ((in_c 1 rfl)) | (have a4 := (in_c 1 rfl); unfold In at a4)); have oc := ocj_400_109; omega)
          have n21b : DPR s → DPR sc0 := by exact g0_2
          have n21c : QOK s → QOK sc0 := by exact g0_3
          have n21d : (w0_109_109).toInt + (w0_109_111).toInt = (u_109_109).toInt + (u_109_111).toInt := by first | exact n0_0 | ((first | have a0 := oa3 i1x4 ((inv_F hIc0 0 400 rfl v0_109_109)) i1x20 | ((first | have a0 := in_u i1x4 | (have a0 := i1x4; unfold In at a0)); (first | have a1 := in_u ((inv_F hIc0 0 400 rfl v0_109_109)) | (have a1 := (inv_F hIc0 0 400 rfl v0_109_109); unfold In at a1)); (first | have a2 := in_u i1x20 | (have a2 := i1x20; unfold In at a2)))); have a3 := t_sub e1x20 i1x4 (in_c 1 rfl) rfl; (first | have a4 := in_u ((in_c 1 rfl)) | (have a4 := (in_c 1 rfl); unfold In at a4)); have oc := ocj_400_109; omega)
          have n21e : (sc0.2.2.1 109 109).toInt + (sc0.2.2.1 109 111).toInt = (s.2.2.1 109 109).toInt + (s.2.2.1 109 111).toInt := by have b0 : w0_109_109 = sc0.2.2.1 109 109 := v0_109_109; have b1 : w0_109_111 = sc0.2.2.1 109 111 := v0_109_111; first | (rw [← b0, ← b1, ← e_109_109, ← e_109_111]; exact n21d) | (rw [← b0, ← b1]; exact n21d)
          exact g_return (gd rfl) rfl (hP _ _ ⟨sc0, hIc0, hFc0, n21e, rfl, rfl, n21, n21a, n21b, n21c⟩)
        · skip
          have i5 := r_eq1 2 2 c5 (i_rng z1x21) (in_c 2 rfl) rfl
          refine g_aload_n 9 (gd rfl) rfl rfl ?_
          refine g_iconst 2 10 (gd rfl) rfl rfl ?_
          refine g_iconst 0 11 (gd rfl) rfl rfl ?_
          have n11 : (w0_109_109).toInt ≤ 399 := by (first | have a0 := oa3 i1x4 ((inv_F hIc0 0 400 rfl v0_109_109)) i1x20 | ((first | have a0 := in_u i1x4 | (have a0 := i1x4; unfold In at a0)); (first | have a1 := in_u ((inv_F hIc0 0 400 rfl v0_109_109)) | (have a1 := (inv_F hIc0 0 400 rfl v0_109_109); unfold In at a1)); (first | have a2 := in_u i1x20 | (have a2 := i1x20; unfold In at a2)))); have a3 := t_sub e1x20 i1x4 (in_c 1 rfl) rfl; (first | have a4 := in_u ((in_c 1 rfl)) | (have a4 := (in_c 1 rfl); unfold In at a4)); have oc := ocj_400_109; omega
          refine g_callv (X := _) (As := [.int (Int32.ofInt 2), .int (Int32.ofInt 0)]) (r := []) (b := A 109) (q := 109) 14 (gd rfl) rfl rfl rfl rfl rfl (ww_o rfl) (Nat.le_of_ble_eq_true rfl) (Nat.zero_le _) (Nat.zero_le _) (k_393 (by first | exact dq1 hd rfl | exact dq0 hd rfl | exact dq2 hd rfl | exact dq3 hd rfl | omega) hIc0 v0_109_109 n11) (fun e u h => h) (fun v u h => ?_)
          obtain ⟨s11, hI11, hF11, n11a, rfl, rfl, p11, p11a⟩ := h
          obtain ⟨z11a, e11⟩ : ∃ w, w = s11.2.2.1 109 109 := ⟨_, rfl⟩
          have i11a := inv_F hI11 0 400 rfl e11
          rw [← (show w0_109_109 = sc0.2.2.1 109 109 from v0_109_109)] at n11a
          rw [← (show z11a = s11.2.2.1 109 109 from e11)] at n11a
          show GG _ _ _ _ _ _ _ _ [] _ _ _
          refine g_aload_n 15 (gd rfl) rfl rfl ?_
          have v15 : w0_109_111 = s11.2.2.1 109 111 := fr_F (v0_109_111) hF11 rfl
          have n15 : 1 ≤ (w0_109_111).toInt := by (first | have a0 := oa4 i1x4 ((inv_F hIc0 0 400 rfl v0_109_109)) i11a i1x20 | ((first | have a0 := in_u i1x4 | (have a0 := i1x4; unfold In at a0)); (first | have a1 := in_u ((inv_F hIc0 0 400 rfl v0_109_109)) | (have a1 := (inv_F hIc0 0 400 rfl v0_109_109); unfold In at a1)); (first | have a2 := in_u i11a | (have a2 := i11a; unfold In at a2)); (first | have a3 := in_u i1x20 | (have a3 := i1x20; unfold In at a3)))); have a4 := t_sub e1x20 i1x4 (in_c 1 rfl) rfl; (first | have a5 := in_u ((in_c 1 rfl)) | (have a5 := (in_c 1 rfl); unfold In at a5)); have oc := ocj_400_109; omega
          refine g_callv (X := _) (As := []) (r := []) (b := A 109) (q := 109) 18 (gd rfl) rfl rfl rfl rfl rfl (ww_o rfl) (Nat.le_of_ble_eq_true rfl) (Nat.zero_le _) (Nat.zero_le _) (j_397 (by omega) hI11 v15 rfl n15) (fun e u h => h) (fun v u h => ?_)
          obtain ⟨s15, hI15, hF15, n15a, rfl, rfl, p15, p15a⟩ := h
          obtain ⟨z15a, e15⟩ : ∃ w, w = s15.2.2.1 109 111 := ⟨_, rfl⟩
          have i15a := inv_F hI15 0 200 rfl e15
          rw [← (show w0_109_111 = s11.2.2.1 109 111 from fr_F (v0_109_111) hF11 rfl)] at n15a
          rw [← (show z15a = s15.2.2.1 109 111 from e15)] at n15a
          show GG _ _ _ _ _ _ _ _ [] _ _ _
          refine g_goto 0 (gd rfl) rfl ?_
          have v0 : z11a = s15.2.2.1 109 109 := fr_F (e11) hF15 rfl
          have n0 : (z11a).toInt + (z15a).toInt = (u_109_109).toInt + (u_109_111).toInt := by (first | have a0 := oa5 i1x4 ((inv_F hIc0 0 400 rfl v0_109_109)) i15a i11a i1x20 | ((first | have a0 := in_u i1x4 | (have a0 := i1x4; unfold In at a0)); (first | have a1 := in_u ((inv_F hIc0 0 400 rfl v0_109_109)) | (have a1 := (inv_F hIc0 0 400 rfl v0_109_109); unfold In at a1)); (first | have a2 := in_u i15a | (have a2 := i15a; unfold In at a2)); (first | have a3 := in_u i11a | (have a3 := i11a; unfold In at a3)); (first | have a4 := in_u i1x20 | (have a4 := i1x20; unfold In at a4)))); have a5 := t_sub e1x20 i1x4 (in_c 1 rfl) rfl; (first | have a6 := in_u ((in_c 1 rfl)) | (have a6 := (in_c 1 rfl); unfold In at a6)); have oc := ocj_400_109; omega
          have n0a : PR s s15 1 1 := by exact pr_tr g0_0 (pr_set (n := (sc0.2.2.1 109 109).toNatClampNeg) (x := Int32.ofInt 2) (v := Int32.ofInt 0) (b := z1x20) ((hF15.1 187 rfl).trans p11) ((hF15.1 188 rfl).trans p11a) rfl (inv_F hIc0 0 400 rfl rfl).1 (by rw [hF15.2.2.1 109 109 rfl, ← e11, ← v0_109_109]; exact n11a) ((hF15.2.2.1 109 23 rfl).trans (hF11.2.2.1 109 23 rfl)) ((hF15.1 190 rfl).trans (hF11.1 190 rfl)) (by rw [← e15]; (first | have a0 := oa5 i1x4 ((inv_F hIc0 0 400 rfl v0_109_109)) i15a i11a i1x20 | ((first | have a0 := in_u i1x4 | (have a0 := i1x4; unfold In at a0)); (first | have a1 := in_u ((inv_F hIc0 0 400 rfl v0_109_109)) | (have a1 := (inv_F hIc0 0 400 rfl v0_109_109); unfold In at a1)); (first | have a2 := in_u i15a | (have a2 := i15a; unfold In at a2)); (first | have a3 := in_u i11a | (have a3 := i11a; unfold In at a3)); (first | have a4 := in_u i1x20 | (have a4 := i1x20; unfold In at a4)))); have a5 := t_sub e1x20 i1x4 (in_c 1 rfl) rfl; (first | have a6 := in_u ((in_c 1 rfl)) | (have a6 := (in_c 1 rfl); unfold In at a6)); have oc := ocj_400_109; omega) (by rw [← v0_109_111]; (first | have a0 := oa5 i1x4 ((inv_F hIc0 0 400 rfl v0_109_109)) i15a i11a i1x20 | ((first | have a0 := in_u i1x4 | (have a0 := i1x4; unfold In at a0)); (first | have a1 := in_u ((inv_F hIc0 0 400 rfl v0_109_109)) | (have a1 := (inv_F hIc0 0 400 rfl v0_109_109); unfold In at a1)); (first | have a2 := in_u i15a | (have a2 := i15a; unfold In at a2)); (first | have a3 := in_u i11a | (have a3 := i11a; unfold In at a3)); (first | have a4 := in_u i1x20 | (have a4 := i1x20; unfold In at a4)))); have a5 := t_sub e1x20 i1x4 (in_c 1 rfl) rfl; (first | have a6 := in_u ((in_c 1 rfl)) | (have a6 := (in_c 1 rfl); unfold In at a6)); have oc := ocj_400_109; omega) i1x20.1 ((Int32.toInt_inj.mp c5).symm.trans e1x21) (Or.inr ⟨rfl, trivial⟩))
          have n0b : pgU (RWL s15) (RQL s15) = pgU (RWL s) (RQL s) := by exact tu_st g0_1 (show RWL sc0 = 2 :: RWL s15 from (by have h9 := p15; rw [rwl_s (hF11.1 190 rfl) (hF11.2.2.1 109 111 rfl)] at h9; have h8 := (top_v (s := sc0) (by rw [← v0_109_111]; (first | have a0 := oa5 i1x4 ((inv_F hIc0 0 400 rfl v0_109_109)) i15a i11a i1x20 | ((first | have a0 := in_u i1x4 | (have a0 := i1x4; unfold In at a0)); (first | have a1 := in_u ((inv_F hIc0 0 400 rfl v0_109_109)) | (have a1 := (inv_F hIc0 0 400 rfl v0_109_109); unfold In at a1)); (first | have a2 := in_u i15a | (have a2 := i15a; unfold In at a2)); (first | have a3 := in_u i11a | (have a3 := i11a; unfold In at a3)); (first | have a4 := in_u i1x20 | (have a4 := i1x20; unfold In at a4)))); have a5 := t_sub e1x20 i1x4 (in_c 1 rfl) rfl; (first | have a6 := in_u ((in_c 1 rfl)) | (have a6 := (in_c 1 rfl); unfold In at a6)); have oc := ocj_400_109; omega) i1x20.1 e1x21); rw [h9] at h8; rw [h9, show (s11.1 190 (s15.2.2.1 109 111).toNatClampNeg).toInt = 2 from h8.trans (show (z1x21).toInt = 2 from (by (first | have a0 := oa5 i1x4 ((inv_F hIc0 0 400 rfl v0_109_109)) i15a i11a i1x20 | ((first | have a0 := in_u i1x4 | (have a0 := i1x4; unfold In at a0)); (first | have a1 := in_u ((inv_F hIc0 0 400 rfl v0_109_109)) | (have a1 := (inv_F hIc0 0 400 rfl v0_109_109); unfold In at a1)); (first | have a2 := in_u i15a | (have a2 := i15a; unfold In at a2)); (first | have a3 := in_u i11a | (have a3 := i11a; unfold In at a3)); (first | have a4 := in_u i1x20 | (have a4 := i1x20; unfold In at a4)))); have a5 := t_sub e1x20 i1x4 (in_c 1 rfl) rfl; (first | have a6 := in_u ((in_c 1 rfl)) | (have a6 := (in_c 1 rfl); unfold In at a6)); have oc := ocj_400_109; omega))])) (show RQL s15 = 1000226 :: RQL sc0 from (by rw [rql_s (hF15.1 187 rfl) (hF15.1 188 rfl) (hF15.2.2.1 109 109 rfl), rql_a p11 p11a (by rw [← e11, ← v0_109_109]; exact n11a) (inv_F hIc0 0 400 (q := 109) (j := 109) rfl rfl).1]; rfl))
          have n0c : DPR s → DPR s15 := by intro hd; exact p15a (dpr_s (g0_2 hd) (rwl_s (hF11.1 190 rfl) (hF11.2.2.1 109 111 rfl)) (hF11.2.2.1 109 112 rfl))
          have n0d : QOK s → QOK s15 := by intro hq; exact qok_fr (qok_a (g0_3 hq) p11 p11a (by rw [← e11, ← v0_109_109]; exact n11a) (inv_F hIc0 0 400 (q := 109) (j := 109) rfl rfl).1 (okr_2 rfl)) hF15 rfl
          have m0 : (z15a).toInt < ((k0 : Nat) : Int) := by (first | have a0 := oa5 i1x4 ((inv_F hIc0 0 400 rfl v0_109_109)) i15a i11a i1x20 | ((first | have a0 := in_u i1x4 | (have a0 := i1x4; unfold In at a0)); (first | have a1 := in_u ((inv_F hIc0 0 400 rfl v0_109_109)) | (have a1 := (inv_F hIc0 0 400 rfl v0_109_109); unfold In at a1)); (first | have a2 := in_u i15a | (have a2 := i15a; unfold In at a2)); (first | have a3 := in_u i11a | (have a3 := i11a; unfold In at a3)); (first | have a4 := in_u i1x20 | (have a4 := i1x20; unfold In at a4)))); have a5 := t_sub e1x20 i1x4 (in_c 1 rfl) rfl; (first | have a6 := in_u ((in_c 1 rfl)) | (have a6 := (in_c 1 rfl); unfold In at a6)); have oc := ocj_400_109; omega
          exact gg_w (by first | exact Nat.le_add_right _ _ | exact gw2 | exact gw3 | exact gwe rfl | exact gwf rfl | exact gwg rfl | exact gwh rfl | omega) (gg_f (gf_cons rfl gf_nil) (ih0  s15 z11a z15a hI15 (fr_tr rfl (fr_tr rfl hFc0 hF11) hF15) v0 e15 n0 n0a n0b n0c n0d m0))
      · skip
        have i1x4 := z_eq 0 0 c1x4 (inv_F hIc0 0 200 rfl v0_109_111) rfl
        refine g_iconst 0 8 (gd rfl) rfl rfl ?_
        refine g_goto 22 (gd rfl) rfl ?_
        refine g_ireturn (gd rfl) rfl rfl (hp1 _ _ ?_)
        show GG _ _ _ _ _ _ _ _ [.int (Int32.ofInt 0)] _ _ _
        refine g_iconst 2 5 (gd rfl) rfl rfl ?_
        refine g_cmp_ne 8 21 (gd rfl) rfl rfl (fun c5 => ?_) (fun c5 => ?_)
        · skip
          have n21 : PR s sc0 1 1 := by exact g0_0
          have n21a : pgU (RWL s) (RQL s) = (RWL sc0, RQL sc0) := by rw [← g0_1]; exact tu_en (by rw [top_0 (s := sc0) (by rw [← v0_109_111]; (first | have a0 := oa2 i1x4 ((inv_F hIc0 0 400 rfl v0_109_109)) | ((first | have a0 := in_u i1x4 | (have a0 := i1x4; unfold In at a0)); (first | have a1 := in_u ((inv_F hIc0 0 400 rfl v0_109_109)) | (have a1 := (inv_F hIc0 0 400 rfl v0_109_109); unfold In at a1)))); have oc := ocj_400_109; omega)]; decide)
          have n21b : DPR s → DPR sc0 := by exact g0_2
          have n21c : QOK s → QOK sc0 := by exact g0_3
          have n21d : (w0_109_109).toInt + (w0_109_111).toInt = (u_109_109).toInt + (u_109_111).toInt := by first | exact n0_0 | ((first | have a0 := oa2 i1x4 ((inv_F hIc0 0 400 rfl v0_109_109)) | ((first | have a0 := in_u i1x4 | (have a0 := i1x4; unfold In at a0)); (first | have a1 := in_u ((inv_F hIc0 0 400 rfl v0_109_109)) | (have a1 := (inv_F hIc0 0 400 rfl v0_109_109); unfold In at a1)))); have oc := ocj_400_109; omega)
          have n21e : (sc0.2.2.1 109 109).toInt + (sc0.2.2.1 109 111).toInt = (s.2.2.1 109 109).toInt + (s.2.2.1 109 111).toInt := by have b0 : w0_109_109 = sc0.2.2.1 109 109 := v0_109_109; have b1 : w0_109_111 = sc0.2.2.1 109 111 := v0_109_111; first | (rw [← b0, ← b1, ← e_109_109, ← e_109_111]; exact n21d) | (rw [← b0, ← b1]; exact n21d)
          exact g_return (gd rfl) rfl (hP _ _ ⟨sc0, hIc0, hFc0, n21e, rfl, rfl, n21, n21a, n21b, n21c⟩)
        · skip
          exact n_eq c5 (in_c 0 rfl) (in_c 2 rfl) rfl
  refine g_enter2 (k := 400) (N := 181801) (by first | exact dq1 hd rfl | exact dq0 hd rfl | exact dq2 hd rfl | exact dq3 hd rfl | omega) rfl (Nat.le_of_ble_eq_true rfl) ?_
  have n0 : (u_109_109).toInt + (u_109_111).toInt = (u_109_109).toInt + (u_109_111).toInt := by (first | have a0 := oa2 ((inv_F hI 0 200 rfl e_109_111)) ((inv_F hI 0 400 rfl e_109_109)) | ((first | have a0 := in_u ((inv_F hI 0 200 rfl e_109_111)) | (have a0 := (inv_F hI 0 200 rfl e_109_111); unfold In at a0)); (first | have a1 := in_u ((inv_F hI 0 400 rfl e_109_109)) | (have a1 := (inv_F hI 0 400 rfl e_109_109); unfold In at a1)))); have oc := ocj_400_109; omega
  have n0a : PR s s 1 1 := by exact pr_rf
  have n0b : pgU (RWL s) (RQL s) = pgU (RWL s) (RQL s) := by rfl
  have n0c : DPR s → DPR s := by exact fun h => h
  have n0d : QOK s → QOK s := by exact fun h => h
  have m0 : (u_109_111).toInt < ((201 : Nat) : Int) := by (first | have a0 := oa2 ((inv_F hI 0 200 rfl e_109_111)) ((inv_F hI 0 400 rfl e_109_109)) | ((first | have a0 := in_u ((inv_F hI 0 200 rfl e_109_111)) | (have a0 := (inv_F hI 0 200 rfl e_109_111); unfold In at a0)); (first | have a1 := in_u ((inv_F hI 0 400 rfl e_109_109)) | (have a1 := (inv_F hI 0 400 rfl e_109_109); unfold In at a1)))); have oc := ocj_400_109; omega
  exact gg_w (by first | exact Nat.le_of_ble_eq_true rfl | omega) (gg_f (gf_cons rfl gf_nil) (ct0 201 s u_109_109 u_109_111 hI fr_rf e_109_109 e_109_111 n0 n0a n0b n0c n0d m0))

theorem ocj_401_109 : (Int32.ofInt (-1)).toInt = (-1) ∧ (Int32.ofInt 0).toInt = 0 ∧ (Int32.ofInt 1).toInt = 1 ∧ (Int32.ofInt 2).toInt = 2 ∧ (Int32.ofInt 3).toInt = 3 ∧ (Int32.ofInt 5).toInt = 5 ∧ (Int32.ofInt 10).toInt = 10 ∧ (Int32.ofInt 40).toInt = 40 ∧ (Int32.ofInt 45).toInt = 45 := ⟨rfl, rfl, rfl, rfl, rfl, rfl, rfl, rfl, rfl⟩
set_option maxHeartbeats 4000000 in
/-- GraphHouseModel.factor -/
theorem j_401 {Z : AmZ} {A : Nat → Nat} {s : GS} {ex : va_W} {d : Nat} {X : AmX} {u_109_109 : Int32} {u_109_111 : Int32} {u_109_28 : Int32} (hd : 4 ≤ d) (hI : Inv s) (e_109_109 : u_109_109 = s.2.2.1 109 109) (e_109_111 : u_109_111 = s.2.2.1 109 111) (e_109_28 : u_109_28 = s.2.2.1 109 28) (p_0 : (u_109_109).toInt + (u_109_111).toInt ≤ 120) (p_1 : (u_109_28).toInt ≠ 0 → (u_109_109).toInt + (u_109_111).toInt ≤ 119) : GC Z d 401 [.ref (A 109)] (WW Z A s ++ ex) 0 0 (fun v u => ∃ t : GS, Inv t ∧ Fr fm_401 s t ∧ ((t.2.2.1 109 109).toInt + (t.2.2.1 109 111).toInt ≤ (s.2.2.1 109 109).toInt + (s.2.2.1 109 111).toInt + 1) ∧ ((s.2.2.1 109 28).toInt = 0 → (t.2.2.1 109 109).toInt + (t.2.2.1 109 111).toInt = (s.2.2.1 109 109).toInt + (s.2.2.1 109 111).toInt) ∧ ((s.2.2.1 109 28).toInt = 0 → 1 ≤ (t.2.2.1 109 23).toInt) ∧ ∃ z : Int32, v = some (.int z) ∧ u = WW Z A t ++ ex ∧ In z 0 1 ∧ ((z).toInt = 0 → PR s t 0 0) ∧ ((z).toInt ≠ 0 → PR s t 0 1) ∧ (FAC s t (z).toInt) ∧ ((s.2.2.1 109 23).toInt = 0 → ∀ k v, NPV s k v → QOK s → ((t).2.2.1 109 23).toInt = 0 → QOK t)) X := by
  intro post xp hP hX
  obtain ⟨u_109_29, e_109_29⟩ : ∃ w, w = s.2.2.1 109 29 := ⟨_, rfl⟩
  have ro_109_29 := inv_F hI 0 1000 rfl e_109_29
  obtain ⟨u_109_30, e_109_30⟩ : ∃ w, w = s.2.2.1 109 30 := ⟨_, rfl⟩
  refine g_enter2 (k := 401) (N := 900) (by first | exact dq1 hd rfl | exact dq0 hd rfl | exact dq2 hd rfl | exact dq3 hd rfl | omega) rfl (Nat.le_of_ble_eq_true rfl) ?_
  refine g_aload_n 1 (gd rfl) rfl rfl ?_
  refine g_getI 4 (gd rfl) rfl rfl rfl (fun z1 e1 => ?_)
  have q1 : u_109_28 = z1 := (e_109_28).trans e1.symm
  subst q1
  refine g_iconst 2 5 (gd rfl) rfl rfl ?_
  refine g_cmp_ne 8 24 (gd rfl) rfl rfl (fun c5 => ?_) (fun c5 => ?_)
  · skip
    refine g_aload_n 25 (gd rfl) rfl rfl ?_
    refine g_getI 28 (gd rfl) rfl rfl rfl (fun z25 e25 => ?_)
    have q25 : u_109_28 = z25 := (e_109_28).trans e25.symm
    subst q25
    refine g_iconst 1 29 (gd rfl) rfl rfl ?_
    refine g_cmp_ne 32 65 (gd rfl) rfl rfl (fun c29 => ?_) (fun c29 => ?_)
    · skip
      refine g_aload_n 66 (gd rfl) rfl rfl ?_
      refine g_getI 69 (gd rfl) rfl rfl rfl (fun z66 e66 => ?_)
      have q66 : u_109_28 = z66 := (e_109_28).trans e66.symm
      subst q66
      refine g_iconst 3 70 (gd rfl) rfl rfl ?_
      refine g_cmp_ne 73 91 (gd rfl) rfl rfl (fun c70 => ?_) (fun c70 => ?_)
      · skip
        refine g_aload_n 92 (gd rfl) rfl rfl ?_
        refine g_iconst 2 93 (gd rfl) rfl rfl ?_
        refine g_aload_n 94 (gd rfl) rfl rfl ?_
        refine g_getI 97 (gd rfl) rfl rfl rfl (fun z94 e94 => ?_)
        have q94 : u_109_29 = z94 := (e_109_29).trans e94.symm
        subst q94
        refine g_callv (X := _) (As := [.int (Int32.ofInt 2), .int u_109_29]) (r := []) (b := A 109) (q := 109) 100 (gd rfl) rfl rfl rfl rfl rfl (ww_o rfl) (Nat.le_of_ble_eq_true rfl) (Nat.zero_le _) (Nat.zero_le _) (f_298 (by first | exact dq1 hd rfl | exact dq0 hd rfl | exact dq2 hd rfl | exact dq3 hd rfl | omega) hI (in_w 1 5 (in_c 2 rfl) rfl) rfl) (fun e u h => h) (fun v u h => ?_)
        obtain ⟨s97, hI97, hF97, n97, rfl, rfl, p97⟩ := h
        obtain ⟨z97a, e97⟩ : ∃ w, w = s97.2.2.1 109 23 := ⟨_, rfl⟩
        have i97a := inv_F hI97 0 9 rfl e97
        rw [← (show z97a = s97.2.2.1 109 23 from e97)] at n97
        show GG _ _ _ _ _ _ _ _ [] _ _ _
        refine g_goto 143 (gd rfl) rfl ?_
        refine g_iconst 0 144 (gd rfl) rfl rfl ?_
        have n144 : ((Int32.ofInt 0)).toInt = 0 → PR s s97 0 0 := by intro hR; first | (exfalso; revert hR; decide) | exact pr_hold (hF140.1 187 rfl) (hF140.1 188 rfl) (hF140.2.2.1 109 109 rfl) (hF140.2.2.1 109 23 rfl) p140 (by rw [← e140, ← e_109_111]; exact n140a) (inv_F hI 0 200 rfl rfl).1 (Or.inl ⟨Or.inl rfl, rfl⟩) | exact pr_hold (hF140.1 187 rfl) (hF140.1 188 rfl) (hF140.2.2.1 109 109 rfl) (hF140.2.2.1 109 23 rfl) p140 (by rw [← e140, ← e_109_111]; exact n140a) (inv_F hI 0 200 rfl rfl).1 (Or.inl ⟨Or.inr rfl, rfl⟩) | exact pr_flt (hF97.1 187 rfl) (hF97.1 188 rfl) (hF97.2.2.1 109 109 rfl) (by rw [← e97]; omega) | exact pr_flt (hF118.1 187 rfl) (hF118.1 188 rfl) (hF118.2.2.1 109 109 rfl) (by rw [← e118]; omega)
        have n144a : ((Int32.ofInt 0)).toInt ≠ 0 → PR s s97 0 1 := by exact fun h => absurd rfl h
        have n144b : FAC s s97 ((Int32.ofInt 0)).toInt := by intro h0 hd k v hv; have hn := npv_n hv; rw [← e_109_28, ← e_109_30] at hn; exact ⟨fun hR => absurd rfl hR, fun _ => fac_f (f := 2) (px_x (by (first | have a0 := oa4 ro_109_29 ((inv_F hI 0 200 rfl e_109_111)) ((inv_F hI 0 400 rfl e_109_109)) i97a | ((first | have a0 := in_u ro_109_29 | (have a0 := ro_109_29; unfold In at a0)); (first | have a1 := in_u ((inv_F hI 0 200 rfl e_109_111)) | (have a1 := (inv_F hI 0 200 rfl e_109_111); unfold In at a1)); (first | have a2 := in_u ((inv_F hI 0 400 rfl e_109_109)) | (have a2 := (inv_F hI 0 400 rfl e_109_109); unfold In at a2)); (first | have a3 := in_u i97a | (have a3 := i97a; unfold In at a3)))); have oc := ocj_401_109; omega) (by (first | have a0 := oa4 ro_109_29 ((inv_F hI 0 200 rfl e_109_111)) ((inv_F hI 0 400 rfl e_109_109)) i97a | ((first | have a0 := in_u ro_109_29 | (have a0 := ro_109_29; unfold In at a0)); (first | have a1 := in_u ((inv_F hI 0 200 rfl e_109_111)) | (have a1 := (inv_F hI 0 200 rfl e_109_111); unfold In at a1)); (first | have a2 := in_u ((inv_F hI 0 400 rfl e_109_109)) | (have a2 := (inv_F hI 0 400 rfl e_109_109); unfold In at a2)); (first | have a3 := in_u i97a | (have a3 := i97a; unfold In at a3)))); have oc := ocj_401_109; omega) (by (first | have a0 := oa4 ro_109_29 ((inv_F hI 0 200 rfl e_109_111)) ((inv_F hI 0 400 rfl e_109_109)) i97a | ((first | have a0 := in_u ro_109_29 | (have a0 := ro_109_29; unfold In at a0)); (first | have a1 := in_u ((inv_F hI 0 200 rfl e_109_111)) | (have a1 := (inv_F hI 0 200 rfl e_109_111); unfold In at a1)); (first | have a2 := in_u ((inv_F hI 0 400 rfl e_109_109)) | (have a2 := (inv_F hI 0 400 rfl e_109_109); unfold In at a2)); (first | have a3 := in_u i97a | (have a3 := i97a; unfold In at a3)))); have oc := ocj_401_109; omega) (by (first | have a0 := oa4 ro_109_29 ((inv_F hI 0 200 rfl e_109_111)) ((inv_F hI 0 400 rfl e_109_109)) i97a | ((first | have a0 := in_u ro_109_29 | (have a0 := ro_109_29; unfold In at a0)); (first | have a1 := in_u ((inv_F hI 0 200 rfl e_109_111)) | (have a1 := (inv_F hI 0 200 rfl e_109_111); unfold In at a1)); (first | have a2 := in_u ((inv_F hI 0 400 rfl e_109_109)) | (have a2 := (inv_F hI 0 400 rfl e_109_109); unfold In at a2)); (first | have a3 := in_u i97a | (have a3 := i97a; unfold In at a3)))); have oc := ocj_401_109; omega) (by (first | have a0 := oa4 ro_109_29 ((inv_F hI 0 200 rfl e_109_111)) ((inv_F hI 0 400 rfl e_109_109)) i97a | ((first | have a0 := in_u ro_109_29 | (have a0 := ro_109_29; unfold In at a0)); (first | have a1 := in_u ((inv_F hI 0 200 rfl e_109_111)) | (have a1 := (inv_F hI 0 200 rfl e_109_111); unfold In at a1)); (first | have a2 := in_u ((inv_F hI 0 400 rfl e_109_109)) | (have a2 := (inv_F hI 0 400 rfl e_109_109); unfold In at a2)); (first | have a3 := in_u i97a | (have a3 := i97a; unfold In at a3)))); have oc := ocj_401_109; omega)) (by decide) ((p97.1 h0).1.trans rfl) ((p97.1 h0).2.trans (congrArg Int32.toInt e_109_29))⟩
        have n144c : (s.2.2.1 109 23).toInt = 0 → ∀ k v, NPV s k v → QOK s → ((s97).2.2.1 109 23).toInt = 0 → QOK s97 := by intro h0 k v hv hq hf; exact qok_fr hq hF97 rfl
        have n144d : (u_109_109).toInt + (u_109_111).toInt ≤ (u_109_109).toInt + (u_109_111).toInt + 1 := by (first | have a0 := oa4 ro_109_29 ((inv_F hI 0 200 rfl e_109_111)) ((inv_F hI 0 400 rfl e_109_109)) i97a | ((first | have a0 := in_u ro_109_29 | (have a0 := ro_109_29; unfold In at a0)); (first | have a1 := in_u ((inv_F hI 0 200 rfl e_109_111)) | (have a1 := (inv_F hI 0 200 rfl e_109_111); unfold In at a1)); (first | have a2 := in_u ((inv_F hI 0 400 rfl e_109_109)) | (have a2 := (inv_F hI 0 400 rfl e_109_109); unfold In at a2)); (first | have a3 := in_u i97a | (have a3 := i97a; unfold In at a3)))); have oc := ocj_401_109; omega
        have n144e : (s97.2.2.1 109 109).toInt + (s97.2.2.1 109 111).toInt ≤ (s.2.2.1 109 109).toInt + (s.2.2.1 109 111).toInt + 1 := by have b0 : u_109_109 = s97.2.2.1 109 109 := fr_F (e_109_109) hF97 rfl; have b1 : u_109_111 = s97.2.2.1 109 111 := fr_F (e_109_111) hF97 rfl; first | (rw [← b0, ← b1, ← e_109_109, ← e_109_111]; exact n144d) | (rw [← b0, ← b1]; exact n144d)
        have n144f : (u_109_28).toInt = 0 → (u_109_109).toInt + (u_109_111).toInt = (u_109_109).toInt + (u_109_111).toInt := by (first | have a0 := oa4 ro_109_29 ((inv_F hI 0 200 rfl e_109_111)) ((inv_F hI 0 400 rfl e_109_109)) i97a | ((first | have a0 := in_u ro_109_29 | (have a0 := ro_109_29; unfold In at a0)); (first | have a1 := in_u ((inv_F hI 0 200 rfl e_109_111)) | (have a1 := (inv_F hI 0 200 rfl e_109_111); unfold In at a1)); (first | have a2 := in_u ((inv_F hI 0 400 rfl e_109_109)) | (have a2 := (inv_F hI 0 400 rfl e_109_109); unfold In at a2)); (first | have a3 := in_u i97a | (have a3 := i97a; unfold In at a3)))); have oc := ocj_401_109; omega
        have n144g : (s.2.2.1 109 28).toInt = 0 → (s97.2.2.1 109 109).toInt + (s97.2.2.1 109 111).toInt = (s.2.2.1 109 109).toInt + (s.2.2.1 109 111).toInt := by have b0 : u_109_109 = s97.2.2.1 109 109 := fr_F (e_109_109) hF97 rfl; have b1 : u_109_111 = s97.2.2.1 109 111 := fr_F (e_109_111) hF97 rfl; first | (rw [← b0, ← b1, ← e_109_28, ← e_109_109, ← e_109_111]; exact n144f) | (rw [← b0, ← b1]; exact n144f)
        have n144h : (u_109_28).toInt = 0 → 1 ≤ (z97a).toInt := by (first | have a0 := oa4 ro_109_29 ((inv_F hI 0 200 rfl e_109_111)) ((inv_F hI 0 400 rfl e_109_109)) i97a | ((first | have a0 := in_u ro_109_29 | (have a0 := ro_109_29; unfold In at a0)); (first | have a1 := in_u ((inv_F hI 0 200 rfl e_109_111)) | (have a1 := (inv_F hI 0 200 rfl e_109_111); unfold In at a1)); (first | have a2 := in_u ((inv_F hI 0 400 rfl e_109_109)) | (have a2 := (inv_F hI 0 400 rfl e_109_109); unfold In at a2)); (first | have a3 := in_u i97a | (have a3 := i97a; unfold In at a3)))); have oc := ocj_401_109; omega
        have n144i : (s.2.2.1 109 28).toInt = 0 → 1 ≤ (s97.2.2.1 109 23).toInt := by have b0 : z97a = s97.2.2.1 109 23 := e97; rw [← b0, ← e_109_28]; exact n144h
        exact g_ireturn (gd rfl) rfl (nb01 (in_w 0 1 (in_c 0 rfl) rfl)) (hP _ _ ⟨s97, hI97, (fr_tr rfl fr_rf hF97), n144e, n144g, n144i, (Int32.ofInt 0), rfl, rfl, in_w 0 1 (in_c 0 rfl) rfl, n144, n144a, n144b, n144c⟩)
      · skip
        have i70 := r_eq1 3 3 c70 (inv_F hI (-2147483648) 2147483647 rfl e_109_28) (in_c 3 rfl) rfl
        refine g_aload_n 74 (gd rfl) rfl rfl ?_
        refine g_getI 77 (gd rfl) rfl rfl rfl (fun z74 e74 => ?_)
        have q74 : u_109_30 = z74 := (e_109_30).trans e74.symm
        subst q74
        refine g_bipush 45 79 (gd rfl) rfl rfl ?_
        refine g_cmp_eq 82 103 (gd rfl) rfl rfl (fun c79 => ?_) (fun c79 => ?_)
        · skip
          have i79 := r_eq1 45 45 c79 (i_rng u_109_30) (in_c 45 rfl) rfl
          refine g_aload_n 104 (gd rfl) rfl rfl ?_
          refine g_getI 107 (gd rfl) rfl rfl rfl (fun z104 e104 => ?_)
          refine g_bipush 10 109 (gd rfl) rfl rfl ?_
          refine g_cmp_lt 112 124 (gd rfl) rfl rfl (fun c109 => ?_) (fun c109 => ?_)
          · skip
            have i109 := r_lt1 (-2147483648) 9 c109 (i_rng z104) (in_c 10 rfl) rfl
            refine g_aload_n 125 (gd rfl) rfl rfl ?_
            refine g_aload_n 126 (gd rfl) rfl rfl ?_
            refine g_getI 129 (gd rfl) rfl rfl rfl (fun z126 e126 => ?_)
            have q126 : u_109_30 = z126 := (e_109_30).trans e126.symm
            subst q126
            refine g_bipush 45 131 (gd rfl) rfl rfl ?_
            refine g_cmp_ne 134 138 (gd rfl) rfl rfl (fun c131 => ?_) (fun c131 => ?_)
            · skip
              exact n_ne c131 i79 (in_c 45 rfl) rfl
            · skip
              refine g_iconst 2 135 (gd rfl) rfl rfl ?_
              refine g_goto 140 (gd rfl) rfl ?_
              have n140 : (u_109_111).toInt ≤ 199 := by (first | have a0 := oa6 i79 ro_109_29 i70 ((inv_F hI 0 200 rfl e_109_111)) ((inv_F hI 0 400 rfl e_109_109)) i109 | ((first | have a0 := in_u i79 | (have a0 := i79; unfold In at a0)); (first | have a1 := in_u ro_109_29 | (have a1 := ro_109_29; unfold In at a1)); (first | have a2 := in_u i70 | (have a2 := i70; unfold In at a2)); (first | have a3 := in_u ((inv_F hI 0 200 rfl e_109_111)) | (have a3 := (inv_F hI 0 200 rfl e_109_111); unfold In at a3)); (first | have a4 := in_u ((inv_F hI 0 400 rfl e_109_109)) | (have a4 := (inv_F hI 0 400 rfl e_109_109); unfold In at a4)); (first | have a5 := in_u i109 | (have a5 := i109; unfold In at a5)))); have oc := ocj_401_109; omega
              refine g_callv (X := _) (As := [.int (Int32.ofInt 2)]) (r := []) (b := A 109) (q := 109) 143 (gd rfl) rfl rfl rfl rfl rfl (ww_o rfl) (Nat.le_of_ble_eq_true rfl) (Nat.zero_le _) (Nat.zero_le _) (j_396 (by omega) hI e_109_111 e104 n140) (fun e u h => h) (fun v u h => ?_)
              obtain ⟨s140, hI140, hF140, n140a, rfl, rfl, p140, p140a⟩ := h
              obtain ⟨z140a, e140⟩ : ∃ w, w = s140.2.2.1 109 111 := ⟨_, rfl⟩
              have i140a := inv_F hI140 0 200 rfl e140
              rw [← (show u_109_111 = s.2.2.1 109 111 from e_109_111)] at n140a
              rw [← (show z140a = s140.2.2.1 109 111 from e140)] at n140a
              show GG _ _ _ _ _ _ _ _ [] _ _ _
              refine g_iconst 0 144 (gd rfl) rfl rfl ?_
              have n144 : ((Int32.ofInt 0)).toInt = 0 → PR s s140 0 0 := by intro hR; first | (exfalso; revert hR; decide) | exact pr_hold (hF140.1 187 rfl) (hF140.1 188 rfl) (hF140.2.2.1 109 109 rfl) (hF140.2.2.1 109 23 rfl) p140 (by rw [← e140, ← e_109_111]; exact n140a) (inv_F hI 0 200 rfl rfl).1 (Or.inl ⟨Or.inl rfl, rfl⟩) | exact pr_hold (hF140.1 187 rfl) (hF140.1 188 rfl) (hF140.2.2.1 109 109 rfl) (hF140.2.2.1 109 23 rfl) p140 (by rw [← e140, ← e_109_111]; exact n140a) (inv_F hI 0 200 rfl rfl).1 (Or.inl ⟨Or.inr rfl, rfl⟩) | exact pr_flt (hF97.1 187 rfl) (hF97.1 188 rfl) (hF97.2.2.1 109 109 rfl) (by rw [← e97]; omega) | exact pr_flt (hF118.1 187 rfl) (hF118.1 188 rfl) (hF118.2.2.1 109 109 rfl) (by rw [← e118]; omega)
              have n144a : ((Int32.ofInt 0)).toInt ≠ 0 → PR s s140 0 1 := by exact fun h => absurd rfl h
              have n144b : FAC s s140 ((Int32.ofInt 0)).toInt := by intro h0 hd k v hv; have hn := npv_n hv; rw [← e_109_28, ← e_109_30] at hn; exact ⟨fun hR => absurd rfl hR, fun _ => fac_h (px_h (by (first | have a0 := oa6 i79 ro_109_29 i70 ((inv_F hI 0 200 rfl e_109_111)) ((inv_F hI 0 400 rfl e_109_109)) i140a | ((first | have a0 := in_u i79 | (have a0 := i79; unfold In at a0)); (first | have a1 := in_u ro_109_29 | (have a1 := ro_109_29; unfold In at a1)); (first | have a2 := in_u i70 | (have a2 := i70; unfold In at a2)); (first | have a3 := in_u ((inv_F hI 0 200 rfl e_109_111)) | (have a3 := (inv_F hI 0 200 rfl e_109_111); unfold In at a3)); (first | have a4 := in_u ((inv_F hI 0 400 rfl e_109_109)) | (have a4 := (inv_F hI 0 400 rfl e_109_109); unfold In at a4)); (first | have a5 := in_u i140a | (have a5 := i140a; unfold In at a5)))); have oc := ocj_401_109; omega) (by (first | have a0 := oa6 i79 ro_109_29 i70 ((inv_F hI 0 200 rfl e_109_111)) ((inv_F hI 0 400 rfl e_109_109)) i140a | ((first | have a0 := in_u i79 | (have a0 := i79; unfold In at a0)); (first | have a1 := in_u ro_109_29 | (have a1 := ro_109_29; unfold In at a1)); (first | have a2 := in_u i70 | (have a2 := i70; unfold In at a2)); (first | have a3 := in_u ((inv_F hI 0 200 rfl e_109_111)) | (have a3 := (inv_F hI 0 200 rfl e_109_111); unfold In at a3)); (first | have a4 := in_u ((inv_F hI 0 400 rfl e_109_109)) | (have a4 := (inv_F hI 0 400 rfl e_109_109); unfold In at a4)); (first | have a5 := in_u i140a | (have a5 := i140a; unfold In at a5)))); have oc := ocj_401_109; omega) (by have h9 : (s.2.2.1 109 112).toInt = pgD (RWL s) := hd; rw [← e104] at h9; (first | have a0 := oa6 i79 ro_109_29 i70 ((inv_F hI 0 200 rfl e_109_111)) ((inv_F hI 0 400 rfl e_109_109)) i140a | ((first | have a0 := in_u i79 | (have a0 := i79; unfold In at a0)); (first | have a1 := in_u ro_109_29 | (have a1 := ro_109_29; unfold In at a1)); (first | have a2 := in_u i70 | (have a2 := i70; unfold In at a2)); (first | have a3 := in_u ((inv_F hI 0 200 rfl e_109_111)) | (have a3 := (inv_F hI 0 200 rfl e_109_111); unfold In at a3)); (first | have a4 := in_u ((inv_F hI 0 400 rfl e_109_109)) | (have a4 := (inv_F hI 0 400 rfl e_109_109); unfold In at a4)); (first | have a5 := in_u i140a | (have a5 := i140a; unfold In at a5)))); have oc := ocj_401_109; omega)) (rwl_h p140 (by rw [← e140, ← e_109_111]; exact n140a) (inv_F hI 0 200 (q := 109) (j := 111) rfl rfl).1) (rql_s (hF140.1 187 rfl) (hF140.1 188 rfl) (hF140.2.2.1 109 109 rfl)) (by rw [hF140.2.2.1 109 23 rfl]; exact h0) (p140a hd)⟩
              have n144c : (s.2.2.1 109 23).toInt = 0 → ∀ k v, NPV s k v → QOK s → ((s140).2.2.1 109 23).toInt = 0 → QOK s140 := by intro h0 k v hv hq hf; exact qok_fr hq hF140 rfl
              have n144d : (u_109_109).toInt + (z140a).toInt ≤ (u_109_109).toInt + (u_109_111).toInt + 1 := by (first | have a0 := oa6 i79 ro_109_29 i70 ((inv_F hI 0 200 rfl e_109_111)) ((inv_F hI 0 400 rfl e_109_109)) i140a | ((first | have a0 := in_u i79 | (have a0 := i79; unfold In at a0)); (first | have a1 := in_u ro_109_29 | (have a1 := ro_109_29; unfold In at a1)); (first | have a2 := in_u i70 | (have a2 := i70; unfold In at a2)); (first | have a3 := in_u ((inv_F hI 0 200 rfl e_109_111)) | (have a3 := (inv_F hI 0 200 rfl e_109_111); unfold In at a3)); (first | have a4 := in_u ((inv_F hI 0 400 rfl e_109_109)) | (have a4 := (inv_F hI 0 400 rfl e_109_109); unfold In at a4)); (first | have a5 := in_u i140a | (have a5 := i140a; unfold In at a5)))); have oc := ocj_401_109; omega
              have n144e : (s140.2.2.1 109 109).toInt + (s140.2.2.1 109 111).toInt ≤ (s.2.2.1 109 109).toInt + (s.2.2.1 109 111).toInt + 1 := by have b0 : u_109_109 = s140.2.2.1 109 109 := fr_F (e_109_109) hF140 rfl; have b1 : z140a = s140.2.2.1 109 111 := e140; first | (rw [← b0, ← b1, ← e_109_109, ← e_109_111]; exact n144d) | (rw [← b0, ← b1]; exact n144d)
              have n144f : (u_109_28).toInt = 0 → (u_109_109).toInt + (z140a).toInt = (u_109_109).toInt + (u_109_111).toInt := by (first | have a0 := oa6 i79 ro_109_29 i70 ((inv_F hI 0 200 rfl e_109_111)) ((inv_F hI 0 400 rfl e_109_109)) i140a | ((first | have a0 := in_u i79 | (have a0 := i79; unfold In at a0)); (first | have a1 := in_u ro_109_29 | (have a1 := ro_109_29; unfold In at a1)); (first | have a2 := in_u i70 | (have a2 := i70; unfold In at a2)); (first | have a3 := in_u ((inv_F hI 0 200 rfl e_109_111)) | (have a3 := (inv_F hI 0 200 rfl e_109_111); unfold In at a3)); (first | have a4 := in_u ((inv_F hI 0 400 rfl e_109_109)) | (have a4 := (inv_F hI 0 400 rfl e_109_109); unfold In at a4)); (first | have a5 := in_u i140a | (have a5 := i140a; unfold In at a5)))); have oc := ocj_401_109; omega
              have n144g : (s.2.2.1 109 28).toInt = 0 → (s140.2.2.1 109 109).toInt + (s140.2.2.1 109 111).toInt = (s.2.2.1 109 109).toInt + (s.2.2.1 109 111).toInt := by have b0 : u_109_109 = s140.2.2.1 109 109 := fr_F (e_109_109) hF140 rfl; have b1 : z140a = s140.2.2.1 109 111 := e140; first | (rw [← b0, ← b1, ← e_109_28, ← e_109_109, ← e_109_111]; exact n144f) | (rw [← b0, ← b1]; exact n144f)
              have n144h : (u_109_28).toInt = 0 → 1 ≤ ((s140.2.2.1 109 23)).toInt := by (first | have a0 := oa7 i79 ro_109_29 i70 ((inv_F hI 0 200 rfl e_109_111)) ((inv_F hI 0 400 rfl e_109_109)) i140a ((show In (s140.2.2.1 109 23) 0 9 from inv_F hI140 0 9 rfl rfl)) | ((first | have a0 := in_u i79 | (have a0 := i79; unfold In at a0)); (first | have a1 := in_u ro_109_29 | (have a1 := ro_109_29; unfold In at a1)); (first | have a2 := in_u i70 | (have a2 := i70; unfold In at a2)); (first | have a3 := in_u ((inv_F hI 0 200 rfl e_109_111)) | (have a3 := (inv_F hI 0 200 rfl e_109_111); unfold In at a3)); (first | have a4 := in_u ((inv_F hI 0 400 rfl e_109_109)) | (have a4 := (inv_F hI 0 400 rfl e_109_109); unfold In at a4)); (first | have a5 := in_u i140a | (have a5 := i140a; unfold In at a5)); (first | have a6 := in_u ((show In (s140.2.2.1 109 23) 0 9 from inv_F hI140 0 9 rfl rfl)) | (have a6 := (show In (s140.2.2.1 109 23) 0 9 from inv_F hI140 0 9 rfl rfl); unfold In at a6)))); have oc := ocj_401_109; omega
              have n144i : (s.2.2.1 109 28).toInt = 0 → 1 ≤ (s140.2.2.1 109 23).toInt := by rw [← e_109_28]; exact n144h
              exact g_ireturn (gd rfl) rfl (nb01 (in_w 0 1 (in_c 0 rfl) rfl)) (hP _ _ ⟨s140, hI140, (fr_tr rfl fr_rf hF140), n144e, n144g, n144i, (Int32.ofInt 0), rfl, rfl, in_w 0 1 (in_c 0 rfl) rfl, n144, n144a, n144b, n144c⟩)
          · skip
            have i109 := r_le2 10 2147483647 c109 (in_c 10 rfl) (i_rng z104) rfl
            refine g_aload_n 113 (gd rfl) rfl rfl ?_
            refine g_iconst 3 114 (gd rfl) rfl rfl ?_
            refine g_aload_n 115 (gd rfl) rfl rfl ?_
            refine g_getI 118 (gd rfl) rfl rfl rfl (fun z115 e115 => ?_)
            have q115 : u_109_29 = z115 := (e_109_29).trans e115.symm
            subst q115
            refine g_callv (X := _) (As := [.int (Int32.ofInt 3), .int u_109_29]) (r := []) (b := A 109) (q := 109) 121 (gd rfl) rfl rfl rfl rfl rfl (ww_o rfl) (Nat.le_of_ble_eq_true rfl) (Nat.zero_le _) (Nat.zero_le _) (f_298 (by first | exact dq1 hd rfl | exact dq0 hd rfl | exact dq2 hd rfl | exact dq3 hd rfl | omega) hI (in_w 1 5 (in_c 3 rfl) rfl) rfl) (fun e u h => h) (fun v u h => ?_)
            obtain ⟨s118, hI118, hF118, n118, rfl, rfl, p118⟩ := h
            obtain ⟨z118a, e118⟩ : ∃ w, w = s118.2.2.1 109 23 := ⟨_, rfl⟩
            have i118a := inv_F hI118 0 9 rfl e118
            rw [← (show z118a = s118.2.2.1 109 23 from e118)] at n118
            show GG _ _ _ _ _ _ _ _ [] _ _ _
            refine g_goto 143 (gd rfl) rfl ?_
            refine g_iconst 0 144 (gd rfl) rfl rfl ?_
            have n144 : ((Int32.ofInt 0)).toInt = 0 → PR s s118 0 0 := by intro hR; first | (exfalso; revert hR; decide) | exact pr_hold (hF140.1 187 rfl) (hF140.1 188 rfl) (hF140.2.2.1 109 109 rfl) (hF140.2.2.1 109 23 rfl) p140 (by rw [← e140, ← e_109_111]; exact n140a) (inv_F hI 0 200 rfl rfl).1 (Or.inl ⟨Or.inl rfl, rfl⟩) | exact pr_hold (hF140.1 187 rfl) (hF140.1 188 rfl) (hF140.2.2.1 109 109 rfl) (hF140.2.2.1 109 23 rfl) p140 (by rw [← e140, ← e_109_111]; exact n140a) (inv_F hI 0 200 rfl rfl).1 (Or.inl ⟨Or.inr rfl, rfl⟩) | exact pr_flt (hF97.1 187 rfl) (hF97.1 188 rfl) (hF97.2.2.1 109 109 rfl) (by rw [← e97]; omega) | exact pr_flt (hF118.1 187 rfl) (hF118.1 188 rfl) (hF118.2.2.1 109 109 rfl) (by rw [← e118]; omega)
            have n144a : ((Int32.ofInt 0)).toInt ≠ 0 → PR s s118 0 1 := by exact fun h => absurd rfl h
            have n144b : FAC s s118 ((Int32.ofInt 0)).toInt := by intro h0 hd k v hv; have hn := npv_n hv; rw [← e_109_28, ← e_109_30] at hn; exact ⟨fun hR => absurd rfl hR, fun _ => fac_f (f := 3) (px_3 (by (first | have a0 := oa7 i79 ro_109_29 i70 ((inv_F hI 0 200 rfl e_109_111)) ((inv_F hI 0 400 rfl e_109_109)) i118a i109 | ((first | have a0 := in_u i79 | (have a0 := i79; unfold In at a0)); (first | have a1 := in_u ro_109_29 | (have a1 := ro_109_29; unfold In at a1)); (first | have a2 := in_u i70 | (have a2 := i70; unfold In at a2)); (first | have a3 := in_u ((inv_F hI 0 200 rfl e_109_111)) | (have a3 := (inv_F hI 0 200 rfl e_109_111); unfold In at a3)); (first | have a4 := in_u ((inv_F hI 0 400 rfl e_109_109)) | (have a4 := (inv_F hI 0 400 rfl e_109_109); unfold In at a4)); (first | have a5 := in_u i118a | (have a5 := i118a; unfold In at a5)); (first | have a6 := in_u i109 | (have a6 := i109; unfold In at a6)))); have oc := ocj_401_109; omega) (by (first | have a0 := oa7 i79 ro_109_29 i70 ((inv_F hI 0 200 rfl e_109_111)) ((inv_F hI 0 400 rfl e_109_109)) i118a i109 | ((first | have a0 := in_u i79 | (have a0 := i79; unfold In at a0)); (first | have a1 := in_u ro_109_29 | (have a1 := ro_109_29; unfold In at a1)); (first | have a2 := in_u i70 | (have a2 := i70; unfold In at a2)); (first | have a3 := in_u ((inv_F hI 0 200 rfl e_109_111)) | (have a3 := (inv_F hI 0 200 rfl e_109_111); unfold In at a3)); (first | have a4 := in_u ((inv_F hI 0 400 rfl e_109_109)) | (have a4 := (inv_F hI 0 400 rfl e_109_109); unfold In at a4)); (first | have a5 := in_u i118a | (have a5 := i118a; unfold In at a5)); (first | have a6 := in_u i109 | (have a6 := i109; unfold In at a6)))); have oc := ocj_401_109; omega) (by have h9 : (s.2.2.1 109 112).toInt = pgD (RWL s) := hd; rw [← e104] at h9; (first | have a0 := oa7 i79 ro_109_29 i70 ((inv_F hI 0 200 rfl e_109_111)) ((inv_F hI 0 400 rfl e_109_109)) i118a i109 | ((first | have a0 := in_u i79 | (have a0 := i79; unfold In at a0)); (first | have a1 := in_u ro_109_29 | (have a1 := ro_109_29; unfold In at a1)); (first | have a2 := in_u i70 | (have a2 := i70; unfold In at a2)); (first | have a3 := in_u ((inv_F hI 0 200 rfl e_109_111)) | (have a3 := (inv_F hI 0 200 rfl e_109_111); unfold In at a3)); (first | have a4 := in_u ((inv_F hI 0 400 rfl e_109_109)) | (have a4 := (inv_F hI 0 400 rfl e_109_109); unfold In at a4)); (first | have a5 := in_u i118a | (have a5 := i118a; unfold In at a5)); (first | have a6 := in_u i109 | (have a6 := i109; unfold In at a6)))); have oc := ocj_401_109; omega)) (by decide) ((p118.1 h0).1.trans rfl) ((p118.1 h0).2.trans (congrArg Int32.toInt e_109_29))⟩
            have n144c : (s.2.2.1 109 23).toInt = 0 → ∀ k v, NPV s k v → QOK s → ((s118).2.2.1 109 23).toInt = 0 → QOK s118 := by intro h0 k v hv hq hf; exact qok_fr hq hF118 rfl
            have n144d : (u_109_109).toInt + (u_109_111).toInt ≤ (u_109_109).toInt + (u_109_111).toInt + 1 := by (first | have a0 := oa7 i79 ro_109_29 i70 ((inv_F hI 0 200 rfl e_109_111)) ((inv_F hI 0 400 rfl e_109_109)) i118a i109 | ((first | have a0 := in_u i79 | (have a0 := i79; unfold In at a0)); (first | have a1 := in_u ro_109_29 | (have a1 := ro_109_29; unfold In at a1)); (first | have a2 := in_u i70 | (have a2 := i70; unfold In at a2)); (first | have a3 := in_u ((inv_F hI 0 200 rfl e_109_111)) | (have a3 := (inv_F hI 0 200 rfl e_109_111); unfold In at a3)); (first | have a4 := in_u ((inv_F hI 0 400 rfl e_109_109)) | (have a4 := (inv_F hI 0 400 rfl e_109_109); unfold In at a4)); (first | have a5 := in_u i118a | (have a5 := i118a; unfold In at a5)); (first | have a6 := in_u i109 | (have a6 := i109; unfold In at a6)))); have oc := ocj_401_109; omega
            have n144e : (s118.2.2.1 109 109).toInt + (s118.2.2.1 109 111).toInt ≤ (s.2.2.1 109 109).toInt + (s.2.2.1 109 111).toInt + 1 := by have b0 : u_109_109 = s118.2.2.1 109 109 := fr_F (e_109_109) hF118 rfl; have b1 : u_109_111 = s118.2.2.1 109 111 := fr_F (e_109_111) hF118 rfl; first | (rw [← b0, ← b1, ← e_109_109, ← e_109_111]; exact n144d) | (rw [← b0, ← b1]; exact n144d)
            have n144f : (u_109_28).toInt = 0 → (u_109_109).toInt + (u_109_111).toInt = (u_109_109).toInt + (u_109_111).toInt := by (first | have a0 := oa7 i79 ro_109_29 i70 ((inv_F hI 0 200 rfl e_109_111)) ((inv_F hI 0 400 rfl e_109_109)) i118a i109 | ((first | have a0 := in_u i79 | (have a0 := i79; unfold In at a0)); (first | have a1 := in_u ro_109_29 | (have a1 := ro_109_29; unfold In at a1)); (first | have a2 := in_u i70 | (have a2 := i70; unfold In at a2)); (first | have a3 := in_u ((inv_F hI 0 200 rfl e_109_111)) | (have a3 := (inv_F hI 0 200 rfl e_109_111); unfold In at a3)); (first | have a4 := in_u ((inv_F hI 0 400 rfl e_109_109)) | (have a4 := (inv_F hI 0 400 rfl e_109_109); unfold In at a4)); (first | have a5 := in_u i118a | (have a5 := i118a; unfold In at a5)); (first | have a6 := in_u i109 | (have a6 := i109; unfold In at a6)))); have oc := ocj_401_109; omega
            have n144g : (s.2.2.1 109 28).toInt = 0 → (s118.2.2.1 109 109).toInt + (s118.2.2.1 109 111).toInt = (s.2.2.1 109 109).toInt + (s.2.2.1 109 111).toInt := by have b0 : u_109_109 = s118.2.2.1 109 109 := fr_F (e_109_109) hF118 rfl; have b1 : u_109_111 = s118.2.2.1 109 111 := fr_F (e_109_111) hF118 rfl; first | (rw [← b0, ← b1, ← e_109_28, ← e_109_109, ← e_109_111]; exact n144f) | (rw [← b0, ← b1]; exact n144f)
            have n144h : (u_109_28).toInt = 0 → 1 ≤ (z118a).toInt := by (first | have a0 := oa7 i79 ro_109_29 i70 ((inv_F hI 0 200 rfl e_109_111)) ((inv_F hI 0 400 rfl e_109_109)) i118a i109 | ((first | have a0 := in_u i79 | (have a0 := i79; unfold In at a0)); (first | have a1 := in_u ro_109_29 | (have a1 := ro_109_29; unfold In at a1)); (first | have a2 := in_u i70 | (have a2 := i70; unfold In at a2)); (first | have a3 := in_u ((inv_F hI 0 200 rfl e_109_111)) | (have a3 := (inv_F hI 0 200 rfl e_109_111); unfold In at a3)); (first | have a4 := in_u ((inv_F hI 0 400 rfl e_109_109)) | (have a4 := (inv_F hI 0 400 rfl e_109_109); unfold In at a4)); (first | have a5 := in_u i118a | (have a5 := i118a; unfold In at a5)); (first | have a6 := in_u i109 | (have a6 := i109; unfold In at a6)))); have oc := ocj_401_109; omega
            have n144i : (s.2.2.1 109 28).toInt = 0 → 1 ≤ (s118.2.2.1 109 23).toInt := by have b0 : z118a = s118.2.2.1 109 23 := e118; rw [← b0, ← e_109_28]; exact n144h
            exact g_ireturn (gd rfl) rfl (nb01 (in_w 0 1 (in_c 0 rfl) rfl)) (hP _ _ ⟨s118, hI118, (fr_tr rfl fr_rf hF118), n144e, n144g, n144i, (Int32.ofInt 0), rfl, rfl, in_w 0 1 (in_c 0 rfl) rfl, n144, n144a, n144b, n144c⟩)
        · skip
          refine g_aload_n 83 (gd rfl) rfl rfl ?_
          refine g_getI 86 (gd rfl) rfl rfl rfl (fun z83 e83 => ?_)
          have q83 : u_109_30 = z83 := (e_109_30).trans e83.symm
          subst q83
          refine g_bipush 40 88 (gd rfl) rfl rfl ?_
          refine g_cmp_eq 91 103 (gd rfl) rfl rfl (fun c88 => ?_) (fun c88 => ?_)
          · skip
            have i88 := r_eq1 40 40 c88 (i_rng u_109_30) (in_c 40 rfl) rfl
            refine g_aload_n 104 (gd rfl) rfl rfl ?_
            refine g_getI 107 (gd rfl) rfl rfl rfl (fun z104 e104 => ?_)
            refine g_bipush 10 109 (gd rfl) rfl rfl ?_
            refine g_cmp_lt 112 124 (gd rfl) rfl rfl (fun c109 => ?_) (fun c109 => ?_)
            · skip
              have i109 := r_lt1 (-2147483648) 9 c109 (i_rng z104) (in_c 10 rfl) rfl
              refine g_aload_n 125 (gd rfl) rfl rfl ?_
              refine g_aload_n 126 (gd rfl) rfl rfl ?_
              refine g_getI 129 (gd rfl) rfl rfl rfl (fun z126 e126 => ?_)
              have q126 : u_109_30 = z126 := (e_109_30).trans e126.symm
              subst q126
              refine g_bipush 45 131 (gd rfl) rfl rfl ?_
              refine g_cmp_ne 134 138 (gd rfl) rfl rfl (fun c131 => ?_) (fun c131 => ?_)
              · skip
                refine g_bipush 40 140 (gd rfl) rfl rfl ?_
                have n140 : (u_109_111).toInt ≤ 199 := by (first | have a0 := oa6 i88 ro_109_29 i70 ((inv_F hI 0 200 rfl e_109_111)) ((inv_F hI 0 400 rfl e_109_109)) i109 | ((first | have a0 := in_u i88 | (have a0 := i88; unfold In at a0)); (first | have a1 := in_u ro_109_29 | (have a1 := ro_109_29; unfold In at a1)); (first | have a2 := in_u i70 | (have a2 := i70; unfold In at a2)); (first | have a3 := in_u ((inv_F hI 0 200 rfl e_109_111)) | (have a3 := (inv_F hI 0 200 rfl e_109_111); unfold In at a3)); (first | have a4 := in_u ((inv_F hI 0 400 rfl e_109_109)) | (have a4 := (inv_F hI 0 400 rfl e_109_109); unfold In at a4)); (first | have a5 := in_u i109 | (have a5 := i109; unfold In at a5)))); have oc := ocj_401_109; omega
                refine g_callv (X := _) (As := [.int (Int32.ofInt 40)]) (r := []) (b := A 109) (q := 109) 143 (gd rfl) rfl rfl rfl rfl rfl (ww_o rfl) (Nat.le_of_ble_eq_true rfl) (Nat.zero_le _) (Nat.zero_le _) (j_396 (by omega) hI e_109_111 e104 n140) (fun e u h => h) (fun v u h => ?_)
                obtain ⟨s140, hI140, hF140, n140a, rfl, rfl, p140, p140a⟩ := h
                obtain ⟨z140a, e140⟩ : ∃ w, w = s140.2.2.1 109 111 := ⟨_, rfl⟩
                have i140a := inv_F hI140 0 200 rfl e140
                rw [← (show u_109_111 = s.2.2.1 109 111 from e_109_111)] at n140a
                rw [← (show z140a = s140.2.2.1 109 111 from e140)] at n140a
                show GG _ _ _ _ _ _ _ _ [] _ _ _
                refine g_iconst 0 144 (gd rfl) rfl rfl ?_
                have n144 : ((Int32.ofInt 0)).toInt = 0 → PR s s140 0 0 := by intro hR; first | (exfalso; revert hR; decide) | exact pr_hold (hF140.1 187 rfl) (hF140.1 188 rfl) (hF140.2.2.1 109 109 rfl) (hF140.2.2.1 109 23 rfl) p140 (by rw [← e140, ← e_109_111]; exact n140a) (inv_F hI 0 200 rfl rfl).1 (Or.inl ⟨Or.inl rfl, rfl⟩) | exact pr_hold (hF140.1 187 rfl) (hF140.1 188 rfl) (hF140.2.2.1 109 109 rfl) (hF140.2.2.1 109 23 rfl) p140 (by rw [← e140, ← e_109_111]; exact n140a) (inv_F hI 0 200 rfl rfl).1 (Or.inl ⟨Or.inr rfl, rfl⟩) | exact pr_flt (hF97.1 187 rfl) (hF97.1 188 rfl) (hF97.2.2.1 109 109 rfl) (by rw [← e97]; omega) | exact pr_flt (hF118.1 187 rfl) (hF118.1 188 rfl) (hF118.2.2.1 109 109 rfl) (by rw [← e118]; omega)
                have n144a : ((Int32.ofInt 0)).toInt ≠ 0 → PR s s140 0 1 := by exact fun h => absurd rfl h
                have n144b : FAC s s140 ((Int32.ofInt 0)).toInt := by intro h0 hd k v hv; have hn := npv_n hv; rw [← e_109_28, ← e_109_30] at hn; exact ⟨fun hR => absurd rfl hR, fun _ => fac_h (px_h (by (first | have a0 := oa6 i88 ro_109_29 i70 ((inv_F hI 0 200 rfl e_109_111)) ((inv_F hI 0 400 rfl e_109_109)) i140a | ((first | have a0 := in_u i88 | (have a0 := i88; unfold In at a0)); (first | have a1 := in_u ro_109_29 | (have a1 := ro_109_29; unfold In at a1)); (first | have a2 := in_u i70 | (have a2 := i70; unfold In at a2)); (first | have a3 := in_u ((inv_F hI 0 200 rfl e_109_111)) | (have a3 := (inv_F hI 0 200 rfl e_109_111); unfold In at a3)); (first | have a4 := in_u ((inv_F hI 0 400 rfl e_109_109)) | (have a4 := (inv_F hI 0 400 rfl e_109_109); unfold In at a4)); (first | have a5 := in_u i140a | (have a5 := i140a; unfold In at a5)))); have oc := ocj_401_109; omega) (by (first | have a0 := oa6 i88 ro_109_29 i70 ((inv_F hI 0 200 rfl e_109_111)) ((inv_F hI 0 400 rfl e_109_109)) i140a | ((first | have a0 := in_u i88 | (have a0 := i88; unfold In at a0)); (first | have a1 := in_u ro_109_29 | (have a1 := ro_109_29; unfold In at a1)); (first | have a2 := in_u i70 | (have a2 := i70; unfold In at a2)); (first | have a3 := in_u ((inv_F hI 0 200 rfl e_109_111)) | (have a3 := (inv_F hI 0 200 rfl e_109_111); unfold In at a3)); (first | have a4 := in_u ((inv_F hI 0 400 rfl e_109_109)) | (have a4 := (inv_F hI 0 400 rfl e_109_109); unfold In at a4)); (first | have a5 := in_u i140a | (have a5 := i140a; unfold In at a5)))); have oc := ocj_401_109; omega) (by have h9 : (s.2.2.1 109 112).toInt = pgD (RWL s) := hd; rw [← e104] at h9; (first | have a0 := oa6 i88 ro_109_29 i70 ((inv_F hI 0 200 rfl e_109_111)) ((inv_F hI 0 400 rfl e_109_109)) i140a | ((first | have a0 := in_u i88 | (have a0 := i88; unfold In at a0)); (first | have a1 := in_u ro_109_29 | (have a1 := ro_109_29; unfold In at a1)); (first | have a2 := in_u i70 | (have a2 := i70; unfold In at a2)); (first | have a3 := in_u ((inv_F hI 0 200 rfl e_109_111)) | (have a3 := (inv_F hI 0 200 rfl e_109_111); unfold In at a3)); (first | have a4 := in_u ((inv_F hI 0 400 rfl e_109_109)) | (have a4 := (inv_F hI 0 400 rfl e_109_109); unfold In at a4)); (first | have a5 := in_u i140a | (have a5 := i140a; unfold In at a5)))); have oc := ocj_401_109; omega)) (rwl_h p140 (by rw [← e140, ← e_109_111]; exact n140a) (inv_F hI 0 200 (q := 109) (j := 111) rfl rfl).1) (rql_s (hF140.1 187 rfl) (hF140.1 188 rfl) (hF140.2.2.1 109 109 rfl)) (by rw [hF140.2.2.1 109 23 rfl]; exact h0) (p140a hd)⟩
                have n144c : (s.2.2.1 109 23).toInt = 0 → ∀ k v, NPV s k v → QOK s → ((s140).2.2.1 109 23).toInt = 0 → QOK s140 := by intro h0 k v hv hq hf; exact qok_fr hq hF140 rfl
                have n144d : (u_109_109).toInt + (z140a).toInt ≤ (u_109_109).toInt + (u_109_111).toInt + 1 := by (first | have a0 := oa6 i88 ro_109_29 i70 ((inv_F hI 0 200 rfl e_109_111)) ((inv_F hI 0 400 rfl e_109_109)) i140a | ((first | have a0 := in_u i88 | (have a0 := i88; unfold In at a0)); (first | have a1 := in_u ro_109_29 | (have a1 := ro_109_29; unfold In at a1)); (first | have a2 := in_u i70 | (have a2 := i70; unfold In at a2)); (first | have a3 := in_u ((inv_F hI 0 200 rfl e_109_111)) | (have a3 := (inv_F hI 0 200 rfl e_109_111); unfold In at a3)); (first | have a4 := in_u ((inv_F hI 0 400 rfl e_109_109)) | (have a4 := (inv_F hI 0 400 rfl e_109_109); unfold In at a4)); (first | have a5 := in_u i140a | (have a5 := i140a; unfold In at a5)))); have oc := ocj_401_109; omega
                have n144e : (s140.2.2.1 109 109).toInt + (s140.2.2.1 109 111).toInt ≤ (s.2.2.1 109 109).toInt + (s.2.2.1 109 111).toInt + 1 := by have b0 : u_109_109 = s140.2.2.1 109 109 := fr_F (e_109_109) hF140 rfl; have b1 : z140a = s140.2.2.1 109 111 := e140; first | (rw [← b0, ← b1, ← e_109_109, ← e_109_111]; exact n144d) | (rw [← b0, ← b1]; exact n144d)
                have n144f : (u_109_28).toInt = 0 → (u_109_109).toInt + (z140a).toInt = (u_109_109).toInt + (u_109_111).toInt := by (first | have a0 := oa6 i88 ro_109_29 i70 ((inv_F hI 0 200 rfl e_109_111)) ((inv_F hI 0 400 rfl e_109_109)) i140a | ((first | have a0 := in_u i88 | (have a0 := i88; unfold In at a0)); (first | have a1 := in_u ro_109_29 | (have a1 := ro_109_29; unfold In at a1)); (first | have a2 := in_u i70 | (have a2 := i70; unfold In at a2)); (first | have a3 := in_u ((inv_F hI 0 200 rfl e_109_111)) | (have a3 := (inv_F hI 0 200 rfl e_109_111); unfold In at a3)); (first | have a4 := in_u ((inv_F hI 0 400 rfl e_109_109)) | (have a4 := (inv_F hI 0 400 rfl e_109_109); unfold In at a4)); (first | have a5 := in_u i140a | (have a5 := i140a; unfold In at a5)))); have oc := ocj_401_109; omega
                have n144g : (s.2.2.1 109 28).toInt = 0 → (s140.2.2.1 109 109).toInt + (s140.2.2.1 109 111).toInt = (s.2.2.1 109 109).toInt + (s.2.2.1 109 111).toInt := by have b0 : u_109_109 = s140.2.2.1 109 109 := fr_F (e_109_109) hF140 rfl; have b1 : z140a = s140.2.2.1 109 111 := e140; first | (rw [← b0, ← b1, ← e_109_28, ← e_109_109, ← e_109_111]; exact n144f) | (rw [← b0, ← b1]; exact n144f)
                have n144h : (u_109_28).toInt = 0 → 1 ≤ ((s140.2.2.1 109 23)).toInt := by (first | have a0 := oa7 i88 ro_109_29 i70 ((inv_F hI 0 200 rfl e_109_111)) ((inv_F hI 0 400 rfl e_109_109)) i140a ((show In (s140.2.2.1 109 23) 0 9 from inv_F hI140 0 9 rfl rfl)) | ((first | have a0 := in_u i88 | (have a0 := i88; unfold In at a0)); (first | have a1 := in_u ro_109_29 | (have a1 := ro_109_29; unfold In at a1)); (first | have a2 := in_u i70 | (have a2 := i70; unfold In at a2)); (first | have a3 := in_u ((inv_F hI 0 200 rfl e_109_111)) | (have a3 := (inv_F hI 0 200 rfl e_109_111); unfold In at a3)); (first | have a4 := in_u ((inv_F hI 0 400 rfl e_109_109)) | (have a4 := (inv_F hI 0 400 rfl e_109_109); unfold In at a4)); (first | have a5 := in_u i140a | (have a5 := i140a; unfold In at a5)); (first | have a6 := in_u ((show In (s140.2.2.1 109 23) 0 9 from inv_F hI140 0 9 rfl rfl)) | (have a6 := (show In (s140.2.2.1 109 23) 0 9 from inv_F hI140 0 9 rfl rfl); unfold In at a6)))); have oc := ocj_401_109; omega
                have n144i : (s.2.2.1 109 28).toInt = 0 → 1 ≤ (s140.2.2.1 109 23).toInt := by rw [← e_109_28]; exact n144h
                exact g_ireturn (gd rfl) rfl (nb01 (in_w 0 1 (in_c 0 rfl) rfl)) (hP _ _ ⟨s140, hI140, (fr_tr rfl fr_rf hF140), n144e, n144g, n144i, (Int32.ofInt 0), rfl, rfl, in_w 0 1 (in_c 0 rfl) rfl, n144, n144a, n144b, n144c⟩)
              · skip
                exact absurd c131 c79
            · skip
              have i109 := r_le2 10 2147483647 c109 (in_c 10 rfl) (i_rng z104) rfl
              refine g_aload_n 113 (gd rfl) rfl rfl ?_
              refine g_iconst 3 114 (gd rfl) rfl rfl ?_
              refine g_aload_n 115 (gd rfl) rfl rfl ?_
              refine g_getI 118 (gd rfl) rfl rfl rfl (fun z115 e115 => ?_)
              have q115 : u_109_29 = z115 := (e_109_29).trans e115.symm
              subst q115
              refine g_callv (X := _) (As := [.int (Int32.ofInt 3), .int u_109_29]) (r := []) (b := A 109) (q := 109) 121 (gd rfl) rfl rfl rfl rfl rfl (ww_o rfl) (Nat.le_of_ble_eq_true rfl) (Nat.zero_le _) (Nat.zero_le _) (f_298 (by first | exact dq1 hd rfl | exact dq0 hd rfl | exact dq2 hd rfl | exact dq3 hd rfl | omega) hI (in_w 1 5 (in_c 3 rfl) rfl) rfl) (fun e u h => h) (fun v u h => ?_)
              obtain ⟨s118, hI118, hF118, n118, rfl, rfl, p118⟩ := h
              obtain ⟨z118a, e118⟩ : ∃ w, w = s118.2.2.1 109 23 := ⟨_, rfl⟩
              have i118a := inv_F hI118 0 9 rfl e118
              rw [← (show z118a = s118.2.2.1 109 23 from e118)] at n118
              show GG _ _ _ _ _ _ _ _ [] _ _ _
              refine g_goto 143 (gd rfl) rfl ?_
              refine g_iconst 0 144 (gd rfl) rfl rfl ?_
              have n144 : ((Int32.ofInt 0)).toInt = 0 → PR s s118 0 0 := by intro hR; first | (exfalso; revert hR; decide) | exact pr_hold (hF140.1 187 rfl) (hF140.1 188 rfl) (hF140.2.2.1 109 109 rfl) (hF140.2.2.1 109 23 rfl) p140 (by rw [← e140, ← e_109_111]; exact n140a) (inv_F hI 0 200 rfl rfl).1 (Or.inl ⟨Or.inl rfl, rfl⟩) | exact pr_hold (hF140.1 187 rfl) (hF140.1 188 rfl) (hF140.2.2.1 109 109 rfl) (hF140.2.2.1 109 23 rfl) p140 (by rw [← e140, ← e_109_111]; exact n140a) (inv_F hI 0 200 rfl rfl).1 (Or.inl ⟨Or.inr rfl, rfl⟩) | exact pr_flt (hF97.1 187 rfl) (hF97.1 188 rfl) (hF97.2.2.1 109 109 rfl) (by rw [← e97]; omega) | exact pr_flt (hF118.1 187 rfl) (hF118.1 188 rfl) (hF118.2.2.1 109 109 rfl) (by rw [← e118]; omega)
              have n144a : ((Int32.ofInt 0)).toInt ≠ 0 → PR s s118 0 1 := by exact fun h => absurd rfl h
              have n144b : FAC s s118 ((Int32.ofInt 0)).toInt := by intro h0 hd k v hv; have hn := npv_n hv; rw [← e_109_28, ← e_109_30] at hn; exact ⟨fun hR => absurd rfl hR, fun _ => fac_f (f := 3) (px_3 (by (first | have a0 := oa7 i88 ro_109_29 i70 ((inv_F hI 0 200 rfl e_109_111)) ((inv_F hI 0 400 rfl e_109_109)) i118a i109 | ((first | have a0 := in_u i88 | (have a0 := i88; unfold In at a0)); (first | have a1 := in_u ro_109_29 | (have a1 := ro_109_29; unfold In at a1)); (first | have a2 := in_u i70 | (have a2 := i70; unfold In at a2)); (first | have a3 := in_u ((inv_F hI 0 200 rfl e_109_111)) | (have a3 := (inv_F hI 0 200 rfl e_109_111); unfold In at a3)); (first | have a4 := in_u ((inv_F hI 0 400 rfl e_109_109)) | (have a4 := (inv_F hI 0 400 rfl e_109_109); unfold In at a4)); (first | have a5 := in_u i118a | (have a5 := i118a; unfold In at a5)); (first | have a6 := in_u i109 | (have a6 := i109; unfold In at a6)))); have oc := ocj_401_109; omega) (by (first | have a0 := oa7 i88 ro_109_29 i70 ((inv_F hI 0 200 rfl e_109_111)) ((inv_F hI 0 400 rfl e_109_109)) i118a i109 | ((first | have a0 := in_u i88 | (have a0 := i88; unfold In at a0)); (first | have a1 := in_u ro_109_29 | (have a1 := ro_109_29; unfold In at a1)); (first | have a2 := in_u i70 | (have a2 := i70; unfold In at a2)); (first | have a3 := in_u ((inv_F hI 0 200 rfl e_109_111)) | (have a3 := (inv_F hI 0 200 rfl e_109_111); unfold In at a3)); (first | have a4 := in_u ((inv_F hI 0 400 rfl e_109_109)) | (have a4 := (inv_F hI 0 400 rfl e_109_109); unfold In at a4)); (first | have a5 := in_u i118a | (have a5 := i118a; unfold In at a5)); (first | have a6 := in_u i109 | (have a6 := i109; unfold In at a6)))); have oc := ocj_401_109; omega) (by have h9 : (s.2.2.1 109 112).toInt = pgD (RWL s) := hd; rw [← e104] at h9; (first | have a0 := oa7 i88 ro_109_29 i70 ((inv_F hI 0 200 rfl e_109_111)) ((inv_F hI 0 400 rfl e_109_109)) i118a i109 | ((first | have a0 := in_u i88 | (have a0 := i88; unfold In at a0)); (first | have a1 := in_u ro_109_29 | (have a1 := ro_109_29; unfold In at a1)); (first | have a2 := in_u i70 | (have a2 := i70; unfold In at a2)); (first | have a3 := in_u ((inv_F hI 0 200 rfl e_109_111)) | (have a3 := (inv_F hI 0 200 rfl e_109_111); unfold In at a3)); (first | have a4 := in_u ((inv_F hI 0 400 rfl e_109_109)) | (have a4 := (inv_F hI 0 400 rfl e_109_109); unfold In at a4)); (first | have a5 := in_u i118a | (have a5 := i118a; unfold In at a5)); (first | have a6 := in_u i109 | (have a6 := i109; unfold In at a6)))); have oc := ocj_401_109; omega)) (by decide) ((p118.1 h0).1.trans rfl) ((p118.1 h0).2.trans (congrArg Int32.toInt e_109_29))⟩
              have n144c : (s.2.2.1 109 23).toInt = 0 → ∀ k v, NPV s k v → QOK s → ((s118).2.2.1 109 23).toInt = 0 → QOK s118 := by intro h0 k v hv hq hf; exact qok_fr hq hF118 rfl
              have n144d : (u_109_109).toInt + (u_109_111).toInt ≤ (u_109_109).toInt + (u_109_111).toInt + 1 := by (first | have a0 := oa7 i88 ro_109_29 i70 ((inv_F hI 0 200 rfl e_109_111)) ((inv_F hI 0 400 rfl e_109_109)) i118a i109 | ((first | have a0 := in_u i88 | (have a0 := i88; unfold In at a0)); (first | have a1 := in_u ro_109_29 | (have a1 := ro_109_29; unfold In at a1)); (first | have a2 := in_u i70 | (have a2 := i70; unfold In at a2)); (first | have a3 := in_u ((inv_F hI 0 200 rfl e_109_111)) | (have a3 := (inv_F hI 0 200 rfl e_109_111); unfold In at a3)); (first | have a4 := in_u ((inv_F hI 0 400 rfl e_109_109)) | (have a4 := (inv_F hI 0 400 rfl e_109_109); unfold In at a4)); (first | have a5 := in_u i118a | (have a5 := i118a; unfold In at a5)); (first | have a6 := in_u i109 | (have a6 := i109; unfold In at a6)))); have oc := ocj_401_109; omega
              have n144e : (s118.2.2.1 109 109).toInt + (s118.2.2.1 109 111).toInt ≤ (s.2.2.1 109 109).toInt + (s.2.2.1 109 111).toInt + 1 := by have b0 : u_109_109 = s118.2.2.1 109 109 := fr_F (e_109_109) hF118 rfl; have b1 : u_109_111 = s118.2.2.1 109 111 := fr_F (e_109_111) hF118 rfl; first | (rw [← b0, ← b1, ← e_109_109, ← e_109_111]; exact n144d) | (rw [← b0, ← b1]; exact n144d)
              have n144f : (u_109_28).toInt = 0 → (u_109_109).toInt + (u_109_111).toInt = (u_109_109).toInt + (u_109_111).toInt := by (first | have a0 := oa7 i88 ro_109_29 i70 ((inv_F hI 0 200 rfl e_109_111)) ((inv_F hI 0 400 rfl e_109_109)) i118a i109 | ((first | have a0 := in_u i88 | (have a0 := i88; unfold In at a0)); (first | have a1 := in_u ro_109_29 | (have a1 := ro_109_29; unfold In at a1)); (first | have a2 := in_u i70 | (have a2 := i70; unfold In at a2)); (first | have a3 := in_u ((inv_F hI 0 200 rfl e_109_111)) | (have a3 := (inv_F hI 0 200 rfl e_109_111); unfold In at a3)); (first | have a4 := in_u ((inv_F hI 0 400 rfl e_109_109)) | (have a4 := (inv_F hI 0 400 rfl e_109_109); unfold In at a4)); (first | have a5 := in_u i118a | (have a5 := i118a; unfold In at a5)); (first | have a6 := in_u i109 | (have a6 := i109; unfold In at a6)))); have oc := ocj_401_109; omega
              have n144g : (s.2.2.1 109 28).toInt = 0 → (s118.2.2.1 109 109).toInt + (s118.2.2.1 109 111).toInt = (s.2.2.1 109 109).toInt + (s.2.2.1 109 111).toInt := by have b0 : u_109_109 = s118.2.2.1 109 109 := fr_F (e_109_109) hF118 rfl; have b1 : u_109_111 = s118.2.2.1 109 111 := fr_F (e_109_111) hF118 rfl; first | (rw [← b0, ← b1, ← e_109_28, ← e_109_109, ← e_109_111]; exact n144f) | (rw [← b0, ← b1]; exact n144f)
              have n144h : (u_109_28).toInt = 0 → 1 ≤ (z118a).toInt := by (first | have a0 := oa7 i88 ro_109_29 i70 ((inv_F hI 0 200 rfl e_109_111)) ((inv_F hI 0 400 rfl e_109_109)) i118a i109 | ((first | have a0 := in_u i88 | (have a0 := i88; unfold In at a0)); (first | have a1 := in_u ro_109_29 | (have a1 := ro_109_29; unfold In at a1)); (first | have a2 := in_u i70 | (have a2 := i70; unfold In at a2)); (first | have a3 := in_u ((inv_F hI 0 200 rfl e_109_111)) | (have a3 := (inv_F hI 0 200 rfl e_109_111); unfold In at a3)); (first | have a4 := in_u ((inv_F hI 0 400 rfl e_109_109)) | (have a4 := (inv_F hI 0 400 rfl e_109_109); unfold In at a4)); (first | have a5 := in_u i118a | (have a5 := i118a; unfold In at a5)); (first | have a6 := in_u i109 | (have a6 := i109; unfold In at a6)))); have oc := ocj_401_109; omega
              have n144i : (s.2.2.1 109 28).toInt = 0 → 1 ≤ (s118.2.2.1 109 23).toInt := by have b0 : z118a = s118.2.2.1 109 23 := e118; rw [← b0, ← e_109_28]; exact n144h
              exact g_ireturn (gd rfl) rfl (nb01 (in_w 0 1 (in_c 0 rfl) rfl)) (hP _ _ ⟨s118, hI118, (fr_tr rfl fr_rf hF118), n144e, n144g, n144i, (Int32.ofInt 0), rfl, rfl, in_w 0 1 (in_c 0 rfl) rfl, n144, n144a, n144b, n144c⟩)
          · skip
            refine g_aload_n 92 (gd rfl) rfl rfl ?_
            refine g_iconst 2 93 (gd rfl) rfl rfl ?_
            refine g_aload_n 94 (gd rfl) rfl rfl ?_
            refine g_getI 97 (gd rfl) rfl rfl rfl (fun z94 e94 => ?_)
            have q94 : u_109_29 = z94 := (e_109_29).trans e94.symm
            subst q94
            refine g_callv (X := _) (As := [.int (Int32.ofInt 2), .int u_109_29]) (r := []) (b := A 109) (q := 109) 100 (gd rfl) rfl rfl rfl rfl rfl (ww_o rfl) (Nat.le_of_ble_eq_true rfl) (Nat.zero_le _) (Nat.zero_le _) (f_298 (by first | exact dq1 hd rfl | exact dq0 hd rfl | exact dq2 hd rfl | exact dq3 hd rfl | omega) hI (in_w 1 5 (in_c 2 rfl) rfl) rfl) (fun e u h => h) (fun v u h => ?_)
            obtain ⟨s97, hI97, hF97, n97, rfl, rfl, p97⟩ := h
            obtain ⟨z97a, e97⟩ : ∃ w, w = s97.2.2.1 109 23 := ⟨_, rfl⟩
            have i97a := inv_F hI97 0 9 rfl e97
            rw [← (show z97a = s97.2.2.1 109 23 from e97)] at n97
            show GG _ _ _ _ _ _ _ _ [] _ _ _
            refine g_goto 143 (gd rfl) rfl ?_
            refine g_iconst 0 144 (gd rfl) rfl rfl ?_
            have n144 : ((Int32.ofInt 0)).toInt = 0 → PR s s97 0 0 := by intro hR; first | (exfalso; revert hR; decide) | exact pr_hold (hF140.1 187 rfl) (hF140.1 188 rfl) (hF140.2.2.1 109 109 rfl) (hF140.2.2.1 109 23 rfl) p140 (by rw [← e140, ← e_109_111]; exact n140a) (inv_F hI 0 200 rfl rfl).1 (Or.inl ⟨Or.inl rfl, rfl⟩) | exact pr_hold (hF140.1 187 rfl) (hF140.1 188 rfl) (hF140.2.2.1 109 109 rfl) (hF140.2.2.1 109 23 rfl) p140 (by rw [← e140, ← e_109_111]; exact n140a) (inv_F hI 0 200 rfl rfl).1 (Or.inl ⟨Or.inr rfl, rfl⟩) | exact pr_flt (hF97.1 187 rfl) (hF97.1 188 rfl) (hF97.2.2.1 109 109 rfl) (by rw [← e97]; omega) | exact pr_flt (hF118.1 187 rfl) (hF118.1 188 rfl) (hF118.2.2.1 109 109 rfl) (by rw [← e118]; omega)
            have n144a : ((Int32.ofInt 0)).toInt ≠ 0 → PR s s97 0 1 := by exact fun h => absurd rfl h
            have n144b : FAC s s97 ((Int32.ofInt 0)).toInt := by intro h0 hd k v hv; have hn := npv_n hv; rw [← e_109_28, ← e_109_30] at hn; exact ⟨fun hR => absurd rfl hR, fun _ => fac_f (f := 2) (px_x (by (first | have a0 := oa5 ro_109_29 i70 ((inv_F hI 0 200 rfl e_109_111)) ((inv_F hI 0 400 rfl e_109_109)) i97a | ((first | have a0 := in_u ro_109_29 | (have a0 := ro_109_29; unfold In at a0)); (first | have a1 := in_u i70 | (have a1 := i70; unfold In at a1)); (first | have a2 := in_u ((inv_F hI 0 200 rfl e_109_111)) | (have a2 := (inv_F hI 0 200 rfl e_109_111); unfold In at a2)); (first | have a3 := in_u ((inv_F hI 0 400 rfl e_109_109)) | (have a3 := (inv_F hI 0 400 rfl e_109_109); unfold In at a3)); (first | have a4 := in_u i97a | (have a4 := i97a; unfold In at a4)))); have oc := ocj_401_109; omega) (by (first | have a0 := oa5 ro_109_29 i70 ((inv_F hI 0 200 rfl e_109_111)) ((inv_F hI 0 400 rfl e_109_109)) i97a | ((first | have a0 := in_u ro_109_29 | (have a0 := ro_109_29; unfold In at a0)); (first | have a1 := in_u i70 | (have a1 := i70; unfold In at a1)); (first | have a2 := in_u ((inv_F hI 0 200 rfl e_109_111)) | (have a2 := (inv_F hI 0 200 rfl e_109_111); unfold In at a2)); (first | have a3 := in_u ((inv_F hI 0 400 rfl e_109_109)) | (have a3 := (inv_F hI 0 400 rfl e_109_109); unfold In at a3)); (first | have a4 := in_u i97a | (have a4 := i97a; unfold In at a4)))); have oc := ocj_401_109; omega) (by (first | have a0 := oa5 ro_109_29 i70 ((inv_F hI 0 200 rfl e_109_111)) ((inv_F hI 0 400 rfl e_109_109)) i97a | ((first | have a0 := in_u ro_109_29 | (have a0 := ro_109_29; unfold In at a0)); (first | have a1 := in_u i70 | (have a1 := i70; unfold In at a1)); (first | have a2 := in_u ((inv_F hI 0 200 rfl e_109_111)) | (have a2 := (inv_F hI 0 200 rfl e_109_111); unfold In at a2)); (first | have a3 := in_u ((inv_F hI 0 400 rfl e_109_109)) | (have a3 := (inv_F hI 0 400 rfl e_109_109); unfold In at a3)); (first | have a4 := in_u i97a | (have a4 := i97a; unfold In at a4)))); have oc := ocj_401_109; omega) (by (first | have a0 := oa5 ro_109_29 i70 ((inv_F hI 0 200 rfl e_109_111)) ((inv_F hI 0 400 rfl e_109_109)) i97a | ((first | have a0 := in_u ro_109_29 | (have a0 := ro_109_29; unfold In at a0)); (first | have a1 := in_u i70 | (have a1 := i70; unfold In at a1)); (first | have a2 := in_u ((inv_F hI 0 200 rfl e_109_111)) | (have a2 := (inv_F hI 0 200 rfl e_109_111); unfold In at a2)); (first | have a3 := in_u ((inv_F hI 0 400 rfl e_109_109)) | (have a3 := (inv_F hI 0 400 rfl e_109_109); unfold In at a3)); (first | have a4 := in_u i97a | (have a4 := i97a; unfold In at a4)))); have oc := ocj_401_109; omega) (by (first | have a0 := oa5 ro_109_29 i70 ((inv_F hI 0 200 rfl e_109_111)) ((inv_F hI 0 400 rfl e_109_109)) i97a | ((first | have a0 := in_u ro_109_29 | (have a0 := ro_109_29; unfold In at a0)); (first | have a1 := in_u i70 | (have a1 := i70; unfold In at a1)); (first | have a2 := in_u ((inv_F hI 0 200 rfl e_109_111)) | (have a2 := (inv_F hI 0 200 rfl e_109_111); unfold In at a2)); (first | have a3 := in_u ((inv_F hI 0 400 rfl e_109_109)) | (have a3 := (inv_F hI 0 400 rfl e_109_109); unfold In at a3)); (first | have a4 := in_u i97a | (have a4 := i97a; unfold In at a4)))); have oc := ocj_401_109; omega)) (by decide) ((p97.1 h0).1.trans rfl) ((p97.1 h0).2.trans (congrArg Int32.toInt e_109_29))⟩
            have n144c : (s.2.2.1 109 23).toInt = 0 → ∀ k v, NPV s k v → QOK s → ((s97).2.2.1 109 23).toInt = 0 → QOK s97 := by intro h0 k v hv hq hf; exact qok_fr hq hF97 rfl
            have n144d : (u_109_109).toInt + (u_109_111).toInt ≤ (u_109_109).toInt + (u_109_111).toInt + 1 := by (first | have a0 := oa5 ro_109_29 i70 ((inv_F hI 0 200 rfl e_109_111)) ((inv_F hI 0 400 rfl e_109_109)) i97a | ((first | have a0 := in_u ro_109_29 | (have a0 := ro_109_29; unfold In at a0)); (first | have a1 := in_u i70 | (have a1 := i70; unfold In at a1)); (first | have a2 := in_u ((inv_F hI 0 200 rfl e_109_111)) | (have a2 := (inv_F hI 0 200 rfl e_109_111); unfold In at a2)); (first | have a3 := in_u ((inv_F hI 0 400 rfl e_109_109)) | (have a3 := (inv_F hI 0 400 rfl e_109_109); unfold In at a3)); (first | have a4 := in_u i97a | (have a4 := i97a; unfold In at a4)))); have oc := ocj_401_109; omega
            have n144e : (s97.2.2.1 109 109).toInt + (s97.2.2.1 109 111).toInt ≤ (s.2.2.1 109 109).toInt + (s.2.2.1 109 111).toInt + 1 := by have b0 : u_109_109 = s97.2.2.1 109 109 := fr_F (e_109_109) hF97 rfl; have b1 : u_109_111 = s97.2.2.1 109 111 := fr_F (e_109_111) hF97 rfl; first | (rw [← b0, ← b1, ← e_109_109, ← e_109_111]; exact n144d) | (rw [← b0, ← b1]; exact n144d)
            have n144f : (u_109_28).toInt = 0 → (u_109_109).toInt + (u_109_111).toInt = (u_109_109).toInt + (u_109_111).toInt := by (first | have a0 := oa5 ro_109_29 i70 ((inv_F hI 0 200 rfl e_109_111)) ((inv_F hI 0 400 rfl e_109_109)) i97a | ((first | have a0 := in_u ro_109_29 | (have a0 := ro_109_29; unfold In at a0)); (first | have a1 := in_u i70 | (have a1 := i70; unfold In at a1)); (first | have a2 := in_u ((inv_F hI 0 200 rfl e_109_111)) | (have a2 := (inv_F hI 0 200 rfl e_109_111); unfold In at a2)); (first | have a3 := in_u ((inv_F hI 0 400 rfl e_109_109)) | (have a3 := (inv_F hI 0 400 rfl e_109_109); unfold In at a3)); (first | have a4 := in_u i97a | (have a4 := i97a; unfold In at a4)))); have oc := ocj_401_109; omega
            have n144g : (s.2.2.1 109 28).toInt = 0 → (s97.2.2.1 109 109).toInt + (s97.2.2.1 109 111).toInt = (s.2.2.1 109 109).toInt + (s.2.2.1 109 111).toInt := by have b0 : u_109_109 = s97.2.2.1 109 109 := fr_F (e_109_109) hF97 rfl; have b1 : u_109_111 = s97.2.2.1 109 111 := fr_F (e_109_111) hF97 rfl; first | (rw [← b0, ← b1, ← e_109_28, ← e_109_109, ← e_109_111]; exact n144f) | (rw [← b0, ← b1]; exact n144f)
            have n144h : (u_109_28).toInt = 0 → 1 ≤ (z97a).toInt := by (first | have a0 := oa5 ro_109_29 i70 ((inv_F hI 0 200 rfl e_109_111)) ((inv_F hI 0 400 rfl e_109_109)) i97a | ((first | have a0 := in_u ro_109_29 | (have a0 := ro_109_29; unfold In at a0)); (first | have a1 := in_u i70 | (have a1 := i70; unfold In at a1)); (first | have a2 := in_u ((inv_F hI 0 200 rfl e_109_111)) | (have a2 := (inv_F hI 0 200 rfl e_109_111); unfold In at a2)); (first | have a3 := in_u ((inv_F hI 0 400 rfl e_109_109)) | (have a3 := (inv_F hI 0 400 rfl e_109_109); unfold In at a3)); (first | have a4 := in_u i97a | (have a4 := i97a; unfold In at a4)))); have oc := ocj_401_109; omega
            have n144i : (s.2.2.1 109 28).toInt = 0 → 1 ≤ (s97.2.2.1 109 23).toInt := by have b0 : z97a = s97.2.2.1 109 23 := e97; rw [← b0, ← e_109_28]; exact n144h
            exact g_ireturn (gd rfl) rfl (nb01 (in_w 0 1 (in_c 0 rfl) rfl)) (hP _ _ ⟨s97, hI97, (fr_tr rfl fr_rf hF97), n144e, n144g, n144i, (Int32.ofInt 0), rfl, rfl, in_w 0 1 (in_c 0 rfl) rfl, n144, n144a, n144b, n144c⟩)
    · skip
      have i29 := r_eq1 1 1 c29 (inv_F hI (-2147483648) 2147483647 rfl e_109_28) (in_c 1 rfl) rfl
      refine g_aload_n 33 (gd rfl) rfl rfl ?_
      refine g_getI 36 (gd rfl) rfl rfl rfl (fun z33 e33 => ?_)
      have q33 : u_109_30 = z33 := (e_109_30).trans e33.symm
      subst q33
      refine g_calls (As := [.int u_109_30]) (r := []) 39 (gd rfl) rfl rfl rfl rfl rfl (Nat.le_of_ble_eq_true rfl) (Nat.zero_le _) (Nat.zero_le _) (j_394 (by omega) hI ) (fun v u h => ?_)
      obtain ⟨z36, rfl, rfl, i36, p36⟩ := h
      show GG _ _ _ _ _ _ _ _ [.int z36] _ _ _
      refine g_istore_n 40 (gd rfl) rfl (Nat.le_of_ble_eq_true rfl) ?_
      refine g_iload_n 41 (gd rfl) rfl rfl ?_
      refine g_if_ge 44 53 (gd rfl) rfl rfl (fun c41 => ?_) (fun c41 => ?_)
      · skip
        have i41 := z_ge 0 8 c41 i36 rfl
        refine g_aload_n 54 (gd rfl) rfl rfl ?_
        refine g_iconst 1 55 (gd rfl) rfl rfl ?_
        refine g_iload_n 56 (gd rfl) rfl rfl ?_
        have n56 : (u_109_109).toInt ≤ 399 := by (first | have a0 := oa5 ro_109_29 i29 ((inv_F hI 0 200 rfl e_109_111)) ((inv_F hI 0 400 rfl e_109_109)) i41 | ((first | have a0 := in_u ro_109_29 | (have a0 := ro_109_29; unfold In at a0)); (first | have a1 := in_u i29 | (have a1 := i29; unfold In at a1)); (first | have a2 := in_u ((inv_F hI 0 200 rfl e_109_111)) | (have a2 := (inv_F hI 0 200 rfl e_109_111); unfold In at a2)); (first | have a3 := in_u ((inv_F hI 0 400 rfl e_109_109)) | (have a3 := (inv_F hI 0 400 rfl e_109_109); unfold In at a3)); (first | have a4 := in_u i41 | (have a4 := i41; unfold In at a4)))); have oc := ocj_401_109; omega
        refine g_callv (X := _) (As := [.int (Int32.ofInt 1), .int z36]) (r := []) (b := A 109) (q := 109) 59 (gd rfl) rfl rfl rfl rfl rfl (ww_o rfl) (Nat.le_of_ble_eq_true rfl) (Nat.zero_le _) (Nat.zero_le _) (k_393 (by first | exact dq1 hd rfl | exact dq0 hd rfl | exact dq2 hd rfl | exact dq3 hd rfl | omega) hI e_109_109 n56) (fun e u h => h) (fun v u h => ?_)
        obtain ⟨s56, hI56, hF56, n56a, rfl, rfl, p56, p56a⟩ := h
        obtain ⟨z56a, e56⟩ : ∃ w, w = s56.2.2.1 109 109 := ⟨_, rfl⟩
        have i56a := inv_F hI56 0 400 rfl e56
        rw [← (show u_109_109 = s.2.2.1 109 109 from e_109_109)] at n56a
        rw [← (show z56a = s56.2.2.1 109 109 from e56)] at n56a
        show GG _ _ _ _ _ _ _ _ [] _ _ _
        refine g_aload_n 60 (gd rfl) rfl rfl ?_
        have v60 : u_109_111 = s56.2.2.1 109 111 := fr_F (e_109_111) hF56 rfl
        have n60 : (z56a).toInt + (u_109_111).toInt ≤ 120 := by (first | have a0 := oa6 ro_109_29 i29 ((inv_F hI 0 200 rfl e_109_111)) ((inv_F hI 0 400 rfl e_109_109)) i41 i56a | ((first | have a0 := in_u ro_109_29 | (have a0 := ro_109_29; unfold In at a0)); (first | have a1 := in_u i29 | (have a1 := i29; unfold In at a1)); (first | have a2 := in_u ((inv_F hI 0 200 rfl e_109_111)) | (have a2 := (inv_F hI 0 200 rfl e_109_111); unfold In at a2)); (first | have a3 := in_u ((inv_F hI 0 400 rfl e_109_109)) | (have a3 := (inv_F hI 0 400 rfl e_109_109); unfold In at a3)); (first | have a4 := in_u i41 | (have a4 := i41; unfold In at a4)); (first | have a5 := in_u i56a | (have a5 := i56a; unfold In at a5)))); have oc := ocj_401_109; omega
        refine g_callv (X := _) (As := []) (r := []) (b := A 109) (q := 109) 63 (gd rfl) rfl rfl rfl rfl rfl (ww_o rfl) (Nat.le_of_ble_eq_true rfl) (Nat.zero_le _) (Nat.zero_le _) (j_400 (by omega) hI56 e56 v60 n60) (fun e u h => h) (fun v u h => ?_)
        obtain ⟨s60, hI60, hF60, n60a, rfl, rfl, p60, p60a, p60b, p60c⟩ := h
        obtain ⟨z60a, e60⟩ : ∃ w, w = s60.2.2.1 109 109 := ⟨_, rfl⟩
        have i60a := inv_F hI60 0 400 rfl e60
        obtain ⟨z60b, e60a⟩ : ∃ w, w = s60.2.2.1 109 111 := ⟨_, rfl⟩
        have i60b := inv_F hI60 0 200 rfl e60a
        rw [← (show z56a = s56.2.2.1 109 109 from e56)] at n60a
        rw [← (show u_109_111 = s56.2.2.1 109 111 from fr_F (e_109_111) hF56 rfl)] at n60a
        rw [← (show z60a = s60.2.2.1 109 109 from e60)] at n60a
        rw [← (show z60b = s60.2.2.1 109 111 from e60a)] at n60a
        show GG _ _ _ _ _ _ _ _ [] _ _ _
        refine g_iconst 1 64 (gd rfl) rfl rfl ?_
        have n64 : ((Int32.ofInt 1)).toInt = 0 → PR s s60 0 0 := by exact fun h => absurd h (by decide)
        have n64a : ((Int32.ofInt 1)).toInt ≠ 0 → PR s s60 0 1 := by intro hR; first | (exact absurd rfl hR) | exact pr_tr (pr_val p15 p15a rfl (inv_F hI 0 400 rfl rfl).1 (by rw [← e15, ← e_109_109]; exact n15a) (hF15.2.2.1 109 23 rfl) (hF15.1 190 rfl) (hF15.2.2.1 109 111 rfl) (fun _ => Or.inl rfl)) p19 | exact pr_tr (pr_val p56 p56a rfl (inv_F hI 0 400 rfl rfl).1 (by rw [← e56, ← e_109_109]; exact n56a) (hF56.2.2.1 109 23 rfl) (hF56.1 190 rfl) (hF56.2.2.1 109 111 rfl) (fun _ => Or.inr ⟨rfl, by first | decide | ((first | have a0 := oa7 ro_109_29 i29 ((inv_F hI 0 200 rfl e_109_111)) ((inv_F hI 0 400 rfl e_109_109)) i41 i60b i60a | ((first | have a0 := in_u ro_109_29 | (have a0 := ro_109_29; unfold In at a0)); (first | have a1 := in_u i29 | (have a1 := i29; unfold In at a1)); (first | have a2 := in_u ((inv_F hI 0 200 rfl e_109_111)) | (have a2 := (inv_F hI 0 200 rfl e_109_111); unfold In at a2)); (first | have a3 := in_u ((inv_F hI 0 400 rfl e_109_109)) | (have a3 := (inv_F hI 0 400 rfl e_109_109); unfold In at a3)); (first | have a4 := in_u i41 | (have a4 := i41; unfold In at a4)); (first | have a5 := in_u i60b | (have a5 := i60b; unfold In at a5)); (first | have a6 := in_u i60a | (have a6 := i60a; unfold In at a6)))); have oc := ocj_401_109; omega), by first | decide | ((first | have a0 := oa7 ro_109_29 i29 ((inv_F hI 0 200 rfl e_109_111)) ((inv_F hI 0 400 rfl e_109_109)) i41 i60b i60a | ((first | have a0 := in_u ro_109_29 | (have a0 := ro_109_29; unfold In at a0)); (first | have a1 := in_u i29 | (have a1 := i29; unfold In at a1)); (first | have a2 := in_u ((inv_F hI 0 200 rfl e_109_111)) | (have a2 := (inv_F hI 0 200 rfl e_109_111); unfold In at a2)); (first | have a3 := in_u ((inv_F hI 0 400 rfl e_109_109)) | (have a3 := (inv_F hI 0 400 rfl e_109_109); unfold In at a3)); (first | have a4 := in_u i41 | (have a4 := i41; unfold In at a4)); (first | have a5 := in_u i60b | (have a5 := i60b; unfold In at a5)); (first | have a6 := in_u i60a | (have a6 := i60a; unfold In at a6)))); have oc := ocj_401_109; omega)⟩)) p60 | exact pr_tr (pr_tr (b := 0) (pr_flt (hF50.1 187 rfl) (hF50.1 188 rfl) (hF50.2.2.1 109 109 rfl) (by rw [← e50]; omega)) (pr_val p56 p56a rfl (inv_F hI50 0 400 rfl rfl).1 (by rw [← e56, ← (show u_109_109 = s50.2.2.1 109 109 from fr_F e_109_109 hF50 rfl)]; exact n56a) (hF56.2.2.1 109 23 rfl) (hF56.1 190 rfl) (hF56.2.2.1 109 111 rfl) (fun h => absurd h (by rw [← e50]; omega)))) p60
        have n64b : FAC s s60 ((Int32.ofInt 1)).toInt := by intro h0 hd k v hv; have hn := npv_n hv; rw [← e_109_28, ← e_109_30] at hn; have h8 := (npv_1 hv (by rw [← e_109_28]; (first | have a0 := oa7 ro_109_29 i29 ((inv_F hI 0 200 rfl e_109_111)) ((inv_F hI 0 400 rfl e_109_109)) i41 i60b i60a | ((first | have a0 := in_u ro_109_29 | (have a0 := ro_109_29; unfold In at a0)); (first | have a1 := in_u i29 | (have a1 := i29; unfold In at a1)); (first | have a2 := in_u ((inv_F hI 0 200 rfl e_109_111)) | (have a2 := (inv_F hI 0 200 rfl e_109_111); unfold In at a2)); (first | have a3 := in_u ((inv_F hI 0 400 rfl e_109_109)) | (have a3 := (inv_F hI 0 400 rfl e_109_109); unfold In at a3)); (first | have a4 := in_u i41 | (have a4 := i41; unfold In at a4)); (first | have a5 := in_u i60b | (have a5 := i60b; unfold In at a5)); (first | have a6 := in_u i60a | (have a6 := i60a; unfold In at a6)))); have oc := ocj_401_109; omega)).2; rw [← e_109_30] at h8; have hz : (z36).toInt = pgN v := (by rw [p36]; congr 1; omega); exact ⟨fun _ => fac_u (c := 1000000 + pgN v) (px_1 (by (first | have a0 := oa7 ro_109_29 i29 ((inv_F hI 0 200 rfl e_109_111)) ((inv_F hI 0 400 rfl e_109_109)) i41 i60b i60a | ((first | have a0 := in_u ro_109_29 | (have a0 := ro_109_29; unfold In at a0)); (first | have a1 := in_u i29 | (have a1 := i29; unfold In at a1)); (first | have a2 := in_u ((inv_F hI 0 200 rfl e_109_111)) | (have a2 := (inv_F hI 0 200 rfl e_109_111); unfold In at a2)); (first | have a3 := in_u ((inv_F hI 0 400 rfl e_109_109)) | (have a3 := (inv_F hI 0 400 rfl e_109_109); unfold In at a3)); (first | have a4 := in_u i41 | (have a4 := i41; unfold In at a4)); (first | have a5 := in_u i60b | (have a5 := i60b; unfold In at a5)); (first | have a6 := in_u i60a | (have a6 := i60a; unfold In at a6)))); have oc := ocj_401_109; omega) (by rw [← hz]; (first | have a0 := oa7 ro_109_29 i29 ((inv_F hI 0 200 rfl e_109_111)) ((inv_F hI 0 400 rfl e_109_109)) i41 i60b i60a | ((first | have a0 := in_u ro_109_29 | (have a0 := ro_109_29; unfold In at a0)); (first | have a1 := in_u i29 | (have a1 := i29; unfold In at a1)); (first | have a2 := in_u ((inv_F hI 0 200 rfl e_109_111)) | (have a2 := (inv_F hI 0 200 rfl e_109_111); unfold In at a2)); (first | have a3 := in_u ((inv_F hI 0 400 rfl e_109_109)) | (have a3 := (inv_F hI 0 400 rfl e_109_109); unfold In at a3)); (first | have a4 := in_u i41 | (have a4 := i41; unfold In at a4)); (first | have a5 := in_u i60b | (have a5 := i60b; unfold In at a5)); (first | have a6 := in_u i60a | (have a6 := i60a; unfold In at a6)))); have oc := ocj_401_109; omega)) p60a (rwl_s (hF56.1 190 rfl) (hF56.2.2.1 109 111 rfl)) (by rw [rql_a p56 p56a (by rw [← e56, ← e_109_109]; exact n56a) (inv_F hI 0 400 (q := 109) (j := 109) rfl rfl).1, hz]; rfl) (by rw [hF60.2.2.1 109 23 rfl, hF56.2.2.1 109 23 rfl]; exact h0) (p60b (dpr_s hd (rwl_s (hF56.1 190 rfl) (hF56.2.2.1 109 111 rfl)) (hF56.2.2.1 109 112 rfl))), fun hR => absurd hR (by decide)⟩
        have n64c : (s.2.2.1 109 23).toInt = 0 → ∀ k v, NPV s k v → QOK s → ((s60).2.2.1 109 23).toInt = 0 → QOK s60 := by intro h0 k v hv hq hf; exact p60c (qok_a hq p56 p56a (by rw [← e56, ← e_109_109]; exact n56a) (inv_F hI 0 400 (q := 109) (j := 109) rfl rfl).1 (okr_1 rfl (by (first | have a0 := oa7 ro_109_29 i29 ((inv_F hI 0 200 rfl e_109_111)) ((inv_F hI 0 400 rfl e_109_109)) i41 i60b i60a | ((first | have a0 := in_u ro_109_29 | (have a0 := ro_109_29; unfold In at a0)); (first | have a1 := in_u i29 | (have a1 := i29; unfold In at a1)); (first | have a2 := in_u ((inv_F hI 0 200 rfl e_109_111)) | (have a2 := (inv_F hI 0 200 rfl e_109_111); unfold In at a2)); (first | have a3 := in_u ((inv_F hI 0 400 rfl e_109_109)) | (have a3 := (inv_F hI 0 400 rfl e_109_109); unfold In at a3)); (first | have a4 := in_u i41 | (have a4 := i41; unfold In at a4)); (first | have a5 := in_u i60b | (have a5 := i60b; unfold In at a5)); (first | have a6 := in_u i60a | (have a6 := i60a; unfold In at a6)))); have oc := ocj_401_109; omega) (by (first | have a0 := oa7 ro_109_29 i29 ((inv_F hI 0 200 rfl e_109_111)) ((inv_F hI 0 400 rfl e_109_109)) i41 i60b i60a | ((first | have a0 := in_u ro_109_29 | (have a0 := ro_109_29; unfold In at a0)); (first | have a1 := in_u i29 | (have a1 := i29; unfold In at a1)); (first | have a2 := in_u ((inv_F hI 0 200 rfl e_109_111)) | (have a2 := (inv_F hI 0 200 rfl e_109_111); unfold In at a2)); (first | have a3 := in_u ((inv_F hI 0 400 rfl e_109_109)) | (have a3 := (inv_F hI 0 400 rfl e_109_109); unfold In at a3)); (first | have a4 := in_u i41 | (have a4 := i41; unfold In at a4)); (first | have a5 := in_u i60b | (have a5 := i60b; unfold In at a5)); (first | have a6 := in_u i60a | (have a6 := i60a; unfold In at a6)))); have oc := ocj_401_109; omega)))
        have n64d : (z60a).toInt + (z60b).toInt ≤ (u_109_109).toInt + (u_109_111).toInt + 1 := by (first | have a0 := oa7 ro_109_29 i29 ((inv_F hI 0 200 rfl e_109_111)) ((inv_F hI 0 400 rfl e_109_109)) i41 i60b i60a | ((first | have a0 := in_u ro_109_29 | (have a0 := ro_109_29; unfold In at a0)); (first | have a1 := in_u i29 | (have a1 := i29; unfold In at a1)); (first | have a2 := in_u ((inv_F hI 0 200 rfl e_109_111)) | (have a2 := (inv_F hI 0 200 rfl e_109_111); unfold In at a2)); (first | have a3 := in_u ((inv_F hI 0 400 rfl e_109_109)) | (have a3 := (inv_F hI 0 400 rfl e_109_109); unfold In at a3)); (first | have a4 := in_u i41 | (have a4 := i41; unfold In at a4)); (first | have a5 := in_u i60b | (have a5 := i60b; unfold In at a5)); (first | have a6 := in_u i60a | (have a6 := i60a; unfold In at a6)))); have oc := ocj_401_109; omega
        have n64e : (s60.2.2.1 109 109).toInt + (s60.2.2.1 109 111).toInt ≤ (s.2.2.1 109 109).toInt + (s.2.2.1 109 111).toInt + 1 := by have b0 : z60a = s60.2.2.1 109 109 := e60; have b1 : z60b = s60.2.2.1 109 111 := e60a; first | (rw [← b0, ← b1, ← e_109_109, ← e_109_111]; exact n64d) | (rw [← b0, ← b1]; exact n64d)
        have n64f : (u_109_28).toInt = 0 → (z60a).toInt + (z60b).toInt = (u_109_109).toInt + (u_109_111).toInt := by (first | have a0 := oa7 ro_109_29 i29 ((inv_F hI 0 200 rfl e_109_111)) ((inv_F hI 0 400 rfl e_109_109)) i41 i60b i60a | ((first | have a0 := in_u ro_109_29 | (have a0 := ro_109_29; unfold In at a0)); (first | have a1 := in_u i29 | (have a1 := i29; unfold In at a1)); (first | have a2 := in_u ((inv_F hI 0 200 rfl e_109_111)) | (have a2 := (inv_F hI 0 200 rfl e_109_111); unfold In at a2)); (first | have a3 := in_u ((inv_F hI 0 400 rfl e_109_109)) | (have a3 := (inv_F hI 0 400 rfl e_109_109); unfold In at a3)); (first | have a4 := in_u i41 | (have a4 := i41; unfold In at a4)); (first | have a5 := in_u i60b | (have a5 := i60b; unfold In at a5)); (first | have a6 := in_u i60a | (have a6 := i60a; unfold In at a6)))); have oc := ocj_401_109; omega
        have n64g : (s.2.2.1 109 28).toInt = 0 → (s60.2.2.1 109 109).toInt + (s60.2.2.1 109 111).toInt = (s.2.2.1 109 109).toInt + (s.2.2.1 109 111).toInt := by have b0 : z60a = s60.2.2.1 109 109 := e60; have b1 : z60b = s60.2.2.1 109 111 := e60a; first | (rw [← b0, ← b1, ← e_109_28, ← e_109_109, ← e_109_111]; exact n64f) | (rw [← b0, ← b1]; exact n64f)
        have n64h : (u_109_28).toInt = 0 → 1 ≤ ((s60.2.2.1 109 23)).toInt := by (first | have a0 := oa8 ro_109_29 i29 ((inv_F hI 0 200 rfl e_109_111)) ((inv_F hI 0 400 rfl e_109_109)) i41 i60b i60a ((show In (s60.2.2.1 109 23) 0 9 from inv_F hI60 0 9 rfl rfl)) | ((first | have a0 := in_u ro_109_29 | (have a0 := ro_109_29; unfold In at a0)); (first | have a1 := in_u i29 | (have a1 := i29; unfold In at a1)); (first | have a2 := in_u ((inv_F hI 0 200 rfl e_109_111)) | (have a2 := (inv_F hI 0 200 rfl e_109_111); unfold In at a2)); (first | have a3 := in_u ((inv_F hI 0 400 rfl e_109_109)) | (have a3 := (inv_F hI 0 400 rfl e_109_109); unfold In at a3)); (first | have a4 := in_u i41 | (have a4 := i41; unfold In at a4)); (first | have a5 := in_u i60b | (have a5 := i60b; unfold In at a5)); (first | have a6 := in_u i60a | (have a6 := i60a; unfold In at a6)); (first | have a7 := in_u ((show In (s60.2.2.1 109 23) 0 9 from inv_F hI60 0 9 rfl rfl)) | (have a7 := (show In (s60.2.2.1 109 23) 0 9 from inv_F hI60 0 9 rfl rfl); unfold In at a7)))); have oc := ocj_401_109; omega
        have n64i : (s.2.2.1 109 28).toInt = 0 → 1 ≤ (s60.2.2.1 109 23).toInt := by rw [← e_109_28]; exact n64h
        exact g_ireturn (gd rfl) rfl (nb01 (in_w 0 1 (in_c 1 rfl) rfl)) (hP _ _ ⟨s60, hI60, (fr_tr rfl (fr_tr rfl fr_rf hF56) hF60), n64e, n64g, n64i, (Int32.ofInt 1), rfl, rfl, in_w 0 1 (in_c 1 rfl) rfl, n64, n64a, n64b, n64c⟩)
      · skip
        have i41 := z_lt (-1) (-1) c41 i36 rfl
        refine g_aload_n 45 (gd rfl) rfl rfl ?_
        refine g_iconst 5 46 (gd rfl) rfl rfl ?_
        refine g_aload_n 47 (gd rfl) rfl rfl ?_
        refine g_getI 50 (gd rfl) rfl rfl rfl (fun z47 e47 => ?_)
        have q47 : u_109_29 = z47 := (e_109_29).trans e47.symm
        subst q47
        refine g_callv (X := _) (As := [.int (Int32.ofInt 5), .int u_109_29]) (r := []) (b := A 109) (q := 109) 53 (gd rfl) rfl rfl rfl rfl rfl (ww_o rfl) (Nat.le_of_ble_eq_true rfl) (Nat.zero_le _) (Nat.zero_le _) (f_298 (by first | exact dq1 hd rfl | exact dq0 hd rfl | exact dq2 hd rfl | exact dq3 hd rfl | omega) hI (in_w 1 5 (in_c 5 rfl) rfl) rfl) (fun e u h => h) (fun v u h => ?_)
        obtain ⟨s50, hI50, hF50, n50, rfl, rfl, p50⟩ := h
        obtain ⟨z50a, e50⟩ : ∃ w, w = s50.2.2.1 109 23 := ⟨_, rfl⟩
        have i50a := inv_F hI50 0 9 rfl e50
        rw [← (show z50a = s50.2.2.1 109 23 from e50)] at n50
        show GG _ _ _ _ _ _ _ _ [] _ _ _
        refine g_aload_n 54 (gd rfl) rfl rfl ?_
        refine g_iconst 1 55 (gd rfl) rfl rfl ?_
        refine g_iload_n 56 (gd rfl) rfl rfl ?_
        have v56 : u_109_109 = s50.2.2.1 109 109 := fr_F (e_109_109) hF50 rfl
        have n56 : (u_109_109).toInt ≤ 399 := by (first | have a0 := oa6 ro_109_29 i29 ((inv_F hI 0 200 rfl e_109_111)) ((inv_F hI 0 400 rfl e_109_109)) i41 i50a | ((first | have a0 := in_u ro_109_29 | (have a0 := ro_109_29; unfold In at a0)); (first | have a1 := in_u i29 | (have a1 := i29; unfold In at a1)); (first | have a2 := in_u ((inv_F hI 0 200 rfl e_109_111)) | (have a2 := (inv_F hI 0 200 rfl e_109_111); unfold In at a2)); (first | have a3 := in_u ((inv_F hI 0 400 rfl e_109_109)) | (have a3 := (inv_F hI 0 400 rfl e_109_109); unfold In at a3)); (first | have a4 := in_u i41 | (have a4 := i41; unfold In at a4)); (first | have a5 := in_u i50a | (have a5 := i50a; unfold In at a5)))); have oc := ocj_401_109; omega
        refine g_callv (X := _) (As := [.int (Int32.ofInt 1), .int z36]) (r := []) (b := A 109) (q := 109) 59 (gd rfl) rfl rfl rfl rfl rfl (ww_o rfl) (Nat.le_of_ble_eq_true rfl) (Nat.zero_le _) (Nat.zero_le _) (k_393 (by first | exact dq1 hd rfl | exact dq0 hd rfl | exact dq2 hd rfl | exact dq3 hd rfl | omega) hI50 v56 n56) (fun e u h => h) (fun v u h => ?_)
        obtain ⟨s56, hI56, hF56, n56a, rfl, rfl, p56, p56a⟩ := h
        obtain ⟨z56a, e56⟩ : ∃ w, w = s56.2.2.1 109 109 := ⟨_, rfl⟩
        have i56a := inv_F hI56 0 400 rfl e56
        rw [← (show u_109_109 = s50.2.2.1 109 109 from fr_F (e_109_109) hF50 rfl)] at n56a
        rw [← (show z56a = s56.2.2.1 109 109 from e56)] at n56a
        show GG _ _ _ _ _ _ _ _ [] _ _ _
        refine g_aload_n 60 (gd rfl) rfl rfl ?_
        have v60 : u_109_111 = s56.2.2.1 109 111 := fr_F (fr_F (e_109_111) hF50 rfl) hF56 rfl
        have n60 : (z56a).toInt + (u_109_111).toInt ≤ 120 := by (first | have a0 := oa7 ro_109_29 i29 ((inv_F hI 0 200 rfl e_109_111)) ((inv_F hI 0 400 rfl e_109_109)) i41 i56a i50a | ((first | have a0 := in_u ro_109_29 | (have a0 := ro_109_29; unfold In at a0)); (first | have a1 := in_u i29 | (have a1 := i29; unfold In at a1)); (first | have a2 := in_u ((inv_F hI 0 200 rfl e_109_111)) | (have a2 := (inv_F hI 0 200 rfl e_109_111); unfold In at a2)); (first | have a3 := in_u ((inv_F hI 0 400 rfl e_109_109)) | (have a3 := (inv_F hI 0 400 rfl e_109_109); unfold In at a3)); (first | have a4 := in_u i41 | (have a4 := i41; unfold In at a4)); (first | have a5 := in_u i56a | (have a5 := i56a; unfold In at a5)); (first | have a6 := in_u i50a | (have a6 := i50a; unfold In at a6)))); have oc := ocj_401_109; omega
        refine g_callv (X := _) (As := []) (r := []) (b := A 109) (q := 109) 63 (gd rfl) rfl rfl rfl rfl rfl (ww_o rfl) (Nat.le_of_ble_eq_true rfl) (Nat.zero_le _) (Nat.zero_le _) (j_400 (by omega) hI56 e56 v60 n60) (fun e u h => h) (fun v u h => ?_)
        obtain ⟨s60, hI60, hF60, n60a, rfl, rfl, p60, p60a, p60b, p60c⟩ := h
        obtain ⟨z60a, e60⟩ : ∃ w, w = s60.2.2.1 109 109 := ⟨_, rfl⟩
        have i60a := inv_F hI60 0 400 rfl e60
        obtain ⟨z60b, e60a⟩ : ∃ w, w = s60.2.2.1 109 111 := ⟨_, rfl⟩
        have i60b := inv_F hI60 0 200 rfl e60a
        rw [← (show z56a = s56.2.2.1 109 109 from e56)] at n60a
        rw [← (show u_109_111 = s56.2.2.1 109 111 from fr_F (fr_F (e_109_111) hF50 rfl) hF56 rfl)] at n60a
        rw [← (show z60a = s60.2.2.1 109 109 from e60)] at n60a
        rw [← (show z60b = s60.2.2.1 109 111 from e60a)] at n60a
        show GG _ _ _ _ _ _ _ _ [] _ _ _
        refine g_iconst 1 64 (gd rfl) rfl rfl ?_
        have n64 : ((Int32.ofInt 1)).toInt = 0 → PR s s60 0 0 := by exact fun h => absurd h (by decide)
        have n64a : ((Int32.ofInt 1)).toInt ≠ 0 → PR s s60 0 1 := by intro hR; first | (exact absurd rfl hR) | exact pr_tr (pr_val p15 p15a rfl (inv_F hI 0 400 rfl rfl).1 (by rw [← e15, ← e_109_109]; exact n15a) (hF15.2.2.1 109 23 rfl) (hF15.1 190 rfl) (hF15.2.2.1 109 111 rfl) (fun _ => Or.inl rfl)) p19 | exact pr_tr (pr_val p56 p56a rfl (inv_F hI 0 400 rfl rfl).1 (by rw [← e56, ← e_109_109]; exact n56a) (hF56.2.2.1 109 23 rfl) (hF56.1 190 rfl) (hF56.2.2.1 109 111 rfl) (fun _ => Or.inr ⟨rfl, by first | decide | ((first | have a0 := oa8 ro_109_29 i29 ((inv_F hI 0 200 rfl e_109_111)) ((inv_F hI 0 400 rfl e_109_109)) i41 i60b i60a i50a | ((first | have a0 := in_u ro_109_29 | (have a0 := ro_109_29; unfold In at a0)); (first | have a1 := in_u i29 | (have a1 := i29; unfold In at a1)); (first | have a2 := in_u ((inv_F hI 0 200 rfl e_109_111)) | (have a2 := (inv_F hI 0 200 rfl e_109_111); unfold In at a2)); (first | have a3 := in_u ((inv_F hI 0 400 rfl e_109_109)) | (have a3 := (inv_F hI 0 400 rfl e_109_109); unfold In at a3)); (first | have a4 := in_u i41 | (have a4 := i41; unfold In at a4)); (first | have a5 := in_u i60b | (have a5 := i60b; unfold In at a5)); (first | have a6 := in_u i60a | (have a6 := i60a; unfold In at a6)); (first | have a7 := in_u i50a | (have a7 := i50a; unfold In at a7)))); have oc := ocj_401_109; omega), by first | decide | ((first | have a0 := oa8 ro_109_29 i29 ((inv_F hI 0 200 rfl e_109_111)) ((inv_F hI 0 400 rfl e_109_109)) i41 i60b i60a i50a | ((first | have a0 := in_u ro_109_29 | (have a0 := ro_109_29; unfold In at a0)); (first | have a1 := in_u i29 | (have a1 := i29; unfold In at a1)); (first | have a2 := in_u ((inv_F hI 0 200 rfl e_109_111)) | (have a2 := (inv_F hI 0 200 rfl e_109_111); unfold In at a2)); (first | have a3 := in_u ((inv_F hI 0 400 rfl e_109_109)) | (have a3 := (inv_F hI 0 400 rfl e_109_109); unfold In at a3)); (first | have a4 := in_u i41 | (have a4 := i41; unfold In at a4)); (first | have a5 := in_u i60b | (have a5 := i60b; unfold In at a5)); (first | have a6 := in_u i60a | (have a6 := i60a; unfold In at a6)); (first | have a7 := in_u i50a | (have a7 := i50a; unfold In at a7)))); have oc := ocj_401_109; omega)⟩)) p60 | exact pr_tr (pr_tr (b := 0) (pr_flt (hF50.1 187 rfl) (hF50.1 188 rfl) (hF50.2.2.1 109 109 rfl) (by rw [← e50]; omega)) (pr_val p56 p56a rfl (inv_F hI50 0 400 rfl rfl).1 (by rw [← e56, ← (show u_109_109 = s50.2.2.1 109 109 from fr_F e_109_109 hF50 rfl)]; exact n56a) (hF56.2.2.1 109 23 rfl) (hF56.1 190 rfl) (hF56.2.2.1 109 111 rfl) (fun h => absurd h (by rw [← e50]; omega)))) p60
        have n64b : FAC s s60 ((Int32.ofInt 1)).toInt := by intro h0 hd k v hv; have hn := npv_n hv; rw [← e_109_28, ← e_109_30] at hn; have h8 := (npv_1 hv (by rw [← e_109_28]; (first | have a0 := oa8 ro_109_29 i29 ((inv_F hI 0 200 rfl e_109_111)) ((inv_F hI 0 400 rfl e_109_109)) i41 i60b i60a i50a | ((first | have a0 := in_u ro_109_29 | (have a0 := ro_109_29; unfold In at a0)); (first | have a1 := in_u i29 | (have a1 := i29; unfold In at a1)); (first | have a2 := in_u ((inv_F hI 0 200 rfl e_109_111)) | (have a2 := (inv_F hI 0 200 rfl e_109_111); unfold In at a2)); (first | have a3 := in_u ((inv_F hI 0 400 rfl e_109_109)) | (have a3 := (inv_F hI 0 400 rfl e_109_109); unfold In at a3)); (first | have a4 := in_u i41 | (have a4 := i41; unfold In at a4)); (first | have a5 := in_u i60b | (have a5 := i60b; unfold In at a5)); (first | have a6 := in_u i60a | (have a6 := i60a; unfold In at a6)); (first | have a7 := in_u i50a | (have a7 := i50a; unfold In at a7)))); have oc := ocj_401_109; omega)).2; rw [← e_109_30] at h8; have hz : (z36).toInt = pgN v := (by rw [p36]; congr 1; omega); exact ⟨fun _ => fac_f (f := 5) (px_1x (by (first | have a0 := oa8 ro_109_29 i29 ((inv_F hI 0 200 rfl e_109_111)) ((inv_F hI 0 400 rfl e_109_109)) i41 i60b i60a i50a | ((first | have a0 := in_u ro_109_29 | (have a0 := ro_109_29; unfold In at a0)); (first | have a1 := in_u i29 | (have a1 := i29; unfold In at a1)); (first | have a2 := in_u ((inv_F hI 0 200 rfl e_109_111)) | (have a2 := (inv_F hI 0 200 rfl e_109_111); unfold In at a2)); (first | have a3 := in_u ((inv_F hI 0 400 rfl e_109_109)) | (have a3 := (inv_F hI 0 400 rfl e_109_109); unfold In at a3)); (first | have a4 := in_u i41 | (have a4 := i41; unfold In at a4)); (first | have a5 := in_u i60b | (have a5 := i60b; unfold In at a5)); (first | have a6 := in_u i60a | (have a6 := i60a; unfold In at a6)); (first | have a7 := in_u i50a | (have a7 := i50a; unfold In at a7)))); have oc := ocj_401_109; omega) (by rw [← hz]; (first | have a0 := oa8 ro_109_29 i29 ((inv_F hI 0 200 rfl e_109_111)) ((inv_F hI 0 400 rfl e_109_109)) i41 i60b i60a i50a | ((first | have a0 := in_u ro_109_29 | (have a0 := ro_109_29; unfold In at a0)); (first | have a1 := in_u i29 | (have a1 := i29; unfold In at a1)); (first | have a2 := in_u ((inv_F hI 0 200 rfl e_109_111)) | (have a2 := (inv_F hI 0 200 rfl e_109_111); unfold In at a2)); (first | have a3 := in_u ((inv_F hI 0 400 rfl e_109_109)) | (have a3 := (inv_F hI 0 400 rfl e_109_109); unfold In at a3)); (first | have a4 := in_u i41 | (have a4 := i41; unfold In at a4)); (first | have a5 := in_u i60b | (have a5 := i60b; unfold In at a5)); (first | have a6 := in_u i60a | (have a6 := i60a; unfold In at a6)); (first | have a7 := in_u i50a | (have a7 := i50a; unfold In at a7)))); have oc := ocj_401_109; omega)) (by decide) (by rw [hF60.2.2.1 109 23 rfl, hF56.2.2.1 109 23 rfl]; exact ((p50.1 h0).1.trans rfl)) (by rw [hF60.2.2.1 109 24 rfl, hF56.2.2.1 109 24 rfl]; exact (p50.1 h0).2.trans (congrArg Int32.toInt e_109_29)), fun hR => absurd hR (by decide)⟩
        have n64c : (s.2.2.1 109 23).toInt = 0 → ∀ k v, NPV s k v → QOK s → ((s60).2.2.1 109 23).toInt = 0 → QOK s60 := by intro h0 k v hv hq hf; exact absurd hf (by rw [hF60.2.2.1 109 23 rfl, hF56.2.2.1 109 23 rfl, ((p50.1 h0).1.trans rfl)]; decide)
        have n64d : (z60a).toInt + (z60b).toInt ≤ (u_109_109).toInt + (u_109_111).toInt + 1 := by (first | have a0 := oa8 ro_109_29 i29 ((inv_F hI 0 200 rfl e_109_111)) ((inv_F hI 0 400 rfl e_109_109)) i41 i60b i60a i50a | ((first | have a0 := in_u ro_109_29 | (have a0 := ro_109_29; unfold In at a0)); (first | have a1 := in_u i29 | (have a1 := i29; unfold In at a1)); (first | have a2 := in_u ((inv_F hI 0 200 rfl e_109_111)) | (have a2 := (inv_F hI 0 200 rfl e_109_111); unfold In at a2)); (first | have a3 := in_u ((inv_F hI 0 400 rfl e_109_109)) | (have a3 := (inv_F hI 0 400 rfl e_109_109); unfold In at a3)); (first | have a4 := in_u i41 | (have a4 := i41; unfold In at a4)); (first | have a5 := in_u i60b | (have a5 := i60b; unfold In at a5)); (first | have a6 := in_u i60a | (have a6 := i60a; unfold In at a6)); (first | have a7 := in_u i50a | (have a7 := i50a; unfold In at a7)))); have oc := ocj_401_109; omega
        have n64e : (s60.2.2.1 109 109).toInt + (s60.2.2.1 109 111).toInt ≤ (s.2.2.1 109 109).toInt + (s.2.2.1 109 111).toInt + 1 := by have b0 : z60a = s60.2.2.1 109 109 := e60; have b1 : z60b = s60.2.2.1 109 111 := e60a; first | (rw [← b0, ← b1, ← e_109_109, ← e_109_111]; exact n64d) | (rw [← b0, ← b1]; exact n64d)
        have n64f : (u_109_28).toInt = 0 → (z60a).toInt + (z60b).toInt = (u_109_109).toInt + (u_109_111).toInt := by (first | have a0 := oa8 ro_109_29 i29 ((inv_F hI 0 200 rfl e_109_111)) ((inv_F hI 0 400 rfl e_109_109)) i41 i60b i60a i50a | ((first | have a0 := in_u ro_109_29 | (have a0 := ro_109_29; unfold In at a0)); (first | have a1 := in_u i29 | (have a1 := i29; unfold In at a1)); (first | have a2 := in_u ((inv_F hI 0 200 rfl e_109_111)) | (have a2 := (inv_F hI 0 200 rfl e_109_111); unfold In at a2)); (first | have a3 := in_u ((inv_F hI 0 400 rfl e_109_109)) | (have a3 := (inv_F hI 0 400 rfl e_109_109); unfold In at a3)); (first | have a4 := in_u i41 | (have a4 := i41; unfold In at a4)); (first | have a5 := in_u i60b | (have a5 := i60b; unfold In at a5)); (first | have a6 := in_u i60a | (have a6 := i60a; unfold In at a6)); (first | have a7 := in_u i50a | (have a7 := i50a; unfold In at a7)))); have oc := ocj_401_109; omega
        have n64g : (s.2.2.1 109 28).toInt = 0 → (s60.2.2.1 109 109).toInt + (s60.2.2.1 109 111).toInt = (s.2.2.1 109 109).toInt + (s.2.2.1 109 111).toInt := by have b0 : z60a = s60.2.2.1 109 109 := e60; have b1 : z60b = s60.2.2.1 109 111 := e60a; first | (rw [← b0, ← b1, ← e_109_28, ← e_109_109, ← e_109_111]; exact n64f) | (rw [← b0, ← b1]; exact n64f)
        have n64h : (u_109_28).toInt = 0 → 1 ≤ (z50a).toInt := by (first | have a0 := oa8 ro_109_29 i29 ((inv_F hI 0 200 rfl e_109_111)) ((inv_F hI 0 400 rfl e_109_109)) i41 i60b i60a i50a | ((first | have a0 := in_u ro_109_29 | (have a0 := ro_109_29; unfold In at a0)); (first | have a1 := in_u i29 | (have a1 := i29; unfold In at a1)); (first | have a2 := in_u ((inv_F hI 0 200 rfl e_109_111)) | (have a2 := (inv_F hI 0 200 rfl e_109_111); unfold In at a2)); (first | have a3 := in_u ((inv_F hI 0 400 rfl e_109_109)) | (have a3 := (inv_F hI 0 400 rfl e_109_109); unfold In at a3)); (first | have a4 := in_u i41 | (have a4 := i41; unfold In at a4)); (first | have a5 := in_u i60b | (have a5 := i60b; unfold In at a5)); (first | have a6 := in_u i60a | (have a6 := i60a; unfold In at a6)); (first | have a7 := in_u i50a | (have a7 := i50a; unfold In at a7)))); have oc := ocj_401_109; omega
        have n64i : (s.2.2.1 109 28).toInt = 0 → 1 ≤ (s60.2.2.1 109 23).toInt := by have b0 : z50a = s60.2.2.1 109 23 := fr_F (fr_F (e50) hF56 rfl) hF60 rfl; rw [← b0, ← e_109_28]; exact n64h
        exact g_ireturn (gd rfl) rfl (nb01 (in_w 0 1 (in_c 1 rfl) rfl)) (hP _ _ ⟨s60, hI60, (fr_tr rfl (fr_tr rfl (fr_tr rfl fr_rf hF50) hF56) hF60), n64e, n64g, n64i, (Int32.ofInt 1), rfl, rfl, in_w 0 1 (in_c 1 rfl) rfl, n64, n64a, n64b, n64c⟩)
  · skip
    have i5 := r_eq1 2 2 c5 (inv_F hI (-2147483648) 2147483647 rfl e_109_28) (in_c 2 rfl) rfl
    refine g_aload_n 9 (gd rfl) rfl rfl ?_
    refine g_iconst 0 10 (gd rfl) rfl rfl ?_
    refine g_aload_n 11 (gd rfl) rfl rfl ?_
    refine g_getL 14 (gd rfl) rfl rfl rfl (fun z11 e11 => ?_)
    refine g_l2i 15 (gd rfl) rfl (fun z14 e14 => ?_)
    have n15 : (u_109_109).toInt ≤ 399 := by (first | have a0 := oa4 ro_109_29 i5 ((inv_F hI 0 200 rfl e_109_111)) ((inv_F hI 0 400 rfl e_109_109)) | ((first | have a0 := in_u ro_109_29 | (have a0 := ro_109_29; unfold In at a0)); (first | have a1 := in_u i5 | (have a1 := i5; unfold In at a1)); (first | have a2 := in_u ((inv_F hI 0 200 rfl e_109_111)) | (have a2 := (inv_F hI 0 200 rfl e_109_111); unfold In at a2)); (first | have a3 := in_u ((inv_F hI 0 400 rfl e_109_109)) | (have a3 := (inv_F hI 0 400 rfl e_109_109); unfold In at a3)))); have oc := ocj_401_109; omega
    refine g_callv (X := _) (As := [.int (Int32.ofInt 0), .int z14]) (r := []) (b := A 109) (q := 109) 18 (gd rfl) rfl rfl rfl rfl rfl (ww_o rfl) (Nat.le_of_ble_eq_true rfl) (Nat.zero_le _) (Nat.zero_le _) (k_393 (by first | exact dq1 hd rfl | exact dq0 hd rfl | exact dq2 hd rfl | exact dq3 hd rfl | omega) hI e_109_109 n15) (fun e u h => h) (fun v u h => ?_)
    obtain ⟨s15, hI15, hF15, n15a, rfl, rfl, p15, p15a⟩ := h
    obtain ⟨z15a, e15⟩ : ∃ w, w = s15.2.2.1 109 109 := ⟨_, rfl⟩
    have i15a := inv_F hI15 0 400 rfl e15
    rw [← (show u_109_109 = s.2.2.1 109 109 from e_109_109)] at n15a
    rw [← (show z15a = s15.2.2.1 109 109 from e15)] at n15a
    show GG _ _ _ _ _ _ _ _ [] _ _ _
    refine g_aload_n 19 (gd rfl) rfl rfl ?_
    have v19 : u_109_111 = s15.2.2.1 109 111 := fr_F (e_109_111) hF15 rfl
    have n19 : (z15a).toInt + (u_109_111).toInt ≤ 120 := by (first | have a0 := oa5 ro_109_29 i5 ((inv_F hI 0 200 rfl e_109_111)) ((inv_F hI 0 400 rfl e_109_109)) i15a | ((first | have a0 := in_u ro_109_29 | (have a0 := ro_109_29; unfold In at a0)); (first | have a1 := in_u i5 | (have a1 := i5; unfold In at a1)); (first | have a2 := in_u ((inv_F hI 0 200 rfl e_109_111)) | (have a2 := (inv_F hI 0 200 rfl e_109_111); unfold In at a2)); (first | have a3 := in_u ((inv_F hI 0 400 rfl e_109_109)) | (have a3 := (inv_F hI 0 400 rfl e_109_109); unfold In at a3)); (first | have a4 := in_u i15a | (have a4 := i15a; unfold In at a4)))); have oc := ocj_401_109; omega
    refine g_callv (X := _) (As := []) (r := []) (b := A 109) (q := 109) 22 (gd rfl) rfl rfl rfl rfl rfl (ww_o rfl) (Nat.le_of_ble_eq_true rfl) (Nat.zero_le _) (Nat.zero_le _) (j_400 (by omega) hI15 e15 v19 n19) (fun e u h => h) (fun v u h => ?_)
    obtain ⟨s19, hI19, hF19, n19a, rfl, rfl, p19, p19a, p19b, p19c⟩ := h
    obtain ⟨z19a, e19⟩ : ∃ w, w = s19.2.2.1 109 109 := ⟨_, rfl⟩
    have i19a := inv_F hI19 0 400 rfl e19
    obtain ⟨z19b, e19a⟩ : ∃ w, w = s19.2.2.1 109 111 := ⟨_, rfl⟩
    have i19b := inv_F hI19 0 200 rfl e19a
    rw [← (show z15a = s15.2.2.1 109 109 from e15)] at n19a
    rw [← (show u_109_111 = s15.2.2.1 109 111 from fr_F (e_109_111) hF15 rfl)] at n19a
    rw [← (show z19a = s19.2.2.1 109 109 from e19)] at n19a
    rw [← (show z19b = s19.2.2.1 109 111 from e19a)] at n19a
    show GG _ _ _ _ _ _ _ _ [] _ _ _
    refine g_iconst 1 23 (gd rfl) rfl rfl ?_
    have n23 : ((Int32.ofInt 1)).toInt = 0 → PR s s19 0 0 := by exact fun h => absurd h (by decide)
    have n23a : ((Int32.ofInt 1)).toInt ≠ 0 → PR s s19 0 1 := by intro hR; first | (exact absurd rfl hR) | exact pr_tr (pr_val p15 p15a rfl (inv_F hI 0 400 rfl rfl).1 (by rw [← e15, ← e_109_109]; exact n15a) (hF15.2.2.1 109 23 rfl) (hF15.1 190 rfl) (hF15.2.2.1 109 111 rfl) (fun _ => Or.inl rfl)) p19 | exact pr_tr (pr_val p56 p56a rfl (inv_F hI 0 400 rfl rfl).1 (by rw [← e56, ← e_109_109]; exact n56a) (hF56.2.2.1 109 23 rfl) (hF56.1 190 rfl) (hF56.2.2.1 109 111 rfl) (fun _ => Or.inr ⟨rfl, by first | decide | ((first | have a0 := oa6 ro_109_29 i5 ((inv_F hI 0 200 rfl e_109_111)) ((inv_F hI 0 400 rfl e_109_109)) i19b i19a | ((first | have a0 := in_u ro_109_29 | (have a0 := ro_109_29; unfold In at a0)); (first | have a1 := in_u i5 | (have a1 := i5; unfold In at a1)); (first | have a2 := in_u ((inv_F hI 0 200 rfl e_109_111)) | (have a2 := (inv_F hI 0 200 rfl e_109_111); unfold In at a2)); (first | have a3 := in_u ((inv_F hI 0 400 rfl e_109_109)) | (have a3 := (inv_F hI 0 400 rfl e_109_109); unfold In at a3)); (first | have a4 := in_u i19b | (have a4 := i19b; unfold In at a4)); (first | have a5 := in_u i19a | (have a5 := i19a; unfold In at a5)))); have oc := ocj_401_109; omega), by first | decide | ((first | have a0 := oa6 ro_109_29 i5 ((inv_F hI 0 200 rfl e_109_111)) ((inv_F hI 0 400 rfl e_109_109)) i19b i19a | ((first | have a0 := in_u ro_109_29 | (have a0 := ro_109_29; unfold In at a0)); (first | have a1 := in_u i5 | (have a1 := i5; unfold In at a1)); (first | have a2 := in_u ((inv_F hI 0 200 rfl e_109_111)) | (have a2 := (inv_F hI 0 200 rfl e_109_111); unfold In at a2)); (first | have a3 := in_u ((inv_F hI 0 400 rfl e_109_109)) | (have a3 := (inv_F hI 0 400 rfl e_109_109); unfold In at a3)); (first | have a4 := in_u i19b | (have a4 := i19b; unfold In at a4)); (first | have a5 := in_u i19a | (have a5 := i19a; unfold In at a5)))); have oc := ocj_401_109; omega)⟩)) p60 | exact pr_tr (pr_tr (b := 0) (pr_flt (hF50.1 187 rfl) (hF50.1 188 rfl) (hF50.2.2.1 109 109 rfl) (by rw [← e50]; omega)) (pr_val p56 p56a rfl (inv_F hI50 0 400 rfl rfl).1 (by rw [← e56, ← (show u_109_109 = s50.2.2.1 109 109 from fr_F e_109_109 hF50 rfl)]; exact n56a) (hF56.2.2.1 109 23 rfl) (hF56.1 190 rfl) (hF56.2.2.1 109 111 rfl) (fun h => absurd h (by rw [← e50]; omega)))) p60
    have n23b : FAC s s19 ((Int32.ofInt 1)).toInt := by intro h0 hd k v hv; have hn := npv_n hv; rw [← e_109_28, ← e_109_30] at hn; have h8 := (npv_2 hv (by rw [← e_109_28]; (first | have a0 := oa6 ro_109_29 i5 ((inv_F hI 0 200 rfl e_109_111)) ((inv_F hI 0 400 rfl e_109_109)) i19b i19a | ((first | have a0 := in_u ro_109_29 | (have a0 := ro_109_29; unfold In at a0)); (first | have a1 := in_u i5 | (have a1 := i5; unfold In at a1)); (first | have a2 := in_u ((inv_F hI 0 200 rfl e_109_111)) | (have a2 := (inv_F hI 0 200 rfl e_109_111); unfold In at a2)); (first | have a3 := in_u ((inv_F hI 0 400 rfl e_109_109)) | (have a3 := (inv_F hI 0 400 rfl e_109_109); unfold In at a3)); (first | have a4 := in_u i19b | (have a4 := i19b; unfold In at a4)); (first | have a5 := in_u i19a | (have a5 := i19a; unfold In at a5)))); have oc := ocj_401_109; omega)).2; rw [← e11] at h8; have hz : (z14).toInt = v := (by rw [l2i_v e14 ⟨by omega, by omega⟩]; exact h8.1); exact ⟨fun _ => fac_u (c := v) (px_2 (by (first | have a0 := oa6 ro_109_29 i5 ((inv_F hI 0 200 rfl e_109_111)) ((inv_F hI 0 400 rfl e_109_109)) i19b i19a | ((first | have a0 := in_u ro_109_29 | (have a0 := ro_109_29; unfold In at a0)); (first | have a1 := in_u i5 | (have a1 := i5; unfold In at a1)); (first | have a2 := in_u ((inv_F hI 0 200 rfl e_109_111)) | (have a2 := (inv_F hI 0 200 rfl e_109_111); unfold In at a2)); (first | have a3 := in_u ((inv_F hI 0 400 rfl e_109_109)) | (have a3 := (inv_F hI 0 400 rfl e_109_109); unfold In at a3)); (first | have a4 := in_u i19b | (have a4 := i19b; unfold In at a4)); (first | have a5 := in_u i19a | (have a5 := i19a; unfold In at a5)))); have oc := ocj_401_109; omega)) p19a (rwl_s (hF15.1 190 rfl) (hF15.2.2.1 109 111 rfl)) (by rw [rql_a p15 p15a (by rw [← e15, ← e_109_109]; exact n15a) (inv_F hI 0 400 (q := 109) (j := 109) rfl rfl).1, hz]; exact congrArg (fun x => x :: RQL s) rcd_0) (by rw [hF19.2.2.1 109 23 rfl, hF15.2.2.1 109 23 rfl]; exact h0) (p19b (dpr_s hd (rwl_s (hF15.1 190 rfl) (hF15.2.2.1 109 111 rfl)) (hF15.2.2.1 109 112 rfl))), fun hR => absurd hR (by decide)⟩
    have n23c : (s.2.2.1 109 23).toInt = 0 → ∀ k v, NPV s k v → QOK s → ((s19).2.2.1 109 23).toInt = 0 → QOK s19 := by intro h0 k v hv hq hf; have h8 := (npv_2 hv (by rw [← e_109_28]; (first | have a0 := oa6 ro_109_29 i5 ((inv_F hI 0 200 rfl e_109_111)) ((inv_F hI 0 400 rfl e_109_109)) i19b i19a | ((first | have a0 := in_u ro_109_29 | (have a0 := ro_109_29; unfold In at a0)); (first | have a1 := in_u i5 | (have a1 := i5; unfold In at a1)); (first | have a2 := in_u ((inv_F hI 0 200 rfl e_109_111)) | (have a2 := (inv_F hI 0 200 rfl e_109_111); unfold In at a2)); (first | have a3 := in_u ((inv_F hI 0 400 rfl e_109_109)) | (have a3 := (inv_F hI 0 400 rfl e_109_109); unfold In at a3)); (first | have a4 := in_u i19b | (have a4 := i19b; unfold In at a4)); (first | have a5 := in_u i19a | (have a5 := i19a; unfold In at a5)))); have oc := ocj_401_109; omega)).2; rw [← e11] at h8; have hz : (z14).toInt = v := (by rw [l2i_v e14 ⟨by omega, by omega⟩]; exact h8.1); exact p19c (qok_a hq p15 p15a (by rw [← e15, ← e_109_109]; exact n15a) (inv_F hI 0 400 (q := 109) (j := 109) rfl rfl).1 (okr_0 rfl (by omega) (by omega)))
    have n23d : (z19a).toInt + (z19b).toInt ≤ (u_109_109).toInt + (u_109_111).toInt + 1 := by (first | have a0 := oa6 ro_109_29 i5 ((inv_F hI 0 200 rfl e_109_111)) ((inv_F hI 0 400 rfl e_109_109)) i19b i19a | ((first | have a0 := in_u ro_109_29 | (have a0 := ro_109_29; unfold In at a0)); (first | have a1 := in_u i5 | (have a1 := i5; unfold In at a1)); (first | have a2 := in_u ((inv_F hI 0 200 rfl e_109_111)) | (have a2 := (inv_F hI 0 200 rfl e_109_111); unfold In at a2)); (first | have a3 := in_u ((inv_F hI 0 400 rfl e_109_109)) | (have a3 := (inv_F hI 0 400 rfl e_109_109); unfold In at a3)); (first | have a4 := in_u i19b | (have a4 := i19b; unfold In at a4)); (first | have a5 := in_u i19a | (have a5 := i19a; unfold In at a5)))); have oc := ocj_401_109; omega
    have n23e : (s19.2.2.1 109 109).toInt + (s19.2.2.1 109 111).toInt ≤ (s.2.2.1 109 109).toInt + (s.2.2.1 109 111).toInt + 1 := by have b0 : z19a = s19.2.2.1 109 109 := e19; have b1 : z19b = s19.2.2.1 109 111 := e19a; first | (rw [← b0, ← b1, ← e_109_109, ← e_109_111]; exact n23d) | (rw [← b0, ← b1]; exact n23d)
    have n23f : (u_109_28).toInt = 0 → (z19a).toInt + (z19b).toInt = (u_109_109).toInt + (u_109_111).toInt := by (first | have a0 := oa6 ro_109_29 i5 ((inv_F hI 0 200 rfl e_109_111)) ((inv_F hI 0 400 rfl e_109_109)) i19b i19a | ((first | have a0 := in_u ro_109_29 | (have a0 := ro_109_29; unfold In at a0)); (first | have a1 := in_u i5 | (have a1 := i5; unfold In at a1)); (first | have a2 := in_u ((inv_F hI 0 200 rfl e_109_111)) | (have a2 := (inv_F hI 0 200 rfl e_109_111); unfold In at a2)); (first | have a3 := in_u ((inv_F hI 0 400 rfl e_109_109)) | (have a3 := (inv_F hI 0 400 rfl e_109_109); unfold In at a3)); (first | have a4 := in_u i19b | (have a4 := i19b; unfold In at a4)); (first | have a5 := in_u i19a | (have a5 := i19a; unfold In at a5)))); have oc := ocj_401_109; omega
    have n23g : (s.2.2.1 109 28).toInt = 0 → (s19.2.2.1 109 109).toInt + (s19.2.2.1 109 111).toInt = (s.2.2.1 109 109).toInt + (s.2.2.1 109 111).toInt := by have b0 : z19a = s19.2.2.1 109 109 := e19; have b1 : z19b = s19.2.2.1 109 111 := e19a; first | (rw [← b0, ← b1, ← e_109_28, ← e_109_109, ← e_109_111]; exact n23f) | (rw [← b0, ← b1]; exact n23f)
    have n23h : (u_109_28).toInt = 0 → 1 ≤ ((s19.2.2.1 109 23)).toInt := by (first | have a0 := oa7 ro_109_29 i5 ((inv_F hI 0 200 rfl e_109_111)) ((inv_F hI 0 400 rfl e_109_109)) i19b i19a ((show In (s19.2.2.1 109 23) 0 9 from inv_F hI19 0 9 rfl rfl)) | ((first | have a0 := in_u ro_109_29 | (have a0 := ro_109_29; unfold In at a0)); (first | have a1 := in_u i5 | (have a1 := i5; unfold In at a1)); (first | have a2 := in_u ((inv_F hI 0 200 rfl e_109_111)) | (have a2 := (inv_F hI 0 200 rfl e_109_111); unfold In at a2)); (first | have a3 := in_u ((inv_F hI 0 400 rfl e_109_109)) | (have a3 := (inv_F hI 0 400 rfl e_109_109); unfold In at a3)); (first | have a4 := in_u i19b | (have a4 := i19b; unfold In at a4)); (first | have a5 := in_u i19a | (have a5 := i19a; unfold In at a5)); (first | have a6 := in_u ((show In (s19.2.2.1 109 23) 0 9 from inv_F hI19 0 9 rfl rfl)) | (have a6 := (show In (s19.2.2.1 109 23) 0 9 from inv_F hI19 0 9 rfl rfl); unfold In at a6)))); have oc := ocj_401_109; omega
    have n23i : (s.2.2.1 109 28).toInt = 0 → 1 ≤ (s19.2.2.1 109 23).toInt := by rw [← e_109_28]; exact n23h
    exact g_ireturn (gd rfl) rfl (nb01 (in_w 0 1 (in_c 1 rfl) rfl)) (hP _ _ ⟨s19, hI19, (fr_tr rfl (fr_tr rfl fr_rf hF15) hF19), n23e, n23g, n23i, (Int32.ofInt 1), rfl, rfl, in_w 0 1 (in_c 1 rfl) rfl, n23, n23a, n23b, n23c⟩)
