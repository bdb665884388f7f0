section
/-! FUNCTIONAL CONTRACTS, by fgen.py -/
/-- GraphHouse$Script.accuse -/
theorem f_168_46 {Z : AmZ} {A : Nat → Nat} {s : GS} {ex : va_W} {d : Nat} {X : AmX} {x1 : Int32} {x2 : Int32} (hd : 1 ≤ d) (hI : Inv s) (h1 : In x1 1 5) (h2 : In x2 0 1000) : GC Z d 168 [.ref (A 46), .int x1, .int x2] (WW Z A s ++ ex) 0 0 (fun v u => ∃ t : GS, Inv t ∧ Fr fm_168_46 s t ∧ ∃ z : Int32, v = some (.int z) ∧ u = WW Z A t ++ ex ∧ In z 0 0 ∧ ((t.2.2.1 46 6) = x1 ∧ (t.2.2.1 46 7) = x2)) X := by
  intro post xp hP hX
  refine g_enter2 (k := 168) (N := 900) (by first | exact dq1 hd rfl | exact dq0 hd rfl | exact dq2 hd rfl | exact dq3 hd rfl | omega) rfl (Nat.le_of_ble_eq_true rfl) ?_
  refine g_aload_n 1 (gd rfl) rfl rfl ?_
  refine g_iload_n 2 (gd rfl) rfl rfl ?_
  refine g_putI 5 (gd rfl) rfl rfl rfl rfl ?_
  have hI2 := inv_sF (q := 46) (j := 6) hI rfl (in_w (-1) 5 h1 rfl)
  refine g_aload_n 6 (gd rfl) rfl rfl ?_
  refine g_iload_n 7 (gd rfl) rfl rfl ?_
  refine g_putI 10 (gd rfl) rfl rfl rfl rfl ?_
  have hI7 := inv_sF (q := 46) (j := 7) hI2 rfl (in_w (-1) 1000 h2 rfl)
  refine g_iconst 0 11 (gd rfl) rfl rfl ?_
  have n11 : ((sF (sF s 46 6 x1) 46 7 x2).2.2.1 46 6) = x1 ∧ ((sF (sF s 46 6 x1) 46 7 x2).2.2.1 46 7) = x2 := by exact ⟨((show x1 = (sF (sF s 46 6 x1) 46 7 x2).2.2.1 46 6 from sF_ne rfl (sF_get))).symm, ((show x2 = (sF (sF s 46 6 x1) 46 7 x2).2.2.1 46 7 from sF_get)).symm⟩
  exact g_ireturn (gd rfl) rfl (nb01 (in_w 0 1 (in_c 0 rfl) rfl)) (hP _ _ ⟨(sF (sF s 46 6 x1) 46 7 x2), hI7, (fr_sF rfl (fr_sF rfl fr_rf)), (Int32.ofInt 0), rfl, rfl, in_w 0 0 (in_c 0 rfl) rfl, n11⟩)

theorem oc_169_46 : (Int32.ofInt (-1)).toInt = (-1) ∧ (Int32.ofInt 0).toInt = 0 ∧ (Int32.ofInt 1).toInt = 1 ∧ (Int32.ofInt 4).toInt = 4 ∧ (Int32.ofInt 5).toInt = 5 := ⟨rfl, rfl, rfl, rfl, rfl⟩
/-- GraphHouse$Script.refuse -/
theorem f_169_46 {Z : AmZ} {A : Nat → Nat} {s : GS} {ex : va_W} {d : Nat} {X : AmX} {x1 : Int32} {x2 : Int32} {u_46_3 : Int32} {u_46_4 : Int32} (hd : 2 ≤ d) (hI : Inv s) (h1 : In x1 2 2) (h2 : In x2 3 3) (e_46_3 : u_46_3 = s.2.2.1 46 3) (e_46_4 : u_46_4 = s.2.2.1 46 4) : GC Z d 169 [.ref (A 46), .int x1, .int x2] (WW Z A s ++ ex) 0 0 (fun v u => ∃ t : GS, Inv t ∧ Fr fm_169_46 s t ∧ ∃ z : Int32, v = some (.int z) ∧ u = WW Z A t ++ ex ∧ In z 0 0 ∧ ((t.2.2.1 46 6).toInt = cmF (s.2.2.1 46 3).toInt ∧ (t.2.2.1 46 7) = s.2.2.1 46 4)) X := by
  intro post xp hP hX
  have ro_46_3 := inv_F hI 0 5 rfl e_46_3
  have ro_46_4 := inv_F hI 0 1000 rfl e_46_4
  refine g_enter2 (k := 169) (N := 900) (by first | exact dq1 hd rfl | exact dq0 hd rfl | exact dq2 hd rfl | exact dq3 hd rfl | omega) rfl (Nat.le_of_ble_eq_true rfl) ?_
  refine g_aload_n 1 (gd rfl) rfl rfl ?_
  refine g_getI 4 (gd rfl) rfl rfl rfl (fun z1 e1 => ?_)
  have q1 : u_46_3 = z1 := (e_46_3).trans e1.symm
  subst q1
  refine g_iconst 4 5 (gd rfl) rfl rfl ?_
  refine g_cmp_ne 8 18 (gd rfl) rfl rfl (fun c5 => ?_) (fun c5 => ?_)
  · skip
    refine g_aload_n 19 (gd rfl) rfl rfl ?_
    refine g_aload_n 20 (gd rfl) rfl rfl ?_
    refine g_getI 23 (gd rfl) rfl rfl rfl (fun z20 e20 => ?_)
    have q20 : u_46_3 = z20 := (e_46_3).trans e20.symm
    subst q20
    refine g_iconst 5 24 (gd rfl) rfl rfl ?_
    refine g_cmp_ne 27 31 (gd rfl) rfl rfl (fun c24 => ?_) (fun c24 => ?_)
    · skip
      have i24 := r_ne1 0 4 c24 (inv_F hI 0 5 rfl e_46_3) (in_c 5 rfl) rfl
      refine g_iload_n 32 (gd rfl) rfl rfl ?_
      refine g_aload_n 33 (gd rfl) rfl rfl ?_
      refine g_getI 36 (gd rfl) rfl rfl rfl (fun z33 e33 => ?_)
      have q33 : u_46_4 = z33 := (e_46_4).trans e33.symm
      subst q33
      refine g_callv (X := _) (As := [.int x1, .int u_46_4]) (r := []) (b := A 46) (q := 46) 39 (gd rfl) rfl rfl rfl rfl rfl (ww_o rfl) (Nat.le_of_ble_eq_true rfl) (Nat.zero_le _) (Nat.zero_le _) (f_168_46 (by first | exact dq1 hd rfl | exact dq0 hd rfl | exact dq2 hd rfl | exact dq3 hd rfl | omega) hI (in_w 1 5 h1 rfl) (in_w 0 1000 (inv_F hI 0 1000 rfl e_46_4) rfl)) (fun e u h => h) (fun v u h => ?_)
      obtain ⟨s36, hI36, hF36, z36, rfl, rfl, i36, p36⟩ := h
      show GG _ _ _ _ _ _ _ _ [.int z36] _ _ _
      have n39 : (s36.2.2.1 46 6).toInt = cmF (s.2.2.1 46 3).toInt ∧ (s36.2.2.1 46 7) = s.2.2.1 46 4 := by refine ⟨?_, by rw [p36.2, ← e_46_4]⟩; rw [p36.1, ← e_46_3]; unfold cmF; rw [if_neg (by (first | have a0 := oa4 ((inv_F hI 0 1000 rfl e_46_4)) i24 h2 h1 | ((first | have a0 := in_u ((inv_F hI 0 1000 rfl e_46_4)) | (have a0 := (inv_F hI 0 1000 rfl e_46_4); unfold In at a0)); (first | have a1 := in_u i24 | (have a1 := i24; unfold In at a1)); (first | have a2 := in_u h2 | (have a2 := h2; unfold In at a2)); (first | have a3 := in_u h1 | (have a3 := h1; unfold In at a3)))); have oc := oc_169_46; omega)]; first | (rw [if_pos (by (first | have a0 := oa4 ((inv_F hI 0 1000 rfl e_46_4)) i24 h2 h1 | ((first | have a0 := in_u ((inv_F hI 0 1000 rfl e_46_4)) | (have a0 := (inv_F hI 0 1000 rfl e_46_4); unfold In at a0)); (first | have a1 := in_u i24 | (have a1 := i24; unfold In at a1)); (first | have a2 := in_u h2 | (have a2 := h2; unfold In at a2)); (first | have a3 := in_u h1 | (have a3 := h1; unfold In at a3)))); have oc := oc_169_46; omega)]; (first | have a0 := oa4 ((inv_F hI 0 1000 rfl e_46_4)) i24 h2 h1 | ((first | have a0 := in_u ((inv_F hI 0 1000 rfl e_46_4)) | (have a0 := (inv_F hI 0 1000 rfl e_46_4); unfold In at a0)); (first | have a1 := in_u i24 | (have a1 := i24; unfold In at a1)); (first | have a2 := in_u h2 | (have a2 := h2; unfold In at a2)); (first | have a3 := in_u h1 | (have a3 := h1; unfold In at a3)))); have oc := oc_169_46; omega) | (rw [if_neg (by (first | have a0 := oa4 ((inv_F hI 0 1000 rfl e_46_4)) i24 h2 h1 | ((first | have a0 := in_u ((inv_F hI 0 1000 rfl e_46_4)) | (have a0 := (inv_F hI 0 1000 rfl e_46_4); unfold In at a0)); (first | have a1 := in_u i24 | (have a1 := i24; unfold In at a1)); (first | have a2 := in_u h2 | (have a2 := h2; unfold In at a2)); (first | have a3 := in_u h1 | (have a3 := h1; unfold In at a3)))); have oc := oc_169_46; omega)]; (first | have a0 := oa4 ((inv_F hI 0 1000 rfl e_46_4)) i24 h2 h1 | ((first | have a0 := in_u ((inv_F hI 0 1000 rfl e_46_4)) | (have a0 := (inv_F hI 0 1000 rfl e_46_4); unfold In at a0)); (first | have a1 := in_u i24 | (have a1 := i24; unfold In at a1)); (first | have a2 := in_u h2 | (have a2 := h2; unfold In at a2)); (first | have a3 := in_u h1 | (have a3 := h1; unfold In at a3)))); have oc := oc_169_46; omega)
      exact g_ireturn (gd rfl) rfl (nb01 (in_w 0 1 i36 rfl)) (hP _ _ ⟨s36, hI36, (fr_tr rfl fr_rf hF36), z36, rfl, rfl, in_w 0 0 i36 rfl, n39⟩)
    · skip
      have i24 := r_eq1 5 5 c24 (inv_F hI 0 5 rfl e_46_3) (in_c 5 rfl) rfl
      refine g_iload_n 28 (gd rfl) rfl rfl ?_
      refine g_goto 32 (gd rfl) rfl ?_
      refine g_aload_n 33 (gd rfl) rfl rfl ?_
      refine g_getI 36 (gd rfl) rfl rfl rfl (fun z33 e33 => ?_)
      have q33 : u_46_4 = z33 := (e_46_4).trans e33.symm
      subst q33
      refine g_callv (X := _) (As := [.int x2, .int u_46_4]) (r := []) (b := A 46) (q := 46) 39 (gd rfl) rfl rfl rfl rfl rfl (ww_o rfl) (Nat.le_of_ble_eq_true rfl) (Nat.zero_le _) (Nat.zero_le _) (f_168_46 (by first | exact dq1 hd rfl | exact dq0 hd rfl | exact dq2 hd rfl | exact dq3 hd rfl | omega) hI (in_w 1 5 h2 rfl) (in_w 0 1000 (inv_F hI 0 1000 rfl e_46_4) rfl)) (fun e u h => h) (fun v u h => ?_)
      obtain ⟨s36, hI36, hF36, z36, rfl, rfl, i36, p36⟩ := h
      show GG _ _ _ _ _ _ _ _ [.int z36] _ _ _
      have n39 : (s36.2.2.1 46 6).toInt = cmF (s.2.2.1 46 3).toInt ∧ (s36.2.2.1 46 7) = s.2.2.1 46 4 := by refine ⟨?_, by rw [p36.2, ← e_46_4]⟩; rw [p36.1, ← e_46_3]; unfold cmF; rw [if_neg (by (first | have a0 := oa4 ((inv_F hI 0 1000 rfl e_46_4)) i24 h2 h1 | ((first | have a0 := in_u ((inv_F hI 0 1000 rfl e_46_4)) | (have a0 := (inv_F hI 0 1000 rfl e_46_4); unfold In at a0)); (first | have a1 := in_u i24 | (have a1 := i24; unfold In at a1)); (first | have a2 := in_u h2 | (have a2 := h2; unfold In at a2)); (first | have a3 := in_u h1 | (have a3 := h1; unfold In at a3)))); have oc := oc_169_46; omega)]; first | (rw [if_pos (by (first | have a0 := oa4 ((inv_F hI 0 1000 rfl e_46_4)) i24 h2 h1 | ((first | have a0 := in_u ((inv_F hI 0 1000 rfl e_46_4)) | (have a0 := (inv_F hI 0 1000 rfl e_46_4); unfold In at a0)); (first | have a1 := in_u i24 | (have a1 := i24; unfold In at a1)); (first | have a2 := in_u h2 | (have a2 := h2; unfold In at a2)); (first | have a3 := in_u h1 | (have a3 := h1; unfold In at a3)))); have oc := oc_169_46; omega)]; (first | have a0 := oa4 ((inv_F hI 0 1000 rfl e_46_4)) i24 h2 h1 | ((first | have a0 := in_u ((inv_F hI 0 1000 rfl e_46_4)) | (have a0 := (inv_F hI 0 1000 rfl e_46_4); unfold In at a0)); (first | have a1 := in_u i24 | (have a1 := i24; unfold In at a1)); (first | have a2 := in_u h2 | (have a2 := h2; unfold In at a2)); (first | have a3 := in_u h1 | (have a3 := h1; unfold In at a3)))); have oc := oc_169_46; omega) | (rw [if_neg (by (first | have a0 := oa4 ((inv_F hI 0 1000 rfl e_46_4)) i24 h2 h1 | ((first | have a0 := in_u ((inv_F hI 0 1000 rfl e_46_4)) | (have a0 := (inv_F hI 0 1000 rfl e_46_4); unfold In at a0)); (first | have a1 := in_u i24 | (have a1 := i24; unfold In at a1)); (first | have a2 := in_u h2 | (have a2 := h2; unfold In at a2)); (first | have a3 := in_u h1 | (have a3 := h1; unfold In at a3)))); have oc := oc_169_46; omega)]; (first | have a0 := oa4 ((inv_F hI 0 1000 rfl e_46_4)) i24 h2 h1 | ((first | have a0 := in_u ((inv_F hI 0 1000 rfl e_46_4)) | (have a0 := (inv_F hI 0 1000 rfl e_46_4); unfold In at a0)); (first | have a1 := in_u i24 | (have a1 := i24; unfold In at a1)); (first | have a2 := in_u h2 | (have a2 := h2; unfold In at a2)); (first | have a3 := in_u h1 | (have a3 := h1; unfold In at a3)))); have oc := oc_169_46; omega)
      exact g_ireturn (gd rfl) rfl (nb01 (in_w 0 1 i36 rfl)) (hP _ _ ⟨s36, hI36, (fr_tr rfl fr_rf hF36), z36, rfl, rfl, in_w 0 0 i36 rfl, n39⟩)
  · skip
    have i5 := r_eq1 4 4 c5 (inv_F hI 0 5 rfl e_46_3) (in_c 4 rfl) rfl
    refine g_aload_n 9 (gd rfl) rfl rfl ?_
    refine g_iconst 1 10 (gd rfl) rfl rfl ?_
    refine g_aload_n 11 (gd rfl) rfl rfl ?_
    refine g_getI 14 (gd rfl) rfl rfl rfl (fun z11 e11 => ?_)
    have q11 : u_46_4 = z11 := (e_46_4).trans e11.symm
    subst q11
    refine g_callv (X := _) (As := [.int (Int32.ofInt 1), .int u_46_4]) (r := []) (b := A 46) (q := 46) 17 (gd rfl) rfl rfl rfl rfl rfl (ww_o rfl) (Nat.le_of_ble_eq_true rfl) (Nat.zero_le _) (Nat.zero_le _) (f_168_46 (by first | exact dq1 hd rfl | exact dq0 hd rfl | exact dq2 hd rfl | exact dq3 hd rfl | omega) hI (in_w 1 5 (in_c 1 rfl) rfl) (in_w 0 1000 (inv_F hI 0 1000 rfl e_46_4) rfl)) (fun e u h => h) (fun v u h => ?_)
    obtain ⟨s14, hI14, hF14, z14, rfl, rfl, i14, p14⟩ := h
    show GG _ _ _ _ _ _ _ _ [.int z14] _ _ _
    have n17 : (s14.2.2.1 46 6).toInt = cmF (s.2.2.1 46 3).toInt ∧ (s14.2.2.1 46 7) = s.2.2.1 46 4 := by refine ⟨?_, by rw [p14.2, ← e_46_4]⟩; rw [p14.1, ← e_46_3]; unfold cmF; rw [if_pos (by (first | have a0 := oa4 ((inv_F hI 0 1000 rfl e_46_4)) i5 h2 h1 | ((first | have a0 := in_u ((inv_F hI 0 1000 rfl e_46_4)) | (have a0 := (inv_F hI 0 1000 rfl e_46_4); unfold In at a0)); (first | have a1 := in_u i5 | (have a1 := i5; unfold In at a1)); (first | have a2 := in_u h2 | (have a2 := h2; unfold In at a2)); (first | have a3 := in_u h1 | (have a3 := h1; unfold In at a3)))); have oc := oc_169_46; omega)]; rfl
    exact g_ireturn (gd rfl) rfl (nb01 (in_w 0 1 i14 rfl)) (hP _ _ ⟨s14, hI14, (fr_tr rfl fr_rf hF14), z14, rfl, rfl, in_w 0 0 i14 rfl, n17⟩)

/-- GraphHouse$Graph.copyOf -/
theorem f_93_16_2 {Z : AmZ} {A : Nat → Nat} {s : GS} {ex : va_W} {d : Nat} {X : AmX}  (hd : 1 ≤ d) (hI : Inv s)  : GC Z d 93 [.ref (A 16), .ref (A 2)] (WW Z A s ++ ex) 0 0 (fun v u => ∃ t : GS, Inv t ∧ Fr fm_93_16_2 s t ∧ v = none ∧ u = WW Z A t ++ ex ∧ (∀ p : Nat, p < 160 → t.1 18 p = s.1 4 p) ∧ (∀ p : Nat, p < 160 → t.1 19 p = s.1 5 p) ∧ (t.2.2.1 16 0 = s.2.2.1 2 0) ∧ (t.2.2.1 16 1 = s.2.2.1 2 1) ∧ (∀ p : Nat, p < 32 → t.1 17 p = s.1 3 p) ∧ (∀ p : Nat, p < 160 → t.1 20 p = s.1 6 p) ∧ (∀ p : Nat, p < 160 → t.1 21 p = s.1 7 p) ∧ (∀ p : Nat, p < 160 → t.1 22 p = s.1 8 p) ∧ (t.2.2.1 16 3 = s.2.2.1 2 3)) X := by
  intro post xp hP hX
  obtain ⟨u_2_0, e_2_0⟩ : ∃ w, w = s.2.2.1 2 0 := ⟨_, rfl⟩
  have ro_2_0 := inv_F hI 0 4000 rfl e_2_0
  obtain ⟨u_2_1, e_2_1⟩ : ∃ w, w = s.2.2.1 2 1 := ⟨_, rfl⟩
  have ro_2_1 := inv_F hI 0 32 rfl e_2_1
  obtain ⟨u_2_2, e_2_2⟩ : ∃ w, w = s.2.2.1 2 2 := ⟨_, rfl⟩
  obtain ⟨u_2_3, e_2_3⟩ : ∃ w, w = s.2.2.1 2 3 := ⟨_, rfl⟩
  have ro_2_3 := inv_F hI 0 160 rfl e_2_3
  refine g_enter2 (k := 93) (N := 900) (by first | exact dq1 hd rfl | exact dq0 hd rfl | exact dq2 hd rfl | exact dq3 hd rfl | omega) rfl (Nat.le_of_ble_eq_true rfl) ?_
  refine g_aload_n 1 (gd rfl) rfl rfl ?_
  refine g_aload_n 2 (gd rfl) rfl rfl ?_
  refine g_getI 5 (gd rfl) rfl rfl rfl (fun z2 e2 => ?_)
  have q2 : u_2_0 = z2 := (e_2_0).trans e2.symm
  subst q2
  refine g_putI 8 (gd rfl) rfl rfl rfl rfl ?_
  have hI5 := rng_sF (q := 16) (j := 0) hI.1 rfl (in_w 0 4000 ro_2_0 rfl)
  refine g_aload_n 9 (gd rfl) rfl rfl ?_
  refine g_aload_n 10 (gd rfl) rfl rfl ?_
  refine g_getI 13 (gd rfl) rfl rfl rfl (fun z10 e10 => ?_)
  have q10 : u_2_1 = z10 := (sF_ne rfl (e_2_1)).trans e10.symm
  subst q10
  refine g_putI 16 (gd rfl) rfl rfl rfl rfl ?_
  have hI13 := rng_sF (q := 16) (j := 1) hI5 rfl (in_w 0 32 ro_2_1 rfl)
  refine g_aload_n 17 (gd rfl) rfl rfl ?_
  refine g_aload_n 18 (gd rfl) rfl rfl ?_
  refine g_getI 21 (gd rfl) rfl rfl rfl (fun z18 e18 => ?_)
  have q18 : u_2_2 = z18 := (sF_ne rfl (sF_ne rfl (e_2_2))).trans e18.symm
  subst q18
  refine g_putI 24 (gd rfl) rfl rfl rfl rfl ?_
  have hI21 := rng_sF (q := 16) (j := 2) hI13 rfl (in_w (-2147483648) 2147483647 (i_rng u_2_2) rfl)
  refine g_aload_n 25 (gd rfl) rfl rfl ?_
  refine g_aload_n 26 (gd rfl) rfl rfl ?_
  refine g_getI 29 (gd rfl) rfl rfl rfl (fun z26 e26 => ?_)
  have q26 : u_2_3 = z26 := (sF_ne rfl (sF_ne rfl (sF_ne rfl (e_2_3)))).trans e26.symm
  subst q26
  refine g_putI 32 (gd rfl) rfl rfl rfl rfl ?_
  have hI29 := rng_sF (q := 16) (j := 3) hI21 rfl (in_w 0 160 ro_2_3 rfl)
  refine g_aload_n 33 (gd rfl) rfl rfl ?_
  refine g_iconst (-1) 34 (gd rfl) rfl rfl ?_
  refine g_putI 37 (gd rfl) rfl rfl rfl rfl ?_
  have hI34 := rng_sF (q := 16) (j := 4) hI29 rfl (in_w (-1) 4000 (in_c (-1) rfl) rfl)
  refine g_aload_n 38 (gd rfl) rfl rfl ?_
  refine g_getA (q2 := 3) 41 (gd rfl) rfl rfl rfl rfl ?_
  refine g_iconst 0 42 (gd rfl) rfl rfl ?_
  refine g_aload_n 43 (gd rfl) rfl rfl ?_
  refine g_getA (q2 := 17) 46 (gd rfl) rfl rfl rfl rfl ?_
  refine g_iconst 0 47 (gd rfl) rfl rfl ?_
  refine g_bipush 32 49 (gd rfl) rfl rfl ?_
  refine g_cpIr (q2 := 3) (q := 17) (n0 := 32) (n1 := 32) 52 (gd rfl) rfl rfl rfl rfl (Nat.le_of_ble_eq_true rfl) (cp_0 (in_c 0 rfl) rfl) (cp_0 (in_c 0 rfl) rfl) (cp_0 (in_c 32 rfl) rfl) (cp_1 (in_c 0 rfl) (in_c 32 rfl) rfl) (cp_1 (in_c 0 rfl) (in_c 32 rfl) rfl) hI34 rfl rfl rfl (fun s49 hI49 hF49 cp49 => ?_)
  refine g_aload_n 53 (gd rfl) rfl rfl ?_
  refine g_getA (q2 := 4) 56 (gd rfl) rfl rfl rfl rfl ?_
  refine g_iconst 0 57 (gd rfl) rfl rfl ?_
  refine g_aload_n 58 (gd rfl) rfl rfl ?_
  refine g_getA (q2 := 18) 61 (gd rfl) rfl rfl rfl rfl ?_
  refine g_iconst 0 62 (gd rfl) rfl rfl ?_
  refine g_sipush 160 65 (gd rfl) rfl rfl ?_
  refine g_cpIr (q2 := 4) (q := 18) (n0 := 160) (n1 := 160) 68 (gd rfl) rfl rfl rfl rfl (Nat.le_of_ble_eq_true rfl) (cp_0 (in_c 0 rfl) rfl) (cp_0 (in_c 0 rfl) rfl) (cp_0 (in_c 160 rfl) rfl) (cp_1 (in_c 0 rfl) (in_c 160 rfl) rfl) (cp_1 (in_c 0 rfl) (in_c 160 rfl) rfl) hI49 rfl rfl rfl (fun s65 hI65 hF65 cp65 => ?_)
  refine g_aload_n 69 (gd rfl) rfl rfl ?_
  refine g_getA (q2 := 5) 72 (gd rfl) rfl rfl rfl rfl ?_
  refine g_iconst 0 73 (gd rfl) rfl rfl ?_
  refine g_aload_n 74 (gd rfl) rfl rfl ?_
  refine g_getA (q2 := 19) 77 (gd rfl) rfl rfl rfl rfl ?_
  refine g_iconst 0 78 (gd rfl) rfl rfl ?_
  refine g_sipush 160 81 (gd rfl) rfl rfl ?_
  refine g_cpIr (q2 := 5) (q := 19) (n0 := 160) (n1 := 160) 84 (gd rfl) rfl rfl rfl rfl (Nat.le_of_ble_eq_true rfl) (cp_0 (in_c 0 rfl) rfl) (cp_0 (in_c 0 rfl) rfl) (cp_0 (in_c 160 rfl) rfl) (cp_1 (in_c 0 rfl) (in_c 160 rfl) rfl) (cp_1 (in_c 0 rfl) (in_c 160 rfl) rfl) hI65 rfl rfl rfl (fun s81 hI81 hF81 cp81 => ?_)
  refine g_aload_n 85 (gd rfl) rfl rfl ?_
  refine g_getA (q2 := 6) 88 (gd rfl) rfl rfl rfl rfl ?_
  refine g_iconst 0 89 (gd rfl) rfl rfl ?_
  refine g_aload_n 90 (gd rfl) rfl rfl ?_
  refine g_getA (q2 := 20) 93 (gd rfl) rfl rfl rfl rfl ?_
  refine g_iconst 0 94 (gd rfl) rfl rfl ?_
  refine g_sipush 160 97 (gd rfl) rfl rfl ?_
  refine g_cpIr (q2 := 6) (q := 20) (n0 := 160) (n1 := 160) 100 (gd rfl) rfl rfl rfl rfl (Nat.le_of_ble_eq_true rfl) (cp_0 (in_c 0 rfl) rfl) (cp_0 (in_c 0 rfl) rfl) (cp_0 (in_c 160 rfl) rfl) (cp_1 (in_c 0 rfl) (in_c 160 rfl) rfl) (cp_1 (in_c 0 rfl) (in_c 160 rfl) rfl) hI81 rfl rfl rfl (fun s97 hI97 hF97 cp97 => ?_)
  refine g_aload_n 101 (gd rfl) rfl rfl ?_
  refine g_getA (q2 := 7) 104 (gd rfl) rfl rfl rfl rfl ?_
  refine g_iconst 0 105 (gd rfl) rfl rfl ?_
  refine g_aload_n 106 (gd rfl) rfl rfl ?_
  refine g_getA (q2 := 21) 109 (gd rfl) rfl rfl rfl rfl ?_
  refine g_iconst 0 110 (gd rfl) rfl rfl ?_
  refine g_sipush 160 113 (gd rfl) rfl rfl ?_
  refine g_cpIr (q2 := 7) (q := 21) (n0 := 160) (n1 := 160) 116 (gd rfl) rfl rfl rfl rfl (Nat.le_of_ble_eq_true rfl) (cp_0 (in_c 0 rfl) rfl) (cp_0 (in_c 0 rfl) rfl) (cp_0 (in_c 160 rfl) rfl) (cp_1 (in_c 0 rfl) (in_c 160 rfl) rfl) (cp_1 (in_c 0 rfl) (in_c 160 rfl) rfl) hI97 rfl rfl rfl (fun s113 hI113 hF113 cp113 => ?_)
  refine g_aload_n 117 (gd rfl) rfl rfl ?_
  refine g_getA (q2 := 8) 120 (gd rfl) rfl rfl rfl rfl ?_
  refine g_iconst 0 121 (gd rfl) rfl rfl ?_
  refine g_aload_n 122 (gd rfl) rfl rfl ?_
  refine g_getA (q2 := 22) 125 (gd rfl) rfl rfl rfl rfl ?_
  refine g_iconst 0 126 (gd rfl) rfl rfl ?_
  refine g_sipush 160 129 (gd rfl) rfl rfl ?_
  refine g_cpIr (q2 := 8) (q := 22) (n0 := 160) (n1 := 160) 132 (gd rfl) rfl rfl rfl rfl (Nat.le_of_ble_eq_true rfl) (cp_0 (in_c 0 rfl) rfl) (cp_0 (in_c 0 rfl) rfl) (cp_0 (in_c 160 rfl) rfl) (cp_1 (in_c 0 rfl) (in_c 160 rfl) rfl) (cp_1 (in_c 0 rfl) (in_c 160 rfl) rfl) hI113 rfl rfl rfl (fun s129 hI129 hF129 cp129 => ?_)
  have hI132 : Inv s129 := by have hFF : Fr fm_93_16_2 s s129 := (fr_tr rfl (fr_tr rfl (fr_tr rfl (fr_tr rfl (fr_tr rfl (fr_tr rfl (fr_sF rfl (fr_sF rfl (fr_sF rfl (fr_sF rfl (fr_sF rfl fr_rf))))) hF49) hF65) hF81) hF97) hF113) hF129); exact ⟨hI129, kk_g hI.2.1 hFF rfl rfl rfl rfl rfl, kk_g hI.2.2.1 hFF rfl rfl rfl rfl rfl, kk_s hI.2.2.2.1 hFF rfl, kk_r hI.2.2.2.2 hFF rfl⟩
  have n132 : ∀ p : Nat, p < 160 → s129.1 18 p = s.1 4 p := by exact fun p hp => by rw [hF129.1 18 rfl, hF113.1 18 rfl, hF97.1 18 rfl, hF81.1 18 rfl, cp65 p, cp_get (show p < (Int32.ofInt 160).toNatClampNeg from hp), hF49.1 4 rfl]; rfl
  have n132a : ∀ p : Nat, p < 160 → s129.1 19 p = s.1 5 p := by exact fun p hp => by rw [hF129.1 19 rfl, hF113.1 19 rfl, hF97.1 19 rfl, cp81 p, cp_get (show p < (Int32.ofInt 160).toNatClampNeg from hp), hF65.1 5 rfl, hF49.1 5 rfl]; rfl
  have n132b : s129.2.2.1 16 0 = s.2.2.1 2 0 := by exact ((show u_2_0 = s129.2.2.1 16 0 from fr_F (fr_F (fr_F (fr_F (fr_F (fr_F (s := (sF (sF (sF (sF (sF s 16 0 u_2_0) 16 1 u_2_1) 16 2 u_2_2) 16 3 u_2_3) 16 4 (Int32.ofInt (-1)))) (sF_ne rfl (sF_ne rfl (sF_ne rfl (sF_ne rfl (sF_get))))) hF49 rfl) hF65 rfl) hF81 rfl) hF97 rfl) hF113 rfl) hF129 rfl)).symm.trans e_2_0
  have n132c : s129.2.2.1 16 1 = s.2.2.1 2 1 := by exact ((show u_2_1 = s129.2.2.1 16 1 from fr_F (fr_F (fr_F (fr_F (fr_F (fr_F (s := (sF (sF (sF (sF (sF s 16 0 u_2_0) 16 1 u_2_1) 16 2 u_2_2) 16 3 u_2_3) 16 4 (Int32.ofInt (-1)))) (sF_ne rfl (sF_ne rfl (sF_ne rfl (sF_get)))) hF49 rfl) hF65 rfl) hF81 rfl) hF97 rfl) hF113 rfl) hF129 rfl)).symm.trans e_2_1
  have n132d : ∀ p : Nat, p < 32 → s129.1 17 p = s.1 3 p := by exact fun p hp => by rw [hF129.1 17 rfl, hF113.1 17 rfl, hF97.1 17 rfl, hF81.1 17 rfl, hF65.1 17 rfl, cp49 p, cp_get (show p < (Int32.ofInt 32).toNatClampNeg from hp)]; rfl
  have n132e : ∀ p : Nat, p < 160 → s129.1 20 p = s.1 6 p := by exact fun p hp => by rw [hF129.1 20 rfl, hF113.1 20 rfl, cp97 p, cp_get (show p < (Int32.ofInt 160).toNatClampNeg from hp), hF81.1 6 rfl, hF65.1 6 rfl, hF49.1 6 rfl]; rfl
  have n132f : ∀ p : Nat, p < 160 → s129.1 21 p = s.1 7 p := by exact fun p hp => by rw [hF129.1 21 rfl, cp113 p, cp_get (show p < (Int32.ofInt 160).toNatClampNeg from hp), hF97.1 7 rfl, hF81.1 7 rfl, hF65.1 7 rfl, hF49.1 7 rfl]; rfl
  have n132g : ∀ p : Nat, p < 160 → s129.1 22 p = s.1 8 p := by exact fun p hp => by rw [cp129 p, cp_get (show p < (Int32.ofInt 160).toNatClampNeg from hp), hF113.1 8 rfl, hF97.1 8 rfl, hF81.1 8 rfl, hF65.1 8 rfl, hF49.1 8 rfl]; rfl
  have n132h : s129.2.2.1 16 3 = s.2.2.1 2 3 := by exact ((show u_2_3 = s129.2.2.1 16 3 from fr_F (fr_F (fr_F (fr_F (fr_F (fr_F (s := (sF (sF (sF (sF (sF s 16 0 u_2_0) 16 1 u_2_1) 16 2 u_2_2) 16 3 u_2_3) 16 4 (Int32.ofInt (-1)))) (sF_ne rfl (sF_get)) hF49 rfl) hF65 rfl) hF81 rfl) hF97 rfl) hF113 rfl) hF129 rfl)).symm.trans e_2_3
  exact g_return (gd rfl) rfl (hP _ _ ⟨s129, hI132, (fr_tr rfl (fr_tr rfl (fr_tr rfl (fr_tr rfl (fr_tr rfl (fr_tr rfl (fr_sF rfl (fr_sF rfl (fr_sF rfl (fr_sF rfl (fr_sF rfl fr_rf))))) hF49) hF65) hF81) hF97) hF113) hF129), rfl, rfl, n132, n132a, n132b, n132c, n132d, n132e, n132f, n132g, n132h⟩)

/-- GraphHouse$Graph.copyOf -/
theorem f_93_2_16 {Z : AmZ} {A : Nat → Nat} {s : GS} {ex : va_W} {d : Nat} {X : AmX}  (hd : 1 ≤ d) (hI : Inv s)  : GC Z d 93 [.ref (A 2), .ref (A 16)] (WW Z A s ++ ex) 0 0 (fun v u => ∃ t : GS, Inv t ∧ Fr fm_93_2_16 s t ∧ v = none ∧ u = WW Z A t ++ ex ∧ (∀ p : Nat, p < 160 → t.1 4 p = s.1 18 p) ∧ (∀ p : Nat, p < 160 → t.1 5 p = s.1 19 p) ∧ (t.2.2.1 2 0 = s.2.2.1 16 0) ∧ (t.2.2.1 2 1 = s.2.2.1 16 1) ∧ (∀ p : Nat, p < 32 → t.1 3 p = s.1 17 p) ∧ (∀ p : Nat, p < 160 → t.1 6 p = s.1 20 p) ∧ (∀ p : Nat, p < 160 → t.1 7 p = s.1 21 p) ∧ (∀ p : Nat, p < 160 → t.1 8 p = s.1 22 p) ∧ (t.2.2.1 2 3 = s.2.2.1 16 3)) X := by
  intro post xp hP hX
  obtain ⟨u_16_0, e_16_0⟩ : ∃ w, w = s.2.2.1 16 0 := ⟨_, rfl⟩
  have ro_16_0 := inv_F hI 0 4000 rfl e_16_0
  obtain ⟨u_16_1, e_16_1⟩ : ∃ w, w = s.2.2.1 16 1 := ⟨_, rfl⟩
  have ro_16_1 := inv_F hI 0 32 rfl e_16_1
  obtain ⟨u_16_2, e_16_2⟩ : ∃ w, w = s.2.2.1 16 2 := ⟨_, rfl⟩
  obtain ⟨u_16_3, e_16_3⟩ : ∃ w, w = s.2.2.1 16 3 := ⟨_, rfl⟩
  have ro_16_3 := inv_F hI 0 160 rfl e_16_3
  refine g_enter2 (k := 93) (N := 900) (by first | exact dq1 hd rfl | exact dq0 hd rfl | exact dq2 hd rfl | exact dq3 hd rfl | omega) rfl (Nat.le_of_ble_eq_true rfl) ?_
  refine g_aload_n 1 (gd rfl) rfl rfl ?_
  refine g_aload_n 2 (gd rfl) rfl rfl ?_
  refine g_getI 5 (gd rfl) rfl rfl rfl (fun z2 e2 => ?_)
  have q2 : u_16_0 = z2 := (e_16_0).trans e2.symm
  subst q2
  refine g_putI 8 (gd rfl) rfl rfl rfl rfl ?_
  have hI5 := rng_sF (q := 2) (j := 0) hI.1 rfl (in_w 0 4000 ro_16_0 rfl)
  refine g_aload_n 9 (gd rfl) rfl rfl ?_
  refine g_aload_n 10 (gd rfl) rfl rfl ?_
  refine g_getI 13 (gd rfl) rfl rfl rfl (fun z10 e10 => ?_)
  have q10 : u_16_1 = z10 := (sF_ne rfl (e_16_1)).trans e10.symm
  subst q10
  refine g_putI 16 (gd rfl) rfl rfl rfl rfl ?_
  have hI13 := rng_sF (q := 2) (j := 1) hI5 rfl (in_w 0 32 ro_16_1 rfl)
  refine g_aload_n 17 (gd rfl) rfl rfl ?_
  refine g_aload_n 18 (gd rfl) rfl rfl ?_
  refine g_getI 21 (gd rfl) rfl rfl rfl (fun z18 e18 => ?_)
  have q18 : u_16_2 = z18 := (sF_ne rfl (sF_ne rfl (e_16_2))).trans e18.symm
  subst q18
  refine g_putI 24 (gd rfl) rfl rfl rfl rfl ?_
  have hI21 := rng_sF (q := 2) (j := 2) hI13 rfl (in_w (-2147483648) 2147483647 (i_rng u_16_2) rfl)
  refine g_aload_n 25 (gd rfl) rfl rfl ?_
  refine g_aload_n 26 (gd rfl) rfl rfl ?_
  refine g_getI 29 (gd rfl) rfl rfl rfl (fun z26 e26 => ?_)
  have q26 : u_16_3 = z26 := (sF_ne rfl (sF_ne rfl (sF_ne rfl (e_16_3)))).trans e26.symm
  subst q26
  refine g_putI 32 (gd rfl) rfl rfl rfl rfl ?_
  have hI29 := rng_sF (q := 2) (j := 3) hI21 rfl (in_w 0 160 ro_16_3 rfl)
  refine g_aload_n 33 (gd rfl) rfl rfl ?_
  refine g_iconst (-1) 34 (gd rfl) rfl rfl ?_
  refine g_putI 37 (gd rfl) rfl rfl rfl rfl ?_
  have hI34 := rng_sF (q := 2) (j := 4) hI29 rfl (in_w (-1) 4000 (in_c (-1) rfl) rfl)
  refine g_aload_n 38 (gd rfl) rfl rfl ?_
  refine g_getA (q2 := 17) 41 (gd rfl) rfl rfl rfl rfl ?_
  refine g_iconst 0 42 (gd rfl) rfl rfl ?_
  refine g_aload_n 43 (gd rfl) rfl rfl ?_
  refine g_getA (q2 := 3) 46 (gd rfl) rfl rfl rfl rfl ?_
  refine g_iconst 0 47 (gd rfl) rfl rfl ?_
  refine g_bipush 32 49 (gd rfl) rfl rfl ?_
  refine g_cpIr (q2 := 17) (q := 3) (n0 := 32) (n1 := 32) 52 (gd rfl) rfl rfl rfl rfl (Nat.le_of_ble_eq_true rfl) (cp_0 (in_c 0 rfl) rfl) (cp_0 (in_c 0 rfl) rfl) (cp_0 (in_c 32 rfl) rfl) (cp_1 (in_c 0 rfl) (in_c 32 rfl) rfl) (cp_1 (in_c 0 rfl) (in_c 32 rfl) rfl) hI34 rfl rfl rfl (fun s49 hI49 hF49 cp49 => ?_)
  refine g_aload_n 53 (gd rfl) rfl rfl ?_
  refine g_getA (q2 := 18) 56 (gd rfl) rfl rfl rfl rfl ?_
  refine g_iconst 0 57 (gd rfl) rfl rfl ?_
  refine g_aload_n 58 (gd rfl) rfl rfl ?_
  refine g_getA (q2 := 4) 61 (gd rfl) rfl rfl rfl rfl ?_
  refine g_iconst 0 62 (gd rfl) rfl rfl ?_
  refine g_sipush 160 65 (gd rfl) rfl rfl ?_
  refine g_cpIr (q2 := 18) (q := 4) (n0 := 160) (n1 := 160) 68 (gd rfl) rfl rfl rfl rfl (Nat.le_of_ble_eq_true rfl) (cp_0 (in_c 0 rfl) rfl) (cp_0 (in_c 0 rfl) rfl) (cp_0 (in_c 160 rfl) rfl) (cp_1 (in_c 0 rfl) (in_c 160 rfl) rfl) (cp_1 (in_c 0 rfl) (in_c 160 rfl) rfl) hI49 rfl rfl rfl (fun s65 hI65 hF65 cp65 => ?_)
  refine g_aload_n 69 (gd rfl) rfl rfl ?_
  refine g_getA (q2 := 19) 72 (gd rfl) rfl rfl rfl rfl ?_
  refine g_iconst 0 73 (gd rfl) rfl rfl ?_
  refine g_aload_n 74 (gd rfl) rfl rfl ?_
  refine g_getA (q2 := 5) 77 (gd rfl) rfl rfl rfl rfl ?_
  refine g_iconst 0 78 (gd rfl) rfl rfl ?_
  refine g_sipush 160 81 (gd rfl) rfl rfl ?_
  refine g_cpIr (q2 := 19) (q := 5) (n0 := 160) (n1 := 160) 84 (gd rfl) rfl rfl rfl rfl (Nat.le_of_ble_eq_true rfl) (cp_0 (in_c 0 rfl) rfl) (cp_0 (in_c 0 rfl) rfl) (cp_0 (in_c 160 rfl) rfl) (cp_1 (in_c 0 rfl) (in_c 160 rfl) rfl) (cp_1 (in_c 0 rfl) (in_c 160 rfl) rfl) hI65 rfl rfl rfl (fun s81 hI81 hF81 cp81 => ?_)
  refine g_aload_n 85 (gd rfl) rfl rfl ?_
  refine g_getA (q2 := 20) 88 (gd rfl) rfl rfl rfl rfl ?_
  refine g_iconst 0 89 (gd rfl) rfl rfl ?_
  refine g_aload_n 90 (gd rfl) rfl rfl ?_
  refine g_getA (q2 := 6) 93 (gd rfl) rfl rfl rfl rfl ?_
  refine g_iconst 0 94 (gd rfl) rfl rfl ?_
  refine g_sipush 160 97 (gd rfl) rfl rfl ?_
  refine g_cpIr (q2 := 20) (q := 6) (n0 := 160) (n1 := 160) 100 (gd rfl) rfl rfl rfl rfl (Nat.le_of_ble_eq_true rfl) (cp_0 (in_c 0 rfl) rfl) (cp_0 (in_c 0 rfl) rfl) (cp_0 (in_c 160 rfl) rfl) (cp_1 (in_c 0 rfl) (in_c 160 rfl) rfl) (cp_1 (in_c 0 rfl) (in_c 160 rfl) rfl) hI81 rfl rfl rfl (fun s97 hI97 hF97 cp97 => ?_)
  refine g_aload_n 101 (gd rfl) rfl rfl ?_
  refine g_getA (q2 := 21) 104 (gd rfl) rfl rfl rfl rfl ?_
  refine g_iconst 0 105 (gd rfl) rfl rfl ?_
  refine g_aload_n 106 (gd rfl) rfl rfl ?_
  refine g_getA (q2 := 7) 109 (gd rfl) rfl rfl rfl rfl ?_
  refine g_iconst 0 110 (gd rfl) rfl rfl ?_
  refine g_sipush 160 113 (gd rfl) rfl rfl ?_
  refine g_cpIr (q2 := 21) (q := 7) (n0 := 160) (n1 := 160) 116 (gd rfl) rfl rfl rfl rfl (Nat.le_of_ble_eq_true rfl) (cp_0 (in_c 0 rfl) rfl) (cp_0 (in_c 0 rfl) rfl) (cp_0 (in_c 160 rfl) rfl) (cp_1 (in_c 0 rfl) (in_c 160 rfl) rfl) (cp_1 (in_c 0 rfl) (in_c 160 rfl) rfl) hI97 rfl rfl rfl (fun s113 hI113 hF113 cp113 => ?_)
  refine g_aload_n 117 (gd rfl) rfl rfl ?_
  refine g_getA (q2 := 22) 120 (gd rfl) rfl rfl rfl rfl ?_
  refine g_iconst 0 121 (gd rfl) rfl rfl ?_
  refine g_aload_n 122 (gd rfl) rfl rfl ?_
  refine g_getA (q2 := 8) 125 (gd rfl) rfl rfl rfl rfl ?_
  refine g_iconst 0 126 (gd rfl) rfl rfl ?_
  refine g_sipush 160 129 (gd rfl) rfl rfl ?_
  refine g_cpIr (q2 := 22) (q := 8) (n0 := 160) (n1 := 160) 132 (gd rfl) rfl rfl rfl rfl (Nat.le_of_ble_eq_true rfl) (cp_0 (in_c 0 rfl) rfl) (cp_0 (in_c 0 rfl) rfl) (cp_0 (in_c 160 rfl) rfl) (cp_1 (in_c 0 rfl) (in_c 160 rfl) rfl) (cp_1 (in_c 0 rfl) (in_c 160 rfl) rfl) hI113 rfl rfl rfl (fun s129 hI129 hF129 cp129 => ?_)
  have hI132 : Inv s129 := by have hFF : Fr fm_93_2_16 s s129 := (fr_tr rfl (fr_tr rfl (fr_tr rfl (fr_tr rfl (fr_tr rfl (fr_tr rfl (fr_sF rfl (fr_sF rfl (fr_sF rfl (fr_sF rfl (fr_sF rfl fr_rf))))) hF49) hF65) hF81) hF97) hF113) hF129); exact ⟨hI129, kk_un rfl rfl (by rw [← (show (Int32.ofInt (-1)) = s129.2.2.1 2 4 from fr_F (fr_F (fr_F (fr_F (fr_F (fr_F (s := (sF (sF (sF (sF (sF s 2 0 u_16_0) 2 1 u_16_1) 2 2 u_16_2) 2 3 u_16_3) 2 4 (Int32.ofInt (-1)))) (sF_get) hF49 rfl) hF65 rfl) hF81 rfl) hF97 rfl) hF113 rfl) hF129 rfl)]; rfl) (rng_F hI129 0 4000 rfl rfl).1, kk_g hI.2.2.1 hFF rfl rfl rfl rfl rfl, kk_s hI.2.2.2.1 hFF rfl, kk_r hI.2.2.2.2 hFF rfl⟩
  have n132 : ∀ p : Nat, p < 160 → s129.1 4 p = s.1 18 p := by exact fun p hp => by rw [hF129.1 4 rfl, hF113.1 4 rfl, hF97.1 4 rfl, hF81.1 4 rfl, cp65 p, cp_get (show p < (Int32.ofInt 160).toNatClampNeg from hp), hF49.1 18 rfl]; rfl
  have n132a : ∀ p : Nat, p < 160 → s129.1 5 p = s.1 19 p := by exact fun p hp => by rw [hF129.1 5 rfl, hF113.1 5 rfl, hF97.1 5 rfl, cp81 p, cp_get (show p < (Int32.ofInt 160).toNatClampNeg from hp), hF65.1 19 rfl, hF49.1 19 rfl]; rfl
  have n132b : s129.2.2.1 2 0 = s.2.2.1 16 0 := by exact ((show u_16_0 = s129.2.2.1 2 0 from fr_F (fr_F (fr_F (fr_F (fr_F (fr_F (s := (sF (sF (sF (sF (sF s 2 0 u_16_0) 2 1 u_16_1) 2 2 u_16_2) 2 3 u_16_3) 2 4 (Int32.ofInt (-1)))) (sF_ne rfl (sF_ne rfl (sF_ne rfl (sF_ne rfl (sF_get))))) hF49 rfl) hF65 rfl) hF81 rfl) hF97 rfl) hF113 rfl) hF129 rfl)).symm.trans e_16_0
  have n132c : s129.2.2.1 2 1 = s.2.2.1 16 1 := by exact ((show u_16_1 = s129.2.2.1 2 1 from fr_F (fr_F (fr_F (fr_F (fr_F (fr_F (s := (sF (sF (sF (sF (sF s 2 0 u_16_0) 2 1 u_16_1) 2 2 u_16_2) 2 3 u_16_3) 2 4 (Int32.ofInt (-1)))) (sF_ne rfl (sF_ne rfl (sF_ne rfl (sF_get)))) hF49 rfl) hF65 rfl) hF81 rfl) hF97 rfl) hF113 rfl) hF129 rfl)).symm.trans e_16_1
  have n132d : ∀ p : Nat, p < 32 → s129.1 3 p = s.1 17 p := by exact fun p hp => by rw [hF129.1 3 rfl, hF113.1 3 rfl, hF97.1 3 rfl, hF81.1 3 rfl, hF65.1 3 rfl, cp49 p, cp_get (show p < (Int32.ofInt 32).toNatClampNeg from hp)]; rfl
  have n132e : ∀ p : Nat, p < 160 → s129.1 6 p = s.1 20 p := by exact fun p hp => by rw [hF129.1 6 rfl, hF113.1 6 rfl, cp97 p, cp_get (show p < (Int32.ofInt 160).toNatClampNeg from hp), hF81.1 20 rfl, hF65.1 20 rfl, hF49.1 20 rfl]; rfl
  have n132f : ∀ p : Nat, p < 160 → s129.1 7 p = s.1 21 p := by exact fun p hp => by rw [hF129.1 7 rfl, cp113 p, cp_get (show p < (Int32.ofInt 160).toNatClampNeg from hp), hF97.1 21 rfl, hF81.1 21 rfl, hF65.1 21 rfl, hF49.1 21 rfl]; rfl
  have n132g : ∀ p : Nat, p < 160 → s129.1 8 p = s.1 22 p := by exact fun p hp => by rw [cp129 p, cp_get (show p < (Int32.ofInt 160).toNatClampNeg from hp), hF113.1 22 rfl, hF97.1 22 rfl, hF81.1 22 rfl, hF65.1 22 rfl, hF49.1 22 rfl]; rfl
  have n132h : s129.2.2.1 2 3 = s.2.2.1 16 3 := by exact ((show u_16_3 = s129.2.2.1 2 3 from fr_F (fr_F (fr_F (fr_F (fr_F (fr_F (s := (sF (sF (sF (sF (sF s 2 0 u_16_0) 2 1 u_16_1) 2 2 u_16_2) 2 3 u_16_3) 2 4 (Int32.ofInt (-1)))) (sF_ne rfl (sF_get)) hF49 rfl) hF65 rfl) hF81 rfl) hF97 rfl) hF113 rfl) hF129 rfl)).symm.trans e_16_3
  exact g_return (gd rfl) rfl (hP _ _ ⟨s129, hI132, (fr_tr rfl (fr_tr rfl (fr_tr rfl (fr_tr rfl (fr_tr rfl (fr_tr rfl (fr_sF rfl (fr_sF rfl (fr_sF rfl (fr_sF rfl (fr_sF rfl fr_rf))))) hF49) hF65) hF81) hF97) hF113) hF129), rfl, rfl, n132, n132a, n132b, n132c, n132d, n132e, n132f, n132g, n132h⟩)

theorem oc_298_109 : (Int32.ofInt (-1)).toInt = (-1) ∧ (Int32.ofInt 0).toInt = 0 ∧ (Int32.ofInt 1).toInt = 1 := ⟨rfl, rfl, rfl⟩
/-- GraphHouseModel.blame -/
theorem f_298 {Z : AmZ} {A : Nat → Nat} {s : GS} {ex : va_W} {d : Nat} {X : AmX} {x1 : Int32} {x2 : Int32} {u_109_23 : Int32} (hd : 1 ≤ d) (hI : Inv s) (h1 : In x1 1 5) (e_109_23 : u_109_23 = s.2.2.1 109 23) : GC Z d 298 [.ref (A 109), .int x1, .int x2] (WW Z A s ++ ex) 0 0 (fun v u => ∃ t : GS, Inv t ∧ Fr fm_298 s t ∧ (1 ≤ (t.2.2.1 109 23).toInt) ∧ v = none ∧ u = WW Z A t ++ ex ∧ (FBL s t (x1).toInt (x2).toInt)) X := by
  intro post xp hP hX
  refine g_enter2 (k := 298) (N := 900) (by first | exact dq1 hd rfl | exact dq0 hd rfl | exact dq2 hd rfl | exact dq3 hd rfl | omega) rfl (Nat.le_of_ble_eq_true rfl) ?_
  refine g_aload_n 1 (gd rfl) rfl rfl ?_
  refine g_getI 4 (gd rfl) rfl rfl rfl (fun z1 e1 => ?_)
  have q1 : u_109_23 = z1 := (e_109_23).trans e1.symm
  subst q1
  refine g_if_ne 7 17 (gd rfl) rfl rfl (fun c4 => ?_) (fun c4 => ?_)
  · skip
    have i4 := z_ne 1 9 c4 (inv_F hI 0 9 rfl e_109_23) rfl
    have n17 : FBL s s (x1).toInt (x2).toInt := by exact ⟨fun h => by exfalso; rw [← e_109_23] at h; (first | have a0 := oa2 i4 h1 | ((first | have a0 := in_u i4 | (have a0 := i4; unfold In at a0)); (first | have a1 := in_u h1 | (have a1 := h1; unfold In at a1)))); have oc := oc_298_109; omega, fun _ => ⟨rfl, rfl⟩⟩
    have n17a : 1 ≤ (u_109_23).toInt := by (first | have a0 := oa2 i4 h1 | ((first | have a0 := in_u i4 | (have a0 := i4; unfold In at a0)); (first | have a1 := in_u h1 | (have a1 := h1; unfold In at a1)))); have oc := oc_298_109; omega
    have n17b : 1 ≤ (s.2.2.1 109 23).toInt := by have b0 : u_109_23 = s.2.2.1 109 23 := e_109_23; rw [← b0]; exact n17a
    exact g_return (gd rfl) rfl (hP _ _ ⟨s, hI, fr_rf, n17b, rfl, rfl, n17⟩)
  · skip
    have i4 := z_eq 0 0 c4 (inv_F hI 0 9 rfl e_109_23) rfl
    refine g_aload_n 8 (gd rfl) rfl rfl ?_
    refine g_iload_n 9 (gd rfl) rfl rfl ?_
    refine g_putI 12 (gd rfl) rfl rfl rfl rfl ?_
    have hI9 := inv_sF (q := 109) (j := 23) hI rfl (in_w 0 9 h1 rfl)
    refine g_aload_n 13 (gd rfl) rfl rfl ?_
    refine g_iload_n 14 (gd rfl) rfl rfl ?_
    refine g_putI 17 (gd rfl) rfl rfl rfl rfl ?_
    have hI14 := inv_sF (q := 109) (j := 24) hI9 rfl (in_w (-2147483648) 2147483647 (i_rng x2) rfl)
    have n17 : FBL s (sF (sF s 109 23 x1) 109 24 x2) (x1).toInt (x2).toInt := by exact ⟨fun _ => ⟨congrArg Int32.toInt ((show x1 = (sF (sF s 109 23 x1) 109 24 x2).2.2.1 109 23 from sF_ne rfl (sF_get))).symm, congrArg Int32.toInt ((show x2 = (sF (sF s 109 23 x1) 109 24 x2).2.2.1 109 24 from sF_get)).symm⟩, fun h => by exfalso; rw [← e_109_23] at h; (first | have a0 := oa2 i4 h1 | ((first | have a0 := in_u i4 | (have a0 := i4; unfold In at a0)); (first | have a1 := in_u h1 | (have a1 := h1; unfold In at a1)))); have oc := oc_298_109; omega⟩
    have n17a : 1 ≤ (x1).toInt := by (first | have a0 := oa2 i4 h1 | ((first | have a0 := in_u i4 | (have a0 := i4; unfold In at a0)); (first | have a1 := in_u h1 | (have a1 := h1; unfold In at a1)))); have oc := oc_298_109; omega
    have n17b : 1 ≤ ((sF (sF s 109 23 x1) 109 24 x2).2.2.1 109 23).toInt := by have b0 : x1 = (sF (sF s 109 23 x1) 109 24 x2).2.2.1 109 23 := sF_ne rfl (sF_get); rw [← b0]; exact n17a
    exact g_return (gd rfl) rfl (hP _ _ ⟨(sF (sF s 109 23 x1) 109 24 x2), hI14, (fr_sF rfl (fr_sF rfl fr_rf)), n17b, rfl, rfl, n17⟩)

theorem oc_300_109 : (Int32.ofInt (-1)).toInt = (-1) ∧ (Int32.ofInt 0).toInt = 0 ∧ (Int32.ofInt 1).toInt = 1 ∧ (Int32.ofInt 3).toInt = 3 ∧ (Int32.ofInt 7).toInt = 7 ∧ (Int32.ofInt 48).toInt = 48 ∧ (Int32.ofInt 57).toInt = 57 ∧ (Int64.ofInt 0).toInt = 0 ∧ (Int64.ofInt 10).toInt = 10 ∧ (Int64.ofInt 48).toInt = 48 := ⟨rfl, rfl, rfl, rfl, rfl, rfl, rfl, rfl, rfl, rfl⟩
/-- GraphHouseModel.readNumber -/
theorem f_300 {Z : AmZ} {A : Nat → Nat} {s : GS} {ex : va_W} {d : Nat} {X : AmX} {x1 : Int32} {u_109_27 : Int32} {u_109_22 : Int32} (hd : 3 ≤ d) (hI : Inv s) (h1 : In x1 7 7) (e_109_27 : u_109_27 = s.2.2.1 109 27) (e_109_22 : u_109_22 = s.2.2.1 109 22) (p_0 : (u_109_27).toInt < (u_109_22).toInt) (q_0 : 48 ≤ (s.1 125 (s.2.2.1 109 27).toNatClampNeg).toInt ∧ (s.1 125 (s.2.2.1 109 27).toNatClampNeg).toInt ≤ 57) : GC Z d 300 [.ref (A 109), .int x1] (WW Z A s ++ ex) 0 0 (fun v u => ∃ t : GS, Inv t ∧ Fr fm_300 s t ∧ ((t.2.2.1 109 27).toInt ≤ (t.2.2.1 109 22).toInt) ∧ ((s.2.2.1 109 27).toInt + 1 ≤ (t.2.2.1 109 27).toInt) ∧ v = none ∧ u = WW Z A t ++ ex ∧ (tkG (s.1 125) (s.2.2.1 109 22).toInt.toNat (s.2.2.1 109 27).toInt.toNat (t.2.2.1 109 27).toInt.toNat ∧ (((t.2.2.1 109 27).toInt.toNat - (s.2.2.1 109 27).toInt.toNat ≤ 7 ∧ (t.2.2.2.1 109 31).toInt = tkN (s.1 125) (s.2.2.1 109 27).toInt.toNat ((t.2.2.1 109 27).toInt.toNat - (s.2.2.1 109 27).toInt.toNat) ∧ FSM s t) ∨ (7 < (t.2.2.1 109 27).toInt.toNat - (s.2.2.1 109 27).toInt.toNat ∧ FBL s t 3 (s.2.2.1 109 29).toInt)))) X := by
  intro post xp hP hX
  have ro_109_22 := inv_F hI 0 1000 rfl e_109_22
  obtain ⟨u_109_29, e_109_29⟩ : ∃ w, w = s.2.2.1 109 29 := ⟨_, rfl⟩
  have ro_109_29 := inv_F hI 0 1000 rfl e_109_29
  have ct10 : ∀ (k10 : Nat) (sc10 : GS) (y10_2 : Int32) (w10_109_27 : Int32), Inv sc10 → Fr fm_300 s sc10 → (In y10_2 0 1000) → (w10_109_27 = sc10.2.2.1 109 27) → ((w10_109_27).toInt ≤ (u_109_22).toInt) → ((u_109_27).toInt ≤ (w10_109_27).toInt) → ((y10_2).toInt = (u_109_27).toInt) → ((∀ i : Nat, (s.2.2.1 109 27).toInt.toNat ≤ i → (i : Int) < (w10_109_27).toInt → tkD (s.1 125 i)) ∧ ((w10_109_27).toInt.toNat - (s.2.2.1 109 27).toInt.toNat ≤ 7 → (sc10.2.2.2.1 109 31).toInt = tkN (s.1 125) (s.2.2.1 109 27).toInt.toNat ((w10_109_27).toInt.toNat - (s.2.2.1 109 27).toInt.toNat))) → (FSM s sc10) → (u_109_22).toInt - (w10_109_27).toInt < (k10 : Int) → GG Z (d - 1) 300 post (gx xp) (1 + k10 * 900) 10 (fun j => xlook j [(0, .ref (A 109)), (1, .int x1), (2, .int y10_2)]) [] (WW Z A sc10 ++ ex) 0 0 := by
    intro k10
    induction k10 with
    | zero => intro sc10 y10_2 w10_109_27 hIc10 hFc10 j10_2 v10_109_27 n10_0 n10_1 n10_2 g10_0 g10_1 mm10; exfalso; (first | have a0 := oa4 h1 ro_109_29 ro_109_22 ((inv_F hIc10 0 1000 rfl v10_109_27)) | ((first | have a0 := in_u h1 | (have a0 := h1; unfold In at a0)); (first | have a1 := in_u ro_109_29 | (have a1 := ro_109_29; unfold In at a1)); (first | have a2 := in_u ro_109_22 | (have a2 := ro_109_22; unfold In at a2)); (first | have a3 := in_u ((inv_F hIc10 0 1000 rfl v10_109_27)) | (have a3 := (inv_F hIc10 0 1000 rfl v10_109_27); unfold In at a3)))); have a4 := j10_2; unfold In at a4; have oc := oc_300_109; omega
    | succ k10 ih10 =>
      intro sc10 y10_2 w10_109_27 hIc10 hFc10 j10_2 v10_109_27 n10_0 n10_1 n10_2 g10_0 g10_1 mm10
      refine gg_w (M := 1 + k10 * 900 + 900) gws ?_
      refine g_aload_n 11 (gd rfl) rfl rfl ?_
      refine g_getI 14 (gd rfl) rfl rfl rfl (fun z11 e11 => ?_)
      have q11 : w10_109_27 = z11 := (v10_109_27).trans e11.symm
      subst q11
      refine g_aload_n 15 (gd rfl) rfl rfl ?_
      refine g_getI 18 (gd rfl) rfl rfl rfl (fun z15 e15 => ?_)
      have q15 : u_109_22 = z15 := (fr_F e_109_22 hFc10 rfl).trans e15.symm
      subst q15
      refine g_cmp_ge 21 93 (gd rfl) rfl rfl (fun c18 => ?_) (fun c18 => ?_)
      · skip
        have hq93 : (u_109_27).toInt + 1 ≤ (w10_109_27).toInt := (by first | ((first | have a0 := oa5 h1 ro_109_29 ro_109_22 ((inv_F hIc10 0 1000 rfl v10_109_27)) j10_2 | ((first | have a0 := in_u h1 | (have a0 := h1; unfold In at a0)); (first | have a1 := in_u ro_109_29 | (have a1 := ro_109_29; unfold In at a1)); (first | have a2 := in_u ro_109_22 | (have a2 := ro_109_22; unfold In at a2)); (first | have a3 := in_u ((inv_F hIc10 0 1000 rfl v10_109_27)) | (have a3 := (inv_F hIc10 0 1000 rfl v10_109_27); unfold In at a3)); (first | have a4 := in_u j10_2 | (have a4 := j10_2; unfold In at a4)))); have oc := oc_300_109; omega) | (have hi := i30x3; unfold In at hi; (first | have a0 := oa5 h1 ro_109_29 ro_109_22 ((inv_F hIc10 0 1000 rfl v10_109_27)) j10_2 | ((first | have a0 := in_u h1 | (have a0 := h1; unfold In at a0)); (first | have a1 := in_u ro_109_29 | (have a1 := ro_109_29; unfold In at a1)); (first | have a2 := in_u ro_109_22 | (have a2 := ro_109_22; unfold In at a2)); (first | have a3 := in_u ((inv_F hIc10 0 1000 rfl v10_109_27)) | (have a3 := (inv_F hIc10 0 1000 rfl v10_109_27); unfold In at a3)); (first | have a4 := in_u j10_2 | (have a4 := j10_2; unfold In at a4)))); have oc := oc_300_109; omega) | (have hi := i30x9; unfold In at hi; (first | have a0 := oa5 h1 ro_109_29 ro_109_22 ((inv_F hIc10 0 1000 rfl v10_109_27)) j10_2 | ((first | have a0 := in_u h1 | (have a0 := h1; unfold In at a0)); (first | have a1 := in_u ro_109_29 | (have a1 := ro_109_29; unfold In at a1)); (first | have a2 := in_u ro_109_22 | (have a2 := ro_109_22; unfold In at a2)); (first | have a3 := in_u ((inv_F hIc10 0 1000 rfl v10_109_27)) | (have a3 := (inv_F hIc10 0 1000 rfl v10_109_27); unfold In at a3)); (first | have a4 := in_u j10_2 | (have a4 := j10_2; unfold In at a4)))); have oc := oc_300_109; omega))
        refine g_aload_n 94 (gd rfl) rfl rfl ?_
        refine g_getI 97 (gd rfl) rfl rfl rfl (fun z94 e94 => ?_)
        have q94 : w10_109_27 = z94 := (v10_109_27).trans e94.symm
        subst q94
        refine g_iload_n 98 (gd rfl) rfl rfl ?_
        refine g_isub 99 (gd rfl) rfl (fun z98 e98 => ?_)
        have i98 := in_sub (-1000) 1000 e98 (inv_F hIc10 0 1000 rfl v10_109_27) j10_2 rfl rfl
        refine g_iload_n 100 (gd rfl) rfl rfl ?_
        refine g_cmp_le 103 122 (gd rfl) rfl rfl (fun c100 => ?_) (fun c100 => ?_)
        · skip
          have i100 := r_le1 (-1000) 7 c100 i98 h1 rfl
          have n122 : tkG (s.1 125) (s.2.2.1 109 22).toInt.toNat (s.2.2.1 109 27).toInt.toNat (sc10.2.2.1 109 27).toInt.toNat ∧ (((sc10.2.2.1 109 27).toInt.toNat - (s.2.2.1 109 27).toInt.toNat ≤ 7 ∧ (sc10.2.2.2.1 109 31).toInt = tkN (s.1 125) (s.2.2.1 109 27).toInt.toNat ((sc10.2.2.1 109 27).toInt.toNat - (s.2.2.1 109 27).toInt.toNat) ∧ FSM s sc10) ∨ (7 < (sc10.2.2.1 109 27).toInt.toNat - (s.2.2.1 109 27).toInt.toNat ∧ FBL s sc10 3 (s.2.2.1 109 29).toInt)) := by have g9 := g10_0; rw [← e_109_27] at g9; have hw : w10_109_27.toNatClampNeg = w10_109_27.toInt.toNat := rfl; rw [← (show w10_109_27 = sc10.2.2.1 109 27 from v10_109_27), ← e_109_22, ← e_109_27]; refine ⟨⟨by (first | have a0 := oa6 h1 ro_109_29 ro_109_22 ((inv_F hIc10 0 1000 rfl v10_109_27)) j10_2 i100 | ((first | have a0 := in_u h1 | (have a0 := h1; unfold In at a0)); (first | have a1 := in_u ro_109_29 | (have a1 := ro_109_29; unfold In at a1)); (first | have a2 := in_u ro_109_22 | (have a2 := ro_109_22; unfold In at a2)); (first | have a3 := in_u ((inv_F hIc10 0 1000 rfl v10_109_27)) | (have a3 := (inv_F hIc10 0 1000 rfl v10_109_27); unfold In at a3)); (first | have a4 := in_u j10_2 | (have a4 := j10_2; unfold In at a4)); (first | have a5 := in_u i100 | (have a5 := i100; unfold In at a5)))); have a6 := t_sub e98 (inv_F hIc10 0 1000 rfl v10_109_27) j10_2 rfl; have oc := oc_300_109; omega, by (first | have a0 := oa6 h1 ro_109_29 ro_109_22 ((inv_F hIc10 0 1000 rfl v10_109_27)) j10_2 i100 | ((first | have a0 := in_u h1 | (have a0 := h1; unfold In at a0)); (first | have a1 := in_u ro_109_29 | (have a1 := ro_109_29; unfold In at a1)); (first | have a2 := in_u ro_109_22 | (have a2 := ro_109_22; unfold In at a2)); (first | have a3 := in_u ((inv_F hIc10 0 1000 rfl v10_109_27)) | (have a3 := (inv_F hIc10 0 1000 rfl v10_109_27); unfold In at a3)); (first | have a4 := in_u j10_2 | (have a4 := j10_2; unfold In at a4)); (first | have a5 := in_u i100 | (have a5 := i100; unfold In at a5)))); have a6 := t_sub e98 (inv_F hIc10 0 1000 rfl v10_109_27) j10_2 rfl; have oc := oc_300_109; omega, fun i a b => g9.1 i a (by (first | have a0 := oa6 h1 ro_109_29 ro_109_22 ((inv_F hIc10 0 1000 rfl v10_109_27)) j10_2 i100 | ((first | have a0 := in_u h1 | (have a0 := h1; unfold In at a0)); (first | have a1 := in_u ro_109_29 | (have a1 := ro_109_29; unfold In at a1)); (first | have a2 := in_u ro_109_22 | (have a2 := ro_109_22; unfold In at a2)); (first | have a3 := in_u ((inv_F hIc10 0 1000 rfl v10_109_27)) | (have a3 := (inv_F hIc10 0 1000 rfl v10_109_27); unfold In at a3)); (first | have a4 := in_u j10_2 | (have a4 := j10_2; unfold In at a4)); (first | have a5 := in_u i100 | (have a5 := i100; unfold In at a5)))); have a6 := t_sub e98 (inv_F hIc10 0 1000 rfl v10_109_27) j10_2 rfl; have oc := oc_300_109; omega), (fun h => absurd h (by (first | have a0 := oa6 h1 ro_109_29 ro_109_22 ((inv_F hIc10 0 1000 rfl v10_109_27)) j10_2 i100 | ((first | have a0 := in_u h1 | (have a0 := h1; unfold In at a0)); (first | have a1 := in_u ro_109_29 | (have a1 := ro_109_29; unfold In at a1)); (first | have a2 := in_u ro_109_22 | (have a2 := ro_109_22; unfold In at a2)); (first | have a3 := in_u ((inv_F hIc10 0 1000 rfl v10_109_27)) | (have a3 := (inv_F hIc10 0 1000 rfl v10_109_27); unfold In at a3)); (first | have a4 := in_u j10_2 | (have a4 := j10_2; unfold In at a4)); (first | have a5 := in_u i100 | (have a5 := i100; unfold In at a5)))); have a6 := t_sub e98 (inv_F hIc10 0 1000 rfl v10_109_27) j10_2 rfl; have oc := oc_300_109; omega))⟩, ?_⟩; exact Or.inl ⟨by (first | have a0 := oa6 h1 ro_109_29 ro_109_22 ((inv_F hIc10 0 1000 rfl v10_109_27)) j10_2 i100 | ((first | have a0 := in_u h1 | (have a0 := h1; unfold In at a0)); (first | have a1 := in_u ro_109_29 | (have a1 := ro_109_29; unfold In at a1)); (first | have a2 := in_u ro_109_22 | (have a2 := ro_109_22; unfold In at a2)); (first | have a3 := in_u ((inv_F hIc10 0 1000 rfl v10_109_27)) | (have a3 := (inv_F hIc10 0 1000 rfl v10_109_27); unfold In at a3)); (first | have a4 := in_u j10_2 | (have a4 := j10_2; unfold In at a4)); (first | have a5 := in_u i100 | (have a5 := i100; unfold In at a5)))); have a6 := t_sub e98 (inv_F hIc10 0 1000 rfl v10_109_27) j10_2 rfl; have oc := oc_300_109; omega, g9.2 (by (first | have a0 := oa6 h1 ro_109_29 ro_109_22 ((inv_F hIc10 0 1000 rfl v10_109_27)) j10_2 i100 | ((first | have a0 := in_u h1 | (have a0 := h1; unfold In at a0)); (first | have a1 := in_u ro_109_29 | (have a1 := ro_109_29; unfold In at a1)); (first | have a2 := in_u ro_109_22 | (have a2 := ro_109_22; unfold In at a2)); (first | have a3 := in_u ((inv_F hIc10 0 1000 rfl v10_109_27)) | (have a3 := (inv_F hIc10 0 1000 rfl v10_109_27); unfold In at a3)); (first | have a4 := in_u j10_2 | (have a4 := j10_2; unfold In at a4)); (first | have a5 := in_u i100 | (have a5 := i100; unfold In at a5)))); have a6 := t_sub e98 (inv_F hIc10 0 1000 rfl v10_109_27) j10_2 rfl; have oc := oc_300_109; omega), g10_1⟩
          have n122a : (w10_109_27).toInt ≤ (u_109_22).toInt := by first | exact n10_0 | ((first | have a0 := oa6 h1 ro_109_29 ro_109_22 ((inv_F hIc10 0 1000 rfl v10_109_27)) j10_2 i100 | ((first | have a0 := in_u h1 | (have a0 := h1; unfold In at a0)); (first | have a1 := in_u ro_109_29 | (have a1 := ro_109_29; unfold In at a1)); (first | have a2 := in_u ro_109_22 | (have a2 := ro_109_22; unfold In at a2)); (first | have a3 := in_u ((inv_F hIc10 0 1000 rfl v10_109_27)) | (have a3 := (inv_F hIc10 0 1000 rfl v10_109_27); unfold In at a3)); (first | have a4 := in_u j10_2 | (have a4 := j10_2; unfold In at a4)); (first | have a5 := in_u i100 | (have a5 := i100; unfold In at a5)))); have a6 := t_sub e98 (inv_F hIc10 0 1000 rfl v10_109_27) j10_2 rfl; have oc := oc_300_109; omega)
          have n122b : (sc10.2.2.1 109 27).toInt ≤ (sc10.2.2.1 109 22).toInt := by have b0 : w10_109_27 = sc10.2.2.1 109 27 := v10_109_27; have b1 : u_109_22 = sc10.2.2.1 109 22 := fr_F e_109_22 hFc10 rfl; rw [← b0, ← b1]; exact n122a
          have n122c : (u_109_27).toInt + 1 ≤ (w10_109_27).toInt := by (first | have a0 := oa6 h1 ro_109_29 ro_109_22 ((inv_F hIc10 0 1000 rfl v10_109_27)) j10_2 i100 | ((first | have a0 := in_u h1 | (have a0 := h1; unfold In at a0)); (first | have a1 := in_u ro_109_29 | (have a1 := ro_109_29; unfold In at a1)); (first | have a2 := in_u ro_109_22 | (have a2 := ro_109_22; unfold In at a2)); (first | have a3 := in_u ((inv_F hIc10 0 1000 rfl v10_109_27)) | (have a3 := (inv_F hIc10 0 1000 rfl v10_109_27); unfold In at a3)); (first | have a4 := in_u j10_2 | (have a4 := j10_2; unfold In at a4)); (first | have a5 := in_u i100 | (have a5 := i100; unfold In at a5)))); have a6 := t_sub e98 (inv_F hIc10 0 1000 rfl v10_109_27) j10_2 rfl; have oc := oc_300_109; omega
          have n122d : (s.2.2.1 109 27).toInt + 1 ≤ (sc10.2.2.1 109 27).toInt := by have b0 : w10_109_27 = sc10.2.2.1 109 27 := v10_109_27; first | (rw [← b0, ← e_109_27]; exact n122c) | (rw [← b0]; exact n122c)
          exact g_return (gd rfl) rfl (hP _ _ ⟨sc10, hIc10, hFc10, n122b, n122d, rfl, rfl, n122⟩)
        · skip
          have i100 := r_lt2 8 1000 c100 h1 i98 rfl
          refine g_aload_n 104 (gd rfl) rfl rfl ?_
          refine g_iload_n 105 (gd rfl) rfl rfl ?_
          refine g_bipush 7 107 (gd rfl) rfl rfl ?_
          refine g_cmp_ne 110 114 (gd rfl) rfl rfl (fun c107 => ?_) (fun c107 => ?_)
          · skip
            exact n_ne c107 h1 (in_c 7 rfl) rfl
          · skip
            refine g_iconst 3 111 (gd rfl) rfl rfl ?_
            refine g_goto 115 (gd rfl) rfl ?_
            refine g_aload_n 116 (gd rfl) rfl rfl ?_
            refine g_getI 119 (gd rfl) rfl rfl rfl (fun z116 e116 => ?_)
            have q116 : u_109_29 = z116 := (fr_F e_109_29 hFc10 rfl).trans e116.symm
            subst q116
            refine g_callv (X := _) (As := [.int (Int32.ofInt 3), .int u_109_29]) (r := []) (b := A 109) (q := 109) 122 (gd rfl) rfl rfl rfl rfl rfl (ww_o rfl) (Nat.le_of_ble_eq_true rfl) (Nat.zero_le _) (Nat.zero_le _) (f_298 (by first | exact dq1 hd rfl | exact dq0 hd rfl | exact dq2 hd rfl | exact dq3 hd rfl | omega) hIc10 (in_w 1 5 (in_c 3 rfl) rfl) rfl) (fun e u h => h) (fun v u h => ?_)
            obtain ⟨s119, hI119, hF119, n119, rfl, rfl, p119⟩ := h
            obtain ⟨z119a, e119⟩ : ∃ w, w = s119.2.2.1 109 23 := ⟨_, rfl⟩
            have i119a := inv_F hI119 0 9 rfl e119
            rw [← (show z119a = s119.2.2.1 109 23 from e119)] at n119
            show GG _ _ _ _ _ _ _ _ [] _ _ _
            have n122 : tkG (s.1 125) (s.2.2.1 109 22).toInt.toNat (s.2.2.1 109 27).toInt.toNat (s119.2.2.1 109 27).toInt.toNat ∧ (((s119.2.2.1 109 27).toInt.toNat - (s.2.2.1 109 27).toInt.toNat ≤ 7 ∧ (s119.2.2.2.1 109 31).toInt = tkN (s.1 125) (s.2.2.1 109 27).toInt.toNat ((s119.2.2.1 109 27).toInt.toNat - (s.2.2.1 109 27).toInt.toNat) ∧ FSM s s119) ∨ (7 < (s119.2.2.1 109 27).toInt.toNat - (s.2.2.1 109 27).toInt.toNat ∧ FBL s s119 3 (s.2.2.1 109 29).toInt)) := by have g9 := g10_0; rw [← e_109_27] at g9; have hw : w10_109_27.toNatClampNeg = w10_109_27.toInt.toNat := rfl; rw [← (show w10_109_27 = s119.2.2.1 109 27 from fr_F (v10_109_27) hF119 rfl), ← e_109_22, ← e_109_27]; refine ⟨⟨by (first | have a0 := oa7 h1 ro_109_29 ro_109_22 ((inv_F hIc10 0 1000 rfl v10_109_27)) j10_2 i119a i100 | ((first | have a0 := in_u h1 | (have a0 := h1; unfold In at a0)); (first | have a1 := in_u ro_109_29 | (have a1 := ro_109_29; unfold In at a1)); (first | have a2 := in_u ro_109_22 | (have a2 := ro_109_22; unfold In at a2)); (first | have a3 := in_u ((inv_F hIc10 0 1000 rfl v10_109_27)) | (have a3 := (inv_F hIc10 0 1000 rfl v10_109_27); unfold In at a3)); (first | have a4 := in_u j10_2 | (have a4 := j10_2; unfold In at a4)); (first | have a5 := in_u i119a | (have a5 := i119a; unfold In at a5)); (first | have a6 := in_u i100 | (have a6 := i100; unfold In at a6)))); have a7 := t_sub e98 (inv_F hIc10 0 1000 rfl v10_109_27) j10_2 rfl; have oc := oc_300_109; omega, by (first | have a0 := oa7 h1 ro_109_29 ro_109_22 ((inv_F hIc10 0 1000 rfl v10_109_27)) j10_2 i119a i100 | ((first | have a0 := in_u h1 | (have a0 := h1; unfold In at a0)); (first | have a1 := in_u ro_109_29 | (have a1 := ro_109_29; unfold In at a1)); (first | have a2 := in_u ro_109_22 | (have a2 := ro_109_22; unfold In at a2)); (first | have a3 := in_u ((inv_F hIc10 0 1000 rfl v10_109_27)) | (have a3 := (inv_F hIc10 0 1000 rfl v10_109_27); unfold In at a3)); (first | have a4 := in_u j10_2 | (have a4 := j10_2; unfold In at a4)); (first | have a5 := in_u i119a | (have a5 := i119a; unfold In at a5)); (first | have a6 := in_u i100 | (have a6 := i100; unfold In at a6)))); have a7 := t_sub e98 (inv_F hIc10 0 1000 rfl v10_109_27) j10_2 rfl; have oc := oc_300_109; omega, fun i a b => g9.1 i a (by (first | have a0 := oa7 h1 ro_109_29 ro_109_22 ((inv_F hIc10 0 1000 rfl v10_109_27)) j10_2 i119a i100 | ((first | have a0 := in_u h1 | (have a0 := h1; unfold In at a0)); (first | have a1 := in_u ro_109_29 | (have a1 := ro_109_29; unfold In at a1)); (first | have a2 := in_u ro_109_22 | (have a2 := ro_109_22; unfold In at a2)); (first | have a3 := in_u ((inv_F hIc10 0 1000 rfl v10_109_27)) | (have a3 := (inv_F hIc10 0 1000 rfl v10_109_27); unfold In at a3)); (first | have a4 := in_u j10_2 | (have a4 := j10_2; unfold In at a4)); (first | have a5 := in_u i119a | (have a5 := i119a; unfold In at a5)); (first | have a6 := in_u i100 | (have a6 := i100; unfold In at a6)))); have a7 := t_sub e98 (inv_F hIc10 0 1000 rfl v10_109_27) j10_2 rfl; have oc := oc_300_109; omega), (fun h => absurd h (by (first | have a0 := oa7 h1 ro_109_29 ro_109_22 ((inv_F hIc10 0 1000 rfl v10_109_27)) j10_2 i119a i100 | ((first | have a0 := in_u h1 | (have a0 := h1; unfold In at a0)); (first | have a1 := in_u ro_109_29 | (have a1 := ro_109_29; unfold In at a1)); (first | have a2 := in_u ro_109_22 | (have a2 := ro_109_22; unfold In at a2)); (first | have a3 := in_u ((inv_F hIc10 0 1000 rfl v10_109_27)) | (have a3 := (inv_F hIc10 0 1000 rfl v10_109_27); unfold In at a3)); (first | have a4 := in_u j10_2 | (have a4 := j10_2; unfold In at a4)); (first | have a5 := in_u i119a | (have a5 := i119a; unfold In at a5)); (first | have a6 := in_u i100 | (have a6 := i100; unfold In at a6)))); have a7 := t_sub e98 (inv_F hIc10 0 1000 rfl v10_109_27) j10_2 rfl; have oc := oc_300_109; omega))⟩, ?_⟩; refine Or.inr ⟨by (first | have a0 := oa7 h1 ro_109_29 ro_109_22 ((inv_F hIc10 0 1000 rfl v10_109_27)) j10_2 i119a i100 | ((first | have a0 := in_u h1 | (have a0 := h1; unfold In at a0)); (first | have a1 := in_u ro_109_29 | (have a1 := ro_109_29; unfold In at a1)); (first | have a2 := in_u ro_109_22 | (have a2 := ro_109_22; unfold In at a2)); (first | have a3 := in_u ((inv_F hIc10 0 1000 rfl v10_109_27)) | (have a3 := (inv_F hIc10 0 1000 rfl v10_109_27); unfold In at a3)); (first | have a4 := in_u j10_2 | (have a4 := j10_2; unfold In at a4)); (first | have a5 := in_u i119a | (have a5 := i119a; unfold In at a5)); (first | have a6 := in_u i100 | (have a6 := i100; unfold In at a6)))); have a7 := t_sub e98 (inv_F hIc10 0 1000 rfl v10_109_27) j10_2 rfl; have oc := oc_300_109; omega, ?_⟩; have hb := p119; unfold FBL FSM at hb ⊢; rw [g10_1.1, g10_1.2] at hb; rw [← e_109_29]; first | exact hb | (exfalso; (first | have a0 := oa7 h1 ro_109_29 ro_109_22 ((inv_F hIc10 0 1000 rfl v10_109_27)) j10_2 i119a i100 | ((first | have a0 := in_u h1 | (have a0 := h1; unfold In at a0)); (first | have a1 := in_u ro_109_29 | (have a1 := ro_109_29; unfold In at a1)); (first | have a2 := in_u ro_109_22 | (have a2 := ro_109_22; unfold In at a2)); (first | have a3 := in_u ((inv_F hIc10 0 1000 rfl v10_109_27)) | (have a3 := (inv_F hIc10 0 1000 rfl v10_109_27); unfold In at a3)); (first | have a4 := in_u j10_2 | (have a4 := j10_2; unfold In at a4)); (first | have a5 := in_u i119a | (have a5 := i119a; unfold In at a5)); (first | have a6 := in_u i100 | (have a6 := i100; unfold In at a6)))); have a7 := t_sub e98 (inv_F hIc10 0 1000 rfl v10_109_27) j10_2 rfl; have oc := oc_300_109; omega)
            have n122a : (w10_109_27).toInt ≤ (u_109_22).toInt := by first | exact n10_0 | ((first | have a0 := oa7 h1 ro_109_29 ro_109_22 ((inv_F hIc10 0 1000 rfl v10_109_27)) j10_2 i119a i100 | ((first | have a0 := in_u h1 | (have a0 := h1; unfold In at a0)); (first | have a1 := in_u ro_109_29 | (have a1 := ro_109_29; unfold In at a1)); (first | have a2 := in_u ro_109_22 | (have a2 := ro_109_22; unfold In at a2)); (first | have a3 := in_u ((inv_F hIc10 0 1000 rfl v10_109_27)) | (have a3 := (inv_F hIc10 0 1000 rfl v10_109_27); unfold In at a3)); (first | have a4 := in_u j10_2 | (have a4 := j10_2; unfold In at a4)); (first | have a5 := in_u i119a | (have a5 := i119a; unfold In at a5)); (first | have a6 := in_u i100 | (have a6 := i100; unfold In at a6)))); have a7 := t_sub e98 (inv_F hIc10 0 1000 rfl v10_109_27) j10_2 rfl; have oc := oc_300_109; omega)
            have n122b : (s119.2.2.1 109 27).toInt ≤ (s119.2.2.1 109 22).toInt := by have b0 : w10_109_27 = s119.2.2.1 109 27 := fr_F (v10_109_27) hF119 rfl; have b1 : u_109_22 = s119.2.2.1 109 22 := fr_F (fr_F e_109_22 hFc10 rfl) hF119 rfl; rw [← b0, ← b1]; exact n122a
            have n122c : (u_109_27).toInt + 1 ≤ (w10_109_27).toInt := by (first | have a0 := oa7 h1 ro_109_29 ro_109_22 ((inv_F hIc10 0 1000 rfl v10_109_27)) j10_2 i119a i100 | ((first | have a0 := in_u h1 | (have a0 := h1; unfold In at a0)); (first | have a1 := in_u ro_109_29 | (have a1 := ro_109_29; unfold In at a1)); (first | have a2 := in_u ro_109_22 | (have a2 := ro_109_22; unfold In at a2)); (first | have a3 := in_u ((inv_F hIc10 0 1000 rfl v10_109_27)) | (have a3 := (inv_F hIc10 0 1000 rfl v10_109_27); unfold In at a3)); (first | have a4 := in_u j10_2 | (have a4 := j10_2; unfold In at a4)); (first | have a5 := in_u i119a | (have a5 := i119a; unfold In at a5)); (first | have a6 := in_u i100 | (have a6 := i100; unfold In at a6)))); have a7 := t_sub e98 (inv_F hIc10 0 1000 rfl v10_109_27) j10_2 rfl; have oc := oc_300_109; omega
            have n122d : (s.2.2.1 109 27).toInt + 1 ≤ (s119.2.2.1 109 27).toInt := by have b0 : w10_109_27 = s119.2.2.1 109 27 := fr_F (v10_109_27) hF119 rfl; first | (rw [← b0, ← e_109_27]; exact n122c) | (rw [← b0]; exact n122c)
            exact g_return (gd rfl) rfl (hP _ _ ⟨s119, hI119, (fr_tr rfl hFc10 hF119), n122b, n122d, rfl, rfl, n122⟩)
      · skip
        have i18 := r_lt1 0 999 c18 (inv_F hIc10 0 1000 rfl v10_109_27) ro_109_22 rfl
        have i18a := r_lt2 1 1000 c18 (inv_F hIc10 0 1000 rfl v10_109_27) ro_109_22 rfl
        refine g_aload_n 22 (gd rfl) rfl rfl ?_
        refine g_getA (q2 := 125) 25 (gd rfl) rfl rfl rfl rfl ?_
        refine g_aload_n 26 (gd rfl) rfl rfl ?_
        refine g_getI 29 (gd rfl) rfl rfl rfl (fun z26 e26 => ?_)
        have q26 : w10_109_27 = z26 := (v10_109_27).trans e26.symm
        subst q26
        refine g_iaload 30 (gd rfl) rfl (n := 1000) rfl (in_ix i18 rfl) (fun z29 e29 => ?_)
        have i29 := inv_I hIc10 (n := 1000) (t := 0) 0 126 rfl (in_ix i18 rfl) rfl e29
        have hd : w10_109_27.toInt = u_109_27.toInt → 48 ≤ (z29).toInt ∧ (z29).toInt ≤ 57 := (fun h => by rw [e29, Int32.toInt_inj.mp h, hFc10.1 125 rfl, e_109_27]; exact q_0)
        refine g_calls (As := [.int z29]) (r := []) 33 (gd rfl) rfl rfl rfl rfl rfl (Nat.le_of_ble_eq_true rfl) (mc := 0) (ms := 0) (Nat.zero_le _) (Nat.zero_le _) (P := fun v u => _) ?_ (fun v u h => h)
        intro po30 xx30 hp30 hx30
        refine g_enter2 (k := 297) (N := 300) (by first | exact dq1 hd rfl | exact dq0 hd rfl | exact dq2 hd rfl | exact dq3 hd rfl | omega) rfl (Nat.le_of_ble_eq_true rfl) ?_
        refine g_iload_n 1 (gd rfl) rfl rfl ?_
        refine g_bipush 48 3 (gd rfl) rfl rfl ?_
        refine g_cmp_lt 6 16 (gd rfl) rfl rfl (fun c30x3 => ?_) (fun c30x3 => ?_)
        · skip
          have i30x3 := r_lt1 0 47 c30x3 i29 (in_c 48 rfl) rfl
          refine g_iconst 0 17 (gd rfl) rfl rfl ?_
          refine g_ireturn (gd rfl) rfl (nb01 (in_w 0 1 (in_c 0 rfl) rfl)) (hp30 _ _ ?_)
          show GG _ _ _ _ _ _ _ _ [.int (Int32.ofInt 0)] _ _ _
          refine g_if_eq 36 93 (gd rfl) rfl rfl (fun c33 => ?_) (fun c33 => ?_)
          · skip
            have hq93 : (u_109_27).toInt + 1 ≤ (w10_109_27).toInt := (by first | ((first | have a0 := oa5 h1 ro_109_29 i18a i18 j10_2 | ((first | have a0 := in_u h1 | (have a0 := h1; unfold In at a0)); (first | have a1 := in_u ro_109_29 | (have a1 := ro_109_29; unfold In at a1)); (first | have a2 := in_u i18a | (have a2 := i18a; unfold In at a2)); (first | have a3 := in_u i18 | (have a3 := i18; unfold In at a3)); (first | have a4 := in_u j10_2 | (have a4 := j10_2; unfold In at a4)))); have oc := oc_300_109; omega) | (have hi := i30x3; unfold In at hi; (first | have a0 := oa5 h1 ro_109_29 i18a i18 j10_2 | ((first | have a0 := in_u h1 | (have a0 := h1; unfold In at a0)); (first | have a1 := in_u ro_109_29 | (have a1 := ro_109_29; unfold In at a1)); (first | have a2 := in_u i18a | (have a2 := i18a; unfold In at a2)); (first | have a3 := in_u i18 | (have a3 := i18; unfold In at a3)); (first | have a4 := in_u j10_2 | (have a4 := j10_2; unfold In at a4)))); have oc := oc_300_109; omega) | (have hi := i30x9; unfold In at hi; (first | have a0 := oa5 h1 ro_109_29 i18a i18 j10_2 | ((first | have a0 := in_u h1 | (have a0 := h1; unfold In at a0)); (first | have a1 := in_u ro_109_29 | (have a1 := ro_109_29; unfold In at a1)); (first | have a2 := in_u i18a | (have a2 := i18a; unfold In at a2)); (first | have a3 := in_u i18 | (have a3 := i18; unfold In at a3)); (first | have a4 := in_u j10_2 | (have a4 := j10_2; unfold In at a4)))); have oc := oc_300_109; omega))
            refine g_aload_n 94 (gd rfl) rfl rfl ?_
            refine g_getI 97 (gd rfl) rfl rfl rfl (fun z94 e94 => ?_)
            have q94 : w10_109_27 = z94 := (v10_109_27).trans e94.symm
            subst q94
            refine g_iload_n 98 (gd rfl) rfl rfl ?_
            refine g_isub 99 (gd rfl) rfl (fun z98 e98 => ?_)
            have i98 := in_sub (-1000) 999 e98 i18 j10_2 rfl rfl
            refine g_iload_n 100 (gd rfl) rfl rfl ?_
            refine g_cmp_le 103 122 (gd rfl) rfl rfl (fun c100 => ?_) (fun c100 => ?_)
            · skip
              have i100 := r_le1 (-1000) 7 c100 i98 h1 rfl
              have n122 : tkG (s.1 125) (s.2.2.1 109 22).toInt.toNat (s.2.2.1 109 27).toInt.toNat (sc10.2.2.1 109 27).toInt.toNat ∧ (((sc10.2.2.1 109 27).toInt.toNat - (s.2.2.1 109 27).toInt.toNat ≤ 7 ∧ (sc10.2.2.2.1 109 31).toInt = tkN (s.1 125) (s.2.2.1 109 27).toInt.toNat ((sc10.2.2.1 109 27).toInt.toNat - (s.2.2.1 109 27).toInt.toNat) ∧ FSM s sc10) ∨ (7 < (sc10.2.2.1 109 27).toInt.toNat - (s.2.2.1 109 27).toInt.toNat ∧ FBL s sc10 3 (s.2.2.1 109 29).toInt)) := by have g9 := g10_0; rw [← e_109_27] at g9; have hw : w10_109_27.toNatClampNeg = w10_109_27.toInt.toNat := rfl; rw [← (show w10_109_27 = sc10.2.2.1 109 27 from v10_109_27), ← e_109_22, ← e_109_27]; refine ⟨⟨by (first | have a0 := oa6 h1 ro_109_29 i18a i18 j10_2 i100 | ((first | have a0 := in_u h1 | (have a0 := h1; unfold In at a0)); (first | have a1 := in_u ro_109_29 | (have a1 := ro_109_29; unfold In at a1)); (first | have a2 := in_u i18a | (have a2 := i18a; unfold In at a2)); (first | have a3 := in_u i18 | (have a3 := i18; unfold In at a3)); (first | have a4 := in_u j10_2 | (have a4 := j10_2; unfold In at a4)); (first | have a5 := in_u i100 | (have a5 := i100; unfold In at a5)))); have a6 := t_sub e98 i18 j10_2 rfl; have oc := oc_300_109; omega, by (first | have a0 := oa6 h1 ro_109_29 i18a i18 j10_2 i100 | ((first | have a0 := in_u h1 | (have a0 := h1; unfold In at a0)); (first | have a1 := in_u ro_109_29 | (have a1 := ro_109_29; unfold In at a1)); (first | have a2 := in_u i18a | (have a2 := i18a; unfold In at a2)); (first | have a3 := in_u i18 | (have a3 := i18; unfold In at a3)); (first | have a4 := in_u j10_2 | (have a4 := j10_2; unfold In at a4)); (first | have a5 := in_u i100 | (have a5 := i100; unfold In at a5)))); have a6 := t_sub e98 i18 j10_2 rfl; have oc := oc_300_109; omega, fun i a b => g9.1 i a (by (first | have a0 := oa6 h1 ro_109_29 i18a i18 j10_2 i100 | ((first | have a0 := in_u h1 | (have a0 := h1; unfold In at a0)); (first | have a1 := in_u ro_109_29 | (have a1 := ro_109_29; unfold In at a1)); (first | have a2 := in_u i18a | (have a2 := i18a; unfold In at a2)); (first | have a3 := in_u i18 | (have a3 := i18; unfold In at a3)); (first | have a4 := in_u j10_2 | (have a4 := j10_2; unfold In at a4)); (first | have a5 := in_u i100 | (have a5 := i100; unfold In at a5)))); have a6 := t_sub e98 i18 j10_2 rfl; have oc := oc_300_109; omega), (fun _ => by rw [show s.1 125 w10_109_27.toInt.toNat = z29 from (by rw [e29, hFc10.1 125 rfl]; rfl)]; unfold tkD; (first | have a0 := oa6 h1 ro_109_29 i18a i18 j10_2 i100 | ((first | have a0 := in_u h1 | (have a0 := h1; unfold In at a0)); (first | have a1 := in_u ro_109_29 | (have a1 := ro_109_29; unfold In at a1)); (first | have a2 := in_u i18a | (have a2 := i18a; unfold In at a2)); (first | have a3 := in_u i18 | (have a3 := i18; unfold In at a3)); (first | have a4 := in_u j10_2 | (have a4 := j10_2; unfold In at a4)); (first | have a5 := in_u i100 | (have a5 := i100; unfold In at a5)))); have a6 := t_sub e98 i18 j10_2 rfl; have oc := oc_300_109; omega)⟩, ?_⟩; exact Or.inl ⟨by (first | have a0 := oa6 h1 ro_109_29 i18a i18 j10_2 i100 | ((first | have a0 := in_u h1 | (have a0 := h1; unfold In at a0)); (first | have a1 := in_u ro_109_29 | (have a1 := ro_109_29; unfold In at a1)); (first | have a2 := in_u i18a | (have a2 := i18a; unfold In at a2)); (first | have a3 := in_u i18 | (have a3 := i18; unfold In at a3)); (first | have a4 := in_u j10_2 | (have a4 := j10_2; unfold In at a4)); (first | have a5 := in_u i100 | (have a5 := i100; unfold In at a5)))); have a6 := t_sub e98 i18 j10_2 rfl; have oc := oc_300_109; omega, g9.2 (by (first | have a0 := oa6 h1 ro_109_29 i18a i18 j10_2 i100 | ((first | have a0 := in_u h1 | (have a0 := h1; unfold In at a0)); (first | have a1 := in_u ro_109_29 | (have a1 := ro_109_29; unfold In at a1)); (first | have a2 := in_u i18a | (have a2 := i18a; unfold In at a2)); (first | have a3 := in_u i18 | (have a3 := i18; unfold In at a3)); (first | have a4 := in_u j10_2 | (have a4 := j10_2; unfold In at a4)); (first | have a5 := in_u i100 | (have a5 := i100; unfold In at a5)))); have a6 := t_sub e98 i18 j10_2 rfl; have oc := oc_300_109; omega), g10_1⟩
              have n122a : (w10_109_27).toInt ≤ (u_109_22).toInt := by first | exact n10_0 | ((first | have a0 := oa6 h1 ro_109_29 i18a i18 j10_2 i100 | ((first | have a0 := in_u h1 | (have a0 := h1; unfold In at a0)); (first | have a1 := in_u ro_109_29 | (have a1 := ro_109_29; unfold In at a1)); (first | have a2 := in_u i18a | (have a2 := i18a; unfold In at a2)); (first | have a3 := in_u i18 | (have a3 := i18; unfold In at a3)); (first | have a4 := in_u j10_2 | (have a4 := j10_2; unfold In at a4)); (first | have a5 := in_u i100 | (have a5 := i100; unfold In at a5)))); have a6 := t_sub e98 i18 j10_2 rfl; have oc := oc_300_109; omega)
              have n122b : (sc10.2.2.1 109 27).toInt ≤ (sc10.2.2.1 109 22).toInt := by have b0 : w10_109_27 = sc10.2.2.1 109 27 := v10_109_27; have b1 : u_109_22 = sc10.2.2.1 109 22 := fr_F e_109_22 hFc10 rfl; rw [← b0, ← b1]; exact n122a
              have n122c : (u_109_27).toInt + 1 ≤ (w10_109_27).toInt := by (first | have a0 := oa6 h1 ro_109_29 i18a i18 j10_2 i100 | ((first | have a0 := in_u h1 | (have a0 := h1; unfold In at a0)); (first | have a1 := in_u ro_109_29 | (have a1 := ro_109_29; unfold In at a1)); (first | have a2 := in_u i18a | (have a2 := i18a; unfold In at a2)); (first | have a3 := in_u i18 | (have a3 := i18; unfold In at a3)); (first | have a4 := in_u j10_2 | (have a4 := j10_2; unfold In at a4)); (first | have a5 := in_u i100 | (have a5 := i100; unfold In at a5)))); have a6 := t_sub e98 i18 j10_2 rfl; have oc := oc_300_109; omega
              have n122d : (s.2.2.1 109 27).toInt + 1 ≤ (sc10.2.2.1 109 27).toInt := by have b0 : w10_109_27 = sc10.2.2.1 109 27 := v10_109_27; first | (rw [← b0, ← e_109_27]; exact n122c) | (rw [← b0]; exact n122c)
              exact g_return (gd rfl) rfl (hP _ _ ⟨sc10, hIc10, hFc10, n122b, n122d, rfl, rfl, n122⟩)
            · skip
              have i100 := r_lt2 8 999 c100 h1 i98 rfl
              refine g_aload_n 104 (gd rfl) rfl rfl ?_
              refine g_iload_n 105 (gd rfl) rfl rfl ?_
              refine g_bipush 7 107 (gd rfl) rfl rfl ?_
              refine g_cmp_ne 110 114 (gd rfl) rfl rfl (fun c107 => ?_) (fun c107 => ?_)
              · skip
                exact n_ne c107 h1 (in_c 7 rfl) rfl
              · skip
                refine g_iconst 3 111 (gd rfl) rfl rfl ?_
                refine g_goto 115 (gd rfl) rfl ?_
                refine g_aload_n 116 (gd rfl) rfl rfl ?_
                refine g_getI 119 (gd rfl) rfl rfl rfl (fun z116 e116 => ?_)
                have q116 : u_109_29 = z116 := (fr_F e_109_29 hFc10 rfl).trans e116.symm
                subst q116
                refine g_callv (X := _) (As := [.int (Int32.ofInt 3), .int u_109_29]) (r := []) (b := A 109) (q := 109) 122 (gd rfl) rfl rfl rfl rfl rfl (ww_o rfl) (Nat.le_of_ble_eq_true rfl) (Nat.zero_le _) (Nat.zero_le _) (f_298 (by first | exact dq1 hd rfl | exact dq0 hd rfl | exact dq2 hd rfl | exact dq3 hd rfl | omega) hIc10 (in_w 1 5 (in_c 3 rfl) rfl) rfl) (fun e u h => h) (fun v u h => ?_)
                obtain ⟨s119, hI119, hF119, n119, rfl, rfl, p119⟩ := h
                obtain ⟨z119a, e119⟩ : ∃ w, w = s119.2.2.1 109 23 := ⟨_, rfl⟩
                have i119a := inv_F hI119 0 9 rfl e119
                rw [← (show z119a = s119.2.2.1 109 23 from e119)] at n119
                show GG _ _ _ _ _ _ _ _ [] _ _ _
                have n122 : tkG (s.1 125) (s.2.2.1 109 22).toInt.toNat (s.2.2.1 109 27).toInt.toNat (s119.2.2.1 109 27).toInt.toNat ∧ (((s119.2.2.1 109 27).toInt.toNat - (s.2.2.1 109 27).toInt.toNat ≤ 7 ∧ (s119.2.2.2.1 109 31).toInt = tkN (s.1 125) (s.2.2.1 109 27).toInt.toNat ((s119.2.2.1 109 27).toInt.toNat - (s.2.2.1 109 27).toInt.toNat) ∧ FSM s s119) ∨ (7 < (s119.2.2.1 109 27).toInt.toNat - (s.2.2.1 109 27).toInt.toNat ∧ FBL s s119 3 (s.2.2.1 109 29).toInt)) := by have g9 := g10_0; rw [← e_109_27] at g9; have hw : w10_109_27.toNatClampNeg = w10_109_27.toInt.toNat := rfl; rw [← (show w10_109_27 = s119.2.2.1 109 27 from fr_F (v10_109_27) hF119 rfl), ← e_109_22, ← e_109_27]; refine ⟨⟨by (first | have a0 := oa7 h1 ro_109_29 i18a i18 j10_2 i119a i100 | ((first | have a0 := in_u h1 | (have a0 := h1; unfold In at a0)); (first | have a1 := in_u ro_109_29 | (have a1 := ro_109_29; unfold In at a1)); (first | have a2 := in_u i18a | (have a2 := i18a; unfold In at a2)); (first | have a3 := in_u i18 | (have a3 := i18; unfold In at a3)); (first | have a4 := in_u j10_2 | (have a4 := j10_2; unfold In at a4)); (first | have a5 := in_u i119a | (have a5 := i119a; unfold In at a5)); (first | have a6 := in_u i100 | (have a6 := i100; unfold In at a6)))); have a7 := t_sub e98 i18 j10_2 rfl; have oc := oc_300_109; omega, by (first | have a0 := oa7 h1 ro_109_29 i18a i18 j10_2 i119a i100 | ((first | have a0 := in_u h1 | (have a0 := h1; unfold In at a0)); (first | have a1 := in_u ro_109_29 | (have a1 := ro_109_29; unfold In at a1)); (first | have a2 := in_u i18a | (have a2 := i18a; unfold In at a2)); (first | have a3 := in_u i18 | (have a3 := i18; unfold In at a3)); (first | have a4 := in_u j10_2 | (have a4 := j10_2; unfold In at a4)); (first | have a5 := in_u i119a | (have a5 := i119a; unfold In at a5)); (first | have a6 := in_u i100 | (have a6 := i100; unfold In at a6)))); have a7 := t_sub e98 i18 j10_2 rfl; have oc := oc_300_109; omega, fun i a b => g9.1 i a (by (first | have a0 := oa7 h1 ro_109_29 i18a i18 j10_2 i119a i100 | ((first | have a0 := in_u h1 | (have a0 := h1; unfold In at a0)); (first | have a1 := in_u ro_109_29 | (have a1 := ro_109_29; unfold In at a1)); (first | have a2 := in_u i18a | (have a2 := i18a; unfold In at a2)); (first | have a3 := in_u i18 | (have a3 := i18; unfold In at a3)); (first | have a4 := in_u j10_2 | (have a4 := j10_2; unfold In at a4)); (first | have a5 := in_u i119a | (have a5 := i119a; unfold In at a5)); (first | have a6 := in_u i100 | (have a6 := i100; unfold In at a6)))); have a7 := t_sub e98 i18 j10_2 rfl; have oc := oc_300_109; omega), (fun _ => by rw [show s.1 125 w10_109_27.toInt.toNat = z29 from (by rw [e29, hFc10.1 125 rfl]; rfl)]; unfold tkD; (first | have a0 := oa7 h1 ro_109_29 i18a i18 j10_2 i119a i100 | ((first | have a0 := in_u h1 | (have a0 := h1; unfold In at a0)); (first | have a1 := in_u ro_109_29 | (have a1 := ro_109_29; unfold In at a1)); (first | have a2 := in_u i18a | (have a2 := i18a; unfold In at a2)); (first | have a3 := in_u i18 | (have a3 := i18; unfold In at a3)); (first | have a4 := in_u j10_2 | (have a4 := j10_2; unfold In at a4)); (first | have a5 := in_u i119a | (have a5 := i119a; unfold In at a5)); (first | have a6 := in_u i100 | (have a6 := i100; unfold In at a6)))); have a7 := t_sub e98 i18 j10_2 rfl; have oc := oc_300_109; omega)⟩, ?_⟩; refine Or.inr ⟨by (first | have a0 := oa7 h1 ro_109_29 i18a i18 j10_2 i119a i100 | ((first | have a0 := in_u h1 | (have a0 := h1; unfold In at a0)); (first | have a1 := in_u ro_109_29 | (have a1 := ro_109_29; unfold In at a1)); (first | have a2 := in_u i18a | (have a2 := i18a; unfold In at a2)); (first | have a3 := in_u i18 | (have a3 := i18; unfold In at a3)); (first | have a4 := in_u j10_2 | (have a4 := j10_2; unfold In at a4)); (first | have a5 := in_u i119a | (have a5 := i119a; unfold In at a5)); (first | have a6 := in_u i100 | (have a6 := i100; unfold In at a6)))); have a7 := t_sub e98 i18 j10_2 rfl; have oc := oc_300_109; omega, ?_⟩; have hb := p119; unfold FBL FSM at hb ⊢; rw [g10_1.1, g10_1.2] at hb; rw [← e_109_29]; first | exact hb | (exfalso; (first | have a0 := oa7 h1 ro_109_29 i18a i18 j10_2 i119a i100 | ((first | have a0 := in_u h1 | (have a0 := h1; unfold In at a0)); (first | have a1 := in_u ro_109_29 | (have a1 := ro_109_29; unfold In at a1)); (first | have a2 := in_u i18a | (have a2 := i18a; unfold In at a2)); (first | have a3 := in_u i18 | (have a3 := i18; unfold In at a3)); (first | have a4 := in_u j10_2 | (have a4 := j10_2; unfold In at a4)); (first | have a5 := in_u i119a | (have a5 := i119a; unfold In at a5)); (first | have a6 := in_u i100 | (have a6 := i100; unfold In at a6)))); have a7 := t_sub e98 i18 j10_2 rfl; have oc := oc_300_109; omega)
                have n122a : (w10_109_27).toInt ≤ (u_109_22).toInt := by first | exact n10_0 | ((first | have a0 := oa7 h1 ro_109_29 i18a i18 j10_2 i119a i100 | ((first | have a0 := in_u h1 | (have a0 := h1; unfold In at a0)); (first | have a1 := in_u ro_109_29 | (have a1 := ro_109_29; unfold In at a1)); (first | have a2 := in_u i18a | (have a2 := i18a; unfold In at a2)); (first | have a3 := in_u i18 | (have a3 := i18; unfold In at a3)); (first | have a4 := in_u j10_2 | (have a4 := j10_2; unfold In at a4)); (first | have a5 := in_u i119a | (have a5 := i119a; unfold In at a5)); (first | have a6 := in_u i100 | (have a6 := i100; unfold In at a6)))); have a7 := t_sub e98 i18 j10_2 rfl; have oc := oc_300_109; omega)
                have n122b : (s119.2.2.1 109 27).toInt ≤ (s119.2.2.1 109 22).toInt := by have b0 : w10_109_27 = s119.2.2.1 109 27 := fr_F (v10_109_27) hF119 rfl; have b1 : u_109_22 = s119.2.2.1 109 22 := fr_F (fr_F e_109_22 hFc10 rfl) hF119 rfl; rw [← b0, ← b1]; exact n122a
                have n122c : (u_109_27).toInt + 1 ≤ (w10_109_27).toInt := by (first | have a0 := oa7 h1 ro_109_29 i18a i18 j10_2 i119a i100 | ((first | have a0 := in_u h1 | (have a0 := h1; unfold In at a0)); (first | have a1 := in_u ro_109_29 | (have a1 := ro_109_29; unfold In at a1)); (first | have a2 := in_u i18a | (have a2 := i18a; unfold In at a2)); (first | have a3 := in_u i18 | (have a3 := i18; unfold In at a3)); (first | have a4 := in_u j10_2 | (have a4 := j10_2; unfold In at a4)); (first | have a5 := in_u i119a | (have a5 := i119a; unfold In at a5)); (first | have a6 := in_u i100 | (have a6 := i100; unfold In at a6)))); have a7 := t_sub e98 i18 j10_2 rfl; have oc := oc_300_109; omega
                have n122d : (s.2.2.1 109 27).toInt + 1 ≤ (s119.2.2.1 109 27).toInt := by have b0 : w10_109_27 = s119.2.2.1 109 27 := fr_F (v10_109_27) hF119 rfl; first | (rw [← b0, ← e_109_27]; exact n122c) | (rw [← b0]; exact n122c)
                exact g_return (gd rfl) rfl (hP _ _ ⟨s119, hI119, (fr_tr rfl hFc10 hF119), n122b, n122d, rfl, rfl, n122⟩)
          · skip
            exact zn_ne c33 (in_c 0 rfl) rfl
        · skip
          have i30x3 := r_le2 48 126 c30x3 (in_c 48 rfl) i29 rfl
          refine g_iload_n 7 (gd rfl) rfl rfl ?_
          refine g_bipush 57 9 (gd rfl) rfl rfl ?_
          refine g_cmp_gt 12 16 (gd rfl) rfl rfl (fun c30x9 => ?_) (fun c30x9 => ?_)
          · skip
            have i30x9 := r_lt2 58 126 c30x9 (in_c 57 rfl) i30x3 rfl
            refine g_iconst 0 17 (gd rfl) rfl rfl ?_
            refine g_ireturn (gd rfl) rfl (nb01 (in_w 0 1 (in_c 0 rfl) rfl)) (hp30 _ _ ?_)
            show GG _ _ _ _ _ _ _ _ [.int (Int32.ofInt 0)] _ _ _
            refine g_if_eq 36 93 (gd rfl) rfl rfl (fun c33 => ?_) (fun c33 => ?_)
            · skip
              have hq93 : (u_109_27).toInt + 1 ≤ (w10_109_27).toInt := (by first | ((first | have a0 := oa5 h1 ro_109_29 i18a i18 j10_2 | ((first | have a0 := in_u h1 | (have a0 := h1; unfold In at a0)); (first | have a1 := in_u ro_109_29 | (have a1 := ro_109_29; unfold In at a1)); (first | have a2 := in_u i18a | (have a2 := i18a; unfold In at a2)); (first | have a3 := in_u i18 | (have a3 := i18; unfold In at a3)); (first | have a4 := in_u j10_2 | (have a4 := j10_2; unfold In at a4)))); have oc := oc_300_109; omega) | (have hi := i30x3; unfold In at hi; (first | have a0 := oa5 h1 ro_109_29 i18a i18 j10_2 | ((first | have a0 := in_u h1 | (have a0 := h1; unfold In at a0)); (first | have a1 := in_u ro_109_29 | (have a1 := ro_109_29; unfold In at a1)); (first | have a2 := in_u i18a | (have a2 := i18a; unfold In at a2)); (first | have a3 := in_u i18 | (have a3 := i18; unfold In at a3)); (first | have a4 := in_u j10_2 | (have a4 := j10_2; unfold In at a4)))); have oc := oc_300_109; omega) | (have hi := i30x9; unfold In at hi; (first | have a0 := oa5 h1 ro_109_29 i18a i18 j10_2 | ((first | have a0 := in_u h1 | (have a0 := h1; unfold In at a0)); (first | have a1 := in_u ro_109_29 | (have a1 := ro_109_29; unfold In at a1)); (first | have a2 := in_u i18a | (have a2 := i18a; unfold In at a2)); (first | have a3 := in_u i18 | (have a3 := i18; unfold In at a3)); (first | have a4 := in_u j10_2 | (have a4 := j10_2; unfold In at a4)))); have oc := oc_300_109; omega))
              refine g_aload_n 94 (gd rfl) rfl rfl ?_
              refine g_getI 97 (gd rfl) rfl rfl rfl (fun z94 e94 => ?_)
              have q94 : w10_109_27 = z94 := (v10_109_27).trans e94.symm
              subst q94
              refine g_iload_n 98 (gd rfl) rfl rfl ?_
              refine g_isub 99 (gd rfl) rfl (fun z98 e98 => ?_)
              have i98 := in_sub (-1000) 999 e98 i18 j10_2 rfl rfl
              refine g_iload_n 100 (gd rfl) rfl rfl ?_
              refine g_cmp_le 103 122 (gd rfl) rfl rfl (fun c100 => ?_) (fun c100 => ?_)
              · skip
                have i100 := r_le1 (-1000) 7 c100 i98 h1 rfl
                have n122 : tkG (s.1 125) (s.2.2.1 109 22).toInt.toNat (s.2.2.1 109 27).toInt.toNat (sc10.2.2.1 109 27).toInt.toNat ∧ (((sc10.2.2.1 109 27).toInt.toNat - (s.2.2.1 109 27).toInt.toNat ≤ 7 ∧ (sc10.2.2.2.1 109 31).toInt = tkN (s.1 125) (s.2.2.1 109 27).toInt.toNat ((sc10.2.2.1 109 27).toInt.toNat - (s.2.2.1 109 27).toInt.toNat) ∧ FSM s sc10) ∨ (7 < (sc10.2.2.1 109 27).toInt.toNat - (s.2.2.1 109 27).toInt.toNat ∧ FBL s sc10 3 (s.2.2.1 109 29).toInt)) := by have g9 := g10_0; rw [← e_109_27] at g9; have hw : w10_109_27.toNatClampNeg = w10_109_27.toInt.toNat := rfl; rw [← (show w10_109_27 = sc10.2.2.1 109 27 from v10_109_27), ← e_109_22, ← e_109_27]; refine ⟨⟨by (first | have a0 := oa6 h1 ro_109_29 i18a i18 j10_2 i100 | ((first | have a0 := in_u h1 | (have a0 := h1; unfold In at a0)); (first | have a1 := in_u ro_109_29 | (have a1 := ro_109_29; unfold In at a1)); (first | have a2 := in_u i18a | (have a2 := i18a; unfold In at a2)); (first | have a3 := in_u i18 | (have a3 := i18; unfold In at a3)); (first | have a4 := in_u j10_2 | (have a4 := j10_2; unfold In at a4)); (first | have a5 := in_u i100 | (have a5 := i100; unfold In at a5)))); have a6 := t_sub e98 i18 j10_2 rfl; have oc := oc_300_109; omega, by (first | have a0 := oa6 h1 ro_109_29 i18a i18 j10_2 i100 | ((first | have a0 := in_u h1 | (have a0 := h1; unfold In at a0)); (first | have a1 := in_u ro_109_29 | (have a1 := ro_109_29; unfold In at a1)); (first | have a2 := in_u i18a | (have a2 := i18a; unfold In at a2)); (first | have a3 := in_u i18 | (have a3 := i18; unfold In at a3)); (first | have a4 := in_u j10_2 | (have a4 := j10_2; unfold In at a4)); (first | have a5 := in_u i100 | (have a5 := i100; unfold In at a5)))); have a6 := t_sub e98 i18 j10_2 rfl; have oc := oc_300_109; omega, fun i a b => g9.1 i a (by (first | have a0 := oa6 h1 ro_109_29 i18a i18 j10_2 i100 | ((first | have a0 := in_u h1 | (have a0 := h1; unfold In at a0)); (first | have a1 := in_u ro_109_29 | (have a1 := ro_109_29; unfold In at a1)); (first | have a2 := in_u i18a | (have a2 := i18a; unfold In at a2)); (first | have a3 := in_u i18 | (have a3 := i18; unfold In at a3)); (first | have a4 := in_u j10_2 | (have a4 := j10_2; unfold In at a4)); (first | have a5 := in_u i100 | (have a5 := i100; unfold In at a5)))); have a6 := t_sub e98 i18 j10_2 rfl; have oc := oc_300_109; omega), (fun _ => by rw [show s.1 125 w10_109_27.toInt.toNat = z29 from (by rw [e29, hFc10.1 125 rfl]; rfl)]; unfold tkD; (first | have a0 := oa6 h1 ro_109_29 i18a i18 j10_2 i100 | ((first | have a0 := in_u h1 | (have a0 := h1; unfold In at a0)); (first | have a1 := in_u ro_109_29 | (have a1 := ro_109_29; unfold In at a1)); (first | have a2 := in_u i18a | (have a2 := i18a; unfold In at a2)); (first | have a3 := in_u i18 | (have a3 := i18; unfold In at a3)); (first | have a4 := in_u j10_2 | (have a4 := j10_2; unfold In at a4)); (first | have a5 := in_u i100 | (have a5 := i100; unfold In at a5)))); have a6 := t_sub e98 i18 j10_2 rfl; have oc := oc_300_109; omega)⟩, ?_⟩; exact Or.inl ⟨by (first | have a0 := oa6 h1 ro_109_29 i18a i18 j10_2 i100 | ((first | have a0 := in_u h1 | (have a0 := h1; unfold In at a0)); (first | have a1 := in_u ro_109_29 | (have a1 := ro_109_29; unfold In at a1)); (first | have a2 := in_u i18a | (have a2 := i18a; unfold In at a2)); (first | have a3 := in_u i18 | (have a3 := i18; unfold In at a3)); (first | have a4 := in_u j10_2 | (have a4 := j10_2; unfold In at a4)); (first | have a5 := in_u i100 | (have a5 := i100; unfold In at a5)))); have a6 := t_sub e98 i18 j10_2 rfl; have oc := oc_300_109; omega, g9.2 (by (first | have a0 := oa6 h1 ro_109_29 i18a i18 j10_2 i100 | ((first | have a0 := in_u h1 | (have a0 := h1; unfold In at a0)); (first | have a1 := in_u ro_109_29 | (have a1 := ro_109_29; unfold In at a1)); (first | have a2 := in_u i18a | (have a2 := i18a; unfold In at a2)); (first | have a3 := in_u i18 | (have a3 := i18; unfold In at a3)); (first | have a4 := in_u j10_2 | (have a4 := j10_2; unfold In at a4)); (first | have a5 := in_u i100 | (have a5 := i100; unfold In at a5)))); have a6 := t_sub e98 i18 j10_2 rfl; have oc := oc_300_109; omega), g10_1⟩
                have n122a : (w10_109_27).toInt ≤ (u_109_22).toInt := by first | exact n10_0 | ((first | have a0 := oa6 h1 ro_109_29 i18a i18 j10_2 i100 | ((first | have a0 := in_u h1 | (have a0 := h1; unfold In at a0)); (first | have a1 := in_u ro_109_29 | (have a1 := ro_109_29; unfold In at a1)); (first | have a2 := in_u i18a | (have a2 := i18a; unfold In at a2)); (first | have a3 := in_u i18 | (have a3 := i18; unfold In at a3)); (first | have a4 := in_u j10_2 | (have a4 := j10_2; unfold In at a4)); (first | have a5 := in_u i100 | (have a5 := i100; unfold In at a5)))); have a6 := t_sub e98 i18 j10_2 rfl; have oc := oc_300_109; omega)
                have n122b : (sc10.2.2.1 109 27).toInt ≤ (sc10.2.2.1 109 22).toInt := by have b0 : w10_109_27 = sc10.2.2.1 109 27 := v10_109_27; have b1 : u_109_22 = sc10.2.2.1 109 22 := fr_F e_109_22 hFc10 rfl; rw [← b0, ← b1]; exact n122a
                have n122c : (u_109_27).toInt + 1 ≤ (w10_109_27).toInt := by (first | have a0 := oa6 h1 ro_109_29 i18a i18 j10_2 i100 | ((first | have a0 := in_u h1 | (have a0 := h1; unfold In at a0)); (first | have a1 := in_u ro_109_29 | (have a1 := ro_109_29; unfold In at a1)); (first | have a2 := in_u i18a | (have a2 := i18a; unfold In at a2)); (first | have a3 := in_u i18 | (have a3 := i18; unfold In at a3)); (first | have a4 := in_u j10_2 | (have a4 := j10_2; unfold In at a4)); (first | have a5 := in_u i100 | (have a5 := i100; unfold In at a5)))); have a6 := t_sub e98 i18 j10_2 rfl; have oc := oc_300_109; omega
                have n122d : (s.2.2.1 109 27).toInt + 1 ≤ (sc10.2.2.1 109 27).toInt := by have b0 : w10_109_27 = sc10.2.2.1 109 27 := v10_109_27; first | (rw [← b0, ← e_109_27]; exact n122c) | (rw [← b0]; exact n122c)
                exact g_return (gd rfl) rfl (hP _ _ ⟨sc10, hIc10, hFc10, n122b, n122d, rfl, rfl, n122⟩)
              · skip
                have i100 := r_lt2 8 999 c100 h1 i98 rfl
                refine g_aload_n 104 (gd rfl) rfl rfl ?_
                refine g_iload_n 105 (gd rfl) rfl rfl ?_
                refine g_bipush 7 107 (gd rfl) rfl rfl ?_
                refine g_cmp_ne 110 114 (gd rfl) rfl rfl (fun c107 => ?_) (fun c107 => ?_)
                · skip
                  exact n_ne c107 h1 (in_c 7 rfl) rfl
                · skip
                  refine g_iconst 3 111 (gd rfl) rfl rfl ?_
                  refine g_goto 115 (gd rfl) rfl ?_
                  refine g_aload_n 116 (gd rfl) rfl rfl ?_
                  refine g_getI 119 (gd rfl) rfl rfl rfl (fun z116 e116 => ?_)
                  have q116 : u_109_29 = z116 := (fr_F e_109_29 hFc10 rfl).trans e116.symm
                  subst q116
                  refine g_callv (X := _) (As := [.int (Int32.ofInt 3), .int u_109_29]) (r := []) (b := A 109) (q := 109) 122 (gd rfl) rfl rfl rfl rfl rfl (ww_o rfl) (Nat.le_of_ble_eq_true rfl) (Nat.zero_le _) (Nat.zero_le _) (f_298 (by first | exact dq1 hd rfl | exact dq0 hd rfl | exact dq2 hd rfl | exact dq3 hd rfl | omega) hIc10 (in_w 1 5 (in_c 3 rfl) rfl) rfl) (fun e u h => h) (fun v u h => ?_)
                  obtain ⟨s119, hI119, hF119, n119, rfl, rfl, p119⟩ := h
                  obtain ⟨z119a, e119⟩ : ∃ w, w = s119.2.2.1 109 23 := ⟨_, rfl⟩
                  have i119a := inv_F hI119 0 9 rfl e119
                  rw [← (show z119a = s119.2.2.1 109 23 from e119)] at n119
                  show GG _ _ _ _ _ _ _ _ [] _ _ _
                  have n122 : tkG (s.1 125) (s.2.2.1 109 22).toInt.toNat (s.2.2.1 109 27).toInt.toNat (s119.2.2.1 109 27).toInt.toNat ∧ (((s119.2.2.1 109 27).toInt.toNat - (s.2.2.1 109 27).toInt.toNat ≤ 7 ∧ (s119.2.2.2.1 109 31).toInt = tkN (s.1 125) (s.2.2.1 109 27).toInt.toNat ((s119.2.2.1 109 27).toInt.toNat - (s.2.2.1 109 27).toInt.toNat) ∧ FSM s s119) ∨ (7 < (s119.2.2.1 109 27).toInt.toNat - (s.2.2.1 109 27).toInt.toNat ∧ FBL s s119 3 (s.2.2.1 109 29).toInt)) := by have g9 := g10_0; rw [← e_109_27] at g9; have hw : w10_109_27.toNatClampNeg = w10_109_27.toInt.toNat := rfl; rw [← (show w10_109_27 = s119.2.2.1 109 27 from fr_F (v10_109_27) hF119 rfl), ← e_109_22, ← e_109_27]; refine ⟨⟨by (first | have a0 := oa7 h1 ro_109_29 i18a i18 j10_2 i119a i100 | ((first | have a0 := in_u h1 | (have a0 := h1; unfold In at a0)); (first | have a1 := in_u ro_109_29 | (have a1 := ro_109_29; unfold In at a1)); (first | have a2 := in_u i18a | (have a2 := i18a; unfold In at a2)); (first | have a3 := in_u i18 | (have a3 := i18; unfold In at a3)); (first | have a4 := in_u j10_2 | (have a4 := j10_2; unfold In at a4)); (first | have a5 := in_u i119a | (have a5 := i119a; unfold In at a5)); (first | have a6 := in_u i100 | (have a6 := i100; unfold In at a6)))); have a7 := t_sub e98 i18 j10_2 rfl; have oc := oc_300_109; omega, by (first | have a0 := oa7 h1 ro_109_29 i18a i18 j10_2 i119a i100 | ((first | have a0 := in_u h1 | (have a0 := h1; unfold In at a0)); (first | have a1 := in_u ro_109_29 | (have a1 := ro_109_29; unfold In at a1)); (first | have a2 := in_u i18a | (have a2 := i18a; unfold In at a2)); (first | have a3 := in_u i18 | (have a3 := i18; unfold In at a3)); (first | have a4 := in_u j10_2 | (have a4 := j10_2; unfold In at a4)); (first | have a5 := in_u i119a | (have a5 := i119a; unfold In at a5)); (first | have a6 := in_u i100 | (have a6 := i100; unfold In at a6)))); have a7 := t_sub e98 i18 j10_2 rfl; have oc := oc_300_109; omega, fun i a b => g9.1 i a (by (first | have a0 := oa7 h1 ro_109_29 i18a i18 j10_2 i119a i100 | ((first | have a0 := in_u h1 | (have a0 := h1; unfold In at a0)); (first | have a1 := in_u ro_109_29 | (have a1 := ro_109_29; unfold In at a1)); (first | have a2 := in_u i18a | (have a2 := i18a; unfold In at a2)); (first | have a3 := in_u i18 | (have a3 := i18; unfold In at a3)); (first | have a4 := in_u j10_2 | (have a4 := j10_2; unfold In at a4)); (first | have a5 := in_u i119a | (have a5 := i119a; unfold In at a5)); (first | have a6 := in_u i100 | (have a6 := i100; unfold In at a6)))); have a7 := t_sub e98 i18 j10_2 rfl; have oc := oc_300_109; omega), (fun _ => by rw [show s.1 125 w10_109_27.toInt.toNat = z29 from (by rw [e29, hFc10.1 125 rfl]; rfl)]; unfold tkD; (first | have a0 := oa7 h1 ro_109_29 i18a i18 j10_2 i119a i100 | ((first | have a0 := in_u h1 | (have a0 := h1; unfold In at a0)); (first | have a1 := in_u ro_109_29 | (have a1 := ro_109_29; unfold In at a1)); (first | have a2 := in_u i18a | (have a2 := i18a; unfold In at a2)); (first | have a3 := in_u i18 | (have a3 := i18; unfold In at a3)); (first | have a4 := in_u j10_2 | (have a4 := j10_2; unfold In at a4)); (first | have a5 := in_u i119a | (have a5 := i119a; unfold In at a5)); (first | have a6 := in_u i100 | (have a6 := i100; unfold In at a6)))); have a7 := t_sub e98 i18 j10_2 rfl; have oc := oc_300_109; omega)⟩, ?_⟩; refine Or.inr ⟨by (first | have a0 := oa7 h1 ro_109_29 i18a i18 j10_2 i119a i100 | ((first | have a0 := in_u h1 | (have a0 := h1; unfold In at a0)); (first | have a1 := in_u ro_109_29 | (have a1 := ro_109_29; unfold In at a1)); (first | have a2 := in_u i18a | (have a2 := i18a; unfold In at a2)); (first | have a3 := in_u i18 | (have a3 := i18; unfold In at a3)); (first | have a4 := in_u j10_2 | (have a4 := j10_2; unfold In at a4)); (first | have a5 := in_u i119a | (have a5 := i119a; unfold In at a5)); (first | have a6 := in_u i100 | (have a6 := i100; unfold In at a6)))); have a7 := t_sub e98 i18 j10_2 rfl; have oc := oc_300_109; omega, ?_⟩; have hb := p119; unfold FBL FSM at hb ⊢; rw [g10_1.1, g10_1.2] at hb; rw [← e_109_29]; first | exact hb | (exfalso; (first | have a0 := oa7 h1 ro_109_29 i18a i18 j10_2 i119a i100 | ((first | have a0 := in_u h1 | (have a0 := h1; unfold In at a0)); (first | have a1 := in_u ro_109_29 | (have a1 := ro_109_29; unfold In at a1)); (first | have a2 := in_u i18a | (have a2 := i18a; unfold In at a2)); (first | have a3 := in_u i18 | (have a3 := i18; unfold In at a3)); (first | have a4 := in_u j10_2 | (have a4 := j10_2; unfold In at a4)); (first | have a5 := in_u i119a | (have a5 := i119a; unfold In at a5)); (first | have a6 := in_u i100 | (have a6 := i100; unfold In at a6)))); have a7 := t_sub e98 i18 j10_2 rfl; have oc := oc_300_109; omega)
                  have n122a : (w10_109_27).toInt ≤ (u_109_22).toInt := by first | exact n10_0 | ((first | have a0 := oa7 h1 ro_109_29 i18a i18 j10_2 i119a i100 | ((first | have a0 := in_u h1 | (have a0 := h1; unfold In at a0)); (first | have a1 := in_u ro_109_29 | (have a1 := ro_109_29; unfold In at a1)); (first | have a2 := in_u i18a | (have a2 := i18a; unfold In at a2)); (first | have a3 := in_u i18 | (have a3 := i18; unfold In at a3)); (first | have a4 := in_u j10_2 | (have a4 := j10_2; unfold In at a4)); (first | have a5 := in_u i119a | (have a5 := i119a; unfold In at a5)); (first | have a6 := in_u i100 | (have a6 := i100; unfold In at a6)))); have a7 := t_sub e98 i18 j10_2 rfl; have oc := oc_300_109; omega)
                  have n122b : (s119.2.2.1 109 27).toInt ≤ (s119.2.2.1 109 22).toInt := by have b0 : w10_109_27 = s119.2.2.1 109 27 := fr_F (v10_109_27) hF119 rfl; have b1 : u_109_22 = s119.2.2.1 109 22 := fr_F (fr_F e_109_22 hFc10 rfl) hF119 rfl; rw [← b0, ← b1]; exact n122a
                  have n122c : (u_109_27).toInt + 1 ≤ (w10_109_27).toInt := by (first | have a0 := oa7 h1 ro_109_29 i18a i18 j10_2 i119a i100 | ((first | have a0 := in_u h1 | (have a0 := h1; unfold In at a0)); (first | have a1 := in_u ro_109_29 | (have a1 := ro_109_29; unfold In at a1)); (first | have a2 := in_u i18a | (have a2 := i18a; unfold In at a2)); (first | have a3 := in_u i18 | (have a3 := i18; unfold In at a3)); (first | have a4 := in_u j10_2 | (have a4 := j10_2; unfold In at a4)); (first | have a5 := in_u i119a | (have a5 := i119a; unfold In at a5)); (first | have a6 := in_u i100 | (have a6 := i100; unfold In at a6)))); have a7 := t_sub e98 i18 j10_2 rfl; have oc := oc_300_109; omega
                  have n122d : (s.2.2.1 109 27).toInt + 1 ≤ (s119.2.2.1 109 27).toInt := by have b0 : w10_109_27 = s119.2.2.1 109 27 := fr_F (v10_109_27) hF119 rfl; first | (rw [← b0, ← e_109_27]; exact n122c) | (rw [← b0]; exact n122c)
                  exact g_return (gd rfl) rfl (hP _ _ ⟨s119, hI119, (fr_tr rfl hFc10 hF119), n122b, n122d, rfl, rfl, n122⟩)
            · skip
              exact zn_ne c33 (in_c 0 rfl) rfl
          · skip
            have i30x9 := r_le1 48 57 c30x9 i30x3 (in_c 57 rfl) rfl
            refine g_iconst 1 13 (gd rfl) rfl rfl ?_
            refine g_goto 17 (gd rfl) rfl ?_
            refine g_ireturn (gd rfl) rfl (nb01 (in_w 0 1 (in_c 1 rfl) rfl)) (hp30 _ _ ?_)
            show GG _ _ _ _ _ _ _ _ [.int (Int32.ofInt 1)] _ _ _
            refine g_if_eq 36 93 (gd rfl) rfl rfl (fun c33 => ?_) (fun c33 => ?_)
            · skip
              exact zn_eq c33 (in_c 1 rfl) rfl
            · skip
              refine g_aload_n 37 (gd rfl) rfl rfl ?_
              refine g_aload_n 38 (gd rfl) rfl rfl ?_
              refine g_getI 41 (gd rfl) rfl rfl rfl (fun z38 e38 => ?_)
              have q38 : w10_109_27 = z38 := (v10_109_27).trans e38.symm
              subst q38
              refine g_iload_n 42 (gd rfl) rfl rfl ?_
              refine g_isub 43 (gd rfl) rfl (fun z42 e42 => ?_)
              have i42 := in_sub (-1000) 999 e42 i18 j10_2 rfl rfl
              refine g_iload_n 44 (gd rfl) rfl rfl ?_
              refine g_cmp_ge 47 73 (gd rfl) rfl rfl (fun c44 => ?_) (fun c44 => ?_)
              · skip
                have i44 := r_le2 7 999 c44 h1 i42 rfl
                refine g_aload_n 74 (gd rfl) rfl rfl ?_
                refine g_getL 77 (gd rfl) rfl rfl rfl (fun z74 e74 => ?_)
                refine g_putL 80 (gd rfl) rfl rfl rfl rfl ?_
                have hI77 := inv_sG (q := 109) (j := 31) (x := z74) hIc10 rfl (l_rng z74)
                refine g_aload_n 81 (gd rfl) rfl rfl ?_
                refine g_dup 82 (gd rfl) rfl rfl ?_
                refine g_getI 85 (gd rfl) rfl rfl rfl (fun z82 e82 => ?_)
                have q82 : w10_109_27 = z82 := (sG_F (v10_109_27)).trans e82.symm
                subst q82
                refine g_iconst 1 86 (gd rfl) rfl rfl ?_
                refine g_iadd 87 (gd rfl) rfl (fun z86 e86 => ?_)
                have i86 := in_add 1 1000 e86 i18 (in_c 1 rfl) rfl rfl
                refine g_putI 90 (gd rfl) rfl rfl rfl rfl ?_
                have hI87 := inv_sF (q := 109) (j := 27) hI77 rfl (in_w 0 1000 i86 rfl)
                refine g_goto 10 (gd rfl) rfl ?_
                have v10 : z86 = (sF (sG sc10 109 31 z74) 109 27 z86).2.2.1 109 27 := sF_get
                have n10 : (z86).toInt ≤ (u_109_22).toInt := by (first | have a0 := oa6 h1 ro_109_29 i18a i18 j10_2 i86 | ((first | have a0 := in_u h1 | (have a0 := h1; unfold In at a0)); (first | have a1 := in_u ro_109_29 | (have a1 := ro_109_29; unfold In at a1)); (first | have a2 := in_u i18a | (have a2 := i18a; unfold In at a2)); (first | have a3 := in_u i18 | (have a3 := i18; unfold In at a3)); (first | have a4 := in_u j10_2 | (have a4 := j10_2; unfold In at a4)); (first | have a5 := in_u i86 | (have a5 := i86; unfold In at a5)))); have a6 := t_add e86 i18 (in_c 1 rfl) rfl; (first | have a7 := oa2 ((in_c 1 rfl)) i44 | ((first | have a7 := in_u ((in_c 1 rfl)) | (have a7 := (in_c 1 rfl); unfold In at a7)); (first | have a8 := in_u i44 | (have a8 := i44; unfold In at a8)))); have a9 := t_sub e42 i18 j10_2 rfl; have oc := oc_300_109; omega
                have n10a : (u_109_27).toInt ≤ (z86).toInt := by (first | have a0 := oa6 h1 ro_109_29 i18a i18 j10_2 i86 | ((first | have a0 := in_u h1 | (have a0 := h1; unfold In at a0)); (first | have a1 := in_u ro_109_29 | (have a1 := ro_109_29; unfold In at a1)); (first | have a2 := in_u i18a | (have a2 := i18a; unfold In at a2)); (first | have a3 := in_u i18 | (have a3 := i18; unfold In at a3)); (first | have a4 := in_u j10_2 | (have a4 := j10_2; unfold In at a4)); (first | have a5 := in_u i86 | (have a5 := i86; unfold In at a5)))); have a6 := t_add e86 i18 (in_c 1 rfl) rfl; (first | have a7 := oa2 ((in_c 1 rfl)) i44 | ((first | have a7 := in_u ((in_c 1 rfl)) | (have a7 := (in_c 1 rfl); unfold In at a7)); (first | have a8 := in_u i44 | (have a8 := i44; unfold In at a8)))); have a9 := t_sub e42 i18 j10_2 rfl; have oc := oc_300_109; omega
                have n10b : (y10_2).toInt = (u_109_27).toInt := by first | exact n10_2 | ((first | have a0 := oa6 h1 ro_109_29 i18a i18 j10_2 i86 | ((first | have a0 := in_u h1 | (have a0 := h1; unfold In at a0)); (first | have a1 := in_u ro_109_29 | (have a1 := ro_109_29; unfold In at a1)); (first | have a2 := in_u i18a | (have a2 := i18a; unfold In at a2)); (first | have a3 := in_u i18 | (have a3 := i18; unfold In at a3)); (first | have a4 := in_u j10_2 | (have a4 := j10_2; unfold In at a4)); (first | have a5 := in_u i86 | (have a5 := i86; unfold In at a5)))); have a6 := t_add e86 i18 (in_c 1 rfl) rfl; (first | have a7 := oa2 ((in_c 1 rfl)) i44 | ((first | have a7 := in_u ((in_c 1 rfl)) | (have a7 := (in_c 1 rfl); unfold In at a7)); (first | have a8 := in_u i44 | (have a8 := i44; unfold In at a8)))); have a9 := t_sub e42 i18 j10_2 rfl; have oc := oc_300_109; omega)
                have n10c : (∀ i : Nat, (s.2.2.1 109 27).toInt.toNat ≤ i → (i : Int) < (z86).toInt → tkD (s.1 125 i)) ∧ ((z86).toInt.toNat - (s.2.2.1 109 27).toInt.toNat ≤ 7 → ((sF (sG sc10 109 31 z74) 109 27 z86).2.2.2.1 109 31).toInt = tkN (s.1 125) (s.2.2.1 109 27).toInt.toNat ((z86).toInt.toNat - (s.2.2.1 109 27).toInt.toNat)) := by have ht : z29 = s.1 125 w10_109_27.toNatClampNeg := (by rw [e29, hFc10.1 125 rfl]); have hw : w10_109_27.toNatClampNeg = w10_109_27.toInt.toNat := rfl; exact ⟨(fun i h1 h2 => by by_cases hc : (i : Int) < w10_109_27.toInt; (exact g10_0.1 i h1 hc); (rw [show i = w10_109_27.toNatClampNeg from (by have a0 := h1; unfold In at a0; (first | have a1 := oa5 ro_109_29 i18a i18 j10_2 i86 | ((first | have a1 := in_u ro_109_29 | (have a1 := ro_109_29; unfold In at a1)); (first | have a2 := in_u i18a | (have a2 := i18a; unfold In at a2)); (first | have a3 := in_u i18 | (have a3 := i18; unfold In at a3)); (first | have a4 := in_u j10_2 | (have a4 := j10_2; unfold In at a4)); (first | have a5 := in_u i86 | (have a5 := i86; unfold In at a5)))); have a6 := t_add e86 i18 (in_c 1 rfl) rfl; (first | have a7 := oa2 ((in_c 1 rfl)) i44 | ((first | have a7 := in_u ((in_c 1 rfl)) | (have a7 := (in_c 1 rfl); unfold In at a7)); (first | have a8 := in_u i44 | (have a8 := i44; unfold In at a8)))); have a9 := t_sub e42 i18 j10_2 rfl; have oc := oc_300_109; omega), ← ht]; exact ⟨by have a0 := h1; unfold In at a0; (first | have a1 := oa5 ro_109_29 i18a i18 j10_2 i86 | ((first | have a1 := in_u ro_109_29 | (have a1 := ro_109_29; unfold In at a1)); (first | have a2 := in_u i18a | (have a2 := i18a; unfold In at a2)); (first | have a3 := in_u i18 | (have a3 := i18; unfold In at a3)); (first | have a4 := in_u j10_2 | (have a4 := j10_2; unfold In at a4)); (first | have a5 := in_u i86 | (have a5 := i86; unfold In at a5)))); have a6 := t_add e86 i18 (in_c 1 rfl) rfl; (first | have a7 := oa2 ((in_c 1 rfl)) i44 | ((first | have a7 := in_u ((in_c 1 rfl)) | (have a7 := (in_c 1 rfl); unfold In at a7)); (first | have a8 := in_u i44 | (have a8 := i44; unfold In at a8)))); have a9 := t_sub e42 i18 j10_2 rfl; have oc := oc_300_109; omega, by have a0 := h1; unfold In at a0; (first | have a1 := oa5 ro_109_29 i18a i18 j10_2 i86 | ((first | have a1 := in_u ro_109_29 | (have a1 := ro_109_29; unfold In at a1)); (first | have a2 := in_u i18a | (have a2 := i18a; unfold In at a2)); (first | have a3 := in_u i18 | (have a3 := i18; unfold In at a3)); (first | have a4 := in_u j10_2 | (have a4 := j10_2; unfold In at a4)); (first | have a5 := in_u i86 | (have a5 := i86; unfold In at a5)))); have a6 := t_add e86 i18 (in_c 1 rfl) rfl; (first | have a7 := oa2 ((in_c 1 rfl)) i44 | ((first | have a7 := in_u ((in_c 1 rfl)) | (have a7 := (in_c 1 rfl); unfold In at a7)); (first | have a8 := in_u i44 | (have a8 := i44; unfold In at a8)))); have a9 := t_sub e42 i18 j10_2 rfl; have oc := oc_300_109; omega⟩)), fun h => by exfalso; rw [← e_109_27] at h; have a0 := h1; unfold In at a0; (first | have a1 := oa5 ro_109_29 i18a i18 j10_2 i86 | ((first | have a1 := in_u ro_109_29 | (have a1 := ro_109_29; unfold In at a1)); (first | have a2 := in_u i18a | (have a2 := i18a; unfold In at a2)); (first | have a3 := in_u i18 | (have a3 := i18; unfold In at a3)); (first | have a4 := in_u j10_2 | (have a4 := j10_2; unfold In at a4)); (first | have a5 := in_u i86 | (have a5 := i86; unfold In at a5)))); have a6 := t_add e86 i18 (in_c 1 rfl) rfl; (first | have a7 := oa2 ((in_c 1 rfl)) i44 | ((first | have a7 := in_u ((in_c 1 rfl)) | (have a7 := (in_c 1 rfl); unfold In at a7)); (first | have a8 := in_u i44 | (have a8 := i44; unfold In at a8)))); have a9 := t_sub e42 i18 j10_2 rfl; have oc := oc_300_109; omega⟩
                have n10d : FSM s (sF (sG sc10 109 31 z74) 109 27 z86) := by exact g10_1
                have m10 : (u_109_22).toInt - (z86).toInt < ((k10 : Nat) : Int) := by (first | have a0 := oa6 h1 ro_109_29 i18a i18 j10_2 i86 | ((first | have a0 := in_u h1 | (have a0 := h1; unfold In at a0)); (first | have a1 := in_u ro_109_29 | (have a1 := ro_109_29; unfold In at a1)); (first | have a2 := in_u i18a | (have a2 := i18a; unfold In at a2)); (first | have a3 := in_u i18 | (have a3 := i18; unfold In at a3)); (first | have a4 := in_u j10_2 | (have a4 := j10_2; unfold In at a4)); (first | have a5 := in_u i86 | (have a5 := i86; unfold In at a5)))); have a6 := t_add e86 i18 (in_c 1 rfl) rfl; (first | have a7 := oa2 ((in_c 1 rfl)) i44 | ((first | have a7 := in_u ((in_c 1 rfl)) | (have a7 := (in_c 1 rfl); unfold In at a7)); (first | have a8 := in_u i44 | (have a8 := i44; unfold In at a8)))); have a9 := t_sub e42 i18 j10_2 rfl; have oc := oc_300_109; omega
                exact gg_w (by first | exact Nat.le_add_right _ _ | exact gw2 | exact gw3 | exact gwe rfl | exact gwf rfl | exact gwg rfl | exact gwh rfl | omega) (gg_f (gf_cons rfl (gf_cons rfl (gf_cons rfl gf_nil))) (ih10  (sF (sG sc10 109 31 z74) 109 27 z86) y10_2 z86 hI87 (fr_sF rfl (fr_sG rfl hFc10)) (in_w 0 1000 j10_2 rfl) v10 n10 n10a n10b n10c n10d m10))
              · skip
                have i44 := r_lt1 (-1000) 6 c44 i42 h1 rfl
                refine g_ldc2_w 10 50 (gd rfl) rfl rfl ?_
                refine g_aload_n 51 (gd rfl) rfl rfl ?_
                refine g_getL 54 (gd rfl) rfl rfl rfl (fun z51 e51 => ?_)
                refine g_lmul 55 (gd rfl) rfl (fun z54 e54 => ?_)
                refine g_aload_n 56 (gd rfl) rfl rfl ?_
                refine g_getA (q2 := 125) 59 (gd rfl) rfl rfl rfl rfl ?_
                refine g_aload_n 60 (gd rfl) rfl rfl ?_
                refine g_getI 63 (gd rfl) rfl rfl rfl (fun z60 e60 => ?_)
                have q60 : w10_109_27 = z60 := (v10_109_27).trans e60.symm
                subst q60
                refine g_iaload 64 (gd rfl) rfl (n := 1000) rfl (in_ix i18 rfl) (fun z63 e63 => ?_)
                have q63 : z29 = z63 := (e29).trans e63.symm
                subst q63
                refine g_i2l 65 (gd rfl) rfl (fun z64 e64 => ?_)
                have i64 := l_i e64 i30x9
                refine g_ladd 66 (gd rfl) rfl (fun z65 e65 => ?_)
                refine g_ldc2_w 48 69 (gd rfl) rfl rfl ?_
                refine g_lsub 70 (gd rfl) rfl (fun z69 e69 => ?_)
                refine g_goto 77 (gd rfl) rfl ?_
                refine g_putL 80 (gd rfl) rfl rfl rfl rfl ?_
                have hI77 := inv_sG (q := 109) (j := 31) (x := z69) hIc10 rfl (l_rng z69)
                refine g_aload_n 81 (gd rfl) rfl rfl ?_
                refine g_dup 82 (gd rfl) rfl rfl ?_
                refine g_getI 85 (gd rfl) rfl rfl rfl (fun z82 e82 => ?_)
                have q82 : w10_109_27 = z82 := (sG_F (v10_109_27)).trans e82.symm
                subst q82
                refine g_iconst 1 86 (gd rfl) rfl rfl ?_
                refine g_iadd 87 (gd rfl) rfl (fun z86 e86 => ?_)
                have i86 := in_add 1 1000 e86 i18 (in_c 1 rfl) rfl rfl
                refine g_putI 90 (gd rfl) rfl rfl rfl rfl ?_
                have hI87 := inv_sF (q := 109) (j := 27) hI77 rfl (in_w 0 1000 i86 rfl)
                refine g_goto 10 (gd rfl) rfl ?_
                have v10 : z86 = (sF (sG sc10 109 31 z69) 109 27 z86).2.2.1 109 27 := sF_get
                have n10 : (z86).toInt ≤ (u_109_22).toInt := by (first | have a0 := oa6 h1 ro_109_29 i18a i18 j10_2 i86 | ((first | have a0 := in_u h1 | (have a0 := h1; unfold In at a0)); (first | have a1 := in_u ro_109_29 | (have a1 := ro_109_29; unfold In at a1)); (first | have a2 := in_u i18a | (have a2 := i18a; unfold In at a2)); (first | have a3 := in_u i18 | (have a3 := i18; unfold In at a3)); (first | have a4 := in_u j10_2 | (have a4 := j10_2; unfold In at a4)); (first | have a5 := in_u i86 | (have a5 := i86; unfold In at a5)))); have a6 := t_add e86 i18 (in_c 1 rfl) rfl; (first | have a7 := in_u ((in_c 1 rfl)) | (have a7 := (in_c 1 rfl); unfold In at a7)); have a8 := tx_i2l e64; (first | have a9 := oa2 i30x9 i44 | ((first | have a9 := in_u i30x9 | (have a9 := i30x9; unfold In at a9)); (first | have a10 := in_u i44 | (have a10 := i44; unfold In at a10)))); have a11 := t_sub e42 i18 j10_2 rfl; have oc := oc_300_109; omega
                have n10a : (u_109_27).toInt ≤ (z86).toInt := by (first | have a0 := oa6 h1 ro_109_29 i18a i18 j10_2 i86 | ((first | have a0 := in_u h1 | (have a0 := h1; unfold In at a0)); (first | have a1 := in_u ro_109_29 | (have a1 := ro_109_29; unfold In at a1)); (first | have a2 := in_u i18a | (have a2 := i18a; unfold In at a2)); (first | have a3 := in_u i18 | (have a3 := i18; unfold In at a3)); (first | have a4 := in_u j10_2 | (have a4 := j10_2; unfold In at a4)); (first | have a5 := in_u i86 | (have a5 := i86; unfold In at a5)))); have a6 := t_add e86 i18 (in_c 1 rfl) rfl; (first | have a7 := in_u ((in_c 1 rfl)) | (have a7 := (in_c 1 rfl); unfold In at a7)); have a8 := tx_i2l e64; (first | have a9 := oa2 i30x9 i44 | ((first | have a9 := in_u i30x9 | (have a9 := i30x9; unfold In at a9)); (first | have a10 := in_u i44 | (have a10 := i44; unfold In at a10)))); have a11 := t_sub e42 i18 j10_2 rfl; have oc := oc_300_109; omega
                have n10b : (y10_2).toInt = (u_109_27).toInt := by first | exact n10_2 | ((first | have a0 := oa6 h1 ro_109_29 i18a i18 j10_2 i86 | ((first | have a0 := in_u h1 | (have a0 := h1; unfold In at a0)); (first | have a1 := in_u ro_109_29 | (have a1 := ro_109_29; unfold In at a1)); (first | have a2 := in_u i18a | (have a2 := i18a; unfold In at a2)); (first | have a3 := in_u i18 | (have a3 := i18; unfold In at a3)); (first | have a4 := in_u j10_2 | (have a4 := j10_2; unfold In at a4)); (first | have a5 := in_u i86 | (have a5 := i86; unfold In at a5)))); have a6 := t_add e86 i18 (in_c 1 rfl) rfl; (first | have a7 := in_u ((in_c 1 rfl)) | (have a7 := (in_c 1 rfl); unfold In at a7)); have a8 := tx_i2l e64; (first | have a9 := oa2 i30x9 i44 | ((first | have a9 := in_u i30x9 | (have a9 := i30x9; unfold In at a9)); (first | have a10 := in_u i44 | (have a10 := i44; unfold In at a10)))); have a11 := t_sub e42 i18 j10_2 rfl; have oc := oc_300_109; omega)
                have n10c : (∀ i : Nat, (s.2.2.1 109 27).toInt.toNat ≤ i → (i : Int) < (z86).toInt → tkD (s.1 125 i)) ∧ ((z86).toInt.toNat - (s.2.2.1 109 27).toInt.toNat ≤ 7 → ((sF (sG sc10 109 31 z69) 109 27 z86).2.2.2.1 109 31).toInt = tkN (s.1 125) (s.2.2.1 109 27).toInt.toNat ((z86).toInt.toNat - (s.2.2.1 109 27).toInt.toNat)) := by have ht : z29 = s.1 125 w10_109_27.toNatClampNeg := (by rw [e29, hFc10.1 125 rfl]); have hw : w10_109_27.toNatClampNeg = w10_109_27.toInt.toNat := rfl; have htn : z51.toInt = tkN (s.1 125) (s.2.2.1 109 27).toInt.toNat (w10_109_27.toInt.toNat - (s.2.2.1 109 27).toInt.toNat) := (by rw [e51]; exact g10_0.2 (by rw [← e_109_27]; have a0 := h1; unfold In at a0; (first | have a1 := oa5 ro_109_29 i18a i18 j10_2 i86 | ((first | have a1 := in_u ro_109_29 | (have a1 := ro_109_29; unfold In at a1)); (first | have a2 := in_u i18a | (have a2 := i18a; unfold In at a2)); (first | have a3 := in_u i18 | (have a3 := i18; unfold In at a3)); (first | have a4 := in_u j10_2 | (have a4 := j10_2; unfold In at a4)); (first | have a5 := in_u i86 | (have a5 := i86; unfold In at a5)))); have a6 := t_add e86 i18 (in_c 1 rfl) rfl; (first | have a7 := in_u ((in_c 1 rfl)) | (have a7 := (in_c 1 rfl); unfold In at a7)); have a8 := tx_i2l e64; (first | have a9 := oa2 i30x9 i44 | ((first | have a9 := in_u i30x9 | (have a9 := i30x9; unfold In at a9)); (first | have a10 := in_u i44 | (have a10 := i44; unfold In at a10)))); have a11 := t_sub e42 i18 j10_2 rfl; have oc := oc_300_109; omega)); exact ⟨(fun i h1 h2 => by by_cases hc : (i : Int) < w10_109_27.toInt; (exact g10_0.1 i h1 hc); (rw [show i = w10_109_27.toNatClampNeg from (by have a0 := h1; unfold In at a0; (first | have a1 := oa5 ro_109_29 i18a i18 j10_2 i86 | ((first | have a1 := in_u ro_109_29 | (have a1 := ro_109_29; unfold In at a1)); (first | have a2 := in_u i18a | (have a2 := i18a; unfold In at a2)); (first | have a3 := in_u i18 | (have a3 := i18; unfold In at a3)); (first | have a4 := in_u j10_2 | (have a4 := j10_2; unfold In at a4)); (first | have a5 := in_u i86 | (have a5 := i86; unfold In at a5)))); have a6 := t_add e86 i18 (in_c 1 rfl) rfl; (first | have a7 := in_u ((in_c 1 rfl)) | (have a7 := (in_c 1 rfl); unfold In at a7)); have a8 := tx_i2l e64; (first | have a9 := oa2 i30x9 i44 | ((first | have a9 := in_u i30x9 | (have a9 := i30x9; unfold In at a9)); (first | have a10 := in_u i44 | (have a10 := i44; unfold In at a10)))); have a11 := t_sub e42 i18 j10_2 rfl; have oc := oc_300_109; omega), ← ht]; exact ⟨by have a0 := h1; unfold In at a0; (first | have a1 := oa5 ro_109_29 i18a i18 j10_2 i86 | ((first | have a1 := in_u ro_109_29 | (have a1 := ro_109_29; unfold In at a1)); (first | have a2 := in_u i18a | (have a2 := i18a; unfold In at a2)); (first | have a3 := in_u i18 | (have a3 := i18; unfold In at a3)); (first | have a4 := in_u j10_2 | (have a4 := j10_2; unfold In at a4)); (first | have a5 := in_u i86 | (have a5 := i86; unfold In at a5)))); have a6 := t_add e86 i18 (in_c 1 rfl) rfl; (first | have a7 := in_u ((in_c 1 rfl)) | (have a7 := (in_c 1 rfl); unfold In at a7)); have a8 := tx_i2l e64; (first | have a9 := oa2 i30x9 i44 | ((first | have a9 := in_u i30x9 | (have a9 := i30x9; unfold In at a9)); (first | have a10 := in_u i44 | (have a10 := i44; unfold In at a10)))); have a11 := t_sub e42 i18 j10_2 rfl; have oc := oc_300_109; omega, by have a0 := h1; unfold In at a0; (first | have a1 := oa5 ro_109_29 i18a i18 j10_2 i86 | ((first | have a1 := in_u ro_109_29 | (have a1 := ro_109_29; unfold In at a1)); (first | have a2 := in_u i18a | (have a2 := i18a; unfold In at a2)); (first | have a3 := in_u i18 | (have a3 := i18; unfold In at a3)); (first | have a4 := in_u j10_2 | (have a4 := j10_2; unfold In at a4)); (first | have a5 := in_u i86 | (have a5 := i86; unfold In at a5)))); have a6 := t_add e86 i18 (in_c 1 rfl) rfl; (first | have a7 := in_u ((in_c 1 rfl)) | (have a7 := (in_c 1 rfl); unfold In at a7)); have a8 := tx_i2l e64; (first | have a9 := oa2 i30x9 i44 | ((first | have a9 := in_u i30x9 | (have a9 := i30x9; unfold In at a9)); (first | have a10 := in_u i44 | (have a10 := i44; unfold In at a10)))); have a11 := t_sub e42 i18 j10_2 rfl; have oc := oc_300_109; omega⟩)), fun h => by show (z69).toInt = _; rw [lx_st e54 e64 e65 e69 (by rw [htn]; exact (tkN_7 (by rw [← e_109_27]; have a0 := h1; unfold In at a0; (first | have a1 := oa5 ro_109_29 i18a i18 j10_2 i86 | ((first | have a1 := in_u ro_109_29 | (have a1 := ro_109_29; unfold In at a1)); (first | have a2 := in_u i18a | (have a2 := i18a; unfold In at a2)); (first | have a3 := in_u i18 | (have a3 := i18; unfold In at a3)); (first | have a4 := in_u j10_2 | (have a4 := j10_2; unfold In at a4)); (first | have a5 := in_u i86 | (have a5 := i86; unfold In at a5)))); have a6 := t_add e86 i18 (in_c 1 rfl) rfl; (first | have a7 := in_u ((in_c 1 rfl)) | (have a7 := (in_c 1 rfl); unfold In at a7)); have a8 := tx_i2l e64; (first | have a9 := oa2 i30x9 i44 | ((first | have a9 := in_u i30x9 | (have a9 := i30x9; unfold In at a9)); (first | have a10 := in_u i44 | (have a10 := i44; unfold In at a10)))); have a11 := t_sub e42 i18 j10_2 rfl; have oc := oc_300_109; omega) (fun i a b => g10_0.1 i a (by rw [← e_109_27] at b; have a0 := h1; unfold In at a0; (first | have a1 := oa5 ro_109_29 i18a i18 j10_2 i86 | ((first | have a1 := in_u ro_109_29 | (have a1 := ro_109_29; unfold In at a1)); (first | have a2 := in_u i18a | (have a2 := i18a; unfold In at a2)); (first | have a3 := in_u i18 | (have a3 := i18; unfold In at a3)); (first | have a4 := in_u j10_2 | (have a4 := j10_2; unfold In at a4)); (first | have a5 := in_u i86 | (have a5 := i86; unfold In at a5)))); have a6 := t_add e86 i18 (in_c 1 rfl) rfl; (first | have a7 := in_u ((in_c 1 rfl)) | (have a7 := (in_c 1 rfl); unfold In at a7)); have a8 := tx_i2l e64; (first | have a9 := oa2 i30x9 i44 | ((first | have a9 := in_u i30x9 | (have a9 := i30x9; unfold In at a9)); (first | have a10 := in_u i44 | (have a10 := i44; unfold In at a10)))); have a11 := t_sub e42 i18 j10_2 rfl; have oc := oc_300_109; omega)))) ⟨by have a0 := h1; unfold In at a0; (first | have a1 := oa5 ro_109_29 i18a i18 j10_2 i86 | ((first | have a1 := in_u ro_109_29 | (have a1 := ro_109_29; unfold In at a1)); (first | have a2 := in_u i18a | (have a2 := i18a; unfold In at a2)); (first | have a3 := in_u i18 | (have a3 := i18; unfold In at a3)); (first | have a4 := in_u j10_2 | (have a4 := j10_2; unfold In at a4)); (first | have a5 := in_u i86 | (have a5 := i86; unfold In at a5)))); have a6 := t_add e86 i18 (in_c 1 rfl) rfl; (first | have a7 := in_u ((in_c 1 rfl)) | (have a7 := (in_c 1 rfl); unfold In at a7)); have a8 := tx_i2l e64; (first | have a9 := oa2 i30x9 i44 | ((first | have a9 := in_u i30x9 | (have a9 := i30x9; unfold In at a9)); (first | have a10 := in_u i44 | (have a10 := i44; unfold In at a10)))); have a11 := t_sub e42 i18 j10_2 rfl; have oc := oc_300_109; omega, by have a0 := h1; unfold In at a0; (first | have a1 := oa5 ro_109_29 i18a i18 j10_2 i86 | ((first | have a1 := in_u ro_109_29 | (have a1 := ro_109_29; unfold In at a1)); (first | have a2 := in_u i18a | (have a2 := i18a; unfold In at a2)); (first | have a3 := in_u i18 | (have a3 := i18; unfold In at a3)); (first | have a4 := in_u j10_2 | (have a4 := j10_2; unfold In at a4)); (first | have a5 := in_u i86 | (have a5 := i86; unfold In at a5)))); have a6 := t_add e86 i18 (in_c 1 rfl) rfl; (first | have a7 := in_u ((in_c 1 rfl)) | (have a7 := (in_c 1 rfl); unfold In at a7)); have a8 := tx_i2l e64; (first | have a9 := oa2 i30x9 i44 | ((first | have a9 := in_u i30x9 | (have a9 := i30x9; unfold In at a9)); (first | have a10 := in_u i44 | (have a10 := i44; unfold In at a10)))); have a11 := t_sub e42 i18 j10_2 rfl; have oc := oc_300_109; omega⟩, htn, show (z86).toInt.toNat - (s.2.2.1 109 27).toInt.toNat = (w10_109_27.toInt.toNat - (s.2.2.1 109 27).toInt.toNat) + 1 from (by rw [← e_109_27]; have a0 := h1; unfold In at a0; (first | have a1 := oa5 ro_109_29 i18a i18 j10_2 i86 | ((first | have a1 := in_u ro_109_29 | (have a1 := ro_109_29; unfold In at a1)); (first | have a2 := in_u i18a | (have a2 := i18a; unfold In at a2)); (first | have a3 := in_u i18 | (have a3 := i18; unfold In at a3)); (first | have a4 := in_u j10_2 | (have a4 := j10_2; unfold In at a4)); (first | have a5 := in_u i86 | (have a5 := i86; unfold In at a5)))); have a6 := t_add e86 i18 (in_c 1 rfl) rfl; (first | have a7 := in_u ((in_c 1 rfl)) | (have a7 := (in_c 1 rfl); unfold In at a7)); have a8 := tx_i2l e64; (first | have a9 := oa2 i30x9 i44 | ((first | have a9 := in_u i30x9 | (have a9 := i30x9; unfold In at a9)); (first | have a10 := in_u i44 | (have a10 := i44; unfold In at a10)))); have a11 := t_sub e42 i18 j10_2 rfl; have oc := oc_300_109; omega)]; show _ = 10 * tkN (s.1 125) (s.2.2.1 109 27).toInt.toNat _ + ((s.1 125 ((s.2.2.1 109 27).toInt.toNat + (w10_109_27.toInt.toNat - (s.2.2.1 109 27).toInt.toNat))).toInt - 48); rw [show (s.2.2.1 109 27).toInt.toNat + (w10_109_27.toInt.toNat - (s.2.2.1 109 27).toInt.toNat) = w10_109_27.toNatClampNeg from (by rw [← e_109_27]; have a0 := h1; unfold In at a0; (first | have a1 := oa5 ro_109_29 i18a i18 j10_2 i86 | ((first | have a1 := in_u ro_109_29 | (have a1 := ro_109_29; unfold In at a1)); (first | have a2 := in_u i18a | (have a2 := i18a; unfold In at a2)); (first | have a3 := in_u i18 | (have a3 := i18; unfold In at a3)); (first | have a4 := in_u j10_2 | (have a4 := j10_2; unfold In at a4)); (first | have a5 := in_u i86 | (have a5 := i86; unfold In at a5)))); have a6 := t_add e86 i18 (in_c 1 rfl) rfl; (first | have a7 := in_u ((in_c 1 rfl)) | (have a7 := (in_c 1 rfl); unfold In at a7)); have a8 := tx_i2l e64; (first | have a9 := oa2 i30x9 i44 | ((first | have a9 := in_u i30x9 | (have a9 := i30x9; unfold In at a9)); (first | have a10 := in_u i44 | (have a10 := i44; unfold In at a10)))); have a11 := t_sub e42 i18 j10_2 rfl; have oc := oc_300_109; omega), ← ht]⟩
                have n10d : FSM s (sF (sG sc10 109 31 z69) 109 27 z86) := by exact g10_1
                have m10 : (u_109_22).toInt - (z86).toInt < ((k10 : Nat) : Int) := by (first | have a0 := oa6 h1 ro_109_29 i18a i18 j10_2 i86 | ((first | have a0 := in_u h1 | (have a0 := h1; unfold In at a0)); (first | have a1 := in_u ro_109_29 | (have a1 := ro_109_29; unfold In at a1)); (first | have a2 := in_u i18a | (have a2 := i18a; unfold In at a2)); (first | have a3 := in_u i18 | (have a3 := i18; unfold In at a3)); (first | have a4 := in_u j10_2 | (have a4 := j10_2; unfold In at a4)); (first | have a5 := in_u i86 | (have a5 := i86; unfold In at a5)))); have a6 := t_add e86 i18 (in_c 1 rfl) rfl; (first | have a7 := in_u ((in_c 1 rfl)) | (have a7 := (in_c 1 rfl); unfold In at a7)); have a8 := tx_i2l e64; (first | have a9 := oa2 i30x9 i44 | ((first | have a9 := in_u i30x9 | (have a9 := i30x9; unfold In at a9)); (first | have a10 := in_u i44 | (have a10 := i44; unfold In at a10)))); have a11 := t_sub e42 i18 j10_2 rfl; have oc := oc_300_109; omega
                exact gg_w (by first | exact Nat.le_add_right _ _ | exact gw2 | exact gw3 | exact gwe rfl | exact gwf rfl | exact gwg rfl | exact gwh rfl | omega) (gg_f (gf_cons rfl (gf_cons rfl (gf_cons rfl gf_nil))) (ih10  (sF (sG sc10 109 31 z69) 109 27 z86) y10_2 z86 hI87 (fr_sF rfl (fr_sG rfl hFc10)) (in_w 0 1000 j10_2 rfl) v10 n10 n10a n10b n10c n10d m10))
  refine g_enter2 (k := 300) (N := 901801) (by first | exact dq1 hd rfl | exact dq0 hd rfl | exact dq2 hd rfl | exact dq3 hd rfl | omega) rfl (Nat.le_of_ble_eq_true rfl) ?_
  refine g_aload_n 1 (gd rfl) rfl rfl ?_
  refine g_getI 4 (gd rfl) rfl rfl rfl (fun z1 e1 => ?_)
  have q1 : u_109_27 = z1 := (e_109_27).trans e1.symm
  subst q1
  refine g_istore_n 5 (gd rfl) rfl (Nat.le_of_ble_eq_true rfl) ?_
  refine g_aload_n 6 (gd rfl) rfl rfl ?_
  refine g_lconst 0 7 (gd rfl) rfl rfl ?_
  refine g_putL 10 (gd rfl) rfl rfl rfl rfl ?_
  have hI7 := inv_sG (q := 109) (j := 31) (x := (Int64.ofInt 0)) hI rfl (l_rng (Int64.ofInt 0))
  have v10 : u_109_27 = (sG s 109 31 (Int64.ofInt 0)).2.2.1 109 27 := sG_F (e_109_27)
  have n10 : (u_109_27).toInt ≤ (u_109_22).toInt := by (first | have a0 := oa4 ro_109_29 ((inv_F hI 0 1000 rfl e_109_22)) ((inv_F hI 0 1000 rfl e_109_27)) h1 | ((first | have a0 := in_u ro_109_29 | (have a0 := ro_109_29; unfold In at a0)); (first | have a1 := in_u ((inv_F hI 0 1000 rfl e_109_22)) | (have a1 := (inv_F hI 0 1000 rfl e_109_22); unfold In at a1)); (first | have a2 := in_u ((inv_F hI 0 1000 rfl e_109_27)) | (have a2 := (inv_F hI 0 1000 rfl e_109_27); unfold In at a2)); (first | have a3 := in_u h1 | (have a3 := h1; unfold In at a3)))); have oc := oc_300_109; omega
  have n10a : (u_109_27).toInt ≤ (u_109_27).toInt := by exact Int.le_refl _
  have n10b : (u_109_27).toInt = (u_109_27).toInt := by (first | have a0 := oa4 ro_109_29 ((inv_F hI 0 1000 rfl e_109_22)) ((inv_F hI 0 1000 rfl e_109_27)) h1 | ((first | have a0 := in_u ro_109_29 | (have a0 := ro_109_29; unfold In at a0)); (first | have a1 := in_u ((inv_F hI 0 1000 rfl e_109_22)) | (have a1 := (inv_F hI 0 1000 rfl e_109_22); unfold In at a1)); (first | have a2 := in_u ((inv_F hI 0 1000 rfl e_109_27)) | (have a2 := (inv_F hI 0 1000 rfl e_109_27); unfold In at a2)); (first | have a3 := in_u h1 | (have a3 := h1; unfold In at a3)))); have oc := oc_300_109; omega
  have n10c : (∀ i : Nat, (s.2.2.1 109 27).toInt.toNat ≤ i → (i : Int) < (u_109_27).toInt → tkD (s.1 125 i)) ∧ ((u_109_27).toInt.toNat - (s.2.2.1 109 27).toInt.toNat ≤ 7 → ((sG s 109 31 (Int64.ofInt 0)).2.2.2.1 109 31).toInt = tkN (s.1 125) (s.2.2.1 109 27).toInt.toNat ((u_109_27).toInt.toNat - (s.2.2.1 109 27).toInt.toNat)) := by exact ⟨fun i a b => by exfalso; rw [← e_109_27] at a; (first | have a0 := oa4 ro_109_29 ((inv_F hI 0 1000 rfl e_109_22)) ((inv_F hI 0 1000 rfl e_109_27)) h1 | ((first | have a0 := in_u ro_109_29 | (have a0 := ro_109_29; unfold In at a0)); (first | have a1 := in_u ((inv_F hI 0 1000 rfl e_109_22)) | (have a1 := (inv_F hI 0 1000 rfl e_109_22); unfold In at a1)); (first | have a2 := in_u ((inv_F hI 0 1000 rfl e_109_27)) | (have a2 := (inv_F hI 0 1000 rfl e_109_27); unfold In at a2)); (first | have a3 := in_u h1 | (have a3 := h1; unfold In at a3)))); have oc := oc_300_109; omega, fun _ => by rw [show (u_109_27).toInt.toNat - (s.2.2.1 109 27).toInt.toNat = 0 from (by rw [← e_109_27]; (first | have a0 := oa4 ro_109_29 ((inv_F hI 0 1000 rfl e_109_22)) ((inv_F hI 0 1000 rfl e_109_27)) h1 | ((first | have a0 := in_u ro_109_29 | (have a0 := ro_109_29; unfold In at a0)); (first | have a1 := in_u ((inv_F hI 0 1000 rfl e_109_22)) | (have a1 := (inv_F hI 0 1000 rfl e_109_22); unfold In at a1)); (first | have a2 := in_u ((inv_F hI 0 1000 rfl e_109_27)) | (have a2 := (inv_F hI 0 1000 rfl e_109_27); unfold In at a2)); (first | have a3 := in_u h1 | (have a3 := h1; unfold In at a3)))); have oc := oc_300_109; omega)]; rfl⟩
  have n10d : FSM s (sG s 109 31 (Int64.ofInt 0)) := by exact ⟨rfl, rfl⟩
  have m10 : (u_109_22).toInt - (u_109_27).toInt < ((1001 : Nat) : Int) := by (first | have a0 := oa4 ro_109_29 ((inv_F hI 0 1000 rfl e_109_22)) ((inv_F hI 0 1000 rfl e_109_27)) h1 | ((first | have a0 := in_u ro_109_29 | (have a0 := ro_109_29; unfold In at a0)); (first | have a1 := in_u ((inv_F hI 0 1000 rfl e_109_22)) | (have a1 := (inv_F hI 0 1000 rfl e_109_22); unfold In at a1)); (first | have a2 := in_u ((inv_F hI 0 1000 rfl e_109_27)) | (have a2 := (inv_F hI 0 1000 rfl e_109_27); unfold In at a2)); (first | have a3 := in_u h1 | (have a3 := h1; unfold In at a3)))); have oc := oc_300_109; omega
  exact gg_w (by first | exact Nat.le_of_ble_eq_true rfl | omega) (gg_f (gf_cons rfl (gf_cons rfl (gf_cons rfl gf_nil))) (ct10 1001 (sG s 109 31 (Int64.ofInt 0)) u_109_27 u_109_27 hI7 (fr_sG rfl fr_rf) (in_w 0 1000 (inv_F hI 0 1000 rfl e_109_27) rfl) v10 n10 n10a n10b n10c n10d m10))
end
section
/-! FUNCTIONAL CONTRACTS, by fgen.py -/
theorem oc_299_109 : (Int32.ofInt (-1)).toInt = (-1) ∧ (Int32.ofInt 0).toInt = 0 ∧ (Int32.ofInt 1).toInt = 1 ∧ (Int32.ofInt 2).toInt = 2 ∧ (Int32.ofInt 3).toInt = 3 ∧ (Int32.ofInt 7).toInt = 7 ∧ (Int32.ofInt 32).toInt = 32 ∧ (Int32.ofInt 45).toInt = 45 ∧ (Int32.ofInt 48).toInt = 48 ∧ (Int32.ofInt 57).toInt = 57 ∧ (Int32.ofInt 59).toInt = 59 ∧ (Int32.ofInt 97).toInt = 97 ∧ (Int32.ofInt 122).toInt = 122 := ⟨rfl, rfl, rfl, rfl, rfl, rfl, rfl, rfl, rfl, rfl, rfl, rfl, rfl⟩
/-- GraphHouseModel.nextToken -/
theorem f_299 {Z : AmZ} {A : Nat → Nat} {s : GS} {ex : va_W} {d : Nat} {X : AmX} {u_109_27 : Int32} {u_109_22 : Int32} (hd : 4 ≤ d) (hI : Inv s) (e_109_27 : u_109_27 = s.2.2.1 109 27) (e_109_22 : u_109_22 = s.2.2.1 109 22) (p_0 : (u_109_27).toInt ≤ (u_109_22).toInt) : GC Z d 299 [.ref (A 109)] (WW Z A s ++ ex) 0 0 (fun v u => ∃ t : GS, Inv t ∧ Fr fm_299 s t ∧ ((t.2.2.1 109 27).toInt ≤ (t.2.2.1 109 22).toInt) ∧ ((s.2.2.1 109 27).toInt ≤ (t.2.2.1 109 27).toInt) ∧ ((t.2.2.1 109 28).toInt ≠ 0 → (s.2.2.1 109 27).toInt + 1 ≤ (t.2.2.1 109 27).toInt) ∧ ((t.2.2.1 109 28).toInt = 1 → 97 ≤ (t.2.2.1 109 30).toInt) ∧ ((t.2.2.1 109 28).toInt = 1 → (t.2.2.1 109 30).toInt ≤ 122) ∧ v = none ∧ u = WW Z A t ++ ex ∧ (∃ k v, TKN (s.1 125) (s.2.2.1 109 22).toInt.toNat (s.2.2.1 109 27).toInt.toNat (t.2.2.1 109 29).toInt.toNat (t.2.2.1 109 27).toInt.toNat k v ∧ NTK s t k v)) X := by
  intro post xp hP hX
  have ro_109_22 := inv_F hI 0 1000 rfl e_109_22
  have ct0 : ∀ (k0 : Nat) (sc0 : GS) (w0_109_27 : Int32), Inv sc0 → Fr fm_299 s sc0 → (w0_109_27 = sc0.2.2.1 109 27) → ((w0_109_27).toInt ≤ (u_109_22).toInt) → ((u_109_27).toInt ≤ (w0_109_27).toInt) → (∀ i : Nat, (s.2.2.1 109 27).toInt.toNat ≤ i → (i : Int) < (w0_109_27).toInt → (s.1 125 i).toInt = 32) → (FSM s sc0) → (u_109_22).toInt - (w0_109_27).toInt < (k0 : Int) → GG Z (d - 1) 299 post (gx xp) (1 + k0 * 900) 0 (fun j => xlook j [(0, .ref (A 109))]) [] (WW Z A sc0 ++ ex) 0 0 := by
    intro k0
    induction k0 with
    | zero => intro sc0 w0_109_27 hIc0 hFc0 v0_109_27 n0_0 n0_1 g0_0 g0_1 mm0; exfalso; have a0 := oa2 ro_109_22 ((inv_F hIc0 0 1000 rfl v0_109_27)); have oc := oc_299_109; omega
    | succ k0 ih0 =>
      intro sc0 w0_109_27 hIc0 hFc0 v0_109_27 n0_0 n0_1 g0_0 g0_1 mm0
      refine gg_w (M := 1 + k0 * 900 + 900) gws ?_
      refine g_aload_n 1 (gd rfl) rfl rfl ?_
      refine g_getI 4 (gd rfl) rfl rfl rfl (fun z1 e1 => ?_)
      have q1 : w0_109_27 = z1 := (v0_109_27).trans e1.symm
      subst q1
      refine g_aload_n 5 (gd rfl) rfl rfl ?_
      refine g_getI 8 (gd rfl) rfl rfl rfl (fun z5 e5 => ?_)
      have q5 : u_109_22 = z5 := (fr_F e_109_22 hFc0 rfl).trans e5.symm
      subst q5
      refine g_cmp_ge 11 38 (gd rfl) rfl rfl (fun c8 => ?_) (fun c8 => ?_)
      · skip
        refine g_aload_n 39 (gd rfl) rfl rfl ?_
        refine g_aload_n 40 (gd rfl) rfl rfl ?_
        refine g_getI 43 (gd rfl) rfl rfl rfl (fun z40 e40 => ?_)
        have q40 : w0_109_27 = z40 := (v0_109_27).trans e40.symm
        subst q40
        refine g_putI 46 (gd rfl) rfl rfl rfl rfl ?_
        have hI43 := inv_sF (q := 109) (j := 29) hIc0 rfl (in_w 0 1000 (inv_F hIc0 0 1000 rfl v0_109_27) rfl)
        refine g_aload_n 47 (gd rfl) rfl rfl ?_
        refine g_getI 50 (gd rfl) rfl rfl rfl (fun z47 e47 => ?_)
        have q47 : w0_109_27 = z47 := (sF_ne rfl (v0_109_27)).trans e47.symm
        subst q47
        refine g_aload_n 51 (gd rfl) rfl rfl ?_
        refine g_getI 54 (gd rfl) rfl rfl rfl (fun z51 e51 => ?_)
        have q51 : u_109_22 = z51 := (sF_ne rfl (fr_F e_109_22 hFc0 rfl)).trans e51.symm
        subst q51
        refine g_cmp_ne 57 63 (gd rfl) rfl rfl (fun c54 => ?_) (fun c54 => ?_)
        · skip
          refine g_aload_n 64 (gd rfl) rfl rfl ?_
          refine g_getA (q2 := 125) 67 (gd rfl) rfl rfl rfl rfl ?_
          refine g_aload_n 68 (gd rfl) rfl rfl ?_
          refine g_getI 71 (gd rfl) rfl rfl rfl (fun z68 e68 => ?_)
          have q68 : w0_109_27 = z68 := (sF_ne rfl (v0_109_27)).trans e68.symm
          subst q68
          have i71 : In w0_109_27 0 999 := by have a0 := oa2 ro_109_22 ((inv_F hIc0 0 1000 rfl v0_109_27)); have oc := oc_299_109; exact ⟨by omega, by omega⟩
          refine g_iaload 72 (gd rfl) rfl (n := 1000) rfl (in_ix i71 rfl) (fun z71 e71 => ?_)
          have i71a := inv_I hI43 (n := 1000) (t := 0) 0 126 rfl (in_ix i71 rfl) rfl e71
          refine g_istore_n 73 (gd rfl) rfl (Nat.le_of_ble_eq_true rfl) ?_
          refine g_aload_n 74 (gd rfl) rfl rfl ?_
          refine g_iload_n 75 (gd rfl) rfl rfl ?_
          refine g_putI 78 (gd rfl) rfl rfl rfl rfl ?_
          have hI75 := inv_sF (q := 109) (j := 30) hI43 rfl (in_w (-2147483648) 2147483647 i71a rfl)
          refine g_iload_n 79 (gd rfl) rfl rfl ?_
          refine g_bipush 45 81 (gd rfl) rfl rfl ?_
          refine g_cmp_ne 84 118 (gd rfl) rfl rfl (fun c81 => ?_) (fun c81 => ?_)
          · skip
            refine g_iconst 0 119 (gd rfl) rfl rfl ?_
            refine g_istore_n 120 (gd rfl) rfl (Nat.le_of_ble_eq_true rfl) ?_
            refine g_iload_n 121 (gd rfl) rfl rfl ?_
            refine g_calls (As := [.int z71]) (r := []) 124 (gd rfl) rfl rfl rfl rfl rfl (Nat.le_of_ble_eq_true rfl) (mc := 0) (ms := 0) (Nat.zero_le _) (Nat.zero_le _) (P := fun v u => _) ?_ (fun v u h => h)
            intro po121 xx121 hp121 hx121
            refine g_enter2 (k := 297) (N := 300) (by first | exact dq1 hd rfl | exact dq0 hd rfl | exact dq2 hd rfl | exact dq3 hd rfl | omega) rfl (Nat.le_of_ble_eq_true rfl) ?_
            refine g_iload_n 1 (gd rfl) rfl rfl ?_
            refine g_bipush 48 3 (gd rfl) rfl rfl ?_
            refine g_cmp_lt 6 16 (gd rfl) rfl rfl (fun c121x3 => ?_) (fun c121x3 => ?_)
            · skip
              have i121x3 := r_lt1 0 47 c121x3 i71a (in_c 48 rfl) rfl
              refine g_iconst 0 17 (gd rfl) rfl rfl ?_
              refine g_ireturn (gd rfl) rfl (nb01 (in_w 0 1 (in_c 0 rfl) rfl)) (hp121 _ _ ?_)
              show GG _ _ _ _ _ _ _ _ [.int (Int32.ofInt 0)] _ _ _
              refine g_if_ne 127 131 (gd rfl) rfl rfl (fun c124 => ?_) (fun c124 => ?_)
              · skip
                exact zn_ne c124 (in_c 0 rfl) rfl
              · skip
                refine g_iload_n 128 (gd rfl) rfl rfl ?_
                refine g_if_eq 131 181 (gd rfl) rfl rfl (fun c128 => ?_) (fun c128 => ?_)
                · skip
                  refine g_aload_n 182 (gd rfl) rfl rfl ?_
                  refine g_iload_n 183 (gd rfl) rfl rfl ?_
                  refine g_calls (As := [.int z71]) (r := [.ref (A 109)]) 186 (gd rfl) rfl rfl rfl rfl rfl (Nat.le_of_ble_eq_true rfl) (mc := 0) (ms := 0) (Nat.zero_le _) (Nat.zero_le _) (P := fun v u => _) ?_ (fun v u h => h)
                  intro po183 xx183 hp183 hx183
                  refine g_enter2 (k := 296) (N := 300) (by first | exact dq1 hd rfl | exact dq0 hd rfl | exact dq2 hd rfl | exact dq3 hd rfl | omega) rfl (Nat.le_of_ble_eq_true rfl) ?_
                  refine g_iload_n 1 (gd rfl) rfl rfl ?_
                  refine g_bipush 97 3 (gd rfl) rfl rfl ?_
                  refine g_cmp_lt 6 16 (gd rfl) rfl rfl (fun c183x3 => ?_) (fun c183x3 => ?_)
                  · skip
                    refine g_iconst 0 17 (gd rfl) rfl rfl ?_
                    refine g_ireturn (gd rfl) rfl (nb01 (in_w 0 1 (in_c 0 rfl) rfl)) (hp183 _ _ ?_)
                    show GG _ _ _ _ _ _ _ _ [.int (Int32.ofInt 0), .ref (A 109)] _ _ _
                    refine g_if_eq 189 193 (gd rfl) rfl rfl (fun c186 => ?_) (fun c186 => ?_)
                    · skip
                      refine g_iconst 3 194 (gd rfl) rfl rfl ?_
                      refine g_putI 197 (gd rfl) rfl rfl rfl rfl ?_
                      have hI194 := inv_sF (q := 109) (j := 28) hI75 rfl (in_w (-2147483648) 2147483647 (in_c 3 rfl) rfl)
                      refine g_aload_n 198 (gd rfl) rfl rfl ?_
                      refine g_getI 201 (gd rfl) rfl rfl rfl (fun z198 e198 => ?_)
                      have q198 : (Int32.ofInt 3) = z198 := (sF_get).trans e198.symm
                      subst q198
                      refine g_iconst 3 202 (gd rfl) rfl rfl ?_
                      refine g_cmp_ne 205 220 (gd rfl) rfl rfl (fun c202 => ?_) (fun c202 => ?_)
                      · skip
                        exact n_ne c202 (in_c 3 rfl) (in_c 3 rfl) rfl
                      · skip
                        refine g_iload_n 206 (gd rfl) rfl rfl ?_
                        refine g_bipush 59 208 (gd rfl) rfl rfl ?_
                        refine g_cmp_eq 211 220 (gd rfl) rfl rfl (fun c208 => ?_) (fun c208 => ?_)
                        · skip
                          exact n_eq c208 i121x3 (in_c 59 rfl) rfl
                        · skip
                          refine g_aload_n 212 (gd rfl) rfl rfl ?_
                          refine g_iconst 1 213 (gd rfl) rfl rfl ?_
                          refine g_aload_n 214 (gd rfl) rfl rfl ?_
                          refine g_getI 217 (gd rfl) rfl rfl rfl (fun z214 e214 => ?_)
                          have q214 : w0_109_27 = z214 := (sF_ne rfl (sF_ne rfl (sF_get))).trans e214.symm
                          subst q214
                          refine g_callv (X := _) (As := [.int (Int32.ofInt 1), .int w0_109_27]) (r := []) (b := A 109) (q := 109) 220 (gd rfl) rfl rfl rfl rfl rfl (ww_o rfl) (Nat.le_of_ble_eq_true rfl) (Nat.zero_le _) (Nat.zero_le _) (f_298 (by first | exact dq1 hd rfl | exact dq0 hd rfl | exact dq2 hd rfl | exact dq3 hd rfl | omega) hI194 (in_w 1 5 (in_c 1 rfl) rfl) rfl) (fun e u h => h) (fun v u h => ?_)
                          obtain ⟨s217, hI217, hF217, n217, rfl, rfl, p217⟩ := h
                          obtain ⟨z217a, e217⟩ : ∃ w, w = s217.2.2.1 109 23 := ⟨_, rfl⟩
                          have i217a := inv_F hI217 0 9 rfl e217
                          rw [← (show z217a = s217.2.2.1 109 23 from e217)] at n217
                          show GG _ _ _ _ _ _ _ _ [] _ _ _
                          refine g_aload_n 221 (gd rfl) rfl rfl ?_
                          refine g_dup 222 (gd rfl) rfl rfl ?_
                          refine g_getI 225 (gd rfl) rfl rfl rfl (fun z222 e222 => ?_)
                          have q222 : w0_109_27 = z222 := (fr_F (s := (sF (sF (sF sc0 109 29 w0_109_27) 109 30 z71) 109 28 (Int32.ofInt 3))) (sF_ne rfl (sF_ne rfl (sF_ne rfl (v0_109_27)))) hF217 rfl).trans e222.symm
                          subst q222
                          refine g_iconst 1 226 (gd rfl) rfl rfl ?_
                          refine g_iadd 227 (gd rfl) rfl (fun z226 e226 => ?_)
                          have i226 := in_add 1 1000 e226 i71 (in_c 1 rfl) rfl rfl
                          refine g_putI 230 (gd rfl) rfl rfl rfl rfl ?_
                          have hI227 := inv_sF (q := 109) (j := 27) hI217 rfl (in_w 0 1000 i226 rfl)
                          have n230 : ∃ k v, TKN (s.1 125) (s.2.2.1 109 22).toInt.toNat (s.2.2.1 109 27).toInt.toNat ((sF s217 109 27 z226).2.2.1 109 29).toInt.toNat ((sF s217 109 27 z226).2.2.1 109 27).toInt.toNat k v ∧ NTK s (sF s217 109 27 z226) k v := by exfalso; have a0 := oa5 ro_109_22 i71 ((in_c 0 rfl)) i121x3 i226; have a5 := t_add e226 i71 (in_c 1 rfl) rfl; have a6 := oa3 ((in_c 1 rfl)) i217a ((in_c 3 rfl)); have oc := oc_299_109; omega
                          have n230a : (z226).toInt ≤ (u_109_22).toInt := by have a0 := oa5 ro_109_22 i71 ((in_c 0 rfl)) i121x3 i226; have a5 := t_add e226 i71 (in_c 1 rfl) rfl; have a6 := oa3 ((in_c 1 rfl)) i217a ((in_c 3 rfl)); have oc := oc_299_109; omega
                          have n230b : ((sF s217 109 27 z226).2.2.1 109 27).toInt ≤ ((sF s217 109 27 z226).2.2.1 109 22).toInt := by have b0 : z226 = (sF s217 109 27 z226).2.2.1 109 27 := sF_get; have b1 : u_109_22 = (sF s217 109 27 z226).2.2.1 109 22 := sF_ne rfl (fr_F (s := (sF (sF (sF sc0 109 29 w0_109_27) 109 30 z71) 109 28 (Int32.ofInt 3))) (sF_ne rfl (sF_ne rfl (sF_ne rfl (fr_F e_109_22 hFc0 rfl)))) hF217 rfl); rw [← b0, ← b1]; exact n230a
                          have n230c : (u_109_27).toInt ≤ (z226).toInt := by have a0 := oa5 ro_109_22 i71 ((in_c 0 rfl)) i121x3 i226; have a5 := t_add e226 i71 (in_c 1 rfl) rfl; have a6 := oa3 ((in_c 1 rfl)) i217a ((in_c 3 rfl)); have oc := oc_299_109; omega
                          have n230d : (s.2.2.1 109 27).toInt ≤ ((sF s217 109 27 z226).2.2.1 109 27).toInt := by have b0 : z226 = (sF s217 109 27 z226).2.2.1 109 27 := sF_get; first | (rw [← b0, ← e_109_27]; exact n230c) | (rw [← b0]; exact n230c)
                          have n230e : ((Int32.ofInt 3)).toInt ≠ 0 → (u_109_27).toInt + 1 ≤ (z226).toInt := by have a0 := oa5 ro_109_22 i71 ((in_c 0 rfl)) i121x3 i226; have a5 := t_add e226 i71 (in_c 1 rfl) rfl; have a6 := oa3 ((in_c 1 rfl)) i217a ((in_c 3 rfl)); have oc := oc_299_109; omega
                          have n230f : ((sF s217 109 27 z226).2.2.1 109 28).toInt ≠ 0 → (s.2.2.1 109 27).toInt + 1 ≤ ((sF s217 109 27 z226).2.2.1 109 27).toInt := by have b0 : (Int32.ofInt 3) = (sF s217 109 27 z226).2.2.1 109 28 := sF_ne rfl (fr_F (s := (sF (sF (sF sc0 109 29 w0_109_27) 109 30 z71) 109 28 (Int32.ofInt 3))) (sF_get) hF217 rfl); have b1 : z226 = (sF s217 109 27 z226).2.2.1 109 27 := sF_get; first | (rw [← b0, ← b1, ← e_109_27]; exact n230e) | (rw [← b0, ← b1]; exact n230e)
                          have n230g : ((Int32.ofInt 3)).toInt = 1 → 97 ≤ (z71).toInt := by exact fun h => absurd h (by decide)
                          have n230h : ((sF s217 109 27 z226).2.2.1 109 28).toInt = 1 → 97 ≤ ((sF s217 109 27 z226).2.2.1 109 30).toInt := by have b0 : (Int32.ofInt 3) = (sF s217 109 27 z226).2.2.1 109 28 := sF_ne rfl (fr_F (s := (sF (sF (sF sc0 109 29 w0_109_27) 109 30 z71) 109 28 (Int32.ofInt 3))) (sF_get) hF217 rfl); have b1 : z71 = (sF s217 109 27 z226).2.2.1 109 30 := sF_ne rfl (fr_F (s := (sF (sF (sF sc0 109 29 w0_109_27) 109 30 z71) 109 28 (Int32.ofInt 3))) (sF_ne rfl (sF_get)) hF217 rfl); rw [← b0, ← b1]; exact n230g
                          have n230i : ((Int32.ofInt 3)).toInt = 1 → (z71).toInt ≤ 122 := by exact fun h => absurd h (by decide)
                          have n230j : ((sF s217 109 27 z226).2.2.1 109 28).toInt = 1 → ((sF s217 109 27 z226).2.2.1 109 30).toInt ≤ 122 := by have b0 : (Int32.ofInt 3) = (sF s217 109 27 z226).2.2.1 109 28 := sF_ne rfl (fr_F (s := (sF (sF (sF sc0 109 29 w0_109_27) 109 30 z71) 109 28 (Int32.ofInt 3))) (sF_get) hF217 rfl); have b1 : z71 = (sF s217 109 27 z226).2.2.1 109 30 := sF_ne rfl (fr_F (s := (sF (sF (sF sc0 109 29 w0_109_27) 109 30 z71) 109 28 (Int32.ofInt 3))) (sF_ne rfl (sF_get)) hF217 rfl); rw [← b0, ← b1]; exact n230i
                          exact g_return (gd rfl) rfl (hP _ _ ⟨(sF s217 109 27 z226), hI227, (fr_sF rfl (fr_tr rfl (fr_sF rfl (fr_sF rfl (fr_sF rfl hFc0))) hF217)), n230b, n230d, n230f, n230h, n230j, rfl, rfl, n230⟩)
                    · skip
                      exact zn_ne c186 (in_c 0 rfl) rfl
                  · skip
                    exact n_le c183x3 (in_c 97 rfl) i121x3 rfl
                · skip
                  exact zn_ne c128 (in_c 0 rfl) rfl
            · skip
              have i121x3 := r_le2 48 126 c121x3 (in_c 48 rfl) i71a rfl
              refine g_iload_n 7 (gd rfl) rfl rfl ?_
              refine g_bipush 57 9 (gd rfl) rfl rfl ?_
              refine g_cmp_gt 12 16 (gd rfl) rfl rfl (fun c121x9 => ?_) (fun c121x9 => ?_)
              · skip
                have i121x9 := r_lt2 58 126 c121x9 (in_c 57 rfl) i121x3 rfl
                refine g_iconst 0 17 (gd rfl) rfl rfl ?_
                refine g_ireturn (gd rfl) rfl (nb01 (in_w 0 1 (in_c 0 rfl) rfl)) (hp121 _ _ ?_)
                show GG _ _ _ _ _ _ _ _ [.int (Int32.ofInt 0)] _ _ _
                refine g_if_ne 127 131 (gd rfl) rfl rfl (fun c124 => ?_) (fun c124 => ?_)
                · skip
                  exact zn_ne c124 (in_c 0 rfl) rfl
                · skip
                  refine g_iload_n 128 (gd rfl) rfl rfl ?_
                  refine g_if_eq 131 181 (gd rfl) rfl rfl (fun c128 => ?_) (fun c128 => ?_)
                  · skip
                    refine g_aload_n 182 (gd rfl) rfl rfl ?_
                    refine g_iload_n 183 (gd rfl) rfl rfl ?_
                    refine g_calls (As := [.int z71]) (r := [.ref (A 109)]) 186 (gd rfl) rfl rfl rfl rfl rfl (Nat.le_of_ble_eq_true rfl) (mc := 0) (ms := 0) (Nat.zero_le _) (Nat.zero_le _) (P := fun v u => _) ?_ (fun v u h => h)
                    intro po183 xx183 hp183 hx183
                    refine g_enter2 (k := 296) (N := 300) (by first | exact dq1 hd rfl | exact dq0 hd rfl | exact dq2 hd rfl | exact dq3 hd rfl | omega) rfl (Nat.le_of_ble_eq_true rfl) ?_
                    refine g_iload_n 1 (gd rfl) rfl rfl ?_
                    refine g_bipush 97 3 (gd rfl) rfl rfl ?_
                    refine g_cmp_lt 6 16 (gd rfl) rfl rfl (fun c183x3 => ?_) (fun c183x3 => ?_)
                    · skip
                      have i183x3 := r_lt1 58 96 c183x3 i121x9 (in_c 97 rfl) rfl
                      refine g_iconst 0 17 (gd rfl) rfl rfl ?_
                      refine g_ireturn (gd rfl) rfl (nb01 (in_w 0 1 (in_c 0 rfl) rfl)) (hp183 _ _ ?_)
                      show GG _ _ _ _ _ _ _ _ [.int (Int32.ofInt 0), .ref (A 109)] _ _ _
                      refine g_if_eq 189 193 (gd rfl) rfl rfl (fun c186 => ?_) (fun c186 => ?_)
                      · skip
                        refine g_iconst 3 194 (gd rfl) rfl rfl ?_
                        refine g_putI 197 (gd rfl) rfl rfl rfl rfl ?_
                        have hI194 := inv_sF (q := 109) (j := 28) hI75 rfl (in_w (-2147483648) 2147483647 (in_c 3 rfl) rfl)
                        refine g_aload_n 198 (gd rfl) rfl rfl ?_
                        refine g_getI 201 (gd rfl) rfl rfl rfl (fun z198 e198 => ?_)
                        have q198 : (Int32.ofInt 3) = z198 := (sF_get).trans e198.symm
                        subst q198
                        refine g_iconst 3 202 (gd rfl) rfl rfl ?_
                        refine g_cmp_ne 205 220 (gd rfl) rfl rfl (fun c202 => ?_) (fun c202 => ?_)
                        · skip
                          exact n_ne c202 (in_c 3 rfl) (in_c 3 rfl) rfl
                        · skip
                          refine g_iload_n 206 (gd rfl) rfl rfl ?_
                          refine g_bipush 59 208 (gd rfl) rfl rfl ?_
                          refine g_cmp_eq 211 220 (gd rfl) rfl rfl (fun c208 => ?_) (fun c208 => ?_)
                          · skip
                            have i208 := r_eq1 59 59 c208 i183x3 (in_c 59 rfl) rfl
                            refine g_aload_n 221 (gd rfl) rfl rfl ?_
                            refine g_dup 222 (gd rfl) rfl rfl ?_
                            refine g_getI 225 (gd rfl) rfl rfl rfl (fun z222 e222 => ?_)
                            have q222 : w0_109_27 = z222 := (sF_ne rfl (sF_ne rfl (sF_ne rfl (v0_109_27)))).trans e222.symm
                            subst q222
                            refine g_iconst 1 226 (gd rfl) rfl rfl ?_
                            refine g_iadd 227 (gd rfl) rfl (fun z226 e226 => ?_)
                            have i226 := in_add 1 1000 e226 i71 (in_c 1 rfl) rfl rfl
                            refine g_putI 230 (gd rfl) rfl rfl rfl rfl ?_
                            have hI227 := inv_sF (q := 109) (j := 27) hI194 rfl (in_w 0 1000 i226 rfl)
                            have n230 : ∃ k v, TKN (s.1 125) (s.2.2.1 109 22).toInt.toNat (s.2.2.1 109 27).toInt.toNat ((sF (sF (sF (sF sc0 109 29 w0_109_27) 109 30 z71) 109 28 (Int32.ofInt 3)) 109 27 z226).2.2.1 109 29).toInt.toNat ((sF (sF (sF (sF sc0 109 29 w0_109_27) 109 30 z71) 109 28 (Int32.ofInt 3)) 109 27 z226).2.2.1 109 27).toInt.toNat k v ∧ NTK s (sF (sF (sF (sF sc0 109 29 w0_109_27) 109 30 z71) 109 28 (Int32.ofInt 3)) 109 27 z226) k v := by exfalso; have a0 := oa5 ro_109_22 i71 ((in_c 0 rfl)) i208 i226; have a5 := t_add e226 i71 (in_c 1 rfl) rfl; have a6 := oa2 ((in_c 1 rfl)) ((in_c 3 rfl)); have oc := oc_299_109; omega
                            have n230a : (z226).toInt ≤ (u_109_22).toInt := by have a0 := oa5 ro_109_22 i71 ((in_c 0 rfl)) i208 i226; have a5 := t_add e226 i71 (in_c 1 rfl) rfl; have a6 := oa2 ((in_c 1 rfl)) ((in_c 3 rfl)); have oc := oc_299_109; omega
                            have n230b : ((sF (sF (sF (sF sc0 109 29 w0_109_27) 109 30 z71) 109 28 (Int32.ofInt 3)) 109 27 z226).2.2.1 109 27).toInt ≤ ((sF (sF (sF (sF sc0 109 29 w0_109_27) 109 30 z71) 109 28 (Int32.ofInt 3)) 109 27 z226).2.2.1 109 22).toInt := by have b0 : z226 = (sF (sF (sF (sF sc0 109 29 w0_109_27) 109 30 z71) 109 28 (Int32.ofInt 3)) 109 27 z226).2.2.1 109 27 := sF_get; have b1 : u_109_22 = (sF (sF (sF (sF sc0 109 29 w0_109_27) 109 30 z71) 109 28 (Int32.ofInt 3)) 109 27 z226).2.2.1 109 22 := sF_ne rfl (sF_ne rfl (sF_ne rfl (sF_ne rfl (fr_F e_109_22 hFc0 rfl)))); rw [← b0, ← b1]; exact n230a
                            have n230c : (u_109_27).toInt ≤ (z226).toInt := by have a0 := oa5 ro_109_22 i71 ((in_c 0 rfl)) i208 i226; have a5 := t_add e226 i71 (in_c 1 rfl) rfl; have a6 := oa2 ((in_c 1 rfl)) ((in_c 3 rfl)); have oc := oc_299_109; omega
                            have n230d : (s.2.2.1 109 27).toInt ≤ ((sF (sF (sF (sF sc0 109 29 w0_109_27) 109 30 z71) 109 28 (Int32.ofInt 3)) 109 27 z226).2.2.1 109 27).toInt := by have b0 : z226 = (sF (sF (sF (sF sc0 109 29 w0_109_27) 109 30 z71) 109 28 (Int32.ofInt 3)) 109 27 z226).2.2.1 109 27 := sF_get; first | (rw [← b0, ← e_109_27]; exact n230c) | (rw [← b0]; exact n230c)
                            have n230e : ((Int32.ofInt 3)).toInt ≠ 0 → (u_109_27).toInt + 1 ≤ (z226).toInt := by have a0 := oa5 ro_109_22 i71 ((in_c 0 rfl)) i208 i226; have a5 := t_add e226 i71 (in_c 1 rfl) rfl; have a6 := oa2 ((in_c 1 rfl)) ((in_c 3 rfl)); have oc := oc_299_109; omega
                            have n230f : ((sF (sF (sF (sF sc0 109 29 w0_109_27) 109 30 z71) 109 28 (Int32.ofInt 3)) 109 27 z226).2.2.1 109 28).toInt ≠ 0 → (s.2.2.1 109 27).toInt + 1 ≤ ((sF (sF (sF (sF sc0 109 29 w0_109_27) 109 30 z71) 109 28 (Int32.ofInt 3)) 109 27 z226).2.2.1 109 27).toInt := by have b0 : (Int32.ofInt 3) = (sF (sF (sF (sF sc0 109 29 w0_109_27) 109 30 z71) 109 28 (Int32.ofInt 3)) 109 27 z226).2.2.1 109 28 := sF_ne rfl (sF_get); have b1 : z226 = (sF (sF (sF (sF sc0 109 29 w0_109_27) 109 30 z71) 109 28 (Int32.ofInt 3)) 109 27 z226).2.2.1 109 27 := sF_get; first | (rw [← b0, ← b1, ← e_109_27]; exact n230e) | (rw [← b0, ← b1]; exact n230e)
                            have n230g : ((Int32.ofInt 3)).toInt = 1 → 97 ≤ (z71).toInt := by exact fun h => absurd h (by decide)
                            have n230h : ((sF (sF (sF (sF sc0 109 29 w0_109_27) 109 30 z71) 109 28 (Int32.ofInt 3)) 109 27 z226).2.2.1 109 28).toInt = 1 → 97 ≤ ((sF (sF (sF (sF sc0 109 29 w0_109_27) 109 30 z71) 109 28 (Int32.ofInt 3)) 109 27 z226).2.2.1 109 30).toInt := by have b0 : (Int32.ofInt 3) = (sF (sF (sF (sF sc0 109 29 w0_109_27) 109 30 z71) 109 28 (Int32.ofInt 3)) 109 27 z226).2.2.1 109 28 := sF_ne rfl (sF_get); have b1 : z71 = (sF (sF (sF (sF sc0 109 29 w0_109_27) 109 30 z71) 109 28 (Int32.ofInt 3)) 109 27 z226).2.2.1 109 30 := sF_ne rfl (sF_ne rfl (sF_get)); rw [← b0, ← b1]; exact n230g
                            have n230i : ((Int32.ofInt 3)).toInt = 1 → (z71).toInt ≤ 122 := by exact fun h => absurd h (by decide)
                            have n230j : ((sF (sF (sF (sF sc0 109 29 w0_109_27) 109 30 z71) 109 28 (Int32.ofInt 3)) 109 27 z226).2.2.1 109 28).toInt = 1 → ((sF (sF (sF (sF sc0 109 29 w0_109_27) 109 30 z71) 109 28 (Int32.ofInt 3)) 109 27 z226).2.2.1 109 30).toInt ≤ 122 := by have b0 : (Int32.ofInt 3) = (sF (sF (sF (sF sc0 109 29 w0_109_27) 109 30 z71) 109 28 (Int32.ofInt 3)) 109 27 z226).2.2.1 109 28 := sF_ne rfl (sF_get); have b1 : z71 = (sF (sF (sF (sF sc0 109 29 w0_109_27) 109 30 z71) 109 28 (Int32.ofInt 3)) 109 27 z226).2.2.1 109 30 := sF_ne rfl (sF_ne rfl (sF_get)); rw [← b0, ← b1]; exact n230i
                            exact g_return (gd rfl) rfl (hP _ _ ⟨(sF (sF (sF (sF sc0 109 29 w0_109_27) 109 30 z71) 109 28 (Int32.ofInt 3)) 109 27 z226), hI227, (fr_sF rfl (fr_sF rfl (fr_sF rfl (fr_sF rfl hFc0)))), n230b, n230d, n230f, n230h, n230j, rfl, rfl, n230⟩)
                          · skip
                            refine g_aload_n 212 (gd rfl) rfl rfl ?_
                            refine g_iconst 1 213 (gd rfl) rfl rfl ?_
                            refine g_aload_n 214 (gd rfl) rfl rfl ?_
                            refine g_getI 217 (gd rfl) rfl rfl rfl (fun z214 e214 => ?_)
                            have q214 : w0_109_27 = z214 := (sF_ne rfl (sF_ne rfl (sF_get))).trans e214.symm
                            subst q214
                            refine g_callv (X := _) (As := [.int (Int32.ofInt 1), .int w0_109_27]) (r := []) (b := A 109) (q := 109) 220 (gd rfl) rfl rfl rfl rfl rfl (ww_o rfl) (Nat.le_of_ble_eq_true rfl) (Nat.zero_le _) (Nat.zero_le _) (f_298 (by first | exact dq1 hd rfl | exact dq0 hd rfl | exact dq2 hd rfl | exact dq3 hd rfl | omega) hI194 (in_w 1 5 (in_c 1 rfl) rfl) rfl) (fun e u h => h) (fun v u h => ?_)
                            obtain ⟨s217, hI217, hF217, n217, rfl, rfl, p217⟩ := h
                            obtain ⟨z217a, e217⟩ : ∃ w, w = s217.2.2.1 109 23 := ⟨_, rfl⟩
                            have i217a := inv_F hI217 0 9 rfl e217
                            rw [← (show z217a = s217.2.2.1 109 23 from e217)] at n217
                            show GG _ _ _ _ _ _ _ _ [] _ _ _
                            refine g_aload_n 221 (gd rfl) rfl rfl ?_
                            refine g_dup 222 (gd rfl) rfl rfl ?_
                            refine g_getI 225 (gd rfl) rfl rfl rfl (fun z222 e222 => ?_)
                            have q222 : w0_109_27 = z222 := (fr_F (s := (sF (sF (sF sc0 109 29 w0_109_27) 109 30 z71) 109 28 (Int32.ofInt 3))) (sF_ne rfl (sF_ne rfl (sF_ne rfl (v0_109_27)))) hF217 rfl).trans e222.symm
                            subst q222
                            refine g_iconst 1 226 (gd rfl) rfl rfl ?_
                            refine g_iadd 227 (gd rfl) rfl (fun z226 e226 => ?_)
                            have i226 := in_add 1 1000 e226 i71 (in_c 1 rfl) rfl rfl
                            refine g_putI 230 (gd rfl) rfl rfl rfl rfl ?_
                            have hI227 := inv_sF (q := 109) (j := 27) hI217 rfl (in_w 0 1000 i226 rfl)
                            have n230 : ∃ k v, TKN (s.1 125) (s.2.2.1 109 22).toInt.toNat (s.2.2.1 109 27).toInt.toNat ((sF s217 109 27 z226).2.2.1 109 29).toInt.toNat ((sF s217 109 27 z226).2.2.1 109 27).toInt.toNat k v ∧ NTK s (sF s217 109 27 z226) k v := by exfalso; have a0 := oa5 ro_109_22 i71 ((in_c 0 rfl)) i183x3 i226; have a5 := t_add e226 i71 (in_c 1 rfl) rfl; have a6 := oa3 ((in_c 1 rfl)) i217a ((in_c 3 rfl)); have oc := oc_299_109; omega
                            have n230a : (z226).toInt ≤ (u_109_22).toInt := by have a0 := oa5 ro_109_22 i71 ((in_c 0 rfl)) i183x3 i226; have a5 := t_add e226 i71 (in_c 1 rfl) rfl; have a6 := oa3 ((in_c 1 rfl)) i217a ((in_c 3 rfl)); have oc := oc_299_109; omega
                            have n230b : ((sF s217 109 27 z226).2.2.1 109 27).toInt ≤ ((sF s217 109 27 z226).2.2.1 109 22).toInt := by have b0 : z226 = (sF s217 109 27 z226).2.2.1 109 27 := sF_get; have b1 : u_109_22 = (sF s217 109 27 z226).2.2.1 109 22 := sF_ne rfl (fr_F (s := (sF (sF (sF sc0 109 29 w0_109_27) 109 30 z71) 109 28 (Int32.ofInt 3))) (sF_ne rfl (sF_ne rfl (sF_ne rfl (fr_F e_109_22 hFc0 rfl)))) hF217 rfl); rw [← b0, ← b1]; exact n230a
                            have n230c : (u_109_27).toInt ≤ (z226).toInt := by have a0 := oa5 ro_109_22 i71 ((in_c 0 rfl)) i183x3 i226; have a5 := t_add e226 i71 (in_c 1 rfl) rfl; have a6 := oa3 ((in_c 1 rfl)) i217a ((in_c 3 rfl)); have oc := oc_299_109; omega
                            have n230d : (s.2.2.1 109 27).toInt ≤ ((sF s217 109 27 z226).2.2.1 109 27).toInt := by have b0 : z226 = (sF s217 109 27 z226).2.2.1 109 27 := sF_get; first | (rw [← b0, ← e_109_27]; exact n230c) | (rw [← b0]; exact n230c)
                            have n230e : ((Int32.ofInt 3)).toInt ≠ 0 → (u_109_27).toInt + 1 ≤ (z226).toInt := by have a0 := oa5 ro_109_22 i71 ((in_c 0 rfl)) i183x3 i226; have a5 := t_add e226 i71 (in_c 1 rfl) rfl; have a6 := oa3 ((in_c 1 rfl)) i217a ((in_c 3 rfl)); have oc := oc_299_109; omega
                            have n230f : ((sF s217 109 27 z226).2.2.1 109 28).toInt ≠ 0 → (s.2.2.1 109 27).toInt + 1 ≤ ((sF s217 109 27 z226).2.2.1 109 27).toInt := by have b0 : (Int32.ofInt 3) = (sF s217 109 27 z226).2.2.1 109 28 := sF_ne rfl (fr_F (s := (sF (sF (sF sc0 109 29 w0_109_27) 109 30 z71) 109 28 (Int32.ofInt 3))) (sF_get) hF217 rfl); have b1 : z226 = (sF s217 109 27 z226).2.2.1 109 27 := sF_get; first | (rw [← b0, ← b1, ← e_109_27]; exact n230e) | (rw [← b0, ← b1]; exact n230e)
                            have n230g : ((Int32.ofInt 3)).toInt = 1 → 97 ≤ (z71).toInt := by exact fun h => absurd h (by decide)
                            have n230h : ((sF s217 109 27 z226).2.2.1 109 28).toInt = 1 → 97 ≤ ((sF s217 109 27 z226).2.2.1 109 30).toInt := by have b0 : (Int32.ofInt 3) = (sF s217 109 27 z226).2.2.1 109 28 := sF_ne rfl (fr_F (s := (sF (sF (sF sc0 109 29 w0_109_27) 109 30 z71) 109 28 (Int32.ofInt 3))) (sF_get) hF217 rfl); have b1 : z71 = (sF s217 109 27 z226).2.2.1 109 30 := sF_ne rfl (fr_F (s := (sF (sF (sF sc0 109 29 w0_109_27) 109 30 z71) 109 28 (Int32.ofInt 3))) (sF_ne rfl (sF_get)) hF217 rfl); rw [← b0, ← b1]; exact n230g
                            have n230i : ((Int32.ofInt 3)).toInt = 1 → (z71).toInt ≤ 122 := by exact fun h => absurd h (by decide)
                            have n230j : ((sF s217 109 27 z226).2.2.1 109 28).toInt = 1 → ((sF s217 109 27 z226).2.2.1 109 30).toInt ≤ 122 := by have b0 : (Int32.ofInt 3) = (sF s217 109 27 z226).2.2.1 109 28 := sF_ne rfl (fr_F (s := (sF (sF (sF sc0 109 29 w0_109_27) 109 30 z71) 109 28 (Int32.ofInt 3))) (sF_get) hF217 rfl); have b1 : z71 = (sF s217 109 27 z226).2.2.1 109 30 := sF_ne rfl (fr_F (s := (sF (sF (sF sc0 109 29 w0_109_27) 109 30 z71) 109 28 (Int32.ofInt 3))) (sF_ne rfl (sF_get)) hF217 rfl); rw [← b0, ← b1]; exact n230i
                            exact g_return (gd rfl) rfl (hP _ _ ⟨(sF s217 109 27 z226), hI227, (fr_sF rfl (fr_tr rfl (fr_sF rfl (fr_sF rfl (fr_sF rfl hFc0))) hF217)), n230b, n230d, n230f, n230h, n230j, rfl, rfl, n230⟩)
                      · skip
                        exact zn_ne c186 (in_c 0 rfl) rfl
                    · skip
                      have i183x3 := r_le2 97 126 c183x3 (in_c 97 rfl) i121x9 rfl
                      refine g_iload_n 7 (gd rfl) rfl rfl ?_
                      refine g_bipush 122 9 (gd rfl) rfl rfl ?_
                      refine g_cmp_gt 12 16 (gd rfl) rfl rfl (fun c183x9 => ?_) (fun c183x9 => ?_)
                      · skip
                        have i183x9 := r_lt2 123 126 c183x9 (in_c 122 rfl) i183x3 rfl
                        refine g_iconst 0 17 (gd rfl) rfl rfl ?_
                        refine g_ireturn (gd rfl) rfl (nb01 (in_w 0 1 (in_c 0 rfl) rfl)) (hp183 _ _ ?_)
                        show GG _ _ _ _ _ _ _ _ [.int (Int32.ofInt 0), .ref (A 109)] _ _ _
                        refine g_if_eq 189 193 (gd rfl) rfl rfl (fun c186 => ?_) (fun c186 => ?_)
                        · skip
                          refine g_iconst 3 194 (gd rfl) rfl rfl ?_
                          refine g_putI 197 (gd rfl) rfl rfl rfl rfl ?_
                          have hI194 := inv_sF (q := 109) (j := 28) hI75 rfl (in_w (-2147483648) 2147483647 (in_c 3 rfl) rfl)
                          refine g_aload_n 198 (gd rfl) rfl rfl ?_
                          refine g_getI 201 (gd rfl) rfl rfl rfl (fun z198 e198 => ?_)
                          have q198 : (Int32.ofInt 3) = z198 := (sF_get).trans e198.symm
                          subst q198
                          refine g_iconst 3 202 (gd rfl) rfl rfl ?_
                          refine g_cmp_ne 205 220 (gd rfl) rfl rfl (fun c202 => ?_) (fun c202 => ?_)
                          · skip
                            exact n_ne c202 (in_c 3 rfl) (in_c 3 rfl) rfl
                          · skip
                            refine g_iload_n 206 (gd rfl) rfl rfl ?_
                            refine g_bipush 59 208 (gd rfl) rfl rfl ?_
                            refine g_cmp_eq 211 220 (gd rfl) rfl rfl (fun c208 => ?_) (fun c208 => ?_)
                            · skip
                              exact n_eq c208 i183x9 (in_c 59 rfl) rfl
                            · skip
                              refine g_aload_n 212 (gd rfl) rfl rfl ?_
                              refine g_iconst 1 213 (gd rfl) rfl rfl ?_
                              refine g_aload_n 214 (gd rfl) rfl rfl ?_
                              refine g_getI 217 (gd rfl) rfl rfl rfl (fun z214 e214 => ?_)
                              have q214 : w0_109_27 = z214 := (sF_ne rfl (sF_ne rfl (sF_get))).trans e214.symm
                              subst q214
                              refine g_callv (X := _) (As := [.int (Int32.ofInt 1), .int w0_109_27]) (r := []) (b := A 109) (q := 109) 220 (gd rfl) rfl rfl rfl rfl rfl (ww_o rfl) (Nat.le_of_ble_eq_true rfl) (Nat.zero_le _) (Nat.zero_le _) (f_298 (by first | exact dq1 hd rfl | exact dq0 hd rfl | exact dq2 hd rfl | exact dq3 hd rfl | omega) hI194 (in_w 1 5 (in_c 1 rfl) rfl) rfl) (fun e u h => h) (fun v u h => ?_)
                              obtain ⟨s217, hI217, hF217, n217, rfl, rfl, p217⟩ := h
                              obtain ⟨z217a, e217⟩ : ∃ w, w = s217.2.2.1 109 23 := ⟨_, rfl⟩
                              have i217a := inv_F hI217 0 9 rfl e217
                              rw [← (show z217a = s217.2.2.1 109 23 from e217)] at n217
                              show GG _ _ _ _ _ _ _ _ [] _ _ _
                              refine g_aload_n 221 (gd rfl) rfl rfl ?_
                              refine g_dup 222 (gd rfl) rfl rfl ?_
                              refine g_getI 225 (gd rfl) rfl rfl rfl (fun z222 e222 => ?_)
                              have q222 : w0_109_27 = z222 := (fr_F (s := (sF (sF (sF sc0 109 29 w0_109_27) 109 30 z71) 109 28 (Int32.ofInt 3))) (sF_ne rfl (sF_ne rfl (sF_ne rfl (v0_109_27)))) hF217 rfl).trans e222.symm
                              subst q222
                              refine g_iconst 1 226 (gd rfl) rfl rfl ?_
                              refine g_iadd 227 (gd rfl) rfl (fun z226 e226 => ?_)
                              have i226 := in_add 1 1000 e226 i71 (in_c 1 rfl) rfl rfl
                              refine g_putI 230 (gd rfl) rfl rfl rfl rfl ?_
                              have hI227 := inv_sF (q := 109) (j := 27) hI217 rfl (in_w 0 1000 i226 rfl)
                              have n230 : ∃ k v, TKN (s.1 125) (s.2.2.1 109 22).toInt.toNat (s.2.2.1 109 27).toInt.toNat ((sF s217 109 27 z226).2.2.1 109 29).toInt.toNat ((sF s217 109 27 z226).2.2.1 109 27).toInt.toNat k v ∧ NTK s (sF s217 109 27 z226) k v := by exfalso; have a0 := oa5 ro_109_22 i71 ((in_c 0 rfl)) i183x9 i226; have a5 := t_add e226 i71 (in_c 1 rfl) rfl; have a6 := oa3 ((in_c 1 rfl)) i217a ((in_c 3 rfl)); have oc := oc_299_109; omega
                              have n230a : (z226).toInt ≤ (u_109_22).toInt := by have a0 := oa5 ro_109_22 i71 ((in_c 0 rfl)) i183x9 i226; have a5 := t_add e226 i71 (in_c 1 rfl) rfl; have a6 := oa3 ((in_c 1 rfl)) i217a ((in_c 3 rfl)); have oc := oc_299_109; omega
                              have n230b : ((sF s217 109 27 z226).2.2.1 109 27).toInt ≤ ((sF s217 109 27 z226).2.2.1 109 22).toInt := by have b0 : z226 = (sF s217 109 27 z226).2.2.1 109 27 := sF_get; have b1 : u_109_22 = (sF s217 109 27 z226).2.2.1 109 22 := sF_ne rfl (fr_F (s := (sF (sF (sF sc0 109 29 w0_109_27) 109 30 z71) 109 28 (Int32.ofInt 3))) (sF_ne rfl (sF_ne rfl (sF_ne rfl (fr_F e_109_22 hFc0 rfl)))) hF217 rfl); rw [← b0, ← b1]; exact n230a
                              have n230c : (u_109_27).toInt ≤ (z226).toInt := by have a0 := oa5 ro_109_22 i71 ((in_c 0 rfl)) i183x9 i226; have a5 := t_add e226 i71 (in_c 1 rfl) rfl; have a6 := oa3 ((in_c 1 rfl)) i217a ((in_c 3 rfl)); have oc := oc_299_109; omega
                              have n230d : (s.2.2.1 109 27).toInt ≤ ((sF s217 109 27 z226).2.2.1 109 27).toInt := by have b0 : z226 = (sF s217 109 27 z226).2.2.1 109 27 := sF_get; first | (rw [← b0, ← e_109_27]; exact n230c) | (rw [← b0]; exact n230c)
                              have n230e : ((Int32.ofInt 3)).toInt ≠ 0 → (u_109_27).toInt + 1 ≤ (z226).toInt := by have a0 := oa5 ro_109_22 i71 ((in_c 0 rfl)) i183x9 i226; have a5 := t_add e226 i71 (in_c 1 rfl) rfl; have a6 := oa3 ((in_c 1 rfl)) i217a ((in_c 3 rfl)); have oc := oc_299_109; omega
                              have n230f : ((sF s217 109 27 z226).2.2.1 109 28).toInt ≠ 0 → (s.2.2.1 109 27).toInt + 1 ≤ ((sF s217 109 27 z226).2.2.1 109 27).toInt := by have b0 : (Int32.ofInt 3) = (sF s217 109 27 z226).2.2.1 109 28 := sF_ne rfl (fr_F (s := (sF (sF (sF sc0 109 29 w0_109_27) 109 30 z71) 109 28 (Int32.ofInt 3))) (sF_get) hF217 rfl); have b1 : z226 = (sF s217 109 27 z226).2.2.1 109 27 := sF_get; first | (rw [← b0, ← b1, ← e_109_27]; exact n230e) | (rw [← b0, ← b1]; exact n230e)
                              have n230g : ((Int32.ofInt 3)).toInt = 1 → 97 ≤ (z71).toInt := by exact fun h => absurd h (by decide)
                              have n230h : ((sF s217 109 27 z226).2.2.1 109 28).toInt = 1 → 97 ≤ ((sF s217 109 27 z226).2.2.1 109 30).toInt := by have b0 : (Int32.ofInt 3) = (sF s217 109 27 z226).2.2.1 109 28 := sF_ne rfl (fr_F (s := (sF (sF (sF sc0 109 29 w0_109_27) 109 30 z71) 109 28 (Int32.ofInt 3))) (sF_get) hF217 rfl); have b1 : z71 = (sF s217 109 27 z226).2.2.1 109 30 := sF_ne rfl (fr_F (s := (sF (sF (sF sc0 109 29 w0_109_27) 109 30 z71) 109 28 (Int32.ofInt 3))) (sF_ne rfl (sF_get)) hF217 rfl); rw [← b0, ← b1]; exact n230g
                              have n230i : ((Int32.ofInt 3)).toInt = 1 → (z71).toInt ≤ 122 := by exact fun h => absurd h (by decide)
                              have n230j : ((sF s217 109 27 z226).2.2.1 109 28).toInt = 1 → ((sF s217 109 27 z226).2.2.1 109 30).toInt ≤ 122 := by have b0 : (Int32.ofInt 3) = (sF s217 109 27 z226).2.2.1 109 28 := sF_ne rfl (fr_F (s := (sF (sF (sF sc0 109 29 w0_109_27) 109 30 z71) 109 28 (Int32.ofInt 3))) (sF_get) hF217 rfl); have b1 : z71 = (sF s217 109 27 z226).2.2.1 109 30 := sF_ne rfl (fr_F (s := (sF (sF (sF sc0 109 29 w0_109_27) 109 30 z71) 109 28 (Int32.ofInt 3))) (sF_ne rfl (sF_get)) hF217 rfl); rw [← b0, ← b1]; exact n230i
                              exact g_return (gd rfl) rfl (hP _ _ ⟨(sF s217 109 27 z226), hI227, (fr_sF rfl (fr_tr rfl (fr_sF rfl (fr_sF rfl (fr_sF rfl hFc0))) hF217)), n230b, n230d, n230f, n230h, n230j, rfl, rfl, n230⟩)
                        · skip
                          exact zn_ne c186 (in_c 0 rfl) rfl
                      · skip
                        have i183x9 := r_le1 97 122 c183x9 i183x3 (in_c 122 rfl) rfl
                        refine g_iconst 1 13 (gd rfl) rfl rfl ?_
                        refine g_goto 17 (gd rfl) rfl ?_
                        refine g_ireturn (gd rfl) rfl (nb01 (in_w 0 1 (in_c 1 rfl) rfl)) (hp183 _ _ ?_)
                        show GG _ _ _ _ _ _ _ _ [.int (Int32.ofInt 1), .ref (A 109)] _ _ _
                        refine g_if_eq 189 193 (gd rfl) rfl rfl (fun c186 => ?_) (fun c186 => ?_)
                        · skip
                          exact zn_eq c186 (in_c 1 rfl) rfl
                        · skip
                          refine g_iconst 1 190 (gd rfl) rfl rfl ?_
                          refine g_goto 194 (gd rfl) rfl ?_
                          refine g_putI 197 (gd rfl) rfl rfl rfl rfl ?_
                          have hI194 := inv_sF (q := 109) (j := 28) hI75 rfl (in_w (-2147483648) 2147483647 (in_c 1 rfl) rfl)
                          refine g_aload_n 198 (gd rfl) rfl rfl ?_
                          refine g_getI 201 (gd rfl) rfl rfl rfl (fun z198 e198 => ?_)
                          have q198 : (Int32.ofInt 1) = z198 := (sF_get).trans e198.symm
                          subst q198
                          refine g_iconst 3 202 (gd rfl) rfl rfl ?_
                          refine g_cmp_ne 205 220 (gd rfl) rfl rfl (fun c202 => ?_) (fun c202 => ?_)
                          · skip
                            refine g_aload_n 221 (gd rfl) rfl rfl ?_
                            refine g_dup 222 (gd rfl) rfl rfl ?_
                            refine g_getI 225 (gd rfl) rfl rfl rfl (fun z222 e222 => ?_)
                            have q222 : w0_109_27 = z222 := (sF_ne rfl (sF_ne rfl (sF_ne rfl (v0_109_27)))).trans e222.symm
                            subst q222
                            refine g_iconst 1 226 (gd rfl) rfl rfl ?_
                            refine g_iadd 227 (gd rfl) rfl (fun z226 e226 => ?_)
                            have i226 := in_add 1 1000 e226 i71 (in_c 1 rfl) rfl rfl
                            refine g_putI 230 (gd rfl) rfl rfl rfl rfl ?_
                            have hI227 := inv_sF (q := 109) (j := 27) hI194 rfl (in_w 0 1000 i226 rfl)
                            have n230 : ∃ k v, TKN (s.1 125) (s.2.2.1 109 22).toInt.toNat (s.2.2.1 109 27).toInt.toNat ((sF (sF (sF (sF sc0 109 29 w0_109_27) 109 30 z71) 109 28 (Int32.ofInt 1)) 109 27 z226).2.2.1 109 29).toInt.toNat ((sF (sF (sF (sF sc0 109 29 w0_109_27) 109 30 z71) 109 28 (Int32.ofInt 1)) 109 27 z226).2.2.1 109 27).toInt.toNat k v ∧ NTK s (sF (sF (sF (sF sc0 109 29 w0_109_27) 109 30 z71) 109 28 (Int32.ofInt 1)) 109 27 z226) k v := by exfalso; have a0 := oa5 ro_109_22 i71 ((in_c 0 rfl)) i183x9 i226; have a5 := t_add e226 i71 (in_c 1 rfl) rfl; have a6 := in_u ((in_c 1 rfl)); have oc := oc_299_109; omega
                            have n230a : (z226).toInt ≤ (u_109_22).toInt := by have a0 := oa5 ro_109_22 i71 ((in_c 0 rfl)) i183x9 i226; have a5 := t_add e226 i71 (in_c 1 rfl) rfl; have a6 := in_u ((in_c 1 rfl)); have oc := oc_299_109; omega
                            have n230b : ((sF (sF (sF (sF sc0 109 29 w0_109_27) 109 30 z71) 109 28 (Int32.ofInt 1)) 109 27 z226).2.2.1 109 27).toInt ≤ ((sF (sF (sF (sF sc0 109 29 w0_109_27) 109 30 z71) 109 28 (Int32.ofInt 1)) 109 27 z226).2.2.1 109 22).toInt := by have b0 : z226 = (sF (sF (sF (sF sc0 109 29 w0_109_27) 109 30 z71) 109 28 (Int32.ofInt 1)) 109 27 z226).2.2.1 109 27 := sF_get; have b1 : u_109_22 = (sF (sF (sF (sF sc0 109 29 w0_109_27) 109 30 z71) 109 28 (Int32.ofInt 1)) 109 27 z226).2.2.1 109 22 := sF_ne rfl (sF_ne rfl (sF_ne rfl (sF_ne rfl (fr_F e_109_22 hFc0 rfl)))); rw [← b0, ← b1]; exact n230a
                            have n230c : (u_109_27).toInt ≤ (z226).toInt := by have a0 := oa5 ro_109_22 i71 ((in_c 0 rfl)) i183x9 i226; have a5 := t_add e226 i71 (in_c 1 rfl) rfl; have a6 := in_u ((in_c 1 rfl)); have oc := oc_299_109; omega
                            have n230d : (s.2.2.1 109 27).toInt ≤ ((sF (sF (sF (sF sc0 109 29 w0_109_27) 109 30 z71) 109 28 (Int32.ofInt 1)) 109 27 z226).2.2.1 109 27).toInt := by have b0 : z226 = (sF (sF (sF (sF sc0 109 29 w0_109_27) 109 30 z71) 109 28 (Int32.ofInt 1)) 109 27 z226).2.2.1 109 27 := sF_get; first | (rw [← b0, ← e_109_27]; exact n230c) | (rw [← b0]; exact n230c)
                            have n230e : ((Int32.ofInt 1)).toInt ≠ 0 → (u_109_27).toInt + 1 ≤ (z226).toInt := by have a0 := oa5 ro_109_22 i71 ((in_c 0 rfl)) i183x9 i226; have a5 := t_add e226 i71 (in_c 1 rfl) rfl; have a6 := in_u ((in_c 1 rfl)); have oc := oc_299_109; omega
                            have n230f : ((sF (sF (sF (sF sc0 109 29 w0_109_27) 109 30 z71) 109 28 (Int32.ofInt 1)) 109 27 z226).2.2.1 109 28).toInt ≠ 0 → (s.2.2.1 109 27).toInt + 1 ≤ ((sF (sF (sF (sF sc0 109 29 w0_109_27) 109 30 z71) 109 28 (Int32.ofInt 1)) 109 27 z226).2.2.1 109 27).toInt := by have b0 : (Int32.ofInt 1) = (sF (sF (sF (sF sc0 109 29 w0_109_27) 109 30 z71) 109 28 (Int32.ofInt 1)) 109 27 z226).2.2.1 109 28 := sF_ne rfl (sF_get); have b1 : z226 = (sF (sF (sF (sF sc0 109 29 w0_109_27) 109 30 z71) 109 28 (Int32.ofInt 1)) 109 27 z226).2.2.1 109 27 := sF_get; first | (rw [← b0, ← b1, ← e_109_27]; exact n230e) | (rw [← b0, ← b1]; exact n230e)
                            have n230g : ((Int32.ofInt 1)).toInt = 1 → 97 ≤ (z71).toInt := by have a0 := oa5 ro_109_22 i71 ((in_c 0 rfl)) i183x9 i226; have a5 := t_add e226 i71 (in_c 1 rfl) rfl; have a6 := in_u ((in_c 1 rfl)); have oc := oc_299_109; omega
                            have n230h : ((sF (sF (sF (sF sc0 109 29 w0_109_27) 109 30 z71) 109 28 (Int32.ofInt 1)) 109 27 z226).2.2.1 109 28).toInt = 1 → 97 ≤ ((sF (sF (sF (sF sc0 109 29 w0_109_27) 109 30 z71) 109 28 (Int32.ofInt 1)) 109 27 z226).2.2.1 109 30).toInt := by have b0 : (Int32.ofInt 1) = (sF (sF (sF (sF sc0 109 29 w0_109_27) 109 30 z71) 109 28 (Int32.ofInt 1)) 109 27 z226).2.2.1 109 28 := sF_ne rfl (sF_get); have b1 : z71 = (sF (sF (sF (sF sc0 109 29 w0_109_27) 109 30 z71) 109 28 (Int32.ofInt 1)) 109 27 z226).2.2.1 109 30 := sF_ne rfl (sF_ne rfl (sF_get)); rw [← b0, ← b1]; exact n230g
                            have n230i : ((Int32.ofInt 1)).toInt = 1 → (z71).toInt ≤ 122 := by have a0 := oa5 ro_109_22 i71 ((in_c 0 rfl)) i183x9 i226; have a5 := t_add e226 i71 (in_c 1 rfl) rfl; have a6 := in_u ((in_c 1 rfl)); have oc := oc_299_109; omega
                            have n230j : ((sF (sF (sF (sF sc0 109 29 w0_109_27) 109 30 z71) 109 28 (Int32.ofInt 1)) 109 27 z226).2.2.1 109 28).toInt = 1 → ((sF (sF (sF (sF sc0 109 29 w0_109_27) 109 30 z71) 109 28 (Int32.ofInt 1)) 109 27 z226).2.2.1 109 30).toInt ≤ 122 := by have b0 : (Int32.ofInt 1) = (sF (sF (sF (sF sc0 109 29 w0_109_27) 109 30 z71) 109 28 (Int32.ofInt 1)) 109 27 z226).2.2.1 109 28 := sF_ne rfl (sF_get); have b1 : z71 = (sF (sF (sF (sF sc0 109 29 w0_109_27) 109 30 z71) 109 28 (Int32.ofInt 1)) 109 27 z226).2.2.1 109 30 := sF_ne rfl (sF_ne rfl (sF_get)); rw [← b0, ← b1]; exact n230i
                            exact g_return (gd rfl) rfl (hP _ _ ⟨(sF (sF (sF (sF sc0 109 29 w0_109_27) 109 30 z71) 109 28 (Int32.ofInt 1)) 109 27 z226), hI227, (fr_sF rfl (fr_sF rfl (fr_sF rfl (fr_sF rfl hFc0)))), n230b, n230d, n230f, n230h, n230j, rfl, rfl, n230⟩)
                          · skip
                            exact n_eq c202 (in_c 1 rfl) (in_c 3 rfl) rfl
                  · skip
                    exact zn_ne c128 (in_c 0 rfl) rfl
              · skip
                have i121x9 := r_le1 48 57 c121x9 i121x3 (in_c 57 rfl) rfl
                refine g_iconst 1 13 (gd rfl) rfl rfl ?_
                refine g_goto 17 (gd rfl) rfl ?_
                refine g_ireturn (gd rfl) rfl (nb01 (in_w 0 1 (in_c 1 rfl) rfl)) (hp121 _ _ ?_)
                show GG _ _ _ _ _ _ _ _ [.int (Int32.ofInt 1)] _ _ _
                refine g_if_ne 127 131 (gd rfl) rfl rfl (fun c124 => ?_) (fun c124 => ?_)
                · skip
                  refine g_aload_n 132 (gd rfl) rfl rfl ?_
                  refine g_iconst 2 133 (gd rfl) rfl rfl ?_
                  refine g_putI 136 (gd rfl) rfl rfl rfl rfl ?_
                  have hI133 := inv_sF (q := 109) (j := 28) hI75 rfl (in_w (-2147483648) 2147483647 (in_c 2 rfl) rfl)
                  refine g_aload_n 137 (gd rfl) rfl rfl ?_
                  refine g_dup 138 (gd rfl) rfl rfl ?_
                  refine g_getI 141 (gd rfl) rfl rfl rfl (fun z138 e138 => ?_)
                  have q138 : w0_109_27 = z138 := (sF_ne rfl (sF_ne rfl (sF_ne rfl (v0_109_27)))).trans e138.symm
                  subst q138
                  refine g_iload_n 142 (gd rfl) rfl rfl ?_
                  refine g_if_eq 145 149 (gd rfl) rfl rfl (fun c142 => ?_) (fun c142 => ?_)
                  · skip
                    refine g_iconst 0 150 (gd rfl) rfl rfl ?_
                    refine g_iadd 151 (gd rfl) rfl (fun z150 e150 => ?_)
                    have i150 := in_add 0 999 e150 i71 (in_c 0 rfl) rfl rfl
                    refine g_putI 154 (gd rfl) rfl rfl rfl rfl ?_
                    have hI151 := inv_sF (q := 109) (j := 27) hI133 rfl (in_w 0 1000 i150 rfl)
                    refine g_aload_n 155 (gd rfl) rfl rfl ?_
                    refine g_bipush 7 157 (gd rfl) rfl rfl ?_
                    have hA9 : _ = (sF (sF (sF (sF sc0 109 29 w0_109_27) 109 30 z71) 109 28 (Int32.ofInt 2)) 109 27 z150).2.2.1 109 27 := (show z150 = (sF (sF (sF (sF sc0 109 29 w0_109_27) 109 30 z71) 109 28 (Int32.ofInt 2)) 109 27 z150).2.2.1 109 27 from sF_get)
                    have hL9 : u_109_22 = (sF (sF (sF (sF sc0 109 29 w0_109_27) 109 30 z71) 109 28 (Int32.ofInt 2)) 109 27 z150).2.2.1 109 22 := (show u_109_22 = (sF (sF (sF (sF sc0 109 29 w0_109_27) 109 30 z71) 109 28 (Int32.ofInt 2)) 109 27 z150).2.2.1 109 22 from sF_ne rfl (sF_ne rfl (sF_ne rfl (sF_ne rfl (fr_F e_109_22 hFc0 rfl)))))
                    have hX9 : (sF (sF (sF (sF sc0 109 29 w0_109_27) 109 30 z71) 109 28 (Int32.ofInt 2)) 109 27 z150).1 125 = s.1 125 := hFc0.1 125 rfl
                    have hP9 : _ = (sF (sF (sF (sF sc0 109 29 w0_109_27) 109 30 z71) 109 28 (Int32.ofInt 2)) 109 27 z150).2.2.1 109 29 := (show w0_109_27 = (sF (sF (sF (sF sc0 109 29 w0_109_27) 109 30 z71) 109 28 (Int32.ofInt 2)) 109 27 z150).2.2.1 109 29 from sF_ne rfl (sF_ne rfl (sF_ne rfl (sF_get))))
                    have hF9 : FSM s (sF (sF (sF (sF sc0 109 29 w0_109_27) 109 30 z71) 109 28 (Int32.ofInt 2)) 109 27 z150) := g0_1
                    have v157 : z150 = (sF (sF (sF (sF sc0 109 29 w0_109_27) 109 30 z71) 109 28 (Int32.ofInt 2)) 109 27 z150).2.2.1 109 27 := sF_get
                    have v157a : u_109_22 = (sF (sF (sF (sF sc0 109 29 w0_109_27) 109 30 z71) 109 28 (Int32.ofInt 2)) 109 27 z150).2.2.1 109 22 := sF_ne rfl (sF_ne rfl (sF_ne rfl (sF_ne rfl (fr_F e_109_22 hFc0 rfl))))
                    have n157 : (z150).toInt < (u_109_22).toInt := by have a0 := oa5 ro_109_22 i71 ((in_c 0 rfl)) i121x9 i150; have a5 := t_add e150 i71 (in_c 0 rfl) rfl; have a6 := in_u ((in_c 2 rfl)); have oc := oc_299_109; omega
                    have p157 : 48 ≤ ((sF (sF (sF (sF sc0 109 29 w0_109_27) 109 30 z71) 109 28 (Int32.ofInt 2)) 109 27 z150).1 125 ((sF (sF (sF (sF sc0 109 29 w0_109_27) 109 30 z71) 109 28 (Int32.ofInt 2)) 109 27 z150).2.2.1 109 27).toNatClampNeg).toInt ∧ ((sF (sF (sF (sF sc0 109 29 w0_109_27) 109 30 z71) 109 28 (Int32.ofInt 2)) 109 27 z150).1 125 ((sF (sF (sF (sF sc0 109 29 w0_109_27) 109 30 z71) 109 28 (Int32.ofInt 2)) 109 27 z150).2.2.1 109 27).toNatClampNeg).toInt ≤ 57 := by first | (have hz : z107 = (sF (sF (sF (sF sc0 109 29 w0_109_27) 109 30 z71) 109 28 (Int32.ofInt 2)) 109 27 z150).1 125 ((sF (sF (sF (sF sc0 109 29 w0_109_27) 109 30 z71) 109 28 (Int32.ofInt 2)) 109 27 z150).2.2.1 109 27).toNatClampNeg := (by rw [← (show z150 = (sF (sF (sF (sF sc0 109 29 w0_109_27) 109 30 z71) 109 28 (Int32.ofInt 2)) 109 27 z150).2.2.1 109 27 from sF_get), e150, ← e106]; exact e107); rw [← hz]; exact i108x9) | (have hz : z19 = (sF (sF (sF (sF sc0 109 29 w0_109_27) 109 30 z71) 109 28 (Int32.ofInt 2)) 109 27 z150).1 125 ((sF (sF (sF (sF sc0 109 29 w0_109_27) 109 30 z71) 109 28 (Int32.ofInt 2)) 109 27 z150).2.2.1 109 27).toNatClampNeg := (by rw [← (show z150 = (sF (sF (sF (sF sc0 109 29 w0_109_27) 109 30 z71) 109 28 (Int32.ofInt 2)) 109 27 z150).2.2.1 109 27 from sF_get), e150, show w0_109_27 + Int32.ofInt 0 = w0_109_27 from Int32.add_zero _]; exact e19); rw [← hz]; exact i121x9) | (have hz : z71 = (sF (sF (sF (sF sc0 109 29 w0_109_27) 109 30 z71) 109 28 (Int32.ofInt 2)) 109 27 z150).1 125 ((sF (sF (sF (sF sc0 109 29 w0_109_27) 109 30 z71) 109 28 (Int32.ofInt 2)) 109 27 z150).2.2.1 109 27).toNatClampNeg := (by rw [← (show z150 = (sF (sF (sF (sF sc0 109 29 w0_109_27) 109 30 z71) 109 28 (Int32.ofInt 2)) 109 27 z150).2.2.1 109 27 from sF_get), e150, show w0_109_27 + Int32.ofInt 0 = w0_109_27 from Int32.add_zero _]; exact e71); rw [← hz]; exact i121x9)
                    refine g_callv (X := _) (As := [.int (Int32.ofInt 7)]) (r := []) (b := A 109) (q := 109) 160 (gd rfl) rfl rfl rfl rfl rfl (ww_o rfl) (Nat.le_of_ble_eq_true rfl) (Nat.zero_le _) (Nat.zero_le _) (f_300 (by first | exact dq1 hd rfl | exact dq0 hd rfl | exact dq2 hd rfl | exact dq3 hd rfl | omega) hI151 (in_w 7 7 (in_c 7 rfl) rfl) v157 v157a n157 p157) (fun e u h => h) (fun v u h => ?_)
                    obtain ⟨s157, hI157, hF157, n157a, n157b, rfl, rfl, p157a⟩ := h
                    obtain ⟨z157a, e157⟩ : ∃ w, w = s157.2.2.1 109 27 := ⟨_, rfl⟩
                    have i157a := inv_F hI157 0 1000 rfl e157
                    rw [← (show z157a = s157.2.2.1 109 27 from e157)] at n157a
                    rw [← (show u_109_22 = s157.2.2.1 109 22 from fr_F (s := (sF (sF (sF (sF sc0 109 29 w0_109_27) 109 30 z71) 109 28 (Int32.ofInt 2)) 109 27 z150)) (sF_ne rfl (sF_ne rfl (sF_ne rfl (sF_ne rfl (fr_F e_109_22 hFc0 rfl))))) hF157 rfl)] at n157a
                    rw [← (show z150 = (sF (sF (sF (sF sc0 109 29 w0_109_27) 109 30 z71) 109 28 (Int32.ofInt 2)) 109 27 z150).2.2.1 109 27 from sF_get)] at n157b
                    rw [← (show z157a = s157.2.2.1 109 27 from e157)] at n157b
                    show GG _ _ _ _ _ _ _ _ [] _ _ _
                    refine g_aload_n 161 (gd rfl) rfl rfl ?_
                    refine g_iload_n 162 (gd rfl) rfl rfl ?_
                    refine g_if_eq 165 173 (gd rfl) rfl rfl (fun c162 => ?_) (fun c162 => ?_)
                    · skip
                      refine g_aload_n 174 (gd rfl) rfl rfl ?_
                      refine g_getL 177 (gd rfl) rfl rfl rfl (fun z174 e174 => ?_)
                      refine g_putL 180 (gd rfl) rfl rfl rfl rfl ?_
                      have hI177 := inv_sG (q := 109) (j := 31) (x := z174) hI157 rfl (l_rng z174)
                      have n180 : ∃ k v, TKN (s.1 125) (s.2.2.1 109 22).toInt.toNat (s.2.2.1 109 27).toInt.toNat ((sG s157 109 31 z174).2.2.1 109 29).toInt.toNat ((sG s157 109 31 z174).2.2.1 109 27).toInt.toNat k v ∧ NTK s (sG s157 109 31 z174) k v := by exfalso; have a0 := oa7 ro_109_22 i71 ((in_c 0 rfl)) i121x9 i157a ((in_c 2 rfl)) i150; have a7 := t_add e150 i71 (in_c 0 rfl) rfl; have oc := oc_299_109; omega
                      have n180a : (z157a).toInt ≤ (u_109_22).toInt := by have a0 := oa7 ro_109_22 i71 ((in_c 0 rfl)) i121x9 i157a ((in_c 2 rfl)) i150; have a7 := t_add e150 i71 (in_c 0 rfl) rfl; have oc := oc_299_109; omega
                      have n180b : ((sG s157 109 31 z174).2.2.1 109 27).toInt ≤ ((sG s157 109 31 z174).2.2.1 109 22).toInt := by have b0 : z157a = (sG s157 109 31 z174).2.2.1 109 27 := sG_F (e157); have b1 : u_109_22 = (sG s157 109 31 z174).2.2.1 109 22 := sG_F (fr_F (s := (sF (sF (sF (sF sc0 109 29 w0_109_27) 109 30 z71) 109 28 (Int32.ofInt 2)) 109 27 z150)) (sF_ne rfl (sF_ne rfl (sF_ne rfl (sF_ne rfl (fr_F e_109_22 hFc0 rfl))))) hF157 rfl); rw [← b0, ← b1]; exact n180a
                      have n180c : (u_109_27).toInt ≤ (z157a).toInt := by have a0 := oa7 ro_109_22 i71 ((in_c 0 rfl)) i121x9 i157a ((in_c 2 rfl)) i150; have a7 := t_add e150 i71 (in_c 0 rfl) rfl; have oc := oc_299_109; omega
                      have n180d : (s.2.2.1 109 27).toInt ≤ ((sG s157 109 31 z174).2.2.1 109 27).toInt := by have b0 : z157a = (sG s157 109 31 z174).2.2.1 109 27 := sG_F (e157); first | (rw [← b0, ← e_109_27]; exact n180c) | (rw [← b0]; exact n180c)
                      have n180e : ((Int32.ofInt 2)).toInt ≠ 0 → (u_109_27).toInt + 1 ≤ (z157a).toInt := by have a0 := oa7 ro_109_22 i71 ((in_c 0 rfl)) i121x9 i157a ((in_c 2 rfl)) i150; have a7 := t_add e150 i71 (in_c 0 rfl) rfl; have oc := oc_299_109; omega
                      have n180f : ((sG s157 109 31 z174).2.2.1 109 28).toInt ≠ 0 → (s.2.2.1 109 27).toInt + 1 ≤ ((sG s157 109 31 z174).2.2.1 109 27).toInt := by have b0 : (Int32.ofInt 2) = (sG s157 109 31 z174).2.2.1 109 28 := sG_F (fr_F (s := (sF (sF (sF (sF sc0 109 29 w0_109_27) 109 30 z71) 109 28 (Int32.ofInt 2)) 109 27 z150)) (sF_ne rfl (sF_get)) hF157 rfl); have b1 : z157a = (sG s157 109 31 z174).2.2.1 109 27 := sG_F (e157); first | (rw [← b0, ← b1, ← e_109_27]; exact n180e) | (rw [← b0, ← b1]; exact n180e)
                      have n180g : ((Int32.ofInt 2)).toInt = 1 → 97 ≤ (z71).toInt := by exact fun h => absurd h (by decide)
                      have n180h : ((sG s157 109 31 z174).2.2.1 109 28).toInt = 1 → 97 ≤ ((sG s157 109 31 z174).2.2.1 109 30).toInt := by have b0 : (Int32.ofInt 2) = (sG s157 109 31 z174).2.2.1 109 28 := sG_F (fr_F (s := (sF (sF (sF (sF sc0 109 29 w0_109_27) 109 30 z71) 109 28 (Int32.ofInt 2)) 109 27 z150)) (sF_ne rfl (sF_get)) hF157 rfl); have b1 : z71 = (sG s157 109 31 z174).2.2.1 109 30 := sG_F (fr_F (s := (sF (sF (sF (sF sc0 109 29 w0_109_27) 109 30 z71) 109 28 (Int32.ofInt 2)) 109 27 z150)) (sF_ne rfl (sF_ne rfl (sF_get))) hF157 rfl); rw [← b0, ← b1]; exact n180g
                      have n180i : ((Int32.ofInt 2)).toInt = 1 → (z71).toInt ≤ 122 := by exact fun h => absurd h (by decide)
                      have n180j : ((sG s157 109 31 z174).2.2.1 109 28).toInt = 1 → ((sG s157 109 31 z174).2.2.1 109 30).toInt ≤ 122 := by have b0 : (Int32.ofInt 2) = (sG s157 109 31 z174).2.2.1 109 28 := sG_F (fr_F (s := (sF (sF (sF (sF sc0 109 29 w0_109_27) 109 30 z71) 109 28 (Int32.ofInt 2)) 109 27 z150)) (sF_ne rfl (sF_get)) hF157 rfl); have b1 : z71 = (sG s157 109 31 z174).2.2.1 109 30 := sG_F (fr_F (s := (sF (sF (sF (sF sc0 109 29 w0_109_27) 109 30 z71) 109 28 (Int32.ofInt 2)) 109 27 z150)) (sF_ne rfl (sF_ne rfl (sF_get))) hF157 rfl); rw [← b0, ← b1]; exact n180i
                      exact g_return (gd rfl) rfl (hP _ _ ⟨(sG s157 109 31 z174), hI177, (fr_sG rfl (fr_tr rfl (fr_sF rfl (fr_sF rfl (fr_sF rfl (fr_sF rfl hFc0)))) hF157)), n180b, n180d, n180f, n180h, n180j, rfl, rfl, n180⟩)
                    · skip
                      exact zn_ne c162 (in_c 0 rfl) rfl
                  · skip
                    exact zn_ne c142 (in_c 0 rfl) rfl
                · skip
                  exact zn_eq c124 (in_c 1 rfl) rfl
          · skip
            have i81 := r_eq1 45 45 c81 i71a (in_c 45 rfl) rfl
            refine g_aload_n 85 (gd rfl) rfl rfl ?_
            refine g_getI 88 (gd rfl) rfl rfl rfl (fun z85 e85 => ?_)
            have q85 : w0_109_27 = z85 := (sF_ne rfl (sF_ne rfl (v0_109_27))).trans e85.symm
            subst q85
            refine g_iconst 1 89 (gd rfl) rfl rfl ?_
            refine g_iadd 90 (gd rfl) rfl (fun z89 e89 => ?_)
            have i89 := in_add 1 1000 e89 i71 (in_c 1 rfl) rfl rfl
            refine g_aload_n 91 (gd rfl) rfl rfl ?_
            refine g_getI 94 (gd rfl) rfl rfl rfl (fun z91 e91 => ?_)
            have q91 : u_109_22 = z91 := (sF_ne rfl (sF_ne rfl (fr_F e_109_22 hFc0 rfl))).trans e91.symm
            subst q91
            refine g_cmp_ge 97 118 (gd rfl) rfl rfl (fun c94 => ?_) (fun c94 => ?_)
            · skip
              refine g_iconst 0 119 (gd rfl) rfl rfl ?_
              refine g_istore_n 120 (gd rfl) rfl (Nat.le_of_ble_eq_true rfl) ?_
              refine g_iload_n 121 (gd rfl) rfl rfl ?_
              refine g_calls (As := [.int z71]) (r := []) 124 (gd rfl) rfl rfl rfl rfl rfl (Nat.le_of_ble_eq_true rfl) (mc := 0) (ms := 0) (Nat.zero_le _) (Nat.zero_le _) (P := fun v u => _) ?_ (fun v u h => h)
              intro po121 xx121 hp121 hx121
              refine g_enter2 (k := 297) (N := 300) (by first | exact dq1 hd rfl | exact dq0 hd rfl | exact dq2 hd rfl | exact dq3 hd rfl | omega) rfl (Nat.le_of_ble_eq_true rfl) ?_
              refine g_iload_n 1 (gd rfl) rfl rfl ?_
              refine g_bipush 48 3 (gd rfl) rfl rfl ?_
              refine g_cmp_lt 6 16 (gd rfl) rfl rfl (fun c121x3 => ?_) (fun c121x3 => ?_)
              · skip
                refine g_iconst 0 17 (gd rfl) rfl rfl ?_
                refine g_ireturn (gd rfl) rfl (nb01 (in_w 0 1 (in_c 0 rfl) rfl)) (hp121 _ _ ?_)
                show GG _ _ _ _ _ _ _ _ [.int (Int32.ofInt 0)] _ _ _
                refine g_if_ne 127 131 (gd rfl) rfl rfl (fun c124 => ?_) (fun c124 => ?_)
                · skip
                  exact zn_ne c124 (in_c 0 rfl) rfl
                · skip
                  refine g_iload_n 128 (gd rfl) rfl rfl ?_
                  refine g_if_eq 131 181 (gd rfl) rfl rfl (fun c128 => ?_) (fun c128 => ?_)
                  · skip
                    refine g_aload_n 182 (gd rfl) rfl rfl ?_
                    refine g_iload_n 183 (gd rfl) rfl rfl ?_
                    refine g_calls (As := [.int z71]) (r := [.ref (A 109)]) 186 (gd rfl) rfl rfl rfl rfl rfl (Nat.le_of_ble_eq_true rfl) (mc := 0) (ms := 0) (Nat.zero_le _) (Nat.zero_le _) (P := fun v u => _) ?_ (fun v u h => h)
                    intro po183 xx183 hp183 hx183
                    refine g_enter2 (k := 296) (N := 300) (by first | exact dq1 hd rfl | exact dq0 hd rfl | exact dq2 hd rfl | exact dq3 hd rfl | omega) rfl (Nat.le_of_ble_eq_true rfl) ?_
                    refine g_iload_n 1 (gd rfl) rfl rfl ?_
                    refine g_bipush 97 3 (gd rfl) rfl rfl ?_
                    refine g_cmp_lt 6 16 (gd rfl) rfl rfl (fun c183x3 => ?_) (fun c183x3 => ?_)
                    · skip
                      refine g_iconst 0 17 (gd rfl) rfl rfl ?_
                      refine g_ireturn (gd rfl) rfl (nb01 (in_w 0 1 (in_c 0 rfl) rfl)) (hp183 _ _ ?_)
                      show GG _ _ _ _ _ _ _ _ [.int (Int32.ofInt 0), .ref (A 109)] _ _ _
                      refine g_if_eq 189 193 (gd rfl) rfl rfl (fun c186 => ?_) (fun c186 => ?_)
                      · skip
                        refine g_iconst 3 194 (gd rfl) rfl rfl ?_
                        refine g_putI 197 (gd rfl) rfl rfl rfl rfl ?_
                        have hI194 := inv_sF (q := 109) (j := 28) hI75 rfl (in_w (-2147483648) 2147483647 (in_c 3 rfl) rfl)
                        refine g_aload_n 198 (gd rfl) rfl rfl ?_
                        refine g_getI 201 (gd rfl) rfl rfl rfl (fun z198 e198 => ?_)
                        have q198 : (Int32.ofInt 3) = z198 := (sF_get).trans e198.symm
                        subst q198
                        refine g_iconst 3 202 (gd rfl) rfl rfl ?_
                        refine g_cmp_ne 205 220 (gd rfl) rfl rfl (fun c202 => ?_) (fun c202 => ?_)
                        · skip
                          exact n_ne c202 (in_c 3 rfl) (in_c 3 rfl) rfl
                        · skip
                          refine g_iload_n 206 (gd rfl) rfl rfl ?_
                          refine g_bipush 59 208 (gd rfl) rfl rfl ?_
                          refine g_cmp_eq 211 220 (gd rfl) rfl rfl (fun c208 => ?_) (fun c208 => ?_)
                          · skip
                            exact n_eq c208 i81 (in_c 59 rfl) rfl
                          · skip
                            refine g_aload_n 212 (gd rfl) rfl rfl ?_
                            refine g_iconst 1 213 (gd rfl) rfl rfl ?_
                            refine g_aload_n 214 (gd rfl) rfl rfl ?_
                            refine g_getI 217 (gd rfl) rfl rfl rfl (fun z214 e214 => ?_)
                            have q214 : w0_109_27 = z214 := (sF_ne rfl (sF_ne rfl (sF_get))).trans e214.symm
                            subst q214
                            refine g_callv (X := _) (As := [.int (Int32.ofInt 1), .int w0_109_27]) (r := []) (b := A 109) (q := 109) 220 (gd rfl) rfl rfl rfl rfl rfl (ww_o rfl) (Nat.le_of_ble_eq_true rfl) (Nat.zero_le _) (Nat.zero_le _) (f_298 (by first | exact dq1 hd rfl | exact dq0 hd rfl | exact dq2 hd rfl | exact dq3 hd rfl | omega) hI194 (in_w 1 5 (in_c 1 rfl) rfl) rfl) (fun e u h => h) (fun v u h => ?_)
                            obtain ⟨s217, hI217, hF217, n217, rfl, rfl, p217⟩ := h
                            obtain ⟨z217a, e217⟩ : ∃ w, w = s217.2.2.1 109 23 := ⟨_, rfl⟩
                            have i217a := inv_F hI217 0 9 rfl e217
                            rw [← (show z217a = s217.2.2.1 109 23 from e217)] at n217
                            show GG _ _ _ _ _ _ _ _ [] _ _ _
                            refine g_aload_n 221 (gd rfl) rfl rfl ?_
                            refine g_dup 222 (gd rfl) rfl rfl ?_
                            refine g_getI 225 (gd rfl) rfl rfl rfl (fun z222 e222 => ?_)
                            have q222 : w0_109_27 = z222 := (fr_F (s := (sF (sF (sF sc0 109 29 w0_109_27) 109 30 z71) 109 28 (Int32.ofInt 3))) (sF_ne rfl (sF_ne rfl (sF_ne rfl (v0_109_27)))) hF217 rfl).trans e222.symm
                            subst q222
                            refine g_iconst 1 226 (gd rfl) rfl rfl ?_
                            refine g_iadd 227 (gd rfl) rfl (fun z226 e226 => ?_)
                            have i226 := in_add 1 1000 e226 i71 (in_c 1 rfl) rfl rfl
                            refine g_putI 230 (gd rfl) rfl rfl rfl rfl ?_
                            have hI227 := inv_sF (q := 109) (j := 27) hI217 rfl (in_w 0 1000 i226 rfl)
                            have n230 : ∃ k v, TKN (s.1 125) (s.2.2.1 109 22).toInt.toNat (s.2.2.1 109 27).toInt.toNat ((sF s217 109 27 z226).2.2.1 109 29).toInt.toNat ((sF s217 109 27 z226).2.2.1 109 27).toInt.toNat k v ∧ NTK s (sF s217 109 27 z226) k v := by exfalso; have a0 := oa5 ro_109_22 i71 ((in_c 0 rfl)) i81 i226; have a5 := t_add e226 i71 (in_c 1 rfl) rfl; have a6 := oa4 ((in_c 1 rfl)) i217a ((in_c 3 rfl)) i89; have a10 := t_add e89 i71 (in_c 1 rfl) rfl; have oc := oc_299_109; omega
                            have n230a : (z226).toInt ≤ (u_109_22).toInt := by have a0 := oa5 ro_109_22 i71 ((in_c 0 rfl)) i81 i226; have a5 := t_add e226 i71 (in_c 1 rfl) rfl; have a6 := oa4 ((in_c 1 rfl)) i217a ((in_c 3 rfl)) i89; have a10 := t_add e89 i71 (in_c 1 rfl) rfl; have oc := oc_299_109; omega
                            have n230b : ((sF s217 109 27 z226).2.2.1 109 27).toInt ≤ ((sF s217 109 27 z226).2.2.1 109 22).toInt := by have b0 : z226 = (sF s217 109 27 z226).2.2.1 109 27 := sF_get; have b1 : u_109_22 = (sF s217 109 27 z226).2.2.1 109 22 := sF_ne rfl (fr_F (s := (sF (sF (sF sc0 109 29 w0_109_27) 109 30 z71) 109 28 (Int32.ofInt 3))) (sF_ne rfl (sF_ne rfl (sF_ne rfl (fr_F e_109_22 hFc0 rfl)))) hF217 rfl); rw [← b0, ← b1]; exact n230a
                            have n230c : (u_109_27).toInt ≤ (z226).toInt := by have a0 := oa5 ro_109_22 i71 ((in_c 0 rfl)) i81 i226; have a5 := t_add e226 i71 (in_c 1 rfl) rfl; have a6 := oa4 ((in_c 1 rfl)) i217a ((in_c 3 rfl)) i89; have a10 := t_add e89 i71 (in_c 1 rfl) rfl; have oc := oc_299_109; omega
                            have n230d : (s.2.2.1 109 27).toInt ≤ ((sF s217 109 27 z226).2.2.1 109 27).toInt := by have b0 : z226 = (sF s217 109 27 z226).2.2.1 109 27 := sF_get; first | (rw [← b0, ← e_109_27]; exact n230c) | (rw [← b0]; exact n230c)
                            have n230e : ((Int32.ofInt 3)).toInt ≠ 0 → (u_109_27).toInt + 1 ≤ (z226).toInt := by have a0 := oa5 ro_109_22 i71 ((in_c 0 rfl)) i81 i226; have a5 := t_add e226 i71 (in_c 1 rfl) rfl; have a6 := oa4 ((in_c 1 rfl)) i217a ((in_c 3 rfl)) i89; have a10 := t_add e89 i71 (in_c 1 rfl) rfl; have oc := oc_299_109; omega
                            have n230f : ((sF s217 109 27 z226).2.2.1 109 28).toInt ≠ 0 → (s.2.2.1 109 27).toInt + 1 ≤ ((sF s217 109 27 z226).2.2.1 109 27).toInt := by have b0 : (Int32.ofInt 3) = (sF s217 109 27 z226).2.2.1 109 28 := sF_ne rfl (fr_F (s := (sF (sF (sF sc0 109 29 w0_109_27) 109 30 z71) 109 28 (Int32.ofInt 3))) (sF_get) hF217 rfl); have b1 : z226 = (sF s217 109 27 z226).2.2.1 109 27 := sF_get; first | (rw [← b0, ← b1, ← e_109_27]; exact n230e) | (rw [← b0, ← b1]; exact n230e)
                            have n230g : ((Int32.ofInt 3)).toInt = 1 → 97 ≤ (z71).toInt := by exact fun h => absurd h (by decide)
                            have n230h : ((sF s217 109 27 z226).2.2.1 109 28).toInt = 1 → 97 ≤ ((sF s217 109 27 z226).2.2.1 109 30).toInt := by have b0 : (Int32.ofInt 3) = (sF s217 109 27 z226).2.2.1 109 28 := sF_ne rfl (fr_F (s := (sF (sF (sF sc0 109 29 w0_109_27) 109 30 z71) 109 28 (Int32.ofInt 3))) (sF_get) hF217 rfl); have b1 : z71 = (sF s217 109 27 z226).2.2.1 109 30 := sF_ne rfl (fr_F (s := (sF (sF (sF sc0 109 29 w0_109_27) 109 30 z71) 109 28 (Int32.ofInt 3))) (sF_ne rfl (sF_get)) hF217 rfl); rw [← b0, ← b1]; exact n230g
                            have n230i : ((Int32.ofInt 3)).toInt = 1 → (z71).toInt ≤ 122 := by exact fun h => absurd h (by decide)
                            have n230j : ((sF s217 109 27 z226).2.2.1 109 28).toInt = 1 → ((sF s217 109 27 z226).2.2.1 109 30).toInt ≤ 122 := by have b0 : (Int32.ofInt 3) = (sF s217 109 27 z226).2.2.1 109 28 := sF_ne rfl (fr_F (s := (sF (sF (sF sc0 109 29 w0_109_27) 109 30 z71) 109 28 (Int32.ofInt 3))) (sF_get) hF217 rfl); have b1 : z71 = (sF s217 109 27 z226).2.2.1 109 30 := sF_ne rfl (fr_F (s := (sF (sF (sF sc0 109 29 w0_109_27) 109 30 z71) 109 28 (Int32.ofInt 3))) (sF_ne rfl (sF_get)) hF217 rfl); rw [← b0, ← b1]; exact n230i
                            exact g_return (gd rfl) rfl (hP _ _ ⟨(sF s217 109 27 z226), hI227, (fr_sF rfl (fr_tr rfl (fr_sF rfl (fr_sF rfl (fr_sF rfl hFc0))) hF217)), n230b, n230d, n230f, n230h, n230j, rfl, rfl, n230⟩)
                      · skip
                        exact zn_ne c186 (in_c 0 rfl) rfl
                    · skip
                      exact n_le c183x3 (in_c 97 rfl) i81 rfl
                  · skip
                    exact zn_ne c128 (in_c 0 rfl) rfl
              · skip
                exact n_le c121x3 (in_c 48 rfl) i81 rfl
            · skip
              have i94 := r_lt1 1 999 c94 i89 ro_109_22 rfl
              have i94a := r_lt2 2 1000 c94 i89 ro_109_22 rfl
              refine g_aload_n 98 (gd rfl) rfl rfl ?_
              refine g_getA (q2 := 125) 101 (gd rfl) rfl rfl rfl rfl ?_
              refine g_aload_n 102 (gd rfl) rfl rfl ?_
              refine g_getI 105 (gd rfl) rfl rfl rfl (fun z102 e102 => ?_)
              have q102 : w0_109_27 = z102 := (sF_ne rfl (sF_ne rfl (v0_109_27))).trans e102.symm
              subst q102
              refine g_iconst 1 106 (gd rfl) rfl rfl ?_
              refine g_iadd 107 (gd rfl) rfl (fun z106 e106 => ?_)
              have i106 := in_add 1 1000 e106 i71 (in_c 1 rfl) rfl rfl
              have i107 : In z106 0 999 := by have a0 := oa4 i94a i71 i81 i106; have a4 := t_add e106 i71 (in_c 1 rfl) rfl; have a5 := oa2 ((in_c 1 rfl)) i94; have a7 := t_add e89 i71 (in_c 1 rfl) rfl; have oc := oc_299_109; exact ⟨by omega, by omega⟩
              refine g_iaload 108 (gd rfl) rfl (n := 1000) rfl (in_ix i107 rfl) (fun z107 e107 => ?_)
              have i107a := inv_I hI75 (n := 1000) (t := 0) 0 126 rfl (in_ix i107 rfl) rfl e107
              refine g_calls (As := [.int z107]) (r := []) 111 (gd rfl) rfl rfl rfl rfl rfl (Nat.le_of_ble_eq_true rfl) (mc := 0) (ms := 0) (Nat.zero_le _) (Nat.zero_le _) (P := fun v u => _) ?_ (fun v u h => h)
              intro po108 xx108 hp108 hx108
              refine g_enter2 (k := 297) (N := 300) (by first | exact dq1 hd rfl | exact dq0 hd rfl | exact dq2 hd rfl | exact dq3 hd rfl | omega) rfl (Nat.le_of_ble_eq_true rfl) ?_
              refine g_iload_n 1 (gd rfl) rfl rfl ?_
              refine g_bipush 48 3 (gd rfl) rfl rfl ?_
              refine g_cmp_lt 6 16 (gd rfl) rfl rfl (fun c108x3 => ?_) (fun c108x3 => ?_)
              · skip
                have i108x3 := r_lt1 0 47 c108x3 i107a (in_c 48 rfl) rfl
                refine g_iconst 0 17 (gd rfl) rfl rfl ?_
                refine g_ireturn (gd rfl) rfl (nb01 (in_w 0 1 (in_c 0 rfl) rfl)) (hp108 _ _ ?_)
                show GG _ _ _ _ _ _ _ _ [.int (Int32.ofInt 0)] _ _ _
                refine g_if_eq 114 118 (gd rfl) rfl rfl (fun c111 => ?_) (fun c111 => ?_)
                · skip
                  refine g_iconst 0 119 (gd rfl) rfl rfl ?_
                  refine g_istore_n 120 (gd rfl) rfl (Nat.le_of_ble_eq_true rfl) ?_
                  refine g_iload_n 121 (gd rfl) rfl rfl ?_
                  refine g_calls (As := [.int z71]) (r := []) 124 (gd rfl) rfl rfl rfl rfl rfl (Nat.le_of_ble_eq_true rfl) (mc := 0) (ms := 0) (Nat.zero_le _) (Nat.zero_le _) (P := fun v u => _) ?_ (fun v u h => h)
                  intro po121 xx121 hp121 hx121
                  refine g_enter2 (k := 297) (N := 300) (by first | exact dq1 hd rfl | exact dq0 hd rfl | exact dq2 hd rfl | exact dq3 hd rfl | omega) rfl (Nat.le_of_ble_eq_true rfl) ?_
                  refine g_iload_n 1 (gd rfl) rfl rfl ?_
                  refine g_bipush 48 3 (gd rfl) rfl rfl ?_
                  refine g_cmp_lt 6 16 (gd rfl) rfl rfl (fun c121x3 => ?_) (fun c121x3 => ?_)
                  · skip
                    refine g_iconst 0 17 (gd rfl) rfl rfl ?_
                    refine g_ireturn (gd rfl) rfl (nb01 (in_w 0 1 (in_c 0 rfl) rfl)) (hp121 _ _ ?_)
                    show GG _ _ _ _ _ _ _ _ [.int (Int32.ofInt 0)] _ _ _
                    refine g_if_ne 127 131 (gd rfl) rfl rfl (fun c124 => ?_) (fun c124 => ?_)
                    · skip
                      exact zn_ne c124 (in_c 0 rfl) rfl
                    · skip
                      refine g_iload_n 128 (gd rfl) rfl rfl ?_
                      refine g_if_eq 131 181 (gd rfl) rfl rfl (fun c128 => ?_) (fun c128 => ?_)
                      · skip
                        refine g_aload_n 182 (gd rfl) rfl rfl ?_
                        refine g_iload_n 183 (gd rfl) rfl rfl ?_
                        refine g_calls (As := [.int z71]) (r := [.ref (A 109)]) 186 (gd rfl) rfl rfl rfl rfl rfl (Nat.le_of_ble_eq_true rfl) (mc := 0) (ms := 0) (Nat.zero_le _) (Nat.zero_le _) (P := fun v u => _) ?_ (fun v u h => h)
                        intro po183 xx183 hp183 hx183
                        refine g_enter2 (k := 296) (N := 300) (by first | exact dq1 hd rfl | exact dq0 hd rfl | exact dq2 hd rfl | exact dq3 hd rfl | omega) rfl (Nat.le_of_ble_eq_true rfl) ?_
                        refine g_iload_n 1 (gd rfl) rfl rfl ?_
                        refine g_bipush 97 3 (gd rfl) rfl rfl ?_
                        refine g_cmp_lt 6 16 (gd rfl) rfl rfl (fun c183x3 => ?_) (fun c183x3 => ?_)
                        · skip
                          refine g_iconst 0 17 (gd rfl) rfl rfl ?_
                          refine g_ireturn (gd rfl) rfl (nb01 (in_w 0 1 (in_c 0 rfl) rfl)) (hp183 _ _ ?_)
                          show GG _ _ _ _ _ _ _ _ [.int (Int32.ofInt 0), .ref (A 109)] _ _ _
                          refine g_if_eq 189 193 (gd rfl) rfl rfl (fun c186 => ?_) (fun c186 => ?_)
                          · skip
                            refine g_iconst 3 194 (gd rfl) rfl rfl ?_
                            refine g_putI 197 (gd rfl) rfl rfl rfl rfl ?_
                            have hI194 := inv_sF (q := 109) (j := 28) hI75 rfl (in_w (-2147483648) 2147483647 (in_c 3 rfl) rfl)
                            refine g_aload_n 198 (gd rfl) rfl rfl ?_
                            refine g_getI 201 (gd rfl) rfl rfl rfl (fun z198 e198 => ?_)
                            have q198 : (Int32.ofInt 3) = z198 := (sF_get).trans e198.symm
                            subst q198
                            refine g_iconst 3 202 (gd rfl) rfl rfl ?_
                            refine g_cmp_ne 205 220 (gd rfl) rfl rfl (fun c202 => ?_) (fun c202 => ?_)
                            · skip
                              exact n_ne c202 (in_c 3 rfl) (in_c 3 rfl) rfl
                            · skip
                              refine g_iload_n 206 (gd rfl) rfl rfl ?_
                              refine g_bipush 59 208 (gd rfl) rfl rfl ?_
                              refine g_cmp_eq 211 220 (gd rfl) rfl rfl (fun c208 => ?_) (fun c208 => ?_)
                              · skip
                                exact n_eq c208 i81 (in_c 59 rfl) rfl
                              · skip
                                refine g_aload_n 212 (gd rfl) rfl rfl ?_
                                refine g_iconst 1 213 (gd rfl) rfl rfl ?_
                                refine g_aload_n 214 (gd rfl) rfl rfl ?_
                                refine g_getI 217 (gd rfl) rfl rfl rfl (fun z214 e214 => ?_)
                                have q214 : w0_109_27 = z214 := (sF_ne rfl (sF_ne rfl (sF_get))).trans e214.symm
                                subst q214
                                refine g_callv (X := _) (As := [.int (Int32.ofInt 1), .int w0_109_27]) (r := []) (b := A 109) (q := 109) 220 (gd rfl) rfl rfl rfl rfl rfl (ww_o rfl) (Nat.le_of_ble_eq_true rfl) (Nat.zero_le _) (Nat.zero_le _) (f_298 (by first | exact dq1 hd rfl | exact dq0 hd rfl | exact dq2 hd rfl | exact dq3 hd rfl | omega) hI194 (in_w 1 5 (in_c 1 rfl) rfl) rfl) (fun e u h => h) (fun v u h => ?_)
                                obtain ⟨s217, hI217, hF217, n217, rfl, rfl, p217⟩ := h
                                obtain ⟨z217a, e217⟩ : ∃ w, w = s217.2.2.1 109 23 := ⟨_, rfl⟩
                                have i217a := inv_F hI217 0 9 rfl e217
                                rw [← (show z217a = s217.2.2.1 109 23 from e217)] at n217
                                show GG _ _ _ _ _ _ _ _ [] _ _ _
                                refine g_aload_n 221 (gd rfl) rfl rfl ?_
                                refine g_dup 222 (gd rfl) rfl rfl ?_
                                refine g_getI 225 (gd rfl) rfl rfl rfl (fun z222 e222 => ?_)
                                have q222 : w0_109_27 = z222 := (fr_F (s := (sF (sF (sF sc0 109 29 w0_109_27) 109 30 z71) 109 28 (Int32.ofInt 3))) (sF_ne rfl (sF_ne rfl (sF_ne rfl (v0_109_27)))) hF217 rfl).trans e222.symm
                                subst q222
                                refine g_iconst 1 226 (gd rfl) rfl rfl ?_
                                refine g_iadd 227 (gd rfl) rfl (fun z226 e226 => ?_)
                                have i226 := in_add 1 1000 e226 i71 (in_c 1 rfl) rfl rfl
                                refine g_putI 230 (gd rfl) rfl rfl rfl rfl ?_
                                have hI227 := inv_sF (q := 109) (j := 27) hI217 rfl (in_w 0 1000 i226 rfl)
                                have n230 : ∃ k v, TKN (s.1 125) (s.2.2.1 109 22).toInt.toNat (s.2.2.1 109 27).toInt.toNat ((sF s217 109 27 z226).2.2.1 109 29).toInt.toNat ((sF s217 109 27 z226).2.2.1 109 27).toInt.toNat k v ∧ NTK s (sF s217 109 27 z226) k v := by exfalso; have a0 := oa5 i94a i71 ((in_c 0 rfl)) i81 i226; have a5 := t_add e226 i71 (in_c 1 rfl) rfl; have a6 := oa4 ((in_c 1 rfl)) i217a ((in_c 3 rfl)) i107; have a10 := t_add e106 i71 (in_c 1 rfl) rfl; have a11 := in_u i94; have a12 := t_add e89 i71 (in_c 1 rfl) rfl; have oc := oc_299_109; omega
                                have n230a : (z226).toInt ≤ (u_109_22).toInt := by have a0 := oa5 i94a i71 ((in_c 0 rfl)) i81 i226; have a5 := t_add e226 i71 (in_c 1 rfl) rfl; have a6 := oa4 ((in_c 1 rfl)) i217a ((in_c 3 rfl)) i107; have a10 := t_add e106 i71 (in_c 1 rfl) rfl; have a11 := in_u i94; have a12 := t_add e89 i71 (in_c 1 rfl) rfl; have oc := oc_299_109; omega
                                have n230b : ((sF s217 109 27 z226).2.2.1 109 27).toInt ≤ ((sF s217 109 27 z226).2.2.1 109 22).toInt := by have b0 : z226 = (sF s217 109 27 z226).2.2.1 109 27 := sF_get; have b1 : u_109_22 = (sF s217 109 27 z226).2.2.1 109 22 := sF_ne rfl (fr_F (s := (sF (sF (sF sc0 109 29 w0_109_27) 109 30 z71) 109 28 (Int32.ofInt 3))) (sF_ne rfl (sF_ne rfl (sF_ne rfl (fr_F e_109_22 hFc0 rfl)))) hF217 rfl); rw [← b0, ← b1]; exact n230a
                                have n230c : (u_109_27).toInt ≤ (z226).toInt := by have a0 := oa5 i94a i71 ((in_c 0 rfl)) i81 i226; have a5 := t_add e226 i71 (in_c 1 rfl) rfl; have a6 := oa4 ((in_c 1 rfl)) i217a ((in_c 3 rfl)) i107; have a10 := t_add e106 i71 (in_c 1 rfl) rfl; have a11 := in_u i94; have a12 := t_add e89 i71 (in_c 1 rfl) rfl; have oc := oc_299_109; omega
                                have n230d : (s.2.2.1 109 27).toInt ≤ ((sF s217 109 27 z226).2.2.1 109 27).toInt := by have b0 : z226 = (sF s217 109 27 z226).2.2.1 109 27 := sF_get; first | (rw [← b0, ← e_109_27]; exact n230c) | (rw [← b0]; exact n230c)
                                have n230e : ((Int32.ofInt 3)).toInt ≠ 0 → (u_109_27).toInt + 1 ≤ (z226).toInt := by have a0 := oa5 i94a i71 ((in_c 0 rfl)) i81 i226; have a5 := t_add e226 i71 (in_c 1 rfl) rfl; have a6 := oa4 ((in_c 1 rfl)) i217a ((in_c 3 rfl)) i107; have a10 := t_add e106 i71 (in_c 1 rfl) rfl; have a11 := in_u i94; have a12 := t_add e89 i71 (in_c 1 rfl) rfl; have oc := oc_299_109; omega
                                have n230f : ((sF s217 109 27 z226).2.2.1 109 28).toInt ≠ 0 → (s.2.2.1 109 27).toInt + 1 ≤ ((sF s217 109 27 z226).2.2.1 109 27).toInt := by have b0 : (Int32.ofInt 3) = (sF s217 109 27 z226).2.2.1 109 28 := sF_ne rfl (fr_F (s := (sF (sF (sF sc0 109 29 w0_109_27) 109 30 z71) 109 28 (Int32.ofInt 3))) (sF_get) hF217 rfl); have b1 : z226 = (sF s217 109 27 z226).2.2.1 109 27 := sF_get; first | (rw [← b0, ← b1, ← e_109_27]; exact n230e) | (rw [← b0, ← b1]; exact n230e)
                                have n230g : ((Int32.ofInt 3)).toInt = 1 → 97 ≤ (z71).toInt := by exact fun h => absurd h (by decide)
                                have n230h : ((sF s217 109 27 z226).2.2.1 109 28).toInt = 1 → 97 ≤ ((sF s217 109 27 z226).2.2.1 109 30).toInt := by have b0 : (Int32.ofInt 3) = (sF s217 109 27 z226).2.2.1 109 28 := sF_ne rfl (fr_F (s := (sF (sF (sF sc0 109 29 w0_109_27) 109 30 z71) 109 28 (Int32.ofInt 3))) (sF_get) hF217 rfl); have b1 : z71 = (sF s217 109 27 z226).2.2.1 109 30 := sF_ne rfl (fr_F (s := (sF (sF (sF sc0 109 29 w0_109_27) 109 30 z71) 109 28 (Int32.ofInt 3))) (sF_ne rfl (sF_get)) hF217 rfl); rw [← b0, ← b1]; exact n230g
                                have n230i : ((Int32.ofInt 3)).toInt = 1 → (z71).toInt ≤ 122 := by exact fun h => absurd h (by decide)
                                have n230j : ((sF s217 109 27 z226).2.2.1 109 28).toInt = 1 → ((sF s217 109 27 z226).2.2.1 109 30).toInt ≤ 122 := by have b0 : (Int32.ofInt 3) = (sF s217 109 27 z226).2.2.1 109 28 := sF_ne rfl (fr_F (s := (sF (sF (sF sc0 109 29 w0_109_27) 109 30 z71) 109 28 (Int32.ofInt 3))) (sF_get) hF217 rfl); have b1 : z71 = (sF s217 109 27 z226).2.2.1 109 30 := sF_ne rfl (fr_F (s := (sF (sF (sF sc0 109 29 w0_109_27) 109 30 z71) 109 28 (Int32.ofInt 3))) (sF_ne rfl (sF_get)) hF217 rfl); rw [← b0, ← b1]; exact n230i
                                exact g_return (gd rfl) rfl (hP _ _ ⟨(sF s217 109 27 z226), hI227, (fr_sF rfl (fr_tr rfl (fr_sF rfl (fr_sF rfl (fr_sF rfl hFc0))) hF217)), n230b, n230d, n230f, n230h, n230j, rfl, rfl, n230⟩)
                          · skip
                            exact zn_ne c186 (in_c 0 rfl) rfl
                        · skip
                          exact n_le c183x3 (in_c 97 rfl) i81 rfl
                      · skip
                        exact zn_ne c128 (in_c 0 rfl) rfl
                  · skip
                    exact n_le c121x3 (in_c 48 rfl) i81 rfl
                · skip
                  exact zn_ne c111 (in_c 0 rfl) rfl
              · skip
                have i108x3 := r_le2 48 126 c108x3 (in_c 48 rfl) i107a rfl
                refine g_iload_n 7 (gd rfl) rfl rfl ?_
                refine g_bipush 57 9 (gd rfl) rfl rfl ?_
                refine g_cmp_gt 12 16 (gd rfl) rfl rfl (fun c108x9 => ?_) (fun c108x9 => ?_)
                · skip
                  have i108x9 := r_lt2 58 126 c108x9 (in_c 57 rfl) i108x3 rfl
                  refine g_iconst 0 17 (gd rfl) rfl rfl ?_
                  refine g_ireturn (gd rfl) rfl (nb01 (in_w 0 1 (in_c 0 rfl) rfl)) (hp108 _ _ ?_)
                  show GG _ _ _ _ _ _ _ _ [.int (Int32.ofInt 0)] _ _ _
                  refine g_if_eq 114 118 (gd rfl) rfl rfl (fun c111 => ?_) (fun c111 => ?_)
                  · skip
                    refine g_iconst 0 119 (gd rfl) rfl rfl ?_
                    refine g_istore_n 120 (gd rfl) rfl (Nat.le_of_ble_eq_true rfl) ?_
                    refine g_iload_n 121 (gd rfl) rfl rfl ?_
                    refine g_calls (As := [.int z71]) (r := []) 124 (gd rfl) rfl rfl rfl rfl rfl (Nat.le_of_ble_eq_true rfl) (mc := 0) (ms := 0) (Nat.zero_le _) (Nat.zero_le _) (P := fun v u => _) ?_ (fun v u h => h)
                    intro po121 xx121 hp121 hx121
                    refine g_enter2 (k := 297) (N := 300) (by first | exact dq1 hd rfl | exact dq0 hd rfl | exact dq2 hd rfl | exact dq3 hd rfl | omega) rfl (Nat.le_of_ble_eq_true rfl) ?_
                    refine g_iload_n 1 (gd rfl) rfl rfl ?_
                    refine g_bipush 48 3 (gd rfl) rfl rfl ?_
                    refine g_cmp_lt 6 16 (gd rfl) rfl rfl (fun c121x3 => ?_) (fun c121x3 => ?_)
                    · skip
                      refine g_iconst 0 17 (gd rfl) rfl rfl ?_
                      refine g_ireturn (gd rfl) rfl (nb01 (in_w 0 1 (in_c 0 rfl) rfl)) (hp121 _ _ ?_)
                      show GG _ _ _ _ _ _ _ _ [.int (Int32.ofInt 0)] _ _ _
                      refine g_if_ne 127 131 (gd rfl) rfl rfl (fun c124 => ?_) (fun c124 => ?_)
                      · skip
                        exact zn_ne c124 (in_c 0 rfl) rfl
                      · skip
                        refine g_iload_n 128 (gd rfl) rfl rfl ?_
                        refine g_if_eq 131 181 (gd rfl) rfl rfl (fun c128 => ?_) (fun c128 => ?_)
                        · skip
                          refine g_aload_n 182 (gd rfl) rfl rfl ?_
                          refine g_iload_n 183 (gd rfl) rfl rfl ?_
                          refine g_calls (As := [.int z71]) (r := [.ref (A 109)]) 186 (gd rfl) rfl rfl rfl rfl rfl (Nat.le_of_ble_eq_true rfl) (mc := 0) (ms := 0) (Nat.zero_le _) (Nat.zero_le _) (P := fun v u => _) ?_ (fun v u h => h)
                          intro po183 xx183 hp183 hx183
                          refine g_enter2 (k := 296) (N := 300) (by first | exact dq1 hd rfl | exact dq0 hd rfl | exact dq2 hd rfl | exact dq3 hd rfl | omega) rfl (Nat.le_of_ble_eq_true rfl) ?_
                          refine g_iload_n 1 (gd rfl) rfl rfl ?_
                          refine g_bipush 97 3 (gd rfl) rfl rfl ?_
                          refine g_cmp_lt 6 16 (gd rfl) rfl rfl (fun c183x3 => ?_) (fun c183x3 => ?_)
                          · skip
                            refine g_iconst 0 17 (gd rfl) rfl rfl ?_
                            refine g_ireturn (gd rfl) rfl (nb01 (in_w 0 1 (in_c 0 rfl) rfl)) (hp183 _ _ ?_)
                            show GG _ _ _ _ _ _ _ _ [.int (Int32.ofInt 0), .ref (A 109)] _ _ _
                            refine g_if_eq 189 193 (gd rfl) rfl rfl (fun c186 => ?_) (fun c186 => ?_)
                            · skip
                              refine g_iconst 3 194 (gd rfl) rfl rfl ?_
                              refine g_putI 197 (gd rfl) rfl rfl rfl rfl ?_
                              have hI194 := inv_sF (q := 109) (j := 28) hI75 rfl (in_w (-2147483648) 2147483647 (in_c 3 rfl) rfl)
                              refine g_aload_n 198 (gd rfl) rfl rfl ?_
                              refine g_getI 201 (gd rfl) rfl rfl rfl (fun z198 e198 => ?_)
                              have q198 : (Int32.ofInt 3) = z198 := (sF_get).trans e198.symm
                              subst q198
                              refine g_iconst 3 202 (gd rfl) rfl rfl ?_
                              refine g_cmp_ne 205 220 (gd rfl) rfl rfl (fun c202 => ?_) (fun c202 => ?_)
                              · skip
                                exact n_ne c202 (in_c 3 rfl) (in_c 3 rfl) rfl
                              · skip
                                refine g_iload_n 206 (gd rfl) rfl rfl ?_
                                refine g_bipush 59 208 (gd rfl) rfl rfl ?_
                                refine g_cmp_eq 211 220 (gd rfl) rfl rfl (fun c208 => ?_) (fun c208 => ?_)
                                · skip
                                  exact n_eq c208 i81 (in_c 59 rfl) rfl
                                · skip
                                  refine g_aload_n 212 (gd rfl) rfl rfl ?_
                                  refine g_iconst 1 213 (gd rfl) rfl rfl ?_
                                  refine g_aload_n 214 (gd rfl) rfl rfl ?_
                                  refine g_getI 217 (gd rfl) rfl rfl rfl (fun z214 e214 => ?_)
                                  have q214 : w0_109_27 = z214 := (sF_ne rfl (sF_ne rfl (sF_get))).trans e214.symm
                                  subst q214
                                  refine g_callv (X := _) (As := [.int (Int32.ofInt 1), .int w0_109_27]) (r := []) (b := A 109) (q := 109) 220 (gd rfl) rfl rfl rfl rfl rfl (ww_o rfl) (Nat.le_of_ble_eq_true rfl) (Nat.zero_le _) (Nat.zero_le _) (f_298 (by first | exact dq1 hd rfl | exact dq0 hd rfl | exact dq2 hd rfl | exact dq3 hd rfl | omega) hI194 (in_w 1 5 (in_c 1 rfl) rfl) rfl) (fun e u h => h) (fun v u h => ?_)
                                  obtain ⟨s217, hI217, hF217, n217, rfl, rfl, p217⟩ := h
                                  obtain ⟨z217a, e217⟩ : ∃ w, w = s217.2.2.1 109 23 := ⟨_, rfl⟩
                                  have i217a := inv_F hI217 0 9 rfl e217
                                  rw [← (show z217a = s217.2.2.1 109 23 from e217)] at n217
                                  show GG _ _ _ _ _ _ _ _ [] _ _ _
                                  refine g_aload_n 221 (gd rfl) rfl rfl ?_
                                  refine g_dup 222 (gd rfl) rfl rfl ?_
                                  refine g_getI 225 (gd rfl) rfl rfl rfl (fun z222 e222 => ?_)
                                  have q222 : w0_109_27 = z222 := (fr_F (s := (sF (sF (sF sc0 109 29 w0_109_27) 109 30 z71) 109 28 (Int32.ofInt 3))) (sF_ne rfl (sF_ne rfl (sF_ne rfl (v0_109_27)))) hF217 rfl).trans e222.symm
                                  subst q222
                                  refine g_iconst 1 226 (gd rfl) rfl rfl ?_
                                  refine g_iadd 227 (gd rfl) rfl (fun z226 e226 => ?_)
                                  have i226 := in_add 1 1000 e226 i71 (in_c 1 rfl) rfl rfl
                                  refine g_putI 230 (gd rfl) rfl rfl rfl rfl ?_
                                  have hI227 := inv_sF (q := 109) (j := 27) hI217 rfl (in_w 0 1000 i226 rfl)
                                  have n230 : ∃ k v, TKN (s.1 125) (s.2.2.1 109 22).toInt.toNat (s.2.2.1 109 27).toInt.toNat ((sF s217 109 27 z226).2.2.1 109 29).toInt.toNat ((sF s217 109 27 z226).2.2.1 109 27).toInt.toNat k v ∧ NTK s (sF s217 109 27 z226) k v := by exfalso; have a0 := oa5 i94a i71 ((in_c 0 rfl)) i81 i226; have a5 := t_add e226 i71 (in_c 1 rfl) rfl; have a6 := oa4 ((in_c 1 rfl)) i217a ((in_c 3 rfl)) i107; have a10 := t_add e106 i71 (in_c 1 rfl) rfl; have a11 := in_u i94; have a12 := t_add e89 i71 (in_c 1 rfl) rfl; have oc := oc_299_109; omega
                                  have n230a : (z226).toInt ≤ (u_109_22).toInt := by have a0 := oa5 i94a i71 ((in_c 0 rfl)) i81 i226; have a5 := t_add e226 i71 (in_c 1 rfl) rfl; have a6 := oa4 ((in_c 1 rfl)) i217a ((in_c 3 rfl)) i107; have a10 := t_add e106 i71 (in_c 1 rfl) rfl; have a11 := in_u i94; have a12 := t_add e89 i71 (in_c 1 rfl) rfl; have oc := oc_299_109; omega
                                  have n230b : ((sF s217 109 27 z226).2.2.1 109 27).toInt ≤ ((sF s217 109 27 z226).2.2.1 109 22).toInt := by have b0 : z226 = (sF s217 109 27 z226).2.2.1 109 27 := sF_get; have b1 : u_109_22 = (sF s217 109 27 z226).2.2.1 109 22 := sF_ne rfl (fr_F (s := (sF (sF (sF sc0 109 29 w0_109_27) 109 30 z71) 109 28 (Int32.ofInt 3))) (sF_ne rfl (sF_ne rfl (sF_ne rfl (fr_F e_109_22 hFc0 rfl)))) hF217 rfl); rw [← b0, ← b1]; exact n230a
                                  have n230c : (u_109_27).toInt ≤ (z226).toInt := by have a0 := oa5 i94a i71 ((in_c 0 rfl)) i81 i226; have a5 := t_add e226 i71 (in_c 1 rfl) rfl; have a6 := oa4 ((in_c 1 rfl)) i217a ((in_c 3 rfl)) i107; have a10 := t_add e106 i71 (in_c 1 rfl) rfl; have a11 := in_u i94; have a12 := t_add e89 i71 (in_c 1 rfl) rfl; have oc := oc_299_109; omega
                                  have n230d : (s.2.2.1 109 27).toInt ≤ ((sF s217 109 27 z226).2.2.1 109 27).toInt := by have b0 : z226 = (sF s217 109 27 z226).2.2.1 109 27 := sF_get; first | (rw [← b0, ← e_109_27]; exact n230c) | (rw [← b0]; exact n230c)
                                  have n230e : ((Int32.ofInt 3)).toInt ≠ 0 → (u_109_27).toInt + 1 ≤ (z226).toInt := by have a0 := oa5 i94a i71 ((in_c 0 rfl)) i81 i226; have a5 := t_add e226 i71 (in_c 1 rfl) rfl; have a6 := oa4 ((in_c 1 rfl)) i217a ((in_c 3 rfl)) i107; have a10 := t_add e106 i71 (in_c 1 rfl) rfl; have a11 := in_u i94; have a12 := t_add e89 i71 (in_c 1 rfl) rfl; have oc := oc_299_109; omega
                                  have n230f : ((sF s217 109 27 z226).2.2.1 109 28).toInt ≠ 0 → (s.2.2.1 109 27).toInt + 1 ≤ ((sF s217 109 27 z226).2.2.1 109 27).toInt := by have b0 : (Int32.ofInt 3) = (sF s217 109 27 z226).2.2.1 109 28 := sF_ne rfl (fr_F (s := (sF (sF (sF sc0 109 29 w0_109_27) 109 30 z71) 109 28 (Int32.ofInt 3))) (sF_get) hF217 rfl); have b1 : z226 = (sF s217 109 27 z226).2.2.1 109 27 := sF_get; first | (rw [← b0, ← b1, ← e_109_27]; exact n230e) | (rw [← b0, ← b1]; exact n230e)
                                  have n230g : ((Int32.ofInt 3)).toInt = 1 → 97 ≤ (z71).toInt := by exact fun h => absurd h (by decide)
                                  have n230h : ((sF s217 109 27 z226).2.2.1 109 28).toInt = 1 → 97 ≤ ((sF s217 109 27 z226).2.2.1 109 30).toInt := by have b0 : (Int32.ofInt 3) = (sF s217 109 27 z226).2.2.1 109 28 := sF_ne rfl (fr_F (s := (sF (sF (sF sc0 109 29 w0_109_27) 109 30 z71) 109 28 (Int32.ofInt 3))) (sF_get) hF217 rfl); have b1 : z71 = (sF s217 109 27 z226).2.2.1 109 30 := sF_ne rfl (fr_F (s := (sF (sF (sF sc0 109 29 w0_109_27) 109 30 z71) 109 28 (Int32.ofInt 3))) (sF_ne rfl (sF_get)) hF217 rfl); rw [← b0, ← b1]; exact n230g
                                  have n230i : ((Int32.ofInt 3)).toInt = 1 → (z71).toInt ≤ 122 := by exact fun h => absurd h (by decide)
                                  have n230j : ((sF s217 109 27 z226).2.2.1 109 28).toInt = 1 → ((sF s217 109 27 z226).2.2.1 109 30).toInt ≤ 122 := by have b0 : (Int32.ofInt 3) = (sF s217 109 27 z226).2.2.1 109 28 := sF_ne rfl (fr_F (s := (sF (sF (sF sc0 109 29 w0_109_27) 109 30 z71) 109 28 (Int32.ofInt 3))) (sF_get) hF217 rfl); have b1 : z71 = (sF s217 109 27 z226).2.2.1 109 30 := sF_ne rfl (fr_F (s := (sF (sF (sF sc0 109 29 w0_109_27) 109 30 z71) 109 28 (Int32.ofInt 3))) (sF_ne rfl (sF_get)) hF217 rfl); rw [← b0, ← b1]; exact n230i
                                  exact g_return (gd rfl) rfl (hP _ _ ⟨(sF s217 109 27 z226), hI227, (fr_sF rfl (fr_tr rfl (fr_sF rfl (fr_sF rfl (fr_sF rfl hFc0))) hF217)), n230b, n230d, n230f, n230h, n230j, rfl, rfl, n230⟩)
                            · skip
                              exact zn_ne c186 (in_c 0 rfl) rfl
                          · skip
                            exact n_le c183x3 (in_c 97 rfl) i81 rfl
                        · skip
                          exact zn_ne c128 (in_c 0 rfl) rfl
                    · skip
                      exact n_le c121x3 (in_c 48 rfl) i81 rfl
                  · skip
                    exact zn_ne c111 (in_c 0 rfl) rfl
                · skip
                  have i108x9 := r_le1 48 57 c108x9 i108x3 (in_c 57 rfl) rfl
                  refine g_iconst 1 13 (gd rfl) rfl rfl ?_
                  refine g_goto 17 (gd rfl) rfl ?_
                  refine g_ireturn (gd rfl) rfl (nb01 (in_w 0 1 (in_c 1 rfl) rfl)) (hp108 _ _ ?_)
                  show GG _ _ _ _ _ _ _ _ [.int (Int32.ofInt 1)] _ _ _
                  refine g_if_eq 114 118 (gd rfl) rfl rfl (fun c111 => ?_) (fun c111 => ?_)
                  · skip
                    exact zn_eq c111 (in_c 1 rfl) rfl
                  · skip
                    refine g_iconst 1 115 (gd rfl) rfl rfl ?_
                    refine g_goto 119 (gd rfl) rfl ?_
                    refine g_istore_n 120 (gd rfl) rfl (Nat.le_of_ble_eq_true rfl) ?_
                    refine g_iload_n 121 (gd rfl) rfl rfl ?_
                    refine g_calls (As := [.int z71]) (r := []) 124 (gd rfl) rfl rfl rfl rfl rfl (Nat.le_of_ble_eq_true rfl) (mc := 0) (ms := 0) (Nat.zero_le _) (Nat.zero_le _) (P := fun v u => _) ?_ (fun v u h => h)
                    intro po121 xx121 hp121 hx121
                    refine g_enter2 (k := 297) (N := 300) (by first | exact dq1 hd rfl | exact dq0 hd rfl | exact dq2 hd rfl | exact dq3 hd rfl | omega) rfl (Nat.le_of_ble_eq_true rfl) ?_
                    refine g_iload_n 1 (gd rfl) rfl rfl ?_
                    refine g_bipush 48 3 (gd rfl) rfl rfl ?_
                    refine g_cmp_lt 6 16 (gd rfl) rfl rfl (fun c121x3 => ?_) (fun c121x3 => ?_)
                    · skip
                      refine g_iconst 0 17 (gd rfl) rfl rfl ?_
                      refine g_ireturn (gd rfl) rfl (nb01 (in_w 0 1 (in_c 0 rfl) rfl)) (hp121 _ _ ?_)
                      show GG _ _ _ _ _ _ _ _ [.int (Int32.ofInt 0)] _ _ _
                      refine g_if_ne 127 131 (gd rfl) rfl rfl (fun c124 => ?_) (fun c124 => ?_)
                      · skip
                        exact zn_ne c124 (in_c 0 rfl) rfl
                      · skip
                        refine g_iload_n 128 (gd rfl) rfl rfl ?_
                        refine g_if_eq 131 181 (gd rfl) rfl rfl (fun c128 => ?_) (fun c128 => ?_)
                        · skip
                          exact zn_eq c128 (in_c 1 rfl) rfl
                        · skip
                          refine g_aload_n 132 (gd rfl) rfl rfl ?_
                          refine g_iconst 2 133 (gd rfl) rfl rfl ?_
                          refine g_putI 136 (gd rfl) rfl rfl rfl rfl ?_
                          have hI133 := inv_sF (q := 109) (j := 28) hI75 rfl (in_w (-2147483648) 2147483647 (in_c 2 rfl) rfl)
                          refine g_aload_n 137 (gd rfl) rfl rfl ?_
                          refine g_dup 138 (gd rfl) rfl rfl ?_
                          refine g_getI 141 (gd rfl) rfl rfl rfl (fun z138 e138 => ?_)
                          have q138 : w0_109_27 = z138 := (sF_ne rfl (sF_ne rfl (sF_ne rfl (v0_109_27)))).trans e138.symm
                          subst q138
                          refine g_iload_n 142 (gd rfl) rfl rfl ?_
                          refine g_if_eq 145 149 (gd rfl) rfl rfl (fun c142 => ?_) (fun c142 => ?_)
                          · skip
                            exact zn_eq c142 (in_c 1 rfl) rfl
                          · skip
                            refine g_iconst 1 146 (gd rfl) rfl rfl ?_
                            refine g_goto 150 (gd rfl) rfl ?_
                            refine g_iadd 151 (gd rfl) rfl (fun z150 e150 => ?_)
                            have i150 := in_add 1 1000 e150 i71 (in_c 1 rfl) rfl rfl
                            refine g_putI 154 (gd rfl) rfl rfl rfl rfl ?_
                            have hI151 := inv_sF (q := 109) (j := 27) hI133 rfl (in_w 0 1000 i150 rfl)
                            refine g_aload_n 155 (gd rfl) rfl rfl ?_
                            refine g_bipush 7 157 (gd rfl) rfl rfl ?_
                            have hA9 : _ = (sF (sF (sF (sF sc0 109 29 w0_109_27) 109 30 z71) 109 28 (Int32.ofInt 2)) 109 27 z150).2.2.1 109 27 := (show z150 = (sF (sF (sF (sF sc0 109 29 w0_109_27) 109 30 z71) 109 28 (Int32.ofInt 2)) 109 27 z150).2.2.1 109 27 from sF_get)
                            have hL9 : u_109_22 = (sF (sF (sF (sF sc0 109 29 w0_109_27) 109 30 z71) 109 28 (Int32.ofInt 2)) 109 27 z150).2.2.1 109 22 := (show u_109_22 = (sF (sF (sF (sF sc0 109 29 w0_109_27) 109 30 z71) 109 28 (Int32.ofInt 2)) 109 27 z150).2.2.1 109 22 from sF_ne rfl (sF_ne rfl (sF_ne rfl (sF_ne rfl (fr_F e_109_22 hFc0 rfl)))))
                            have hX9 : (sF (sF (sF (sF sc0 109 29 w0_109_27) 109 30 z71) 109 28 (Int32.ofInt 2)) 109 27 z150).1 125 = s.1 125 := hFc0.1 125 rfl
                            have hP9 : _ = (sF (sF (sF (sF sc0 109 29 w0_109_27) 109 30 z71) 109 28 (Int32.ofInt 2)) 109 27 z150).2.2.1 109 29 := (show w0_109_27 = (sF (sF (sF (sF sc0 109 29 w0_109_27) 109 30 z71) 109 28 (Int32.ofInt 2)) 109 27 z150).2.2.1 109 29 from sF_ne rfl (sF_ne rfl (sF_ne rfl (sF_get))))
                            have hF9 : FSM s (sF (sF (sF (sF sc0 109 29 w0_109_27) 109 30 z71) 109 28 (Int32.ofInt 2)) 109 27 z150) := g0_1
                            have v157 : z150 = (sF (sF (sF (sF sc0 109 29 w0_109_27) 109 30 z71) 109 28 (Int32.ofInt 2)) 109 27 z150).2.2.1 109 27 := sF_get
                            have v157a : u_109_22 = (sF (sF (sF (sF sc0 109 29 w0_109_27) 109 30 z71) 109 28 (Int32.ofInt 2)) 109 27 z150).2.2.1 109 22 := sF_ne rfl (sF_ne rfl (sF_ne rfl (sF_ne rfl (fr_F e_109_22 hFc0 rfl))))
                            have n157 : (z150).toInt < (u_109_22).toInt := by have a0 := oa5 i94a i71 ((in_c 1 rfl)) i81 i150; have a5 := t_add e150 i71 (in_c 1 rfl) rfl; have a6 := oa2 ((in_c 2 rfl)) i107; have a8 := t_add e106 i71 (in_c 1 rfl) rfl; have a9 := in_u i94; have a10 := t_add e89 i71 (in_c 1 rfl) rfl; have oc := oc_299_109; omega
                            have p157 : 48 ≤ ((sF (sF (sF (sF sc0 109 29 w0_109_27) 109 30 z71) 109 28 (Int32.ofInt 2)) 109 27 z150).1 125 ((sF (sF (sF (sF sc0 109 29 w0_109_27) 109 30 z71) 109 28 (Int32.ofInt 2)) 109 27 z150).2.2.1 109 27).toNatClampNeg).toInt ∧ ((sF (sF (sF (sF sc0 109 29 w0_109_27) 109 30 z71) 109 28 (Int32.ofInt 2)) 109 27 z150).1 125 ((sF (sF (sF (sF sc0 109 29 w0_109_27) 109 30 z71) 109 28 (Int32.ofInt 2)) 109 27 z150).2.2.1 109 27).toNatClampNeg).toInt ≤ 57 := by first | (have hz : z107 = (sF (sF (sF (sF sc0 109 29 w0_109_27) 109 30 z71) 109 28 (Int32.ofInt 2)) 109 27 z150).1 125 ((sF (sF (sF (sF sc0 109 29 w0_109_27) 109 30 z71) 109 28 (Int32.ofInt 2)) 109 27 z150).2.2.1 109 27).toNatClampNeg := (by rw [← (show z150 = (sF (sF (sF (sF sc0 109 29 w0_109_27) 109 30 z71) 109 28 (Int32.ofInt 2)) 109 27 z150).2.2.1 109 27 from sF_get), e150, ← e106]; exact e107); rw [← hz]; exact i108x9) | (have hz : z19 = (sF (sF (sF (sF sc0 109 29 w0_109_27) 109 30 z71) 109 28 (Int32.ofInt 2)) 109 27 z150).1 125 ((sF (sF (sF (sF sc0 109 29 w0_109_27) 109 30 z71) 109 28 (Int32.ofInt 2)) 109 27 z150).2.2.1 109 27).toNatClampNeg := (by rw [← (show z150 = (sF (sF (sF (sF sc0 109 29 w0_109_27) 109 30 z71) 109 28 (Int32.ofInt 2)) 109 27 z150).2.2.1 109 27 from sF_get), e150, show w0_109_27 + Int32.ofInt 0 = w0_109_27 from Int32.add_zero _]; exact e19); rw [← hz]; exact i121x9) | (have hz : z71 = (sF (sF (sF (sF sc0 109 29 w0_109_27) 109 30 z71) 109 28 (Int32.ofInt 2)) 109 27 z150).1 125 ((sF (sF (sF (sF sc0 109 29 w0_109_27) 109 30 z71) 109 28 (Int32.ofInt 2)) 109 27 z150).2.2.1 109 27).toNatClampNeg := (by rw [← (show z150 = (sF (sF (sF (sF sc0 109 29 w0_109_27) 109 30 z71) 109 28 (Int32.ofInt 2)) 109 27 z150).2.2.1 109 27 from sF_get), e150, show w0_109_27 + Int32.ofInt 0 = w0_109_27 from Int32.add_zero _]; exact e71); rw [← hz]; exact i121x9)
                            refine g_callv (X := _) (As := [.int (Int32.ofInt 7)]) (r := []) (b := A 109) (q := 109) 160 (gd rfl) rfl rfl rfl rfl rfl (ww_o rfl) (Nat.le_of_ble_eq_true rfl) (Nat.zero_le _) (Nat.zero_le _) (f_300 (by first | exact dq1 hd rfl | exact dq0 hd rfl | exact dq2 hd rfl | exact dq3 hd rfl | omega) hI151 (in_w 7 7 (in_c 7 rfl) rfl) v157 v157a n157 p157) (fun e u h => h) (fun v u h => ?_)
                            obtain ⟨s157, hI157, hF157, n157a, n157b, rfl, rfl, p157a⟩ := h
                            obtain ⟨z157a, e157⟩ : ∃ w, w = s157.2.2.1 109 27 := ⟨_, rfl⟩
                            have i157a := inv_F hI157 0 1000 rfl e157
                            rw [← (show z157a = s157.2.2.1 109 27 from e157)] at n157a
                            rw [← (show u_109_22 = s157.2.2.1 109 22 from fr_F (s := (sF (sF (sF (sF sc0 109 29 w0_109_27) 109 30 z71) 109 28 (Int32.ofInt 2)) 109 27 z150)) (sF_ne rfl (sF_ne rfl (sF_ne rfl (sF_ne rfl (fr_F e_109_22 hFc0 rfl))))) hF157 rfl)] at n157a
                            rw [← (show z150 = (sF (sF (sF (sF sc0 109 29 w0_109_27) 109 30 z71) 109 28 (Int32.ofInt 2)) 109 27 z150).2.2.1 109 27 from sF_get)] at n157b
                            rw [← (show z157a = s157.2.2.1 109 27 from e157)] at n157b
                            show GG _ _ _ _ _ _ _ _ [] _ _ _
                            refine g_aload_n 161 (gd rfl) rfl rfl ?_
                            refine g_iload_n 162 (gd rfl) rfl rfl ?_
                            refine g_if_eq 165 173 (gd rfl) rfl rfl (fun c162 => ?_) (fun c162 => ?_)
                            · skip
                              exact zn_eq c162 (in_c 1 rfl) rfl
                            · skip
                              refine g_aload_n 166 (gd rfl) rfl rfl ?_
                              refine g_getL 169 (gd rfl) rfl rfl rfl (fun z166 e166 => ?_)
                              refine g_lneg 170 (gd rfl) rfl (fun z169 e169 => ?_)
                              refine g_goto 177 (gd rfl) rfl ?_
                              refine g_putL 180 (gd rfl) rfl rfl rfl rfl ?_
                              have hI177 := inv_sG (q := 109) (j := 31) (x := z169) hI157 rfl (l_rng z169)
                              have n180 : ∃ k v, TKN (s.1 125) (s.2.2.1 109 22).toInt.toNat (s.2.2.1 109 27).toInt.toNat ((sG s157 109 31 z169).2.2.1 109 29).toInt.toNat ((sG s157 109 31 z169).2.2.1 109 27).toInt.toNat k v ∧ NTK s (sG s157 109 31 z169) k v := by exfalso; have a0 := oa7 i94a i71 ((in_c 1 rfl)) i81 i157a ((in_c 2 rfl)) i150; have a7 := t_add e150 i71 (in_c 1 rfl) rfl; have a8 := in_u i107; have a9 := t_add e106 i71 (in_c 1 rfl) rfl; have a10 := in_u i94; have a11 := t_add e89 i71 (in_c 1 rfl) rfl; have oc := oc_299_109; omega
                              have n180a : (z157a).toInt ≤ (u_109_22).toInt := by have a0 := oa7 i94a i71 ((in_c 1 rfl)) i81 i157a ((in_c 2 rfl)) i150; have a7 := t_add e150 i71 (in_c 1 rfl) rfl; have a8 := in_u i107; have a9 := t_add e106 i71 (in_c 1 rfl) rfl; have a10 := in_u i94; have a11 := t_add e89 i71 (in_c 1 rfl) rfl; have oc := oc_299_109; omega
                              have n180b : ((sG s157 109 31 z169).2.2.1 109 27).toInt ≤ ((sG s157 109 31 z169).2.2.1 109 22).toInt := by have b0 : z157a = (sG s157 109 31 z169).2.2.1 109 27 := sG_F (e157); have b1 : u_109_22 = (sG s157 109 31 z169).2.2.1 109 22 := sG_F (fr_F (s := (sF (sF (sF (sF sc0 109 29 w0_109_27) 109 30 z71) 109 28 (Int32.ofInt 2)) 109 27 z150)) (sF_ne rfl (sF_ne rfl (sF_ne rfl (sF_ne rfl (fr_F e_109_22 hFc0 rfl))))) hF157 rfl); rw [← b0, ← b1]; exact n180a
                              have n180c : (u_109_27).toInt ≤ (z157a).toInt := by have a0 := oa7 i94a i71 ((in_c 1 rfl)) i81 i157a ((in_c 2 rfl)) i150; have a7 := t_add e150 i71 (in_c 1 rfl) rfl; have a8 := in_u i107; have a9 := t_add e106 i71 (in_c 1 rfl) rfl; have a10 := in_u i94; have a11 := t_add e89 i71 (in_c 1 rfl) rfl; have oc := oc_299_109; omega
                              have n180d : (s.2.2.1 109 27).toInt ≤ ((sG s157 109 31 z169).2.2.1 109 27).toInt := by have b0 : z157a = (sG s157 109 31 z169).2.2.1 109 27 := sG_F (e157); first | (rw [← b0, ← e_109_27]; exact n180c) | (rw [← b0]; exact n180c)
                              have n180e : ((Int32.ofInt 2)).toInt ≠ 0 → (u_109_27).toInt + 1 ≤ (z157a).toInt := by have a0 := oa7 i94a i71 ((in_c 1 rfl)) i81 i157a ((in_c 2 rfl)) i150; have a7 := t_add e150 i71 (in_c 1 rfl) rfl; have a8 := in_u i107; have a9 := t_add e106 i71 (in_c 1 rfl) rfl; have a10 := in_u i94; have a11 := t_add e89 i71 (in_c 1 rfl) rfl; have oc := oc_299_109; omega
                              have n180f : ((sG s157 109 31 z169).2.2.1 109 28).toInt ≠ 0 → (s.2.2.1 109 27).toInt + 1 ≤ ((sG s157 109 31 z169).2.2.1 109 27).toInt := by have b0 : (Int32.ofInt 2) = (sG s157 109 31 z169).2.2.1 109 28 := sG_F (fr_F (s := (sF (sF (sF (sF sc0 109 29 w0_109_27) 109 30 z71) 109 28 (Int32.ofInt 2)) 109 27 z150)) (sF_ne rfl (sF_get)) hF157 rfl); have b1 : z157a = (sG s157 109 31 z169).2.2.1 109 27 := sG_F (e157); first | (rw [← b0, ← b1, ← e_109_27]; exact n180e) | (rw [← b0, ← b1]; exact n180e)
                              have n180g : ((Int32.ofInt 2)).toInt = 1 → 97 ≤ (z71).toInt := by exact fun h => absurd h (by decide)
                              have n180h : ((sG s157 109 31 z169).2.2.1 109 28).toInt = 1 → 97 ≤ ((sG s157 109 31 z169).2.2.1 109 30).toInt := by have b0 : (Int32.ofInt 2) = (sG s157 109 31 z169).2.2.1 109 28 := sG_F (fr_F (s := (sF (sF (sF (sF sc0 109 29 w0_109_27) 109 30 z71) 109 28 (Int32.ofInt 2)) 109 27 z150)) (sF_ne rfl (sF_get)) hF157 rfl); have b1 : z71 = (sG s157 109 31 z169).2.2.1 109 30 := sG_F (fr_F (s := (sF (sF (sF (sF sc0 109 29 w0_109_27) 109 30 z71) 109 28 (Int32.ofInt 2)) 109 27 z150)) (sF_ne rfl (sF_ne rfl (sF_get))) hF157 rfl); rw [← b0, ← b1]; exact n180g
                              have n180i : ((Int32.ofInt 2)).toInt = 1 → (z71).toInt ≤ 122 := by exact fun h => absurd h (by decide)
                              have n180j : ((sG s157 109 31 z169).2.2.1 109 28).toInt = 1 → ((sG s157 109 31 z169).2.2.1 109 30).toInt ≤ 122 := by have b0 : (Int32.ofInt 2) = (sG s157 109 31 z169).2.2.1 109 28 := sG_F (fr_F (s := (sF (sF (sF (sF sc0 109 29 w0_109_27) 109 30 z71) 109 28 (Int32.ofInt 2)) 109 27 z150)) (sF_ne rfl (sF_get)) hF157 rfl); have b1 : z71 = (sG s157 109 31 z169).2.2.1 109 30 := sG_F (fr_F (s := (sF (sF (sF (sF sc0 109 29 w0_109_27) 109 30 z71) 109 28 (Int32.ofInt 2)) 109 27 z150)) (sF_ne rfl (sF_ne rfl (sF_get))) hF157 rfl); rw [← b0, ← b1]; exact n180i
                              exact g_return (gd rfl) rfl (hP _ _ ⟨(sG s157 109 31 z169), hI177, (fr_sG rfl (fr_tr rfl (fr_sF rfl (fr_sF rfl (fr_sF rfl (fr_sF rfl hFc0)))) hF157)), n180b, n180d, n180f, n180h, n180j, rfl, rfl, n180⟩)
                    · skip
                      exact n_le c121x3 (in_c 48 rfl) i81 rfl
        · skip
          refine g_aload_n 58 (gd rfl) rfl rfl ?_
          refine g_iconst 0 59 (gd rfl) rfl rfl ?_
          refine g_putI 62 (gd rfl) rfl rfl rfl rfl ?_
          have hI59 := inv_sF (q := 109) (j := 28) hI43 rfl (in_w (-2147483648) 2147483647 (in_c 0 rfl) rfl)
          have n62 : ∃ k v, TKN (s.1 125) (s.2.2.1 109 22).toInt.toNat (s.2.2.1 109 27).toInt.toNat ((sF (sF sc0 109 29 w0_109_27) 109 28 (Int32.ofInt 0)).2.2.1 109 29).toInt.toNat ((sF (sF sc0 109 29 w0_109_27) 109 28 (Int32.ofInt 0)).2.2.1 109 27).toInt.toNat k v ∧ NTK s (sF (sF sc0 109 29 w0_109_27) 109 28 (Int32.ofInt 0)) k v := by have hS : tkS (s.1 125) (u_109_22).toInt.toNat (u_109_27).toInt.toNat w0_109_27.toInt.toNat := ⟨by have a0 := oa3 ro_109_22 ((inv_F hIc0 0 1000 rfl v0_109_27)) ((in_c 0 rfl)); have oc := oc_299_109; omega, by have a0 := oa3 ro_109_22 ((inv_F hIc0 0 1000 rfl v0_109_27)) ((in_c 0 rfl)); have oc := oc_299_109; omega, fun i a b => g0_0 i (by rw [← e_109_27]; exact a) (by have a0 := oa3 ro_109_22 ((inv_F hIc0 0 1000 rfl v0_109_27)) ((in_c 0 rfl)); have oc := oc_299_109; omega), fun h => by exfalso; have a0 := oa3 ro_109_22 ((inv_F hIc0 0 1000 rfl v0_109_27)) ((in_c 0 rfl)); have oc := oc_299_109; omega⟩; refine ⟨0, 0, ?_, ?_⟩; (rw [← (show w0_109_27 = (sF (sF sc0 109 29 w0_109_27) 109 28 (Int32.ofInt 0)).2.2.1 109 27 from sF_ne rfl (sF_ne rfl (v0_109_27))), ← (show w0_109_27 = (sF (sF sc0 109 29 w0_109_27) 109 28 (Int32.ofInt 0)).2.2.1 109 29 from sF_ne rfl (sF_get)), ← e_109_22, ← e_109_27]; exact tkn_0 hS (by have a0 := oa3 ro_109_22 ((inv_F hIc0 0 1000 rfl v0_109_27)) ((in_c 0 rfl)); have oc := oc_299_109; omega) (by have a0 := oa3 ro_109_22 ((inv_F hIc0 0 1000 rfl v0_109_27)) ((in_c 0 rfl)); have oc := oc_299_109; omega) rfl); (exact ntk_0 ((show (Int32.ofInt 0) = (sF (sF sc0 109 29 w0_109_27) 109 28 (Int32.ofInt 0)).2.2.1 109 28 from sF_get)).symm g0_1)
          have n62a : (w0_109_27).toInt ≤ (u_109_22).toInt := by first | exact n0_0 | (have a0 := oa3 ro_109_22 ((inv_F hIc0 0 1000 rfl v0_109_27)) ((in_c 0 rfl)); have oc := oc_299_109; omega)
          have n62b : ((sF (sF sc0 109 29 w0_109_27) 109 28 (Int32.ofInt 0)).2.2.1 109 27).toInt ≤ ((sF (sF sc0 109 29 w0_109_27) 109 28 (Int32.ofInt 0)).2.2.1 109 22).toInt := by have b0 : w0_109_27 = (sF (sF sc0 109 29 w0_109_27) 109 28 (Int32.ofInt 0)).2.2.1 109 27 := sF_ne rfl (sF_ne rfl (v0_109_27)); have b1 : u_109_22 = (sF (sF sc0 109 29 w0_109_27) 109 28 (Int32.ofInt 0)).2.2.1 109 22 := sF_ne rfl (sF_ne rfl (fr_F e_109_22 hFc0 rfl)); rw [← b0, ← b1]; exact n62a
          have n62c : (u_109_27).toInt ≤ (w0_109_27).toInt := by first | exact n0_1 | (have a0 := oa3 ro_109_22 ((inv_F hIc0 0 1000 rfl v0_109_27)) ((in_c 0 rfl)); have oc := oc_299_109; omega)
          have n62d : (s.2.2.1 109 27).toInt ≤ ((sF (sF sc0 109 29 w0_109_27) 109 28 (Int32.ofInt 0)).2.2.1 109 27).toInt := by have b0 : w0_109_27 = (sF (sF sc0 109 29 w0_109_27) 109 28 (Int32.ofInt 0)).2.2.1 109 27 := sF_ne rfl (sF_ne rfl (v0_109_27)); first | (rw [← b0, ← e_109_27]; exact n62c) | (rw [← b0]; exact n62c)
          have n62e : ((Int32.ofInt 0)).toInt ≠ 0 → (u_109_27).toInt + 1 ≤ (w0_109_27).toInt := by exact fun h => absurd rfl h
          have n62f : ((sF (sF sc0 109 29 w0_109_27) 109 28 (Int32.ofInt 0)).2.2.1 109 28).toInt ≠ 0 → (s.2.2.1 109 27).toInt + 1 ≤ ((sF (sF sc0 109 29 w0_109_27) 109 28 (Int32.ofInt 0)).2.2.1 109 27).toInt := by have b0 : (Int32.ofInt 0) = (sF (sF sc0 109 29 w0_109_27) 109 28 (Int32.ofInt 0)).2.2.1 109 28 := sF_get; have b1 : w0_109_27 = (sF (sF sc0 109 29 w0_109_27) 109 28 (Int32.ofInt 0)).2.2.1 109 27 := sF_ne rfl (sF_ne rfl (v0_109_27)); first | (rw [← b0, ← b1, ← e_109_27]; exact n62e) | (rw [← b0, ← b1]; exact n62e)
          have n62g : ((Int32.ofInt 0)).toInt = 1 → 97 ≤ (((sF (sF sc0 109 29 w0_109_27) 109 28 (Int32.ofInt 0)).2.2.1 109 30)).toInt := by exact fun h => absurd h (by decide)
          have n62h : ((sF (sF sc0 109 29 w0_109_27) 109 28 (Int32.ofInt 0)).2.2.1 109 28).toInt = 1 → 97 ≤ ((sF (sF sc0 109 29 w0_109_27) 109 28 (Int32.ofInt 0)).2.2.1 109 30).toInt := by have b0 : (Int32.ofInt 0) = (sF (sF sc0 109 29 w0_109_27) 109 28 (Int32.ofInt 0)).2.2.1 109 28 := sF_get; rw [← b0]; exact n62g
          have n62i : ((Int32.ofInt 0)).toInt = 1 → (((sF (sF sc0 109 29 w0_109_27) 109 28 (Int32.ofInt 0)).2.2.1 109 30)).toInt ≤ 122 := by exact fun h => absurd h (by decide)
          have n62j : ((sF (sF sc0 109 29 w0_109_27) 109 28 (Int32.ofInt 0)).2.2.1 109 28).toInt = 1 → ((sF (sF sc0 109 29 w0_109_27) 109 28 (Int32.ofInt 0)).2.2.1 109 30).toInt ≤ 122 := by have b0 : (Int32.ofInt 0) = (sF (sF sc0 109 29 w0_109_27) 109 28 (Int32.ofInt 0)).2.2.1 109 28 := sF_get; rw [← b0]; exact n62i
          exact g_return (gd rfl) rfl (hP _ _ ⟨(sF (sF sc0 109 29 w0_109_27) 109 28 (Int32.ofInt 0)), hI59, (fr_sF rfl (fr_sF rfl hFc0)), n62b, n62d, n62f, n62h, n62j, rfl, rfl, n62⟩)
      · skip
        have i8 := r_lt1 0 999 c8 (inv_F hIc0 0 1000 rfl v0_109_27) ro_109_22 rfl
        have i8a := r_lt2 1 1000 c8 (inv_F hIc0 0 1000 rfl v0_109_27) ro_109_22 rfl
        refine g_aload_n 12 (gd rfl) rfl rfl ?_
        refine g_getA (q2 := 125) 15 (gd rfl) rfl rfl rfl rfl ?_
        refine g_aload_n 16 (gd rfl) rfl rfl ?_
        refine g_getI 19 (gd rfl) rfl rfl rfl (fun z16 e16 => ?_)
        have q16 : w0_109_27 = z16 := (v0_109_27).trans e16.symm
        subst q16
        refine g_iaload 20 (gd rfl) rfl (n := 1000) rfl (in_ix i8 rfl) (fun z19 e19 => ?_)
        have i19 := inv_I hIc0 (n := 1000) (t := 0) 0 126 rfl (in_ix i8 rfl) rfl e19
        refine g_bipush 32 22 (gd rfl) rfl rfl ?_
        refine g_cmp_ne 25 38 (gd rfl) rfl rfl (fun c22 => ?_) (fun c22 => ?_)
        · skip
          refine g_aload_n 39 (gd rfl) rfl rfl ?_
          refine g_aload_n 40 (gd rfl) rfl rfl ?_
          refine g_getI 43 (gd rfl) rfl rfl rfl (fun z40 e40 => ?_)
          have q40 : w0_109_27 = z40 := (v0_109_27).trans e40.symm
          subst q40
          refine g_putI 46 (gd rfl) rfl rfl rfl rfl ?_
          have hI43 := inv_sF (q := 109) (j := 29) hIc0 rfl (in_w 0 1000 i8 rfl)
          refine g_aload_n 47 (gd rfl) rfl rfl ?_
          refine g_getI 50 (gd rfl) rfl rfl rfl (fun z47 e47 => ?_)
          have q47 : w0_109_27 = z47 := (sF_ne rfl (v0_109_27)).trans e47.symm
          subst q47
          refine g_aload_n 51 (gd rfl) rfl rfl ?_
          refine g_getI 54 (gd rfl) rfl rfl rfl (fun z51 e51 => ?_)
          have q51 : u_109_22 = z51 := (sF_ne rfl (fr_F e_109_22 hFc0 rfl)).trans e51.symm
          subst q51
          refine g_cmp_ne 57 63 (gd rfl) rfl rfl (fun c54 => ?_) (fun c54 => ?_)
          · skip
            refine g_aload_n 64 (gd rfl) rfl rfl ?_
            refine g_getA (q2 := 125) 67 (gd rfl) rfl rfl rfl rfl ?_
            refine g_aload_n 68 (gd rfl) rfl rfl ?_
            refine g_getI 71 (gd rfl) rfl rfl rfl (fun z68 e68 => ?_)
            have q68 : w0_109_27 = z68 := (sF_ne rfl (v0_109_27)).trans e68.symm
            subst q68
            refine g_iaload 72 (gd rfl) rfl (n := 1000) rfl (in_ix i8 rfl) (fun z71 e71 => ?_)
            have q71 : z19 = z71 := (sF_I (e19)).trans e71.symm
            subst q71
            refine g_istore_n 73 (gd rfl) rfl (Nat.le_of_ble_eq_true rfl) ?_
            refine g_aload_n 74 (gd rfl) rfl rfl ?_
            refine g_iload_n 75 (gd rfl) rfl rfl ?_
            refine g_putI 78 (gd rfl) rfl rfl rfl rfl ?_
            have hI75 := inv_sF (q := 109) (j := 30) hI43 rfl (in_w (-2147483648) 2147483647 i19 rfl)
            refine g_iload_n 79 (gd rfl) rfl rfl ?_
            refine g_bipush 45 81 (gd rfl) rfl rfl ?_
            refine g_cmp_ne 84 118 (gd rfl) rfl rfl (fun c81 => ?_) (fun c81 => ?_)
            · skip
              refine g_iconst 0 119 (gd rfl) rfl rfl ?_
              refine g_istore_n 120 (gd rfl) rfl (Nat.le_of_ble_eq_true rfl) ?_
              refine g_iload_n 121 (gd rfl) rfl rfl ?_
              refine g_calls (As := [.int z19]) (r := []) 124 (gd rfl) rfl rfl rfl rfl rfl (Nat.le_of_ble_eq_true rfl) (mc := 0) (ms := 0) (Nat.zero_le _) (Nat.zero_le _) (P := fun v u => _) ?_ (fun v u h => h)
              intro po121 xx121 hp121 hx121
              refine g_enter2 (k := 297) (N := 300) (by first | exact dq1 hd rfl | exact dq0 hd rfl | exact dq2 hd rfl | exact dq3 hd rfl | omega) rfl (Nat.le_of_ble_eq_true rfl) ?_
              refine g_iload_n 1 (gd rfl) rfl rfl ?_
              refine g_bipush 48 3 (gd rfl) rfl rfl ?_
              refine g_cmp_lt 6 16 (gd rfl) rfl rfl (fun c121x3 => ?_) (fun c121x3 => ?_)
              · skip
                have i121x3 := r_lt1 0 47 c121x3 i19 (in_c 48 rfl) rfl
                refine g_iconst 0 17 (gd rfl) rfl rfl ?_
                refine g_ireturn (gd rfl) rfl (nb01 (in_w 0 1 (in_c 0 rfl) rfl)) (hp121 _ _ ?_)
                show GG _ _ _ _ _ _ _ _ [.int (Int32.ofInt 0)] _ _ _
                refine g_if_ne 127 131 (gd rfl) rfl rfl (fun c124 => ?_) (fun c124 => ?_)
                · skip
                  exact zn_ne c124 (in_c 0 rfl) rfl
                · skip
                  refine g_iload_n 128 (gd rfl) rfl rfl ?_
                  refine g_if_eq 131 181 (gd rfl) rfl rfl (fun c128 => ?_) (fun c128 => ?_)
                  · skip
                    refine g_aload_n 182 (gd rfl) rfl rfl ?_
                    refine g_iload_n 183 (gd rfl) rfl rfl ?_
                    refine g_calls (As := [.int z19]) (r := [.ref (A 109)]) 186 (gd rfl) rfl rfl rfl rfl rfl (Nat.le_of_ble_eq_true rfl) (mc := 0) (ms := 0) (Nat.zero_le _) (Nat.zero_le _) (P := fun v u => _) ?_ (fun v u h => h)
                    intro po183 xx183 hp183 hx183
                    refine g_enter2 (k := 296) (N := 300) (by first | exact dq1 hd rfl | exact dq0 hd rfl | exact dq2 hd rfl | exact dq3 hd rfl | omega) rfl (Nat.le_of_ble_eq_true rfl) ?_
                    refine g_iload_n 1 (gd rfl) rfl rfl ?_
                    refine g_bipush 97 3 (gd rfl) rfl rfl ?_
                    refine g_cmp_lt 6 16 (gd rfl) rfl rfl (fun c183x3 => ?_) (fun c183x3 => ?_)
                    · skip
                      refine g_iconst 0 17 (gd rfl) rfl rfl ?_
                      refine g_ireturn (gd rfl) rfl (nb01 (in_w 0 1 (in_c 0 rfl) rfl)) (hp183 _ _ ?_)
                      show GG _ _ _ _ _ _ _ _ [.int (Int32.ofInt 0), .ref (A 109)] _ _ _
                      refine g_if_eq 189 193 (gd rfl) rfl rfl (fun c186 => ?_) (fun c186 => ?_)
                      · skip
                        refine g_iconst 3 194 (gd rfl) rfl rfl ?_
                        refine g_putI 197 (gd rfl) rfl rfl rfl rfl ?_
                        have hI194 := inv_sF (q := 109) (j := 28) hI75 rfl (in_w (-2147483648) 2147483647 (in_c 3 rfl) rfl)
                        refine g_aload_n 198 (gd rfl) rfl rfl ?_
                        refine g_getI 201 (gd rfl) rfl rfl rfl (fun z198 e198 => ?_)
                        have q198 : (Int32.ofInt 3) = z198 := (sF_get).trans e198.symm
                        subst q198
                        refine g_iconst 3 202 (gd rfl) rfl rfl ?_
                        refine g_cmp_ne 205 220 (gd rfl) rfl rfl (fun c202 => ?_) (fun c202 => ?_)
                        · skip
                          exact n_ne c202 (in_c 3 rfl) (in_c 3 rfl) rfl
                        · skip
                          refine g_iload_n 206 (gd rfl) rfl rfl ?_
                          refine g_bipush 59 208 (gd rfl) rfl rfl ?_
                          refine g_cmp_eq 211 220 (gd rfl) rfl rfl (fun c208 => ?_) (fun c208 => ?_)
                          · skip
                            exact n_eq c208 i121x3 (in_c 59 rfl) rfl
                          · skip
                            refine g_aload_n 212 (gd rfl) rfl rfl ?_
                            refine g_iconst 1 213 (gd rfl) rfl rfl ?_
                            refine g_aload_n 214 (gd rfl) rfl rfl ?_
                            refine g_getI 217 (gd rfl) rfl rfl rfl (fun z214 e214 => ?_)
                            have q214 : w0_109_27 = z214 := (sF_ne rfl (sF_ne rfl (sF_get))).trans e214.symm
                            subst q214
                            refine g_callv (X := _) (As := [.int (Int32.ofInt 1), .int w0_109_27]) (r := []) (b := A 109) (q := 109) 220 (gd rfl) rfl rfl rfl rfl rfl (ww_o rfl) (Nat.le_of_ble_eq_true rfl) (Nat.zero_le _) (Nat.zero_le _) (f_298 (by first | exact dq1 hd rfl | exact dq0 hd rfl | exact dq2 hd rfl | exact dq3 hd rfl | omega) hI194 (in_w 1 5 (in_c 1 rfl) rfl) rfl) (fun e u h => h) (fun v u h => ?_)
                            obtain ⟨s217, hI217, hF217, n217, rfl, rfl, p217⟩ := h
                            obtain ⟨z217a, e217⟩ : ∃ w, w = s217.2.2.1 109 23 := ⟨_, rfl⟩
                            have i217a := inv_F hI217 0 9 rfl e217
                            rw [← (show z217a = s217.2.2.1 109 23 from e217)] at n217
                            show GG _ _ _ _ _ _ _ _ [] _ _ _
                            refine g_aload_n 221 (gd rfl) rfl rfl ?_
                            refine g_dup 222 (gd rfl) rfl rfl ?_
                            refine g_getI 225 (gd rfl) rfl rfl rfl (fun z222 e222 => ?_)
                            have q222 : w0_109_27 = z222 := (fr_F (s := (sF (sF (sF sc0 109 29 w0_109_27) 109 30 z19) 109 28 (Int32.ofInt 3))) (sF_ne rfl (sF_ne rfl (sF_ne rfl (v0_109_27)))) hF217 rfl).trans e222.symm
                            subst q222
                            refine g_iconst 1 226 (gd rfl) rfl rfl ?_
                            refine g_iadd 227 (gd rfl) rfl (fun z226 e226 => ?_)
                            have i226 := in_add 1 1000 e226 i8 (in_c 1 rfl) rfl rfl
                            refine g_putI 230 (gd rfl) rfl rfl rfl rfl ?_
                            have hI227 := inv_sF (q := 109) (j := 27) hI217 rfl (in_w 0 1000 i226 rfl)
                            have n230 : ∃ k v, TKN (s.1 125) (s.2.2.1 109 22).toInt.toNat (s.2.2.1 109 27).toInt.toNat ((sF s217 109 27 z226).2.2.1 109 29).toInt.toNat ((sF s217 109 27 z226).2.2.1 109 27).toInt.toNat k v ∧ NTK s (sF s217 109 27 z226) k v := by have hT0 : s.1 125 w0_109_27.toInt.toNat = z19 := (by rw [e19, hFc0.1 125 rfl]; rfl); have hS : tkS (s.1 125) (u_109_22).toInt.toNat (u_109_27).toInt.toNat w0_109_27.toInt.toNat := ⟨by have a0 := oa5 i8a i8 ((in_c 0 rfl)) i121x3 i226; have a5 := t_add e226 i8 (in_c 1 rfl) rfl; have a6 := oa3 ((in_c 1 rfl)) i217a ((in_c 3 rfl)); have oc := oc_299_109; omega, by have a0 := oa5 i8a i8 ((in_c 0 rfl)) i121x3 i226; have a5 := t_add e226 i8 (in_c 1 rfl) rfl; have a6 := oa3 ((in_c 1 rfl)) i217a ((in_c 3 rfl)); have oc := oc_299_109; omega, fun i a b => g0_0 i (by rw [← e_109_27]; exact a) (by have a0 := oa5 i8a i8 ((in_c 0 rfl)) i121x3 i226; have a5 := t_add e226 i8 (in_c 1 rfl) rfl; have a6 := oa3 ((in_c 1 rfl)) i217a ((in_c 3 rfl)); have oc := oc_299_109; omega), fun _ => by rw [hT0]; have a0 := oa5 i8a i8 ((in_c 0 rfl)) i121x3 i226; have a5 := t_add e226 i8 (in_c 1 rfl) rfl; have a6 := oa3 ((in_c 1 rfl)) i217a ((in_c 3 rfl)); have oc := oc_299_109; omega⟩; refine ⟨4, 0, ?_, ?_⟩; (rw [← (show z226 = (sF s217 109 27 z226).2.2.1 109 27 from sF_get), ← (show w0_109_27 = (sF s217 109 27 z226).2.2.1 109 29 from sF_ne rfl (fr_F (s := (sF (sF (sF sc0 109 29 w0_109_27) 109 30 z19) 109 28 (Int32.ofInt 3))) (sF_ne rfl (sF_ne rfl (sF_get))) hF217 rfl)), ← e_109_22, ← e_109_27]; exact tkn_4 hS (by have a0 := oa5 i8a i8 ((in_c 0 rfl)) i121x3 i226; have a5 := t_add e226 i8 (in_c 1 rfl) rfl; have a6 := oa3 ((in_c 1 rfl)) i217a ((in_c 3 rfl)); have oc := oc_299_109; omega) (by rw [hT0]; unfold tkL; have a0 := oa5 i8a i8 ((in_c 0 rfl)) i121x3 i226; have a5 := t_add e226 i8 (in_c 1 rfl) rfl; have a6 := oa3 ((in_c 1 rfl)) i217a ((in_c 3 rfl)); have oc := oc_299_109; omega) (by rw [hT0]; have a0 := oa5 i8a i8 ((in_c 0 rfl)) i121x3 i226; have a5 := t_add e226 i8 (in_c 1 rfl) rfl; have a6 := oa3 ((in_c 1 rfl)) i217a ((in_c 3 rfl)); have oc := oc_299_109; omega) (by first | exact nq_1 (by rw [hT0]; unfold tkD; have a0 := oa5 i8a i8 ((in_c 0 rfl)) i121x3 i226; have a5 := t_add e226 i8 (in_c 1 rfl) rfl; have a6 := oa3 ((in_c 1 rfl)) i217a ((in_c 3 rfl)); have oc := oc_299_109; omega) (by rw [hT0]; have a0 := oa5 i8a i8 ((in_c 0 rfl)) i121x3 i226; have a5 := t_add e226 i8 (in_c 1 rfl) rfl; have a6 := oa3 ((in_c 1 rfl)) i217a ((in_c 3 rfl)); have oc := oc_299_109; omega) | exact nq_2 (by rw [hT0]; have a0 := oa5 i8a i8 ((in_c 0 rfl)) i121x3 i226; have a5 := t_add e226 i8 (in_c 1 rfl) rfl; have a6 := oa3 ((in_c 1 rfl)) i217a ((in_c 3 rfl)); have oc := oc_299_109; omega) (fun h => by first | (exfalso; have a0 := oa5 i8a i8 ((in_c 0 rfl)) i121x3 i226; have a5 := t_add e226 i8 (in_c 1 rfl) rfl; have a6 := oa3 ((in_c 1 rfl)) i217a ((in_c 3 rfl)); have oc := oc_299_109; omega) | (rw [show s.1 125 (w0_109_27.toInt.toNat + 1) = z107 from (by rw [e107, show z106.toNatClampNeg = w0_109_27.toInt.toNat + 1 from (by show z106.toInt.toNat = _; have a0 := oa5 i8a i8 ((in_c 0 rfl)) i121x3 i226; have a5 := t_add e226 i8 (in_c 1 rfl) rfl; have a6 := oa3 ((in_c 1 rfl)) i217a ((in_c 3 rfl)); have oc := oc_299_109; omega)]; exact congrFun (hFc0.1 125 rfl).symm _)]; unfold tkD; have a0 := oa5 i8a i8 ((in_c 0 rfl)) i121x3 i226; have a5 := t_add e226 i8 (in_c 1 rfl) rfl; have a6 := oa3 ((in_c 1 rfl)) i217a ((in_c 3 rfl)); have oc := oc_299_109; omega))) (by have a0 := oa5 i8a i8 ((in_c 0 rfl)) i121x3 i226; have a5 := t_add e226 i8 (in_c 1 rfl) rfl; have a6 := oa3 ((in_c 1 rfl)) i217a ((in_c 3 rfl)); have oc := oc_299_109; omega) rfl); (exact ntk_4 ((show (Int32.ofInt 3) = (sF s217 109 27 z226).2.2.1 109 28 from sF_ne rfl (fr_F (s := (sF (sF (sF sc0 109 29 w0_109_27) 109 30 z19) 109 28 (Int32.ofInt 3))) (sF_get) hF217 rfl))).symm (by rw [← (show z19 = (sF s217 109 27 z226).2.2.1 109 30 from sF_ne rfl (fr_F (s := (sF (sF (sF sc0 109 29 w0_109_27) 109 30 z19) 109 28 (Int32.ofInt 3))) (sF_ne rfl (sF_get)) hF217 rfl))]; have a0 := oa5 i8a i8 ((in_c 0 rfl)) i121x3 i226; have a5 := t_add e226 i8 (in_c 1 rfl) rfl; have a6 := oa3 ((in_c 1 rfl)) i217a ((in_c 3 rfl)); have oc := oc_299_109; omega) (fbl_tr g0_1 (by rw [← (show w0_109_27 = (sF s217 109 27 z226).2.2.1 109 29 from sF_ne rfl (fr_F (s := (sF (sF (sF sc0 109 29 w0_109_27) 109 30 z19) 109 28 (Int32.ofInt 3))) (sF_ne rfl (sF_ne rfl (sF_get))) hF217 rfl))]; exact p217)))
                            have n230a : (z226).toInt ≤ (u_109_22).toInt := by have a0 := oa5 i8a i8 ((in_c 0 rfl)) i121x3 i226; have a5 := t_add e226 i8 (in_c 1 rfl) rfl; have a6 := oa3 ((in_c 1 rfl)) i217a ((in_c 3 rfl)); have oc := oc_299_109; omega
                            have n230b : ((sF s217 109 27 z226).2.2.1 109 27).toInt ≤ ((sF s217 109 27 z226).2.2.1 109 22).toInt := by have b0 : z226 = (sF s217 109 27 z226).2.2.1 109 27 := sF_get; have b1 : u_109_22 = (sF s217 109 27 z226).2.2.1 109 22 := sF_ne rfl (fr_F (s := (sF (sF (sF sc0 109 29 w0_109_27) 109 30 z19) 109 28 (Int32.ofInt 3))) (sF_ne rfl (sF_ne rfl (sF_ne rfl (fr_F e_109_22 hFc0 rfl)))) hF217 rfl); rw [← b0, ← b1]; exact n230a
                            have n230c : (u_109_27).toInt ≤ (z226).toInt := by have a0 := oa5 i8a i8 ((in_c 0 rfl)) i121x3 i226; have a5 := t_add e226 i8 (in_c 1 rfl) rfl; have a6 := oa3 ((in_c 1 rfl)) i217a ((in_c 3 rfl)); have oc := oc_299_109; omega
                            have n230d : (s.2.2.1 109 27).toInt ≤ ((sF s217 109 27 z226).2.2.1 109 27).toInt := by have b0 : z226 = (sF s217 109 27 z226).2.2.1 109 27 := sF_get; first | (rw [← b0, ← e_109_27]; exact n230c) | (rw [← b0]; exact n230c)
                            have n230e : ((Int32.ofInt 3)).toInt ≠ 0 → (u_109_27).toInt + 1 ≤ (z226).toInt := by have a0 := oa5 i8a i8 ((in_c 0 rfl)) i121x3 i226; have a5 := t_add e226 i8 (in_c 1 rfl) rfl; have a6 := oa3 ((in_c 1 rfl)) i217a ((in_c 3 rfl)); have oc := oc_299_109; omega
                            have n230f : ((sF s217 109 27 z226).2.2.1 109 28).toInt ≠ 0 → (s.2.2.1 109 27).toInt + 1 ≤ ((sF s217 109 27 z226).2.2.1 109 27).toInt := by have b0 : (Int32.ofInt 3) = (sF s217 109 27 z226).2.2.1 109 28 := sF_ne rfl (fr_F (s := (sF (sF (sF sc0 109 29 w0_109_27) 109 30 z19) 109 28 (Int32.ofInt 3))) (sF_get) hF217 rfl); have b1 : z226 = (sF s217 109 27 z226).2.2.1 109 27 := sF_get; first | (rw [← b0, ← b1, ← e_109_27]; exact n230e) | (rw [← b0, ← b1]; exact n230e)
                            have n230g : ((Int32.ofInt 3)).toInt = 1 → 97 ≤ (z19).toInt := by exact fun h => absurd h (by decide)
                            have n230h : ((sF s217 109 27 z226).2.2.1 109 28).toInt = 1 → 97 ≤ ((sF s217 109 27 z226).2.2.1 109 30).toInt := by have b0 : (Int32.ofInt 3) = (sF s217 109 27 z226).2.2.1 109 28 := sF_ne rfl (fr_F (s := (sF (sF (sF sc0 109 29 w0_109_27) 109 30 z19) 109 28 (Int32.ofInt 3))) (sF_get) hF217 rfl); have b1 : z19 = (sF s217 109 27 z226).2.2.1 109 30 := sF_ne rfl (fr_F (s := (sF (sF (sF sc0 109 29 w0_109_27) 109 30 z19) 109 28 (Int32.ofInt 3))) (sF_ne rfl (sF_get)) hF217 rfl); rw [← b0, ← b1]; exact n230g
                            have n230i : ((Int32.ofInt 3)).toInt = 1 → (z19).toInt ≤ 122 := by exact fun h => absurd h (by decide)
                            have n230j : ((sF s217 109 27 z226).2.2.1 109 28).toInt = 1 → ((sF s217 109 27 z226).2.2.1 109 30).toInt ≤ 122 := by have b0 : (Int32.ofInt 3) = (sF s217 109 27 z226).2.2.1 109 28 := sF_ne rfl (fr_F (s := (sF (sF (sF sc0 109 29 w0_109_27) 109 30 z19) 109 28 (Int32.ofInt 3))) (sF_get) hF217 rfl); have b1 : z19 = (sF s217 109 27 z226).2.2.1 109 30 := sF_ne rfl (fr_F (s := (sF (sF (sF sc0 109 29 w0_109_27) 109 30 z19) 109 28 (Int32.ofInt 3))) (sF_ne rfl (sF_get)) hF217 rfl); rw [← b0, ← b1]; exact n230i
                            exact g_return (gd rfl) rfl (hP _ _ ⟨(sF s217 109 27 z226), hI227, (fr_sF rfl (fr_tr rfl (fr_sF rfl (fr_sF rfl (fr_sF rfl hFc0))) hF217)), n230b, n230d, n230f, n230h, n230j, rfl, rfl, n230⟩)
                      · skip
                        exact zn_ne c186 (in_c 0 rfl) rfl
                    · skip
                      exact n_le c183x3 (in_c 97 rfl) i121x3 rfl
                  · skip
                    exact zn_ne c128 (in_c 0 rfl) rfl
              · skip
                have i121x3 := r_le2 48 126 c121x3 (in_c 48 rfl) i19 rfl
                refine g_iload_n 7 (gd rfl) rfl rfl ?_
                refine g_bipush 57 9 (gd rfl) rfl rfl ?_
                refine g_cmp_gt 12 16 (gd rfl) rfl rfl (fun c121x9 => ?_) (fun c121x9 => ?_)
                · skip
                  have i121x9 := r_lt2 58 126 c121x9 (in_c 57 rfl) i121x3 rfl
                  refine g_iconst 0 17 (gd rfl) rfl rfl ?_
                  refine g_ireturn (gd rfl) rfl (nb01 (in_w 0 1 (in_c 0 rfl) rfl)) (hp121 _ _ ?_)
                  show GG _ _ _ _ _ _ _ _ [.int (Int32.ofInt 0)] _ _ _
                  refine g_if_ne 127 131 (gd rfl) rfl rfl (fun c124 => ?_) (fun c124 => ?_)
                  · skip
                    exact zn_ne c124 (in_c 0 rfl) rfl
                  · skip
                    refine g_iload_n 128 (gd rfl) rfl rfl ?_
                    refine g_if_eq 131 181 (gd rfl) rfl rfl (fun c128 => ?_) (fun c128 => ?_)
                    · skip
                      refine g_aload_n 182 (gd rfl) rfl rfl ?_
                      refine g_iload_n 183 (gd rfl) rfl rfl ?_
                      refine g_calls (As := [.int z19]) (r := [.ref (A 109)]) 186 (gd rfl) rfl rfl rfl rfl rfl (Nat.le_of_ble_eq_true rfl) (mc := 0) (ms := 0) (Nat.zero_le _) (Nat.zero_le _) (P := fun v u => _) ?_ (fun v u h => h)
                      intro po183 xx183 hp183 hx183
                      refine g_enter2 (k := 296) (N := 300) (by first | exact dq1 hd rfl | exact dq0 hd rfl | exact dq2 hd rfl | exact dq3 hd rfl | omega) rfl (Nat.le_of_ble_eq_true rfl) ?_
                      refine g_iload_n 1 (gd rfl) rfl rfl ?_
                      refine g_bipush 97 3 (gd rfl) rfl rfl ?_
                      refine g_cmp_lt 6 16 (gd rfl) rfl rfl (fun c183x3 => ?_) (fun c183x3 => ?_)
                      · skip
                        have i183x3 := r_lt1 58 96 c183x3 i121x9 (in_c 97 rfl) rfl
                        refine g_iconst 0 17 (gd rfl) rfl rfl ?_
                        refine g_ireturn (gd rfl) rfl (nb01 (in_w 0 1 (in_c 0 rfl) rfl)) (hp183 _ _ ?_)
                        show GG _ _ _ _ _ _ _ _ [.int (Int32.ofInt 0), .ref (A 109)] _ _ _
                        refine g_if_eq 189 193 (gd rfl) rfl rfl (fun c186 => ?_) (fun c186 => ?_)
                        · skip
                          refine g_iconst 3 194 (gd rfl) rfl rfl ?_
                          refine g_putI 197 (gd rfl) rfl rfl rfl rfl ?_
                          have hI194 := inv_sF (q := 109) (j := 28) hI75 rfl (in_w (-2147483648) 2147483647 (in_c 3 rfl) rfl)
                          refine g_aload_n 198 (gd rfl) rfl rfl ?_
                          refine g_getI 201 (gd rfl) rfl rfl rfl (fun z198 e198 => ?_)
                          have q198 : (Int32.ofInt 3) = z198 := (sF_get).trans e198.symm
                          subst q198
                          refine g_iconst 3 202 (gd rfl) rfl rfl ?_
                          refine g_cmp_ne 205 220 (gd rfl) rfl rfl (fun c202 => ?_) (fun c202 => ?_)
                          · skip
                            exact n_ne c202 (in_c 3 rfl) (in_c 3 rfl) rfl
                          · skip
                            refine g_iload_n 206 (gd rfl) rfl rfl ?_
                            refine g_bipush 59 208 (gd rfl) rfl rfl ?_
                            refine g_cmp_eq 211 220 (gd rfl) rfl rfl (fun c208 => ?_) (fun c208 => ?_)
                            · skip
                              have i208 := r_eq1 59 59 c208 i183x3 (in_c 59 rfl) rfl
                              refine g_aload_n 221 (gd rfl) rfl rfl ?_
                              refine g_dup 222 (gd rfl) rfl rfl ?_
                              refine g_getI 225 (gd rfl) rfl rfl rfl (fun z222 e222 => ?_)
                              have q222 : w0_109_27 = z222 := (sF_ne rfl (sF_ne rfl (sF_ne rfl (v0_109_27)))).trans e222.symm
                              subst q222
                              refine g_iconst 1 226 (gd rfl) rfl rfl ?_
                              refine g_iadd 227 (gd rfl) rfl (fun z226 e226 => ?_)
                              have i226 := in_add 1 1000 e226 i8 (in_c 1 rfl) rfl rfl
                              refine g_putI 230 (gd rfl) rfl rfl rfl rfl ?_
                              have hI227 := inv_sF (q := 109) (j := 27) hI194 rfl (in_w 0 1000 i226 rfl)
                              have n230 : ∃ k v, TKN (s.1 125) (s.2.2.1 109 22).toInt.toNat (s.2.2.1 109 27).toInt.toNat ((sF (sF (sF (sF sc0 109 29 w0_109_27) 109 30 z19) 109 28 (Int32.ofInt 3)) 109 27 z226).2.2.1 109 29).toInt.toNat ((sF (sF (sF (sF sc0 109 29 w0_109_27) 109 30 z19) 109 28 (Int32.ofInt 3)) 109 27 z226).2.2.1 109 27).toInt.toNat k v ∧ NTK s (sF (sF (sF (sF sc0 109 29 w0_109_27) 109 30 z19) 109 28 (Int32.ofInt 3)) 109 27 z226) k v := by first | (have hT0 : s.1 125 w0_109_27.toInt.toNat = z19 := (by rw [e19, hFc0.1 125 rfl]; rfl); have hS : tkS (s.1 125) (u_109_22).toInt.toNat (u_109_27).toInt.toNat w0_109_27.toInt.toNat := ⟨by have a0 := oa5 i8a i8 ((in_c 0 rfl)) i208 i226; have a5 := t_add e226 i8 (in_c 1 rfl) rfl; have a6 := oa2 ((in_c 1 rfl)) ((in_c 3 rfl)); have oc := oc_299_109; omega, by have a0 := oa5 i8a i8 ((in_c 0 rfl)) i208 i226; have a5 := t_add e226 i8 (in_c 1 rfl) rfl; have a6 := oa2 ((in_c 1 rfl)) ((in_c 3 rfl)); have oc := oc_299_109; omega, fun i a b => g0_0 i (by rw [← e_109_27]; exact a) (by have a0 := oa5 i8a i8 ((in_c 0 rfl)) i208 i226; have a5 := t_add e226 i8 (in_c 1 rfl) rfl; have a6 := oa2 ((in_c 1 rfl)) ((in_c 3 rfl)); have oc := oc_299_109; omega), fun _ => by rw [hT0]; have a0 := oa5 i8a i8 ((in_c 0 rfl)) i208 i226; have a5 := t_add e226 i8 (in_c 1 rfl) rfl; have a6 := oa2 ((in_c 1 rfl)) ((in_c 3 rfl)); have oc := oc_299_109; omega⟩; refine ⟨1, z19.toInt - 97, ?_, ?_⟩; (rw [← (show z226 = (sF (sF (sF (sF sc0 109 29 w0_109_27) 109 30 z19) 109 28 (Int32.ofInt 3)) 109 27 z226).2.2.1 109 27 from sF_get), ← (show w0_109_27 = (sF (sF (sF (sF sc0 109 29 w0_109_27) 109 30 z19) 109 28 (Int32.ofInt 3)) 109 27 z226).2.2.1 109 29 from sF_ne rfl (sF_ne rfl (sF_ne rfl (sF_get)))), ← e_109_22, ← e_109_27]; exact tkn_1 hS (by have a0 := oa5 i8a i8 ((in_c 0 rfl)) i208 i226; have a5 := t_add e226 i8 (in_c 1 rfl) rfl; have a6 := oa2 ((in_c 1 rfl)) ((in_c 3 rfl)); have oc := oc_299_109; omega) (by rw [hT0]; exact ⟨by have a0 := oa5 i8a i8 ((in_c 0 rfl)) i208 i226; have a5 := t_add e226 i8 (in_c 1 rfl) rfl; have a6 := oa2 ((in_c 1 rfl)) ((in_c 3 rfl)); have oc := oc_299_109; omega, by have a0 := oa5 i8a i8 ((in_c 0 rfl)) i208 i226; have a5 := t_add e226 i8 (in_c 1 rfl) rfl; have a6 := oa2 ((in_c 1 rfl)) ((in_c 3 rfl)); have oc := oc_299_109; omega⟩) (by have a0 := oa5 i8a i8 ((in_c 0 rfl)) i208 i226; have a5 := t_add e226 i8 (in_c 1 rfl) rfl; have a6 := oa2 ((in_c 1 rfl)) ((in_c 3 rfl)); have oc := oc_299_109; omega) rfl (by rw [hT0])); (exact ntk_1 ((show (Int32.ofInt 3) = (sF (sF (sF (sF sc0 109 29 w0_109_27) 109 30 z19) 109 28 (Int32.ofInt 3)) 109 27 z226).2.2.1 109 28 from sF_ne rfl (sF_get))).symm (by rw [← (show z19 = (sF (sF (sF (sF sc0 109 29 w0_109_27) 109 30 z19) 109 28 (Int32.ofInt 3)) 109 27 z226).2.2.1 109 30 from sF_ne rfl (sF_ne rfl (sF_get)))]; omega) g0_1)) | (have hT0 : s.1 125 w0_109_27.toInt.toNat = z19 := (by rw [e19, hFc0.1 125 rfl]; rfl); have hS : tkS (s.1 125) (u_109_22).toInt.toNat (u_109_27).toInt.toNat w0_109_27.toInt.toNat := ⟨by have a0 := oa5 i8a i8 ((in_c 0 rfl)) i208 i226; have a5 := t_add e226 i8 (in_c 1 rfl) rfl; have a6 := oa2 ((in_c 1 rfl)) ((in_c 3 rfl)); have oc := oc_299_109; omega, by have a0 := oa5 i8a i8 ((in_c 0 rfl)) i208 i226; have a5 := t_add e226 i8 (in_c 1 rfl) rfl; have a6 := oa2 ((in_c 1 rfl)) ((in_c 3 rfl)); have oc := oc_299_109; omega, fun i a b => g0_0 i (by rw [← e_109_27]; exact a) (by have a0 := oa5 i8a i8 ((in_c 0 rfl)) i208 i226; have a5 := t_add e226 i8 (in_c 1 rfl) rfl; have a6 := oa2 ((in_c 1 rfl)) ((in_c 3 rfl)); have oc := oc_299_109; omega), fun _ => by rw [hT0]; have a0 := oa5 i8a i8 ((in_c 0 rfl)) i208 i226; have a5 := t_add e226 i8 (in_c 1 rfl) rfl; have a6 := oa2 ((in_c 1 rfl)) ((in_c 3 rfl)); have oc := oc_299_109; omega⟩; refine ⟨3, 59, ?_, ?_⟩; (rw [← (show z226 = (sF (sF (sF (sF sc0 109 29 w0_109_27) 109 30 z19) 109 28 (Int32.ofInt 3)) 109 27 z226).2.2.1 109 27 from sF_get), ← (show w0_109_27 = (sF (sF (sF (sF sc0 109 29 w0_109_27) 109 30 z19) 109 28 (Int32.ofInt 3)) 109 27 z226).2.2.1 109 29 from sF_ne rfl (sF_ne rfl (sF_ne rfl (sF_get)))), ← e_109_22, ← e_109_27]; exact tkn_3 hS (by have a0 := oa5 i8a i8 ((in_c 0 rfl)) i208 i226; have a5 := t_add e226 i8 (in_c 1 rfl) rfl; have a6 := oa2 ((in_c 1 rfl)) ((in_c 3 rfl)); have oc := oc_299_109; omega) (by rw [hT0]; have a0 := oa5 i8a i8 ((in_c 0 rfl)) i208 i226; have a5 := t_add e226 i8 (in_c 1 rfl) rfl; have a6 := oa2 ((in_c 1 rfl)) ((in_c 3 rfl)); have oc := oc_299_109; omega) (by have a0 := oa5 i8a i8 ((in_c 0 rfl)) i208 i226; have a5 := t_add e226 i8 (in_c 1 rfl) rfl; have a6 := oa2 ((in_c 1 rfl)) ((in_c 3 rfl)); have oc := oc_299_109; omega) rfl rfl); (exact ntk_3 ((show (Int32.ofInt 3) = (sF (sF (sF (sF sc0 109 29 w0_109_27) 109 30 z19) 109 28 (Int32.ofInt 3)) 109 27 z226).2.2.1 109 28 from sF_ne rfl (sF_get))).symm (by rw [← (show z19 = (sF (sF (sF (sF sc0 109 29 w0_109_27) 109 30 z19) 109 28 (Int32.ofInt 3)) 109 27 z226).2.2.1 109 30 from sF_ne rfl (sF_ne rfl (sF_get)))]; have a0 := oa5 i8a i8 ((in_c 0 rfl)) i208 i226; have a5 := t_add e226 i8 (in_c 1 rfl) rfl; have a6 := oa2 ((in_c 1 rfl)) ((in_c 3 rfl)); have oc := oc_299_109; omega) g0_1))
                              have n230a : (z226).toInt ≤ (u_109_22).toInt := by have a0 := oa5 i8a i8 ((in_c 0 rfl)) i208 i226; have a5 := t_add e226 i8 (in_c 1 rfl) rfl; have a6 := oa2 ((in_c 1 rfl)) ((in_c 3 rfl)); have oc := oc_299_109; omega
                              have n230b : ((sF (sF (sF (sF sc0 109 29 w0_109_27) 109 30 z19) 109 28 (Int32.ofInt 3)) 109 27 z226).2.2.1 109 27).toInt ≤ ((sF (sF (sF (sF sc0 109 29 w0_109_27) 109 30 z19) 109 28 (Int32.ofInt 3)) 109 27 z226).2.2.1 109 22).toInt := by have b0 : z226 = (sF (sF (sF (sF sc0 109 29 w0_109_27) 109 30 z19) 109 28 (Int32.ofInt 3)) 109 27 z226).2.2.1 109 27 := sF_get; have b1 : u_109_22 = (sF (sF (sF (sF sc0 109 29 w0_109_27) 109 30 z19) 109 28 (Int32.ofInt 3)) 109 27 z226).2.2.1 109 22 := sF_ne rfl (sF_ne rfl (sF_ne rfl (sF_ne rfl (fr_F e_109_22 hFc0 rfl)))); rw [← b0, ← b1]; exact n230a
                              have n230c : (u_109_27).toInt ≤ (z226).toInt := by have a0 := oa5 i8a i8 ((in_c 0 rfl)) i208 i226; have a5 := t_add e226 i8 (in_c 1 rfl) rfl; have a6 := oa2 ((in_c 1 rfl)) ((in_c 3 rfl)); have oc := oc_299_109; omega
                              have n230d : (s.2.2.1 109 27).toInt ≤ ((sF (sF (sF (sF sc0 109 29 w0_109_27) 109 30 z19) 109 28 (Int32.ofInt 3)) 109 27 z226).2.2.1 109 27).toInt := by have b0 : z226 = (sF (sF (sF (sF sc0 109 29 w0_109_27) 109 30 z19) 109 28 (Int32.ofInt 3)) 109 27 z226).2.2.1 109 27 := sF_get; first | (rw [← b0, ← e_109_27]; exact n230c) | (rw [← b0]; exact n230c)
                              have n230e : ((Int32.ofInt 3)).toInt ≠ 0 → (u_109_27).toInt + 1 ≤ (z226).toInt := by have a0 := oa5 i8a i8 ((in_c 0 rfl)) i208 i226; have a5 := t_add e226 i8 (in_c 1 rfl) rfl; have a6 := oa2 ((in_c 1 rfl)) ((in_c 3 rfl)); have oc := oc_299_109; omega
                              have n230f : ((sF (sF (sF (sF sc0 109 29 w0_109_27) 109 30 z19) 109 28 (Int32.ofInt 3)) 109 27 z226).2.2.1 109 28).toInt ≠ 0 → (s.2.2.1 109 27).toInt + 1 ≤ ((sF (sF (sF (sF sc0 109 29 w0_109_27) 109 30 z19) 109 28 (Int32.ofInt 3)) 109 27 z226).2.2.1 109 27).toInt := by have b0 : (Int32.ofInt 3) = (sF (sF (sF (sF sc0 109 29 w0_109_27) 109 30 z19) 109 28 (Int32.ofInt 3)) 109 27 z226).2.2.1 109 28 := sF_ne rfl (sF_get); have b1 : z226 = (sF (sF (sF (sF sc0 109 29 w0_109_27) 109 30 z19) 109 28 (Int32.ofInt 3)) 109 27 z226).2.2.1 109 27 := sF_get; first | (rw [← b0, ← b1, ← e_109_27]; exact n230e) | (rw [← b0, ← b1]; exact n230e)
                              have n230g : ((Int32.ofInt 3)).toInt = 1 → 97 ≤ (z19).toInt := by exact fun h => absurd h (by decide)
                              have n230h : ((sF (sF (sF (sF sc0 109 29 w0_109_27) 109 30 z19) 109 28 (Int32.ofInt 3)) 109 27 z226).2.2.1 109 28).toInt = 1 → 97 ≤ ((sF (sF (sF (sF sc0 109 29 w0_109_27) 109 30 z19) 109 28 (Int32.ofInt 3)) 109 27 z226).2.2.1 109 30).toInt := by have b0 : (Int32.ofInt 3) = (sF (sF (sF (sF sc0 109 29 w0_109_27) 109 30 z19) 109 28 (Int32.ofInt 3)) 109 27 z226).2.2.1 109 28 := sF_ne rfl (sF_get); have b1 : z19 = (sF (sF (sF (sF sc0 109 29 w0_109_27) 109 30 z19) 109 28 (Int32.ofInt 3)) 109 27 z226).2.2.1 109 30 := sF_ne rfl (sF_ne rfl (sF_get)); rw [← b0, ← b1]; exact n230g
                              have n230i : ((Int32.ofInt 3)).toInt = 1 → (z19).toInt ≤ 122 := by exact fun h => absurd h (by decide)
                              have n230j : ((sF (sF (sF (sF sc0 109 29 w0_109_27) 109 30 z19) 109 28 (Int32.ofInt 3)) 109 27 z226).2.2.1 109 28).toInt = 1 → ((sF (sF (sF (sF sc0 109 29 w0_109_27) 109 30 z19) 109 28 (Int32.ofInt 3)) 109 27 z226).2.2.1 109 30).toInt ≤ 122 := by have b0 : (Int32.ofInt 3) = (sF (sF (sF (sF sc0 109 29 w0_109_27) 109 30 z19) 109 28 (Int32.ofInt 3)) 109 27 z226).2.2.1 109 28 := sF_ne rfl (sF_get); have b1 : z19 = (sF (sF (sF (sF sc0 109 29 w0_109_27) 109 30 z19) 109 28 (Int32.ofInt 3)) 109 27 z226).2.2.1 109 30 := sF_ne rfl (sF_ne rfl (sF_get)); rw [← b0, ← b1]; exact n230i
                              exact g_return (gd rfl) rfl (hP _ _ ⟨(sF (sF (sF (sF sc0 109 29 w0_109_27) 109 30 z19) 109 28 (Int32.ofInt 3)) 109 27 z226), hI227, (fr_sF rfl (fr_sF rfl (fr_sF rfl (fr_sF rfl hFc0)))), n230b, n230d, n230f, n230h, n230j, rfl, rfl, n230⟩)
                            · skip
                              refine g_aload_n 212 (gd rfl) rfl rfl ?_
                              refine g_iconst 1 213 (gd rfl) rfl rfl ?_
                              refine g_aload_n 214 (gd rfl) rfl rfl ?_
                              refine g_getI 217 (gd rfl) rfl rfl rfl (fun z214 e214 => ?_)
                              have q214 : w0_109_27 = z214 := (sF_ne rfl (sF_ne rfl (sF_get))).trans e214.symm
                              subst q214
                              refine g_callv (X := _) (As := [.int (Int32.ofInt 1), .int w0_109_27]) (r := []) (b := A 109) (q := 109) 220 (gd rfl) rfl rfl rfl rfl rfl (ww_o rfl) (Nat.le_of_ble_eq_true rfl) (Nat.zero_le _) (Nat.zero_le _) (f_298 (by first | exact dq1 hd rfl | exact dq0 hd rfl | exact dq2 hd rfl | exact dq3 hd rfl | omega) hI194 (in_w 1 5 (in_c 1 rfl) rfl) rfl) (fun e u h => h) (fun v u h => ?_)
                              obtain ⟨s217, hI217, hF217, n217, rfl, rfl, p217⟩ := h
                              obtain ⟨z217a, e217⟩ : ∃ w, w = s217.2.2.1 109 23 := ⟨_, rfl⟩
                              have i217a := inv_F hI217 0 9 rfl e217
                              rw [← (show z217a = s217.2.2.1 109 23 from e217)] at n217
                              show GG _ _ _ _ _ _ _ _ [] _ _ _
                              refine g_aload_n 221 (gd rfl) rfl rfl ?_
                              refine g_dup 222 (gd rfl) rfl rfl ?_
                              refine g_getI 225 (gd rfl) rfl rfl rfl (fun z222 e222 => ?_)
                              have q222 : w0_109_27 = z222 := (fr_F (s := (sF (sF (sF sc0 109 29 w0_109_27) 109 30 z19) 109 28 (Int32.ofInt 3))) (sF_ne rfl (sF_ne rfl (sF_ne rfl (v0_109_27)))) hF217 rfl).trans e222.symm
                              subst q222
                              refine g_iconst 1 226 (gd rfl) rfl rfl ?_
                              refine g_iadd 227 (gd rfl) rfl (fun z226 e226 => ?_)
                              have i226 := in_add 1 1000 e226 i8 (in_c 1 rfl) rfl rfl
                              refine g_putI 230 (gd rfl) rfl rfl rfl rfl ?_
                              have hI227 := inv_sF (q := 109) (j := 27) hI217 rfl (in_w 0 1000 i226 rfl)
                              have n230 : ∃ k v, TKN (s.1 125) (s.2.2.1 109 22).toInt.toNat (s.2.2.1 109 27).toInt.toNat ((sF s217 109 27 z226).2.2.1 109 29).toInt.toNat ((sF s217 109 27 z226).2.2.1 109 27).toInt.toNat k v ∧ NTK s (sF s217 109 27 z226) k v := by have hT0 : s.1 125 w0_109_27.toInt.toNat = z19 := (by rw [e19, hFc0.1 125 rfl]; rfl); have hS : tkS (s.1 125) (u_109_22).toInt.toNat (u_109_27).toInt.toNat w0_109_27.toInt.toNat := ⟨by have a0 := oa5 i8a i8 ((in_c 0 rfl)) i183x3 i226; have a5 := t_add e226 i8 (in_c 1 rfl) rfl; have a6 := oa3 ((in_c 1 rfl)) i217a ((in_c 3 rfl)); have oc := oc_299_109; omega, by have a0 := oa5 i8a i8 ((in_c 0 rfl)) i183x3 i226; have a5 := t_add e226 i8 (in_c 1 rfl) rfl; have a6 := oa3 ((in_c 1 rfl)) i217a ((in_c 3 rfl)); have oc := oc_299_109; omega, fun i a b => g0_0 i (by rw [← e_109_27]; exact a) (by have a0 := oa5 i8a i8 ((in_c 0 rfl)) i183x3 i226; have a5 := t_add e226 i8 (in_c 1 rfl) rfl; have a6 := oa3 ((in_c 1 rfl)) i217a ((in_c 3 rfl)); have oc := oc_299_109; omega), fun _ => by rw [hT0]; have a0 := oa5 i8a i8 ((in_c 0 rfl)) i183x3 i226; have a5 := t_add e226 i8 (in_c 1 rfl) rfl; have a6 := oa3 ((in_c 1 rfl)) i217a ((in_c 3 rfl)); have oc := oc_299_109; omega⟩; refine ⟨4, 0, ?_, ?_⟩; (rw [← (show z226 = (sF s217 109 27 z226).2.2.1 109 27 from sF_get), ← (show w0_109_27 = (sF s217 109 27 z226).2.2.1 109 29 from sF_ne rfl (fr_F (s := (sF (sF (sF sc0 109 29 w0_109_27) 109 30 z19) 109 28 (Int32.ofInt 3))) (sF_ne rfl (sF_ne rfl (sF_get))) hF217 rfl)), ← e_109_22, ← e_109_27]; exact tkn_4 hS (by have a0 := oa5 i8a i8 ((in_c 0 rfl)) i183x3 i226; have a5 := t_add e226 i8 (in_c 1 rfl) rfl; have a6 := oa3 ((in_c 1 rfl)) i217a ((in_c 3 rfl)); have oc := oc_299_109; omega) (by rw [hT0]; unfold tkL; have a0 := oa5 i8a i8 ((in_c 0 rfl)) i183x3 i226; have a5 := t_add e226 i8 (in_c 1 rfl) rfl; have a6 := oa3 ((in_c 1 rfl)) i217a ((in_c 3 rfl)); have oc := oc_299_109; omega) (by rw [hT0]; have a0 := oa5 i8a i8 ((in_c 0 rfl)) i183x3 i226; have a5 := t_add e226 i8 (in_c 1 rfl) rfl; have a6 := oa3 ((in_c 1 rfl)) i217a ((in_c 3 rfl)); have oc := oc_299_109; omega) (by first | exact nq_1 (by rw [hT0]; unfold tkD; have a0 := oa5 i8a i8 ((in_c 0 rfl)) i183x3 i226; have a5 := t_add e226 i8 (in_c 1 rfl) rfl; have a6 := oa3 ((in_c 1 rfl)) i217a ((in_c 3 rfl)); have oc := oc_299_109; omega) (by rw [hT0]; have a0 := oa5 i8a i8 ((in_c 0 rfl)) i183x3 i226; have a5 := t_add e226 i8 (in_c 1 rfl) rfl; have a6 := oa3 ((in_c 1 rfl)) i217a ((in_c 3 rfl)); have oc := oc_299_109; omega) | exact nq_2 (by rw [hT0]; have a0 := oa5 i8a i8 ((in_c 0 rfl)) i183x3 i226; have a5 := t_add e226 i8 (in_c 1 rfl) rfl; have a6 := oa3 ((in_c 1 rfl)) i217a ((in_c 3 rfl)); have oc := oc_299_109; omega) (fun h => by first | (exfalso; have a0 := oa5 i8a i8 ((in_c 0 rfl)) i183x3 i226; have a5 := t_add e226 i8 (in_c 1 rfl) rfl; have a6 := oa3 ((in_c 1 rfl)) i217a ((in_c 3 rfl)); have oc := oc_299_109; omega) | (rw [show s.1 125 (w0_109_27.toInt.toNat + 1) = z107 from (by rw [e107, show z106.toNatClampNeg = w0_109_27.toInt.toNat + 1 from (by show z106.toInt.toNat = _; have a0 := oa5 i8a i8 ((in_c 0 rfl)) i183x3 i226; have a5 := t_add e226 i8 (in_c 1 rfl) rfl; have a6 := oa3 ((in_c 1 rfl)) i217a ((in_c 3 rfl)); have oc := oc_299_109; omega)]; exact congrFun (hFc0.1 125 rfl).symm _)]; unfold tkD; have a0 := oa5 i8a i8 ((in_c 0 rfl)) i183x3 i226; have a5 := t_add e226 i8 (in_c 1 rfl) rfl; have a6 := oa3 ((in_c 1 rfl)) i217a ((in_c 3 rfl)); have oc := oc_299_109; omega))) (by have a0 := oa5 i8a i8 ((in_c 0 rfl)) i183x3 i226; have a5 := t_add e226 i8 (in_c 1 rfl) rfl; have a6 := oa3 ((in_c 1 rfl)) i217a ((in_c 3 rfl)); have oc := oc_299_109; omega) rfl); (exact ntk_4 ((show (Int32.ofInt 3) = (sF s217 109 27 z226).2.2.1 109 28 from sF_ne rfl (fr_F (s := (sF (sF (sF sc0 109 29 w0_109_27) 109 30 z19) 109 28 (Int32.ofInt 3))) (sF_get) hF217 rfl))).symm (by rw [← (show z19 = (sF s217 109 27 z226).2.2.1 109 30 from sF_ne rfl (fr_F (s := (sF (sF (sF sc0 109 29 w0_109_27) 109 30 z19) 109 28 (Int32.ofInt 3))) (sF_ne rfl (sF_get)) hF217 rfl))]; have a0 := oa5 i8a i8 ((in_c 0 rfl)) i183x3 i226; have a5 := t_add e226 i8 (in_c 1 rfl) rfl; have a6 := oa3 ((in_c 1 rfl)) i217a ((in_c 3 rfl)); have oc := oc_299_109; omega) (fbl_tr g0_1 (by rw [← (show w0_109_27 = (sF s217 109 27 z226).2.2.1 109 29 from sF_ne rfl (fr_F (s := (sF (sF (sF sc0 109 29 w0_109_27) 109 30 z19) 109 28 (Int32.ofInt 3))) (sF_ne rfl (sF_ne rfl (sF_get))) hF217 rfl))]; exact p217)))
                              have n230a : (z226).toInt ≤ (u_109_22).toInt := by have a0 := oa5 i8a i8 ((in_c 0 rfl)) i183x3 i226; have a5 := t_add e226 i8 (in_c 1 rfl) rfl; have a6 := oa3 ((in_c 1 rfl)) i217a ((in_c 3 rfl)); have oc := oc_299_109; omega
                              have n230b : ((sF s217 109 27 z226).2.2.1 109 27).toInt ≤ ((sF s217 109 27 z226).2.2.1 109 22).toInt := by have b0 : z226 = (sF s217 109 27 z226).2.2.1 109 27 := sF_get; have b1 : u_109_22 = (sF s217 109 27 z226).2.2.1 109 22 := sF_ne rfl (fr_F (s := (sF (sF (sF sc0 109 29 w0_109_27) 109 30 z19) 109 28 (Int32.ofInt 3))) (sF_ne rfl (sF_ne rfl (sF_ne rfl (fr_F e_109_22 hFc0 rfl)))) hF217 rfl); rw [← b0, ← b1]; exact n230a
                              have n230c : (u_109_27).toInt ≤ (z226).toInt := by have a0 := oa5 i8a i8 ((in_c 0 rfl)) i183x3 i226; have a5 := t_add e226 i8 (in_c 1 rfl) rfl; have a6 := oa3 ((in_c 1 rfl)) i217a ((in_c 3 rfl)); have oc := oc_299_109; omega
                              have n230d : (s.2.2.1 109 27).toInt ≤ ((sF s217 109 27 z226).2.2.1 109 27).toInt := by have b0 : z226 = (sF s217 109 27 z226).2.2.1 109 27 := sF_get; first | (rw [← b0, ← e_109_27]; exact n230c) | (rw [← b0]; exact n230c)
                              have n230e : ((Int32.ofInt 3)).toInt ≠ 0 → (u_109_27).toInt + 1 ≤ (z226).toInt := by have a0 := oa5 i8a i8 ((in_c 0 rfl)) i183x3 i226; have a5 := t_add e226 i8 (in_c 1 rfl) rfl; have a6 := oa3 ((in_c 1 rfl)) i217a ((in_c 3 rfl)); have oc := oc_299_109; omega
                              have n230f : ((sF s217 109 27 z226).2.2.1 109 28).toInt ≠ 0 → (s.2.2.1 109 27).toInt + 1 ≤ ((sF s217 109 27 z226).2.2.1 109 27).toInt := by have b0 : (Int32.ofInt 3) = (sF s217 109 27 z226).2.2.1 109 28 := sF_ne rfl (fr_F (s := (sF (sF (sF sc0 109 29 w0_109_27) 109 30 z19) 109 28 (Int32.ofInt 3))) (sF_get) hF217 rfl); have b1 : z226 = (sF s217 109 27 z226).2.2.1 109 27 := sF_get; first | (rw [← b0, ← b1, ← e_109_27]; exact n230e) | (rw [← b0, ← b1]; exact n230e)
                              have n230g : ((Int32.ofInt 3)).toInt = 1 → 97 ≤ (z19).toInt := by exact fun h => absurd h (by decide)
                              have n230h : ((sF s217 109 27 z226).2.2.1 109 28).toInt = 1 → 97 ≤ ((sF s217 109 27 z226).2.2.1 109 30).toInt := by have b0 : (Int32.ofInt 3) = (sF s217 109 27 z226).2.2.1 109 28 := sF_ne rfl (fr_F (s := (sF (sF (sF sc0 109 29 w0_109_27) 109 30 z19) 109 28 (Int32.ofInt 3))) (sF_get) hF217 rfl); have b1 : z19 = (sF s217 109 27 z226).2.2.1 109 30 := sF_ne rfl (fr_F (s := (sF (sF (sF sc0 109 29 w0_109_27) 109 30 z19) 109 28 (Int32.ofInt 3))) (sF_ne rfl (sF_get)) hF217 rfl); rw [← b0, ← b1]; exact n230g
                              have n230i : ((Int32.ofInt 3)).toInt = 1 → (z19).toInt ≤ 122 := by exact fun h => absurd h (by decide)
                              have n230j : ((sF s217 109 27 z226).2.2.1 109 28).toInt = 1 → ((sF s217 109 27 z226).2.2.1 109 30).toInt ≤ 122 := by have b0 : (Int32.ofInt 3) = (sF s217 109 27 z226).2.2.1 109 28 := sF_ne rfl (fr_F (s := (sF (sF (sF sc0 109 29 w0_109_27) 109 30 z19) 109 28 (Int32.ofInt 3))) (sF_get) hF217 rfl); have b1 : z19 = (sF s217 109 27 z226).2.2.1 109 30 := sF_ne rfl (fr_F (s := (sF (sF (sF sc0 109 29 w0_109_27) 109 30 z19) 109 28 (Int32.ofInt 3))) (sF_ne rfl (sF_get)) hF217 rfl); rw [← b0, ← b1]; exact n230i
                              exact g_return (gd rfl) rfl (hP _ _ ⟨(sF s217 109 27 z226), hI227, (fr_sF rfl (fr_tr rfl (fr_sF rfl (fr_sF rfl (fr_sF rfl hFc0))) hF217)), n230b, n230d, n230f, n230h, n230j, rfl, rfl, n230⟩)
                        · skip
                          exact zn_ne c186 (in_c 0 rfl) rfl
                      · skip
                        have i183x3 := r_le2 97 126 c183x3 (in_c 97 rfl) i121x9 rfl
                        refine g_iload_n 7 (gd rfl) rfl rfl ?_
                        refine g_bipush 122 9 (gd rfl) rfl rfl ?_
                        refine g_cmp_gt 12 16 (gd rfl) rfl rfl (fun c183x9 => ?_) (fun c183x9 => ?_)
                        · skip
                          have i183x9 := r_lt2 123 126 c183x9 (in_c 122 rfl) i183x3 rfl
                          refine g_iconst 0 17 (gd rfl) rfl rfl ?_
                          refine g_ireturn (gd rfl) rfl (nb01 (in_w 0 1 (in_c 0 rfl) rfl)) (hp183 _ _ ?_)
                          show GG _ _ _ _ _ _ _ _ [.int (Int32.ofInt 0), .ref (A 109)] _ _ _
                          refine g_if_eq 189 193 (gd rfl) rfl rfl (fun c186 => ?_) (fun c186 => ?_)
                          · skip
                            refine g_iconst 3 194 (gd rfl) rfl rfl ?_
                            refine g_putI 197 (gd rfl) rfl rfl rfl rfl ?_
                            have hI194 := inv_sF (q := 109) (j := 28) hI75 rfl (in_w (-2147483648) 2147483647 (in_c 3 rfl) rfl)
                            refine g_aload_n 198 (gd rfl) rfl rfl ?_
                            refine g_getI 201 (gd rfl) rfl rfl rfl (fun z198 e198 => ?_)
                            have q198 : (Int32.ofInt 3) = z198 := (sF_get).trans e198.symm
                            subst q198
                            refine g_iconst 3 202 (gd rfl) rfl rfl ?_
                            refine g_cmp_ne 205 220 (gd rfl) rfl rfl (fun c202 => ?_) (fun c202 => ?_)
                            · skip
                              exact n_ne c202 (in_c 3 rfl) (in_c 3 rfl) rfl
                            · skip
                              refine g_iload_n 206 (gd rfl) rfl rfl ?_
                              refine g_bipush 59 208 (gd rfl) rfl rfl ?_
                              refine g_cmp_eq 211 220 (gd rfl) rfl rfl (fun c208 => ?_) (fun c208 => ?_)
                              · skip
                                exact n_eq c208 i183x9 (in_c 59 rfl) rfl
                              · skip
                                refine g_aload_n 212 (gd rfl) rfl rfl ?_
                                refine g_iconst 1 213 (gd rfl) rfl rfl ?_
                                refine g_aload_n 214 (gd rfl) rfl rfl ?_
                                refine g_getI 217 (gd rfl) rfl rfl rfl (fun z214 e214 => ?_)
                                have q214 : w0_109_27 = z214 := (sF_ne rfl (sF_ne rfl (sF_get))).trans e214.symm
                                subst q214
                                refine g_callv (X := _) (As := [.int (Int32.ofInt 1), .int w0_109_27]) (r := []) (b := A 109) (q := 109) 220 (gd rfl) rfl rfl rfl rfl rfl (ww_o rfl) (Nat.le_of_ble_eq_true rfl) (Nat.zero_le _) (Nat.zero_le _) (f_298 (by first | exact dq1 hd rfl | exact dq0 hd rfl | exact dq2 hd rfl | exact dq3 hd rfl | omega) hI194 (in_w 1 5 (in_c 1 rfl) rfl) rfl) (fun e u h => h) (fun v u h => ?_)
                                obtain ⟨s217, hI217, hF217, n217, rfl, rfl, p217⟩ := h
                                obtain ⟨z217a, e217⟩ : ∃ w, w = s217.2.2.1 109 23 := ⟨_, rfl⟩
                                have i217a := inv_F hI217 0 9 rfl e217
                                rw [← (show z217a = s217.2.2.1 109 23 from e217)] at n217
                                show GG _ _ _ _ _ _ _ _ [] _ _ _
                                refine g_aload_n 221 (gd rfl) rfl rfl ?_
                                refine g_dup 222 (gd rfl) rfl rfl ?_
                                refine g_getI 225 (gd rfl) rfl rfl rfl (fun z222 e222 => ?_)
                                have q222 : w0_109_27 = z222 := (fr_F (s := (sF (sF (sF sc0 109 29 w0_109_27) 109 30 z19) 109 28 (Int32.ofInt 3))) (sF_ne rfl (sF_ne rfl (sF_ne rfl (v0_109_27)))) hF217 rfl).trans e222.symm
                                subst q222
                                refine g_iconst 1 226 (gd rfl) rfl rfl ?_
                                refine g_iadd 227 (gd rfl) rfl (fun z226 e226 => ?_)
                                have i226 := in_add 1 1000 e226 i8 (in_c 1 rfl) rfl rfl
                                refine g_putI 230 (gd rfl) rfl rfl rfl rfl ?_
                                have hI227 := inv_sF (q := 109) (j := 27) hI217 rfl (in_w 0 1000 i226 rfl)
                                have n230 : ∃ k v, TKN (s.1 125) (s.2.2.1 109 22).toInt.toNat (s.2.2.1 109 27).toInt.toNat ((sF s217 109 27 z226).2.2.1 109 29).toInt.toNat ((sF s217 109 27 z226).2.2.1 109 27).toInt.toNat k v ∧ NTK s (sF s217 109 27 z226) k v := by have hT0 : s.1 125 w0_109_27.toInt.toNat = z19 := (by rw [e19, hFc0.1 125 rfl]; rfl); have hS : tkS (s.1 125) (u_109_22).toInt.toNat (u_109_27).toInt.toNat w0_109_27.toInt.toNat := ⟨by have a0 := oa5 i8a i8 ((in_c 0 rfl)) i183x9 i226; have a5 := t_add e226 i8 (in_c 1 rfl) rfl; have a6 := oa3 ((in_c 1 rfl)) i217a ((in_c 3 rfl)); have oc := oc_299_109; omega, by have a0 := oa5 i8a i8 ((in_c 0 rfl)) i183x9 i226; have a5 := t_add e226 i8 (in_c 1 rfl) rfl; have a6 := oa3 ((in_c 1 rfl)) i217a ((in_c 3 rfl)); have oc := oc_299_109; omega, fun i a b => g0_0 i (by rw [← e_109_27]; exact a) (by have a0 := oa5 i8a i8 ((in_c 0 rfl)) i183x9 i226; have a5 := t_add e226 i8 (in_c 1 rfl) rfl; have a6 := oa3 ((in_c 1 rfl)) i217a ((in_c 3 rfl)); have oc := oc_299_109; omega), fun _ => by rw [hT0]; have a0 := oa5 i8a i8 ((in_c 0 rfl)) i183x9 i226; have a5 := t_add e226 i8 (in_c 1 rfl) rfl; have a6 := oa3 ((in_c 1 rfl)) i217a ((in_c 3 rfl)); have oc := oc_299_109; omega⟩; refine ⟨4, 0, ?_, ?_⟩; (rw [← (show z226 = (sF s217 109 27 z226).2.2.1 109 27 from sF_get), ← (show w0_109_27 = (sF s217 109 27 z226).2.2.1 109 29 from sF_ne rfl (fr_F (s := (sF (sF (sF sc0 109 29 w0_109_27) 109 30 z19) 109 28 (Int32.ofInt 3))) (sF_ne rfl (sF_ne rfl (sF_get))) hF217 rfl)), ← e_109_22, ← e_109_27]; exact tkn_4 hS (by have a0 := oa5 i8a i8 ((in_c 0 rfl)) i183x9 i226; have a5 := t_add e226 i8 (in_c 1 rfl) rfl; have a6 := oa3 ((in_c 1 rfl)) i217a ((in_c 3 rfl)); have oc := oc_299_109; omega) (by rw [hT0]; unfold tkL; have a0 := oa5 i8a i8 ((in_c 0 rfl)) i183x9 i226; have a5 := t_add e226 i8 (in_c 1 rfl) rfl; have a6 := oa3 ((in_c 1 rfl)) i217a ((in_c 3 rfl)); have oc := oc_299_109; omega) (by rw [hT0]; have a0 := oa5 i8a i8 ((in_c 0 rfl)) i183x9 i226; have a5 := t_add e226 i8 (in_c 1 rfl) rfl; have a6 := oa3 ((in_c 1 rfl)) i217a ((in_c 3 rfl)); have oc := oc_299_109; omega) (by first | exact nq_1 (by rw [hT0]; unfold tkD; have a0 := oa5 i8a i8 ((in_c 0 rfl)) i183x9 i226; have a5 := t_add e226 i8 (in_c 1 rfl) rfl; have a6 := oa3 ((in_c 1 rfl)) i217a ((in_c 3 rfl)); have oc := oc_299_109; omega) (by rw [hT0]; have a0 := oa5 i8a i8 ((in_c 0 rfl)) i183x9 i226; have a5 := t_add e226 i8 (in_c 1 rfl) rfl; have a6 := oa3 ((in_c 1 rfl)) i217a ((in_c 3 rfl)); have oc := oc_299_109; omega) | exact nq_2 (by rw [hT0]; have a0 := oa5 i8a i8 ((in_c 0 rfl)) i183x9 i226; have a5 := t_add e226 i8 (in_c 1 rfl) rfl; have a6 := oa3 ((in_c 1 rfl)) i217a ((in_c 3 rfl)); have oc := oc_299_109; omega) (fun h => by first | (exfalso; have a0 := oa5 i8a i8 ((in_c 0 rfl)) i183x9 i226; have a5 := t_add e226 i8 (in_c 1 rfl) rfl; have a6 := oa3 ((in_c 1 rfl)) i217a ((in_c 3 rfl)); have oc := oc_299_109; omega) | (rw [show s.1 125 (w0_109_27.toInt.toNat + 1) = z107 from (by rw [e107, show z106.toNatClampNeg = w0_109_27.toInt.toNat + 1 from (by show z106.toInt.toNat = _; have a0 := oa5 i8a i8 ((in_c 0 rfl)) i183x9 i226; have a5 := t_add e226 i8 (in_c 1 rfl) rfl; have a6 := oa3 ((in_c 1 rfl)) i217a ((in_c 3 rfl)); have oc := oc_299_109; omega)]; exact congrFun (hFc0.1 125 rfl).symm _)]; unfold tkD; have a0 := oa5 i8a i8 ((in_c 0 rfl)) i183x9 i226; have a5 := t_add e226 i8 (in_c 1 rfl) rfl; have a6 := oa3 ((in_c 1 rfl)) i217a ((in_c 3 rfl)); have oc := oc_299_109; omega))) (by have a0 := oa5 i8a i8 ((in_c 0 rfl)) i183x9 i226; have a5 := t_add e226 i8 (in_c 1 rfl) rfl; have a6 := oa3 ((in_c 1 rfl)) i217a ((in_c 3 rfl)); have oc := oc_299_109; omega) rfl); (exact ntk_4 ((show (Int32.ofInt 3) = (sF s217 109 27 z226).2.2.1 109 28 from sF_ne rfl (fr_F (s := (sF (sF (sF sc0 109 29 w0_109_27) 109 30 z19) 109 28 (Int32.ofInt 3))) (sF_get) hF217 rfl))).symm (by rw [← (show z19 = (sF s217 109 27 z226).2.2.1 109 30 from sF_ne rfl (fr_F (s := (sF (sF (sF sc0 109 29 w0_109_27) 109 30 z19) 109 28 (Int32.ofInt 3))) (sF_ne rfl (sF_get)) hF217 rfl))]; have a0 := oa5 i8a i8 ((in_c 0 rfl)) i183x9 i226; have a5 := t_add e226 i8 (in_c 1 rfl) rfl; have a6 := oa3 ((in_c 1 rfl)) i217a ((in_c 3 rfl)); have oc := oc_299_109; omega) (fbl_tr g0_1 (by rw [← (show w0_109_27 = (sF s217 109 27 z226).2.2.1 109 29 from sF_ne rfl (fr_F (s := (sF (sF (sF sc0 109 29 w0_109_27) 109 30 z19) 109 28 (Int32.ofInt 3))) (sF_ne rfl (sF_ne rfl (sF_get))) hF217 rfl))]; exact p217)))
                                have n230a : (z226).toInt ≤ (u_109_22).toInt := by have a0 := oa5 i8a i8 ((in_c 0 rfl)) i183x9 i226; have a5 := t_add e226 i8 (in_c 1 rfl) rfl; have a6 := oa3 ((in_c 1 rfl)) i217a ((in_c 3 rfl)); have oc := oc_299_109; omega
                                have n230b : ((sF s217 109 27 z226).2.2.1 109 27).toInt ≤ ((sF s217 109 27 z226).2.2.1 109 22).toInt := by have b0 : z226 = (sF s217 109 27 z226).2.2.1 109 27 := sF_get; have b1 : u_109_22 = (sF s217 109 27 z226).2.2.1 109 22 := sF_ne rfl (fr_F (s := (sF (sF (sF sc0 109 29 w0_109_27) 109 30 z19) 109 28 (Int32.ofInt 3))) (sF_ne rfl (sF_ne rfl (sF_ne rfl (fr_F e_109_22 hFc0 rfl)))) hF217 rfl); rw [← b0, ← b1]; exact n230a
                                have n230c : (u_109_27).toInt ≤ (z226).toInt := by have a0 := oa5 i8a i8 ((in_c 0 rfl)) i183x9 i226; have a5 := t_add e226 i8 (in_c 1 rfl) rfl; have a6 := oa3 ((in_c 1 rfl)) i217a ((in_c 3 rfl)); have oc := oc_299_109; omega
                                have n230d : (s.2.2.1 109 27).toInt ≤ ((sF s217 109 27 z226).2.2.1 109 27).toInt := by have b0 : z226 = (sF s217 109 27 z226).2.2.1 109 27 := sF_get; first | (rw [← b0, ← e_109_27]; exact n230c) | (rw [← b0]; exact n230c)
                                have n230e : ((Int32.ofInt 3)).toInt ≠ 0 → (u_109_27).toInt + 1 ≤ (z226).toInt := by have a0 := oa5 i8a i8 ((in_c 0 rfl)) i183x9 i226; have a5 := t_add e226 i8 (in_c 1 rfl) rfl; have a6 := oa3 ((in_c 1 rfl)) i217a ((in_c 3 rfl)); have oc := oc_299_109; omega
                                have n230f : ((sF s217 109 27 z226).2.2.1 109 28).toInt ≠ 0 → (s.2.2.1 109 27).toInt + 1 ≤ ((sF s217 109 27 z226).2.2.1 109 27).toInt := by have b0 : (Int32.ofInt 3) = (sF s217 109 27 z226).2.2.1 109 28 := sF_ne rfl (fr_F (s := (sF (sF (sF sc0 109 29 w0_109_27) 109 30 z19) 109 28 (Int32.ofInt 3))) (sF_get) hF217 rfl); have b1 : z226 = (sF s217 109 27 z226).2.2.1 109 27 := sF_get; first | (rw [← b0, ← b1, ← e_109_27]; exact n230e) | (rw [← b0, ← b1]; exact n230e)
                                have n230g : ((Int32.ofInt 3)).toInt = 1 → 97 ≤ (z19).toInt := by exact fun h => absurd h (by decide)
                                have n230h : ((sF s217 109 27 z226).2.2.1 109 28).toInt = 1 → 97 ≤ ((sF s217 109 27 z226).2.2.1 109 30).toInt := by have b0 : (Int32.ofInt 3) = (sF s217 109 27 z226).2.2.1 109 28 := sF_ne rfl (fr_F (s := (sF (sF (sF sc0 109 29 w0_109_27) 109 30 z19) 109 28 (Int32.ofInt 3))) (sF_get) hF217 rfl); have b1 : z19 = (sF s217 109 27 z226).2.2.1 109 30 := sF_ne rfl (fr_F (s := (sF (sF (sF sc0 109 29 w0_109_27) 109 30 z19) 109 28 (Int32.ofInt 3))) (sF_ne rfl (sF_get)) hF217 rfl); rw [← b0, ← b1]; exact n230g
                                have n230i : ((Int32.ofInt 3)).toInt = 1 → (z19).toInt ≤ 122 := by exact fun h => absurd h (by decide)
                                have n230j : ((sF s217 109 27 z226).2.2.1 109 28).toInt = 1 → ((sF s217 109 27 z226).2.2.1 109 30).toInt ≤ 122 := by have b0 : (Int32.ofInt 3) = (sF s217 109 27 z226).2.2.1 109 28 := sF_ne rfl (fr_F (s := (sF (sF (sF sc0 109 29 w0_109_27) 109 30 z19) 109 28 (Int32.ofInt 3))) (sF_get) hF217 rfl); have b1 : z19 = (sF s217 109 27 z226).2.2.1 109 30 := sF_ne rfl (fr_F (s := (sF (sF (sF sc0 109 29 w0_109_27) 109 30 z19) 109 28 (Int32.ofInt 3))) (sF_ne rfl (sF_get)) hF217 rfl); rw [← b0, ← b1]; exact n230i
                                exact g_return (gd rfl) rfl (hP _ _ ⟨(sF s217 109 27 z226), hI227, (fr_sF rfl (fr_tr rfl (fr_sF rfl (fr_sF rfl (fr_sF rfl hFc0))) hF217)), n230b, n230d, n230f, n230h, n230j, rfl, rfl, n230⟩)
                          · skip
                            exact zn_ne c186 (in_c 0 rfl) rfl
                        · skip
                          have i183x9 := r_le1 97 122 c183x9 i183x3 (in_c 122 rfl) rfl
                          refine g_iconst 1 13 (gd rfl) rfl rfl ?_
                          refine g_goto 17 (gd rfl) rfl ?_
                          refine g_ireturn (gd rfl) rfl (nb01 (in_w 0 1 (in_c 1 rfl) rfl)) (hp183 _ _ ?_)
                          show GG _ _ _ _ _ _ _ _ [.int (Int32.ofInt 1), .ref (A 109)] _ _ _
                          refine g_if_eq 189 193 (gd rfl) rfl rfl (fun c186 => ?_) (fun c186 => ?_)
                          · skip
                            exact zn_eq c186 (in_c 1 rfl) rfl
                          · skip
                            refine g_iconst 1 190 (gd rfl) rfl rfl ?_
                            refine g_goto 194 (gd rfl) rfl ?_
                            refine g_putI 197 (gd rfl) rfl rfl rfl rfl ?_
                            have hI194 := inv_sF (q := 109) (j := 28) hI75 rfl (in_w (-2147483648) 2147483647 (in_c 1 rfl) rfl)
                            refine g_aload_n 198 (gd rfl) rfl rfl ?_
                            refine g_getI 201 (gd rfl) rfl rfl rfl (fun z198 e198 => ?_)
                            have q198 : (Int32.ofInt 1) = z198 := (sF_get).trans e198.symm
                            subst q198
                            refine g_iconst 3 202 (gd rfl) rfl rfl ?_
                            refine g_cmp_ne 205 220 (gd rfl) rfl rfl (fun c202 => ?_) (fun c202 => ?_)
                            · skip
                              refine g_aload_n 221 (gd rfl) rfl rfl ?_
                              refine g_dup 222 (gd rfl) rfl rfl ?_
                              refine g_getI 225 (gd rfl) rfl rfl rfl (fun z222 e222 => ?_)
                              have q222 : w0_109_27 = z222 := (sF_ne rfl (sF_ne rfl (sF_ne rfl (v0_109_27)))).trans e222.symm
                              subst q222
                              refine g_iconst 1 226 (gd rfl) rfl rfl ?_
                              refine g_iadd 227 (gd rfl) rfl (fun z226 e226 => ?_)
                              have i226 := in_add 1 1000 e226 i8 (in_c 1 rfl) rfl rfl
                              refine g_putI 230 (gd rfl) rfl rfl rfl rfl ?_
                              have hI227 := inv_sF (q := 109) (j := 27) hI194 rfl (in_w 0 1000 i226 rfl)
                              have n230 : ∃ k v, TKN (s.1 125) (s.2.2.1 109 22).toInt.toNat (s.2.2.1 109 27).toInt.toNat ((sF (sF (sF (sF sc0 109 29 w0_109_27) 109 30 z19) 109 28 (Int32.ofInt 1)) 109 27 z226).2.2.1 109 29).toInt.toNat ((sF (sF (sF (sF sc0 109 29 w0_109_27) 109 30 z19) 109 28 (Int32.ofInt 1)) 109 27 z226).2.2.1 109 27).toInt.toNat k v ∧ NTK s (sF (sF (sF (sF sc0 109 29 w0_109_27) 109 30 z19) 109 28 (Int32.ofInt 1)) 109 27 z226) k v := by first | (have hT0 : s.1 125 w0_109_27.toInt.toNat = z19 := (by rw [e19, hFc0.1 125 rfl]; rfl); have hS : tkS (s.1 125) (u_109_22).toInt.toNat (u_109_27).toInt.toNat w0_109_27.toInt.toNat := ⟨by have a0 := oa5 i8a i8 ((in_c 0 rfl)) i183x9 i226; have a5 := t_add e226 i8 (in_c 1 rfl) rfl; have a6 := in_u ((in_c 1 rfl)); have oc := oc_299_109; omega, by have a0 := oa5 i8a i8 ((in_c 0 rfl)) i183x9 i226; have a5 := t_add e226 i8 (in_c 1 rfl) rfl; have a6 := in_u ((in_c 1 rfl)); have oc := oc_299_109; omega, fun i a b => g0_0 i (by rw [← e_109_27]; exact a) (by have a0 := oa5 i8a i8 ((in_c 0 rfl)) i183x9 i226; have a5 := t_add e226 i8 (in_c 1 rfl) rfl; have a6 := in_u ((in_c 1 rfl)); have oc := oc_299_109; omega), fun _ => by rw [hT0]; have a0 := oa5 i8a i8 ((in_c 0 rfl)) i183x9 i226; have a5 := t_add e226 i8 (in_c 1 rfl) rfl; have a6 := in_u ((in_c 1 rfl)); have oc := oc_299_109; omega⟩; refine ⟨1, z19.toInt - 97, ?_, ?_⟩; (rw [← (show z226 = (sF (sF (sF (sF sc0 109 29 w0_109_27) 109 30 z19) 109 28 (Int32.ofInt 1)) 109 27 z226).2.2.1 109 27 from sF_get), ← (show w0_109_27 = (sF (sF (sF (sF sc0 109 29 w0_109_27) 109 30 z19) 109 28 (Int32.ofInt 1)) 109 27 z226).2.2.1 109 29 from sF_ne rfl (sF_ne rfl (sF_ne rfl (sF_get)))), ← e_109_22, ← e_109_27]; exact tkn_1 hS (by have a0 := oa5 i8a i8 ((in_c 0 rfl)) i183x9 i226; have a5 := t_add e226 i8 (in_c 1 rfl) rfl; have a6 := in_u ((in_c 1 rfl)); have oc := oc_299_109; omega) (by rw [hT0]; exact ⟨by have a0 := oa5 i8a i8 ((in_c 0 rfl)) i183x9 i226; have a5 := t_add e226 i8 (in_c 1 rfl) rfl; have a6 := in_u ((in_c 1 rfl)); have oc := oc_299_109; omega, by have a0 := oa5 i8a i8 ((in_c 0 rfl)) i183x9 i226; have a5 := t_add e226 i8 (in_c 1 rfl) rfl; have a6 := in_u ((in_c 1 rfl)); have oc := oc_299_109; omega⟩) (by have a0 := oa5 i8a i8 ((in_c 0 rfl)) i183x9 i226; have a5 := t_add e226 i8 (in_c 1 rfl) rfl; have a6 := in_u ((in_c 1 rfl)); have oc := oc_299_109; omega) rfl (by rw [hT0])); (exact ntk_1 ((show (Int32.ofInt 1) = (sF (sF (sF (sF sc0 109 29 w0_109_27) 109 30 z19) 109 28 (Int32.ofInt 1)) 109 27 z226).2.2.1 109 28 from sF_ne rfl (sF_get))).symm (by rw [← (show z19 = (sF (sF (sF (sF sc0 109 29 w0_109_27) 109 30 z19) 109 28 (Int32.ofInt 1)) 109 27 z226).2.2.1 109 30 from sF_ne rfl (sF_ne rfl (sF_get)))]; omega) g0_1)) | (have hT0 : s.1 125 w0_109_27.toInt.toNat = z19 := (by rw [e19, hFc0.1 125 rfl]; rfl); have hS : tkS (s.1 125) (u_109_22).toInt.toNat (u_109_27).toInt.toNat w0_109_27.toInt.toNat := ⟨by have a0 := oa5 i8a i8 ((in_c 0 rfl)) i183x9 i226; have a5 := t_add e226 i8 (in_c 1 rfl) rfl; have a6 := in_u ((in_c 1 rfl)); have oc := oc_299_109; omega, by have a0 := oa5 i8a i8 ((in_c 0 rfl)) i183x9 i226; have a5 := t_add e226 i8 (in_c 1 rfl) rfl; have a6 := in_u ((in_c 1 rfl)); have oc := oc_299_109; omega, fun i a b => g0_0 i (by rw [← e_109_27]; exact a) (by have a0 := oa5 i8a i8 ((in_c 0 rfl)) i183x9 i226; have a5 := t_add e226 i8 (in_c 1 rfl) rfl; have a6 := in_u ((in_c 1 rfl)); have oc := oc_299_109; omega), fun _ => by rw [hT0]; have a0 := oa5 i8a i8 ((in_c 0 rfl)) i183x9 i226; have a5 := t_add e226 i8 (in_c 1 rfl) rfl; have a6 := in_u ((in_c 1 rfl)); have oc := oc_299_109; omega⟩; refine ⟨3, 59, ?_, ?_⟩; (rw [← (show z226 = (sF (sF (sF (sF sc0 109 29 w0_109_27) 109 30 z19) 109 28 (Int32.ofInt 1)) 109 27 z226).2.2.1 109 27 from sF_get), ← (show w0_109_27 = (sF (sF (sF (sF sc0 109 29 w0_109_27) 109 30 z19) 109 28 (Int32.ofInt 1)) 109 27 z226).2.2.1 109 29 from sF_ne rfl (sF_ne rfl (sF_ne rfl (sF_get)))), ← e_109_22, ← e_109_27]; exact tkn_3 hS (by have a0 := oa5 i8a i8 ((in_c 0 rfl)) i183x9 i226; have a5 := t_add e226 i8 (in_c 1 rfl) rfl; have a6 := in_u ((in_c 1 rfl)); have oc := oc_299_109; omega) (by rw [hT0]; have a0 := oa5 i8a i8 ((in_c 0 rfl)) i183x9 i226; have a5 := t_add e226 i8 (in_c 1 rfl) rfl; have a6 := in_u ((in_c 1 rfl)); have oc := oc_299_109; omega) (by have a0 := oa5 i8a i8 ((in_c 0 rfl)) i183x9 i226; have a5 := t_add e226 i8 (in_c 1 rfl) rfl; have a6 := in_u ((in_c 1 rfl)); have oc := oc_299_109; omega) rfl rfl); (exact ntk_3 ((show (Int32.ofInt 1) = (sF (sF (sF (sF sc0 109 29 w0_109_27) 109 30 z19) 109 28 (Int32.ofInt 1)) 109 27 z226).2.2.1 109 28 from sF_ne rfl (sF_get))).symm (by rw [← (show z19 = (sF (sF (sF (sF sc0 109 29 w0_109_27) 109 30 z19) 109 28 (Int32.ofInt 1)) 109 27 z226).2.2.1 109 30 from sF_ne rfl (sF_ne rfl (sF_get)))]; have a0 := oa5 i8a i8 ((in_c 0 rfl)) i183x9 i226; have a5 := t_add e226 i8 (in_c 1 rfl) rfl; have a6 := in_u ((in_c 1 rfl)); have oc := oc_299_109; omega) g0_1))
                              have n230a : (z226).toInt ≤ (u_109_22).toInt := by have a0 := oa5 i8a i8 ((in_c 0 rfl)) i183x9 i226; have a5 := t_add e226 i8 (in_c 1 rfl) rfl; have a6 := in_u ((in_c 1 rfl)); have oc := oc_299_109; omega
                              have n230b : ((sF (sF (sF (sF sc0 109 29 w0_109_27) 109 30 z19) 109 28 (Int32.ofInt 1)) 109 27 z226).2.2.1 109 27).toInt ≤ ((sF (sF (sF (sF sc0 109 29 w0_109_27) 109 30 z19) 109 28 (Int32.ofInt 1)) 109 27 z226).2.2.1 109 22).toInt := by have b0 : z226 = (sF (sF (sF (sF sc0 109 29 w0_109_27) 109 30 z19) 109 28 (Int32.ofInt 1)) 109 27 z226).2.2.1 109 27 := sF_get; have b1 : u_109_22 = (sF (sF (sF (sF sc0 109 29 w0_109_27) 109 30 z19) 109 28 (Int32.ofInt 1)) 109 27 z226).2.2.1 109 22 := sF_ne rfl (sF_ne rfl (sF_ne rfl (sF_ne rfl (fr_F e_109_22 hFc0 rfl)))); rw [← b0, ← b1]; exact n230a
                              have n230c : (u_109_27).toInt ≤ (z226).toInt := by have a0 := oa5 i8a i8 ((in_c 0 rfl)) i183x9 i226; have a5 := t_add e226 i8 (in_c 1 rfl) rfl; have a6 := in_u ((in_c 1 rfl)); have oc := oc_299_109; omega
                              have n230d : (s.2.2.1 109 27).toInt ≤ ((sF (sF (sF (sF sc0 109 29 w0_109_27) 109 30 z19) 109 28 (Int32.ofInt 1)) 109 27 z226).2.2.1 109 27).toInt := by have b0 : z226 = (sF (sF (sF (sF sc0 109 29 w0_109_27) 109 30 z19) 109 28 (Int32.ofInt 1)) 109 27 z226).2.2.1 109 27 := sF_get; first | (rw [← b0, ← e_109_27]; exact n230c) | (rw [← b0]; exact n230c)
                              have n230e : ((Int32.ofInt 1)).toInt ≠ 0 → (u_109_27).toInt + 1 ≤ (z226).toInt := by have a0 := oa5 i8a i8 ((in_c 0 rfl)) i183x9 i226; have a5 := t_add e226 i8 (in_c 1 rfl) rfl; have a6 := in_u ((in_c 1 rfl)); have oc := oc_299_109; omega
                              have n230f : ((sF (sF (sF (sF sc0 109 29 w0_109_27) 109 30 z19) 109 28 (Int32.ofInt 1)) 109 27 z226).2.2.1 109 28).toInt ≠ 0 → (s.2.2.1 109 27).toInt + 1 ≤ ((sF (sF (sF (sF sc0 109 29 w0_109_27) 109 30 z19) 109 28 (Int32.ofInt 1)) 109 27 z226).2.2.1 109 27).toInt := by have b0 : (Int32.ofInt 1) = (sF (sF (sF (sF sc0 109 29 w0_109_27) 109 30 z19) 109 28 (Int32.ofInt 1)) 109 27 z226).2.2.1 109 28 := sF_ne rfl (sF_get); have b1 : z226 = (sF (sF (sF (sF sc0 109 29 w0_109_27) 109 30 z19) 109 28 (Int32.ofInt 1)) 109 27 z226).2.2.1 109 27 := sF_get; first | (rw [← b0, ← b1, ← e_109_27]; exact n230e) | (rw [← b0, ← b1]; exact n230e)
                              have n230g : ((Int32.ofInt 1)).toInt = 1 → 97 ≤ (z19).toInt := by have a0 := oa5 i8a i8 ((in_c 0 rfl)) i183x9 i226; have a5 := t_add e226 i8 (in_c 1 rfl) rfl; have a6 := in_u ((in_c 1 rfl)); have oc := oc_299_109; omega
                              have n230h : ((sF (sF (sF (sF sc0 109 29 w0_109_27) 109 30 z19) 109 28 (Int32.ofInt 1)) 109 27 z226).2.2.1 109 28).toInt = 1 → 97 ≤ ((sF (sF (sF (sF sc0 109 29 w0_109_27) 109 30 z19) 109 28 (Int32.ofInt 1)) 109 27 z226).2.2.1 109 30).toInt := by have b0 : (Int32.ofInt 1) = (sF (sF (sF (sF sc0 109 29 w0_109_27) 109 30 z19) 109 28 (Int32.ofInt 1)) 109 27 z226).2.2.1 109 28 := sF_ne rfl (sF_get); have b1 : z19 = (sF (sF (sF (sF sc0 109 29 w0_109_27) 109 30 z19) 109 28 (Int32.ofInt 1)) 109 27 z226).2.2.1 109 30 := sF_ne rfl (sF_ne rfl (sF_get)); rw [← b0, ← b1]; exact n230g
                              have n230i : ((Int32.ofInt 1)).toInt = 1 → (z19).toInt ≤ 122 := by have a0 := oa5 i8a i8 ((in_c 0 rfl)) i183x9 i226; have a5 := t_add e226 i8 (in_c 1 rfl) rfl; have a6 := in_u ((in_c 1 rfl)); have oc := oc_299_109; omega
                              have n230j : ((sF (sF (sF (sF sc0 109 29 w0_109_27) 109 30 z19) 109 28 (Int32.ofInt 1)) 109 27 z226).2.2.1 109 28).toInt = 1 → ((sF (sF (sF (sF sc0 109 29 w0_109_27) 109 30 z19) 109 28 (Int32.ofInt 1)) 109 27 z226).2.2.1 109 30).toInt ≤ 122 := by have b0 : (Int32.ofInt 1) = (sF (sF (sF (sF sc0 109 29 w0_109_27) 109 30 z19) 109 28 (Int32.ofInt 1)) 109 27 z226).2.2.1 109 28 := sF_ne rfl (sF_get); have b1 : z19 = (sF (sF (sF (sF sc0 109 29 w0_109_27) 109 30 z19) 109 28 (Int32.ofInt 1)) 109 27 z226).2.2.1 109 30 := sF_ne rfl (sF_ne rfl (sF_get)); rw [← b0, ← b1]; exact n230i
                              exact g_return (gd rfl) rfl (hP _ _ ⟨(sF (sF (sF (sF sc0 109 29 w0_109_27) 109 30 z19) 109 28 (Int32.ofInt 1)) 109 27 z226), hI227, (fr_sF rfl (fr_sF rfl (fr_sF rfl (fr_sF rfl hFc0)))), n230b, n230d, n230f, n230h, n230j, rfl, rfl, n230⟩)
                            · skip
                              exact n_eq c202 (in_c 1 rfl) (in_c 3 rfl) rfl
                    · skip
                      exact zn_ne c128 (in_c 0 rfl) rfl
                · skip
                  have i121x9 := r_le1 48 57 c121x9 i121x3 (in_c 57 rfl) rfl
                  refine g_iconst 1 13 (gd rfl) rfl rfl ?_
                  refine g_goto 17 (gd rfl) rfl ?_
                  refine g_ireturn (gd rfl) rfl (nb01 (in_w 0 1 (in_c 1 rfl) rfl)) (hp121 _ _ ?_)
                  show GG _ _ _ _ _ _ _ _ [.int (Int32.ofInt 1)] _ _ _
                  refine g_if_ne 127 131 (gd rfl) rfl rfl (fun c124 => ?_) (fun c124 => ?_)
                  · skip
                    refine g_aload_n 132 (gd rfl) rfl rfl ?_
                    refine g_iconst 2 133 (gd rfl) rfl rfl ?_
                    refine g_putI 136 (gd rfl) rfl rfl rfl rfl ?_
                    have hI133 := inv_sF (q := 109) (j := 28) hI75 rfl (in_w (-2147483648) 2147483647 (in_c 2 rfl) rfl)
                    refine g_aload_n 137 (gd rfl) rfl rfl ?_
                    refine g_dup 138 (gd rfl) rfl rfl ?_
                    refine g_getI 141 (gd rfl) rfl rfl rfl (fun z138 e138 => ?_)
                    have q138 : w0_109_27 = z138 := (sF_ne rfl (sF_ne rfl (sF_ne rfl (v0_109_27)))).trans e138.symm
                    subst q138
                    refine g_iload_n 142 (gd rfl) rfl rfl ?_
                    refine g_if_eq 145 149 (gd rfl) rfl rfl (fun c142 => ?_) (fun c142 => ?_)
                    · skip
                      refine g_iconst 0 150 (gd rfl) rfl rfl ?_
                      refine g_iadd 151 (gd rfl) rfl (fun z150 e150 => ?_)
                      have i150 := in_add 0 999 e150 i8 (in_c 0 rfl) rfl rfl
                      refine g_putI 154 (gd rfl) rfl rfl rfl rfl ?_
                      have hI151 := inv_sF (q := 109) (j := 27) hI133 rfl (in_w 0 1000 i150 rfl)
                      refine g_aload_n 155 (gd rfl) rfl rfl ?_
                      refine g_bipush 7 157 (gd rfl) rfl rfl ?_
                      have hA9 : _ = (sF (sF (sF (sF sc0 109 29 w0_109_27) 109 30 z19) 109 28 (Int32.ofInt 2)) 109 27 z150).2.2.1 109 27 := (show z150 = (sF (sF (sF (sF sc0 109 29 w0_109_27) 109 30 z19) 109 28 (Int32.ofInt 2)) 109 27 z150).2.2.1 109 27 from sF_get)
                      have hL9 : u_109_22 = (sF (sF (sF (sF sc0 109 29 w0_109_27) 109 30 z19) 109 28 (Int32.ofInt 2)) 109 27 z150).2.2.1 109 22 := (show u_109_22 = (sF (sF (sF (sF sc0 109 29 w0_109_27) 109 30 z19) 109 28 (Int32.ofInt 2)) 109 27 z150).2.2.1 109 22 from sF_ne rfl (sF_ne rfl (sF_ne rfl (sF_ne rfl (fr_F e_109_22 hFc0 rfl)))))
                      have hX9 : (sF (sF (sF (sF sc0 109 29 w0_109_27) 109 30 z19) 109 28 (Int32.ofInt 2)) 109 27 z150).1 125 = s.1 125 := hFc0.1 125 rfl
                      have hP9 : _ = (sF (sF (sF (sF sc0 109 29 w0_109_27) 109 30 z19) 109 28 (Int32.ofInt 2)) 109 27 z150).2.2.1 109 29 := (show w0_109_27 = (sF (sF (sF (sF sc0 109 29 w0_109_27) 109 30 z19) 109 28 (Int32.ofInt 2)) 109 27 z150).2.2.1 109 29 from sF_ne rfl (sF_ne rfl (sF_ne rfl (sF_get))))
                      have hF9 : FSM s (sF (sF (sF (sF sc0 109 29 w0_109_27) 109 30 z19) 109 28 (Int32.ofInt 2)) 109 27 z150) := g0_1
                      have v157 : z150 = (sF (sF (sF (sF sc0 109 29 w0_109_27) 109 30 z19) 109 28 (Int32.ofInt 2)) 109 27 z150).2.2.1 109 27 := sF_get
                      have v157a : u_109_22 = (sF (sF (sF (sF sc0 109 29 w0_109_27) 109 30 z19) 109 28 (Int32.ofInt 2)) 109 27 z150).2.2.1 109 22 := sF_ne rfl (sF_ne rfl (sF_ne rfl (sF_ne rfl (fr_F e_109_22 hFc0 rfl))))
                      have n157 : (z150).toInt < (u_109_22).toInt := by have a0 := oa5 i8a i8 ((in_c 0 rfl)) i121x9 i150; have a5 := t_add e150 i8 (in_c 0 rfl) rfl; have a6 := in_u ((in_c 2 rfl)); have oc := oc_299_109; omega
                      have p157 : 48 ≤ ((sF (sF (sF (sF sc0 109 29 w0_109_27) 109 30 z19) 109 28 (Int32.ofInt 2)) 109 27 z150).1 125 ((sF (sF (sF (sF sc0 109 29 w0_109_27) 109 30 z19) 109 28 (Int32.ofInt 2)) 109 27 z150).2.2.1 109 27).toNatClampNeg).toInt ∧ ((sF (sF (sF (sF sc0 109 29 w0_109_27) 109 30 z19) 109 28 (Int32.ofInt 2)) 109 27 z150).1 125 ((sF (sF (sF (sF sc0 109 29 w0_109_27) 109 30 z19) 109 28 (Int32.ofInt 2)) 109 27 z150).2.2.1 109 27).toNatClampNeg).toInt ≤ 57 := by first | (have hz : z107 = (sF (sF (sF (sF sc0 109 29 w0_109_27) 109 30 z19) 109 28 (Int32.ofInt 2)) 109 27 z150).1 125 ((sF (sF (sF (sF sc0 109 29 w0_109_27) 109 30 z19) 109 28 (Int32.ofInt 2)) 109 27 z150).2.2.1 109 27).toNatClampNeg := (by rw [← (show z150 = (sF (sF (sF (sF sc0 109 29 w0_109_27) 109 30 z19) 109 28 (Int32.ofInt 2)) 109 27 z150).2.2.1 109 27 from sF_get), e150, ← e106]; exact e107); rw [← hz]; exact i108x9) | (have hz : z19 = (sF (sF (sF (sF sc0 109 29 w0_109_27) 109 30 z19) 109 28 (Int32.ofInt 2)) 109 27 z150).1 125 ((sF (sF (sF (sF sc0 109 29 w0_109_27) 109 30 z19) 109 28 (Int32.ofInt 2)) 109 27 z150).2.2.1 109 27).toNatClampNeg := (by rw [← (show z150 = (sF (sF (sF (sF sc0 109 29 w0_109_27) 109 30 z19) 109 28 (Int32.ofInt 2)) 109 27 z150).2.2.1 109 27 from sF_get), e150, show w0_109_27 + Int32.ofInt 0 = w0_109_27 from Int32.add_zero _]; exact e19); rw [← hz]; exact i121x9) | (have hz : z71 = (sF (sF (sF (sF sc0 109 29 w0_109_27) 109 30 z19) 109 28 (Int32.ofInt 2)) 109 27 z150).1 125 ((sF (sF (sF (sF sc0 109 29 w0_109_27) 109 30 z19) 109 28 (Int32.ofInt 2)) 109 27 z150).2.2.1 109 27).toNatClampNeg := (by rw [← (show z150 = (sF (sF (sF (sF sc0 109 29 w0_109_27) 109 30 z19) 109 28 (Int32.ofInt 2)) 109 27 z150).2.2.1 109 27 from sF_get), e150, show w0_109_27 + Int32.ofInt 0 = w0_109_27 from Int32.add_zero _]; exact e71); rw [← hz]; exact i121x9)
                      refine g_callv (X := _) (As := [.int (Int32.ofInt 7)]) (r := []) (b := A 109) (q := 109) 160 (gd rfl) rfl rfl rfl rfl rfl (ww_o rfl) (Nat.le_of_ble_eq_true rfl) (Nat.zero_le _) (Nat.zero_le _) (f_300 (by first | exact dq1 hd rfl | exact dq0 hd rfl | exact dq2 hd rfl | exact dq3 hd rfl | omega) hI151 (in_w 7 7 (in_c 7 rfl) rfl) v157 v157a n157 p157) (fun e u h => h) (fun v u h => ?_)
                      obtain ⟨s157, hI157, hF157, n157a, n157b, rfl, rfl, p157a⟩ := h
                      obtain ⟨z157a, e157⟩ : ∃ w, w = s157.2.2.1 109 27 := ⟨_, rfl⟩
                      have i157a := inv_F hI157 0 1000 rfl e157
                      rw [← (show z157a = s157.2.2.1 109 27 from e157)] at n157a
                      rw [← (show u_109_22 = s157.2.2.1 109 22 from fr_F (s := (sF (sF (sF (sF sc0 109 29 w0_109_27) 109 30 z19) 109 28 (Int32.ofInt 2)) 109 27 z150)) (sF_ne rfl (sF_ne rfl (sF_ne rfl (sF_ne rfl (fr_F e_109_22 hFc0 rfl))))) hF157 rfl)] at n157a
                      rw [← (show z150 = (sF (sF (sF (sF sc0 109 29 w0_109_27) 109 30 z19) 109 28 (Int32.ofInt 2)) 109 27 z150).2.2.1 109 27 from sF_get)] at n157b
                      rw [← (show z157a = s157.2.2.1 109 27 from e157)] at n157b
                      show GG _ _ _ _ _ _ _ _ [] _ _ _
                      refine g_aload_n 161 (gd rfl) rfl rfl ?_
                      refine g_iload_n 162 (gd rfl) rfl rfl ?_
                      refine g_if_eq 165 173 (gd rfl) rfl rfl (fun c162 => ?_) (fun c162 => ?_)
                      · skip
                        refine g_aload_n 174 (gd rfl) rfl rfl ?_
                        refine g_getL 177 (gd rfl) rfl rfl rfl (fun z174 e174 => ?_)
                        refine g_putL 180 (gd rfl) rfl rfl rfl rfl ?_
                        have hI177 := inv_sG (q := 109) (j := 31) (x := z174) hI157 rfl (l_rng z174)
                        have n180 : ∃ k v, TKN (s.1 125) (s.2.2.1 109 22).toInt.toNat (s.2.2.1 109 27).toInt.toNat ((sG s157 109 31 z174).2.2.1 109 29).toInt.toNat ((sG s157 109 31 z174).2.2.1 109 27).toInt.toNat k v ∧ NTK s (sG s157 109 31 z174) k v := by have hT0 : s.1 125 w0_109_27.toInt.toNat = z19 := (by rw [e19, hFc0.1 125 rfl]; rfl); have hS : tkS (s.1 125) (u_109_22).toInt.toNat (u_109_27).toInt.toNat w0_109_27.toInt.toNat := ⟨by have a0 := oa7 i8a i8 ((in_c 0 rfl)) i121x9 i157a ((in_c 2 rfl)) i150; have a7 := t_add e150 i8 (in_c 0 rfl) rfl; have oc := oc_299_109; omega, by have a0 := oa7 i8a i8 ((in_c 0 rfl)) i121x9 i157a ((in_c 2 rfl)) i150; have a7 := t_add e150 i8 (in_c 0 rfl) rfl; have oc := oc_299_109; omega, fun i a b => g0_0 i (by rw [← e_109_27]; exact a) (by have a0 := oa7 i8a i8 ((in_c 0 rfl)) i121x9 i157a ((in_c 2 rfl)) i150; have a7 := t_add e150 i8 (in_c 0 rfl) rfl; have oc := oc_299_109; omega), fun _ => by rw [hT0]; have a0 := oa7 i8a i8 ((in_c 0 rfl)) i121x9 i157a ((in_c 2 rfl)) i150; have a7 := t_add e150 i8 (in_c 0 rfl) rfl; have oc := oc_299_109; omega⟩; have hp := p157a; rw [hX9, ← hL9, ← hA9, ← hP9] at hp; obtain ⟨hg, hp⟩ := hp; have hat : (s157.2.2.1 109 27) = z157a := ((show z157a = (sG s157 109 31 z174).2.2.1 109 27 from sG_F (e157))).symm; have hz9 : (z150).toInt.toNat = w0_109_27.toInt.toNat := (by have a0 := oa7 i8a i8 ((in_c 0 rfl)) i121x9 i157a ((in_c 2 rfl)) i150; have a7 := t_add e150 i8 (in_c 0 rfl) rfl; have oc := oc_299_109; omega); rw [hz9] at hg hp; rcases hp with ⟨hl, hv, hf⟩ | ⟨hl, hf⟩; (refine ⟨2, ((sG s157 109 31 z174).2.2.2.1 109 31).toInt, ?_, ?_⟩; (rw [← e_109_22, ← e_109_27, ← (show w0_109_27 = (sG s157 109 31 z174).2.2.1 109 29 from sG_F (fr_F (s := (sF (sF (sF (sF sc0 109 29 w0_109_27) 109 30 z19) 109 28 (Int32.ofInt 2)) 109 27 z150)) (sF_ne rfl (sF_ne rfl (sF_ne rfl (sF_get)))) hF157 rfl))]; exact tkn_2 (q := w0_109_27.toInt.toNat) (x := 0) hS (Or.inl ⟨rfl, by have a0 := oa7 i8a i8 ((in_c 0 rfl)) i121x9 i157a ((in_c 2 rfl)) i150; have a7 := t_add e150 i8 (in_c 0 rfl) rfl; have oc := oc_299_109; omega, by rw [hT0]; exact ⟨by have a0 := oa7 i8a i8 ((in_c 0 rfl)) i121x9 i157a ((in_c 2 rfl)) i150; have a7 := t_add e150 i8 (in_c 0 rfl) rfl; have oc := oc_299_109; omega, by have a0 := oa7 i8a i8 ((in_c 0 rfl)) i121x9 i157a ((in_c 2 rfl)) i150; have a7 := t_add e150 i8 (in_c 0 rfl) rfl; have oc := oc_299_109; omega⟩⟩) ⟨fun _ => rfl, fun _ => rfl⟩ ⟨by rw [← hat] at *; exact hg, Or.inl ⟨by rw [← hat] at *; exact hl, rfl, by first | (rw [if_pos rfl]; rw [← hat] at *; exact (by show (z174).toInt = _; rw [e174, hv]; rfl)) | (rw [if_neg (by decide)]; rw [← hat] at *; exact (by show (z174).toInt = _; rw [e174, hv]; rfl))⟩⟩); (exact ntk_2 ((show (Int32.ofInt 2) = (sG s157 109 31 z174).2.2.1 109 28 from sG_F (fr_F (s := (sF (sF (sF (sF sc0 109 29 w0_109_27) 109 30 z19) 109 28 (Int32.ofInt 2)) 109 27 z150)) (sF_ne rfl (sF_get)) hF157 rfl))).symm rfl (fsm_tr hF9 hf))); (refine ⟨5, 0, ?_, ?_⟩; (rw [← e_109_22, ← e_109_27, ← (show w0_109_27 = (sG s157 109 31 z174).2.2.1 109 29 from sG_F (fr_F (s := (sF (sF (sF (sF sc0 109 29 w0_109_27) 109 30 z19) 109 28 (Int32.ofInt 2)) 109 27 z150)) (sF_ne rfl (sF_ne rfl (sF_ne rfl (sF_get)))) hF157 rfl))]; exact tkn_2 (q := w0_109_27.toInt.toNat) (x := 0) hS (Or.inl ⟨rfl, by have a0 := oa7 i8a i8 ((in_c 0 rfl)) i121x9 i157a ((in_c 2 rfl)) i150; have a7 := t_add e150 i8 (in_c 0 rfl) rfl; have oc := oc_299_109; omega, by rw [hT0]; exact ⟨by have a0 := oa7 i8a i8 ((in_c 0 rfl)) i121x9 i157a ((in_c 2 rfl)) i150; have a7 := t_add e150 i8 (in_c 0 rfl) rfl; have oc := oc_299_109; omega, by have a0 := oa7 i8a i8 ((in_c 0 rfl)) i121x9 i157a ((in_c 2 rfl)) i150; have a7 := t_add e150 i8 (in_c 0 rfl) rfl; have oc := oc_299_109; omega⟩⟩) ⟨fun _ => rfl, fun _ => rfl⟩ ⟨by rw [← hat] at *; exact hg, Or.inr ⟨by rw [← hat] at *; exact hl, rfl⟩⟩); (exact ntk_5 ((show (Int32.ofInt 2) = (sG s157 109 31 z174).2.2.1 109 28 from sG_F (fr_F (s := (sF (sF (sF (sF sc0 109 29 w0_109_27) 109 30 z19) 109 28 (Int32.ofInt 2)) 109 27 z150)) (sF_ne rfl (sF_get)) hF157 rfl))).symm (fbl_tr hF9 (by rw [← (show w0_109_27 = (sG s157 109 31 z174).2.2.1 109 29 from sG_F (fr_F (s := (sF (sF (sF (sF sc0 109 29 w0_109_27) 109 30 z19) 109 28 (Int32.ofInt 2)) 109 27 z150)) (sF_ne rfl (sF_ne rfl (sF_ne rfl (sF_get)))) hF157 rfl))]; exact hf))))
                        have n180a : (z157a).toInt ≤ (u_109_22).toInt := by have a0 := oa7 i8a i8 ((in_c 0 rfl)) i121x9 i157a ((in_c 2 rfl)) i150; have a7 := t_add e150 i8 (in_c 0 rfl) rfl; have oc := oc_299_109; omega
                        have n180b : ((sG s157 109 31 z174).2.2.1 109 27).toInt ≤ ((sG s157 109 31 z174).2.2.1 109 22).toInt := by have b0 : z157a = (sG s157 109 31 z174).2.2.1 109 27 := sG_F (e157); have b1 : u_109_22 = (sG s157 109 31 z174).2.2.1 109 22 := sG_F (fr_F (s := (sF (sF (sF (sF sc0 109 29 w0_109_27) 109 30 z19) 109 28 (Int32.ofInt 2)) 109 27 z150)) (sF_ne rfl (sF_ne rfl (sF_ne rfl (sF_ne rfl (fr_F e_109_22 hFc0 rfl))))) hF157 rfl); rw [← b0, ← b1]; exact n180a
                        have n180c : (u_109_27).toInt ≤ (z157a).toInt := by have a0 := oa7 i8a i8 ((in_c 0 rfl)) i121x9 i157a ((in_c 2 rfl)) i150; have a7 := t_add e150 i8 (in_c 0 rfl) rfl; have oc := oc_299_109; omega
                        have n180d : (s.2.2.1 109 27).toInt ≤ ((sG s157 109 31 z174).2.2.1 109 27).toInt := by have b0 : z157a = (sG s157 109 31 z174).2.2.1 109 27 := sG_F (e157); first | (rw [← b0, ← e_109_27]; exact n180c) | (rw [← b0]; exact n180c)
                        have n180e : ((Int32.ofInt 2)).toInt ≠ 0 → (u_109_27).toInt + 1 ≤ (z157a).toInt := by have a0 := oa7 i8a i8 ((in_c 0 rfl)) i121x9 i157a ((in_c 2 rfl)) i150; have a7 := t_add e150 i8 (in_c 0 rfl) rfl; have oc := oc_299_109; omega
                        have n180f : ((sG s157 109 31 z174).2.2.1 109 28).toInt ≠ 0 → (s.2.2.1 109 27).toInt + 1 ≤ ((sG s157 109 31 z174).2.2.1 109 27).toInt := by have b0 : (Int32.ofInt 2) = (sG s157 109 31 z174).2.2.1 109 28 := sG_F (fr_F (s := (sF (sF (sF (sF sc0 109 29 w0_109_27) 109 30 z19) 109 28 (Int32.ofInt 2)) 109 27 z150)) (sF_ne rfl (sF_get)) hF157 rfl); have b1 : z157a = (sG s157 109 31 z174).2.2.1 109 27 := sG_F (e157); first | (rw [← b0, ← b1, ← e_109_27]; exact n180e) | (rw [← b0, ← b1]; exact n180e)
                        have n180g : ((Int32.ofInt 2)).toInt = 1 → 97 ≤ (z19).toInt := by exact fun h => absurd h (by decide)
                        have n180h : ((sG s157 109 31 z174).2.2.1 109 28).toInt = 1 → 97 ≤ ((sG s157 109 31 z174).2.2.1 109 30).toInt := by have b0 : (Int32.ofInt 2) = (sG s157 109 31 z174).2.2.1 109 28 := sG_F (fr_F (s := (sF (sF (sF (sF sc0 109 29 w0_109_27) 109 30 z19) 109 28 (Int32.ofInt 2)) 109 27 z150)) (sF_ne rfl (sF_get)) hF157 rfl); have b1 : z19 = (sG s157 109 31 z174).2.2.1 109 30 := sG_F (fr_F (s := (sF (sF (sF (sF sc0 109 29 w0_109_27) 109 30 z19) 109 28 (Int32.ofInt 2)) 109 27 z150)) (sF_ne rfl (sF_ne rfl (sF_get))) hF157 rfl); rw [← b0, ← b1]; exact n180g
                        have n180i : ((Int32.ofInt 2)).toInt = 1 → (z19).toInt ≤ 122 := by exact fun h => absurd h (by decide)
                        have n180j : ((sG s157 109 31 z174).2.2.1 109 28).toInt = 1 → ((sG s157 109 31 z174).2.2.1 109 30).toInt ≤ 122 := by have b0 : (Int32.ofInt 2) = (sG s157 109 31 z174).2.2.1 109 28 := sG_F (fr_F (s := (sF (sF (sF (sF sc0 109 29 w0_109_27) 109 30 z19) 109 28 (Int32.ofInt 2)) 109 27 z150)) (sF_ne rfl (sF_get)) hF157 rfl); have b1 : z19 = (sG s157 109 31 z174).2.2.1 109 30 := sG_F (fr_F (s := (sF (sF (sF (sF sc0 109 29 w0_109_27) 109 30 z19) 109 28 (Int32.ofInt 2)) 109 27 z150)) (sF_ne rfl (sF_ne rfl (sF_get))) hF157 rfl); rw [← b0, ← b1]; exact n180i
                        exact g_return (gd rfl) rfl (hP _ _ ⟨(sG s157 109 31 z174), hI177, (fr_sG rfl (fr_tr rfl (fr_sF rfl (fr_sF rfl (fr_sF rfl (fr_sF rfl hFc0)))) hF157)), n180b, n180d, n180f, n180h, n180j, rfl, rfl, n180⟩)
                      · skip
                        exact zn_ne c162 (in_c 0 rfl) rfl
                    · skip
                      exact zn_ne c142 (in_c 0 rfl) rfl
                  · skip
                    exact zn_eq c124 (in_c 1 rfl) rfl
            · skip
              have i81 := r_eq1 45 45 c81 i19 (in_c 45 rfl) rfl
              refine g_aload_n 85 (gd rfl) rfl rfl ?_
              refine g_getI 88 (gd rfl) rfl rfl rfl (fun z85 e85 => ?_)
              have q85 : w0_109_27 = z85 := (sF_ne rfl (sF_ne rfl (v0_109_27))).trans e85.symm
              subst q85
              refine g_iconst 1 89 (gd rfl) rfl rfl ?_
              refine g_iadd 90 (gd rfl) rfl (fun z89 e89 => ?_)
              have i89 := in_add 1 1000 e89 i8 (in_c 1 rfl) rfl rfl
              refine g_aload_n 91 (gd rfl) rfl rfl ?_
              refine g_getI 94 (gd rfl) rfl rfl rfl (fun z91 e91 => ?_)
              have q91 : u_109_22 = z91 := (sF_ne rfl (sF_ne rfl (fr_F e_109_22 hFc0 rfl))).trans e91.symm
              subst q91
              refine g_cmp_ge 97 118 (gd rfl) rfl rfl (fun c94 => ?_) (fun c94 => ?_)
              · skip
                refine g_iconst 0 119 (gd rfl) rfl rfl ?_
                refine g_istore_n 120 (gd rfl) rfl (Nat.le_of_ble_eq_true rfl) ?_
                refine g_iload_n 121 (gd rfl) rfl rfl ?_
                refine g_calls (As := [.int z19]) (r := []) 124 (gd rfl) rfl rfl rfl rfl rfl (Nat.le_of_ble_eq_true rfl) (mc := 0) (ms := 0) (Nat.zero_le _) (Nat.zero_le _) (P := fun v u => _) ?_ (fun v u h => h)
                intro po121 xx121 hp121 hx121
                refine g_enter2 (k := 297) (N := 300) (by first | exact dq1 hd rfl | exact dq0 hd rfl | exact dq2 hd rfl | exact dq3 hd rfl | omega) rfl (Nat.le_of_ble_eq_true rfl) ?_
                refine g_iload_n 1 (gd rfl) rfl rfl ?_
                refine g_bipush 48 3 (gd rfl) rfl rfl ?_
                refine g_cmp_lt 6 16 (gd rfl) rfl rfl (fun c121x3 => ?_) (fun c121x3 => ?_)
                · skip
                  refine g_iconst 0 17 (gd rfl) rfl rfl ?_
                  refine g_ireturn (gd rfl) rfl (nb01 (in_w 0 1 (in_c 0 rfl) rfl)) (hp121 _ _ ?_)
                  show GG _ _ _ _ _ _ _ _ [.int (Int32.ofInt 0)] _ _ _
                  refine g_if_ne 127 131 (gd rfl) rfl rfl (fun c124 => ?_) (fun c124 => ?_)
                  · skip
                    exact zn_ne c124 (in_c 0 rfl) rfl
                  · skip
                    refine g_iload_n 128 (gd rfl) rfl rfl ?_
                    refine g_if_eq 131 181 (gd rfl) rfl rfl (fun c128 => ?_) (fun c128 => ?_)
                    · skip
                      refine g_aload_n 182 (gd rfl) rfl rfl ?_
                      refine g_iload_n 183 (gd rfl) rfl rfl ?_
                      refine g_calls (As := [.int z19]) (r := [.ref (A 109)]) 186 (gd rfl) rfl rfl rfl rfl rfl (Nat.le_of_ble_eq_true rfl) (mc := 0) (ms := 0) (Nat.zero_le _) (Nat.zero_le _) (P := fun v u => _) ?_ (fun v u h => h)
                      intro po183 xx183 hp183 hx183
                      refine g_enter2 (k := 296) (N := 300) (by first | exact dq1 hd rfl | exact dq0 hd rfl | exact dq2 hd rfl | exact dq3 hd rfl | omega) rfl (Nat.le_of_ble_eq_true rfl) ?_
                      refine g_iload_n 1 (gd rfl) rfl rfl ?_
                      refine g_bipush 97 3 (gd rfl) rfl rfl ?_
                      refine g_cmp_lt 6 16 (gd rfl) rfl rfl (fun c183x3 => ?_) (fun c183x3 => ?_)
                      · skip
                        refine g_iconst 0 17 (gd rfl) rfl rfl ?_
                        refine g_ireturn (gd rfl) rfl (nb01 (in_w 0 1 (in_c 0 rfl) rfl)) (hp183 _ _ ?_)
                        show GG _ _ _ _ _ _ _ _ [.int (Int32.ofInt 0), .ref (A 109)] _ _ _
                        refine g_if_eq 189 193 (gd rfl) rfl rfl (fun c186 => ?_) (fun c186 => ?_)
                        · skip
                          refine g_iconst 3 194 (gd rfl) rfl rfl ?_
                          refine g_putI 197 (gd rfl) rfl rfl rfl rfl ?_
                          have hI194 := inv_sF (q := 109) (j := 28) hI75 rfl (in_w (-2147483648) 2147483647 (in_c 3 rfl) rfl)
                          refine g_aload_n 198 (gd rfl) rfl rfl ?_
                          refine g_getI 201 (gd rfl) rfl rfl rfl (fun z198 e198 => ?_)
                          have q198 : (Int32.ofInt 3) = z198 := (sF_get).trans e198.symm
                          subst q198
                          refine g_iconst 3 202 (gd rfl) rfl rfl ?_
                          refine g_cmp_ne 205 220 (gd rfl) rfl rfl (fun c202 => ?_) (fun c202 => ?_)
                          · skip
                            exact n_ne c202 (in_c 3 rfl) (in_c 3 rfl) rfl
                          · skip
                            refine g_iload_n 206 (gd rfl) rfl rfl ?_
                            refine g_bipush 59 208 (gd rfl) rfl rfl ?_
                            refine g_cmp_eq 211 220 (gd rfl) rfl rfl (fun c208 => ?_) (fun c208 => ?_)
                            · skip
                              exact n_eq c208 i81 (in_c 59 rfl) rfl
                            · skip
                              refine g_aload_n 212 (gd rfl) rfl rfl ?_
                              refine g_iconst 1 213 (gd rfl) rfl rfl ?_
                              refine g_aload_n 214 (gd rfl) rfl rfl ?_
                              refine g_getI 217 (gd rfl) rfl rfl rfl (fun z214 e214 => ?_)
                              have q214 : w0_109_27 = z214 := (sF_ne rfl (sF_ne rfl (sF_get))).trans e214.symm
                              subst q214
                              refine g_callv (X := _) (As := [.int (Int32.ofInt 1), .int w0_109_27]) (r := []) (b := A 109) (q := 109) 220 (gd rfl) rfl rfl rfl rfl rfl (ww_o rfl) (Nat.le_of_ble_eq_true rfl) (Nat.zero_le _) (Nat.zero_le _) (f_298 (by first | exact dq1 hd rfl | exact dq0 hd rfl | exact dq2 hd rfl | exact dq3 hd rfl | omega) hI194 (in_w 1 5 (in_c 1 rfl) rfl) rfl) (fun e u h => h) (fun v u h => ?_)
                              obtain ⟨s217, hI217, hF217, n217, rfl, rfl, p217⟩ := h
                              obtain ⟨z217a, e217⟩ : ∃ w, w = s217.2.2.1 109 23 := ⟨_, rfl⟩
                              have i217a := inv_F hI217 0 9 rfl e217
                              rw [← (show z217a = s217.2.2.1 109 23 from e217)] at n217
                              show GG _ _ _ _ _ _ _ _ [] _ _ _
                              refine g_aload_n 221 (gd rfl) rfl rfl ?_
                              refine g_dup 222 (gd rfl) rfl rfl ?_
                              refine g_getI 225 (gd rfl) rfl rfl rfl (fun z222 e222 => ?_)
                              have q222 : w0_109_27 = z222 := (fr_F (s := (sF (sF (sF sc0 109 29 w0_109_27) 109 30 z19) 109 28 (Int32.ofInt 3))) (sF_ne rfl (sF_ne rfl (sF_ne rfl (v0_109_27)))) hF217 rfl).trans e222.symm
                              subst q222
                              refine g_iconst 1 226 (gd rfl) rfl rfl ?_
                              refine g_iadd 227 (gd rfl) rfl (fun z226 e226 => ?_)
                              have i226 := in_add 1 1000 e226 i8 (in_c 1 rfl) rfl rfl
                              refine g_putI 230 (gd rfl) rfl rfl rfl rfl ?_
                              have hI227 := inv_sF (q := 109) (j := 27) hI217 rfl (in_w 0 1000 i226 rfl)
                              have n230 : ∃ k v, TKN (s.1 125) (s.2.2.1 109 22).toInt.toNat (s.2.2.1 109 27).toInt.toNat ((sF s217 109 27 z226).2.2.1 109 29).toInt.toNat ((sF s217 109 27 z226).2.2.1 109 27).toInt.toNat k v ∧ NTK s (sF s217 109 27 z226) k v := by have hT0 : s.1 125 w0_109_27.toInt.toNat = z19 := (by rw [e19, hFc0.1 125 rfl]; rfl); have hS : tkS (s.1 125) (u_109_22).toInt.toNat (u_109_27).toInt.toNat w0_109_27.toInt.toNat := ⟨by have a0 := oa5 i8a i8 ((in_c 0 rfl)) i81 i226; have a5 := t_add e226 i8 (in_c 1 rfl) rfl; have a6 := oa4 ((in_c 1 rfl)) i217a ((in_c 3 rfl)) i89; have a10 := t_add e89 i8 (in_c 1 rfl) rfl; have oc := oc_299_109; omega, by have a0 := oa5 i8a i8 ((in_c 0 rfl)) i81 i226; have a5 := t_add e226 i8 (in_c 1 rfl) rfl; have a6 := oa4 ((in_c 1 rfl)) i217a ((in_c 3 rfl)) i89; have a10 := t_add e89 i8 (in_c 1 rfl) rfl; have oc := oc_299_109; omega, fun i a b => g0_0 i (by rw [← e_109_27]; exact a) (by have a0 := oa5 i8a i8 ((in_c 0 rfl)) i81 i226; have a5 := t_add e226 i8 (in_c 1 rfl) rfl; have a6 := oa4 ((in_c 1 rfl)) i217a ((in_c 3 rfl)) i89; have a10 := t_add e89 i8 (in_c 1 rfl) rfl; have oc := oc_299_109; omega), fun _ => by rw [hT0]; have a0 := oa5 i8a i8 ((in_c 0 rfl)) i81 i226; have a5 := t_add e226 i8 (in_c 1 rfl) rfl; have a6 := oa4 ((in_c 1 rfl)) i217a ((in_c 3 rfl)) i89; have a10 := t_add e89 i8 (in_c 1 rfl) rfl; have oc := oc_299_109; omega⟩; refine ⟨4, 0, ?_, ?_⟩; (rw [← (show z226 = (sF s217 109 27 z226).2.2.1 109 27 from sF_get), ← (show w0_109_27 = (sF s217 109 27 z226).2.2.1 109 29 from sF_ne rfl (fr_F (s := (sF (sF (sF sc0 109 29 w0_109_27) 109 30 z19) 109 28 (Int32.ofInt 3))) (sF_ne rfl (sF_ne rfl (sF_get))) hF217 rfl)), ← e_109_22, ← e_109_27]; exact tkn_4 hS (by have a0 := oa5 i8a i8 ((in_c 0 rfl)) i81 i226; have a5 := t_add e226 i8 (in_c 1 rfl) rfl; have a6 := oa4 ((in_c 1 rfl)) i217a ((in_c 3 rfl)) i89; have a10 := t_add e89 i8 (in_c 1 rfl) rfl; have oc := oc_299_109; omega) (by rw [hT0]; unfold tkL; have a0 := oa5 i8a i8 ((in_c 0 rfl)) i81 i226; have a5 := t_add e226 i8 (in_c 1 rfl) rfl; have a6 := oa4 ((in_c 1 rfl)) i217a ((in_c 3 rfl)) i89; have a10 := t_add e89 i8 (in_c 1 rfl) rfl; have oc := oc_299_109; omega) (by rw [hT0]; have a0 := oa5 i8a i8 ((in_c 0 rfl)) i81 i226; have a5 := t_add e226 i8 (in_c 1 rfl) rfl; have a6 := oa4 ((in_c 1 rfl)) i217a ((in_c 3 rfl)) i89; have a10 := t_add e89 i8 (in_c 1 rfl) rfl; have oc := oc_299_109; omega) (by first | exact nq_1 (by rw [hT0]; unfold tkD; have a0 := oa5 i8a i8 ((in_c 0 rfl)) i81 i226; have a5 := t_add e226 i8 (in_c 1 rfl) rfl; have a6 := oa4 ((in_c 1 rfl)) i217a ((in_c 3 rfl)) i89; have a10 := t_add e89 i8 (in_c 1 rfl) rfl; have oc := oc_299_109; omega) (by rw [hT0]; have a0 := oa5 i8a i8 ((in_c 0 rfl)) i81 i226; have a5 := t_add e226 i8 (in_c 1 rfl) rfl; have a6 := oa4 ((in_c 1 rfl)) i217a ((in_c 3 rfl)) i89; have a10 := t_add e89 i8 (in_c 1 rfl) rfl; have oc := oc_299_109; omega) | exact nq_2 (by rw [hT0]; have a0 := oa5 i8a i8 ((in_c 0 rfl)) i81 i226; have a5 := t_add e226 i8 (in_c 1 rfl) rfl; have a6 := oa4 ((in_c 1 rfl)) i217a ((in_c 3 rfl)) i89; have a10 := t_add e89 i8 (in_c 1 rfl) rfl; have oc := oc_299_109; omega) (fun h => by first | (exfalso; have a0 := oa5 i8a i8 ((in_c 0 rfl)) i81 i226; have a5 := t_add e226 i8 (in_c 1 rfl) rfl; have a6 := oa4 ((in_c 1 rfl)) i217a ((in_c 3 rfl)) i89; have a10 := t_add e89 i8 (in_c 1 rfl) rfl; have oc := oc_299_109; omega) | (rw [show s.1 125 (w0_109_27.toInt.toNat + 1) = z107 from (by rw [e107, show z106.toNatClampNeg = w0_109_27.toInt.toNat + 1 from (by show z106.toInt.toNat = _; have a0 := oa5 i8a i8 ((in_c 0 rfl)) i81 i226; have a5 := t_add e226 i8 (in_c 1 rfl) rfl; have a6 := oa4 ((in_c 1 rfl)) i217a ((in_c 3 rfl)) i89; have a10 := t_add e89 i8 (in_c 1 rfl) rfl; have oc := oc_299_109; omega)]; exact congrFun (hFc0.1 125 rfl).symm _)]; unfold tkD; have a0 := oa5 i8a i8 ((in_c 0 rfl)) i81 i226; have a5 := t_add e226 i8 (in_c 1 rfl) rfl; have a6 := oa4 ((in_c 1 rfl)) i217a ((in_c 3 rfl)) i89; have a10 := t_add e89 i8 (in_c 1 rfl) rfl; have oc := oc_299_109; omega))) (by have a0 := oa5 i8a i8 ((in_c 0 rfl)) i81 i226; have a5 := t_add e226 i8 (in_c 1 rfl) rfl; have a6 := oa4 ((in_c 1 rfl)) i217a ((in_c 3 rfl)) i89; have a10 := t_add e89 i8 (in_c 1 rfl) rfl; have oc := oc_299_109; omega) rfl); (exact ntk_4 ((show (Int32.ofInt 3) = (sF s217 109 27 z226).2.2.1 109 28 from sF_ne rfl (fr_F (s := (sF (sF (sF sc0 109 29 w0_109_27) 109 30 z19) 109 28 (Int32.ofInt 3))) (sF_get) hF217 rfl))).symm (by rw [← (show z19 = (sF s217 109 27 z226).2.2.1 109 30 from sF_ne rfl (fr_F (s := (sF (sF (sF sc0 109 29 w0_109_27) 109 30 z19) 109 28 (Int32.ofInt 3))) (sF_ne rfl (sF_get)) hF217 rfl))]; have a0 := oa5 i8a i8 ((in_c 0 rfl)) i81 i226; have a5 := t_add e226 i8 (in_c 1 rfl) rfl; have a6 := oa4 ((in_c 1 rfl)) i217a ((in_c 3 rfl)) i89; have a10 := t_add e89 i8 (in_c 1 rfl) rfl; have oc := oc_299_109; omega) (fbl_tr g0_1 (by rw [← (show w0_109_27 = (sF s217 109 27 z226).2.2.1 109 29 from sF_ne rfl (fr_F (s := (sF (sF (sF sc0 109 29 w0_109_27) 109 30 z19) 109 28 (Int32.ofInt 3))) (sF_ne rfl (sF_ne rfl (sF_get))) hF217 rfl))]; exact p217)))
                              have n230a : (z226).toInt ≤ (u_109_22).toInt := by have a0 := oa5 i8a i8 ((in_c 0 rfl)) i81 i226; have a5 := t_add e226 i8 (in_c 1 rfl) rfl; have a6 := oa4 ((in_c 1 rfl)) i217a ((in_c 3 rfl)) i89; have a10 := t_add e89 i8 (in_c 1 rfl) rfl; have oc := oc_299_109; omega
                              have n230b : ((sF s217 109 27 z226).2.2.1 109 27).toInt ≤ ((sF s217 109 27 z226).2.2.1 109 22).toInt := by have b0 : z226 = (sF s217 109 27 z226).2.2.1 109 27 := sF_get; have b1 : u_109_22 = (sF s217 109 27 z226).2.2.1 109 22 := sF_ne rfl (fr_F (s := (sF (sF (sF sc0 109 29 w0_109_27) 109 30 z19) 109 28 (Int32.ofInt 3))) (sF_ne rfl (sF_ne rfl (sF_ne rfl (fr_F e_109_22 hFc0 rfl)))) hF217 rfl); rw [← b0, ← b1]; exact n230a
                              have n230c : (u_109_27).toInt ≤ (z226).toInt := by have a0 := oa5 i8a i8 ((in_c 0 rfl)) i81 i226; have a5 := t_add e226 i8 (in_c 1 rfl) rfl; have a6 := oa4 ((in_c 1 rfl)) i217a ((in_c 3 rfl)) i89; have a10 := t_add e89 i8 (in_c 1 rfl) rfl; have oc := oc_299_109; omega
                              have n230d : (s.2.2.1 109 27).toInt ≤ ((sF s217 109 27 z226).2.2.1 109 27).toInt := by have b0 : z226 = (sF s217 109 27 z226).2.2.1 109 27 := sF_get; first | (rw [← b0, ← e_109_27]; exact n230c) | (rw [← b0]; exact n230c)
                              have n230e : ((Int32.ofInt 3)).toInt ≠ 0 → (u_109_27).toInt + 1 ≤ (z226).toInt := by have a0 := oa5 i8a i8 ((in_c 0 rfl)) i81 i226; have a5 := t_add e226 i8 (in_c 1 rfl) rfl; have a6 := oa4 ((in_c 1 rfl)) i217a ((in_c 3 rfl)) i89; have a10 := t_add e89 i8 (in_c 1 rfl) rfl; have oc := oc_299_109; omega
                              have n230f : ((sF s217 109 27 z226).2.2.1 109 28).toInt ≠ 0 → (s.2.2.1 109 27).toInt + 1 ≤ ((sF s217 109 27 z226).2.2.1 109 27).toInt := by have b0 : (Int32.ofInt 3) = (sF s217 109 27 z226).2.2.1 109 28 := sF_ne rfl (fr_F (s := (sF (sF (sF sc0 109 29 w0_109_27) 109 30 z19) 109 28 (Int32.ofInt 3))) (sF_get) hF217 rfl); have b1 : z226 = (sF s217 109 27 z226).2.2.1 109 27 := sF_get; first | (rw [← b0, ← b1, ← e_109_27]; exact n230e) | (rw [← b0, ← b1]; exact n230e)
                              have n230g : ((Int32.ofInt 3)).toInt = 1 → 97 ≤ (z19).toInt := by exact fun h => absurd h (by decide)
                              have n230h : ((sF s217 109 27 z226).2.2.1 109 28).toInt = 1 → 97 ≤ ((sF s217 109 27 z226).2.2.1 109 30).toInt := by have b0 : (Int32.ofInt 3) = (sF s217 109 27 z226).2.2.1 109 28 := sF_ne rfl (fr_F (s := (sF (sF (sF sc0 109 29 w0_109_27) 109 30 z19) 109 28 (Int32.ofInt 3))) (sF_get) hF217 rfl); have b1 : z19 = (sF s217 109 27 z226).2.2.1 109 30 := sF_ne rfl (fr_F (s := (sF (sF (sF sc0 109 29 w0_109_27) 109 30 z19) 109 28 (Int32.ofInt 3))) (sF_ne rfl (sF_get)) hF217 rfl); rw [← b0, ← b1]; exact n230g
                              have n230i : ((Int32.ofInt 3)).toInt = 1 → (z19).toInt ≤ 122 := by exact fun h => absurd h (by decide)
                              have n230j : ((sF s217 109 27 z226).2.2.1 109 28).toInt = 1 → ((sF s217 109 27 z226).2.2.1 109 30).toInt ≤ 122 := by have b0 : (Int32.ofInt 3) = (sF s217 109 27 z226).2.2.1 109 28 := sF_ne rfl (fr_F (s := (sF (sF (sF sc0 109 29 w0_109_27) 109 30 z19) 109 28 (Int32.ofInt 3))) (sF_get) hF217 rfl); have b1 : z19 = (sF s217 109 27 z226).2.2.1 109 30 := sF_ne rfl (fr_F (s := (sF (sF (sF sc0 109 29 w0_109_27) 109 30 z19) 109 28 (Int32.ofInt 3))) (sF_ne rfl (sF_get)) hF217 rfl); rw [← b0, ← b1]; exact n230i
                              exact g_return (gd rfl) rfl (hP _ _ ⟨(sF s217 109 27 z226), hI227, (fr_sF rfl (fr_tr rfl (fr_sF rfl (fr_sF rfl (fr_sF rfl hFc0))) hF217)), n230b, n230d, n230f, n230h, n230j, rfl, rfl, n230⟩)
                        · skip
                          exact zn_ne c186 (in_c 0 rfl) rfl
                      · skip
                        exact n_le c183x3 (in_c 97 rfl) i81 rfl
                    · skip
                      exact zn_ne c128 (in_c 0 rfl) rfl
                · skip
                  exact n_le c121x3 (in_c 48 rfl) i81 rfl
              · skip
                have i94 := r_lt1 1 999 c94 i89 i8a rfl
                have i94a := r_lt2 2 1000 c94 i89 i8a rfl
                refine g_aload_n 98 (gd rfl) rfl rfl ?_
                refine g_getA (q2 := 125) 101 (gd rfl) rfl rfl rfl rfl ?_
                refine g_aload_n 102 (gd rfl) rfl rfl ?_
                refine g_getI 105 (gd rfl) rfl rfl rfl (fun z102 e102 => ?_)
                have q102 : w0_109_27 = z102 := (sF_ne rfl (sF_ne rfl (v0_109_27))).trans e102.symm
                subst q102
                refine g_iconst 1 106 (gd rfl) rfl rfl ?_
                refine g_iadd 107 (gd rfl) rfl (fun z106 e106 => ?_)
                have i106 := in_add 1 1000 e106 i8 (in_c 1 rfl) rfl rfl
                have i107 : In z106 0 999 := by have a0 := oa4 i94a i8 i81 i106; have a4 := t_add e106 i8 (in_c 1 rfl) rfl; have a5 := oa2 ((in_c 1 rfl)) i94; have a7 := t_add e89 i8 (in_c 1 rfl) rfl; have oc := oc_299_109; exact ⟨by omega, by omega⟩
                refine g_iaload 108 (gd rfl) rfl (n := 1000) rfl (in_ix i107 rfl) (fun z107 e107 => ?_)
                have i107a := inv_I hI75 (n := 1000) (t := 0) 0 126 rfl (in_ix i107 rfl) rfl e107
                refine g_calls (As := [.int z107]) (r := []) 111 (gd rfl) rfl rfl rfl rfl rfl (Nat.le_of_ble_eq_true rfl) (mc := 0) (ms := 0) (Nat.zero_le _) (Nat.zero_le _) (P := fun v u => _) ?_ (fun v u h => h)
                intro po108 xx108 hp108 hx108
                refine g_enter2 (k := 297) (N := 300) (by first | exact dq1 hd rfl | exact dq0 hd rfl | exact dq2 hd rfl | exact dq3 hd rfl | omega) rfl (Nat.le_of_ble_eq_true rfl) ?_
                refine g_iload_n 1 (gd rfl) rfl rfl ?_
                refine g_bipush 48 3 (gd rfl) rfl rfl ?_
                refine g_cmp_lt 6 16 (gd rfl) rfl rfl (fun c108x3 => ?_) (fun c108x3 => ?_)
                · skip
                  have i108x3 := r_lt1 0 47 c108x3 i107a (in_c 48 rfl) rfl
                  refine g_iconst 0 17 (gd rfl) rfl rfl ?_
                  refine g_ireturn (gd rfl) rfl (nb01 (in_w 0 1 (in_c 0 rfl) rfl)) (hp108 _ _ ?_)
                  show GG _ _ _ _ _ _ _ _ [.int (Int32.ofInt 0)] _ _ _
                  refine g_if_eq 114 118 (gd rfl) rfl rfl (fun c111 => ?_) (fun c111 => ?_)
                  · skip
                    refine g_iconst 0 119 (gd rfl) rfl rfl ?_
                    refine g_istore_n 120 (gd rfl) rfl (Nat.le_of_ble_eq_true rfl) ?_
                    refine g_iload_n 121 (gd rfl) rfl rfl ?_
                    refine g_calls (As := [.int z19]) (r := []) 124 (gd rfl) rfl rfl rfl rfl rfl (Nat.le_of_ble_eq_true rfl) (mc := 0) (ms := 0) (Nat.zero_le _) (Nat.zero_le _) (P := fun v u => _) ?_ (fun v u h => h)
                    intro po121 xx121 hp121 hx121
                    refine g_enter2 (k := 297) (N := 300) (by first | exact dq1 hd rfl | exact dq0 hd rfl | exact dq2 hd rfl | exact dq3 hd rfl | omega) rfl (Nat.le_of_ble_eq_true rfl) ?_
                    refine g_iload_n 1 (gd rfl) rfl rfl ?_
                    refine g_bipush 48 3 (gd rfl) rfl rfl ?_
                    refine g_cmp_lt 6 16 (gd rfl) rfl rfl (fun c121x3 => ?_) (fun c121x3 => ?_)
                    · skip
                      refine g_iconst 0 17 (gd rfl) rfl rfl ?_
                      refine g_ireturn (gd rfl) rfl (nb01 (in_w 0 1 (in_c 0 rfl) rfl)) (hp121 _ _ ?_)
                      show GG _ _ _ _ _ _ _ _ [.int (Int32.ofInt 0)] _ _ _
                      refine g_if_ne 127 131 (gd rfl) rfl rfl (fun c124 => ?_) (fun c124 => ?_)
                      · skip
                        exact zn_ne c124 (in_c 0 rfl) rfl
                      · skip
                        refine g_iload_n 128 (gd rfl) rfl rfl ?_
                        refine g_if_eq 131 181 (gd rfl) rfl rfl (fun c128 => ?_) (fun c128 => ?_)
                        · skip
                          refine g_aload_n 182 (gd rfl) rfl rfl ?_
                          refine g_iload_n 183 (gd rfl) rfl rfl ?_
                          refine g_calls (As := [.int z19]) (r := [.ref (A 109)]) 186 (gd rfl) rfl rfl rfl rfl rfl (Nat.le_of_ble_eq_true rfl) (mc := 0) (ms := 0) (Nat.zero_le _) (Nat.zero_le _) (P := fun v u => _) ?_ (fun v u h => h)
                          intro po183 xx183 hp183 hx183
                          refine g_enter2 (k := 296) (N := 300) (by first | exact dq1 hd rfl | exact dq0 hd rfl | exact dq2 hd rfl | exact dq3 hd rfl | omega) rfl (Nat.le_of_ble_eq_true rfl) ?_
                          refine g_iload_n 1 (gd rfl) rfl rfl ?_
                          refine g_bipush 97 3 (gd rfl) rfl rfl ?_
                          refine g_cmp_lt 6 16 (gd rfl) rfl rfl (fun c183x3 => ?_) (fun c183x3 => ?_)
                          · skip
                            refine g_iconst 0 17 (gd rfl) rfl rfl ?_
                            refine g_ireturn (gd rfl) rfl (nb01 (in_w 0 1 (in_c 0 rfl) rfl)) (hp183 _ _ ?_)
                            show GG _ _ _ _ _ _ _ _ [.int (Int32.ofInt 0), .ref (A 109)] _ _ _
                            refine g_if_eq 189 193 (gd rfl) rfl rfl (fun c186 => ?_) (fun c186 => ?_)
                            · skip
                              refine g_iconst 3 194 (gd rfl) rfl rfl ?_
                              refine g_putI 197 (gd rfl) rfl rfl rfl rfl ?_
                              have hI194 := inv_sF (q := 109) (j := 28) hI75 rfl (in_w (-2147483648) 2147483647 (in_c 3 rfl) rfl)
                              refine g_aload_n 198 (gd rfl) rfl rfl ?_
                              refine g_getI 201 (gd rfl) rfl rfl rfl (fun z198 e198 => ?_)
                              have q198 : (Int32.ofInt 3) = z198 := (sF_get).trans e198.symm
                              subst q198
                              refine g_iconst 3 202 (gd rfl) rfl rfl ?_
                              refine g_cmp_ne 205 220 (gd rfl) rfl rfl (fun c202 => ?_) (fun c202 => ?_)
                              · skip
                                exact n_ne c202 (in_c 3 rfl) (in_c 3 rfl) rfl
                              · skip
                                refine g_iload_n 206 (gd rfl) rfl rfl ?_
                                refine g_bipush 59 208 (gd rfl) rfl rfl ?_
                                refine g_cmp_eq 211 220 (gd rfl) rfl rfl (fun c208 => ?_) (fun c208 => ?_)
                                · skip
                                  exact n_eq c208 i81 (in_c 59 rfl) rfl
                                · skip
                                  refine g_aload_n 212 (gd rfl) rfl rfl ?_
                                  refine g_iconst 1 213 (gd rfl) rfl rfl ?_
                                  refine g_aload_n 214 (gd rfl) rfl rfl ?_
                                  refine g_getI 217 (gd rfl) rfl rfl rfl (fun z214 e214 => ?_)
                                  have q214 : w0_109_27 = z214 := (sF_ne rfl (sF_ne rfl (sF_get))).trans e214.symm
                                  subst q214
                                  refine g_callv (X := _) (As := [.int (Int32.ofInt 1), .int w0_109_27]) (r := []) (b := A 109) (q := 109) 220 (gd rfl) rfl rfl rfl rfl rfl (ww_o rfl) (Nat.le_of_ble_eq_true rfl) (Nat.zero_le _) (Nat.zero_le _) (f_298 (by first | exact dq1 hd rfl | exact dq0 hd rfl | exact dq2 hd rfl | exact dq3 hd rfl | omega) hI194 (in_w 1 5 (in_c 1 rfl) rfl) rfl) (fun e u h => h) (fun v u h => ?_)
                                  obtain ⟨s217, hI217, hF217, n217, rfl, rfl, p217⟩ := h
                                  obtain ⟨z217a, e217⟩ : ∃ w, w = s217.2.2.1 109 23 := ⟨_, rfl⟩
                                  have i217a := inv_F hI217 0 9 rfl e217
                                  rw [← (show z217a = s217.2.2.1 109 23 from e217)] at n217
                                  show GG _ _ _ _ _ _ _ _ [] _ _ _
                                  refine g_aload_n 221 (gd rfl) rfl rfl ?_
                                  refine g_dup 222 (gd rfl) rfl rfl ?_
                                  refine g_getI 225 (gd rfl) rfl rfl rfl (fun z222 e222 => ?_)
                                  have q222 : w0_109_27 = z222 := (fr_F (s := (sF (sF (sF sc0 109 29 w0_109_27) 109 30 z19) 109 28 (Int32.ofInt 3))) (sF_ne rfl (sF_ne rfl (sF_ne rfl (v0_109_27)))) hF217 rfl).trans e222.symm
                                  subst q222
                                  refine g_iconst 1 226 (gd rfl) rfl rfl ?_
                                  refine g_iadd 227 (gd rfl) rfl (fun z226 e226 => ?_)
                                  have i226 := in_add 1 1000 e226 i8 (in_c 1 rfl) rfl rfl
                                  refine g_putI 230 (gd rfl) rfl rfl rfl rfl ?_
                                  have hI227 := inv_sF (q := 109) (j := 27) hI217 rfl (in_w 0 1000 i226 rfl)
                                  have n230 : ∃ k v, TKN (s.1 125) (s.2.2.1 109 22).toInt.toNat (s.2.2.1 109 27).toInt.toNat ((sF s217 109 27 z226).2.2.1 109 29).toInt.toNat ((sF s217 109 27 z226).2.2.1 109 27).toInt.toNat k v ∧ NTK s (sF s217 109 27 z226) k v := by have hT0 : s.1 125 w0_109_27.toInt.toNat = z19 := (by rw [e19, hFc0.1 125 rfl]; rfl); have hS : tkS (s.1 125) (u_109_22).toInt.toNat (u_109_27).toInt.toNat w0_109_27.toInt.toNat := ⟨by have a0 := oa5 i94a i8 ((in_c 0 rfl)) i81 i226; have a5 := t_add e226 i8 (in_c 1 rfl) rfl; have a6 := oa4 ((in_c 1 rfl)) i217a ((in_c 3 rfl)) i107; have a10 := t_add e106 i8 (in_c 1 rfl) rfl; have a11 := in_u i94; have a12 := t_add e89 i8 (in_c 1 rfl) rfl; have oc := oc_299_109; omega, by have a0 := oa5 i94a i8 ((in_c 0 rfl)) i81 i226; have a5 := t_add e226 i8 (in_c 1 rfl) rfl; have a6 := oa4 ((in_c 1 rfl)) i217a ((in_c 3 rfl)) i107; have a10 := t_add e106 i8 (in_c 1 rfl) rfl; have a11 := in_u i94; have a12 := t_add e89 i8 (in_c 1 rfl) rfl; have oc := oc_299_109; omega, fun i a b => g0_0 i (by rw [← e_109_27]; exact a) (by have a0 := oa5 i94a i8 ((in_c 0 rfl)) i81 i226; have a5 := t_add e226 i8 (in_c 1 rfl) rfl; have a6 := oa4 ((in_c 1 rfl)) i217a ((in_c 3 rfl)) i107; have a10 := t_add e106 i8 (in_c 1 rfl) rfl; have a11 := in_u i94; have a12 := t_add e89 i8 (in_c 1 rfl) rfl; have oc := oc_299_109; omega), fun _ => by rw [hT0]; have a0 := oa5 i94a i8 ((in_c 0 rfl)) i81 i226; have a5 := t_add e226 i8 (in_c 1 rfl) rfl; have a6 := oa4 ((in_c 1 rfl)) i217a ((in_c 3 rfl)) i107; have a10 := t_add e106 i8 (in_c 1 rfl) rfl; have a11 := in_u i94; have a12 := t_add e89 i8 (in_c 1 rfl) rfl; have oc := oc_299_109; omega⟩; refine ⟨4, 0, ?_, ?_⟩; (rw [← (show z226 = (sF s217 109 27 z226).2.2.1 109 27 from sF_get), ← (show w0_109_27 = (sF s217 109 27 z226).2.2.1 109 29 from sF_ne rfl (fr_F (s := (sF (sF (sF sc0 109 29 w0_109_27) 109 30 z19) 109 28 (Int32.ofInt 3))) (sF_ne rfl (sF_ne rfl (sF_get))) hF217 rfl)), ← e_109_22, ← e_109_27]; exact tkn_4 hS (by have a0 := oa5 i94a i8 ((in_c 0 rfl)) i81 i226; have a5 := t_add e226 i8 (in_c 1 rfl) rfl; have a6 := oa4 ((in_c 1 rfl)) i217a ((in_c 3 rfl)) i107; have a10 := t_add e106 i8 (in_c 1 rfl) rfl; have a11 := in_u i94; have a12 := t_add e89 i8 (in_c 1 rfl) rfl; have oc := oc_299_109; omega) (by rw [hT0]; unfold tkL; have a0 := oa5 i94a i8 ((in_c 0 rfl)) i81 i226; have a5 := t_add e226 i8 (in_c 1 rfl) rfl; have a6 := oa4 ((in_c 1 rfl)) i217a ((in_c 3 rfl)) i107; have a10 := t_add e106 i8 (in_c 1 rfl) rfl; have a11 := in_u i94; have a12 := t_add e89 i8 (in_c 1 rfl) rfl; have oc := oc_299_109; omega) (by rw [hT0]; have a0 := oa5 i94a i8 ((in_c 0 rfl)) i81 i226; have a5 := t_add e226 i8 (in_c 1 rfl) rfl; have a6 := oa4 ((in_c 1 rfl)) i217a ((in_c 3 rfl)) i107; have a10 := t_add e106 i8 (in_c 1 rfl) rfl; have a11 := in_u i94; have a12 := t_add e89 i8 (in_c 1 rfl) rfl; have oc := oc_299_109; omega) (by first | exact nq_1 (by rw [hT0]; unfold tkD; have a0 := oa5 i94a i8 ((in_c 0 rfl)) i81 i226; have a5 := t_add e226 i8 (in_c 1 rfl) rfl; have a6 := oa4 ((in_c 1 rfl)) i217a ((in_c 3 rfl)) i107; have a10 := t_add e106 i8 (in_c 1 rfl) rfl; have a11 := in_u i94; have a12 := t_add e89 i8 (in_c 1 rfl) rfl; have oc := oc_299_109; omega) (by rw [hT0]; have a0 := oa5 i94a i8 ((in_c 0 rfl)) i81 i226; have a5 := t_add e226 i8 (in_c 1 rfl) rfl; have a6 := oa4 ((in_c 1 rfl)) i217a ((in_c 3 rfl)) i107; have a10 := t_add e106 i8 (in_c 1 rfl) rfl; have a11 := in_u i94; have a12 := t_add e89 i8 (in_c 1 rfl) rfl; have oc := oc_299_109; omega) | exact nq_2 (by rw [hT0]; have a0 := oa5 i94a i8 ((in_c 0 rfl)) i81 i226; have a5 := t_add e226 i8 (in_c 1 rfl) rfl; have a6 := oa4 ((in_c 1 rfl)) i217a ((in_c 3 rfl)) i107; have a10 := t_add e106 i8 (in_c 1 rfl) rfl; have a11 := in_u i94; have a12 := t_add e89 i8 (in_c 1 rfl) rfl; have oc := oc_299_109; omega) (fun h => by first | (exfalso; have a0 := oa5 i94a i8 ((in_c 0 rfl)) i81 i226; have a5 := t_add e226 i8 (in_c 1 rfl) rfl; have a6 := oa4 ((in_c 1 rfl)) i217a ((in_c 3 rfl)) i107; have a10 := t_add e106 i8 (in_c 1 rfl) rfl; have a11 := in_u i94; have a12 := t_add e89 i8 (in_c 1 rfl) rfl; have oc := oc_299_109; omega) | (rw [show s.1 125 (w0_109_27.toInt.toNat + 1) = z107 from (by rw [e107, show z106.toNatClampNeg = w0_109_27.toInt.toNat + 1 from (by show z106.toInt.toNat = _; have a0 := oa5 i94a i8 ((in_c 0 rfl)) i81 i226; have a5 := t_add e226 i8 (in_c 1 rfl) rfl; have a6 := oa4 ((in_c 1 rfl)) i217a ((in_c 3 rfl)) i107; have a10 := t_add e106 i8 (in_c 1 rfl) rfl; have a11 := in_u i94; have a12 := t_add e89 i8 (in_c 1 rfl) rfl; have oc := oc_299_109; omega)]; exact congrFun (hFc0.1 125 rfl).symm _)]; unfold tkD; have a0 := oa5 i94a i8 ((in_c 0 rfl)) i81 i226; have a5 := t_add e226 i8 (in_c 1 rfl) rfl; have a6 := oa4 ((in_c 1 rfl)) i217a ((in_c 3 rfl)) i107; have a10 := t_add e106 i8 (in_c 1 rfl) rfl; have a11 := in_u i94; have a12 := t_add e89 i8 (in_c 1 rfl) rfl; have oc := oc_299_109; omega))) (by have a0 := oa5 i94a i8 ((in_c 0 rfl)) i81 i226; have a5 := t_add e226 i8 (in_c 1 rfl) rfl; have a6 := oa4 ((in_c 1 rfl)) i217a ((in_c 3 rfl)) i107; have a10 := t_add e106 i8 (in_c 1 rfl) rfl; have a11 := in_u i94; have a12 := t_add e89 i8 (in_c 1 rfl) rfl; have oc := oc_299_109; omega) rfl); (exact ntk_4 ((show (Int32.ofInt 3) = (sF s217 109 27 z226).2.2.1 109 28 from sF_ne rfl (fr_F (s := (sF (sF (sF sc0 109 29 w0_109_27) 109 30 z19) 109 28 (Int32.ofInt 3))) (sF_get) hF217 rfl))).symm (by rw [← (show z19 = (sF s217 109 27 z226).2.2.1 109 30 from sF_ne rfl (fr_F (s := (sF (sF (sF sc0 109 29 w0_109_27) 109 30 z19) 109 28 (Int32.ofInt 3))) (sF_ne rfl (sF_get)) hF217 rfl))]; have a0 := oa5 i94a i8 ((in_c 0 rfl)) i81 i226; have a5 := t_add e226 i8 (in_c 1 rfl) rfl; have a6 := oa4 ((in_c 1 rfl)) i217a ((in_c 3 rfl)) i107; have a10 := t_add e106 i8 (in_c 1 rfl) rfl; have a11 := in_u i94; have a12 := t_add e89 i8 (in_c 1 rfl) rfl; have oc := oc_299_109; omega) (fbl_tr g0_1 (by rw [← (show w0_109_27 = (sF s217 109 27 z226).2.2.1 109 29 from sF_ne rfl (fr_F (s := (sF (sF (sF sc0 109 29 w0_109_27) 109 30 z19) 109 28 (Int32.ofInt 3))) (sF_ne rfl (sF_ne rfl (sF_get))) hF217 rfl))]; exact p217)))
                                  have n230a : (z226).toInt ≤ (u_109_22).toInt := by have a0 := oa5 i94a i8 ((in_c 0 rfl)) i81 i226; have a5 := t_add e226 i8 (in_c 1 rfl) rfl; have a6 := oa4 ((in_c 1 rfl)) i217a ((in_c 3 rfl)) i107; have a10 := t_add e106 i8 (in_c 1 rfl) rfl; have a11 := in_u i94; have a12 := t_add e89 i8 (in_c 1 rfl) rfl; have oc := oc_299_109; omega
                                  have n230b : ((sF s217 109 27 z226).2.2.1 109 27).toInt ≤ ((sF s217 109 27 z226).2.2.1 109 22).toInt := by have b0 : z226 = (sF s217 109 27 z226).2.2.1 109 27 := sF_get; have b1 : u_109_22 = (sF s217 109 27 z226).2.2.1 109 22 := sF_ne rfl (fr_F (s := (sF (sF (sF sc0 109 29 w0_109_27) 109 30 z19) 109 28 (Int32.ofInt 3))) (sF_ne rfl (sF_ne rfl (sF_ne rfl (fr_F e_109_22 hFc0 rfl)))) hF217 rfl); rw [← b0, ← b1]; exact n230a
                                  have n230c : (u_109_27).toInt ≤ (z226).toInt := by have a0 := oa5 i94a i8 ((in_c 0 rfl)) i81 i226; have a5 := t_add e226 i8 (in_c 1 rfl) rfl; have a6 := oa4 ((in_c 1 rfl)) i217a ((in_c 3 rfl)) i107; have a10 := t_add e106 i8 (in_c 1 rfl) rfl; have a11 := in_u i94; have a12 := t_add e89 i8 (in_c 1 rfl) rfl; have oc := oc_299_109; omega
                                  have n230d : (s.2.2.1 109 27).toInt ≤ ((sF s217 109 27 z226).2.2.1 109 27).toInt := by have b0 : z226 = (sF s217 109 27 z226).2.2.1 109 27 := sF_get; first | (rw [← b0, ← e_109_27]; exact n230c) | (rw [← b0]; exact n230c)
                                  have n230e : ((Int32.ofInt 3)).toInt ≠ 0 → (u_109_27).toInt + 1 ≤ (z226).toInt := by have a0 := oa5 i94a i8 ((in_c 0 rfl)) i81 i226; have a5 := t_add e226 i8 (in_c 1 rfl) rfl; have a6 := oa4 ((in_c 1 rfl)) i217a ((in_c 3 rfl)) i107; have a10 := t_add e106 i8 (in_c 1 rfl) rfl; have a11 := in_u i94; have a12 := t_add e89 i8 (in_c 1 rfl) rfl; have oc := oc_299_109; omega
                                  have n230f : ((sF s217 109 27 z226).2.2.1 109 28).toInt ≠ 0 → (s.2.2.1 109 27).toInt + 1 ≤ ((sF s217 109 27 z226).2.2.1 109 27).toInt := by have b0 : (Int32.ofInt 3) = (sF s217 109 27 z226).2.2.1 109 28 := sF_ne rfl (fr_F (s := (sF (sF (sF sc0 109 29 w0_109_27) 109 30 z19) 109 28 (Int32.ofInt 3))) (sF_get) hF217 rfl); have b1 : z226 = (sF s217 109 27 z226).2.2.1 109 27 := sF_get; first | (rw [← b0, ← b1, ← e_109_27]; exact n230e) | (rw [← b0, ← b1]; exact n230e)
                                  have n230g : ((Int32.ofInt 3)).toInt = 1 → 97 ≤ (z19).toInt := by exact fun h => absurd h (by decide)
                                  have n230h : ((sF s217 109 27 z226).2.2.1 109 28).toInt = 1 → 97 ≤ ((sF s217 109 27 z226).2.2.1 109 30).toInt := by have b0 : (Int32.ofInt 3) = (sF s217 109 27 z226).2.2.1 109 28 := sF_ne rfl (fr_F (s := (sF (sF (sF sc0 109 29 w0_109_27) 109 30 z19) 109 28 (Int32.ofInt 3))) (sF_get) hF217 rfl); have b1 : z19 = (sF s217 109 27 z226).2.2.1 109 30 := sF_ne rfl (fr_F (s := (sF (sF (sF sc0 109 29 w0_109_27) 109 30 z19) 109 28 (Int32.ofInt 3))) (sF_ne rfl (sF_get)) hF217 rfl); rw [← b0, ← b1]; exact n230g
                                  have n230i : ((Int32.ofInt 3)).toInt = 1 → (z19).toInt ≤ 122 := by exact fun h => absurd h (by decide)
                                  have n230j : ((sF s217 109 27 z226).2.2.1 109 28).toInt = 1 → ((sF s217 109 27 z226).2.2.1 109 30).toInt ≤ 122 := by have b0 : (Int32.ofInt 3) = (sF s217 109 27 z226).2.2.1 109 28 := sF_ne rfl (fr_F (s := (sF (sF (sF sc0 109 29 w0_109_27) 109 30 z19) 109 28 (Int32.ofInt 3))) (sF_get) hF217 rfl); have b1 : z19 = (sF s217 109 27 z226).2.2.1 109 30 := sF_ne rfl (fr_F (s := (sF (sF (sF sc0 109 29 w0_109_27) 109 30 z19) 109 28 (Int32.ofInt 3))) (sF_ne rfl (sF_get)) hF217 rfl); rw [← b0, ← b1]; exact n230i
                                  exact g_return (gd rfl) rfl (hP _ _ ⟨(sF s217 109 27 z226), hI227, (fr_sF rfl (fr_tr rfl (fr_sF rfl (fr_sF rfl (fr_sF rfl hFc0))) hF217)), n230b, n230d, n230f, n230h, n230j, rfl, rfl, n230⟩)
                            · skip
                              exact zn_ne c186 (in_c 0 rfl) rfl
                          · skip
                            exact n_le c183x3 (in_c 97 rfl) i81 rfl
                        · skip
                          exact zn_ne c128 (in_c 0 rfl) rfl
                    · skip
                      exact n_le c121x3 (in_c 48 rfl) i81 rfl
                  · skip
                    exact zn_ne c111 (in_c 0 rfl) rfl
                · skip
                  have i108x3 := r_le2 48 126 c108x3 (in_c 48 rfl) i107a rfl
                  refine g_iload_n 7 (gd rfl) rfl rfl ?_
                  refine g_bipush 57 9 (gd rfl) rfl rfl ?_
                  refine g_cmp_gt 12 16 (gd rfl) rfl rfl (fun c108x9 => ?_) (fun c108x9 => ?_)
                  · skip
                    have i108x9 := r_lt2 58 126 c108x9 (in_c 57 rfl) i108x3 rfl
                    refine g_iconst 0 17 (gd rfl) rfl rfl ?_
                    refine g_ireturn (gd rfl) rfl (nb01 (in_w 0 1 (in_c 0 rfl) rfl)) (hp108 _ _ ?_)
                    show GG _ _ _ _ _ _ _ _ [.int (Int32.ofInt 0)] _ _ _
                    refine g_if_eq 114 118 (gd rfl) rfl rfl (fun c111 => ?_) (fun c111 => ?_)
                    · skip
                      refine g_iconst 0 119 (gd rfl) rfl rfl ?_
                      refine g_istore_n 120 (gd rfl) rfl (Nat.le_of_ble_eq_true rfl) ?_
                      refine g_iload_n 121 (gd rfl) rfl rfl ?_
                      refine g_calls (As := [.int z19]) (r := []) 124 (gd rfl) rfl rfl rfl rfl rfl (Nat.le_of_ble_eq_true rfl) (mc := 0) (ms := 0) (Nat.zero_le _) (Nat.zero_le _) (P := fun v u => _) ?_ (fun v u h => h)
                      intro po121 xx121 hp121 hx121
                      refine g_enter2 (k := 297) (N := 300) (by first | exact dq1 hd rfl | exact dq0 hd rfl | exact dq2 hd rfl | exact dq3 hd rfl | omega) rfl (Nat.le_of_ble_eq_true rfl) ?_
                      refine g_iload_n 1 (gd rfl) rfl rfl ?_
                      refine g_bipush 48 3 (gd rfl) rfl rfl ?_
                      refine g_cmp_lt 6 16 (gd rfl) rfl rfl (fun c121x3 => ?_) (fun c121x3 => ?_)
                      · skip
                        refine g_iconst 0 17 (gd rfl) rfl rfl ?_
                        refine g_ireturn (gd rfl) rfl (nb01 (in_w 0 1 (in_c 0 rfl) rfl)) (hp121 _ _ ?_)
                        show GG _ _ _ _ _ _ _ _ [.int (Int32.ofInt 0)] _ _ _
                        refine g_if_ne 127 131 (gd rfl) rfl rfl (fun c124 => ?_) (fun c124 => ?_)
                        · skip
                          exact zn_ne c124 (in_c 0 rfl) rfl
                        · skip
                          refine g_iload_n 128 (gd rfl) rfl rfl ?_
                          refine g_if_eq 131 181 (gd rfl) rfl rfl (fun c128 => ?_) (fun c128 => ?_)
                          · skip
                            refine g_aload_n 182 (gd rfl) rfl rfl ?_
                            refine g_iload_n 183 (gd rfl) rfl rfl ?_
                            refine g_calls (As := [.int z19]) (r := [.ref (A 109)]) 186 (gd rfl) rfl rfl rfl rfl rfl (Nat.le_of_ble_eq_true rfl) (mc := 0) (ms := 0) (Nat.zero_le _) (Nat.zero_le _) (P := fun v u => _) ?_ (fun v u h => h)
                            intro po183 xx183 hp183 hx183
                            refine g_enter2 (k := 296) (N := 300) (by first | exact dq1 hd rfl | exact dq0 hd rfl | exact dq2 hd rfl | exact dq3 hd rfl | omega) rfl (Nat.le_of_ble_eq_true rfl) ?_
                            refine g_iload_n 1 (gd rfl) rfl rfl ?_
                            refine g_bipush 97 3 (gd rfl) rfl rfl ?_
                            refine g_cmp_lt 6 16 (gd rfl) rfl rfl (fun c183x3 => ?_) (fun c183x3 => ?_)
                            · skip
                              refine g_iconst 0 17 (gd rfl) rfl rfl ?_
                              refine g_ireturn (gd rfl) rfl (nb01 (in_w 0 1 (in_c 0 rfl) rfl)) (hp183 _ _ ?_)
                              show GG _ _ _ _ _ _ _ _ [.int (Int32.ofInt 0), .ref (A 109)] _ _ _
                              refine g_if_eq 189 193 (gd rfl) rfl rfl (fun c186 => ?_) (fun c186 => ?_)
                              · skip
                                refine g_iconst 3 194 (gd rfl) rfl rfl ?_
                                refine g_putI 197 (gd rfl) rfl rfl rfl rfl ?_
                                have hI194 := inv_sF (q := 109) (j := 28) hI75 rfl (in_w (-2147483648) 2147483647 (in_c 3 rfl) rfl)
                                refine g_aload_n 198 (gd rfl) rfl rfl ?_
                                refine g_getI 201 (gd rfl) rfl rfl rfl (fun z198 e198 => ?_)
                                have q198 : (Int32.ofInt 3) = z198 := (sF_get).trans e198.symm
                                subst q198
                                refine g_iconst 3 202 (gd rfl) rfl rfl ?_
                                refine g_cmp_ne 205 220 (gd rfl) rfl rfl (fun c202 => ?_) (fun c202 => ?_)
                                · skip
                                  exact n_ne c202 (in_c 3 rfl) (in_c 3 rfl) rfl
                                · skip
                                  refine g_iload_n 206 (gd rfl) rfl rfl ?_
                                  refine g_bipush 59 208 (gd rfl) rfl rfl ?_
                                  refine g_cmp_eq 211 220 (gd rfl) rfl rfl (fun c208 => ?_) (fun c208 => ?_)
                                  · skip
                                    exact n_eq c208 i81 (in_c 59 rfl) rfl
                                  · skip
                                    refine g_aload_n 212 (gd rfl) rfl rfl ?_
                                    refine g_iconst 1 213 (gd rfl) rfl rfl ?_
                                    refine g_aload_n 214 (gd rfl) rfl rfl ?_
                                    refine g_getI 217 (gd rfl) rfl rfl rfl (fun z214 e214 => ?_)
                                    have q214 : w0_109_27 = z214 := (sF_ne rfl (sF_ne rfl (sF_get))).trans e214.symm
                                    subst q214
                                    refine g_callv (X := _) (As := [.int (Int32.ofInt 1), .int w0_109_27]) (r := []) (b := A 109) (q := 109) 220 (gd rfl) rfl rfl rfl rfl rfl (ww_o rfl) (Nat.le_of_ble_eq_true rfl) (Nat.zero_le _) (Nat.zero_le _) (f_298 (by first | exact dq1 hd rfl | exact dq0 hd rfl | exact dq2 hd rfl | exact dq3 hd rfl | omega) hI194 (in_w 1 5 (in_c 1 rfl) rfl) rfl) (fun e u h => h) (fun v u h => ?_)
                                    obtain ⟨s217, hI217, hF217, n217, rfl, rfl, p217⟩ := h
                                    obtain ⟨z217a, e217⟩ : ∃ w, w = s217.2.2.1 109 23 := ⟨_, rfl⟩
                                    have i217a := inv_F hI217 0 9 rfl e217
                                    rw [← (show z217a = s217.2.2.1 109 23 from e217)] at n217
                                    show GG _ _ _ _ _ _ _ _ [] _ _ _
                                    refine g_aload_n 221 (gd rfl) rfl rfl ?_
                                    refine g_dup 222 (gd rfl) rfl rfl ?_
                                    refine g_getI 225 (gd rfl) rfl rfl rfl (fun z222 e222 => ?_)
                                    have q222 : w0_109_27 = z222 := (fr_F (s := (sF (sF (sF sc0 109 29 w0_109_27) 109 30 z19) 109 28 (Int32.ofInt 3))) (sF_ne rfl (sF_ne rfl (sF_ne rfl (v0_109_27)))) hF217 rfl).trans e222.symm
                                    subst q222
                                    refine g_iconst 1 226 (gd rfl) rfl rfl ?_
                                    refine g_iadd 227 (gd rfl) rfl (fun z226 e226 => ?_)
                                    have i226 := in_add 1 1000 e226 i8 (in_c 1 rfl) rfl rfl
                                    refine g_putI 230 (gd rfl) rfl rfl rfl rfl ?_
                                    have hI227 := inv_sF (q := 109) (j := 27) hI217 rfl (in_w 0 1000 i226 rfl)
                                    have n230 : ∃ k v, TKN (s.1 125) (s.2.2.1 109 22).toInt.toNat (s.2.2.1 109 27).toInt.toNat ((sF s217 109 27 z226).2.2.1 109 29).toInt.toNat ((sF s217 109 27 z226).2.2.1 109 27).toInt.toNat k v ∧ NTK s (sF s217 109 27 z226) k v := by have hT0 : s.1 125 w0_109_27.toInt.toNat = z19 := (by rw [e19, hFc0.1 125 rfl]; rfl); have hS : tkS (s.1 125) (u_109_22).toInt.toNat (u_109_27).toInt.toNat w0_109_27.toInt.toNat := ⟨by have a0 := oa5 i94a i8 ((in_c 0 rfl)) i81 i226; have a5 := t_add e226 i8 (in_c 1 rfl) rfl; have a6 := oa4 ((in_c 1 rfl)) i217a ((in_c 3 rfl)) i107; have a10 := t_add e106 i8 (in_c 1 rfl) rfl; have a11 := in_u i94; have a12 := t_add e89 i8 (in_c 1 rfl) rfl; have oc := oc_299_109; omega, by have a0 := oa5 i94a i8 ((in_c 0 rfl)) i81 i226; have a5 := t_add e226 i8 (in_c 1 rfl) rfl; have a6 := oa4 ((in_c 1 rfl)) i217a ((in_c 3 rfl)) i107; have a10 := t_add e106 i8 (in_c 1 rfl) rfl; have a11 := in_u i94; have a12 := t_add e89 i8 (in_c 1 rfl) rfl; have oc := oc_299_109; omega, fun i a b => g0_0 i (by rw [← e_109_27]; exact a) (by have a0 := oa5 i94a i8 ((in_c 0 rfl)) i81 i226; have a5 := t_add e226 i8 (in_c 1 rfl) rfl; have a6 := oa4 ((in_c 1 rfl)) i217a ((in_c 3 rfl)) i107; have a10 := t_add e106 i8 (in_c 1 rfl) rfl; have a11 := in_u i94; have a12 := t_add e89 i8 (in_c 1 rfl) rfl; have oc := oc_299_109; omega), fun _ => by rw [hT0]; have a0 := oa5 i94a i8 ((in_c 0 rfl)) i81 i226; have a5 := t_add e226 i8 (in_c 1 rfl) rfl; have a6 := oa4 ((in_c 1 rfl)) i217a ((in_c 3 rfl)) i107; have a10 := t_add e106 i8 (in_c 1 rfl) rfl; have a11 := in_u i94; have a12 := t_add e89 i8 (in_c 1 rfl) rfl; have oc := oc_299_109; omega⟩; refine ⟨4, 0, ?_, ?_⟩; (rw [← (show z226 = (sF s217 109 27 z226).2.2.1 109 27 from sF_get), ← (show w0_109_27 = (sF s217 109 27 z226).2.2.1 109 29 from sF_ne rfl (fr_F (s := (sF (sF (sF sc0 109 29 w0_109_27) 109 30 z19) 109 28 (Int32.ofInt 3))) (sF_ne rfl (sF_ne rfl (sF_get))) hF217 rfl)), ← e_109_22, ← e_109_27]; exact tkn_4 hS (by have a0 := oa5 i94a i8 ((in_c 0 rfl)) i81 i226; have a5 := t_add e226 i8 (in_c 1 rfl) rfl; have a6 := oa4 ((in_c 1 rfl)) i217a ((in_c 3 rfl)) i107; have a10 := t_add e106 i8 (in_c 1 rfl) rfl; have a11 := in_u i94; have a12 := t_add e89 i8 (in_c 1 rfl) rfl; have oc := oc_299_109; omega) (by rw [hT0]; unfold tkL; have a0 := oa5 i94a i8 ((in_c 0 rfl)) i81 i226; have a5 := t_add e226 i8 (in_c 1 rfl) rfl; have a6 := oa4 ((in_c 1 rfl)) i217a ((in_c 3 rfl)) i107; have a10 := t_add e106 i8 (in_c 1 rfl) rfl; have a11 := in_u i94; have a12 := t_add e89 i8 (in_c 1 rfl) rfl; have oc := oc_299_109; omega) (by rw [hT0]; have a0 := oa5 i94a i8 ((in_c 0 rfl)) i81 i226; have a5 := t_add e226 i8 (in_c 1 rfl) rfl; have a6 := oa4 ((in_c 1 rfl)) i217a ((in_c 3 rfl)) i107; have a10 := t_add e106 i8 (in_c 1 rfl) rfl; have a11 := in_u i94; have a12 := t_add e89 i8 (in_c 1 rfl) rfl; have oc := oc_299_109; omega) (by first | exact nq_1 (by rw [hT0]; unfold tkD; have a0 := oa5 i94a i8 ((in_c 0 rfl)) i81 i226; have a5 := t_add e226 i8 (in_c 1 rfl) rfl; have a6 := oa4 ((in_c 1 rfl)) i217a ((in_c 3 rfl)) i107; have a10 := t_add e106 i8 (in_c 1 rfl) rfl; have a11 := in_u i94; have a12 := t_add e89 i8 (in_c 1 rfl) rfl; have oc := oc_299_109; omega) (by rw [hT0]; have a0 := oa5 i94a i8 ((in_c 0 rfl)) i81 i226; have a5 := t_add e226 i8 (in_c 1 rfl) rfl; have a6 := oa4 ((in_c 1 rfl)) i217a ((in_c 3 rfl)) i107; have a10 := t_add e106 i8 (in_c 1 rfl) rfl; have a11 := in_u i94; have a12 := t_add e89 i8 (in_c 1 rfl) rfl; have oc := oc_299_109; omega) | exact nq_2 (by rw [hT0]; have a0 := oa5 i94a i8 ((in_c 0 rfl)) i81 i226; have a5 := t_add e226 i8 (in_c 1 rfl) rfl; have a6 := oa4 ((in_c 1 rfl)) i217a ((in_c 3 rfl)) i107; have a10 := t_add e106 i8 (in_c 1 rfl) rfl; have a11 := in_u i94; have a12 := t_add e89 i8 (in_c 1 rfl) rfl; have oc := oc_299_109; omega) (fun h => by first | (exfalso; have a0 := oa5 i94a i8 ((in_c 0 rfl)) i81 i226; have a5 := t_add e226 i8 (in_c 1 rfl) rfl; have a6 := oa4 ((in_c 1 rfl)) i217a ((in_c 3 rfl)) i107; have a10 := t_add e106 i8 (in_c 1 rfl) rfl; have a11 := in_u i94; have a12 := t_add e89 i8 (in_c 1 rfl) rfl; have oc := oc_299_109; omega) | (rw [show s.1 125 (w0_109_27.toInt.toNat + 1) = z107 from (by rw [e107, show z106.toNatClampNeg = w0_109_27.toInt.toNat + 1 from (by show z106.toInt.toNat = _; have a0 := oa5 i94a i8 ((in_c 0 rfl)) i81 i226; have a5 := t_add e226 i8 (in_c 1 rfl) rfl; have a6 := oa4 ((in_c 1 rfl)) i217a ((in_c 3 rfl)) i107; have a10 := t_add e106 i8 (in_c 1 rfl) rfl; have a11 := in_u i94; have a12 := t_add e89 i8 (in_c 1 rfl) rfl; have oc := oc_299_109; omega)]; exact congrFun (hFc0.1 125 rfl).symm _)]; unfold tkD; have a0 := oa5 i94a i8 ((in_c 0 rfl)) i81 i226; have a5 := t_add e226 i8 (in_c 1 rfl) rfl; have a6 := oa4 ((in_c 1 rfl)) i217a ((in_c 3 rfl)) i107; have a10 := t_add e106 i8 (in_c 1 rfl) rfl; have a11 := in_u i94; have a12 := t_add e89 i8 (in_c 1 rfl) rfl; have oc := oc_299_109; omega))) (by have a0 := oa5 i94a i8 ((in_c 0 rfl)) i81 i226; have a5 := t_add e226 i8 (in_c 1 rfl) rfl; have a6 := oa4 ((in_c 1 rfl)) i217a ((in_c 3 rfl)) i107; have a10 := t_add e106 i8 (in_c 1 rfl) rfl; have a11 := in_u i94; have a12 := t_add e89 i8 (in_c 1 rfl) rfl; have oc := oc_299_109; omega) rfl); (exact ntk_4 ((show (Int32.ofInt 3) = (sF s217 109 27 z226).2.2.1 109 28 from sF_ne rfl (fr_F (s := (sF (sF (sF sc0 109 29 w0_109_27) 109 30 z19) 109 28 (Int32.ofInt 3))) (sF_get) hF217 rfl))).symm (by rw [← (show z19 = (sF s217 109 27 z226).2.2.1 109 30 from sF_ne rfl (fr_F (s := (sF (sF (sF sc0 109 29 w0_109_27) 109 30 z19) 109 28 (Int32.ofInt 3))) (sF_ne rfl (sF_get)) hF217 rfl))]; have a0 := oa5 i94a i8 ((in_c 0 rfl)) i81 i226; have a5 := t_add e226 i8 (in_c 1 rfl) rfl; have a6 := oa4 ((in_c 1 rfl)) i217a ((in_c 3 rfl)) i107; have a10 := t_add e106 i8 (in_c 1 rfl) rfl; have a11 := in_u i94; have a12 := t_add e89 i8 (in_c 1 rfl) rfl; have oc := oc_299_109; omega) (fbl_tr g0_1 (by rw [← (show w0_109_27 = (sF s217 109 27 z226).2.2.1 109 29 from sF_ne rfl (fr_F (s := (sF (sF (sF sc0 109 29 w0_109_27) 109 30 z19) 109 28 (Int32.ofInt 3))) (sF_ne rfl (sF_ne rfl (sF_get))) hF217 rfl))]; exact p217)))
                                    have n230a : (z226).toInt ≤ (u_109_22).toInt := by have a0 := oa5 i94a i8 ((in_c 0 rfl)) i81 i226; have a5 := t_add e226 i8 (in_c 1 rfl) rfl; have a6 := oa4 ((in_c 1 rfl)) i217a ((in_c 3 rfl)) i107; have a10 := t_add e106 i8 (in_c 1 rfl) rfl; have a11 := in_u i94; have a12 := t_add e89 i8 (in_c 1 rfl) rfl; have oc := oc_299_109; omega
                                    have n230b : ((sF s217 109 27 z226).2.2.1 109 27).toInt ≤ ((sF s217 109 27 z226).2.2.1 109 22).toInt := by have b0 : z226 = (sF s217 109 27 z226).2.2.1 109 27 := sF_get; have b1 : u_109_22 = (sF s217 109 27 z226).2.2.1 109 22 := sF_ne rfl (fr_F (s := (sF (sF (sF sc0 109 29 w0_109_27) 109 30 z19) 109 28 (Int32.ofInt 3))) (sF_ne rfl (sF_ne rfl (sF_ne rfl (fr_F e_109_22 hFc0 rfl)))) hF217 rfl); rw [← b0, ← b1]; exact n230a
                                    have n230c : (u_109_27).toInt ≤ (z226).toInt := by have a0 := oa5 i94a i8 ((in_c 0 rfl)) i81 i226; have a5 := t_add e226 i8 (in_c 1 rfl) rfl; have a6 := oa4 ((in_c 1 rfl)) i217a ((in_c 3 rfl)) i107; have a10 := t_add e106 i8 (in_c 1 rfl) rfl; have a11 := in_u i94; have a12 := t_add e89 i8 (in_c 1 rfl) rfl; have oc := oc_299_109; omega
                                    have n230d : (s.2.2.1 109 27).toInt ≤ ((sF s217 109 27 z226).2.2.1 109 27).toInt := by have b0 : z226 = (sF s217 109 27 z226).2.2.1 109 27 := sF_get; first | (rw [← b0, ← e_109_27]; exact n230c) | (rw [← b0]; exact n230c)
                                    have n230e : ((Int32.ofInt 3)).toInt ≠ 0 → (u_109_27).toInt + 1 ≤ (z226).toInt := by have a0 := oa5 i94a i8 ((in_c 0 rfl)) i81 i226; have a5 := t_add e226 i8 (in_c 1 rfl) rfl; have a6 := oa4 ((in_c 1 rfl)) i217a ((in_c 3 rfl)) i107; have a10 := t_add e106 i8 (in_c 1 rfl) rfl; have a11 := in_u i94; have a12 := t_add e89 i8 (in_c 1 rfl) rfl; have oc := oc_299_109; omega
                                    have n230f : ((sF s217 109 27 z226).2.2.1 109 28).toInt ≠ 0 → (s.2.2.1 109 27).toInt + 1 ≤ ((sF s217 109 27 z226).2.2.1 109 27).toInt := by have b0 : (Int32.ofInt 3) = (sF s217 109 27 z226).2.2.1 109 28 := sF_ne rfl (fr_F (s := (sF (sF (sF sc0 109 29 w0_109_27) 109 30 z19) 109 28 (Int32.ofInt 3))) (sF_get) hF217 rfl); have b1 : z226 = (sF s217 109 27 z226).2.2.1 109 27 := sF_get; first | (rw [← b0, ← b1, ← e_109_27]; exact n230e) | (rw [← b0, ← b1]; exact n230e)
                                    have n230g : ((Int32.ofInt 3)).toInt = 1 → 97 ≤ (z19).toInt := by exact fun h => absurd h (by decide)
                                    have n230h : ((sF s217 109 27 z226).2.2.1 109 28).toInt = 1 → 97 ≤ ((sF s217 109 27 z226).2.2.1 109 30).toInt := by have b0 : (Int32.ofInt 3) = (sF s217 109 27 z226).2.2.1 109 28 := sF_ne rfl (fr_F (s := (sF (sF (sF sc0 109 29 w0_109_27) 109 30 z19) 109 28 (Int32.ofInt 3))) (sF_get) hF217 rfl); have b1 : z19 = (sF s217 109 27 z226).2.2.1 109 30 := sF_ne rfl (fr_F (s := (sF (sF (sF sc0 109 29 w0_109_27) 109 30 z19) 109 28 (Int32.ofInt 3))) (sF_ne rfl (sF_get)) hF217 rfl); rw [← b0, ← b1]; exact n230g
                                    have n230i : ((Int32.ofInt 3)).toInt = 1 → (z19).toInt ≤ 122 := by exact fun h => absurd h (by decide)
                                    have n230j : ((sF s217 109 27 z226).2.2.1 109 28).toInt = 1 → ((sF s217 109 27 z226).2.2.1 109 30).toInt ≤ 122 := by have b0 : (Int32.ofInt 3) = (sF s217 109 27 z226).2.2.1 109 28 := sF_ne rfl (fr_F (s := (sF (sF (sF sc0 109 29 w0_109_27) 109 30 z19) 109 28 (Int32.ofInt 3))) (sF_get) hF217 rfl); have b1 : z19 = (sF s217 109 27 z226).2.2.1 109 30 := sF_ne rfl (fr_F (s := (sF (sF (sF sc0 109 29 w0_109_27) 109 30 z19) 109 28 (Int32.ofInt 3))) (sF_ne rfl (sF_get)) hF217 rfl); rw [← b0, ← b1]; exact n230i
                                    exact g_return (gd rfl) rfl (hP _ _ ⟨(sF s217 109 27 z226), hI227, (fr_sF rfl (fr_tr rfl (fr_sF rfl (fr_sF rfl (fr_sF rfl hFc0))) hF217)), n230b, n230d, n230f, n230h, n230j, rfl, rfl, n230⟩)
                              · skip
                                exact zn_ne c186 (in_c 0 rfl) rfl
                            · skip
                              exact n_le c183x3 (in_c 97 rfl) i81 rfl
                          · skip
                            exact zn_ne c128 (in_c 0 rfl) rfl
                      · skip
                        exact n_le c121x3 (in_c 48 rfl) i81 rfl
                    · skip
                      exact zn_ne c111 (in_c 0 rfl) rfl
                  · skip
                    have i108x9 := r_le1 48 57 c108x9 i108x3 (in_c 57 rfl) rfl
                    refine g_iconst 1 13 (gd rfl) rfl rfl ?_
                    refine g_goto 17 (gd rfl) rfl ?_
                    refine g_ireturn (gd rfl) rfl (nb01 (in_w 0 1 (in_c 1 rfl) rfl)) (hp108 _ _ ?_)
                    show GG _ _ _ _ _ _ _ _ [.int (Int32.ofInt 1)] _ _ _
                    refine g_if_eq 114 118 (gd rfl) rfl rfl (fun c111 => ?_) (fun c111 => ?_)
                    · skip
                      exact zn_eq c111 (in_c 1 rfl) rfl
                    · skip
                      refine g_iconst 1 115 (gd rfl) rfl rfl ?_
                      refine g_goto 119 (gd rfl) rfl ?_
                      refine g_istore_n 120 (gd rfl) rfl (Nat.le_of_ble_eq_true rfl) ?_
                      refine g_iload_n 121 (gd rfl) rfl rfl ?_
                      refine g_calls (As := [.int z19]) (r := []) 124 (gd rfl) rfl rfl rfl rfl rfl (Nat.le_of_ble_eq_true rfl) (mc := 0) (ms := 0) (Nat.zero_le _) (Nat.zero_le _) (P := fun v u => _) ?_ (fun v u h => h)
                      intro po121 xx121 hp121 hx121
                      refine g_enter2 (k := 297) (N := 300) (by first | exact dq1 hd rfl | exact dq0 hd rfl | exact dq2 hd rfl | exact dq3 hd rfl | omega) rfl (Nat.le_of_ble_eq_true rfl) ?_
                      refine g_iload_n 1 (gd rfl) rfl rfl ?_
                      refine g_bipush 48 3 (gd rfl) rfl rfl ?_
                      refine g_cmp_lt 6 16 (gd rfl) rfl rfl (fun c121x3 => ?_) (fun c121x3 => ?_)
                      · skip
                        refine g_iconst 0 17 (gd rfl) rfl rfl ?_
                        refine g_ireturn (gd rfl) rfl (nb01 (in_w 0 1 (in_c 0 rfl) rfl)) (hp121 _ _ ?_)
                        show GG _ _ _ _ _ _ _ _ [.int (Int32.ofInt 0)] _ _ _
                        refine g_if_ne 127 131 (gd rfl) rfl rfl (fun c124 => ?_) (fun c124 => ?_)
                        · skip
                          exact zn_ne c124 (in_c 0 rfl) rfl
                        · skip
                          refine g_iload_n 128 (gd rfl) rfl rfl ?_
                          refine g_if_eq 131 181 (gd rfl) rfl rfl (fun c128 => ?_) (fun c128 => ?_)
                          · skip
                            exact zn_eq c128 (in_c 1 rfl) rfl
                          · skip
                            refine g_aload_n 132 (gd rfl) rfl rfl ?_
                            refine g_iconst 2 133 (gd rfl) rfl rfl ?_
                            refine g_putI 136 (gd rfl) rfl rfl rfl rfl ?_
                            have hI133 := inv_sF (q := 109) (j := 28) hI75 rfl (in_w (-2147483648) 2147483647 (in_c 2 rfl) rfl)
                            refine g_aload_n 137 (gd rfl) rfl rfl ?_
                            refine g_dup 138 (gd rfl) rfl rfl ?_
                            refine g_getI 141 (gd rfl) rfl rfl rfl (fun z138 e138 => ?_)
                            have q138 : w0_109_27 = z138 := (sF_ne rfl (sF_ne rfl (sF_ne rfl (v0_109_27)))).trans e138.symm
                            subst q138
                            refine g_iload_n 142 (gd rfl) rfl rfl ?_
                            refine g_if_eq 145 149 (gd rfl) rfl rfl (fun c142 => ?_) (fun c142 => ?_)
                            · skip
                              exact zn_eq c142 (in_c 1 rfl) rfl
                            · skip
                              refine g_iconst 1 146 (gd rfl) rfl rfl ?_
                              refine g_goto 150 (gd rfl) rfl ?_
                              refine g_iadd 151 (gd rfl) rfl (fun z150 e150 => ?_)
                              have i150 := in_add 1 1000 e150 i8 (in_c 1 rfl) rfl rfl
                              refine g_putI 154 (gd rfl) rfl rfl rfl rfl ?_
                              have hI151 := inv_sF (q := 109) (j := 27) hI133 rfl (in_w 0 1000 i150 rfl)
                              refine g_aload_n 155 (gd rfl) rfl rfl ?_
                              refine g_bipush 7 157 (gd rfl) rfl rfl ?_
                              have hA9 : _ = (sF (sF (sF (sF sc0 109 29 w0_109_27) 109 30 z19) 109 28 (Int32.ofInt 2)) 109 27 z150).2.2.1 109 27 := (show z150 = (sF (sF (sF (sF sc0 109 29 w0_109_27) 109 30 z19) 109 28 (Int32.ofInt 2)) 109 27 z150).2.2.1 109 27 from sF_get)
                              have hL9 : u_109_22 = (sF (sF (sF (sF sc0 109 29 w0_109_27) 109 30 z19) 109 28 (Int32.ofInt 2)) 109 27 z150).2.2.1 109 22 := (show u_109_22 = (sF (sF (sF (sF sc0 109 29 w0_109_27) 109 30 z19) 109 28 (Int32.ofInt 2)) 109 27 z150).2.2.1 109 22 from sF_ne rfl (sF_ne rfl (sF_ne rfl (sF_ne rfl (fr_F e_109_22 hFc0 rfl)))))
                              have hX9 : (sF (sF (sF (sF sc0 109 29 w0_109_27) 109 30 z19) 109 28 (Int32.ofInt 2)) 109 27 z150).1 125 = s.1 125 := hFc0.1 125 rfl
                              have hP9 : _ = (sF (sF (sF (sF sc0 109 29 w0_109_27) 109 30 z19) 109 28 (Int32.ofInt 2)) 109 27 z150).2.2.1 109 29 := (show w0_109_27 = (sF (sF (sF (sF sc0 109 29 w0_109_27) 109 30 z19) 109 28 (Int32.ofInt 2)) 109 27 z150).2.2.1 109 29 from sF_ne rfl (sF_ne rfl (sF_ne rfl (sF_get))))
                              have hF9 : FSM s (sF (sF (sF (sF sc0 109 29 w0_109_27) 109 30 z19) 109 28 (Int32.ofInt 2)) 109 27 z150) := g0_1
                              have v157 : z150 = (sF (sF (sF (sF sc0 109 29 w0_109_27) 109 30 z19) 109 28 (Int32.ofInt 2)) 109 27 z150).2.2.1 109 27 := sF_get
                              have v157a : u_109_22 = (sF (sF (sF (sF sc0 109 29 w0_109_27) 109 30 z19) 109 28 (Int32.ofInt 2)) 109 27 z150).2.2.1 109 22 := sF_ne rfl (sF_ne rfl (sF_ne rfl (sF_ne rfl (fr_F e_109_22 hFc0 rfl))))
                              have n157 : (z150).toInt < (u_109_22).toInt := by have a0 := oa5 i94a i8 ((in_c 1 rfl)) i81 i150; have a5 := t_add e150 i8 (in_c 1 rfl) rfl; have a6 := oa2 ((in_c 2 rfl)) i107; have a8 := t_add e106 i8 (in_c 1 rfl) rfl; have a9 := in_u i94; have a10 := t_add e89 i8 (in_c 1 rfl) rfl; have oc := oc_299_109; omega
                              have p157 : 48 ≤ ((sF (sF (sF (sF sc0 109 29 w0_109_27) 109 30 z19) 109 28 (Int32.ofInt 2)) 109 27 z150).1 125 ((sF (sF (sF (sF sc0 109 29 w0_109_27) 109 30 z19) 109 28 (Int32.ofInt 2)) 109 27 z150).2.2.1 109 27).toNatClampNeg).toInt ∧ ((sF (sF (sF (sF sc0 109 29 w0_109_27) 109 30 z19) 109 28 (Int32.ofInt 2)) 109 27 z150).1 125 ((sF (sF (sF (sF sc0 109 29 w0_109_27) 109 30 z19) 109 28 (Int32.ofInt 2)) 109 27 z150).2.2.1 109 27).toNatClampNeg).toInt ≤ 57 := by first | (have hz : z107 = (sF (sF (sF (sF sc0 109 29 w0_109_27) 109 30 z19) 109 28 (Int32.ofInt 2)) 109 27 z150).1 125 ((sF (sF (sF (sF sc0 109 29 w0_109_27) 109 30 z19) 109 28 (Int32.ofInt 2)) 109 27 z150).2.2.1 109 27).toNatClampNeg := (by rw [← (show z150 = (sF (sF (sF (sF sc0 109 29 w0_109_27) 109 30 z19) 109 28 (Int32.ofInt 2)) 109 27 z150).2.2.1 109 27 from sF_get), e150, ← e106]; exact e107); rw [← hz]; exact i108x9) | (have hz : z19 = (sF (sF (sF (sF sc0 109 29 w0_109_27) 109 30 z19) 109 28 (Int32.ofInt 2)) 109 27 z150).1 125 ((sF (sF (sF (sF sc0 109 29 w0_109_27) 109 30 z19) 109 28 (Int32.ofInt 2)) 109 27 z150).2.2.1 109 27).toNatClampNeg := (by rw [← (show z150 = (sF (sF (sF (sF sc0 109 29 w0_109_27) 109 30 z19) 109 28 (Int32.ofInt 2)) 109 27 z150).2.2.1 109 27 from sF_get), e150, show w0_109_27 + Int32.ofInt 0 = w0_109_27 from Int32.add_zero _]; exact e19); rw [← hz]; exact i121x9) | (have hz : z71 = (sF (sF (sF (sF sc0 109 29 w0_109_27) 109 30 z19) 109 28 (Int32.ofInt 2)) 109 27 z150).1 125 ((sF (sF (sF (sF sc0 109 29 w0_109_27) 109 30 z19) 109 28 (Int32.ofInt 2)) 109 27 z150).2.2.1 109 27).toNatClampNeg := (by rw [← (show z150 = (sF (sF (sF (sF sc0 109 29 w0_109_27) 109 30 z19) 109 28 (Int32.ofInt 2)) 109 27 z150).2.2.1 109 27 from sF_get), e150, show w0_109_27 + Int32.ofInt 0 = w0_109_27 from Int32.add_zero _]; exact e71); rw [← hz]; exact i121x9)
                              refine g_callv (X := _) (As := [.int (Int32.ofInt 7)]) (r := []) (b := A 109) (q := 109) 160 (gd rfl) rfl rfl rfl rfl rfl (ww_o rfl) (Nat.le_of_ble_eq_true rfl) (Nat.zero_le _) (Nat.zero_le _) (f_300 (by first | exact dq1 hd rfl | exact dq0 hd rfl | exact dq2 hd rfl | exact dq3 hd rfl | omega) hI151 (in_w 7 7 (in_c 7 rfl) rfl) v157 v157a n157 p157) (fun e u h => h) (fun v u h => ?_)
                              obtain ⟨s157, hI157, hF157, n157a, n157b, rfl, rfl, p157a⟩ := h
                              obtain ⟨z157a, e157⟩ : ∃ w, w = s157.2.2.1 109 27 := ⟨_, rfl⟩
                              have i157a := inv_F hI157 0 1000 rfl e157
                              rw [← (show z157a = s157.2.2.1 109 27 from e157)] at n157a
                              rw [← (show u_109_22 = s157.2.2.1 109 22 from fr_F (s := (sF (sF (sF (sF sc0 109 29 w0_109_27) 109 30 z19) 109 28 (Int32.ofInt 2)) 109 27 z150)) (sF_ne rfl (sF_ne rfl (sF_ne rfl (sF_ne rfl (fr_F e_109_22 hFc0 rfl))))) hF157 rfl)] at n157a
                              rw [← (show z150 = (sF (sF (sF (sF sc0 109 29 w0_109_27) 109 30 z19) 109 28 (Int32.ofInt 2)) 109 27 z150).2.2.1 109 27 from sF_get)] at n157b
                              rw [← (show z157a = s157.2.2.1 109 27 from e157)] at n157b
                              show GG _ _ _ _ _ _ _ _ [] _ _ _
                              refine g_aload_n 161 (gd rfl) rfl rfl ?_
                              refine g_iload_n 162 (gd rfl) rfl rfl ?_
                              refine g_if_eq 165 173 (gd rfl) rfl rfl (fun c162 => ?_) (fun c162 => ?_)
                              · skip
                                exact zn_eq c162 (in_c 1 rfl) rfl
                              · skip
                                refine g_aload_n 166 (gd rfl) rfl rfl ?_
                                refine g_getL 169 (gd rfl) rfl rfl rfl (fun z166 e166 => ?_)
                                refine g_lneg 170 (gd rfl) rfl (fun z169 e169 => ?_)
                                refine g_goto 177 (gd rfl) rfl ?_
                                refine g_putL 180 (gd rfl) rfl rfl rfl rfl ?_
                                have hI177 := inv_sG (q := 109) (j := 31) (x := z169) hI157 rfl (l_rng z169)
                                have n180 : ∃ k v, TKN (s.1 125) (s.2.2.1 109 22).toInt.toNat (s.2.2.1 109 27).toInt.toNat ((sG s157 109 31 z169).2.2.1 109 29).toInt.toNat ((sG s157 109 31 z169).2.2.1 109 27).toInt.toNat k v ∧ NTK s (sG s157 109 31 z169) k v := by have hT0 : s.1 125 w0_109_27.toInt.toNat = z19 := (by rw [e19, hFc0.1 125 rfl]; rfl); have hS : tkS (s.1 125) (u_109_22).toInt.toNat (u_109_27).toInt.toNat w0_109_27.toInt.toNat := ⟨by have a0 := oa7 i94a i8 ((in_c 1 rfl)) i81 i157a ((in_c 2 rfl)) i150; have a7 := t_add e150 i8 (in_c 1 rfl) rfl; have a8 := in_u i107; have a9 := t_add e106 i8 (in_c 1 rfl) rfl; have a10 := in_u i94; have a11 := t_add e89 i8 (in_c 1 rfl) rfl; have oc := oc_299_109; omega, by have a0 := oa7 i94a i8 ((in_c 1 rfl)) i81 i157a ((in_c 2 rfl)) i150; have a7 := t_add e150 i8 (in_c 1 rfl) rfl; have a8 := in_u i107; have a9 := t_add e106 i8 (in_c 1 rfl) rfl; have a10 := in_u i94; have a11 := t_add e89 i8 (in_c 1 rfl) rfl; have oc := oc_299_109; omega, fun i a b => g0_0 i (by rw [← e_109_27]; exact a) (by have a0 := oa7 i94a i8 ((in_c 1 rfl)) i81 i157a ((in_c 2 rfl)) i150; have a7 := t_add e150 i8 (in_c 1 rfl) rfl; have a8 := in_u i107; have a9 := t_add e106 i8 (in_c 1 rfl) rfl; have a10 := in_u i94; have a11 := t_add e89 i8 (in_c 1 rfl) rfl; have oc := oc_299_109; omega), fun _ => by rw [hT0]; have a0 := oa7 i94a i8 ((in_c 1 rfl)) i81 i157a ((in_c 2 rfl)) i150; have a7 := t_add e150 i8 (in_c 1 rfl) rfl; have a8 := in_u i107; have a9 := t_add e106 i8 (in_c 1 rfl) rfl; have a10 := in_u i94; have a11 := t_add e89 i8 (in_c 1 rfl) rfl; have oc := oc_299_109; omega⟩; have hp := p157a; rw [hX9, ← hL9, ← hA9, ← hP9] at hp; obtain ⟨hg, hp⟩ := hp; have hat : (s157.2.2.1 109 27) = z157a := ((show z157a = (sG s157 109 31 z169).2.2.1 109 27 from sG_F (e157))).symm; have hz9 : (z150).toInt.toNat = (w0_109_27.toInt.toNat + 1) := (by have a0 := oa7 i94a i8 ((in_c 1 rfl)) i81 i157a ((in_c 2 rfl)) i150; have a7 := t_add e150 i8 (in_c 1 rfl) rfl; have a8 := in_u i107; have a9 := t_add e106 i8 (in_c 1 rfl) rfl; have a10 := in_u i94; have a11 := t_add e89 i8 (in_c 1 rfl) rfl; have oc := oc_299_109; omega); rw [hz9] at hg hp; rcases hp with ⟨hl, hv, hf⟩ | ⟨hl, hf⟩; (refine ⟨2, ((sG s157 109 31 z169).2.2.2.1 109 31).toInt, ?_, ?_⟩; (rw [← e_109_22, ← e_109_27, ← (show w0_109_27 = (sG s157 109 31 z169).2.2.1 109 29 from sG_F (fr_F (s := (sF (sF (sF (sF sc0 109 29 w0_109_27) 109 30 z19) 109 28 (Int32.ofInt 2)) 109 27 z150)) (sF_ne rfl (sF_ne rfl (sF_ne rfl (sF_get)))) hF157 rfl))]; exact tkn_2 (q := (w0_109_27.toInt.toNat + 1)) (x := 1) hS (Or.inr ⟨rfl, by rw [hT0]; have a0 := oa7 i94a i8 ((in_c 1 rfl)) i81 i157a ((in_c 2 rfl)) i150; have a7 := t_add e150 i8 (in_c 1 rfl) rfl; have a8 := in_u i107; have a9 := t_add e106 i8 (in_c 1 rfl) rfl; have a10 := in_u i94; have a11 := t_add e89 i8 (in_c 1 rfl) rfl; have oc := oc_299_109; omega, by have a0 := oa7 i94a i8 ((in_c 1 rfl)) i81 i157a ((in_c 2 rfl)) i150; have a7 := t_add e150 i8 (in_c 1 rfl) rfl; have a8 := in_u i107; have a9 := t_add e106 i8 (in_c 1 rfl) rfl; have a10 := in_u i94; have a11 := t_add e89 i8 (in_c 1 rfl) rfl; have oc := oc_299_109; omega, by rw [show s.1 125 (w0_109_27.toInt.toNat + 1) = z107 from (by rw [e107, show z106.toNatClampNeg = w0_109_27.toInt.toNat + 1 from (by show z106.toInt.toNat = _; have a0 := oa7 i94a i8 ((in_c 1 rfl)) i81 i157a ((in_c 2 rfl)) i150; have a7 := t_add e150 i8 (in_c 1 rfl) rfl; have a8 := in_u i107; have a9 := t_add e106 i8 (in_c 1 rfl) rfl; have a10 := in_u i94; have a11 := t_add e89 i8 (in_c 1 rfl) rfl; have oc := oc_299_109; omega)]; exact congrFun (hFc0.1 125 rfl).symm _)]; exact ⟨by have a0 := oa7 i94a i8 ((in_c 1 rfl)) i81 i157a ((in_c 2 rfl)) i150; have a7 := t_add e150 i8 (in_c 1 rfl) rfl; have a8 := in_u i107; have a9 := t_add e106 i8 (in_c 1 rfl) rfl; have a10 := in_u i94; have a11 := t_add e89 i8 (in_c 1 rfl) rfl; have oc := oc_299_109; omega, by have a0 := oa7 i94a i8 ((in_c 1 rfl)) i81 i157a ((in_c 2 rfl)) i150; have a7 := t_add e150 i8 (in_c 1 rfl) rfl; have a8 := in_u i107; have a9 := t_add e106 i8 (in_c 1 rfl) rfl; have a10 := in_u i94; have a11 := t_add e89 i8 (in_c 1 rfl) rfl; have oc := oc_299_109; omega⟩⟩) ⟨fun h => absurd h (by decide), fun h => by omega⟩ ⟨by rw [← hat] at *; exact hg, Or.inl ⟨by rw [← hat] at *; exact hl, rfl, by first | (rw [if_pos rfl]; rw [← hat] at *; exact (by show (z169).toInt = - _; rw [lx_ng e169 (by rw [e166, show (s157.2.2.2.1 109 31).toInt = _ from hv]; exact tkN_7 hl (fun i a b => hg.2.2.1 i a (by omega))), e166, hv]; rfl)) | (rw [if_neg (by decide)]; rw [← hat] at *; exact (by show (z169).toInt = - _; rw [lx_ng e169 (by rw [e166, show (s157.2.2.2.1 109 31).toInt = _ from hv]; exact tkN_7 hl (fun i a b => hg.2.2.1 i a (by omega))), e166, hv]; rfl))⟩⟩); (exact ntk_2 ((show (Int32.ofInt 2) = (sG s157 109 31 z169).2.2.1 109 28 from sG_F (fr_F (s := (sF (sF (sF (sF sc0 109 29 w0_109_27) 109 30 z19) 109 28 (Int32.ofInt 2)) 109 27 z150)) (sF_ne rfl (sF_get)) hF157 rfl))).symm rfl (fsm_tr hF9 hf))); (refine ⟨5, 0, ?_, ?_⟩; (rw [← e_109_22, ← e_109_27, ← (show w0_109_27 = (sG s157 109 31 z169).2.2.1 109 29 from sG_F (fr_F (s := (sF (sF (sF (sF sc0 109 29 w0_109_27) 109 30 z19) 109 28 (Int32.ofInt 2)) 109 27 z150)) (sF_ne rfl (sF_ne rfl (sF_ne rfl (sF_get)))) hF157 rfl))]; exact tkn_2 (q := (w0_109_27.toInt.toNat + 1)) (x := 1) hS (Or.inr ⟨rfl, by rw [hT0]; have a0 := oa7 i94a i8 ((in_c 1 rfl)) i81 i157a ((in_c 2 rfl)) i150; have a7 := t_add e150 i8 (in_c 1 rfl) rfl; have a8 := in_u i107; have a9 := t_add e106 i8 (in_c 1 rfl) rfl; have a10 := in_u i94; have a11 := t_add e89 i8 (in_c 1 rfl) rfl; have oc := oc_299_109; omega, by have a0 := oa7 i94a i8 ((in_c 1 rfl)) i81 i157a ((in_c 2 rfl)) i150; have a7 := t_add e150 i8 (in_c 1 rfl) rfl; have a8 := in_u i107; have a9 := t_add e106 i8 (in_c 1 rfl) rfl; have a10 := in_u i94; have a11 := t_add e89 i8 (in_c 1 rfl) rfl; have oc := oc_299_109; omega, by rw [show s.1 125 (w0_109_27.toInt.toNat + 1) = z107 from (by rw [e107, show z106.toNatClampNeg = w0_109_27.toInt.toNat + 1 from (by show z106.toInt.toNat = _; have a0 := oa7 i94a i8 ((in_c 1 rfl)) i81 i157a ((in_c 2 rfl)) i150; have a7 := t_add e150 i8 (in_c 1 rfl) rfl; have a8 := in_u i107; have a9 := t_add e106 i8 (in_c 1 rfl) rfl; have a10 := in_u i94; have a11 := t_add e89 i8 (in_c 1 rfl) rfl; have oc := oc_299_109; omega)]; exact congrFun (hFc0.1 125 rfl).symm _)]; exact ⟨by have a0 := oa7 i94a i8 ((in_c 1 rfl)) i81 i157a ((in_c 2 rfl)) i150; have a7 := t_add e150 i8 (in_c 1 rfl) rfl; have a8 := in_u i107; have a9 := t_add e106 i8 (in_c 1 rfl) rfl; have a10 := in_u i94; have a11 := t_add e89 i8 (in_c 1 rfl) rfl; have oc := oc_299_109; omega, by have a0 := oa7 i94a i8 ((in_c 1 rfl)) i81 i157a ((in_c 2 rfl)) i150; have a7 := t_add e150 i8 (in_c 1 rfl) rfl; have a8 := in_u i107; have a9 := t_add e106 i8 (in_c 1 rfl) rfl; have a10 := in_u i94; have a11 := t_add e89 i8 (in_c 1 rfl) rfl; have oc := oc_299_109; omega⟩⟩) ⟨fun h => absurd h (by decide), fun h => by omega⟩ ⟨by rw [← hat] at *; exact hg, Or.inr ⟨by rw [← hat] at *; exact hl, rfl⟩⟩); (exact ntk_5 ((show (Int32.ofInt 2) = (sG s157 109 31 z169).2.2.1 109 28 from sG_F (fr_F (s := (sF (sF (sF (sF sc0 109 29 w0_109_27) 109 30 z19) 109 28 (Int32.ofInt 2)) 109 27 z150)) (sF_ne rfl (sF_get)) hF157 rfl))).symm (fbl_tr hF9 (by rw [← (show w0_109_27 = (sG s157 109 31 z169).2.2.1 109 29 from sG_F (fr_F (s := (sF (sF (sF (sF sc0 109 29 w0_109_27) 109 30 z19) 109 28 (Int32.ofInt 2)) 109 27 z150)) (sF_ne rfl (sF_ne rfl (sF_ne rfl (sF_get)))) hF157 rfl))]; exact hf))))
                                have n180a : (z157a).toInt ≤ (u_109_22).toInt := by have a0 := oa7 i94a i8 ((in_c 1 rfl)) i81 i157a ((in_c 2 rfl)) i150; have a7 := t_add e150 i8 (in_c 1 rfl) rfl; have a8 := in_u i107; have a9 := t_add e106 i8 (in_c 1 rfl) rfl; have a10 := in_u i94; have a11 := t_add e89 i8 (in_c 1 rfl) rfl; have oc := oc_299_109; omega
                                have n180b : ((sG s157 109 31 z169).2.2.1 109 27).toInt ≤ ((sG s157 109 31 z169).2.2.1 109 22).toInt := by have b0 : z157a = (sG s157 109 31 z169).2.2.1 109 27 := sG_F (e157); have b1 : u_109_22 = (sG s157 109 31 z169).2.2.1 109 22 := sG_F (fr_F (s := (sF (sF (sF (sF sc0 109 29 w0_109_27) 109 30 z19) 109 28 (Int32.ofInt 2)) 109 27 z150)) (sF_ne rfl (sF_ne rfl (sF_ne rfl (sF_ne rfl (fr_F e_109_22 hFc0 rfl))))) hF157 rfl); rw [← b0, ← b1]; exact n180a
                                have n180c : (u_109_27).toInt ≤ (z157a).toInt := by have a0 := oa7 i94a i8 ((in_c 1 rfl)) i81 i157a ((in_c 2 rfl)) i150; have a7 := t_add e150 i8 (in_c 1 rfl) rfl; have a8 := in_u i107; have a9 := t_add e106 i8 (in_c 1 rfl) rfl; have a10 := in_u i94; have a11 := t_add e89 i8 (in_c 1 rfl) rfl; have oc := oc_299_109; omega
                                have n180d : (s.2.2.1 109 27).toInt ≤ ((sG s157 109 31 z169).2.2.1 109 27).toInt := by have b0 : z157a = (sG s157 109 31 z169).2.2.1 109 27 := sG_F (e157); first | (rw [← b0, ← e_109_27]; exact n180c) | (rw [← b0]; exact n180c)
                                have n180e : ((Int32.ofInt 2)).toInt ≠ 0 → (u_109_27).toInt + 1 ≤ (z157a).toInt := by have a0 := oa7 i94a i8 ((in_c 1 rfl)) i81 i157a ((in_c 2 rfl)) i150; have a7 := t_add e150 i8 (in_c 1 rfl) rfl; have a8 := in_u i107; have a9 := t_add e106 i8 (in_c 1 rfl) rfl; have a10 := in_u i94; have a11 := t_add e89 i8 (in_c 1 rfl) rfl; have oc := oc_299_109; omega
                                have n180f : ((sG s157 109 31 z169).2.2.1 109 28).toInt ≠ 0 → (s.2.2.1 109 27).toInt + 1 ≤ ((sG s157 109 31 z169).2.2.1 109 27).toInt := by have b0 : (Int32.ofInt 2) = (sG s157 109 31 z169).2.2.1 109 28 := sG_F (fr_F (s := (sF (sF (sF (sF sc0 109 29 w0_109_27) 109 30 z19) 109 28 (Int32.ofInt 2)) 109 27 z150)) (sF_ne rfl (sF_get)) hF157 rfl); have b1 : z157a = (sG s157 109 31 z169).2.2.1 109 27 := sG_F (e157); first | (rw [← b0, ← b1, ← e_109_27]; exact n180e) | (rw [← b0, ← b1]; exact n180e)
                                have n180g : ((Int32.ofInt 2)).toInt = 1 → 97 ≤ (z19).toInt := by exact fun h => absurd h (by decide)
                                have n180h : ((sG s157 109 31 z169).2.2.1 109 28).toInt = 1 → 97 ≤ ((sG s157 109 31 z169).2.2.1 109 30).toInt := by have b0 : (Int32.ofInt 2) = (sG s157 109 31 z169).2.2.1 109 28 := sG_F (fr_F (s := (sF (sF (sF (sF sc0 109 29 w0_109_27) 109 30 z19) 109 28 (Int32.ofInt 2)) 109 27 z150)) (sF_ne rfl (sF_get)) hF157 rfl); have b1 : z19 = (sG s157 109 31 z169).2.2.1 109 30 := sG_F (fr_F (s := (sF (sF (sF (sF sc0 109 29 w0_109_27) 109 30 z19) 109 28 (Int32.ofInt 2)) 109 27 z150)) (sF_ne rfl (sF_ne rfl (sF_get))) hF157 rfl); rw [← b0, ← b1]; exact n180g
                                have n180i : ((Int32.ofInt 2)).toInt = 1 → (z19).toInt ≤ 122 := by exact fun h => absurd h (by decide)
                                have n180j : ((sG s157 109 31 z169).2.2.1 109 28).toInt = 1 → ((sG s157 109 31 z169).2.2.1 109 30).toInt ≤ 122 := by have b0 : (Int32.ofInt 2) = (sG s157 109 31 z169).2.2.1 109 28 := sG_F (fr_F (s := (sF (sF (sF (sF sc0 109 29 w0_109_27) 109 30 z19) 109 28 (Int32.ofInt 2)) 109 27 z150)) (sF_ne rfl (sF_get)) hF157 rfl); have b1 : z19 = (sG s157 109 31 z169).2.2.1 109 30 := sG_F (fr_F (s := (sF (sF (sF (sF sc0 109 29 w0_109_27) 109 30 z19) 109 28 (Int32.ofInt 2)) 109 27 z150)) (sF_ne rfl (sF_ne rfl (sF_get))) hF157 rfl); rw [← b0, ← b1]; exact n180i
                                exact g_return (gd rfl) rfl (hP _ _ ⟨(sG s157 109 31 z169), hI177, (fr_sG rfl (fr_tr rfl (fr_sF rfl (fr_sF rfl (fr_sF rfl (fr_sF rfl hFc0)))) hF157)), n180b, n180d, n180f, n180h, n180j, rfl, rfl, n180⟩)
                      · skip
                        exact n_le c121x3 (in_c 48 rfl) i81 rfl
          · skip
            have i54 := r_eq1 1 999 c54 i8 i8a rfl
            have i54a := r_eq2 1 999 c54 i8 i8a rfl
            refine g_aload_n 58 (gd rfl) rfl rfl ?_
            refine g_iconst 0 59 (gd rfl) rfl rfl ?_
            refine g_putI 62 (gd rfl) rfl rfl rfl rfl ?_
            have hI59 := inv_sF (q := 109) (j := 28) hI43 rfl (in_w (-2147483648) 2147483647 (in_c 0 rfl) rfl)
            have n62 : ∃ k v, TKN (s.1 125) (s.2.2.1 109 22).toInt.toNat (s.2.2.1 109 27).toInt.toNat ((sF (sF sc0 109 29 w0_109_27) 109 28 (Int32.ofInt 0)).2.2.1 109 29).toInt.toNat ((sF (sF sc0 109 29 w0_109_27) 109 28 (Int32.ofInt 0)).2.2.1 109 27).toInt.toNat k v ∧ NTK s (sF (sF sc0 109 29 w0_109_27) 109 28 (Int32.ofInt 0)) k v := by exfalso; have a0 := oa3 i54a i54 ((in_c 0 rfl)); have oc := oc_299_109; omega
            have n62a : (w0_109_27).toInt ≤ (u_109_22).toInt := by first | exact n0_0 | (have a0 := oa3 i54a i54 ((in_c 0 rfl)); have oc := oc_299_109; omega)
            have n62b : ((sF (sF sc0 109 29 w0_109_27) 109 28 (Int32.ofInt 0)).2.2.1 109 27).toInt ≤ ((sF (sF sc0 109 29 w0_109_27) 109 28 (Int32.ofInt 0)).2.2.1 109 22).toInt := by have b0 : w0_109_27 = (sF (sF sc0 109 29 w0_109_27) 109 28 (Int32.ofInt 0)).2.2.1 109 27 := sF_ne rfl (sF_ne rfl (v0_109_27)); have b1 : u_109_22 = (sF (sF sc0 109 29 w0_109_27) 109 28 (Int32.ofInt 0)).2.2.1 109 22 := sF_ne rfl (sF_ne rfl (fr_F e_109_22 hFc0 rfl)); rw [← b0, ← b1]; exact n62a
            have n62c : (u_109_27).toInt ≤ (w0_109_27).toInt := by first | exact n0_1 | (have a0 := oa3 i54a i54 ((in_c 0 rfl)); have oc := oc_299_109; omega)
            have n62d : (s.2.2.1 109 27).toInt ≤ ((sF (sF sc0 109 29 w0_109_27) 109 28 (Int32.ofInt 0)).2.2.1 109 27).toInt := by have b0 : w0_109_27 = (sF (sF sc0 109 29 w0_109_27) 109 28 (Int32.ofInt 0)).2.2.1 109 27 := sF_ne rfl (sF_ne rfl (v0_109_27)); first | (rw [← b0, ← e_109_27]; exact n62c) | (rw [← b0]; exact n62c)
            have n62e : ((Int32.ofInt 0)).toInt ≠ 0 → (u_109_27).toInt + 1 ≤ (w0_109_27).toInt := by exact fun h => absurd rfl h
            have n62f : ((sF (sF sc0 109 29 w0_109_27) 109 28 (Int32.ofInt 0)).2.2.1 109 28).toInt ≠ 0 → (s.2.2.1 109 27).toInt + 1 ≤ ((sF (sF sc0 109 29 w0_109_27) 109 28 (Int32.ofInt 0)).2.2.1 109 27).toInt := by have b0 : (Int32.ofInt 0) = (sF (sF sc0 109 29 w0_109_27) 109 28 (Int32.ofInt 0)).2.2.1 109 28 := sF_get; have b1 : w0_109_27 = (sF (sF sc0 109 29 w0_109_27) 109 28 (Int32.ofInt 0)).2.2.1 109 27 := sF_ne rfl (sF_ne rfl (v0_109_27)); first | (rw [← b0, ← b1, ← e_109_27]; exact n62e) | (rw [← b0, ← b1]; exact n62e)
            have n62g : ((Int32.ofInt 0)).toInt = 1 → 97 ≤ (((sF (sF sc0 109 29 w0_109_27) 109 28 (Int32.ofInt 0)).2.2.1 109 30)).toInt := by exact fun h => absurd h (by decide)
            have n62h : ((sF (sF sc0 109 29 w0_109_27) 109 28 (Int32.ofInt 0)).2.2.1 109 28).toInt = 1 → 97 ≤ ((sF (sF sc0 109 29 w0_109_27) 109 28 (Int32.ofInt 0)).2.2.1 109 30).toInt := by have b0 : (Int32.ofInt 0) = (sF (sF sc0 109 29 w0_109_27) 109 28 (Int32.ofInt 0)).2.2.1 109 28 := sF_get; rw [← b0]; exact n62g
            have n62i : ((Int32.ofInt 0)).toInt = 1 → (((sF (sF sc0 109 29 w0_109_27) 109 28 (Int32.ofInt 0)).2.2.1 109 30)).toInt ≤ 122 := by exact fun h => absurd h (by decide)
            have n62j : ((sF (sF sc0 109 29 w0_109_27) 109 28 (Int32.ofInt 0)).2.2.1 109 28).toInt = 1 → ((sF (sF sc0 109 29 w0_109_27) 109 28 (Int32.ofInt 0)).2.2.1 109 30).toInt ≤ 122 := by have b0 : (Int32.ofInt 0) = (sF (sF sc0 109 29 w0_109_27) 109 28 (Int32.ofInt 0)).2.2.1 109 28 := sF_get; rw [← b0]; exact n62i
            exact g_return (gd rfl) rfl (hP _ _ ⟨(sF (sF sc0 109 29 w0_109_27) 109 28 (Int32.ofInt 0)), hI59, (fr_sF rfl (fr_sF rfl hFc0)), n62b, n62d, n62f, n62h, n62j, rfl, rfl, n62⟩)
        · skip
          have i22 := r_eq1 32 32 c22 i19 (in_c 32 rfl) rfl
          refine g_aload_n 26 (gd rfl) rfl rfl ?_
          refine g_dup 27 (gd rfl) rfl rfl ?_
          refine g_getI 30 (gd rfl) rfl rfl rfl (fun z27 e27 => ?_)
          have q27 : w0_109_27 = z27 := (v0_109_27).trans e27.symm
          subst q27
          refine g_iconst 1 31 (gd rfl) rfl rfl ?_
          refine g_iadd 32 (gd rfl) rfl (fun z31 e31 => ?_)
          have i31 := in_add 1 1000 e31 i8 (in_c 1 rfl) rfl rfl
          refine g_putI 35 (gd rfl) rfl rfl rfl rfl ?_
          have hI32 := inv_sF (q := 109) (j := 27) hIc0 rfl (in_w 0 1000 i31 rfl)
          refine g_goto 0 (gd rfl) rfl ?_
          have v0 : z31 = (sF sc0 109 27 z31).2.2.1 109 27 := sF_get
          have n0 : (z31).toInt ≤ (u_109_22).toInt := by have a0 := oa3 i8a i8 i31; have a3 := t_add e31 i8 (in_c 1 rfl) rfl; have a4 := in_u ((in_c 1 rfl)); have oc := oc_299_109; omega
          have n0a : (u_109_27).toInt ≤ (z31).toInt := by have a0 := oa3 i8a i8 i31; have a3 := t_add e31 i8 (in_c 1 rfl) rfl; have a4 := in_u ((in_c 1 rfl)); have oc := oc_299_109; omega
          have n0b : ∀ i : Nat, (s.2.2.1 109 27).toInt.toNat ≤ i → (i : Int) < (z31).toInt → (s.1 125 i).toInt = 32 := by intro i a b; by_cases hc : (i : Int) < w0_109_27.toInt; (exact g0_0 i a hc); (rw [show i = w0_109_27.toNatClampNeg from (by show i = w0_109_27.toInt.toNat; have a0 := oa3 i8a i8 i31; have a3 := t_add e31 i8 (in_c 1 rfl) rfl; have a4 := in_u ((in_c 1 rfl)); have oc := oc_299_109; omega), show s.1 125 w0_109_27.toNatClampNeg = z19 from (by rw [e19, hFc0.1 125 rfl])]; have a0 := oa3 i8a i8 i31; have a3 := t_add e31 i8 (in_c 1 rfl) rfl; have a4 := in_u ((in_c 1 rfl)); have oc := oc_299_109; omega)
          have n0c : FSM s (sF sc0 109 27 z31) := by exact g0_1
          have m0 : (u_109_22).toInt - (z31).toInt < ((k0 : Nat) : Int) := by have a0 := oa3 i8a i8 i31; have a3 := t_add e31 i8 (in_c 1 rfl) rfl; have a4 := in_u ((in_c 1 rfl)); have oc := oc_299_109; omega
          exact gg_w (by first | exact Nat.le_add_right _ _ | exact gw2 | exact gw3 | exact gwe rfl | exact gwf rfl | exact gwg rfl | exact gwh rfl | omega) (gg_f (gf_cons rfl gf_nil) (ih0  (sF sc0 109 27 z31) z31 hI32 (fr_sF rfl hFc0) v0 n0 n0a n0b n0c m0))
  refine g_enter2 (k := 299) (N := 901801) (by first | exact dq1 hd rfl | exact dq0 hd rfl | exact dq2 hd rfl | exact dq3 hd rfl | omega) rfl (Nat.le_of_ble_eq_true rfl) ?_
  have n0 : (u_109_27).toInt ≤ (u_109_22).toInt := by have a0 := oa2 ((inv_F hI 0 1000 rfl e_109_22)) ((inv_F hI 0 1000 rfl e_109_27)); have oc := oc_299_109; omega
  have n0a : (u_109_27).toInt ≤ (u_109_27).toInt := by exact Int.le_refl _
  have n0b : ∀ i : Nat, (s.2.2.1 109 27).toInt.toNat ≤ i → (i : Int) < (u_109_27).toInt → (s.1 125 i).toInt = 32 := by intro i a b; exfalso; rw [← e_109_27] at a; have a0 := oa2 ((inv_F hI 0 1000 rfl e_109_22)) ((inv_F hI 0 1000 rfl e_109_27)); have oc := oc_299_109; omega
  have n0c : FSM s s := by exact ⟨rfl, rfl⟩
  have m0 : (u_109_22).toInt - (u_109_27).toInt < ((1001 : Nat) : Int) := by have a0 := oa2 ((inv_F hI 0 1000 rfl e_109_22)) ((inv_F hI 0 1000 rfl e_109_27)); have oc := oc_299_109; omega
  exact gg_w (by first | exact Nat.le_of_ble_eq_true rfl | omega) (gg_f (gf_cons rfl gf_nil) (ct0 1001 s u_109_27 hI fr_rf e_109_27 n0 n0a n0b n0c m0))
end
