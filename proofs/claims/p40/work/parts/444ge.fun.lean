/-! FUNCTIONAL CONTRACTS, by fgen.py -/
/-- GraphHouse$Script.accuse -/
theorem f_168_46 {Z : AmZ} {A : Nat → Nat} {s : GS} {ex : va_W} {d : Nat} {X : AmX} {x1 : Int32} {x2 : Int32} (hd : 1 ≤ d) (hI : Inv s) (h1 : In x1 1 5) (h2 : In x2 0 1000) : GC Z d 168 [.ref (A 46), .int x1, .int x2] (WW Z A s ++ ex) 0 0 (fun v u => ∃ t : GS, Inv t ∧ Fr fm_168_46 s t ∧ ∃ z : Int32, v = some (.int z) ∧ u = WW Z A t ++ ex ∧ In z 0 0 ∧ ((t.2.2.1 46 6) = x1 ∧ (t.2.2.1 46 7) = x2)) X := by
  intro post xp hP hX
  refine g_enter2 (k := 168) (N := 900) (by first | exact dq1 hd rfl | exact dq0 hd rfl | exact dq2 hd rfl | exact dq3 hd rfl | omega) rfl (Nat.le_of_ble_eq_true rfl) ?_
  refine g_aload_n 1 (gd rfl) rfl rfl ?_
  refine g_iload_n 2 (gd rfl) rfl rfl ?_
  refine g_putI 5 (gd rfl) rfl rfl rfl rfl ?_
  have hI2 := inv_sF (q := 46) (j := 6) hI rfl (in_w (-1) 5 h1 rfl)
  refine g_aload_n 6 (gd rfl) rfl rfl ?_
  refine g_iload_n 7 (gd rfl) rfl rfl ?_
  refine g_putI 10 (gd rfl) rfl rfl rfl rfl ?_
  have hI7 := inv_sF (q := 46) (j := 7) hI2 rfl (in_w (-1) 1000 h2 rfl)
  refine g_iconst 0 11 (gd rfl) rfl rfl ?_
  have n11 : ((sF (sF s 46 6 x1) 46 7 x2).2.2.1 46 6) = x1 ∧ ((sF (sF s 46 6 x1) 46 7 x2).2.2.1 46 7) = x2 := by exact ⟨((show x1 = (sF (sF s 46 6 x1) 46 7 x2).2.2.1 46 6 from sF_ne rfl (sF_get))).symm, ((show x2 = (sF (sF s 46 6 x1) 46 7 x2).2.2.1 46 7 from sF_get)).symm⟩
  exact g_ireturn (gd rfl) rfl (nb01 (in_w 0 1 (in_c 0 rfl) rfl)) (hP _ _ ⟨(sF (sF s 46 6 x1) 46 7 x2), hI7, (fr_sF rfl (fr_sF rfl fr_rf)), (Int32.ofInt 0), rfl, rfl, in_w 0 0 (in_c 0 rfl) rfl, n11⟩)

theorem oc_169_46 : (Int32.ofInt (-1)).toInt = (-1) ∧ (Int32.ofInt 0).toInt = 0 ∧ (Int32.ofInt 1).toInt = 1 ∧ (Int32.ofInt 4).toInt = 4 ∧ (Int32.ofInt 5).toInt = 5 := ⟨rfl, rfl, rfl, rfl, rfl⟩
/-- GraphHouse$Script.refuse -/
theorem f_169_46 {Z : AmZ} {A : Nat → Nat} {s : GS} {ex : va_W} {d : Nat} {X : AmX} {x1 : Int32} {x2 : Int32} {u_46_3 : Int32} {u_46_4 : Int32} (hd : 2 ≤ d) (hI : Inv s) (h1 : In x1 2 2) (h2 : In x2 3 3) (e_46_3 : u_46_3 = s.2.2.1 46 3) (e_46_4 : u_46_4 = s.2.2.1 46 4) : GC Z d 169 [.ref (A 46), .int x1, .int x2] (WW Z A s ++ ex) 0 0 (fun v u => ∃ t : GS, Inv t ∧ Fr fm_169_46 s t ∧ ∃ z : Int32, v = some (.int z) ∧ u = WW Z A t ++ ex ∧ In z 0 0 ∧ ((t.2.2.1 46 6).toInt = cmF (s.2.2.1 46 3).toInt ∧ (t.2.2.1 46 7) = s.2.2.1 46 4)) X := by
  intro post xp hP hX
  have ro_46_3 := inv_F hI 0 5 rfl e_46_3
  have ro_46_4 := inv_F hI 0 1000 rfl e_46_4
  refine g_enter2 (k := 169) (N := 900) (by first | exact dq1 hd rfl | exact dq0 hd rfl | exact dq2 hd rfl | exact dq3 hd rfl | omega) rfl (Nat.le_of_ble_eq_true rfl) ?_
  refine g_aload_n 1 (gd rfl) rfl rfl ?_
  refine g_getI 4 (gd rfl) rfl rfl rfl (fun z1 e1 => ?_)
  have q1 : u_46_3 = z1 := (e_46_3).trans e1.symm
  subst q1
  refine g_iconst 4 5 (gd rfl) rfl rfl ?_
  refine g_cmp_ne 8 18 (gd rfl) rfl rfl (fun c5 => ?_) (fun c5 => ?_)
  · skip
    refine g_aload_n 19 (gd rfl) rfl rfl ?_
    refine g_aload_n 20 (gd rfl) rfl rfl ?_
    refine g_getI 23 (gd rfl) rfl rfl rfl (fun z20 e20 => ?_)
    have q20 : u_46_3 = z20 := (e_46_3).trans e20.symm
    subst q20
    refine g_iconst 5 24 (gd rfl) rfl rfl ?_
    refine g_cmp_ne 27 31 (gd rfl) rfl rfl (fun c24 => ?_) (fun c24 => ?_)
    · skip
      have i24 := r_ne1 0 4 c24 (inv_F hI 0 5 rfl e_46_3) (in_c 5 rfl) rfl
      refine g_iload_n 32 (gd rfl) rfl rfl ?_
      refine g_aload_n 33 (gd rfl) rfl rfl ?_
      refine g_getI 36 (gd rfl) rfl rfl rfl (fun z33 e33 => ?_)
      have q33 : u_46_4 = z33 := (e_46_4).trans e33.symm
      subst q33
      refine g_callv (X := _) (As := [.int x1, .int u_46_4]) (r := []) (b := A 46) (q := 46) 39 (gd rfl) rfl rfl rfl rfl rfl (ww_o rfl) (Nat.le_of_ble_eq_true rfl) (Nat.zero_le _) (Nat.zero_le _) (f_168_46 (by first | exact dq1 hd rfl | exact dq0 hd rfl | exact dq2 hd rfl | exact dq3 hd rfl | omega) hI (in_w 1 5 h1 rfl) (in_w 0 1000 (inv_F hI 0 1000 rfl e_46_4) rfl)) (fun e u h => h) (fun v u h => ?_)
      obtain ⟨s36, hI36, hF36, z36, rfl, rfl, i36, p36⟩ := h
      show GG _ _ _ _ _ _ _ _ [.int z36] _ _ _
      have n39 : (s36.2.2.1 46 6).toInt = cmF (s.2.2.1 46 3).toInt ∧ (s36.2.2.1 46 7) = s.2.2.1 46 4 := by refine ⟨?_, by rw [p36.2, ← e_46_4]⟩; rw [p36.1, ← e_46_3]; unfold cmF; rw [if_neg (by (first | have a0 := in_u ((inv_F hI 0 1000 rfl e_46_4)) | (have a0 := (inv_F hI 0 1000 rfl e_46_4); unfold In at a0)); (first | have a1 := in_u i24 | (have a1 := i24; unfold In at a1)); (first | have a2 := in_u h2 | (have a2 := h2; unfold In at a2)); (first | have a3 := in_u h1 | (have a3 := h1; unfold In at a3)); have oc := oc_169_46; omega)]; first | (rw [if_pos (by (first | have a0 := in_u ((inv_F hI 0 1000 rfl e_46_4)) | (have a0 := (inv_F hI 0 1000 rfl e_46_4); unfold In at a0)); (first | have a1 := in_u i24 | (have a1 := i24; unfold In at a1)); (first | have a2 := in_u h2 | (have a2 := h2; unfold In at a2)); (first | have a3 := in_u h1 | (have a3 := h1; unfold In at a3)); have oc := oc_169_46; omega)]; (first | have a0 := in_u ((inv_F hI 0 1000 rfl e_46_4)) | (have a0 := (inv_F hI 0 1000 rfl e_46_4); unfold In at a0)); (first | have a1 := in_u i24 | (have a1 := i24; unfold In at a1)); (first | have a2 := in_u h2 | (have a2 := h2; unfold In at a2)); (first | have a3 := in_u h1 | (have a3 := h1; unfold In at a3)); have oc := oc_169_46; omega) | (rw [if_neg (by (first | have a0 := in_u ((inv_F hI 0 1000 rfl e_46_4)) | (have a0 := (inv_F hI 0 1000 rfl e_46_4); unfold In at a0)); (first | have a1 := in_u i24 | (have a1 := i24; unfold In at a1)); (first | have a2 := in_u h2 | (have a2 := h2; unfold In at a2)); (first | have a3 := in_u h1 | (have a3 := h1; unfold In at a3)); have oc := oc_169_46; omega)]; (first | have a0 := in_u ((inv_F hI 0 1000 rfl e_46_4)) | (have a0 := (inv_F hI 0 1000 rfl e_46_4); unfold In at a0)); (first | have a1 := in_u i24 | (have a1 := i24; unfold In at a1)); (first | have a2 := in_u h2 | (have a2 := h2; unfold In at a2)); (first | have a3 := in_u h1 | (have a3 := h1; unfold In at a3)); have oc := oc_169_46; omega)
      exact g_ireturn (gd rfl) rfl (nb01 (in_w 0 1 i36 rfl)) (hP _ _ ⟨s36, hI36, (fr_tr rfl fr_rf hF36), z36, rfl, rfl, in_w 0 0 i36 rfl, n39⟩)
    · skip
      have i24 := r_eq1 5 5 c24 (inv_F hI 0 5 rfl e_46_3) (in_c 5 rfl) rfl
      refine g_iload_n 28 (gd rfl) rfl rfl ?_
      refine g_goto 32 (gd rfl) rfl ?_
      refine g_aload_n 33 (gd rfl) rfl rfl ?_
      refine g_getI 36 (gd rfl) rfl rfl rfl (fun z33 e33 => ?_)
      have q33 : u_46_4 = z33 := (e_46_4).trans e33.symm
      subst q33
      refine g_callv (X := _) (As := [.int x2, .int u_46_4]) (r := []) (b := A 46) (q := 46) 39 (gd rfl) rfl rfl rfl rfl rfl (ww_o rfl) (Nat.le_of_ble_eq_true rfl) (Nat.zero_le _) (Nat.zero_le _) (f_168_46 (by first | exact dq1 hd rfl | exact dq0 hd rfl | exact dq2 hd rfl | exact dq3 hd rfl | omega) hI (in_w 1 5 h2 rfl) (in_w 0 1000 (inv_F hI 0 1000 rfl e_46_4) rfl)) (fun e u h => h) (fun v u h => ?_)
      obtain ⟨s36, hI36, hF36, z36, rfl, rfl, i36, p36⟩ := h
      show GG _ _ _ _ _ _ _ _ [.int z36] _ _ _
      have n39 : (s36.2.2.1 46 6).toInt = cmF (s.2.2.1 46 3).toInt ∧ (s36.2.2.1 46 7) = s.2.2.1 46 4 := by refine ⟨?_, by rw [p36.2, ← e_46_4]⟩; rw [p36.1, ← e_46_3]; unfold cmF; rw [if_neg (by (first | have a0 := in_u ((inv_F hI 0 1000 rfl e_46_4)) | (have a0 := (inv_F hI 0 1000 rfl e_46_4); unfold In at a0)); (first | have a1 := in_u i24 | (have a1 := i24; unfold In at a1)); (first | have a2 := in_u h2 | (have a2 := h2; unfold In at a2)); (first | have a3 := in_u h1 | (have a3 := h1; unfold In at a3)); have oc := oc_169_46; omega)]; first | (rw [if_pos (by (first | have a0 := in_u ((inv_F hI 0 1000 rfl e_46_4)) | (have a0 := (inv_F hI 0 1000 rfl e_46_4); unfold In at a0)); (first | have a1 := in_u i24 | (have a1 := i24; unfold In at a1)); (first | have a2 := in_u h2 | (have a2 := h2; unfold In at a2)); (first | have a3 := in_u h1 | (have a3 := h1; unfold In at a3)); have oc := oc_169_46; omega)]; (first | have a0 := in_u ((inv_F hI 0 1000 rfl e_46_4)) | (have a0 := (inv_F hI 0 1000 rfl e_46_4); unfold In at a0)); (first | have a1 := in_u i24 | (have a1 := i24; unfold In at a1)); (first | have a2 := in_u h2 | (have a2 := h2; unfold In at a2)); (first | have a3 := in_u h1 | (have a3 := h1; unfold In at a3)); have oc := oc_169_46; omega) | (rw [if_neg (by (first | have a0 := in_u ((inv_F hI 0 1000 rfl e_46_4)) | (have a0 := (inv_F hI 0 1000 rfl e_46_4); unfold In at a0)); (first | have a1 := in_u i24 | (have a1 := i24; unfold In at a1)); (first | have a2 := in_u h2 | (have a2 := h2; unfold In at a2)); (first | have a3 := in_u h1 | (have a3 := h1; unfold In at a3)); have oc := oc_169_46; omega)]; (first | have a0 := in_u ((inv_F hI 0 1000 rfl e_46_4)) | (have a0 := (inv_F hI 0 1000 rfl e_46_4); unfold In at a0)); (first | have a1 := in_u i24 | (have a1 := i24; unfold In at a1)); (first | have a2 := in_u h2 | (have a2 := h2; unfold In at a2)); (first | have a3 := in_u h1 | (have a3 := h1; unfold In at a3)); have oc := oc_169_46; omega)
      exact g_ireturn (gd rfl) rfl (nb01 (in_w 0 1 i36 rfl)) (hP _ _ ⟨s36, hI36, (fr_tr rfl fr_rf hF36), z36, rfl, rfl, in_w 0 0 i36 rfl, n39⟩)
  · skip
    have i5 := r_eq1 4 4 c5 (inv_F hI 0 5 rfl e_46_3) (in_c 4 rfl) rfl
    refine g_aload_n 9 (gd rfl) rfl rfl ?_
    refine g_iconst 1 10 (gd rfl) rfl rfl ?_
    refine g_aload_n 11 (gd rfl) rfl rfl ?_
    refine g_getI 14 (gd rfl) rfl rfl rfl (fun z11 e11 => ?_)
    have q11 : u_46_4 = z11 := (e_46_4).trans e11.symm
    subst q11
    refine g_callv (X := _) (As := [.int (Int32.ofInt 1), .int u_46_4]) (r := []) (b := A 46) (q := 46) 17 (gd rfl) rfl rfl rfl rfl rfl (ww_o rfl) (Nat.le_of_ble_eq_true rfl) (Nat.zero_le _) (Nat.zero_le _) (f_168_46 (by first | exact dq1 hd rfl | exact dq0 hd rfl | exact dq2 hd rfl | exact dq3 hd rfl | omega) hI (in_w 1 5 (in_c 1 rfl) rfl) (in_w 0 1000 (inv_F hI 0 1000 rfl e_46_4) rfl)) (fun e u h => h) (fun v u h => ?_)
    obtain ⟨s14, hI14, hF14, z14, rfl, rfl, i14, p14⟩ := h
    show GG _ _ _ _ _ _ _ _ [.int z14] _ _ _
    have n17 : (s14.2.2.1 46 6).toInt = cmF (s.2.2.1 46 3).toInt ∧ (s14.2.2.1 46 7) = s.2.2.1 46 4 := by refine ⟨?_, by rw [p14.2, ← e_46_4]⟩; rw [p14.1, ← e_46_3]; unfold cmF; rw [if_pos (by (first | have a0 := in_u ((inv_F hI 0 1000 rfl e_46_4)) | (have a0 := (inv_F hI 0 1000 rfl e_46_4); unfold In at a0)); (first | have a1 := in_u i5 | (have a1 := i5; unfold In at a1)); (first | have a2 := in_u h2 | (have a2 := h2; unfold In at a2)); (first | have a3 := in_u h1 | (have a3 := h1; unfold In at a3)); have oc := oc_169_46; omega)]; rfl
    exact g_ireturn (gd rfl) rfl (nb01 (in_w 0 1 i14 rfl)) (hP _ _ ⟨s14, hI14, (fr_tr rfl fr_rf hF14), z14, rfl, rfl, in_w 0 0 i14 rfl, n17⟩)

/-- GraphHouse$Graph.copyOf -/
theorem f_93_16_2 {Z : AmZ} {A : Nat → Nat} {s : GS} {ex : va_W} {d : Nat} {X : AmX}  (hd : 1 ≤ d) (hI : Inv s)  : GC Z d 93 [.ref (A 16), .ref (A 2)] (WW Z A s ++ ex) 0 0 (fun v u => ∃ t : GS, Inv t ∧ Fr fm_93_16_2 s t ∧ v = none ∧ u = WW Z A t ++ ex ∧ (∀ p : Nat, p < 160 → t.1 18 p = s.1 4 p) ∧ (∀ p : Nat, p < 160 → t.1 19 p = s.1 5 p) ∧ (t.2.2.1 16 0 = s.2.2.1 2 0) ∧ (t.2.2.1 16 1 = s.2.2.1 2 1) ∧ (∀ p : Nat, p < 32 → t.1 17 p = s.1 3 p) ∧ (∀ p : Nat, p < 160 → t.1 20 p = s.1 6 p) ∧ (∀ p : Nat, p < 160 → t.1 21 p = s.1 7 p) ∧ (∀ p : Nat, p < 160 → t.1 22 p = s.1 8 p) ∧ (t.2.2.1 16 3 = s.2.2.1 2 3)) X := by
  intro post xp hP hX
  obtain ⟨u_2_0, e_2_0⟩ : ∃ w, w = s.2.2.1 2 0 := ⟨_, rfl⟩
  have ro_2_0 := inv_F hI 0 4000 rfl e_2_0
  obtain ⟨u_2_1, e_2_1⟩ : ∃ w, w = s.2.2.1 2 1 := ⟨_, rfl⟩
  have ro_2_1 := inv_F hI 0 32 rfl e_2_1
  obtain ⟨u_2_2, e_2_2⟩ : ∃ w, w = s.2.2.1 2 2 := ⟨_, rfl⟩
  obtain ⟨u_2_3, e_2_3⟩ : ∃ w, w = s.2.2.1 2 3 := ⟨_, rfl⟩
  have ro_2_3 := inv_F hI 0 160 rfl e_2_3
  refine g_enter2 (k := 93) (N := 900) (by first | exact dq1 hd rfl | exact dq0 hd rfl | exact dq2 hd rfl | exact dq3 hd rfl | omega) rfl (Nat.le_of_ble_eq_true rfl) ?_
  refine g_aload_n 1 (gd rfl) rfl rfl ?_
  refine g_aload_n 2 (gd rfl) rfl rfl ?_
  refine g_getI 5 (gd rfl) rfl rfl rfl (fun z2 e2 => ?_)
  have q2 : u_2_0 = z2 := (e_2_0).trans e2.symm
  subst q2
  refine g_putI 8 (gd rfl) rfl rfl rfl rfl ?_
  have hI5 := rng_sF (q := 16) (j := 0) hI.1 rfl (in_w 0 4000 ro_2_0 rfl)
  refine g_aload_n 9 (gd rfl) rfl rfl ?_
  refine g_aload_n 10 (gd rfl) rfl rfl ?_
  refine g_getI 13 (gd rfl) rfl rfl rfl (fun z10 e10 => ?_)
  have q10 : u_2_1 = z10 := (sF_ne rfl (e_2_1)).trans e10.symm
  subst q10
  refine g_putI 16 (gd rfl) rfl rfl rfl rfl ?_
  have hI13 := rng_sF (q := 16) (j := 1) hI5 rfl (in_w 0 32 ro_2_1 rfl)
  refine g_aload_n 17 (gd rfl) rfl rfl ?_
  refine g_aload_n 18 (gd rfl) rfl rfl ?_
  refine g_getI 21 (gd rfl) rfl rfl rfl (fun z18 e18 => ?_)
  have q18 : u_2_2 = z18 := (sF_ne rfl (sF_ne rfl (e_2_2))).trans e18.symm
  subst q18
  refine g_putI 24 (gd rfl) rfl rfl rfl rfl ?_
  have hI21 := rng_sF (q := 16) (j := 2) hI13 rfl (in_w (-2147483648) 2147483647 (i_rng u_2_2) rfl)
  refine g_aload_n 25 (gd rfl) rfl rfl ?_
  refine g_aload_n 26 (gd rfl) rfl rfl ?_
  refine g_getI 29 (gd rfl) rfl rfl rfl (fun z26 e26 => ?_)
  have q26 : u_2_3 = z26 := (sF_ne rfl (sF_ne rfl (sF_ne rfl (e_2_3)))).trans e26.symm
  subst q26
  refine g_putI 32 (gd rfl) rfl rfl rfl rfl ?_
  have hI29 := rng_sF (q := 16) (j := 3) hI21 rfl (in_w 0 160 ro_2_3 rfl)
  refine g_aload_n 33 (gd rfl) rfl rfl ?_
  refine g_iconst (-1) 34 (gd rfl) rfl rfl ?_
  refine g_putI 37 (gd rfl) rfl rfl rfl rfl ?_
  have hI34 := rng_sF (q := 16) (j := 4) hI29 rfl (in_w (-1) 4000 (in_c (-1) rfl) rfl)
  refine g_aload_n 38 (gd rfl) rfl rfl ?_
  refine g_getA (q2 := 3) 41 (gd rfl) rfl rfl rfl rfl ?_
  refine g_iconst 0 42 (gd rfl) rfl rfl ?_
  refine g_aload_n 43 (gd rfl) rfl rfl ?_
  refine g_getA (q2 := 17) 46 (gd rfl) rfl rfl rfl rfl ?_
  refine g_iconst 0 47 (gd rfl) rfl rfl ?_
  refine g_bipush 32 49 (gd rfl) rfl rfl ?_
  refine g_cpIr (q2 := 3) (q := 17) (n0 := 32) (n1 := 32) 52 (gd rfl) rfl rfl rfl rfl (Nat.le_of_ble_eq_true rfl) (cp_0 (in_c 0 rfl) rfl) (cp_0 (in_c 0 rfl) rfl) (cp_0 (in_c 32 rfl) rfl) (cp_1 (in_c 0 rfl) (in_c 32 rfl) rfl) (cp_1 (in_c 0 rfl) (in_c 32 rfl) rfl) hI34 rfl rfl rfl (fun s49 hI49 hF49 cp49 => ?_)
  refine g_aload_n 53 (gd rfl) rfl rfl ?_
  refine g_getA (q2 := 4) 56 (gd rfl) rfl rfl rfl rfl ?_
  refine g_iconst 0 57 (gd rfl) rfl rfl ?_
  refine g_aload_n 58 (gd rfl) rfl rfl ?_
  refine g_getA (q2 := 18) 61 (gd rfl) rfl rfl rfl rfl ?_
  refine g_iconst 0 62 (gd rfl) rfl rfl ?_
  refine g_sipush 160 65 (gd rfl) rfl rfl ?_
  refine g_cpIr (q2 := 4) (q := 18) (n0 := 160) (n1 := 160) 68 (gd rfl) rfl rfl rfl rfl (Nat.le_of_ble_eq_true rfl) (cp_0 (in_c 0 rfl) rfl) (cp_0 (in_c 0 rfl) rfl) (cp_0 (in_c 160 rfl) rfl) (cp_1 (in_c 0 rfl) (in_c 160 rfl) rfl) (cp_1 (in_c 0 rfl) (in_c 160 rfl) rfl) hI49 rfl rfl rfl (fun s65 hI65 hF65 cp65 => ?_)
  refine g_aload_n 69 (gd rfl) rfl rfl ?_
  refine g_getA (q2 := 5) 72 (gd rfl) rfl rfl rfl rfl ?_
  refine g_iconst 0 73 (gd rfl) rfl rfl ?_
  refine g_aload_n 74 (gd rfl) rfl rfl ?_
  refine g_getA (q2 := 19) 77 (gd rfl) rfl rfl rfl rfl ?_
  refine g_iconst 0 78 (gd rfl) rfl rfl ?_
  refine g_sipush 160 81 (gd rfl) rfl rfl ?_
  refine g_cpIr (q2 := 5) (q := 19) (n0 := 160) (n1 := 160) 84 (gd rfl) rfl rfl rfl rfl (Nat.le_of_ble_eq_true rfl) (cp_0 (in_c 0 rfl) rfl) (cp_0 (in_c 0 rfl) rfl) (cp_0 (in_c 160 rfl) rfl) (cp_1 (in_c 0 rfl) (in_c 160 rfl) rfl) (cp_1 (in_c 0 rfl) (in_c 160 rfl) rfl) hI65 rfl rfl rfl (fun s81 hI81 hF81 cp81 => ?_)
  refine g_aload_n 85 (gd rfl) rfl rfl ?_
  refine g_getA (q2 := 6) 88 (gd rfl) rfl rfl rfl rfl ?_
  refine g_iconst 0 89 (gd rfl) rfl rfl ?_
  refine g_aload_n 90 (gd rfl) rfl rfl ?_
  refine g_getA (q2 := 20) 93 (gd rfl) rfl rfl rfl rfl ?_
  refine g_iconst 0 94 (gd rfl) rfl rfl ?_
  refine g_sipush 160 97 (gd rfl) rfl rfl ?_
  refine g_cpIr (q2 := 6) (q := 20) (n0 := 160) (n1 := 160) 100 (gd rfl) rfl rfl rfl rfl (Nat.le_of_ble_eq_true rfl) (cp_0 (in_c 0 rfl) rfl) (cp_0 (in_c 0 rfl) rfl) (cp_0 (in_c 160 rfl) rfl) (cp_1 (in_c 0 rfl) (in_c 160 rfl) rfl) (cp_1 (in_c 0 rfl) (in_c 160 rfl) rfl) hI81 rfl rfl rfl (fun s97 hI97 hF97 cp97 => ?_)
  refine g_aload_n 101 (gd rfl) rfl rfl ?_
  refine g_getA (q2 := 7) 104 (gd rfl) rfl rfl rfl rfl ?_
  refine g_iconst 0 105 (gd rfl) rfl rfl ?_
  refine g_aload_n 106 (gd rfl) rfl rfl ?_
  refine g_getA (q2 := 21) 109 (gd rfl) rfl rfl rfl rfl ?_
  refine g_iconst 0 110 (gd rfl) rfl rfl ?_
  refine g_sipush 160 113 (gd rfl) rfl rfl ?_
  refine g_cpIr (q2 := 7) (q := 21) (n0 := 160) (n1 := 160) 116 (gd rfl) rfl rfl rfl rfl (Nat.le_of_ble_eq_true rfl) (cp_0 (in_c 0 rfl) rfl) (cp_0 (in_c 0 rfl) rfl) (cp_0 (in_c 160 rfl) rfl) (cp_1 (in_c 0 rfl) (in_c 160 rfl) rfl) (cp_1 (in_c 0 rfl) (in_c 160 rfl) rfl) hI97 rfl rfl rfl (fun s113 hI113 hF113 cp113 => ?_)
  refine g_aload_n 117 (gd rfl) rfl rfl ?_
  refine g_getA (q2 := 8) 120 (gd rfl) rfl rfl rfl rfl ?_
  refine g_iconst 0 121 (gd rfl) rfl rfl ?_
  refine g_aload_n 122 (gd rfl) rfl rfl ?_
  refine g_getA (q2 := 22) 125 (gd rfl) rfl rfl rfl rfl ?_
  refine g_iconst 0 126 (gd rfl) rfl rfl ?_
  refine g_sipush 160 129 (gd rfl) rfl rfl ?_
  refine g_cpIr (q2 := 8) (q := 22) (n0 := 160) (n1 := 160) 132 (gd rfl) rfl rfl rfl rfl (Nat.le_of_ble_eq_true rfl) (cp_0 (in_c 0 rfl) rfl) (cp_0 (in_c 0 rfl) rfl) (cp_0 (in_c 160 rfl) rfl) (cp_1 (in_c 0 rfl) (in_c 160 rfl) rfl) (cp_1 (in_c 0 rfl) (in_c 160 rfl) rfl) hI113 rfl rfl rfl (fun s129 hI129 hF129 cp129 => ?_)
  have hI132 : Inv s129 := by have hFF : Fr fm_93_16_2 s s129 := (fr_tr rfl (fr_tr rfl (fr_tr rfl (fr_tr rfl (fr_tr rfl (fr_tr rfl (fr_sF rfl (fr_sF rfl (fr_sF rfl (fr_sF rfl (fr_sF rfl fr_rf))))) hF49) hF65) hF81) hF97) hF113) hF129); exact ⟨hI129, kk_g hI.2.1 hFF rfl rfl rfl rfl rfl, kk_g hI.2.2.1 hFF rfl rfl rfl rfl rfl, kk_s hI.2.2.2.1 hFF rfl, kk_r hI.2.2.2.2 hFF rfl⟩
  have n132 : ∀ p : Nat, p < 160 → s129.1 18 p = s.1 4 p := by exact fun p hp => by rw [hF129.1 18 rfl, hF113.1 18 rfl, hF97.1 18 rfl, hF81.1 18 rfl, cp65 p, cp_get (show p < (Int32.ofInt 160).toNatClampNeg from hp), hF49.1 4 rfl]; rfl
  have n132a : ∀ p : Nat, p < 160 → s129.1 19 p = s.1 5 p := by exact fun p hp => by rw [hF129.1 19 rfl, hF113.1 19 rfl, hF97.1 19 rfl, cp81 p, cp_get (show p < (Int32.ofInt 160).toNatClampNeg from hp), hF65.1 5 rfl, hF49.1 5 rfl]; rfl
  have n132b : s129.2.2.1 16 0 = s.2.2.1 2 0 := by exact ((show u_2_0 = s129.2.2.1 16 0 from fr_F (fr_F (fr_F (fr_F (fr_F (fr_F (s := (sF (sF (sF (sF (sF s 16 0 u_2_0) 16 1 u_2_1) 16 2 u_2_2) 16 3 u_2_3) 16 4 (Int32.ofInt (-1)))) (sF_ne rfl (sF_ne rfl (sF_ne rfl (sF_ne rfl (sF_get))))) hF49 rfl) hF65 rfl) hF81 rfl) hF97 rfl) hF113 rfl) hF129 rfl)).symm.trans e_2_0
  have n132c : s129.2.2.1 16 1 = s.2.2.1 2 1 := by exact ((show u_2_1 = s129.2.2.1 16 1 from fr_F (fr_F (fr_F (fr_F (fr_F (fr_F (s := (sF (sF (sF (sF (sF s 16 0 u_2_0) 16 1 u_2_1) 16 2 u_2_2) 16 3 u_2_3) 16 4 (Int32.ofInt (-1)))) (sF_ne rfl (sF_ne rfl (sF_ne rfl (sF_get)))) hF49 rfl) hF65 rfl) hF81 rfl) hF97 rfl) hF113 rfl) hF129 rfl)).symm.trans e_2_1
  have n132d : ∀ p : Nat, p < 32 → s129.1 17 p = s.1 3 p := by exact fun p hp => by rw [hF129.1 17 rfl, hF113.1 17 rfl, hF97.1 17 rfl, hF81.1 17 rfl, hF65.1 17 rfl, cp49 p, cp_get (show p < (Int32.ofInt 32).toNatClampNeg from hp)]; rfl
  have n132e : ∀ p : Nat, p < 160 → s129.1 20 p = s.1 6 p := by exact fun p hp => by rw [hF129.1 20 rfl, hF113.1 20 rfl, cp97 p, cp_get (show p < (Int32.ofInt 160).toNatClampNeg from hp), hF81.1 6 rfl, hF65.1 6 rfl, hF49.1 6 rfl]; rfl
  have n132f : ∀ p : Nat, p < 160 → s129.1 21 p = s.1 7 p := by exact fun p hp => by rw [hF129.1 21 rfl, cp113 p, cp_get (show p < (Int32.ofInt 160).toNatClampNeg from hp), hF97.1 7 rfl, hF81.1 7 rfl, hF65.1 7 rfl, hF49.1 7 rfl]; rfl
  have n132g : ∀ p : Nat, p < 160 → s129.1 22 p = s.1 8 p := by exact fun p hp => by rw [cp129 p, cp_get (show p < (Int32.ofInt 160).toNatClampNeg from hp), hF113.1 8 rfl, hF97.1 8 rfl, hF81.1 8 rfl, hF65.1 8 rfl, hF49.1 8 rfl]; rfl
  have n132h : s129.2.2.1 16 3 = s.2.2.1 2 3 := by exact ((show u_2_3 = s129.2.2.1 16 3 from fr_F (fr_F (fr_F (fr_F (fr_F (fr_F (s := (sF (sF (sF (sF (sF s 16 0 u_2_0) 16 1 u_2_1) 16 2 u_2_2) 16 3 u_2_3) 16 4 (Int32.ofInt (-1)))) (sF_ne rfl (sF_get)) hF49 rfl) hF65 rfl) hF81 rfl) hF97 rfl) hF113 rfl) hF129 rfl)).symm.trans e_2_3
  exact g_return (gd rfl) rfl (hP _ _ ⟨s129, hI132, (fr_tr rfl (fr_tr rfl (fr_tr rfl (fr_tr rfl (fr_tr rfl (fr_tr rfl (fr_sF rfl (fr_sF rfl (fr_sF rfl (fr_sF rfl (fr_sF rfl fr_rf))))) hF49) hF65) hF81) hF97) hF113) hF129), rfl, rfl, n132, n132a, n132b, n132c, n132d, n132e, n132f, n132g, n132h⟩)

/-- GraphHouse$Graph.copyOf -/
theorem f_93_2_16 {Z : AmZ} {A : Nat → Nat} {s : GS} {ex : va_W} {d : Nat} {X : AmX}  (hd : 1 ≤ d) (hI : Inv s)  : GC Z d 93 [.ref (A 2), .ref (A 16)] (WW Z A s ++ ex) 0 0 (fun v u => ∃ t : GS, Inv t ∧ Fr fm_93_2_16 s t ∧ v = none ∧ u = WW Z A t ++ ex ∧ (∀ p : Nat, p < 160 → t.1 4 p = s.1 18 p) ∧ (∀ p : Nat, p < 160 → t.1 5 p = s.1 19 p) ∧ (t.2.2.1 2 0 = s.2.2.1 16 0) ∧ (t.2.2.1 2 1 = s.2.2.1 16 1) ∧ (∀ p : Nat, p < 32 → t.1 3 p = s.1 17 p) ∧ (∀ p : Nat, p < 160 → t.1 6 p = s.1 20 p) ∧ (∀ p : Nat, p < 160 → t.1 7 p = s.1 21 p) ∧ (∀ p : Nat, p < 160 → t.1 8 p = s.1 22 p) ∧ (t.2.2.1 2 3 = s.2.2.1 16 3)) X := by
  intro post xp hP hX
  obtain ⟨u_16_0, e_16_0⟩ : ∃ w, w = s.2.2.1 16 0 := ⟨_, rfl⟩
  have ro_16_0 := inv_F hI 0 4000 rfl e_16_0
  obtain ⟨u_16_1, e_16_1⟩ : ∃ w, w = s.2.2.1 16 1 := ⟨_, rfl⟩
  have ro_16_1 := inv_F hI 0 32 rfl e_16_1
  obtain ⟨u_16_2, e_16_2⟩ : ∃ w, w = s.2.2.1 16 2 := ⟨_, rfl⟩
  obtain ⟨u_16_3, e_16_3⟩ : ∃ w, w = s.2.2.1 16 3 := ⟨_, rfl⟩
  have ro_16_3 := inv_F hI 0 160 rfl e_16_3
  refine g_enter2 (k := 93) (N := 900) (by first | exact dq1 hd rfl | exact dq0 hd rfl | exact dq2 hd rfl | exact dq3 hd rfl | omega) rfl (Nat.le_of_ble_eq_true rfl) ?_
  refine g_aload_n 1 (gd rfl) rfl rfl ?_
  refine g_aload_n 2 (gd rfl) rfl rfl ?_
  refine g_getI 5 (gd rfl) rfl rfl rfl (fun z2 e2 => ?_)
  have q2 : u_16_0 = z2 := (e_16_0).trans e2.symm
  subst q2
  refine g_putI 8 (gd rfl) rfl rfl rfl rfl ?_
  have hI5 := rng_sF (q := 2) (j := 0) hI.1 rfl (in_w 0 4000 ro_16_0 rfl)
  refine g_aload_n 9 (gd rfl) rfl rfl ?_
  refine g_aload_n 10 (gd rfl) rfl rfl ?_
  refine g_getI 13 (gd rfl) rfl rfl rfl (fun z10 e10 => ?_)
  have q10 : u_16_1 = z10 := (sF_ne rfl (e_16_1)).trans e10.symm
  subst q10
  refine g_putI 16 (gd rfl) rfl rfl rfl rfl ?_
  have hI13 := rng_sF (q := 2) (j := 1) hI5 rfl (in_w 0 32 ro_16_1 rfl)
  refine g_aload_n 17 (gd rfl) rfl rfl ?_
  refine g_aload_n 18 (gd rfl) rfl rfl ?_
  refine g_getI 21 (gd rfl) rfl rfl rfl (fun z18 e18 => ?_)
  have q18 : u_16_2 = z18 := (sF_ne rfl (sF_ne rfl (e_16_2))).trans e18.symm
  subst q18
  refine g_putI 24 (gd rfl) rfl rfl rfl rfl ?_
  have hI21 := rng_sF (q := 2) (j := 2) hI13 rfl (in_w (-2147483648) 2147483647 (i_rng u_16_2) rfl)
  refine g_aload_n 25 (gd rfl) rfl rfl ?_
  refine g_aload_n 26 (gd rfl) rfl rfl ?_
  refine g_getI 29 (gd rfl) rfl rfl rfl (fun z26 e26 => ?_)
  have q26 : u_16_3 = z26 := (sF_ne rfl (sF_ne rfl (sF_ne rfl (e_16_3)))).trans e26.symm
  subst q26
  refine g_putI 32 (gd rfl) rfl rfl rfl rfl ?_
  have hI29 := rng_sF (q := 2) (j := 3) hI21 rfl (in_w 0 160 ro_16_3 rfl)
  refine g_aload_n 33 (gd rfl) rfl rfl ?_
  refine g_iconst (-1) 34 (gd rfl) rfl rfl ?_
  refine g_putI 37 (gd rfl) rfl rfl rfl rfl ?_
  have hI34 := rng_sF (q := 2) (j := 4) hI29 rfl (in_w (-1) 4000 (in_c (-1) rfl) rfl)
  refine g_aload_n 38 (gd rfl) rfl rfl ?_
  refine g_getA (q2 := 17) 41 (gd rfl) rfl rfl rfl rfl ?_
  refine g_iconst 0 42 (gd rfl) rfl rfl ?_
  refine g_aload_n 43 (gd rfl) rfl rfl ?_
  refine g_getA (q2 := 3) 46 (gd rfl) rfl rfl rfl rfl ?_
  refine g_iconst 0 47 (gd rfl) rfl rfl ?_
  refine g_bipush 32 49 (gd rfl) rfl rfl ?_
  refine g_cpIr (q2 := 17) (q := 3) (n0 := 32) (n1 := 32) 52 (gd rfl) rfl rfl rfl rfl (Nat.le_of_ble_eq_true rfl) (cp_0 (in_c 0 rfl) rfl) (cp_0 (in_c 0 rfl) rfl) (cp_0 (in_c 32 rfl) rfl) (cp_1 (in_c 0 rfl) (in_c 32 rfl) rfl) (cp_1 (in_c 0 rfl) (in_c 32 rfl) rfl) hI34 rfl rfl rfl (fun s49 hI49 hF49 cp49 => ?_)
  refine g_aload_n 53 (gd rfl) rfl rfl ?_
  refine g_getA (q2 := 18) 56 (gd rfl) rfl rfl rfl rfl ?_
  refine g_iconst 0 57 (gd rfl) rfl rfl ?_
  refine g_aload_n 58 (gd rfl) rfl rfl ?_
  refine g_getA (q2 := 4) 61 (gd rfl) rfl rfl rfl rfl ?_
  refine g_iconst 0 62 (gd rfl) rfl rfl ?_
  refine g_sipush 160 65 (gd rfl) rfl rfl ?_
  refine g_cpIr (q2 := 18) (q := 4) (n0 := 160) (n1 := 160) 68 (gd rfl) rfl rfl rfl rfl (Nat.le_of_ble_eq_true rfl) (cp_0 (in_c 0 rfl) rfl) (cp_0 (in_c 0 rfl) rfl) (cp_0 (in_c 160 rfl) rfl) (cp_1 (in_c 0 rfl) (in_c 160 rfl) rfl) (cp_1 (in_c 0 rfl) (in_c 160 rfl) rfl) hI49 rfl rfl rfl (fun s65 hI65 hF65 cp65 => ?_)
  refine g_aload_n 69 (gd rfl) rfl rfl ?_
  refine g_getA (q2 := 19) 72 (gd rfl) rfl rfl rfl rfl ?_
  refine g_iconst 0 73 (gd rfl) rfl rfl ?_
  refine g_aload_n 74 (gd rfl) rfl rfl ?_
  refine g_getA (q2 := 5) 77 (gd rfl) rfl rfl rfl rfl ?_
  refine g_iconst 0 78 (gd rfl) rfl rfl ?_
  refine g_sipush 160 81 (gd rfl) rfl rfl ?_
  refine g_cpIr (q2 := 19) (q := 5) (n0 := 160) (n1 := 160) 84 (gd rfl) rfl rfl rfl rfl (Nat.le_of_ble_eq_true rfl) (cp_0 (in_c 0 rfl) rfl) (cp_0 (in_c 0 rfl) rfl) (cp_0 (in_c 160 rfl) rfl) (cp_1 (in_c 0 rfl) (in_c 160 rfl) rfl) (cp_1 (in_c 0 rfl) (in_c 160 rfl) rfl) hI65 rfl rfl rfl (fun s81 hI81 hF81 cp81 => ?_)
  refine g_aload_n 85 (gd rfl) rfl rfl ?_
  refine g_getA (q2 := 20) 88 (gd rfl) rfl rfl rfl rfl ?_
  refine g_iconst 0 89 (gd rfl) rfl rfl ?_
  refine g_aload_n 90 (gd rfl) rfl rfl ?_
  refine g_getA (q2 := 6) 93 (gd rfl) rfl rfl rfl rfl ?_
  refine g_iconst 0 94 (gd rfl) rfl rfl ?_
  refine g_sipush 160 97 (gd rfl) rfl rfl ?_
  refine g_cpIr (q2 := 20) (q := 6) (n0 := 160) (n1 := 160) 100 (gd rfl) rfl rfl rfl rfl (Nat.le_of_ble_eq_true rfl) (cp_0 (in_c 0 rfl) rfl) (cp_0 (in_c 0 rfl) rfl) (cp_0 (in_c 160 rfl) rfl) (cp_1 (in_c 0 rfl) (in_c 160 rfl) rfl) (cp_1 (in_c 0 rfl) (in_c 160 rfl) rfl) hI81 rfl rfl rfl (fun s97 hI97 hF97 cp97 => ?_)
  refine g_aload_n 101 (gd rfl) rfl rfl ?_
  refine g_getA (q2 := 21) 104 (gd rfl) rfl rfl rfl rfl ?_
  refine g_iconst 0 105 (gd rfl) rfl rfl ?_
  refine g_aload_n 106 (gd rfl) rfl rfl ?_
  refine g_getA (q2 := 7) 109 (gd rfl) rfl rfl rfl rfl ?_
  refine g_iconst 0 110 (gd rfl) rfl rfl ?_
  refine g_sipush 160 113 (gd rfl) rfl rfl ?_
  refine g_cpIr (q2 := 21) (q := 7) (n0 := 160) (n1 := 160) 116 (gd rfl) rfl rfl rfl rfl (Nat.le_of_ble_eq_true rfl) (cp_0 (in_c 0 rfl) rfl) (cp_0 (in_c 0 rfl) rfl) (cp_0 (in_c 160 rfl) rfl) (cp_1 (in_c 0 rfl) (in_c 160 rfl) rfl) (cp_1 (in_c 0 rfl) (in_c 160 rfl) rfl) hI97 rfl rfl rfl (fun s113 hI113 hF113 cp113 => ?_)
  refine g_aload_n 117 (gd rfl) rfl rfl ?_
  refine g_getA (q2 := 22) 120 (gd rfl) rfl rfl rfl rfl ?_
  refine g_iconst 0 121 (gd rfl) rfl rfl ?_
  refine g_aload_n 122 (gd rfl) rfl rfl ?_
  refine g_getA (q2 := 8) 125 (gd rfl) rfl rfl rfl rfl ?_
  refine g_iconst 0 126 (gd rfl) rfl rfl ?_
  refine g_sipush 160 129 (gd rfl) rfl rfl ?_
  refine g_cpIr (q2 := 22) (q := 8) (n0 := 160) (n1 := 160) 132 (gd rfl) rfl rfl rfl rfl (Nat.le_of_ble_eq_true rfl) (cp_0 (in_c 0 rfl) rfl) (cp_0 (in_c 0 rfl) rfl) (cp_0 (in_c 160 rfl) rfl) (cp_1 (in_c 0 rfl) (in_c 160 rfl) rfl) (cp_1 (in_c 0 rfl) (in_c 160 rfl) rfl) hI113 rfl rfl rfl (fun s129 hI129 hF129 cp129 => ?_)
  have hI132 : Inv s129 := by have hFF : Fr fm_93_2_16 s s129 := (fr_tr rfl (fr_tr rfl (fr_tr rfl (fr_tr rfl (fr_tr rfl (fr_tr rfl (fr_sF rfl (fr_sF rfl (fr_sF rfl (fr_sF rfl (fr_sF rfl fr_rf))))) hF49) hF65) hF81) hF97) hF113) hF129); exact ⟨hI129, kk_un rfl rfl (by rw [← (show (Int32.ofInt (-1)) = s129.2.2.1 2 4 from fr_F (fr_F (fr_F (fr_F (fr_F (fr_F (s := (sF (sF (sF (sF (sF s 2 0 u_16_0) 2 1 u_16_1) 2 2 u_16_2) 2 3 u_16_3) 2 4 (Int32.ofInt (-1)))) (sF_get) hF49 rfl) hF65 rfl) hF81 rfl) hF97 rfl) hF113 rfl) hF129 rfl)]; rfl) (rng_F hI129 0 4000 rfl rfl).1, kk_g hI.2.2.1 hFF rfl rfl rfl rfl rfl, kk_s hI.2.2.2.1 hFF rfl, kk_r hI.2.2.2.2 hFF rfl⟩
  have n132 : ∀ p : Nat, p < 160 → s129.1 4 p = s.1 18 p := by exact fun p hp => by rw [hF129.1 4 rfl, hF113.1 4 rfl, hF97.1 4 rfl, hF81.1 4 rfl, cp65 p, cp_get (show p < (Int32.ofInt 160).toNatClampNeg from hp), hF49.1 18 rfl]; rfl
  have n132a : ∀ p : Nat, p < 160 → s129.1 5 p = s.1 19 p := by exact fun p hp => by rw [hF129.1 5 rfl, hF113.1 5 rfl, hF97.1 5 rfl, cp81 p, cp_get (show p < (Int32.ofInt 160).toNatClampNeg from hp), hF65.1 19 rfl, hF49.1 19 rfl]; rfl
  have n132b : s129.2.2.1 2 0 = s.2.2.1 16 0 := by exact ((show u_16_0 = s129.2.2.1 2 0 from fr_F (fr_F (fr_F (fr_F (fr_F (fr_F (s := (sF (sF (sF (sF (sF s 2 0 u_16_0) 2 1 u_16_1) 2 2 u_16_2) 2 3 u_16_3) 2 4 (Int32.ofInt (-1)))) (sF_ne rfl (sF_ne rfl (sF_ne rfl (sF_ne rfl (sF_get))))) hF49 rfl) hF65 rfl) hF81 rfl) hF97 rfl) hF113 rfl) hF129 rfl)).symm.trans e_16_0
  have n132c : s129.2.2.1 2 1 = s.2.2.1 16 1 := by exact ((show u_16_1 = s129.2.2.1 2 1 from fr_F (fr_F (fr_F (fr_F (fr_F (fr_F (s := (sF (sF (sF (sF (sF s 2 0 u_16_0) 2 1 u_16_1) 2 2 u_16_2) 2 3 u_16_3) 2 4 (Int32.ofInt (-1)))) (sF_ne rfl (sF_ne rfl (sF_ne rfl (sF_get)))) hF49 rfl) hF65 rfl) hF81 rfl) hF97 rfl) hF113 rfl) hF129 rfl)).symm.trans e_16_1
  have n132d : ∀ p : Nat, p < 32 → s129.1 3 p = s.1 17 p := by exact fun p hp => by rw [hF129.1 3 rfl, hF113.1 3 rfl, hF97.1 3 rfl, hF81.1 3 rfl, hF65.1 3 rfl, cp49 p, cp_get (show p < (Int32.ofInt 32).toNatClampNeg from hp)]; rfl
  have n132e : ∀ p : Nat, p < 160 → s129.1 6 p = s.1 20 p := by exact fun p hp => by rw [hF129.1 6 rfl, hF113.1 6 rfl, cp97 p, cp_get (show p < (Int32.ofInt 160).toNatClampNeg from hp), hF81.1 20 rfl, hF65.1 20 rfl, hF49.1 20 rfl]; rfl
  have n132f : ∀ p : Nat, p < 160 → s129.1 7 p = s.1 21 p := by exact fun p hp => by rw [hF129.1 7 rfl, cp113 p, cp_get (show p < (Int32.ofInt 160).toNatClampNeg from hp), hF97.1 21 rfl, hF81.1 21 rfl, hF65.1 21 rfl, hF49.1 21 rfl]; rfl
  have n132g : ∀ p : Nat, p < 160 → s129.1 8 p = s.1 22 p := by exact fun p hp => by rw [cp129 p, cp_get (show p < (Int32.ofInt 160).toNatClampNeg from hp), hF113.1 22 rfl, hF97.1 22 rfl, hF81.1 22 rfl, hF65.1 22 rfl, hF49.1 22 rfl]; rfl
  have n132h : s129.2.2.1 2 3 = s.2.2.1 16 3 := by exact ((show u_16_3 = s129.2.2.1 2 3 from fr_F (fr_F (fr_F (fr_F (fr_F (fr_F (s := (sF (sF (sF (sF (sF s 2 0 u_16_0) 2 1 u_16_1) 2 2 u_16_2) 2 3 u_16_3) 2 4 (Int32.ofInt (-1)))) (sF_ne rfl (sF_get)) hF49 rfl) hF65 rfl) hF81 rfl) hF97 rfl) hF113 rfl) hF129 rfl)).symm.trans e_16_3
  exact g_return (gd rfl) rfl (hP _ _ ⟨s129, hI132, (fr_tr rfl (fr_tr rfl (fr_tr rfl (fr_tr rfl (fr_tr rfl (fr_tr rfl (fr_sF rfl (fr_sF rfl (fr_sF rfl (fr_sF rfl (fr_sF rfl fr_rf))))) hF49) hF65) hF81) hF97) hF113) hF129), rfl, rfl, n132, n132a, n132b, n132c, n132d, n132e, n132f, n132g, n132h⟩)

theorem oc_298_109 : (Int32.ofInt (-1)).toInt = (-1) ∧ (Int32.ofInt 0).toInt = 0 ∧ (Int32.ofInt 1).toInt = 1 := ⟨rfl, rfl, rfl⟩
/-- GraphHouseModel.blame -/
theorem f_298 {Z : AmZ} {A : Nat → Nat} {s : GS} {ex : va_W} {d : Nat} {X : AmX} {x1 : Int32} {x2 : Int32} {u_109_23 : Int32} (hd : 1 ≤ d) (hI : Inv s) (h1 : In x1 1 5) (e_109_23 : u_109_23 = s.2.2.1 109 23) : GC Z d 298 [.ref (A 109), .int x1, .int x2] (WW Z A s ++ ex) 0 0 (fun v u => ∃ t : GS, Inv t ∧ Fr fm_298 s t ∧ (1 ≤ (t.2.2.1 109 23).toInt) ∧ v = none ∧ u = WW Z A t ++ ex ∧ (FBL s t (x1).toInt (x2).toInt)) X := by
  intro post xp hP hX
  refine g_enter2 (k := 298) (N := 900) (by first | exact dq1 hd rfl | exact dq0 hd rfl | exact dq2 hd rfl | exact dq3 hd rfl | omega) rfl (Nat.le_of_ble_eq_true rfl) ?_
  refine g_aload_n 1 (gd rfl) rfl rfl ?_
  refine g_getI 4 (gd rfl) rfl rfl rfl (fun z1 e1 => ?_)
  have q1 : u_109_23 = z1 := (e_109_23).trans e1.symm
  subst q1
  refine g_if_ne 7 17 (gd rfl) rfl rfl (fun c4 => ?_) (fun c4 => ?_)
  · skip
    have i4 := z_ne 1 9 c4 (inv_F hI 0 9 rfl e_109_23) rfl
    have n17 : FBL s s (x1).toInt (x2).toInt := by exact ⟨fun h => by exfalso; rw [← e_109_23] at h; (first | have a0 := in_u i4 | (have a0 := i4; unfold In at a0)); (first | have a1 := in_u h1 | (have a1 := h1; unfold In at a1)); have oc := oc_298_109; omega, fun _ => ⟨rfl, rfl⟩⟩
    have n17a : 1 ≤ (u_109_23).toInt := by (first | have a0 := in_u i4 | (have a0 := i4; unfold In at a0)); (first | have a1 := in_u h1 | (have a1 := h1; unfold In at a1)); have oc := oc_298_109; omega
    have n17b : 1 ≤ (s.2.2.1 109 23).toInt := by have b0 : u_109_23 = s.2.2.1 109 23 := e_109_23; rw [← b0]; exact n17a
    exact g_return (gd rfl) rfl (hP _ _ ⟨s, hI, fr_rf, n17b, rfl, rfl, n17⟩)
  · skip
    have i4 := z_eq 0 0 c4 (inv_F hI 0 9 rfl e_109_23) rfl
    refine g_aload_n 8 (gd rfl) rfl rfl ?_
    refine g_iload_n 9 (gd rfl) rfl rfl ?_
    refine g_putI 12 (gd rfl) rfl rfl rfl rfl ?_
    have hI9 := inv_sF (q := 109) (j := 23) hI rfl (in_w 0 9 h1 rfl)
    refine g_aload_n 13 (gd rfl) rfl rfl ?_
    refine g_iload_n 14 (gd rfl) rfl rfl ?_
    refine g_putI 17 (gd rfl) rfl rfl rfl rfl ?_
    have hI14 := inv_sF (q := 109) (j := 24) hI9 rfl (in_w (-2147483648) 2147483647 (i_rng x2) rfl)
    have n17 : FBL s (sF (sF s 109 23 x1) 109 24 x2) (x1).toInt (x2).toInt := by exact ⟨fun _ => ⟨congrArg Int32.toInt ((show x1 = (sF (sF s 109 23 x1) 109 24 x2).2.2.1 109 23 from sF_ne rfl (sF_get))).symm, congrArg Int32.toInt ((show x2 = (sF (sF s 109 23 x1) 109 24 x2).2.2.1 109 24 from sF_get)).symm⟩, fun h => by exfalso; rw [← e_109_23] at h; (first | have a0 := in_u i4 | (have a0 := i4; unfold In at a0)); (first | have a1 := in_u h1 | (have a1 := h1; unfold In at a1)); have oc := oc_298_109; omega⟩
    have n17a : 1 ≤ (x1).toInt := by (first | have a0 := in_u i4 | (have a0 := i4; unfold In at a0)); (first | have a1 := in_u h1 | (have a1 := h1; unfold In at a1)); have oc := oc_298_109; omega
    have n17b : 1 ≤ ((sF (sF s 109 23 x1) 109 24 x2).2.2.1 109 23).toInt := by have b0 : x1 = (sF (sF s 109 23 x1) 109 24 x2).2.2.1 109 23 := sF_ne rfl (sF_get); rw [← b0]; exact n17a
    exact g_return (gd rfl) rfl (hP _ _ ⟨(sF (sF s 109 23 x1) 109 24 x2), hI14, (fr_sF rfl (fr_sF rfl fr_rf)), n17b, rfl, rfl, n17⟩)

theorem oc_300_109 : (Int32.ofInt (-1)).toInt = (-1) ∧ (Int32.ofInt 0).toInt = 0 ∧ (Int32.ofInt 1).toInt = 1 ∧ (Int32.ofInt 3).toInt = 3 ∧ (Int32.ofInt 7).toInt = 7 ∧ (Int32.ofInt 48).toInt = 48 ∧ (Int32.ofInt 57).toInt = 57 ∧ (Int64.ofInt 0).toInt = 0 ∧ (Int64.ofInt 10).toInt = 10 ∧ (Int64.ofInt 48).toInt = 48 := ⟨rfl, rfl, rfl, rfl, rfl, rfl, rfl, rfl, rfl, rfl⟩
/-- GraphHouseModel.readNumber -/
theorem f_300 {Z : AmZ} {A : Nat → Nat} {s : GS} {ex : va_W} {d : Nat} {X : AmX} {x1 : Int32} {u_109_27 : Int32} {u_109_22 : Int32} (hd : 3 ≤ d) (hI : Inv s) (h1 : In x1 7 7) (e_109_27 : u_109_27 = s.2.2.1 109 27) (e_109_22 : u_109_22 = s.2.2.1 109 22) (p_0 : (u_109_27).toInt < (u_109_22).toInt) (q_0 : 48 ≤ (s.1 125 (s.2.2.1 109 27).toNatClampNeg).toInt ∧ (s.1 125 (s.2.2.1 109 27).toNatClampNeg).toInt ≤ 57) : GC Z d 300 [.ref (A 109), .int x1] (WW Z A s ++ ex) 0 0 (fun v u => ∃ t : GS, Inv t ∧ Fr fm_300 s t ∧ ((t.2.2.1 109 27).toInt ≤ (t.2.2.1 109 22).toInt) ∧ ((s.2.2.1 109 27).toInt + 1 ≤ (t.2.2.1 109 27).toInt) ∧ v = none ∧ u = WW Z A t ++ ex ∧ (tkG (s.1 125) (s.2.2.1 109 22).toInt.toNat (s.2.2.1 109 27).toInt.toNat (t.2.2.1 109 27).toInt.toNat ∧ (((t.2.2.1 109 27).toInt.toNat - (s.2.2.1 109 27).toInt.toNat ≤ 7 ∧ (t.2.2.2.1 109 31).toInt = tkN (s.1 125) (s.2.2.1 109 27).toInt.toNat ((t.2.2.1 109 27).toInt.toNat - (s.2.2.1 109 27).toInt.toNat) ∧ FSM s t) ∨ (7 < (t.2.2.1 109 27).toInt.toNat - (s.2.2.1 109 27).toInt.toNat ∧ FBL s t 3 (s.2.2.1 109 29).toInt)))) X := by
  intro post xp hP hX
  have ro_109_22 := inv_F hI 0 1000 rfl e_109_22
  obtain ⟨u_109_29, e_109_29⟩ : ∃ w, w = s.2.2.1 109 29 := ⟨_, rfl⟩
  have ro_109_29 := inv_F hI 0 1000 rfl e_109_29
  have ct10 : ∀ (k10 : Nat) (sc10 : GS) (y10_2 : Int32) (w10_109_27 : Int32), Inv sc10 → Fr fm_300 s sc10 → (In y10_2 0 1000) → (w10_109_27 = sc10.2.2.1 109 27) → ((w10_109_27).toInt ≤ (u_109_22).toInt) → ((u_109_27).toInt ≤ (w10_109_27).toInt) → ((y10_2).toInt = (u_109_27).toInt) → ((∀ i : Nat, (s.2.2.1 109 27).toInt.toNat ≤ i → (i : Int) < (w10_109_27).toInt → tkD (s.1 125 i)) ∧ ((w10_109_27).toInt.toNat - (s.2.2.1 109 27).toInt.toNat ≤ 7 → (sc10.2.2.2.1 109 31).toInt = tkN (s.1 125) (s.2.2.1 109 27).toInt.toNat ((w10_109_27).toInt.toNat - (s.2.2.1 109 27).toInt.toNat))) → (FSM s sc10) → (u_109_22).toInt - (w10_109_27).toInt < (k10 : Int) → GG Z (d - 1) 300 post (gx xp) (1 + k10 * 900) 10 (fun j => xlook j [(0, .ref (A 109)), (1, .int x1), (2, .int y10_2)]) [] (WW Z A sc10 ++ ex) 0 0 := by
    intro k10
    induction k10 with
    | zero => intro sc10 y10_2 w10_109_27 hIc10 hFc10 j10_2 v10_109_27 n10_0 n10_1 n10_2 g10_0 g10_1 mm10; exfalso; (first | have a0 := in_u h1 | (have a0 := h1; unfold In at a0)); (first | have a1 := in_u ro_109_29 | (have a1 := ro_109_29; unfold In at a1)); (first | have a2 := in_u ro_109_22 | (have a2 := ro_109_22; unfold In at a2)); (first | have a3 := in_u ((inv_F hIc10 0 1000 rfl v10_109_27)) | (have a3 := (inv_F hIc10 0 1000 rfl v10_109_27); unfold In at a3)); have a4 := j10_2; unfold In at a4; have oc := oc_300_109; omega
    | succ k10 ih10 =>
      intro sc10 y10_2 w10_109_27 hIc10 hFc10 j10_2 v10_109_27 n10_0 n10_1 n10_2 g10_0 g10_1 mm10
      refine gg_w (M := 1 + k10 * 900 + 900) gws ?_
      refine g_aload_n 11 (gd rfl) rfl rfl ?_
      refine g_getI 14 (gd rfl) rfl rfl rfl (fun z11 e11 => ?_)
      have q11 : w10_109_27 = z11 := (v10_109_27).trans e11.symm
      subst q11
      refine g_aload_n 15 (gd rfl) rfl rfl ?_
      refine g_getI 18 (gd rfl) rfl rfl rfl (fun z15 e15 => ?_)
      have q15 : u_109_22 = z15 := (fr_F e_109_22 hFc10 rfl).trans e15.symm
      subst q15
      refine g_cmp_ge 21 93 (gd rfl) rfl rfl (fun c18 => ?_) (fun c18 => ?_)
      · skip
        have hq93 : (u_109_27).toInt + 1 ≤ (w10_109_27).toInt := (by first | ((first | have a0 := in_u h1 | (have a0 := h1; unfold In at a0)); (first | have a1 := in_u ro_109_29 | (have a1 := ro_109_29; unfold In at a1)); (first | have a2 := in_u ro_109_22 | (have a2 := ro_109_22; unfold In at a2)); (first | have a3 := in_u ((inv_F hIc10 0 1000 rfl v10_109_27)) | (have a3 := (inv_F hIc10 0 1000 rfl v10_109_27); unfold In at a3)); (first | have a4 := in_u j10_2 | (have a4 := j10_2; unfold In at a4)); have oc := oc_300_109; omega) | (have hi := i30x3; unfold In at hi; (first | have a0 := in_u h1 | (have a0 := h1; unfold In at a0)); (first | have a1 := in_u ro_109_29 | (have a1 := ro_109_29; unfold In at a1)); (first | have a2 := in_u ro_109_22 | (have a2 := ro_109_22; unfold In at a2)); (first | have a3 := in_u ((inv_F hIc10 0 1000 rfl v10_109_27)) | (have a3 := (inv_F hIc10 0 1000 rfl v10_109_27); unfold In at a3)); (first | have a4 := in_u j10_2 | (have a4 := j10_2; unfold In at a4)); have oc := oc_300_109; omega) | (have hi := i30x9; unfold In at hi; (first | have a0 := in_u h1 | (have a0 := h1; unfold In at a0)); (first | have a1 := in_u ro_109_29 | (have a1 := ro_109_29; unfold In at a1)); (first | have a2 := in_u ro_109_22 | (have a2 := ro_109_22; unfold In at a2)); (first | have a3 := in_u ((inv_F hIc10 0 1000 rfl v10_109_27)) | (have a3 := (inv_F hIc10 0 1000 rfl v10_109_27); unfold In at a3)); (first | have a4 := in_u j10_2 | (have a4 := j10_2; unfold In at a4)); have oc := oc_300_109; omega))
        refine g_aload_n 94 (gd rfl) rfl rfl ?_
        refine g_getI 97 (gd rfl) rfl rfl rfl (fun z94 e94 => ?_)
        have q94 : w10_109_27 = z94 := (v10_109_27).trans e94.symm
        subst q94
        refine g_iload_n 98 (gd rfl) rfl rfl ?_
        refine g_isub 99 (gd rfl) rfl (fun z98 e98 => ?_)
        have i98 := in_sub (-1000) 1000 e98 (inv_F hIc10 0 1000 rfl v10_109_27) j10_2 rfl rfl
        refine g_iload_n 100 (gd rfl) rfl rfl ?_
        refine g_cmp_le 103 122 (gd rfl) rfl rfl (fun c100 => ?_) (fun c100 => ?_)
        · skip
          have i100 := r_le1 (-1000) 7 c100 i98 h1 rfl
          have n122 : tkG (s.1 125) (s.2.2.1 109 22).toInt.toNat (s.2.2.1 109 27).toInt.toNat (sc10.2.2.1 109 27).toInt.toNat ∧ (((sc10.2.2.1 109 27).toInt.toNat - (s.2.2.1 109 27).toInt.toNat ≤ 7 ∧ (sc10.2.2.2.1 109 31).toInt = tkN (s.1 125) (s.2.2.1 109 27).toInt.toNat ((sc10.2.2.1 109 27).toInt.toNat - (s.2.2.1 109 27).toInt.toNat) ∧ FSM s sc10) ∨ (7 < (sc10.2.2.1 109 27).toInt.toNat - (s.2.2.1 109 27).toInt.toNat ∧ FBL s sc10 3 (s.2.2.1 109 29).toInt)) := by have g9 := g10_0; rw [← e_109_27] at g9; have hw : w10_109_27.toNatClampNeg = w10_109_27.toInt.toNat := rfl; rw [← (show w10_109_27 = sc10.2.2.1 109 27 from v10_109_27), ← e_109_22, ← e_109_27]; refine ⟨⟨by (first | have a0 := in_u h1 | (have a0 := h1; unfold In at a0)); (first | have a1 := in_u ro_109_29 | (have a1 := ro_109_29; unfold In at a1)); (first | have a2 := in_u ro_109_22 | (have a2 := ro_109_22; unfold In at a2)); (first | have a3 := in_u ((inv_F hIc10 0 1000 rfl v10_109_27)) | (have a3 := (inv_F hIc10 0 1000 rfl v10_109_27); unfold In at a3)); (first | have a4 := in_u j10_2 | (have a4 := j10_2; unfold In at a4)); (first | have a5 := in_u i100 | (have a5 := i100; unfold In at a5)); have a6 := t_sub e98 (inv_F hIc10 0 1000 rfl v10_109_27) j10_2 rfl; have oc := oc_300_109; omega, by (first | have a0 := in_u h1 | (have a0 := h1; unfold In at a0)); (first | have a1 := in_u ro_109_29 | (have a1 := ro_109_29; unfold In at a1)); (first | have a2 := in_u ro_109_22 | (have a2 := ro_109_22; unfold In at a2)); (first | have a3 := in_u ((inv_F hIc10 0 1000 rfl v10_109_27)) | (have a3 := (inv_F hIc10 0 1000 rfl v10_109_27); unfold In at a3)); (first | have a4 := in_u j10_2 | (have a4 := j10_2; unfold In at a4)); (first | have a5 := in_u i100 | (have a5 := i100; unfold In at a5)); have a6 := t_sub e98 (inv_F hIc10 0 1000 rfl v10_109_27) j10_2 rfl; have oc := oc_300_109; omega, fun i a b => g9.1 i a (by (first | have a0 := in_u h1 | (have a0 := h1; unfold In at a0)); (first | have a1 := in_u ro_109_29 | (have a1 := ro_109_29; unfold In at a1)); (first | have a2 := in_u ro_109_22 | (have a2 := ro_109_22; unfold In at a2)); (first | have a3 := in_u ((inv_F hIc10 0 1000 rfl v10_109_27)) | (have a3 := (inv_F hIc10 0 1000 rfl v10_109_27); unfold In at a3)); (first | have a4 := in_u j10_2 | (have a4 := j10_2; unfold In at a4)); (first | have a5 := in_u i100 | (have a5 := i100; unfold In at a5)); have a6 := t_sub e98 (inv_F hIc10 0 1000 rfl v10_109_27) j10_2 rfl; have oc := oc_300_109; omega), (fun h => absurd h (by (first | have a0 := in_u h1 | (have a0 := h1; unfold In at a0)); (first | have a1 := in_u ro_109_29 | (have a1 := ro_109_29; unfold In at a1)); (first | have a2 := in_u ro_109_22 | (have a2 := ro_109_22; unfold In at a2)); (first | have a3 := in_u ((inv_F hIc10 0 1000 rfl v10_109_27)) | (have a3 := (inv_F hIc10 0 1000 rfl v10_109_27); unfold In at a3)); (first | have a4 := in_u j10_2 | (have a4 := j10_2; unfold In at a4)); (first | have a5 := in_u i100 | (have a5 := i100; unfold In at a5)); have a6 := t_sub e98 (inv_F hIc10 0 1000 rfl v10_109_27) j10_2 rfl; have oc := oc_300_109; omega))⟩, ?_⟩; exact Or.inl ⟨by (first | have a0 := in_u h1 | (have a0 := h1; unfold In at a0)); (first | have a1 := in_u ro_109_29 | (have a1 := ro_109_29; unfold In at a1)); (first | have a2 := in_u ro_109_22 | (have a2 := ro_109_22; unfold In at a2)); (first | have a3 := in_u ((inv_F hIc10 0 1000 rfl v10_109_27)) | (have a3 := (inv_F hIc10 0 1000 rfl v10_109_27); unfold In at a3)); (first | have a4 := in_u j10_2 | (have a4 := j10_2; unfold In at a4)); (first | have a5 := in_u i100 | (have a5 := i100; unfold In at a5)); have a6 := t_sub e98 (inv_F hIc10 0 1000 rfl v10_109_27) j10_2 rfl; have oc := oc_300_109; omega, g9.2 (by (first | have a0 := in_u h1 | (have a0 := h1; unfold In at a0)); (first | have a1 := in_u ro_109_29 | (have a1 := ro_109_29; unfold In at a1)); (first | have a2 := in_u ro_109_22 | (have a2 := ro_109_22; unfold In at a2)); (first | have a3 := in_u ((inv_F hIc10 0 1000 rfl v10_109_27)) | (have a3 := (inv_F hIc10 0 1000 rfl v10_109_27); unfold In at a3)); (first | have a4 := in_u j10_2 | (have a4 := j10_2; unfold In at a4)); (first | have a5 := in_u i100 | (have a5 := i100; unfold In at a5)); have a6 := t_sub e98 (inv_F hIc10 0 1000 rfl v10_109_27) j10_2 rfl; have oc := oc_300_109; omega), g10_1⟩
          have n122a : (w10_109_27).toInt ≤ (u_109_22).toInt := by first | exact n10_0 | ((first | have a0 := in_u h1 | (have a0 := h1; unfold In at a0)); (first | have a1 := in_u ro_109_29 | (have a1 := ro_109_29; unfold In at a1)); (first | have a2 := in_u ro_109_22 | (have a2 := ro_109_22; unfold In at a2)); (first | have a3 := in_u ((inv_F hIc10 0 1000 rfl v10_109_27)) | (have a3 := (inv_F hIc10 0 1000 rfl v10_109_27); unfold In at a3)); (first | have a4 := in_u j10_2 | (have a4 := j10_2; unfold In at a4)); (first | have a5 := in_u i100 | (have a5 := i100; unfold In at a5)); have a6 := t_sub e98 (inv_F hIc10 0 1000 rfl v10_109_27) j10_2 rfl; have oc := oc_300_109; omega)
          have n122b : (sc10.2.2.1 109 27).toInt ≤ (sc10.2.2.1 109 22).toInt := by have b0 : w10_109_27 = sc10.2.2.1 109 27 := v10_109_27; have b1 : u_109_22 = sc10.2.2.1 109 22 := fr_F e_109_22 hFc10 rfl; rw [← b0, ← b1]; exact n122a
          have n122c : (u_109_27).toInt + 1 ≤ (w10_109_27).toInt := by (first | have a0 := in_u h1 | (have a0 := h1; unfold In at a0)); (first | have a1 := in_u ro_109_29 | (have a1 := ro_109_29; unfold In at a1)); (first | have a2 := in_u ro_109_22 | (have a2 := ro_109_22; unfold In at a2)); (first | have a3 := in_u ((inv_F hIc10 0 1000 rfl v10_109_27)) | (have a3 := (inv_F hIc10 0 1000 rfl v10_109_27); unfold In at a3)); (first | have a4 := in_u j10_2 | (have a4 := j10_2; unfold In at a4)); (first | have a5 := in_u i100 | (have a5 := i100; unfold In at a5)); have a6 := t_sub e98 (inv_F hIc10 0 1000 rfl v10_109_27) j10_2 rfl; have oc := oc_300_109; omega
          have n122d : (s.2.2.1 109 27).toInt + 1 ≤ (sc10.2.2.1 109 27).toInt := by have b0 : w10_109_27 = sc10.2.2.1 109 27 := v10_109_27; first | (rw [← b0, ← e_109_27]; exact n122c) | (rw [← b0]; exact n122c)
          exact g_return (gd rfl) rfl (hP _ _ ⟨sc10, hIc10, hFc10, n122b, n122d, rfl, rfl, n122⟩)
        · skip
          have i100 := r_lt2 8 1000 c100 h1 i98 rfl
          refine g_aload_n 104 (gd rfl) rfl rfl ?_
          refine g_iload_n 105 (gd rfl) rfl rfl ?_
          refine g_bipush 7 107 (gd rfl) rfl rfl ?_
          refine g_cmp_ne 110 114 (gd rfl) rfl rfl (fun c107 => ?_) (fun c107 => ?_)
          · skip
            exact n_ne c107 h1 (in_c 7 rfl) rfl
          · skip
            refine g_iconst 3 111 (gd rfl) rfl rfl ?_
            refine g_goto 115 (gd rfl) rfl ?_
            refine g_aload_n 116 (gd rfl) rfl rfl ?_
            refine g_getI 119 (gd rfl) rfl rfl rfl (fun z116 e116 => ?_)
            have q116 : u_109_29 = z116 := (fr_F e_109_29 hFc10 rfl).trans e116.symm
            subst q116
            refine g_callv (X := _) (As := [.int (Int32.ofInt 3), .int u_109_29]) (r := []) (b := A 109) (q := 109) 122 (gd rfl) rfl rfl rfl rfl rfl (ww_o rfl) (Nat.le_of_ble_eq_true rfl) (Nat.zero_le _) (Nat.zero_le _) (f_298 (by first | exact dq1 hd rfl | exact dq0 hd rfl | exact dq2 hd rfl | exact dq3 hd rfl | omega) hIc10 (in_w 1 5 (in_c 3 rfl) rfl) rfl) (fun e u h => h) (fun v u h => ?_)
            obtain ⟨s119, hI119, hF119, n119, rfl, rfl, p119⟩ := h
            obtain ⟨z119a, e119⟩ : ∃ w, w = s119.2.2.1 109 23 := ⟨_, rfl⟩
            have i119a := inv_F hI119 0 9 rfl e119
            rw [← (show z119a = s119.2.2.1 109 23 from e119)] at n119
            show GG _ _ _ _ _ _ _ _ [] _ _ _
            have n122 : tkG (s.1 125) (s.2.2.1 109 22).toInt.toNat (s.2.2.1 109 27).toInt.toNat (s119.2.2.1 109 27).toInt.toNat ∧ (((s119.2.2.1 109 27).toInt.toNat - (s.2.2.1 109 27).toInt.toNat ≤ 7 ∧ (s119.2.2.2.1 109 31).toInt = tkN (s.1 125) (s.2.2.1 109 27).toInt.toNat ((s119.2.2.1 109 27).toInt.toNat - (s.2.2.1 109 27).toInt.toNat) ∧ FSM s s119) ∨ (7 < (s119.2.2.1 109 27).toInt.toNat - (s.2.2.1 109 27).toInt.toNat ∧ FBL s s119 3 (s.2.2.1 109 29).toInt)) := by have g9 := g10_0; rw [← e_109_27] at g9; have hw : w10_109_27.toNatClampNeg = w10_109_27.toInt.toNat := rfl; rw [← (show w10_109_27 = s119.2.2.1 109 27 from fr_F (v10_109_27) hF119 rfl), ← e_109_22, ← e_109_27]; refine ⟨⟨by (first | have a0 := in_u h1 | (have a0 := h1; unfold In at a0)); (first | have a1 := in_u ro_109_29 | (have a1 := ro_109_29; unfold In at a1)); (first | have a2 := in_u ro_109_22 | (have a2 := ro_109_22; unfold In at a2)); (first | have a3 := in_u ((inv_F hIc10 0 1000 rfl v10_109_27)) | (have a3 := (inv_F hIc10 0 1000 rfl v10_109_27); unfold In at a3)); (first | have a4 := in_u j10_2 | (have a4 := j10_2; unfold In at a4)); (first | have a5 := in_u i119a | (have a5 := i119a; unfold In at a5)); (first | have a6 := in_u i100 | (have a6 := i100; unfold In at a6)); have a7 := t_sub e98 (inv_F hIc10 0 1000 rfl v10_109_27) j10_2 rfl; have oc := oc_300_109; omega, by (first | have a0 := in_u h1 | (have a0 := h1; unfold In at a0)); (first | have a1 := in_u ro_109_29 | (have a1 := ro_109_29; unfold In at a1)); (first | have a2 := in_u ro_109_22 | (have a2 := ro_109_22; unfold In at a2)); (first | have a3 := in_u ((inv_F hIc10 0 1000 rfl v10_109_27)) | (have a3 := (inv_F hIc10 0 1000 rfl v10_109_27); unfold In at a3)); (first | have a4 := in_u j10_2 | (have a4 := j10_2; unfold In at a4)); (first | have a5 := in_u i119a | (have a5 := i119a; unfold In at a5)); (first | have a6 := in_u i100 | (have a6 := i100; unfold In at a6)); have a7 := t_sub e98 (inv_F hIc10 0 1000 rfl v10_109_27) j10_2 rfl; have oc := oc_300_109; omega, fun i a b => g9.1 i a (by (first | have a0 := in_u h1 | (have a0 := h1; unfold In at a0)); (first | have a1 := in_u ro_109_29 | (have a1 := ro_109_29; unfold In at a1)); (first | have a2 := in_u ro_109_22 | (have a2 := ro_109_22; unfold In at a2)); (first | have a3 := in_u ((inv_F hIc10 0 1000 rfl v10_109_27)) | (have a3 := (inv_F hIc10 0 1000 rfl v10_109_27); unfold In at a3)); (first | have a4 := in_u j10_2 | (have a4 := j10_2; unfold In at a4)); (first | have a5 := in_u i119a | (have a5 := i119a; unfold In at a5)); (first | have a6 := in_u i100 | (have a6 := i100; unfold In at a6)); have a7 := t_sub e98 (inv_F hIc10 0 1000 rfl v10_109_27) j10_2 rfl; have oc := oc_300_109; omega), (fun h => absurd h (by (first | have a0 := in_u h1 | (have a0 := h1; unfold In at a0)); (first | have a1 := in_u ro_109_29 | (have a1 := ro_109_29; unfold In at a1)); (first | have a2 := in_u ro_109_22 | (have a2 := ro_109_22; unfold In at a2)); (first | have a3 := in_u ((inv_F hIc10 0 1000 rfl v10_109_27)) | (have a3 := (inv_F hIc10 0 1000 rfl v10_109_27); unfold In at a3)); (first | have a4 := in_u j10_2 | (have a4 := j10_2; unfold In at a4)); (first | have a5 := in_u i119a | (have a5 := i119a; unfold In at a5)); (first | have a6 := in_u i100 | (have a6 := i100; unfold In at a6)); have a7 := t_sub e98 (inv_F hIc10 0 1000 rfl v10_109_27) j10_2 rfl; have oc := oc_300_109; omega))⟩, ?_⟩; refine Or.inr ⟨by (first | have a0 := in_u h1 | (have a0 := h1; unfold In at a0)); (first | have a1 := in_u ro_109_29 | (have a1 := ro_109_29; unfold In at a1)); (first | have a2 := in_u ro_109_22 | (have a2 := ro_109_22; unfold In at a2)); (first | have a3 := in_u ((inv_F hIc10 0 1000 rfl v10_109_27)) | (have a3 := (inv_F hIc10 0 1000 rfl v10_109_27); unfold In at a3)); (first | have a4 := in_u j10_2 | (have a4 := j10_2; unfold In at a4)); (first | have a5 := in_u i119a | (have a5 := i119a; unfold In at a5)); (first | have a6 := in_u i100 | (have a6 := i100; unfold In at a6)); have a7 := t_sub e98 (inv_F hIc10 0 1000 rfl v10_109_27) j10_2 rfl; have oc := oc_300_109; omega, ?_⟩; have hb := p119; unfold FBL FSM at hb ⊢; rw [g10_1.1, g10_1.2] at hb; rw [← e_109_29]; first | exact hb | (exfalso; (first | have a0 := in_u h1 | (have a0 := h1; unfold In at a0)); (first | have a1 := in_u ro_109_29 | (have a1 := ro_109_29; unfold In at a1)); (first | have a2 := in_u ro_109_22 | (have a2 := ro_109_22; unfold In at a2)); (first | have a3 := in_u ((inv_F hIc10 0 1000 rfl v10_109_27)) | (have a3 := (inv_F hIc10 0 1000 rfl v10_109_27); unfold In at a3)); (first | have a4 := in_u j10_2 | (have a4 := j10_2; unfold In at a4)); (first | have a5 := in_u i119a | (have a5 := i119a; unfold In at a5)); (first | have a6 := in_u i100 | (have a6 := i100; unfold In at a6)); have a7 := t_sub e98 (inv_F hIc10 0 1000 rfl v10_109_27) j10_2 rfl; have oc := oc_300_109; omega)
            have n122a : (w10_109_27).toInt ≤ (u_109_22).toInt := by first | exact n10_0 | ((first | have a0 := in_u h1 | (have a0 := h1; unfold In at a0)); (first | have a1 := in_u ro_109_29 | (have a1 := ro_109_29; unfold In at a1)); (first | have a2 := in_u ro_109_22 | (have a2 := ro_109_22; unfold In at a2)); (first | have a3 := in_u ((inv_F hIc10 0 1000 rfl v10_109_27)) | (have a3 := (inv_F hIc10 0 1000 rfl v10_109_27); unfold In at a3)); (first | have a4 := in_u j10_2 | (have a4 := j10_2; unfold In at a4)); (first | have a5 := in_u i119a | (have a5 := i119a; unfold In at a5)); (first | have a6 := in_u i100 | (have a6 := i100; unfold In at a6)); have a7 := t_sub e98 (inv_F hIc10 0 1000 rfl v10_109_27) j10_2 rfl; have oc := oc_300_109; omega)
            have n122b : (s119.2.2.1 109 27).toInt ≤ (s119.2.2.1 109 22).toInt := by have b0 : w10_109_27 = s119.2.2.1 109 27 := fr_F (v10_109_27) hF119 rfl; have b1 : u_109_22 = s119.2.2.1 109 22 := fr_F (fr_F e_109_22 hFc10 rfl) hF119 rfl; rw [← b0, ← b1]; exact n122a
            have n122c : (u_109_27).toInt + 1 ≤ (w10_109_27).toInt := by (first | have a0 := in_u h1 | (have a0 := h1; unfold In at a0)); (first | have a1 := in_u ro_109_29 | (have a1 := ro_109_29; unfold In at a1)); (first | have a2 := in_u ro_109_22 | (have a2 := ro_109_22; unfold In at a2)); (first | have a3 := in_u ((inv_F hIc10 0 1000 rfl v10_109_27)) | (have a3 := (inv_F hIc10 0 1000 rfl v10_109_27); unfold In at a3)); (first | have a4 := in_u j10_2 | (have a4 := j10_2; unfold In at a4)); (first | have a5 := in_u i119a | (have a5 := i119a; unfold In at a5)); (first | have a6 := in_u i100 | (have a6 := i100; unfold In at a6)); have a7 := t_sub e98 (inv_F hIc10 0 1000 rfl v10_109_27) j10_2 rfl; have oc := oc_300_109; omega
            have n122d : (s.2.2.1 109 27).toInt + 1 ≤ (s119.2.2.1 109 27).toInt := by have b0 : w10_109_27 = s119.2.2.1 109 27 := fr_F (v10_109_27) hF119 rfl; first | (rw [← b0, ← e_109_27]; exact n122c) | (rw [← b0]; exact n122c)
            exact g_return (gd rfl) rfl (hP _ _ ⟨s119, hI119, (fr_tr rfl hFc10 hF119), n122b, n122d, rfl, rfl, n122⟩)
      · skip
        have i18 := r_lt1 0 999 c18 (inv_F hIc10 0 1000 rfl v10_109_27) ro_109_22 rfl
        have i18a := r_lt2 1 1000 c18 (inv_F hIc10 0 1000 rfl v10_109_27) ro_109_22 rfl
        refine g_aload_n 22 (gd rfl) rfl rfl ?_
        refine g_getA (q2 := 125) 25 (gd rfl) rfl rfl rfl rfl ?_
        refine g_aload_n 26 (gd rfl) rfl rfl ?_
        refine g_getI 29 (gd rfl) rfl rfl rfl (fun z26 e26 => ?_)
        have q26 : w10_109_27 = z26 := (v10_109_27).trans e26.symm
        subst q26
        refine g_iaload 30 (gd rfl) rfl (n := 1000) rfl (in_ix i18 rfl) (fun z29 e29 => ?_)
        have i29 := inv_I hIc10 (n := 1000) (t := 0) 0 126 rfl (in_ix i18 rfl) rfl e29
        have hd : w10_109_27.toInt = u_109_27.toInt → 48 ≤ (z29).toInt ∧ (z29).toInt ≤ 57 := (fun h => by rw [e29, Int32.toInt_inj.mp h, hFc10.1 125 rfl, e_109_27]; exact q_0)
        refine g_calls (As := [.int z29]) (r := []) 33 (gd rfl) rfl rfl rfl rfl rfl (Nat.le_of_ble_eq_true rfl) (mc := 0) (ms := 0) (Nat.zero_le _) (Nat.zero_le _) (P := fun v u => _) ?_ (fun v u h => h)
        intro po30 xx30 hp30 hx30
        refine g_enter2 (k := 297) (N := 300) (by first | exact dq1 hd rfl | exact dq0 hd rfl | exact dq2 hd rfl | exact dq3 hd rfl | omega) rfl (Nat.le_of_ble_eq_true rfl) ?_
        refine g_iload_n 1 (gd rfl) rfl rfl ?_
        refine g_bipush 48 3 (gd rfl) rfl rfl ?_
        refine g_cmp_lt 6 16 (gd rfl) rfl rfl (fun c30x3 => ?_) (fun c30x3 => ?_)
        · skip
          have i30x3 := r_lt1 0 47 c30x3 i29 (in_c 48 rfl) rfl
          refine g_iconst 0 17 (gd rfl) rfl rfl ?_
          refine g_ireturn (gd rfl) rfl (nb01 (in_w 0 1 (in_c 0 rfl) rfl)) (hp30 _ _ ?_)
          show GG _ _ _ _ _ _ _ _ [.int (Int32.ofInt 0)] _ _ _
          refine g_if_eq 36 93 (gd rfl) rfl rfl (fun c33 => ?_) (fun c33 => ?_)
          · skip
            have hq93 : (u_109_27).toInt + 1 ≤ (w10_109_27).toInt := (by first | ((first | have a0 := in_u h1 | (have a0 := h1; unfold In at a0)); (first | have a1 := in_u ro_109_29 | (have a1 := ro_109_29; unfold In at a1)); (first | have a2 := in_u i18a | (have a2 := i18a; unfold In at a2)); (first | have a3 := in_u i18 | (have a3 := i18; unfold In at a3)); (first | have a4 := in_u j10_2 | (have a4 := j10_2; unfold In at a4)); have oc := oc_300_109; omega) | (have hi := i30x3; unfold In at hi; (first | have a0 := in_u h1 | (have a0 := h1; unfold In at a0)); (first | have a1 := in_u ro_109_29 | (have a1 := ro_109_29; unfold In at a1)); (first | have a2 := in_u i18a | (have a2 := i18a; unfold In at a2)); (first | have a3 := in_u i18 | (have a3 := i18; unfold In at a3)); (first | have a4 := in_u j10_2 | (have a4 := j10_2; unfold In at a4)); have oc := oc_300_109; omega) | (have hi := i30x9; unfold In at hi; (first | have a0 := in_u h1 | (have a0 := h1; unfold In at a0)); (first | have a1 := in_u ro_109_29 | (have a1 := ro_109_29; unfold In at a1)); (first | have a2 := in_u i18a | (have a2 := i18a; unfold In at a2)); (first | have a3 := in_u i18 | (have a3 := i18; unfold In at a3)); (first | have a4 := in_u j10_2 | (have a4 := j10_2; unfold In at a4)); have oc := oc_300_109; omega))
            refine g_aload_n 94 (gd rfl) rfl rfl ?_
            refine g_getI 97 (gd rfl) rfl rfl rfl (fun z94 e94 => ?_)
            have q94 : w10_109_27 = z94 := (v10_109_27).trans e94.symm
            subst q94
            refine g_iload_n 98 (gd rfl) rfl rfl ?_
            refine g_isub 99 (gd rfl) rfl (fun z98 e98 => ?_)
            have i98 := in_sub (-1000) 999 e98 i18 j10_2 rfl rfl
            refine g_iload_n 100 (gd rfl) rfl rfl ?_
            refine g_cmp_le 103 122 (gd rfl) rfl rfl (fun c100 => ?_) (fun c100 => ?_)
            · skip
              have i100 := r_le1 (-1000) 7 c100 i98 h1 rfl
              have n122 : tkG (s.1 125) (s.2.2.1 109 22).toInt.toNat (s.2.2.1 109 27).toInt.toNat (sc10.2.2.1 109 27).toInt.toNat ∧ (((sc10.2.2.1 109 27).toInt.toNat - (s.2.2.1 109 27).toInt.toNat ≤ 7 ∧ (sc10.2.2.2.1 109 31).toInt = tkN (s.1 125) (s.2.2.1 109 27).toInt.toNat ((sc10.2.2.1 109 27).toInt.toNat - (s.2.2.1 109 27).toInt.toNat) ∧ FSM s sc10) ∨ (7 < (sc10.2.2.1 109 27).toInt.toNat - (s.2.2.1 109 27).toInt.toNat ∧ FBL s sc10 3 (s.2.2.1 109 29).toInt)) := by have g9 := g10_0; rw [← e_109_27] at g9; have hw : w10_109_27.toNatClampNeg = w10_109_27.toInt.toNat := rfl; rw [← (show w10_109_27 = sc10.2.2.1 109 27 from v10_109_27), ← e_109_22, ← e_109_27]; refine ⟨⟨by (first | have a0 := in_u h1 | (have a0 := h1; unfold In at a0)); (first | have a1 := in_u ro_109_29 | (have a1 := ro_109_29; unfold In at a1)); (first | have a2 := in_u i18a | (have a2 := i18a; unfold In at a2)); (first | have a3 := in_u i18 | (have a3 := i18; unfold In at a3)); (first | have a4 := in_u j10_2 | (have a4 := j10_2; unfold In at a4)); (first | have a5 := in_u i100 | (have a5 := i100; unfold In at a5)); have a6 := t_sub e98 i18 j10_2 rfl; have oc := oc_300_109; omega, by (first | have a0 := in_u h1 | (have a0 := h1; unfold In at a0)); (first | have a1 := in_u ro_109_29 | (have a1 := ro_109_29; unfold In at a1)); (first | have a2 := in_u i18a | (have a2 := i18a; unfold In at a2)); (first | have a3 := in_u i18 | (have a3 := i18; unfold In at a3)); (first | have a4 := in_u j10_2 | (have a4 := j10_2; unfold In at a4)); (first | have a5 := in_u i100 | (have a5 := i100; unfold In at a5)); have a6 := t_sub e98 i18 j10_2 rfl; have oc := oc_300_109; omega, fun i a b => g9.1 i a (by (first | have a0 := in_u h1 | (have a0 := h1; unfold In at a0)); (first | have a1 := in_u ro_109_29 | (have a1 := ro_109_29; unfold In at a1)); (first | have a2 := in_u i18a | (have a2 := i18a; unfold In at a2)); (first | have a3 := in_u i18 | (have a3 := i18; unfold In at a3)); (first | have a4 := in_u j10_2 | (have a4 := j10_2; unfold In at a4)); (first | have a5 := in_u i100 | (have a5 := i100; unfold In at a5)); have a6 := t_sub e98 i18 j10_2 rfl; have oc := oc_300_109; omega), (fun _ => by rw [show s.1 125 w10_109_27.toInt.toNat = z29 from (by rw [e29, hFc10.1 125 rfl]; rfl)]; unfold tkD; (first | have a0 := in_u h1 | (have a0 := h1; unfold In at a0)); (first | have a1 := in_u ro_109_29 | (have a1 := ro_109_29; unfold In at a1)); (first | have a2 := in_u i18a | (have a2 := i18a; unfold In at a2)); (first | have a3 := in_u i18 | (have a3 := i18; unfold In at a3)); (first | have a4 := in_u j10_2 | (have a4 := j10_2; unfold In at a4)); (first | have a5 := in_u i100 | (have a5 := i100; unfold In at a5)); have a6 := t_sub e98 i18 j10_2 rfl; have oc := oc_300_109; omega)⟩, ?_⟩; exact Or.inl ⟨by (first | have a0 := in_u h1 | (have a0 := h1; unfold In at a0)); (first | have a1 := in_u ro_109_29 | (have a1 := ro_109_29; unfold In at a1)); (first | have a2 := in_u i18a | (have a2 := i18a; unfold In at a2)); (first | have a3 := in_u i18 | (have a3 := i18; unfold In at a3)); (first | have a4 := in_u j10_2 | (have a4 := j10_2; unfold In at a4)); (first | have a5 := in_u i100 | (have a5 := i100; unfold In at a5)); have a6 := t_sub e98 i18 j10_2 rfl; have oc := oc_300_109; omega, g9.2 (by (first | have a0 := in_u h1 | (have a0 := h1; unfold In at a0)); (first | have a1 := in_u ro_109_29 | (have a1 := ro_109_29; unfold In at a1)); (first | have a2 := in_u i18a | (have a2 := i18a; unfold In at a2)); (first | have a3 := in_u i18 | (have a3 := i18; unfold In at a3)); (first | have a4 := in_u j10_2 | (have a4 := j10_2; unfold In at a4)); (first | have a5 := in_u i100 | (have a5 := i100; unfold In at a5)); have a6 := t_sub e98 i18 j10_2 rfl; have oc := oc_300_109; omega), g10_1⟩
              have n122a : (w10_109_27).toInt ≤ (u_109_22).toInt := by first | exact n10_0 | ((first | have a0 := in_u h1 | (have a0 := h1; unfold In at a0)); (first | have a1 := in_u ro_109_29 | (have a1 := ro_109_29; unfold In at a1)); (first | have a2 := in_u i18a | (have a2 := i18a; unfold In at a2)); (first | have a3 := in_u i18 | (have a3 := i18; unfold In at a3)); (first | have a4 := in_u j10_2 | (have a4 := j10_2; unfold In at a4)); (first | have a5 := in_u i100 | (have a5 := i100; unfold In at a5)); have a6 := t_sub e98 i18 j10_2 rfl; have oc := oc_300_109; omega)
              have n122b : (sc10.2.2.1 109 27).toInt ≤ (sc10.2.2.1 109 22).toInt := by have b0 : w10_109_27 = sc10.2.2.1 109 27 := v10_109_27; have b1 : u_109_22 = sc10.2.2.1 109 22 := fr_F e_109_22 hFc10 rfl; rw [← b0, ← b1]; exact n122a
              have n122c : (u_109_27).toInt + 1 ≤ (w10_109_27).toInt := by (first | have a0 := in_u h1 | (have a0 := h1; unfold In at a0)); (first | have a1 := in_u ro_109_29 | (have a1 := ro_109_29; unfold In at a1)); (first | have a2 := in_u i18a | (have a2 := i18a; unfold In at a2)); (first | have a3 := in_u i18 | (have a3 := i18; unfold In at a3)); (first | have a4 := in_u j10_2 | (have a4 := j10_2; unfold In at a4)); (first | have a5 := in_u i100 | (have a5 := i100; unfold In at a5)); have a6 := t_sub e98 i18 j10_2 rfl; have oc := oc_300_109; omega
              have n122d : (s.2.2.1 109 27).toInt + 1 ≤ (sc10.2.2.1 109 27).toInt := by have b0 : w10_109_27 = sc10.2.2.1 109 27 := v10_109_27; first | (rw [← b0, ← e_109_27]; exact n122c) | (rw [← b0]; exact n122c)
              exact g_return (gd rfl) rfl (hP _ _ ⟨sc10, hIc10, hFc10, n122b, n122d, rfl, rfl, n122⟩)
            · skip
              have i100 := r_lt2 8 999 c100 h1 i98 rfl
              refine g_aload_n 104 (gd rfl) rfl rfl ?_
              refine g_iload_n 105 (gd rfl) rfl rfl ?_
              refine g_bipush 7 107 (gd rfl) rfl rfl ?_
              refine g_cmp_ne 110 114 (gd rfl) rfl rfl (fun c107 => ?_) (fun c107 => ?_)
              · skip
                exact n_ne c107 h1 (in_c 7 rfl) rfl
              · skip
                refine g_iconst 3 111 (gd rfl) rfl rfl ?_
                refine g_goto 115 (gd rfl) rfl ?_
                refine g_aload_n 116 (gd rfl) rfl rfl ?_
                refine g_getI 119 (gd rfl) rfl rfl rfl (fun z116 e116 => ?_)
                have q116 : u_109_29 = z116 := (fr_F e_109_29 hFc10 rfl).trans e116.symm
                subst q116
                refine g_callv (X := _) (As := [.int (Int32.ofInt 3), .int u_109_29]) (r := []) (b := A 109) (q := 109) 122 (gd rfl) rfl rfl rfl rfl rfl (ww_o rfl) (Nat.le_of_ble_eq_true rfl) (Nat.zero_le _) (Nat.zero_le _) (f_298 (by first | exact dq1 hd rfl | exact dq0 hd rfl | exact dq2 hd rfl | exact dq3 hd rfl | omega) hIc10 (in_w 1 5 (in_c 3 rfl) rfl) rfl) (fun e u h => h) (fun v u h => ?_)
                obtain ⟨s119, hI119, hF119, n119, rfl, rfl, p119⟩ := h
                obtain ⟨z119a, e119⟩ : ∃ w, w = s119.2.2.1 109 23 := ⟨_, rfl⟩
                have i119a := inv_F hI119 0 9 rfl e119
                rw [← (show z119a = s119.2.2.1 109 23 from e119)] at n119
                show GG _ _ _ _ _ _ _ _ [] _ _ _
                have n122 : tkG (s.1 125) (s.2.2.1 109 22).toInt.toNat (s.2.2.1 109 27).toInt.toNat (s119.2.2.1 109 27).toInt.toNat ∧ (((s119.2.2.1 109 27).toInt.toNat - (s.2.2.1 109 27).toInt.toNat ≤ 7 ∧ (s119.2.2.2.1 109 31).toInt = tkN (s.1 125) (s.2.2.1 109 27).toInt.toNat ((s119.2.2.1 109 27).toInt.toNat - (s.2.2.1 109 27).toInt.toNat) ∧ FSM s s119) ∨ (7 < (s119.2.2.1 109 27).toInt.toNat - (s.2.2.1 109 27).toInt.toNat ∧ FBL s s119 3 (s.2.2.1 109 29).toInt)) := by have g9 := g10_0; rw [← e_109_27] at g9; have hw : w10_109_27.toNatClampNeg = w10_109_27.toInt.toNat := rfl; rw [← (show w10_109_27 = s119.2.2.1 109 27 from fr_F (v10_109_27) hF119 rfl), ← e_109_22, ← e_109_27]; refine ⟨⟨by (first | have a0 := in_u h1 | (have a0 := h1; unfold In at a0)); (first | have a1 := in_u ro_109_29 | (have a1 := ro_109_29; unfold In at a1)); (first | have a2 := in_u i18a | (have a2 := i18a; unfold In at a2)); (first | have a3 := in_u i18 | (have a3 := i18; unfold In at a3)); (first | have a4 := in_u j10_2 | (have a4 := j10_2; unfold In at a4)); (first | have a5 := in_u i119a | (have a5 := i119a; unfold In at a5)); (first | have a6 := in_u i100 | (have a6 := i100; unfold In at a6)); have a7 := t_sub e98 i18 j10_2 rfl; have oc := oc_300_109; omega, by (first | have a0 := in_u h1 | (have a0 := h1; unfold In at a0)); (first | have a1 := in_u ro_109_29 | (have a1 := ro_109_29; unfold In at a1)); (first | have a2 := in_u i18a | (have a2 := i18a; unfold In at a2)); (first | have a3 := in_u i18 | (have a3 := i18; unfold In at a3)); (first | have a4 := in_u j10_2 | (have a4 := j10_2; unfold In at a4)); (first | have a5 := in_u i119a | (have a5 := i119a; unfold In at a5)); (first | have a6 := in_u i100 | (have a6 := i100; unfold In at a6)); have a7 := t_sub e98 i18 j10_2 rfl; have oc := oc_300_109; omega, fun i a b => g9.1 i a (by (first | have a0 := in_u h1 | (have a0 := h1; unfold In at a0)); (first | have a1 := in_u ro_109_29 | (have a1 := ro_109_29; unfold In at a1)); (first | have a2 := in_u i18a | (have a2 := i18a; unfold In at a2)); (first | have a3 := in_u i18 | (have a3 := i18; unfold In at a3)); (first | have a4 := in_u j10_2 | (have a4 := j10_2; unfold In at a4)); (first | have a5 := in_u i119a | (have a5 := i119a; unfold In at a5)); (first | have a6 := in_u i100 | (have a6 := i100; unfold In at a6)); have a7 := t_sub e98 i18 j10_2 rfl; have oc := oc_300_109; omega), (fun _ => by rw [show s.1 125 w10_109_27.toInt.toNat = z29 from (by rw [e29, hFc10.1 125 rfl]; rfl)]; unfold tkD; (first | have a0 := in_u h1 | (have a0 := h1; unfold In at a0)); (first | have a1 := in_u ro_109_29 | (have a1 := ro_109_29; unfold In at a1)); (first | have a2 := in_u i18a | (have a2 := i18a; unfold In at a2)); (first | have a3 := in_u i18 | (have a3 := i18; unfold In at a3)); (first | have a4 := in_u j10_2 | (have a4 := j10_2; unfold In at a4)); (first | have a5 := in_u i119a | (have a5 := i119a; unfold In at a5)); (first | have a6 := in_u i100 | (have a6 := i100; unfold In at a6)); have a7 := t_sub e98 i18 j10_2 rfl; have oc := oc_300_109; omega)⟩, ?_⟩; refine Or.inr ⟨by (first | have a0 := in_u h1 | (have a0 := h1; unfold In at a0)); (first | have a1 := in_u ro_109_29 | (have a1 := ro_109_29; unfold In at a1)); (first | have a2 := in_u i18a | (have a2 := i18a; unfold In at a2)); (first | have a3 := in_u i18 | (have a3 := i18; unfold In at a3)); (first | have a4 := in_u j10_2 | (have a4 := j10_2; unfold In at a4)); (first | have a5 := in_u i119a | (have a5 := i119a; unfold In at a5)); (first | have a6 := in_u i100 | (have a6 := i100; unfold In at a6)); have a7 := t_sub e98 i18 j10_2 rfl; have oc := oc_300_109; omega, ?_⟩; have hb := p119; unfold FBL FSM at hb ⊢; rw [g10_1.1, g10_1.2] at hb; rw [← e_109_29]; first | exact hb | (exfalso; (first | have a0 := in_u h1 | (have a0 := h1; unfold In at a0)); (first | have a1 := in_u ro_109_29 | (have a1 := ro_109_29; unfold In at a1)); (first | have a2 := in_u i18a | (have a2 := i18a; unfold In at a2)); (first | have a3 := in_u i18 | (have a3 := i18; unfold In at a3)); (first | have a4 := in_u j10_2 | (have a4 := j10_2; unfold In at a4)); (first | have a5 := in_u i119a | (have a5 := i119a; unfold In at a5)); (first | have a6 := in_u i100 | (have a6 := i100; unfold In at a6)); have a7 := t_sub e98 i18 j10_2 rfl; have oc := oc_300_109; omega)
                have n122a : (w10_109_27).toInt ≤ (u_109_22).toInt := by first | exact n10_0 | ((first | have a0 := in_u h1 | (have a0 := h1; unfold In at a0)); (first | have a1 := in_u ro_109_29 | (have a1 := ro_109_29; unfold In at a1)); (first | have a2 := in_u i18a | (have a2 := i18a; unfold In at a2)); (first | have a3 := in_u i18 | (have a3 := i18; unfold In at a3)); (first | have a4 := in_u j10_2 | (have a4 := j10_2; unfold In at a4)); (first | have a5 := in_u i119a | (have a5 := i119a; unfold In at a5)); (first | have a6 := in_u i100 | (have a6 := i100; unfold In at a6)); have a7 := t_sub e98 i18 j10_2 rfl; have oc := oc_300_109; omega)
                have n122b : (s119.2.2.1 109 27).toInt ≤ (s119.2.2.1 109 22).toInt := by have b0 : w10_109_27 = s119.2.2.1 109 27 := fr_F (v10_109_27) hF119 rfl; have b1 : u_109_22 = s119.2.2.1 109 22 := fr_F (fr_F e_109_22 hFc10 rfl) hF119 rfl; rw [← b0, ← b1]; exact n122a
                have n122c : (u_109_27).toInt + 1 ≤ (w10_109_27).toInt := by (first | have a0 := in_u h1 | (have a0 := h1; unfold In at a0)); (first | have a1 := in_u ro_109_29 | (have a1 := ro_109_29; unfold In at a1)); (first | have a2 := in_u i18a | (have a2 := i18a; unfold In at a2)); (first | have a3 := in_u i18 | (have a3 := i18; unfold In at a3)); (first | have a4 := in_u j10_2 | (have a4 := j10_2; unfold In at a4)); (first | have a5 := in_u i119a | (have a5 := i119a; unfold In at a5)); (first | have a6 := in_u i100 | (have a6 := i100; unfold In at a6)); have a7 := t_sub e98 i18 j10_2 rfl; have oc := oc_300_109; omega
                have n122d : (s.2.2.1 109 27).toInt + 1 ≤ (s119.2.2.1 109 27).toInt := by have b0 : w10_109_27 = s119.2.2.1 109 27 := fr_F (v10_109_27) hF119 rfl; first | (rw [← b0, ← e_109_27]; exact n122c) | (rw [← b0]; exact n122c)
                exact g_return (gd rfl) rfl (hP _ _ ⟨s119, hI119, (fr_tr rfl hFc10 hF119), n122b, n122d, rfl, rfl, n122⟩)
          · skip
            exact zn_ne c33 (in_c 0 rfl) rfl
        · skip
          have i30x3 := r_le2 48 126 c30x3 (in_c 48 rfl) i29 rfl
          refine g_iload_n 7 (gd rfl) rfl rfl ?_
          refine g_bipush 57 9 (gd rfl) rfl rfl ?_
          refine g_cmp_gt 12 16 (gd rfl) rfl rfl (fun c30x9 => ?_) (fun c30x9 => ?_)
          · skip
            have i30x9 := r_lt2 58 126 c30x9 (in_c 57 rfl) i30x3 rfl
            refine g_iconst 0 17 (gd rfl) rfl rfl ?_
            refine g_ireturn (gd rfl) rfl (nb01 (in_w 0 1 (in_c 0 rfl) rfl)) (hp30 _ _ ?_)
            show GG _ _ _ _ _ _ _ _ [.int (Int32.ofInt 0)] _ _ _
            refine g_if_eq 36 93 (gd rfl) rfl rfl (fun c33 => ?_) (fun c33 => ?_)
            · skip
              have hq93 : (u_109_27).toInt + 1 ≤ (w10_109_27).toInt := (by first | ((first | have a0 := in_u h1 | (have a0 := h1; unfold In at a0)); (first | have a1 := in_u ro_109_29 | (have a1 := ro_109_29; unfold In at a1)); (first | have a2 := in_u i18a | (have a2 := i18a; unfold In at a2)); (first | have a3 := in_u i18 | (have a3 := i18; unfold In at a3)); (first | have a4 := in_u j10_2 | (have a4 := j10_2; unfold In at a4)); have oc := oc_300_109; omega) | (have hi := i30x3; unfold In at hi; (first | have a0 := in_u h1 | (have a0 := h1; unfold In at a0)); (first | have a1 := in_u ro_109_29 | (have a1 := ro_109_29; unfold In at a1)); (first | have a2 := in_u i18a | (have a2 := i18a; unfold In at a2)); (first | have a3 := in_u i18 | (have a3 := i18; unfold In at a3)); (first | have a4 := in_u j10_2 | (have a4 := j10_2; unfold In at a4)); have oc := oc_300_109; omega) | (have hi := i30x9; unfold In at hi; (first | have a0 := in_u h1 | (have a0 := h1; unfold In at a0)); (first | have a1 := in_u ro_109_29 | (have a1 := ro_109_29; unfold In at a1)); (first | have a2 := in_u i18a | (have a2 := i18a; unfold In at a2)); (first | have a3 := in_u i18 | (have a3 := i18; unfold In at a3)); (first | have a4 := in_u j10_2 | (have a4 := j10_2; unfold In at a4)); have oc := oc_300_109; omega))
              refine g_aload_n 94 (gd rfl) rfl rfl ?_
              refine g_getI 97 (gd rfl) rfl rfl rfl (fun z94 e94 => ?_)
              have q94 : w10_109_27 = z94 := (v10_109_27).trans e94.symm
              subst q94
              refine g_iload_n 98 (gd rfl) rfl rfl ?_
              refine g_isub 99 (gd rfl) rfl (fun z98 e98 => ?_)
              have i98 := in_sub (-1000) 999 e98 i18 j10_2 rfl rfl
              refine g_iload_n 100 (gd rfl) rfl rfl ?_
              refine g_cmp_le 103 122 (gd rfl) rfl rfl (fun c100 => ?_) (fun c100 => ?_)
              · skip
                have i100 := r_le1 (-1000) 7 c100 i98 h1 rfl
                have n122 : tkG (s.1 125) (s.2.2.1 109 22).toInt.toNat (s.2.2.1 109 27).toInt.toNat (sc10.2.2.1 109 27).toInt.toNat ∧ (((sc10.2.2.1 109 27).toInt.toNat - (s.2.2.1 109 27).toInt.toNat ≤ 7 ∧ (sc10.2.2.2.1 109 31).toInt = tkN (s.1 125) (s.2.2.1 109 27).toInt.toNat ((sc10.2.2.1 109 27).toInt.toNat - (s.2.2.1 109 27).toInt.toNat) ∧ FSM s sc10) ∨ (7 < (sc10.2.2.1 109 27).toInt.toNat - (s.2.2.1 109 27).toInt.toNat ∧ FBL s sc10 3 (s.2.2.1 109 29).toInt)) := by have g9 := g10_0; rw [← e_109_27] at g9; have hw : w10_109_27.toNatClampNeg = w10_109_27.toInt.toNat := rfl; rw [← (show w10_109_27 = sc10.2.2.1 109 27 from v10_109_27), ← e_109_22, ← e_109_27]; refine ⟨⟨by (first | have a0 := in_u h1 | (have a0 := h1; unfold In at a0)); (first | have a1 := in_u ro_109_29 | (have a1 := ro_109_29; unfold In at a1)); (first | have a2 := in_u i18a | (have a2 := i18a; unfold In at a2)); (first | have a3 := in_u i18 | (have a3 := i18; unfold In at a3)); (first | have a4 := in_u j10_2 | (have a4 := j10_2; unfold In at a4)); (first | have a5 := in_u i100 | (have a5 := i100; unfold In at a5)); have a6 := t_sub e98 i18 j10_2 rfl; have oc := oc_300_109; omega, by (first | have a0 := in_u h1 | (have a0 := h1; unfold In at a0)); (first | have a1 := in_u ro_109_29 | (have a1 := ro_109_29; unfold In at a1)); (first | have a2 := in_u i18a | (have a2 := i18a; unfold In at a2)); (first | have a3 := in_u i18 | (have a3 := i18; unfold In at a3)); (first | have a4 := in_u j10_2 | (have a4 := j10_2; unfold In at a4)); (first | have a5 := in_u i100 | (have a5 := i100; unfold In at a5)); have a6 := t_sub e98 i18 j10_2 rfl; have oc := oc_300_109; omega, fun i a b => g9.1 i a (by (first | have a0 := in_u h1 | (have a0 := h1; unfold In at a0)); (first | have a1 := in_u ro_109_29 | (have a1 := ro_109_29; unfold In at a1)); (first | have a2 := in_u i18a | (have a2 := i18a; unfold In at a2)); (first | have a3 := in_u i18 | (have a3 := i18; unfold In at a3)); (first | have a4 := in_u j10_2 | (have a4 := j10_2; unfold In at a4)); (first | have a5 := in_u i100 | (have a5 := i100; unfold In at a5)); have a6 := t_sub e98 i18 j10_2 rfl; have oc := oc_300_109; omega), (fun _ => by rw [show s.1 125 w10_109_27.toInt.toNat = z29 from (by rw [e29, hFc10.1 125 rfl]; rfl)]; unfold tkD; (first | have a0 := in_u h1 | (have a0 := h1; unfold In at a0)); (first | have a1 := in_u ro_109_29 | (have a1 := ro_109_29; unfold In at a1)); (first | have a2 := in_u i18a | (have a2 := i18a; unfold In at a2)); (first | have a3 := in_u i18 | (have a3 := i18; unfold In at a3)); (first | have a4 := in_u j10_2 | (have a4 := j10_2; unfold In at a4)); (first | have a5 := in_u i100 | (have a5 := i100; unfold In at a5)); have a6 := t_sub e98 i18 j10_2 rfl; have oc := oc_300_109; omega)⟩, ?_⟩; exact Or.inl ⟨by (first | have a0 := in_u h1 | (have a0 := h1; unfold In at a0)); (first | have a1 := in_u ro_109_29 | (have a1 := ro_109_29; unfold In at a1)); (first | have a2 := in_u i18a | (have a2 := i18a; unfold In at a2)); (first | have a3 := in_u i18 | (have a3 := i18; unfold In at a3)); (first | have a4 := in_u j10_2 | (have a4 := j10_2; unfold In at a4)); (first | have a5 := in_u i100 | (have a5 := i100; unfold In at a5)); have a6 := t_sub e98 i18 j10_2 rfl; have oc := oc_300_109; omega, g9.2 (by (first | have a0 := in_u h1 | (have a0 := h1; unfold In at a0)); (first | have a1 := in_u ro_109_29 | (have a1 := ro_109_29; unfold In at a1)); (first | have a2 := in_u i18a | (have a2 := i18a; unfold In at a2)); (first | have a3 := in_u i18 | (have a3 := i18; unfold In at a3)); (first | have a4 := in_u j10_2 | (have a4 := j10_2; unfold In at a4)); (first | have a5 := in_u i100 | (have a5 := i100; unfold In at a5)); have a6 := t_sub e98 i18 j10_2 rfl; have oc := oc_300_109; omega), g10_1⟩
                have n122a : (w10_109_27).toInt ≤ (u_109_22).toInt := by first | exact n10_0 | ((first | have a0 := in_u h1 | (have a0 := h1; unfold In at a0)); (first | have a1 := in_u ro_109_29 | (have a1 := ro_109_29; unfold In at a1)); (first | have a2 := in_u i18a | (have a2 := i18a; unfold In at a2)); (first | have a3 := in_u i18 | (have a3 := i18; unfold In at a3)); (first | have a4 := in_u j10_2 | (have a4 := j10_2; unfold In at a4)); (first | have a5 := in_u i100 | (have a5 := i100; unfold In at a5)); have a6 := t_sub e98 i18 j10_2 rfl; have oc := oc_300_109; omega)
                have n122b : (sc10.2.2.1 109 27).toInt ≤ (sc10.2.2.1 109 22).toInt := by have b0 : w10_109_27 = sc10.2.2.1 109 27 := v10_109_27; have b1 : u_109_22 = sc10.2.2.1 109 22 := fr_F e_109_22 hFc10 rfl; rw [← b0, ← b1]; exact n122a
                have n122c : (u_109_27).toInt + 1 ≤ (w10_109_27).toInt := by (first | have a0 := in_u h1 | (have a0 := h1; unfold In at a0)); (first | have a1 := in_u ro_109_29 | (have a1 := ro_109_29; unfold In at a1)); (first | have a2 := in_u i18a | (have a2 := i18a; unfold In at a2)); (first | have a3 := in_u i18 | (have a3 := i18; unfold In at a3)); (first | have a4 := in_u j10_2 | (have a4 := j10_2; unfold In at a4)); (first | have a5 := in_u i100 | (have a5 := i100; unfold In at a5)); have a6 := t_sub e98 i18 j10_2 rfl; have oc := oc_300_109; omega
                have n122d : (s.2.2.1 109 27).toInt + 1 ≤ (sc10.2.2.1 109 27).toInt := by have b0 : w10_109_27 = sc10.2.2.1 109 27 := v10_109_27; first | (rw [← b0, ← e_109_27]; exact n122c) | (rw [← b0]; exact n122c)
                exact g_return (gd rfl) rfl (hP _ _ ⟨sc10, hIc10, hFc10, n122b, n122d, rfl, rfl, n122⟩)
              · skip
                have i100 := r_lt2 8 999 c100 h1 i98 rfl
                refine g_aload_n 104 (gd rfl) rfl rfl ?_
                refine g_iload_n 105 (gd rfl) rfl rfl ?_
                refine g_bipush 7 107 (gd rfl) rfl rfl ?_
                refine g_cmp_ne 110 114 (gd rfl) rfl rfl (fun c107 => ?_) (fun c107 => ?_)
                · skip
                  exact n_ne c107 h1 (in_c 7 rfl) rfl
                · skip
                  refine g_iconst 3 111 (gd rfl) rfl rfl ?_
                  refine g_goto 115 (gd rfl) rfl ?_
                  refine g_aload_n 116 (gd rfl) rfl rfl ?_
                  refine g_getI 119 (gd rfl) rfl rfl rfl (fun z116 e116 => ?_)
                  have q116 : u_109_29 = z116 := (fr_F e_109_29 hFc10 rfl).trans e116.symm
                  subst q116
                  refine g_callv (X := _) (As := [.int (Int32.ofInt 3), .int u_109_29]) (r := []) (b := A 109) (q := 109) 122 (gd rfl) rfl rfl rfl rfl rfl (ww_o rfl) (Nat.le_of_ble_eq_true rfl) (Nat.zero_le _) (Nat.zero_le _) (f_298 (by first | exact dq1 hd rfl | exact dq0 hd rfl | exact dq2 hd rfl | exact dq3 hd rfl | omega) hIc10 (in_w 1 5 (in_c 3 rfl) rfl) rfl) (fun e u h => h) (fun v u h => ?_)
                  obtain ⟨s119, hI119, hF119, n119, rfl, rfl, p119⟩ := h
                  obtain ⟨z119a, e119⟩ : ∃ w, w = s119.2.2.1 109 23 := ⟨_, rfl⟩
                  have i119a := inv_F hI119 0 9 rfl e119
                  rw [← (show z119a = s119.2.2.1 109 23 from e119)] at n119
                  show GG _ _ _ _ _ _ _ _ [] _ _ _
                  have n122 : tkG (s.1 125) (s.2.2.1 109 22).toInt.toNat (s.2.2.1 109 27).toInt.toNat (s119.2.2.1 109 27).toInt.toNat ∧ (((s119.2.2.1 109 27).toInt.toNat - (s.2.2.1 109 27).toInt.toNat ≤ 7 ∧ (s119.2.2.2.1 109 31).toInt = tkN (s.1 125) (s.2.2.1 109 27).toInt.toNat ((s119.2.2.1 109 27).toInt.toNat - (s.2.2.1 109 27).toInt.toNat) ∧ FSM s s119) ∨ (7 < (s119.2.2.1 109 27).toInt.toNat - (s.2.2.1 109 27).toInt.toNat ∧ FBL s s119 3 (s.2.2.1 109 29).toInt)) := by have g9 := g10_0; rw [← e_109_27] at g9; have hw : w10_109_27.toNatClampNeg = w10_109_27.toInt.toNat := rfl; rw [← (show w10_109_27 = s119.2.2.1 109 27 from fr_F (v10_109_27) hF119 rfl), ← e_109_22, ← e_109_27]; refine ⟨⟨by (first | have a0 := in_u h1 | (have a0 := h1; unfold In at a0)); (first | have a1 := in_u ro_109_29 | (have a1 := ro_109_29; unfold In at a1)); (first | have a2 := in_u i18a | (have a2 := i18a; unfold In at a2)); (first | have a3 := in_u i18 | (have a3 := i18; unfold In at a3)); (first | have a4 := in_u j10_2 | (have a4 := j10_2; unfold In at a4)); (first | have a5 := in_u i119a | (have a5 := i119a; unfold In at a5)); (first | have a6 := in_u i100 | (have a6 := i100; unfold In at a6)); have a7 := t_sub e98 i18 j10_2 rfl; have oc := oc_300_109; omega, by (first | have a0 := in_u h1 | (have a0 := h1; unfold In at a0)); (first | have a1 := in_u ro_109_29 | (have a1 := ro_109_29; unfold In at a1)); (first | have a2 := in_u i18a | (have a2 := i18a; unfold In at a2)); (first | have a3 := in_u i18 | (have a3 := i18; unfold In at a3)); (first | have a4 := in_u j10_2 | (have a4 := j10_2; unfold In at a4)); (first | have a5 := in_u i119a | (have a5 := i119a; unfold In at a5)); (first | have a6 := in_u i100 | (have a6 := i100; unfold In at a6)); have a7 := t_sub e98 i18 j10_2 rfl; have oc := oc_300_109; omega, fun i a b => g9.1 i a (by (first | have a0 := in_u h1 | (have a0 := h1; unfold In at a0)); (first | have a1 := in_u ro_109_29 | (have a1 := ro_109_29; unfold In at a1)); (first | have a2 := in_u i18a | (have a2 := i18a; unfold In at a2)); (first | have a3 := in_u i18 | (have a3 := i18; unfold In at a3)); (first | have a4 := in_u j10_2 | (have a4 := j10_2; unfold In at a4)); (first | have a5 := in_u i119a | (have a5 := i119a; unfold In at a5)); (first | have a6 := in_u i100 | (have a6 := i100; unfold In at a6)); have a7 := t_sub e98 i18 j10_2 rfl; have oc := oc_300_109; omega), (fun _ => by rw [show s.1 125 w10_109_27.toInt.toNat = z29 from (by rw [e29, hFc10.1 125 rfl]; rfl)]; unfold tkD; (first | have a0 := in_u h1 | (have a0 := h1; unfold In at a0)); (first | have a1 := in_u ro_109_29 | (have a1 := ro_109_29; unfold In at a1)); (first | have a2 := in_u i18a | (have a2 := i18a; unfold In at a2)); (first | have a3 := in_u i18 | (have a3 := i18; unfold In at a3)); (first | have a4 := in_u j10_2 | (have a4 := j10_2; unfold In at a4)); (first | have a5 := in_u i119a | (have a5 := i119a; unfold In at a5)); (first | have a6 := in_u i100 | (have a6 := i100; unfold In at a6)); have a7 := t_sub e98 i18 j10_2 rfl; have oc := oc_300_109; omega)⟩, ?_⟩; refine Or.inr ⟨by (first | have a0 := in_u h1 | (have a0 := h1; unfold In at a0)); (first | have a1 := in_u ro_109_29 | (have a1 := ro_109_29; unfold In at a1)); (first | have a2 := in_u i18a | (have a2 := i18a; unfold In at a2)); (first | have a3 := in_u i18 | (have a3 := i18; unfold In at a3)); (first | have a4 := in_u j10_2 | (have a4 := j10_2; unfold In at a4)); (first | have a5 := in_u i119a | (have a5 := i119a; unfold In at a5)); (first | have a6 := in_u i100 | (have a6 := i100; unfold In at a6)); have a7 := t_sub e98 i18 j10_2 rfl; have oc := oc_300_109; omega, ?_⟩; have hb := p119; unfold FBL FSM at hb ⊢; rw [g10_1.1, g10_1.2] at hb; rw [← e_109_29]; first | exact hb | (exfalso; (first | have a0 := in_u h1 | (have a0 := h1; unfold In at a0)); (first | have a1 := in_u ro_109_29 | (have a1 := ro_109_29; unfold In at a1)); (first | have a2 := in_u i18a | (have a2 := i18a; unfold In at a2)); (first | have a3 := in_u i18 | (have a3 := i18; unfold In at a3)); (first | have a4 := in_u j10_2 | (have a4 := j10_2; unfold In at a4)); (first | have a5 := in_u i119a | (have a5 := i119a; unfold In at a5)); (first | have a6 := in_u i100 | (have a6 := i100; unfold In at a6)); have a7 := t_sub e98 i18 j10_2 rfl; have oc := oc_300_109; omega)
                  have n122a : (w10_109_27).toInt ≤ (u_109_22).toInt := by first | exact n10_0 | ((first | have a0 := in_u h1 | (have a0 := h1; unfold In at a0)); (first | have a1 := in_u ro_109_29 | (have a1 := ro_109_29; unfold In at a1)); (first | have a2 := in_u i18a | (have a2 := i18a; unfold In at a2)); (first | have a3 := in_u i18 | (have a3 := i18; unfold In at a3)); (first | have a4 := in_u j10_2 | (have a4 := j10_2; unfold In at a4)); (first | have a5 := in_u i119a | (have a5 := i119a; unfold In at a5)); (first | have a6 := in_u i100 | (have a6 := i100; unfold In at a6)); have a7 := t_sub e98 i18 j10_2 rfl; have oc := oc_300_109; omega)
                  have n122b : (s119.2.2.1 109 27).toInt ≤ (s119.2.2.1 109 22).toInt := by have b0 : w10_109_27 = s119.2.2.1 109 27 := fr_F (v10_109_27) hF119 rfl; have b1 : u_109_22 = s119.2.2.1 109 22 := fr_F (fr_F e_109_22 hFc10 rfl) hF119 rfl; rw [← b0, ← b1]; exact n122a
                  have n122c : (u_109_27).toInt + 1 ≤ (w10_109_27).toInt := by (first | have a0 := in_u h1 | (have a0 := h1; unfold In at a0)); (first | have a1 := in_u ro_109_29 | (have a1 := ro_109_29; unfold In at a1)); (first | have a2 := in_u i18a | (have a2 := i18a; unfold In at a2)); (first | have a3 := in_u i18 | (have a3 := i18; unfold In at a3)); (first | have a4 := in_u j10_2 | (have a4 := j10_2; unfold In at a4)); (first | have a5 := in_u i119a | (have a5 := i119a; unfold In at a5)); (first | have a6 := in_u i100 | (have a6 := i100; unfold In at a6)); have a7 := t_sub e98 i18 j10_2 rfl; have oc := oc_300_109; omega
                  have n122d : (s.2.2.1 109 27).toInt + 1 ≤ (s119.2.2.1 109 27).toInt := by have b0 : w10_109_27 = s119.2.2.1 109 27 := fr_F (v10_109_27) hF119 rfl; first | (rw [← b0, ← e_109_27]; exact n122c) | (rw [← b0]; exact n122c)
                  exact g_return (gd rfl) rfl (hP _ _ ⟨s119, hI119, (fr_tr rfl hFc10 hF119), n122b, n122d, rfl, rfl, n122⟩)
            · skip
              exact zn_ne c33 (in_c 0 rfl) rfl
          · skip
            have i30x9 := r_le1 48 57 c30x9 i30x3 (in_c 57 rfl) rfl
            refine g_iconst 1 13 (gd rfl) rfl rfl ?_
            refine g_goto 17 (gd rfl) rfl ?_
            refine g_ireturn (gd rfl) rfl (nb01 (in_w 0 1 (in_c 1 rfl) rfl)) (hp30 _ _ ?_)
            show GG _ _ _ _ _ _ _ _ [.int (Int32.ofInt 1)] _ _ _
            refine g_if_eq 36 93 (gd rfl) rfl rfl (fun c33 => ?_) (fun c33 => ?_)
            · skip
              exact zn_eq c33 (in_c 1 rfl) rfl
            · skip
              refine g_aload_n 37 (gd rfl) rfl rfl ?_
              refine g_aload_n 38 (gd rfl) rfl rfl ?_
              refine g_getI 41 (gd rfl) rfl rfl rfl (fun z38 e38 => ?_)
              have q38 : w10_109_27 = z38 := (v10_109_27).trans e38.symm
              subst q38
              refine g_iload_n 42 (gd rfl) rfl rfl ?_
              refine g_isub 43 (gd rfl) rfl (fun z42 e42 => ?_)
              have i42 := in_sub (-1000) 999 e42 i18 j10_2 rfl rfl
              refine g_iload_n 44 (gd rfl) rfl rfl ?_
              refine g_cmp_ge 47 73 (gd rfl) rfl rfl (fun c44 => ?_) (fun c44 => ?_)
              · skip
                have i44 := r_le2 7 999 c44 h1 i42 rfl
                refine g_aload_n 74 (gd rfl) rfl rfl ?_
                refine g_getL 77 (gd rfl) rfl rfl rfl (fun z74 e74 => ?_)
                refine g_putL 80 (gd rfl) rfl rfl rfl rfl ?_
                have hI77 := inv_sG (q := 109) (j := 31) (x := z74) hIc10 rfl (l_rng z74)
                refine g_aload_n 81 (gd rfl) rfl rfl ?_
                refine g_dup 82 (gd rfl) rfl rfl ?_
                refine g_getI 85 (gd rfl) rfl rfl rfl (fun z82 e82 => ?_)
                have q82 : w10_109_27 = z82 := (sG_F (v10_109_27)).trans e82.symm
                subst q82
                refine g_iconst 1 86 (gd rfl) rfl rfl ?_
                refine g_iadd 87 (gd rfl) rfl (fun z86 e86 => ?_)
                have i86 := in_add 1 1000 e86 i18 (in_c 1 rfl) rfl rfl
                refine g_putI 90 (gd rfl) rfl rfl rfl rfl ?_
                have hI87 := inv_sF (q := 109) (j := 27) hI77 rfl (in_w 0 1000 i86 rfl)
                refine g_goto 10 (gd rfl) rfl ?_
                have v10 : z86 = (sF (sG sc10 109 31 z74) 109 27 z86).2.2.1 109 27 := sF_get
                have n10 : (z86).toInt ≤ (u_109_22).toInt := by (first | have a0 := in_u h1 | (have a0 := h1; unfold In at a0)); (first | have a1 := in_u ro_109_29 | (have a1 := ro_109_29; unfold In at a1)); (first | have a2 := in_u i18a | (have a2 := i18a; unfold In at a2)); (first | have a3 := in_u i18 | (have a3 := i18; unfold In at a3)); (first | have a4 := in_u j10_2 | (have a4 := j10_2; unfold In at a4)); (first | have a5 := in_u i86 | (have a5 := i86; unfold In at a5)); have a6 := t_add e86 i18 (in_c 1 rfl) rfl; (first | have a7 := in_u ((in_c 1 rfl)) | (have a7 := (in_c 1 rfl); unfold In at a7)); (first | have a8 := in_u i44 | (have a8 := i44; unfold In at a8)); have a9 := t_sub e42 i18 j10_2 rfl; have oc := oc_300_109; omega
                have n10a : (u_109_27).toInt ≤ (z86).toInt := by (first | have a0 := in_u h1 | (have a0 := h1; unfold In at a0)); (first | have a1 := in_u ro_109_29 | (have a1 := ro_109_29; unfold In at a1)); (first | have a2 := in_u i18a | (have a2 := i18a; unfold In at a2)); (first | have a3 := in_u i18 | (have a3 := i18; unfold In at a3)); (first | have a4 := in_u j10_2 | (have a4 := j10_2; unfold In at a4)); (first | have a5 := in_u i86 | (have a5 := i86; unfold In at a5)); have a6 := t_add e86 i18 (in_c 1 rfl) rfl; (first | have a7 := in_u ((in_c 1 rfl)) | (have a7 := (in_c 1 rfl); unfold In at a7)); (first | have a8 := in_u i44 | (have a8 := i44; unfold In at a8)); have a9 := t_sub e42 i18 j10_2 rfl; have oc := oc_300_109; omega
                have n10b : (y10_2).toInt = (u_109_27).toInt := by first | exact n10_2 | ((first | have a0 := in_u h1 | (have a0 := h1; unfold In at a0)); (first | have a1 := in_u ro_109_29 | (have a1 := ro_109_29; unfold In at a1)); (first | have a2 := in_u i18a | (have a2 := i18a; unfold In at a2)); (first | have a3 := in_u i18 | (have a3 := i18; unfold In at a3)); (first | have a4 := in_u j10_2 | (have a4 := j10_2; unfold In at a4)); (first | have a5 := in_u i86 | (have a5 := i86; unfold In at a5)); have a6 := t_add e86 i18 (in_c 1 rfl) rfl; (first | have a7 := in_u ((in_c 1 rfl)) | (have a7 := (in_c 1 rfl); unfold In at a7)); (first | have a8 := in_u i44 | (have a8 := i44; unfold In at a8)); have a9 := t_sub e42 i18 j10_2 rfl; have oc := oc_300_109; omega)
                have n10c : (∀ i : Nat, (s.2.2.1 109 27).toInt.toNat ≤ i → (i : Int) < (z86).toInt → tkD (s.1 125 i)) ∧ ((z86).toInt.toNat - (s.2.2.1 109 27).toInt.toNat ≤ 7 → ((sF (sG sc10 109 31 z74) 109 27 z86).2.2.2.1 109 31).toInt = tkN (s.1 125) (s.2.2.1 109 27).toInt.toNat ((z86).toInt.toNat - (s.2.2.1 109 27).toInt.toNat)) := by have ht : z29 = s.1 125 w10_109_27.toNatClampNeg := (by rw [e29, hFc10.1 125 rfl]); have hw : w10_109_27.toNatClampNeg = w10_109_27.toInt.toNat := rfl; exact ⟨(fun i h1 h2 => by by_cases hc : (i : Int) < w10_109_27.toInt; (exact g10_0.1 i h1 hc); (rw [show i = w10_109_27.toNatClampNeg from (by have a0 := h1; unfold In at a0; (first | have a1 := in_u ro_109_29 | (have a1 := ro_109_29; unfold In at a1)); (first | have a2 := in_u i18a | (have a2 := i18a; unfold In at a2)); (first | have a3 := in_u i18 | (have a3 := i18; unfold In at a3)); (first | have a4 := in_u j10_2 | (have a4 := j10_2; unfold In at a4)); (first | have a5 := in_u i86 | (have a5 := i86; unfold In at a5)); have a6 := t_add e86 i18 (in_c 1 rfl) rfl; (first | have a7 := in_u ((in_c 1 rfl)) | (have a7 := (in_c 1 rfl); unfold In at a7)); (first | have a8 := in_u i44 | (have a8 := i44; unfold In at a8)); have a9 := t_sub e42 i18 j10_2 rfl; have oc := oc_300_109; omega), ← ht]; exact ⟨by have a0 := h1; unfold In at a0; (first | have a1 := in_u ro_109_29 | (have a1 := ro_109_29; unfold In at a1)); (first | have a2 := in_u i18a | (have a2 := i18a; unfold In at a2)); (first | have a3 := in_u i18 | (have a3 := i18; unfold In at a3)); (first | have a4 := in_u j10_2 | (have a4 := j10_2; unfold In at a4)); (first | have a5 := in_u i86 | (have a5 := i86; unfold In at a5)); have a6 := t_add e86 i18 (in_c 1 rfl) rfl; (first | have a7 := in_u ((in_c 1 rfl)) | (have a7 := (in_c 1 rfl); unfold In at a7)); (first | have a8 := in_u i44 | (have a8 := i44; unfold In at a8)); have a9 := t_sub e42 i18 j10_2 rfl; have oc := oc_300_109; omega, by have a0 := h1; unfold In at a0; (first | have a1 := in_u ro_109_29 | (have a1 := ro_109_29; unfold In at a1)); (first | have a2 := in_u i18a | (have a2 := i18a; unfold In at a2)); (first | have a3 := in_u i18 | (have a3 := i18; unfold In at a3)); (first | have a4 := in_u j10_2 | (have a4 := j10_2; unfold In at a4)); (first | have a5 := in_u i86 | (have a5 := i86; unfold In at a5)); have a6 := t_add e86 i18 (in_c 1 rfl) rfl; (first | have a7 := in_u ((in_c 1 rfl)) | (have a7 := (in_c 1 rfl); unfold In at a7)); (first | have a8 := in_u i44 | (have a8 := i44; unfold In at a8)); have a9 := t_sub e42 i18 j10_2 rfl; have oc := oc_300_109; omega⟩)), fun h => by exfalso; rw [← e_109_27] at h; have a0 := h1; unfold In at a0; (first | have a1 := in_u ro_109_29 | (have a1 := ro_109_29; unfold In at a1)); (first | have a2 := in_u i18a | (have a2 := i18a; unfold In at a2)); (first | have a3 := in_u i18 | (have a3 := i18; unfold In at a3)); (first | have a4 := in_u j10_2 | (have a4 := j10_2; unfold In at a4)); (first | have a5 := in_u i86 | (have a5 := i86; unfold In at a5)); have a6 := t_add e86 i18 (in_c 1 rfl) rfl; (first | have a7 := in_u ((in_c 1 rfl)) | (have a7 := (in_c 1 rfl); unfold In at a7)); (first | have a8 := in_u i44 | (have a8 := i44; unfold In at a8)); have a9 := t_sub e42 i18 j10_2 rfl; have oc := oc_300_109; omega⟩
                have n10d : FSM s (sF (sG sc10 109 31 z74) 109 27 z86) := by exact g10_1
                have m10 : (u_109_22).toInt - (z86).toInt < ((k10 : Nat) : Int) := by (first | have a0 := in_u h1 | (have a0 := h1; unfold In at a0)); (first | have a1 := in_u ro_109_29 | (have a1 := ro_109_29; unfold In at a1)); (first | have a2 := in_u i18a | (have a2 := i18a; unfold In at a2)); (first | have a3 := in_u i18 | (have a3 := i18; unfold In at a3)); (first | have a4 := in_u j10_2 | (have a4 := j10_2; unfold In at a4)); (first | have a5 := in_u i86 | (have a5 := i86; unfold In at a5)); have a6 := t_add e86 i18 (in_c 1 rfl) rfl; (first | have a7 := in_u ((in_c 1 rfl)) | (have a7 := (in_c 1 rfl); unfold In at a7)); (first | have a8 := in_u i44 | (have a8 := i44; unfold In at a8)); have a9 := t_sub e42 i18 j10_2 rfl; have oc := oc_300_109; omega
                exact gg_w (by first | exact Nat.le_add_right _ _ | exact gw2 | exact gw3 | exact gwe rfl | exact gwf rfl | exact gwg rfl | exact gwh rfl | omega) (gg_f (gf_cons rfl (gf_cons rfl (gf_cons rfl gf_nil))) (ih10  (sF (sG sc10 109 31 z74) 109 27 z86) y10_2 z86 hI87 (fr_sF rfl (fr_sG rfl hFc10)) (in_w 0 1000 j10_2 rfl) v10 n10 n10a n10b n10c n10d m10))
              · skip
                have i44 := r_lt1 (-1000) 6 c44 i42 h1 rfl
                refine g_ldc2_w 10 50 (gd rfl) rfl rfl ?_
                refine g_aload_n 51 (gd rfl) rfl rfl ?_
                refine g_getL 54 (gd rfl) rfl rfl rfl (fun z51 e51 => ?_)
                refine g_lmul 55 (gd rfl) rfl (fun z54 e54 => ?_)
                refine g_aload_n 56 (gd rfl) rfl rfl ?_
                refine g_getA (q2 := 125) 59 (gd rfl) rfl rfl rfl rfl ?_
                refine g_aload_n 60 (gd rfl) rfl rfl ?_
                refine g_getI 63 (gd rfl) rfl rfl rfl (fun z60 e60 => ?_)
                have q60 : w10_109_27 = z60 := (v10_109_27).trans e60.symm
                subst q60
                refine g_iaload 64 (gd rfl) rfl (n := 1000) rfl (in_ix i18 rfl) (fun z63 e63 => ?_)
                have q63 : z29 = z63 := (e29).trans e63.symm
                subst q63
                refine g_i2l 65 (gd rfl) rfl (fun z64 e64 => ?_)
                have i64 := l_i e64 i30x9
                refine g_ladd 66 (gd rfl) rfl (fun z65 e65 => ?_)
                refine g_ldc2_w 48 69 (gd rfl) rfl rfl ?_
                refine g_lsub 70 (gd rfl) rfl (fun z69 e69 => ?_)
                refine g_goto 77 (gd rfl) rfl ?_
                refine g_putL 80 (gd rfl) rfl rfl rfl rfl ?_
                have hI77 := inv_sG (q := 109) (j := 31) (x := z69) hIc10 rfl (l_rng z69)
                refine g_aload_n 81 (gd rfl) rfl rfl ?_
                refine g_dup 82 (gd rfl) rfl rfl ?_
                refine g_getI 85 (gd rfl) rfl rfl rfl (fun z82 e82 => ?_)
                have q82 : w10_109_27 = z82 := (sG_F (v10_109_27)).trans e82.symm
                subst q82
                refine g_iconst 1 86 (gd rfl) rfl rfl ?_
                refine g_iadd 87 (gd rfl) rfl (fun z86 e86 => ?_)
                have i86 := in_add 1 1000 e86 i18 (in_c 1 rfl) rfl rfl
                refine g_putI 90 (gd rfl) rfl rfl rfl rfl ?_
                have hI87 := inv_sF (q := 109) (j := 27) hI77 rfl (in_w 0 1000 i86 rfl)
                refine g_goto 10 (gd rfl) rfl ?_
                have v10 : z86 = (sF (sG sc10 109 31 z69) 109 27 z86).2.2.1 109 27 := sF_get
                have n10 : (z86).toInt ≤ (u_109_22).toInt := by (first | have a0 := in_u h1 | (have a0 := h1; unfold In at a0)); (first | have a1 := in_u ro_109_29 | (have a1 := ro_109_29; unfold In at a1)); (first | have a2 := in_u i18a | (have a2 := i18a; unfold In at a2)); (first | have a3 := in_u i18 | (have a3 := i18; unfold In at a3)); (first | have a4 := in_u j10_2 | (have a4 := j10_2; unfold In at a4)); (first | have a5 := in_u i86 | (have a5 := i86; unfold In at a5)); have a6 := t_add e86 i18 (in_c 1 rfl) rfl; (first | have a7 := in_u ((in_c 1 rfl)) | (have a7 := (in_c 1 rfl); unfold In at a7)); have a8 := tx_i2l e64; (first | have a9 := in_u i30x9 | (have a9 := i30x9; unfold In at a9)); (first | have a10 := in_u i44 | (have a10 := i44; unfold In at a10)); have a11 := t_sub e42 i18 j10_2 rfl; have oc := oc_300_109; omega
                have n10a : (u_109_27).toInt ≤ (z86).toInt := by (first | have a0 := in_u h1 | (have a0 := h1; unfold In at a0)); (first | have a1 := in_u ro_109_29 | (have a1 := ro_109_29; unfold In at a1)); (first | have a2 := in_u i18a | (have a2 := i18a; unfold In at a2)); (first | have a3 := in_u i18 | (have a3 := i18; unfold In at a3)); (first | have a4 := in_u j10_2 | (have a4 := j10_2; unfold In at a4)); (first | have a5 := in_u i86 | (have a5 := i86; unfold In at a5)); have a6 := t_add e86 i18 (in_c 1 rfl) rfl; (first | have a7 := in_u ((in_c 1 rfl)) | (have a7 := (in_c 1 rfl); unfold In at a7)); have a8 := tx_i2l e64; (first | have a9 := in_u i30x9 | (have a9 := i30x9; unfold In at a9)); (first | have a10 := in_u i44 | (have a10 := i44; unfold In at a10)); have a11 := t_sub e42 i18 j10_2 rfl; have oc := oc_300_109; omega
                have n10b : (y10_2).toInt = (u_109_27).toInt := by first | exact n10_2 | ((first | have a0 := in_u h1 | (have a0 := h1; unfold In at a0)); (first | have a1 := in_u ro_109_29 | (have a1 := ro_109_29; unfold In at a1)); (first | have a2 := in_u i18a | (have a2 := i18a; unfold In at a2)); (first | have a3 := in_u i18 | (have a3 := i18; unfold In at a3)); (first | have a4 := in_u j10_2 | (have a4 := j10_2; unfold In at a4)); (first | have a5 := in_u i86 | (have a5 := i86; unfold In at a5)); have a6 := t_add e86 i18 (in_c 1 rfl) rfl; (first | have a7 := in_u ((in_c 1 rfl)) | (have a7 := (in_c 1 rfl); unfold In at a7)); have a8 := tx_i2l e64; (first | have a9 := in_u i30x9 | (have a9 := i30x9; unfold In at a9)); (first | have a10 := in_u i44 | (have a10 := i44; unfold In at a10)); have a11 := t_sub e42 i18 j10_2 rfl; have oc := oc_300_109; omega)
                have n10c : (∀ i : Nat, (s.2.2.1 109 27).toInt.toNat ≤ i → (i : Int) < (z86).toInt → tkD (s.1 125 i)) ∧ ((z86).toInt.toNat - (s.2.2.1 109 27).toInt.toNat ≤ 7 → ((sF (sG sc10 109 31 z69) 109 27 z86).2.2.2.1 109 31).toInt = tkN (s.1 125) (s.2.2.1 109 27).toInt.toNat ((z86).toInt.toNat - (s.2.2.1 109 27).toInt.toNat)) := by have ht : z29 = s.1 125 w10_109_27.toNatClampNeg := (by rw [e29, hFc10.1 125 rfl]); have hw : w10_109_27.toNatClampNeg = w10_109_27.toInt.toNat := rfl; have htn : z51.toInt = tkN (s.1 125) (s.2.2.1 109 27).toInt.toNat (w10_109_27.toInt.toNat - (s.2.2.1 109 27).toInt.toNat) := (by rw [e51]; exact g10_0.2 (by rw [← e_109_27]; have a0 := h1; unfold In at a0; (first | have a1 := in_u ro_109_29 | (have a1 := ro_109_29; unfold In at a1)); (first | have a2 := in_u i18a | (have a2 := i18a; unfold In at a2)); (first | have a3 := in_u i18 | (have a3 := i18; unfold In at a3)); (first | have a4 := in_u j10_2 | (have a4 := j10_2; unfold In at a4)); (first | have a5 := in_u i86 | (have a5 := i86; unfold In at a5)); have a6 := t_add e86 i18 (in_c 1 rfl) rfl; (first | have a7 := in_u ((in_c 1 rfl)) | (have a7 := (in_c 1 rfl); unfold In at a7)); have a8 := tx_i2l e64; (first | have a9 := in_u i30x9 | (have a9 := i30x9; unfold In at a9)); (first | have a10 := in_u i44 | (have a10 := i44; unfold In at a10)); have a11 := t_sub e42 i18 j10_2 rfl; have oc := oc_300_109; omega)); exact ⟨(fun i h1 h2 => by by_cases hc : (i : Int) < w10_109_27.toInt; (exact g10_0.1 i h1 hc); (rw [show i = w10_109_27.toNatClampNeg from (by have a0 := h1; unfold In at a0; (first | have a1 := in_u ro_109_29 | (have a1 := ro_109_29; unfold In at a1)); (first | have a2 := in_u i18a | (have a2 := i18a; unfold In at a2)); (first | have a3 := in_u i18 | (have a3 := i18; unfold In at a3)); (first | have a4 := in_u j10_2 | (have a4 := j10_2; unfold In at a4)); (first | have a5 := in_u i86 | (have a5 := i86; unfold In at a5)); have a6 := t_add e86 i18 (in_c 1 rfl) rfl; (first | have a7 := in_u ((in_c 1 rfl)) | (have a7 := (in_c 1 rfl); unfold In at a7)); have a8 := tx_i2l e64; (first | have a9 := in_u i30x9 | (have a9 := i30x9; unfold In at a9)); (first | have a10 := in_u i44 | (have a10 := i44; unfold In at a10)); have a11 := t_sub e42 i18 j10_2 rfl; have oc := oc_300_109; omega), ← ht]; exact ⟨by have a0 := h1; unfold In at a0; (first | have a1 := in_u ro_109_29 | (have a1 := ro_109_29; unfold In at a1)); (first | have a2 := in_u i18a | (have a2 := i18a; unfold In at a2)); (first | have a3 := in_u i18 | (have a3 := i18; unfold In at a3)); (first | have a4 := in_u j10_2 | (have a4 := j10_2; unfold In at a4)); (first | have a5 := in_u i86 | (have a5 := i86; unfold In at a5)); have a6 := t_add e86 i18 (in_c 1 rfl) rfl; (first | have a7 := in_u ((in_c 1 rfl)) | (have a7 := (in_c 1 rfl); unfold In at a7)); have a8 := tx_i2l e64; (first | have a9 := in_u i30x9 | (have a9 := i30x9; unfold In at a9)); (first | have a10 := in_u i44 | (have a10 := i44; unfold In at a10)); have a11 := t_sub e42 i18 j10_2 rfl; have oc := oc_300_109; omega, by have a0 := h1; unfold In at a0; (first | have a1 := in_u ro_109_29 | (have a1 := ro_109_29; unfold In at a1)); (first | have a2 := in_u i18a | (have a2 := i18a; unfold In at a2)); (first | have a3 := in_u i18 | (have a3 := i18; unfold In at a3)); (first | have a4 := in_u j10_2 | (have a4 := j10_2; unfold In at a4)); (first | have a5 := in_u i86 | (have a5 := i86; unfold In at a5)); have a6 := t_add e86 i18 (in_c 1 rfl) rfl; (first | have a7 := in_u ((in_c 1 rfl)) | (have a7 := (in_c 1 rfl); unfold In at a7)); have a8 := tx_i2l e64; (first | have a9 := in_u i30x9 | (have a9 := i30x9; unfold In at a9)); (first | have a10 := in_u i44 | (have a10 := i44; unfold In at a10)); have a11 := t_sub e42 i18 j10_2 rfl; have oc := oc_300_109; omega⟩)), fun h => by show (z69).toInt = _; rw [lx_st e54 e64 e65 e69 (by rw [htn]; exact (tkN_7 (by rw [← e_109_27]; have a0 := h1; unfold In at a0; (first | have a1 := in_u ro_109_29 | (have a1 := ro_109_29; unfold In at a1)); (first | have a2 := in_u i18a | (have a2 := i18a; unfold In at a2)); (first | have a3 := in_u i18 | (have a3 := i18; unfold In at a3)); (first | have a4 := in_u j10_2 | (have a4 := j10_2; unfold In at a4)); (first | have a5 := in_u i86 | (have a5 := i86; unfold In at a5)); have a6 := t_add e86 i18 (in_c 1 rfl) rfl; (first | have a7 := in_u ((in_c 1 rfl)) | (have a7 := (in_c 1 rfl); unfold In at a7)); have a8 := tx_i2l e64; (first | have a9 := in_u i30x9 | (have a9 := i30x9; unfold In at a9)); (first | have a10 := in_u i44 | (have a10 := i44; unfold In at a10)); have a11 := t_sub e42 i18 j10_2 rfl; have oc := oc_300_109; omega) (fun i a b => g10_0.1 i a (by rw [← e_109_27] at b; have a0 := h1; unfold In at a0; (first | have a1 := in_u ro_109_29 | (have a1 := ro_109_29; unfold In at a1)); (first | have a2 := in_u i18a | (have a2 := i18a; unfold In at a2)); (first | have a3 := in_u i18 | (have a3 := i18; unfold In at a3)); (first | have a4 := in_u j10_2 | (have a4 := j10_2; unfold In at a4)); (first | have a5 := in_u i86 | (have a5 := i86; unfold In at a5)); have a6 := t_add e86 i18 (in_c 1 rfl) rfl; (first | have a7 := in_u ((in_c 1 rfl)) | (have a7 := (in_c 1 rfl); unfold In at a7)); have a8 := tx_i2l e64; (first | have a9 := in_u i30x9 | (have a9 := i30x9; unfold In at a9)); (first | have a10 := in_u i44 | (have a10 := i44; unfold In at a10)); have a11 := t_sub e42 i18 j10_2 rfl; have oc := oc_300_109; omega)))) ⟨by have a0 := h1; unfold In at a0; (first | have a1 := in_u ro_109_29 | (have a1 := ro_109_29; unfold In at a1)); (first | have a2 := in_u i18a | (have a2 := i18a; unfold In at a2)); (first | have a3 := in_u i18 | (have a3 := i18; unfold In at a3)); (first | have a4 := in_u j10_2 | (have a4 := j10_2; unfold In at a4)); (first | have a5 := in_u i86 | (have a5 := i86; unfold In at a5)); have a6 := t_add e86 i18 (in_c 1 rfl) rfl; (first | have a7 := in_u ((in_c 1 rfl)) | (have a7 := (in_c 1 rfl); unfold In at a7)); have a8 := tx_i2l e64; (first | have a9 := in_u i30x9 | (have a9 := i30x9; unfold In at a9)); (first | have a10 := in_u i44 | (have a10 := i44; unfold In at a10)); have a11 := t_sub e42 i18 j10_2 rfl; have oc := oc_300_109; omega, by have a0 := h1; unfold In at a0; (first | have a1 := in_u ro_109_29 | (have a1 := ro_109_29; unfold In at a1)); (first | have a2 := in_u i18a | (have a2 := i18a; unfold In at a2)); (first | have a3 := in_u i18 | (have a3 := i18; unfold In at a3)); (first | have a4 := in_u j10_2 | (have a4 := j10_2; unfold In at a4)); (first | have a5 := in_u i86 | (have a5 := i86; unfold In at a5)); have a6 := t_add e86 i18 (in_c 1 rfl) rfl; (first | have a7 := in_u ((in_c 1 rfl)) | (have a7 := (in_c 1 rfl); unfold In at a7)); have a8 := tx_i2l e64; (first | have a9 := in_u i30x9 | (have a9 := i30x9; unfold In at a9)); (first | have a10 := in_u i44 | (have a10 := i44; unfold In at a10)); have a11 := t_sub e42 i18 j10_2 rfl; have oc := oc_300_109; omega⟩, htn, show (z86).toInt.toNat - (s.2.2.1 109 27).toInt.toNat = (w10_109_27.toInt.toNat - (s.2.2.1 109 27).toInt.toNat) + 1 from (by rw [← e_109_27]; have a0 := h1; unfold In at a0; (first | have a1 := in_u ro_109_29 | (have a1 := ro_109_29; unfold In at a1)); (first | have a2 := in_u i18a | (have a2 := i18a; unfold In at a2)); (first | have a3 := in_u i18 | (have a3 := i18; unfold In at a3)); (first | have a4 := in_u j10_2 | (have a4 := j10_2; unfold In at a4)); (first | have a5 := in_u i86 | (have a5 := i86; unfold In at a5)); have a6 := t_add e86 i18 (in_c 1 rfl) rfl; (first | have a7 := in_u ((in_c 1 rfl)) | (have a7 := (in_c 1 rfl); unfold In at a7)); have a8 := tx_i2l e64; (first | have a9 := in_u i30x9 | (have a9 := i30x9; unfold In at a9)); (first | have a10 := in_u i44 | (have a10 := i44; unfold In at a10)); have a11 := t_sub e42 i18 j10_2 rfl; have oc := oc_300_109; omega)]; show _ = 10 * tkN (s.1 125) (s.2.2.1 109 27).toInt.toNat _ + ((s.1 125 ((s.2.2.1 109 27).toInt.toNat + (w10_109_27.toInt.toNat - (s.2.2.1 109 27).toInt.toNat))).toInt - 48); rw [show (s.2.2.1 109 27).toInt.toNat + (w10_109_27.toInt.toNat - (s.2.2.1 109 27).toInt.toNat) = w10_109_27.toNatClampNeg from (by rw [← e_109_27]; have a0 := h1; unfold In at a0; (first | have a1 := in_u ro_109_29 | (have a1 := ro_109_29; unfold In at a1)); (first | have a2 := in_u i18a | (have a2 := i18a; unfold In at a2)); (first | have a3 := in_u i18 | (have a3 := i18; unfold In at a3)); (first | have a4 := in_u j10_2 | (have a4 := j10_2; unfold In at a4)); (first | have a5 := in_u i86 | (have a5 := i86; unfold In at a5)); have a6 := t_add e86 i18 (in_c 1 rfl) rfl; (first | have a7 := in_u ((in_c 1 rfl)) | (have a7 := (in_c 1 rfl); unfold In at a7)); have a8 := tx_i2l e64; (first | have a9 := in_u i30x9 | (have a9 := i30x9; unfold In at a9)); (first | have a10 := in_u i44 | (have a10 := i44; unfold In at a10)); have a11 := t_sub e42 i18 j10_2 rfl; have oc := oc_300_109; omega), ← ht]⟩
                have n10d : FSM s (sF (sG sc10 109 31 z69) 109 27 z86) := by exact g10_1
                have m10 : (u_109_22).toInt - (z86).toInt < ((k10 : Nat) : Int) := by (first | have a0 := in_u h1 | (have a0 := h1; unfold In at a0)); (first | have a1 := in_u ro_109_29 | (have a1 := ro_109_29; unfold In at a1)); (first | have a2 := in_u i18a | (have a2 := i18a; unfold In at a2)); (first | have a3 := in_u i18 | (have a3 := i18; unfold In at a3)); (first | have a4 := in_u j10_2 | (have a4 := j10_2; unfold In at a4)); (first | have a5 := in_u i86 | (have a5 := i86; unfold In at a5)); have a6 := t_add e86 i18 (in_c 1 rfl) rfl; (first | have a7 := in_u ((in_c 1 rfl)) | (have a7 := (in_c 1 rfl); unfold In at a7)); have a8 := tx_i2l e64; (first | have a9 := in_u i30x9 | (have a9 := i30x9; unfold In at a9)); (first | have a10 := in_u i44 | (have a10 := i44; unfold In at a10)); have a11 := t_sub e42 i18 j10_2 rfl; have oc := oc_300_109; omega
                exact gg_w (by first | exact Nat.le_add_right _ _ | exact gw2 | exact gw3 | exact gwe rfl | exact gwf rfl | exact gwg rfl | exact gwh rfl | omega) (gg_f (gf_cons rfl (gf_cons rfl (gf_cons rfl gf_nil))) (ih10  (sF (sG sc10 109 31 z69) 109 27 z86) y10_2 z86 hI87 (fr_sF rfl (fr_sG rfl hFc10)) (in_w 0 1000 j10_2 rfl) v10 n10 n10a n10b n10c n10d m10))
  refine g_enter2 (k := 300) (N := 901801) (by first | exact dq1 hd rfl | exact dq0 hd rfl | exact dq2 hd rfl | exact dq3 hd rfl | omega) rfl (Nat.le_of_ble_eq_true rfl) ?_
  refine g_aload_n 1 (gd rfl) rfl rfl ?_
  refine g_getI 4 (gd rfl) rfl rfl rfl (fun z1 e1 => ?_)
  have q1 : u_109_27 = z1 := (e_109_27).trans e1.symm
  subst q1
  refine g_istore_n 5 (gd rfl) rfl (Nat.le_of_ble_eq_true rfl) ?_
  refine g_aload_n 6 (gd rfl) rfl rfl ?_
  refine g_lconst 0 7 (gd rfl) rfl rfl ?_
  refine g_putL 10 (gd rfl) rfl rfl rfl rfl ?_
  have hI7 := inv_sG (q := 109) (j := 31) (x := (Int64.ofInt 0)) hI rfl (l_rng (Int64.ofInt 0))
  have v10 : u_109_27 = (sG s 109 31 (Int64.ofInt 0)).2.2.1 109 27 := sG_F (e_109_27)
  have n10 : (u_109_27).toInt ≤ (u_109_22).toInt := by (first | have a0 := in_u ro_109_29 | (have a0 := ro_109_29; unfold In at a0)); (first | have a1 := in_u ((inv_F hI 0 1000 rfl e_109_22)) | (have a1 := (inv_F hI 0 1000 rfl e_109_22); unfold In at a1)); (first | have a2 := in_u ((inv_F hI 0 1000 rfl e_109_27)) | (have a2 := (inv_F hI 0 1000 rfl e_109_27); unfold In at a2)); (first | have a3 := in_u h1 | (have a3 := h1; unfold In at a3)); have oc := oc_300_109; omega
  have n10a : (u_109_27).toInt ≤ (u_109_27).toInt := by (first | have a0 := in_u ro_109_29 | (have a0 := ro_109_29; unfold In at a0)); (first | have a1 := in_u ((inv_F hI 0 1000 rfl e_109_22)) | (have a1 := (inv_F hI 0 1000 rfl e_109_22); unfold In at a1)); (first | have a2 := in_u ((inv_F hI 0 1000 rfl e_109_27)) | (have a2 := (inv_F hI 0 1000 rfl e_109_27); unfold In at a2)); (first | have a3 := in_u h1 | (have a3 := h1; unfold In at a3)); have oc := oc_300_109; omega
  have n10b : (u_109_27).toInt = (u_109_27).toInt := by (first | have a0 := in_u ro_109_29 | (have a0 := ro_109_29; unfold In at a0)); (first | have a1 := in_u ((inv_F hI 0 1000 rfl e_109_22)) | (have a1 := (inv_F hI 0 1000 rfl e_109_22); unfold In at a1)); (first | have a2 := in_u ((inv_F hI 0 1000 rfl e_109_27)) | (have a2 := (inv_F hI 0 1000 rfl e_109_27); unfold In at a2)); (first | have a3 := in_u h1 | (have a3 := h1; unfold In at a3)); have oc := oc_300_109; omega
  have n10c : (∀ i : Nat, (s.2.2.1 109 27).toInt.toNat ≤ i → (i : Int) < (u_109_27).toInt → tkD (s.1 125 i)) ∧ ((u_109_27).toInt.toNat - (s.2.2.1 109 27).toInt.toNat ≤ 7 → ((sG s 109 31 (Int64.ofInt 0)).2.2.2.1 109 31).toInt = tkN (s.1 125) (s.2.2.1 109 27).toInt.toNat ((u_109_27).toInt.toNat - (s.2.2.1 109 27).toInt.toNat)) := by exact ⟨fun i a b => by exfalso; rw [← e_109_27] at a; (first | have a0 := in_u ro_109_29 | (have a0 := ro_109_29; unfold In at a0)); (first | have a1 := in_u ((inv_F hI 0 1000 rfl e_109_22)) | (have a1 := (inv_F hI 0 1000 rfl e_109_22); unfold In at a1)); (first | have a2 := in_u ((inv_F hI 0 1000 rfl e_109_27)) | (have a2 := (inv_F hI 0 1000 rfl e_109_27); unfold In at a2)); (first | have a3 := in_u h1 | (have a3 := h1; unfold In at a3)); have oc := oc_300_109; omega, fun _ => by rw [show (u_109_27).toInt.toNat - (s.2.2.1 109 27).toInt.toNat = 0 from (by rw [← e_109_27]; (first | have a0 := in_u ro_109_29 | (have a0 := ro_109_29; unfold In at a0)); (first | have a1 := in_u ((inv_F hI 0 1000 rfl e_109_22)) | (have a1 := (inv_F hI 0 1000 rfl e_109_22); unfold In at a1)); (first | have a2 := in_u ((inv_F hI 0 1000 rfl e_109_27)) | (have a2 := (inv_F hI 0 1000 rfl e_109_27); unfold In at a2)); (first | have a3 := in_u h1 | (have a3 := h1; unfold In at a3)); have oc := oc_300_109; omega)]; rfl⟩
  have n10d : FSM s (sG s 109 31 (Int64.ofInt 0)) := by exact ⟨rfl, rfl⟩
  have m10 : (u_109_22).toInt - (u_109_27).toInt < ((1001 : Nat) : Int) := by (first | have a0 := in_u ro_109_29 | (have a0 := ro_109_29; unfold In at a0)); (first | have a1 := in_u ((inv_F hI 0 1000 rfl e_109_22)) | (have a1 := (inv_F hI 0 1000 rfl e_109_22); unfold In at a1)); (first | have a2 := in_u ((inv_F hI 0 1000 rfl e_109_27)) | (have a2 := (inv_F hI 0 1000 rfl e_109_27); unfold In at a2)); (first | have a3 := in_u h1 | (have a3 := h1; unfold In at a3)); have oc := oc_300_109; omega
  exact gg_w (by first | exact Nat.le_of_ble_eq_true rfl | omega) (gg_f (gf_cons rfl (gf_cons rfl (gf_cons rfl gf_nil))) (ct10 1001 (sG s 109 31 (Int64.ofInt 0)) u_109_27 u_109_27 hI7 (fr_sG rfl fr_rf) (in_w 0 1000 (inv_F hI 0 1000 rfl e_109_27) rfl) v10 n10 n10a n10b n10c n10d m10))
