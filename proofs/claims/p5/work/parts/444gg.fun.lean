section
/-! FUNCTIONAL CONTRACTS, by fgen.py -/
/-- GraphHouse$Script.accuse -/
theorem f_168_46 {Z : AmZ} {A : Nat → Nat} {s : GS} {ex : va_W} {d : Nat} {X : AmX} {x1 : Int32} {x2 : Int32} (hd : 1 ≤ d) (hI : Inv s) (h1 : In x1 1 5) (h2 : In x2 0 1000) : GC Z d 168 [.ref (A 46), .int x1, .int x2] (WW Z A s ++ ex) 0 0 (fun v u => ∃ t : GS, Inv t ∧ Fr fm_168_46 s t ∧ ∃ z : Int32, v = some (.int z) ∧ u = WW Z A t ++ ex ∧ In z 0 0 ∧ ((t.2.2.1 46 6) = x1 ∧ (t.2.2.1 46 7) = x2)) X := by
  intro post xp hP hX
  refine g_enter2 (k := 168) (N := 900) (by first | exact dq1 hd rfl | exact dq0 hd rfl | exact dq2 hd rfl | exact dq3 hd rfl | omega) rfl (Nat.le_of_ble_eq_true rfl) ?_
  refine g_aload_n 1 (gd rfl) rfl rfl ?_
  refine g_iload_n 2 (gd rfl) rfl rfl ?_
  refine g_putI 5 (gd rfl) rfl rfl rfl rfl ?_
  have hI2 := inv_sF (q := 46) (j := 6) hI rfl (in_w (-1) 5 h1 rfl)
  refine g_aload_n 6 (gd rfl) rfl rfl ?_
  refine g_iload_n 7 (gd rfl) rfl rfl ?_
  refine g_putI 10 (gd rfl) rfl rfl rfl rfl ?_
  have hI7 := inv_sF (q := 46) (j := 7) hI2 rfl (in_w (-1) 1000 h2 rfl)
  refine g_iconst 0 11 (gd rfl) rfl rfl ?_
  have n11 : ((sF (sF s 46 6 x1) 46 7 x2).2.2.1 46 6) = x1 ∧ ((sF (sF s 46 6 x1) 46 7 x2).2.2.1 46 7) = x2 := by exact ⟨((show x1 = (sF (sF s 46 6 x1) 46 7 x2).2.2.1 46 6 from sF_ne rfl (sF_get))).symm, ((show x2 = (sF (sF s 46 6 x1) 46 7 x2).2.2.1 46 7 from sF_get)).symm⟩
  exact g_ireturn (gd rfl) rfl (nb01 (in_w 0 1 (in_c 0 rfl) rfl)) (hP _ _ ⟨(sF (sF s 46 6 x1) 46 7 x2), hI7, (fr_sF rfl (fr_sF rfl fr_rf)), (Int32.ofInt 0), rfl, rfl, in_w 0 0 (in_c 0 rfl) rfl, n11⟩)

theorem oc_169_46 : (Int32.ofInt (-1)).toInt = (-1) ∧ (Int32.ofInt 0).toInt = 0 ∧ (Int32.ofInt 1).toInt = 1 ∧ (Int32.ofInt 4).toInt = 4 ∧ (Int32.ofInt 5).toInt = 5 := ⟨rfl, rfl, rfl, rfl, rfl⟩
/-- GraphHouse$Script.refuse -/
theorem f_169_46 {Z : AmZ} {A : Nat → Nat} {s : GS} {ex : va_W} {d : Nat} {X : AmX} {x1 : Int32} {x2 : Int32} {u_46_3 : Int32} {u_46_4 : Int32} (hd : 2 ≤ d) (hI : Inv s) (h1 : In x1 2 2) (h2 : In x2 3 3) (e_46_3 : u_46_3 = s.2.2.1 46 3) (e_46_4 : u_46_4 = s.2.2.1 46 4) : GC Z d 169 [.ref (A 46), .int x1, .int x2] (WW Z A s ++ ex) 0 0 (fun v u => ∃ t : GS, Inv t ∧ Fr fm_169_46 s t ∧ ∃ z : Int32, v = some (.int z) ∧ u = WW Z A t ++ ex ∧ In z 0 0 ∧ ((t.2.2.1 46 6).toInt = cmF (s.2.2.1 46 3).toInt ∧ (t.2.2.1 46 7) = s.2.2.1 46 4)) X := by
  intro post xp hP hX
  have ro_46_3 := inv_F hI 0 5 rfl e_46_3
  have ro_46_4 := inv_F hI 0 1000 rfl e_46_4
  refine g_enter2 (k := 169) (N := 900) (by first | exact dq1 hd rfl | exact dq0 hd rfl | exact dq2 hd rfl | exact dq3 hd rfl | omega) rfl (Nat.le_of_ble_eq_true rfl) ?_
  refine g_aload_n 1 (gd rfl) rfl rfl ?_
  refine g_getI 4 (gd rfl) rfl rfl rfl (fun z1 e1 => ?_)
  have q1 : u_46_3 = z1 := (e_46_3).trans e1.symm
  subst q1
  refine g_iconst 4 5 (gd rfl) rfl rfl ?_
  refine g_cmp_ne 8 18 (gd rfl) rfl rfl (fun c5 => ?_) (fun c5 => ?_)
  · skip
    refine g_aload_n 19 (gd rfl) rfl rfl ?_
    refine g_aload_n 20 (gd rfl) rfl rfl ?_
    refine g_getI 23 (gd rfl) rfl rfl rfl (fun z20 e20 => ?_)
    have q20 : u_46_3 = z20 := (e_46_3).trans e20.symm
    subst q20
    refine g_iconst 5 24 (gd rfl) rfl rfl ?_
    refine g_cmp_ne 27 31 (gd rfl) rfl rfl (fun c24 => ?_) (fun c24 => ?_)
    · skip
      have i24 := r_ne1 0 4 c24 (inv_F hI 0 5 rfl e_46_3) (in_c 5 rfl) rfl
      refine g_iload_n 32 (gd rfl) rfl rfl ?_
      refine g_aload_n 33 (gd rfl) rfl rfl ?_
      refine g_getI 36 (gd rfl) rfl rfl rfl (fun z33 e33 => ?_)
      have q33 : u_46_4 = z33 := (e_46_4).trans e33.symm
      subst q33
      refine g_callv (X := _) (As := [.int x1, .int u_46_4]) (r := []) (b := A 46) (q := 46) 39 (gd rfl) rfl rfl rfl rfl rfl (ww_o rfl) (Nat.le_of_ble_eq_true rfl) (Nat.zero_le _) (Nat.zero_le _) (f_168_46 (by first | exact dq1 hd rfl | exact dq0 hd rfl | exact dq2 hd rfl | exact dq3 hd rfl | omega) hI (in_w 1 5 h1 rfl) (in_w 0 1000 (inv_F hI 0 1000 rfl e_46_4) rfl)) (fun e u h => h) (fun v u h => ?_)
      obtain ⟨s36, hI36, hF36, z36, rfl, rfl, i36, p36⟩ := h
      show GG _ _ _ _ _ _ _ _ [.int z36] _ _ _
      have n39 : (s36.2.2.1 46 6).toInt = cmF (s.2.2.1 46 3).toInt ∧ (s36.2.2.1 46 7) = s.2.2.1 46 4 := by refine ⟨?_, by rw [p36.2, ← e_46_4]⟩; rw [p36.1, ← e_46_3]; unfold cmF; rw [if_neg (by exact (have a0 := in_u ((inv_F hI 0 1000 rfl e_46_4)); have a1 := in_u i24; have a2 := in_u h2; have a3 := in_u h1; have oc := oc_169_46; by omega))]; first | (rw [if_pos (by exact (have a0 := in_u ((inv_F hI 0 1000 rfl e_46_4)); have a1 := in_u i24; have a2 := in_u h2; have a3 := in_u h1; have oc := oc_169_46; by omega))]; exact (have a0 := in_u ((inv_F hI 0 1000 rfl e_46_4)); have a1 := in_u i24; have a2 := in_u h2; have a3 := in_u h1; have oc := oc_169_46; by omega)) | (rw [if_neg (by exact (have a0 := in_u ((inv_F hI 0 1000 rfl e_46_4)); have a1 := in_u i24; have a2 := in_u h2; have a3 := in_u h1; have oc := oc_169_46; by omega))]; exact (have a0 := in_u ((inv_F hI 0 1000 rfl e_46_4)); have a1 := in_u i24; have a2 := in_u h2; have a3 := in_u h1; have oc := oc_169_46; by omega))
      exact g_ireturn (gd rfl) rfl (nb01 (in_w 0 1 i36 rfl)) (hP _ _ ⟨s36, hI36, (fr_tr rfl fr_rf hF36), z36, rfl, rfl, in_w 0 0 i36 rfl, n39⟩)
    · skip
      have i24 := r_eq1 5 5 c24 (inv_F hI 0 5 rfl e_46_3) (in_c 5 rfl) rfl
      refine g_iload_n 28 (gd rfl) rfl rfl ?_
      refine g_goto 32 (gd rfl) rfl ?_
      refine g_aload_n 33 (gd rfl) rfl rfl ?_
      refine g_getI 36 (gd rfl) rfl rfl rfl (fun z33 e33 => ?_)
      have q33 : u_46_4 = z33 := (e_46_4).trans e33.symm
      subst q33
      refine g_callv (X := _) (As := [.int x2, .int u_46_4]) (r := []) (b := A 46) (q := 46) 39 (gd rfl) rfl rfl rfl rfl rfl (ww_o rfl) (Nat.le_of_ble_eq_true rfl) (Nat.zero_le _) (Nat.zero_le _) (f_168_46 (by first | exact dq1 hd rfl | exact dq0 hd rfl | exact dq2 hd rfl | exact dq3 hd rfl | omega) hI (in_w 1 5 h2 rfl) (in_w 0 1000 (inv_F hI 0 1000 rfl e_46_4) rfl)) (fun e u h => h) (fun v u h => ?_)
      obtain ⟨s36, hI36, hF36, z36, rfl, rfl, i36, p36⟩ := h
      show GG _ _ _ _ _ _ _ _ [.int z36] _ _ _
      have n39 : (s36.2.2.1 46 6).toInt = cmF (s.2.2.1 46 3).toInt ∧ (s36.2.2.1 46 7) = s.2.2.1 46 4 := by refine ⟨?_, by rw [p36.2, ← e_46_4]⟩; rw [p36.1, ← e_46_3]; unfold cmF; rw [if_neg (by exact (have a0 := in_u ((inv_F hI 0 1000 rfl e_46_4)); have a1 := in_u i24; have a2 := in_u h2; have a3 := in_u h1; have oc := oc_169_46; by omega))]; first | (rw [if_pos (by exact (have a0 := in_u ((inv_F hI 0 1000 rfl e_46_4)); have a1 := in_u i24; have a2 := in_u h2; have a3 := in_u h1; have oc := oc_169_46; by omega))]; exact (have a0 := in_u ((inv_F hI 0 1000 rfl e_46_4)); have a1 := in_u i24; have a2 := in_u h2; have a3 := in_u h1; have oc := oc_169_46; by omega)) | (rw [if_neg (by exact (have a0 := in_u ((inv_F hI 0 1000 rfl e_46_4)); have a1 := in_u i24; have a2 := in_u h2; have a3 := in_u h1; have oc := oc_169_46; by omega))]; exact (have a0 := in_u ((inv_F hI 0 1000 rfl e_46_4)); have a1 := in_u i24; have a2 := in_u h2; have a3 := in_u h1; have oc := oc_169_46; by omega))
      exact g_ireturn (gd rfl) rfl (nb01 (in_w 0 1 i36 rfl)) (hP _ _ ⟨s36, hI36, (fr_tr rfl fr_rf hF36), z36, rfl, rfl, in_w 0 0 i36 rfl, n39⟩)
  · skip
    have i5 := r_eq1 4 4 c5 (inv_F hI 0 5 rfl e_46_3) (in_c 4 rfl) rfl
    refine g_aload_n 9 (gd rfl) rfl rfl ?_
    refine g_iconst 1 10 (gd rfl) rfl rfl ?_
    refine g_aload_n 11 (gd rfl) rfl rfl ?_
    refine g_getI 14 (gd rfl) rfl rfl rfl (fun z11 e11 => ?_)
    have q11 : u_46_4 = z11 := (e_46_4).trans e11.symm
    subst q11
    refine g_callv (X := _) (As := [.int (Int32.ofInt 1), .int u_46_4]) (r := []) (b := A 46) (q := 46) 17 (gd rfl) rfl rfl rfl rfl rfl (ww_o rfl) (Nat.le_of_ble_eq_true rfl) (Nat.zero_le _) (Nat.zero_le _) (f_168_46 (by first | exact dq1 hd rfl | exact dq0 hd rfl | exact dq2 hd rfl | exact dq3 hd rfl | omega) hI (in_w 1 5 (in_c 1 rfl) rfl) (in_w 0 1000 (inv_F hI 0 1000 rfl e_46_4) rfl)) (fun e u h => h) (fun v u h => ?_)
    obtain ⟨s14, hI14, hF14, z14, rfl, rfl, i14, p14⟩ := h
    show GG _ _ _ _ _ _ _ _ [.int z14] _ _ _
    have n17 : (s14.2.2.1 46 6).toInt = cmF (s.2.2.1 46 3).toInt ∧ (s14.2.2.1 46 7) = s.2.2.1 46 4 := by refine ⟨?_, by rw [p14.2, ← e_46_4]⟩; rw [p14.1, ← e_46_3]; unfold cmF; rw [if_pos (by exact (have a0 := in_u ((inv_F hI 0 1000 rfl e_46_4)); have a1 := in_u i5; have a2 := in_u h2; have a3 := in_u h1; have oc := oc_169_46; by omega))]; rfl
    exact g_ireturn (gd rfl) rfl (nb01 (in_w 0 1 i14 rfl)) (hP _ _ ⟨s14, hI14, (fr_tr rfl fr_rf hF14), z14, rfl, rfl, in_w 0 0 i14 rfl, n17⟩)

/-- GraphHouse$Graph.copyOf -/
theorem f_93_16_2 {Z : AmZ} {A : Nat → Nat} {s : GS} {ex : va_W} {d : Nat} {X : AmX}  (hd : 1 ≤ d) (hI : Inv s)  : GC Z d 93 [.ref (A 16), .ref (A 2)] (WW Z A s ++ ex) 0 0 (fun v u => ∃ t : GS, Inv t ∧ Fr fm_93_16_2 s t ∧ v = none ∧ u = WW Z A t ++ ex ∧ (∀ p : Nat, p < 160 → t.1 18 p = s.1 4 p) ∧ (∀ p : Nat, p < 160 → t.1 19 p = s.1 5 p) ∧ (t.2.2.1 16 0 = s.2.2.1 2 0) ∧ (t.2.2.1 16 1 = s.2.2.1 2 1) ∧ (∀ p : Nat, p < 32 → t.1 17 p = s.1 3 p) ∧ (∀ p : Nat, p < 160 → t.1 20 p = s.1 6 p) ∧ (∀ p : Nat, p < 160 → t.1 21 p = s.1 7 p) ∧ (∀ p : Nat, p < 160 → t.1 22 p = s.1 8 p) ∧ (t.2.2.1 16 3 = s.2.2.1 2 3)) X := by
  intro post xp hP hX
  obtain ⟨u_2_0, e_2_0⟩ : ∃ w, w = s.2.2.1 2 0 := ⟨_, rfl⟩
  have ro_2_0 := inv_F hI 0 4000 rfl e_2_0
  obtain ⟨u_2_1, e_2_1⟩ : ∃ w, w = s.2.2.1 2 1 := ⟨_, rfl⟩
  have ro_2_1 := inv_F hI 0 32 rfl e_2_1
  obtain ⟨u_2_2, e_2_2⟩ : ∃ w, w = s.2.2.1 2 2 := ⟨_, rfl⟩
  obtain ⟨u_2_3, e_2_3⟩ : ∃ w, w = s.2.2.1 2 3 := ⟨_, rfl⟩
  have ro_2_3 := inv_F hI 0 160 rfl e_2_3
  refine g_enter2 (k := 93) (N := 900) (by first | exact dq1 hd rfl | exact dq0 hd rfl | exact dq2 hd rfl | exact dq3 hd rfl | omega) rfl (Nat.le_of_ble_eq_true rfl) ?_
  refine g_aload_n 1 (gd rfl) rfl rfl ?_
  refine g_aload_n 2 (gd rfl) rfl rfl ?_
  refine g_getI 5 (gd rfl) rfl rfl rfl (fun z2 e2 => ?_)
  have q2 : u_2_0 = z2 := (e_2_0).trans e2.symm
  subst q2
  refine g_putI 8 (gd rfl) rfl rfl rfl rfl ?_
  have hI5 := rng_sF (q := 16) (j := 0) hI.1 rfl (in_w 0 4000 ro_2_0 rfl)
  refine g_aload_n 9 (gd rfl) rfl rfl ?_
  refine g_aload_n 10 (gd rfl) rfl rfl ?_
  refine g_getI 13 (gd rfl) rfl rfl rfl (fun z10 e10 => ?_)
  have q10 : u_2_1 = z10 := (sF_ne rfl (e_2_1)).trans e10.symm
  subst q10
  refine g_putI 16 (gd rfl) rfl rfl rfl rfl ?_
  have hI13 := rng_sF (q := 16) (j := 1) hI5 rfl (in_w 0 32 ro_2_1 rfl)
  refine g_aload_n 17 (gd rfl) rfl rfl ?_
  refine g_aload_n 18 (gd rfl) rfl rfl ?_
  refine g_getI 21 (gd rfl) rfl rfl rfl (fun z18 e18 => ?_)
  have q18 : u_2_2 = z18 := (sF_ne rfl (sF_ne rfl (e_2_2))).trans e18.symm
  subst q18
  refine g_putI 24 (gd rfl) rfl rfl rfl rfl ?_
  have hI21 := rng_sF (q := 16) (j := 2) hI13 rfl (in_w (-2147483648) 2147483647 (i_rng u_2_2) rfl)
  refine g_aload_n 25 (gd rfl) rfl rfl ?_
  refine g_aload_n 26 (gd rfl) rfl rfl ?_
  refine g_getI 29 (gd rfl) rfl rfl rfl (fun z26 e26 => ?_)
  have q26 : u_2_3 = z26 := (sF_ne rfl (sF_ne rfl (sF_ne rfl (e_2_3)))).trans e26.symm
  subst q26
  refine g_putI 32 (gd rfl) rfl rfl rfl rfl ?_
  have hI29 := rng_sF (q := 16) (j := 3) hI21 rfl (in_w 0 160 ro_2_3 rfl)
  refine g_aload_n 33 (gd rfl) rfl rfl ?_
  refine g_iconst (-1) 34 (gd rfl) rfl rfl ?_
  refine g_putI 37 (gd rfl) rfl rfl rfl rfl ?_
  have hI34 := rng_sF (q := 16) (j := 4) hI29 rfl (in_w (-1) 4000 (in_c (-1) rfl) rfl)
  refine g_aload_n 38 (gd rfl) rfl rfl ?_
  refine g_getA (q2 := 3) 41 (gd rfl) rfl rfl rfl rfl ?_
  refine g_iconst 0 42 (gd rfl) rfl rfl ?_
  refine g_aload_n 43 (gd rfl) rfl rfl ?_
  refine g_getA (q2 := 17) 46 (gd rfl) rfl rfl rfl rfl ?_
  refine g_iconst 0 47 (gd rfl) rfl rfl ?_
  refine g_bipush 32 49 (gd rfl) rfl rfl ?_
  refine g_cpIr (q2 := 3) (q := 17) (n0 := 32) (n1 := 32) 52 (gd rfl) rfl rfl rfl rfl (Nat.le_of_ble_eq_true rfl) (cp_0 (in_c 0 rfl) rfl) (cp_0 (in_c 0 rfl) rfl) (cp_0 (in_c 32 rfl) rfl) (cp_1 (in_c 0 rfl) (in_c 32 rfl) rfl) (cp_1 (in_c 0 rfl) (in_c 32 rfl) rfl) hI34 rfl rfl rfl (fun s49 hI49 hF49 cp49 => ?_)
  refine g_aload_n 53 (gd rfl) rfl rfl ?_
  refine g_getA (q2 := 4) 56 (gd rfl) rfl rfl rfl rfl ?_
  refine g_iconst 0 57 (gd rfl) rfl rfl ?_
  refine g_aload_n 58 (gd rfl) rfl rfl ?_
  refine g_getA (q2 := 18) 61 (gd rfl) rfl rfl rfl rfl ?_
  refine g_iconst 0 62 (gd rfl) rfl rfl ?_
  refine g_sipush 160 65 (gd rfl) rfl rfl ?_
  refine g_cpIr (q2 := 4) (q := 18) (n0 := 160) (n1 := 160) 68 (gd rfl) rfl rfl rfl rfl (Nat.le_of_ble_eq_true rfl) (cp_0 (in_c 0 rfl) rfl) (cp_0 (in_c 0 rfl) rfl) (cp_0 (in_c 160 rfl) rfl) (cp_1 (in_c 0 rfl) (in_c 160 rfl) rfl) (cp_1 (in_c 0 rfl) (in_c 160 rfl) rfl) hI49 rfl rfl rfl (fun s65 hI65 hF65 cp65 => ?_)
  refine g_aload_n 69 (gd rfl) rfl rfl ?_
  refine g_getA (q2 := 5) 72 (gd rfl) rfl rfl rfl rfl ?_
  refine g_iconst 0 73 (gd rfl) rfl rfl ?_
  refine g_aload_n 74 (gd rfl) rfl rfl ?_
  refine g_getA (q2 := 19) 77 (gd rfl) rfl rfl rfl rfl ?_
  refine g_iconst 0 78 (gd rfl) rfl rfl ?_
  refine g_sipush 160 81 (gd rfl) rfl rfl ?_
  refine g_cpIr (q2 := 5) (q := 19) (n0 := 160) (n1 := 160) 84 (gd rfl) rfl rfl rfl rfl (Nat.le_of_ble_eq_true rfl) (cp_0 (in_c 0 rfl) rfl) (cp_0 (in_c 0 rfl) rfl) (cp_0 (in_c 160 rfl) rfl) (cp_1 (in_c 0 rfl) (in_c 160 rfl) rfl) (cp_1 (in_c 0 rfl) (in_c 160 rfl) rfl) hI65 rfl rfl rfl (fun s81 hI81 hF81 cp81 => ?_)
  refine g_aload_n 85 (gd rfl) rfl rfl ?_
  refine g_getA (q2 := 6) 88 (gd rfl) rfl rfl rfl rfl ?_
  refine g_iconst 0 89 (gd rfl) rfl rfl ?_
  refine g_aload_n 90 (gd rfl) rfl rfl ?_
  refine g_getA (q2 := 20) 93 (gd rfl) rfl rfl rfl rfl ?_
  refine g_iconst 0 94 (gd rfl) rfl rfl ?_
  refine g_sipush 160 97 (gd rfl) rfl rfl ?_
  refine g_cpIr (q2 := 6) (q := 20) (n0 := 160) (n1 := 160) 100 (gd rfl) rfl rfl rfl rfl (Nat.le_of_ble_eq_true rfl) (cp_0 (in_c 0 rfl) rfl) (cp_0 (in_c 0 rfl) rfl) (cp_0 (in_c 160 rfl) rfl) (cp_1 (in_c 0 rfl) (in_c 160 rfl) rfl) (cp_1 (in_c 0 rfl) (in_c 160 rfl) rfl) hI81 rfl rfl rfl (fun s97 hI97 hF97 cp97 => ?_)
  refine g_aload_n 101 (gd rfl) rfl rfl ?_
  refine g_getA (q2 := 7) 104 (gd rfl) rfl rfl rfl rfl ?_
  refine g_iconst 0 105 (gd rfl) rfl rfl ?_
  refine g_aload_n 106 (gd rfl) rfl rfl ?_
  refine g_getA (q2 := 21) 109 (gd rfl) rfl rfl rfl rfl ?_
  refine g_iconst 0 110 (gd rfl) rfl rfl ?_
  refine g_sipush 160 113 (gd rfl) rfl rfl ?_
  refine g_cpIr (q2 := 7) (q := 21) (n0 := 160) (n1 := 160) 116 (gd rfl) rfl rfl rfl rfl (Nat.le_of_ble_eq_true rfl) (cp_0 (in_c 0 rfl) rfl) (cp_0 (in_c 0 rfl) rfl) (cp_0 (in_c 160 rfl) rfl) (cp_1 (in_c 0 rfl) (in_c 160 rfl) rfl) (cp_1 (in_c 0 rfl) (in_c 160 rfl) rfl) hI97 rfl rfl rfl (fun s113 hI113 hF113 cp113 => ?_)
  refine g_aload_n 117 (gd rfl) rfl rfl ?_
  refine g_getA (q2 := 8) 120 (gd rfl) rfl rfl rfl rfl ?_
  refine g_iconst 0 121 (gd rfl) rfl rfl ?_
  refine g_aload_n 122 (gd rfl) rfl rfl ?_
  refine g_getA (q2 := 22) 125 (gd rfl) rfl rfl rfl rfl ?_
  refine g_iconst 0 126 (gd rfl) rfl rfl ?_
  refine g_sipush 160 129 (gd rfl) rfl rfl ?_
  refine g_cpIr (q2 := 8) (q := 22) (n0 := 160) (n1 := 160) 132 (gd rfl) rfl rfl rfl rfl (Nat.le_of_ble_eq_true rfl) (cp_0 (in_c 0 rfl) rfl) (cp_0 (in_c 0 rfl) rfl) (cp_0 (in_c 160 rfl) rfl) (cp_1 (in_c 0 rfl) (in_c 160 rfl) rfl) (cp_1 (in_c 0 rfl) (in_c 160 rfl) rfl) hI113 rfl rfl rfl (fun s129 hI129 hF129 cp129 => ?_)
  have hI132 : Inv s129 := by have hFF : Fr fm_93_16_2 s s129 := (fr_tr rfl (fr_tr rfl (fr_tr rfl (fr_tr rfl (fr_tr rfl (fr_tr rfl (fr_sF rfl (fr_sF rfl (fr_sF rfl (fr_sF rfl (fr_sF rfl fr_rf))))) hF49) hF65) hF81) hF97) hF113) hF129); exact ⟨hI129, kk_g hI.2.1 hFF rfl rfl rfl rfl rfl, kk_g hI.2.2.1 hFF rfl rfl rfl rfl rfl, kk_s hI.2.2.2.1 hFF rfl, kk_r hI.2.2.2.2 hFF rfl⟩
  have n132 : ∀ p : Nat, p < 160 → s129.1 18 p = s.1 4 p := by exact fun p hp => by rw [hF129.1 18 rfl, hF113.1 18 rfl, hF97.1 18 rfl, hF81.1 18 rfl, cp65 p, cp_get (show p < (Int32.ofInt 160).toNatClampNeg from hp), hF49.1 4 rfl]; rfl
  have n132a : ∀ p : Nat, p < 160 → s129.1 19 p = s.1 5 p := by exact fun p hp => by rw [hF129.1 19 rfl, hF113.1 19 rfl, hF97.1 19 rfl, cp81 p, cp_get (show p < (Int32.ofInt 160).toNatClampNeg from hp), hF65.1 5 rfl, hF49.1 5 rfl]; rfl
  have n132b : s129.2.2.1 16 0 = s.2.2.1 2 0 := by exact ((show u_2_0 = s129.2.2.1 16 0 from fr_F (fr_F (fr_F (fr_F (fr_F (fr_F (s := (sF (sF (sF (sF (sF s 16 0 u_2_0) 16 1 u_2_1) 16 2 u_2_2) 16 3 u_2_3) 16 4 (Int32.ofInt (-1)))) (sF_ne rfl (sF_ne rfl (sF_ne rfl (sF_ne rfl (sF_get))))) hF49 rfl) hF65 rfl) hF81 rfl) hF97 rfl) hF113 rfl) hF129 rfl)).symm.trans e_2_0
  have n132c : s129.2.2.1 16 1 = s.2.2.1 2 1 := by exact ((show u_2_1 = s129.2.2.1 16 1 from fr_F (fr_F (fr_F (fr_F (fr_F (fr_F (s := (sF (sF (sF (sF (sF s 16 0 u_2_0) 16 1 u_2_1) 16 2 u_2_2) 16 3 u_2_3) 16 4 (Int32.ofInt (-1)))) (sF_ne rfl (sF_ne rfl (sF_ne rfl (sF_get)))) hF49 rfl) hF65 rfl) hF81 rfl) hF97 rfl) hF113 rfl) hF129 rfl)).symm.trans e_2_1
  have n132d : ∀ p : Nat, p < 32 → s129.1 17 p = s.1 3 p := by exact fun p hp => by rw [hF129.1 17 rfl, hF113.1 17 rfl, hF97.1 17 rfl, hF81.1 17 rfl, hF65.1 17 rfl, cp49 p, cp_get (show p < (Int32.ofInt 32).toNatClampNeg from hp)]; rfl
  have n132e : ∀ p : Nat, p < 160 → s129.1 20 p = s.1 6 p := by exact fun p hp => by rw [hF129.1 20 rfl, hF113.1 20 rfl, cp97 p, cp_get (show p < (Int32.ofInt 160).toNatClampNeg from hp), hF81.1 6 rfl, hF65.1 6 rfl, hF49.1 6 rfl]; rfl
  have n132f : ∀ p : Nat, p < 160 → s129.1 21 p = s.1 7 p := by exact fun p hp => by rw [hF129.1 21 rfl, cp113 p, cp_get (show p < (Int32.ofInt 160).toNatClampNeg from hp), hF97.1 7 rfl, hF81.1 7 rfl, hF65.1 7 rfl, hF49.1 7 rfl]; rfl
  have n132g : ∀ p : Nat, p < 160 → s129.1 22 p = s.1 8 p := by exact fun p hp => by rw [cp129 p, cp_get (show p < (Int32.ofInt 160).toNatClampNeg from hp), hF113.1 8 rfl, hF97.1 8 rfl, hF81.1 8 rfl, hF65.1 8 rfl, hF49.1 8 rfl]; rfl
  have n132h : s129.2.2.1 16 3 = s.2.2.1 2 3 := by exact ((show u_2_3 = s129.2.2.1 16 3 from fr_F (fr_F (fr_F (fr_F (fr_F (fr_F (s := (sF (sF (sF (sF (sF s 16 0 u_2_0) 16 1 u_2_1) 16 2 u_2_2) 16 3 u_2_3) 16 4 (Int32.ofInt (-1)))) (sF_ne rfl (sF_get)) hF49 rfl) hF65 rfl) hF81 rfl) hF97 rfl) hF113 rfl) hF129 rfl)).symm.trans e_2_3
  exact g_return (gd rfl) rfl (hP _ _ ⟨s129, hI132, (fr_tr rfl (fr_tr rfl (fr_tr rfl (fr_tr rfl (fr_tr rfl (fr_tr rfl (fr_sF rfl (fr_sF rfl (fr_sF rfl (fr_sF rfl (fr_sF rfl fr_rf))))) hF49) hF65) hF81) hF97) hF113) hF129), rfl, rfl, n132, n132a, n132b, n132c, n132d, n132e, n132f, n132g, n132h⟩)

/-- GraphHouse$Graph.copyOf -/
theorem f_93_2_16 {Z : AmZ} {A : Nat → Nat} {s : GS} {ex : va_W} {d : Nat} {X : AmX}  (hd : 1 ≤ d) (hI : Inv s)  : GC Z d 93 [.ref (A 2), .ref (A 16)] (WW Z A s ++ ex) 0 0 (fun v u => ∃ t : GS, Inv t ∧ Fr fm_93_2_16 s t ∧ v = none ∧ u = WW Z A t ++ ex ∧ (∀ p : Nat, p < 160 → t.1 4 p = s.1 18 p) ∧ (∀ p : Nat, p < 160 → t.1 5 p = s.1 19 p) ∧ (t.2.2.1 2 0 = s.2.2.1 16 0) ∧ (t.2.2.1 2 1 = s.2.2.1 16 1) ∧ (∀ p : Nat, p < 32 → t.1 3 p = s.1 17 p) ∧ (∀ p : Nat, p < 160 → t.1 6 p = s.1 20 p) ∧ (∀ p : Nat, p < 160 → t.1 7 p = s.1 21 p) ∧ (∀ p : Nat, p < 160 → t.1 8 p = s.1 22 p) ∧ (t.2.2.1 2 3 = s.2.2.1 16 3)) X := by
  intro post xp hP hX
  obtain ⟨u_16_0, e_16_0⟩ : ∃ w, w = s.2.2.1 16 0 := ⟨_, rfl⟩
  have ro_16_0 := inv_F hI 0 4000 rfl e_16_0
  obtain ⟨u_16_1, e_16_1⟩ : ∃ w, w = s.2.2.1 16 1 := ⟨_, rfl⟩
  have ro_16_1 := inv_F hI 0 32 rfl e_16_1
  obtain ⟨u_16_2, e_16_2⟩ : ∃ w, w = s.2.2.1 16 2 := ⟨_, rfl⟩
  obtain ⟨u_16_3, e_16_3⟩ : ∃ w, w = s.2.2.1 16 3 := ⟨_, rfl⟩
  have ro_16_3 := inv_F hI 0 160 rfl e_16_3
  refine g_enter2 (k := 93) (N := 900) (by first | exact dq1 hd rfl | exact dq0 hd rfl | exact dq2 hd rfl | exact dq3 hd rfl | omega) rfl (Nat.le_of_ble_eq_true rfl) ?_
  refine g_aload_n 1 (gd rfl) rfl rfl ?_
  refine g_aload_n 2 (gd rfl) rfl rfl ?_
  refine g_getI 5 (gd rfl) rfl rfl rfl (fun z2 e2 => ?_)
  have q2 : u_16_0 = z2 := (e_16_0).trans e2.symm
  subst q2
  refine g_putI 8 (gd rfl) rfl rfl rfl rfl ?_
  have hI5 := rng_sF (q := 2) (j := 0) hI.1 rfl (in_w 0 4000 ro_16_0 rfl)
  refine g_aload_n 9 (gd rfl) rfl rfl ?_
  refine g_aload_n 10 (gd rfl) rfl rfl ?_
  refine g_getI 13 (gd rfl) rfl rfl rfl (fun z10 e10 => ?_)
  have q10 : u_16_1 = z10 := (sF_ne rfl (e_16_1)).trans e10.symm
  subst q10
  refine g_putI 16 (gd rfl) rfl rfl rfl rfl ?_
  have hI13 := rng_sF (q := 2) (j := 1) hI5 rfl (in_w 0 32 ro_16_1 rfl)
  refine g_aload_n 17 (gd rfl) rfl rfl ?_
  refine g_aload_n 18 (gd rfl) rfl rfl ?_
  refine g_getI 21 (gd rfl) rfl rfl rfl (fun z18 e18 => ?_)
  have q18 : u_16_2 = z18 := (sF_ne rfl (sF_ne rfl (e_16_2))).trans e18.symm
  subst q18
  refine g_putI 24 (gd rfl) rfl rfl rfl rfl ?_
  have hI21 := rng_sF (q := 2) (j := 2) hI13 rfl (in_w (-2147483648) 2147483647 (i_rng u_16_2) rfl)
  refine g_aload_n 25 (gd rfl) rfl rfl ?_
  refine g_aload_n 26 (gd rfl) rfl rfl ?_
  refine g_getI 29 (gd rfl) rfl rfl rfl (fun z26 e26 => ?_)
  have q26 : u_16_3 = z26 := (sF_ne rfl (sF_ne rfl (sF_ne rfl (e_16_3)))).trans e26.symm
  subst q26
  refine g_putI 32 (gd rfl) rfl rfl rfl rfl ?_
  have hI29 := rng_sF (q := 2) (j := 3) hI21 rfl (in_w 0 160 ro_16_3 rfl)
  refine g_aload_n 33 (gd rfl) rfl rfl ?_
  refine g_iconst (-1) 34 (gd rfl) rfl rfl ?_
  refine g_putI 37 (gd rfl) rfl rfl rfl rfl ?_
  have hI34 := rng_sF (q := 2) (j := 4) hI29 rfl (in_w (-1) 4000 (in_c (-1) rfl) rfl)
  refine g_aload_n 38 (gd rfl) rfl rfl ?_
  refine g_getA (q2 := 17) 41 (gd rfl) rfl rfl rfl rfl ?_
  refine g_iconst 0 42 (gd rfl) rfl rfl ?_
  refine g_aload_n 43 (gd rfl) rfl rfl ?_
  refine g_getA (q2 := 3) 46 (gd rfl) rfl rfl rfl rfl ?_
  refine g_iconst 0 47 (gd rfl) rfl rfl ?_
  refine g_bipush 32 49 (gd rfl) rfl rfl ?_
  refine g_cpIr (q2 := 17) (q := 3) (n0 := 32) (n1 := 32) 52 (gd rfl) rfl rfl rfl rfl (Nat.le_of_ble_eq_true rfl) (cp_0 (in_c 0 rfl) rfl) (cp_0 (in_c 0 rfl) rfl) (cp_0 (in_c 32 rfl) rfl) (cp_1 (in_c 0 rfl) (in_c 32 rfl) rfl) (cp_1 (in_c 0 rfl) (in_c 32 rfl) rfl) hI34 rfl rfl rfl (fun s49 hI49 hF49 cp49 => ?_)
  refine g_aload_n 53 (gd rfl) rfl rfl ?_
  refine g_getA (q2 := 18) 56 (gd rfl) rfl rfl rfl rfl ?_
  refine g_iconst 0 57 (gd rfl) rfl rfl ?_
  refine g_aload_n 58 (gd rfl) rfl rfl ?_
  refine g_getA (q2 := 4) 61 (gd rfl) rfl rfl rfl rfl ?_
  refine g_iconst 0 62 (gd rfl) rfl rfl ?_
  refine g_sipush 160 65 (gd rfl) rfl rfl ?_
  refine g_cpIr (q2 := 18) (q := 4) (n0 := 160) (n1 := 160) 68 (gd rfl) rfl rfl rfl rfl (Nat.le_of_ble_eq_true rfl) (cp_0 (in_c 0 rfl) rfl) (cp_0 (in_c 0 rfl) rfl) (cp_0 (in_c 160 rfl) rfl) (cp_1 (in_c 0 rfl) (in_c 160 rfl) rfl) (cp_1 (in_c 0 rfl) (in_c 160 rfl) rfl) hI49 rfl rfl rfl (fun s65 hI65 hF65 cp65 => ?_)
  refine g_aload_n 69 (gd rfl) rfl rfl ?_
  refine g_getA (q2 := 19) 72 (gd rfl) rfl rfl rfl rfl ?_
  refine g_iconst 0 73 (gd rfl) rfl rfl ?_
  refine g_aload_n 74 (gd rfl) rfl rfl ?_
  refine g_getA (q2 := 5) 77 (gd rfl) rfl rfl rfl rfl ?_
  refine g_iconst 0 78 (gd rfl) rfl rfl ?_
  refine g_sipush 160 81 (gd rfl) rfl rfl ?_
  refine g_cpIr (q2 := 19) (q := 5) (n0 := 160) (n1 := 160) 84 (gd rfl) rfl rfl rfl rfl (Nat.le_of_ble_eq_true rfl) (cp_0 (in_c 0 rfl) rfl) (cp_0 (in_c 0 rfl) rfl) (cp_0 (in_c 160 rfl) rfl) (cp_1 (in_c 0 rfl) (in_c 160 rfl) rfl) (cp_1 (in_c 0 rfl) (in_c 160 rfl) rfl) hI65 rfl rfl rfl (fun s81 hI81 hF81 cp81 => ?_)
  refine g_aload_n 85 (gd rfl) rfl rfl ?_
  refine g_getA (q2 := 20) 88 (gd rfl) rfl rfl rfl rfl ?_
  refine g_iconst 0 89 (gd rfl) rfl rfl ?_
  refine g_aload_n 90 (gd rfl) rfl rfl ?_
  refine g_getA (q2 := 6) 93 (gd rfl) rfl rfl rfl rfl ?_
  refine g_iconst 0 94 (gd rfl) rfl rfl ?_
  refine g_sipush 160 97 (gd rfl) rfl rfl ?_
  refine g_cpIr (q2 := 20) (q := 6) (n0 := 160) (n1 := 160) 100 (gd rfl) rfl rfl rfl rfl (Nat.le_of_ble_eq_true rfl) (cp_0 (in_c 0 rfl) rfl) (cp_0 (in_c 0 rfl) rfl) (cp_0 (in_c 160 rfl) rfl) (cp_1 (in_c 0 rfl) (in_c 160 rfl) rfl) (cp_1 (in_c 0 rfl) (in_c 160 rfl) rfl) hI81 rfl rfl rfl (fun s97 hI97 hF97 cp97 => ?_)
  refine g_aload_n 101 (gd rfl) rfl rfl ?_
  refine g_getA (q2 := 21) 104 (gd rfl) rfl rfl rfl rfl ?_
  refine g_iconst 0 105 (gd rfl) rfl rfl ?_
  refine g_aload_n 106 (gd rfl) rfl rfl ?_
  refine g_getA (q2 := 7) 109 (gd rfl) rfl rfl rfl rfl ?_
  refine g_iconst 0 110 (gd rfl) rfl rfl ?_
  refine g_sipush 160 113 (gd rfl) rfl rfl ?_
  refine g_cpIr (q2 := 21) (q := 7) (n0 := 160) (n1 := 160) 116 (gd rfl) rfl rfl rfl rfl (Nat.le_of_ble_eq_true rfl) (cp_0 (in_c 0 rfl) rfl) (cp_0 (in_c 0 rfl) rfl) (cp_0 (in_c 160 rfl) rfl) (cp_1 (in_c 0 rfl) (in_c 160 rfl) rfl) (cp_1 (in_c 0 rfl) (in_c 160 rfl) rfl) hI97 rfl rfl rfl (fun s113 hI113 hF113 cp113 => ?_)
  refine g_aload_n 117 (gd rfl) rfl rfl ?_
  refine g_getA (q2 := 22) 120 (gd rfl) rfl rfl rfl rfl ?_
  refine g_iconst 0 121 (gd rfl) rfl rfl ?_
  refine g_aload_n 122 (gd rfl) rfl rfl ?_
  refine g_getA (q2 := 8) 125 (gd rfl) rfl rfl rfl rfl ?_
  refine g_iconst 0 126 (gd rfl) rfl rfl ?_
  refine g_sipush 160 129 (gd rfl) rfl rfl ?_
  refine g_cpIr (q2 := 22) (q := 8) (n0 := 160) (n1 := 160) 132 (gd rfl) rfl rfl rfl rfl (Nat.le_of_ble_eq_true rfl) (cp_0 (in_c 0 rfl) rfl) (cp_0 (in_c 0 rfl) rfl) (cp_0 (in_c 160 rfl) rfl) (cp_1 (in_c 0 rfl) (in_c 160 rfl) rfl) (cp_1 (in_c 0 rfl) (in_c 160 rfl) rfl) hI113 rfl rfl rfl (fun s129 hI129 hF129 cp129 => ?_)
  have hI132 : Inv s129 := by have hFF : Fr fm_93_2_16 s s129 := (fr_tr rfl (fr_tr rfl (fr_tr rfl (fr_tr rfl (fr_tr rfl (fr_tr rfl (fr_sF rfl (fr_sF rfl (fr_sF rfl (fr_sF rfl (fr_sF rfl fr_rf))))) hF49) hF65) hF81) hF97) hF113) hF129); exact ⟨hI129, kk_un rfl rfl (by rw [← (show (Int32.ofInt (-1)) = s129.2.2.1 2 4 from fr_F (fr_F (fr_F (fr_F (fr_F (fr_F (s := (sF (sF (sF (sF (sF s 2 0 u_16_0) 2 1 u_16_1) 2 2 u_16_2) 2 3 u_16_3) 2 4 (Int32.ofInt (-1)))) (sF_get) hF49 rfl) hF65 rfl) hF81 rfl) hF97 rfl) hF113 rfl) hF129 rfl)]; rfl) (rng_F hI129 0 4000 rfl rfl).1, kk_g hI.2.2.1 hFF rfl rfl rfl rfl rfl, kk_s hI.2.2.2.1 hFF rfl, kk_r hI.2.2.2.2 hFF rfl⟩
  have n132 : ∀ p : Nat, p < 160 → s129.1 4 p = s.1 18 p := by exact fun p hp => by rw [hF129.1 4 rfl, hF113.1 4 rfl, hF97.1 4 rfl, hF81.1 4 rfl, cp65 p, cp_get (show p < (Int32.ofInt 160).toNatClampNeg from hp), hF49.1 18 rfl]; rfl
  have n132a : ∀ p : Nat, p < 160 → s129.1 5 p = s.1 19 p := by exact fun p hp => by rw [hF129.1 5 rfl, hF113.1 5 rfl, hF97.1 5 rfl, cp81 p, cp_get (show p < (Int32.ofInt 160).toNatClampNeg from hp), hF65.1 19 rfl, hF49.1 19 rfl]; rfl
  have n132b : s129.2.2.1 2 0 = s.2.2.1 16 0 := by exact ((show u_16_0 = s129.2.2.1 2 0 from fr_F (fr_F (fr_F (fr_F (fr_F (fr_F (s := (sF (sF (sF (sF (sF s 2 0 u_16_0) 2 1 u_16_1) 2 2 u_16_2) 2 3 u_16_3) 2 4 (Int32.ofInt (-1)))) (sF_ne rfl (sF_ne rfl (sF_ne rfl (sF_ne rfl (sF_get))))) hF49 rfl) hF65 rfl) hF81 rfl) hF97 rfl) hF113 rfl) hF129 rfl)).symm.trans e_16_0
  have n132c : s129.2.2.1 2 1 = s.2.2.1 16 1 := by exact ((show u_16_1 = s129.2.2.1 2 1 from fr_F (fr_F (fr_F (fr_F (fr_F (fr_F (s := (sF (sF (sF (sF (sF s 2 0 u_16_0) 2 1 u_16_1) 2 2 u_16_2) 2 3 u_16_3) 2 4 (Int32.ofInt (-1)))) (sF_ne rfl (sF_ne rfl (sF_ne rfl (sF_get)))) hF49 rfl) hF65 rfl) hF81 rfl) hF97 rfl) hF113 rfl) hF129 rfl)).symm.trans e_16_1
  have n132d : ∀ p : Nat, p < 32 → s129.1 3 p = s.1 17 p := by exact fun p hp => by rw [hF129.1 3 rfl, hF113.1 3 rfl, hF97.1 3 rfl, hF81.1 3 rfl, hF65.1 3 rfl, cp49 p, cp_get (show p < (Int32.ofInt 32).toNatClampNeg from hp)]; rfl
  have n132e : ∀ p : Nat, p < 160 → s129.1 6 p = s.1 20 p := by exact fun p hp => by rw [hF129.1 6 rfl, hF113.1 6 rfl, cp97 p, cp_get (show p < (Int32.ofInt 160).toNatClampNeg from hp), hF81.1 20 rfl, hF65.1 20 rfl, hF49.1 20 rfl]; rfl
  have n132f : ∀ p : Nat, p < 160 → s129.1 7 p = s.1 21 p := by exact fun p hp => by rw [hF129.1 7 rfl, cp113 p, cp_get (show p < (Int32.ofInt 160).toNatClampNeg from hp), hF97.1 21 rfl, hF81.1 21 rfl, hF65.1 21 rfl, hF49.1 21 rfl]; rfl
  have n132g : ∀ p : Nat, p < 160 → s129.1 8 p = s.1 22 p := by exact fun p hp => by rw [cp129 p, cp_get (show p < (Int32.ofInt 160).toNatClampNeg from hp), hF113.1 22 rfl, hF97.1 22 rfl, hF81.1 22 rfl, hF65.1 22 rfl, hF49.1 22 rfl]; rfl
  have n132h : s129.2.2.1 2 3 = s.2.2.1 16 3 := by exact ((show u_16_3 = s129.2.2.1 2 3 from fr_F (fr_F (fr_F (fr_F (fr_F (fr_F (s := (sF (sF (sF (sF (sF s 2 0 u_16_0) 2 1 u_16_1) 2 2 u_16_2) 2 3 u_16_3) 2 4 (Int32.ofInt (-1)))) (sF_ne rfl (sF_get)) hF49 rfl) hF65 rfl) hF81 rfl) hF97 rfl) hF113 rfl) hF129 rfl)).symm.trans e_16_3
  exact g_return (gd rfl) rfl (hP _ _ ⟨s129, hI132, (fr_tr rfl (fr_tr rfl (fr_tr rfl (fr_tr rfl (fr_tr rfl (fr_tr rfl (fr_sF rfl (fr_sF rfl (fr_sF rfl (fr_sF rfl (fr_sF rfl fr_rf))))) hF49) hF65) hF81) hF97) hF113) hF129), rfl, rfl, n132, n132a, n132b, n132c, n132d, n132e, n132f, n132g, n132h⟩)

theorem oc_138_1 : (Int32.ofInt (-1000000)).toInt = (-1000000) ∧ (Int32.ofInt (-3)).toInt = (-3) ∧ (Int32.ofInt (-1)).toInt = (-1) ∧ (Int32.ofInt 0).toInt = 0 ∧ (Int32.ofInt 1).toInt = 1 ∧ (Int32.ofInt 2).toInt = 2 ∧ (Int32.ofInt 3).toInt = 3 ∧ (Int32.ofInt 4).toInt = 4 ∧ (Int32.ofInt 13).toInt = 13 ∧ (Int32.ofInt 19).toInt = 19 ∧ (Int32.ofInt 26).toInt = 26 ∧ (Int32.ofInt 32).toInt = 32 ∧ (Int32.ofInt 4000).toInt = 4000 ∧ (Int32.ofInt 1000000).toInt = 1000000 := ⟨rfl, rfl, rfl, rfl, rfl, rfl, rfl, rfl, rfl, rfl, rfl, rfl, rfl, rfl⟩
/-- GraphHouse$Ledger.doCommand -/
theorem f_138_1 {Z : AmZ} {A : Nat → Nat} {s : GS} {ex : va_W} {d : Nat} {X : AmX} {x1 : Int32} {u_2_0 : Int32} {u_2_1 : Int32} {u_30_0 : Int32} {u_2_3 : Int32} (hd : 8 ≤ d) (hI : Inv s) (h1 : In x1 (-1) 25) (e_2_0 : u_2_0 = s.2.2.1 2 0) (e_2_1 : u_2_1 = s.2.2.1 2 1) (e_30_0 : u_30_0 = s.2.2.1 30 0) (e_2_3 : u_2_3 = s.2.2.1 2 3) (q_0 : KL s) (q_1 : (x1).toInt = 13 → In (s.1 31 0) 0 25) (q_2 : cmI (x1).toInt) (q_3 : TQ s) (q_4 : (x1).toInt = 0 → In (s.1 31 4) 0 25) : GC Z d 138 [.ref (A 1), .int x1] (WW Z A s ++ ex) (lc s) (lsl s) (fun v u => ∃ a : Nat, ∃ t : GS, Inv t ∧ Fr fm_138_1 s t ∧ ((s.2.2.1 2 0).toInt ≤ (t.2.2.1 2 0).toInt) ∧ ∃ z : Int32, v = some (.int z) ∧ u = WW Z (ax A 30 a) t ++ ex ∧ In z 0 1 ∧ (KL t) ∧ ((z).toInt ≠ 0 → (t.2.2.1 30 0).toInt = nln s) ∧ ((z).toInt ≠ 0 → (s.2.2.1 2 0).toInt ≤ 3999) ∧ (∀ k : Nat, (k : Int) < 7 * (s.2.2.1 2 0).toInt → t.1 30 k = s.1 30 k) ∧ ((z).toInt ≠ 0 → dkC (gvC s) (x1).toInt (V31 s) ∧ gvC t = opC (gvC s) (x1).toInt (V31 s) ∧ TQ t) ∧ ((z).toInt = 0 → ¬ dkC (gvC s) (x1).toInt (V31 s))) X := by
  intro post xp hP hX
  refine g_enter2 (k := 138) (N := 900) (by first | exact dq1 hd rfl | exact dq0 hd rfl | exact dq2 hd rfl | exact dq3 hd rfl | omega) rfl (Nat.le_of_ble_eq_true rfl) ?_
  refine g_aload_n 1 (gd rfl) rfl rfl ?_
  refine g_callv (X := _) (As := []) (r := []) (b := A 1) (q := 1) 4 (gd rfl) rfl rfl rfl rfl rfl (ww_o rfl) (Nat.le_of_ble_eq_true rfl) (mc := 0) (ms := 0) (Nat.zero_le _) (Nat.zero_le _) (P := fun v u => _) ?_ (fun e u h => h) (fun v u h => h)
  intro po1 xx1 hp1 hx1
  refine g_enter2 (k := 122) (N := 300) (by first | exact dq1 hd rfl | exact dq0 hd rfl | exact dq2 hd rfl | exact dq3 hd rfl | omega) rfl (Nat.le_of_ble_eq_true rfl) ?_
  refine g_aload_n 1 (gd rfl) rfl rfl ?_
  refine g_getA (q2 := 2) 4 (gd rfl) rfl rfl rfl rfl ?_
  refine g_getI 7 (gd rfl) rfl rfl rfl (fun z1x4 e1x4 => ?_)
  have q1x4 : u_2_0 = z1x4 := (e_2_0).trans e1x4.symm
  subst q1x4
  refine g_sipush 4000 10 (gd rfl) rfl rfl ?_
  refine g_cmp_lt 13 17 (gd rfl) rfl rfl (fun c1x10 => ?_) (fun c1x10 => ?_)
  · skip
    have i1x10 := r_lt1 0 3999 c1x10 (inv_F hI 0 4000 rfl e_2_0) (in_c 4000 rfl) rfl
    refine g_iconst 0 18 (gd rfl) rfl rfl ?_
    refine g_ireturn (gd rfl) rfl (nb01 (in_w 0 1 (in_c 0 rfl) rfl)) (hp1 _ _ ?_)
    show GG _ _ _ _ _ _ _ _ [.int (Int32.ofInt 0)] _ _ _
    refine g_if_eq 7 9 (gd rfl) rfl rfl (fun c4 => ?_) (fun c4 => ?_)
    · skip
      refine g_iload_n 10 (gd rfl) rfl rfl ?_
      refine g_bipush 13 12 (gd rfl) rfl rfl ?_
      refine g_cmp_ne 15 46 (gd rfl) rfl rfl (fun c12 => ?_) (fun c12 => ?_)
      · skip
        refine g_iload_n 47 (gd rfl) rfl rfl ?_
        refine g_if_ne 50 132 (gd rfl) rfl rfl (fun c47 => ?_) (fun c47 => ?_)
        · skip
          refine g_aload_n 133 (gd rfl) rfl rfl ?_
          refine g_getA (q2 := 2) 136 (gd rfl) rfl rfl rfl rfl ?_
          refine g_aload_n 137 (gd rfl) rfl rfl ?_
          refine g_getA (q2 := 31) 140 (gd rfl) rfl rfl rfl rfl ?_
          refine g_iconst 0 141 (gd rfl) rfl rfl ?_
          refine g_iaload 142 (gd rfl) rfl (n := 5) rfl (in_ix (in_c 0 rfl) rfl) (fun z141 e141 => ?_)
          refine g_callv (X := _) (As := [.int z141]) (r := []) (b := A 2) (q := 2) 145 (gd rfl) rfl rfl rfl rfl rfl (ww_o rfl) (Nat.le_of_ble_eq_true rfl) (mc := 0) (ms := 0) (Nat.zero_le _) (Nat.zero_le _) (P := fun v u => _) ?_ (fun e u h => h) (fun v u h => h)
          intro po142 xx142 hp142 hx142
          refine g_enter2 (k := 96) (N := 300) (by first | exact dq1 hd rfl | exact dq0 hd rfl | exact dq2 hd rfl | exact dq3 hd rfl | omega) rfl (Nat.le_of_ble_eq_true rfl) ?_
          refine g_iload_n 1 (gd rfl) rfl rfl ?_
          refine g_if_lt 4 26 (gd rfl) rfl rfl (fun c142x1 => ?_) (fun c142x1 => ?_)
          · skip
            have i142x1 := z_lt (-2147483648) (-1) c142x1 (i_rng z141) rfl
            refine g_iconst 0 27 (gd rfl) rfl rfl ?_
            refine g_ireturn (gd rfl) rfl (nb01 (in_w 0 1 (in_c 0 rfl) rfl)) (hp142 _ _ ?_)
            show GG _ _ _ _ _ _ _ _ [.int (Int32.ofInt 0)] _ _ _
            refine g_if_ne 148 150 (gd rfl) rfl rfl (fun c145 => ?_) (fun c145 => ?_)
            · skip
              exact zn_ne c145 (in_c 0 rfl) rfl
            · skip
              refine g_iconst 0 149 (gd rfl) rfl rfl ?_
              have n149 : KL s := by exact q_0
              have n149a : ((Int32.ofInt 0)).toInt ≠ 0 → (s.2.2.1 30 0).toInt = nln s := by intro h; exact absurd rfl h
              have n149b : ((Int32.ofInt 0)).toInt ≠ 0 → (s.2.2.1 2 0).toInt ≤ 3999 := by first | (intro h; exact absurd rfl h) | (intro _; rw [← e_2_0]; exact (have a0 := in_u ((inv_F hI 0 160 rfl e_2_3)); have a1 := in_u ((inv_F hI 448 28000 rfl e_30_0)); have a2 := in_u ((inv_F hI 0 32 rfl e_2_1)); have a3 := in_u i1x10; have a4 := in_u h1; have oc := oc_138_1; by omega))
              have n149c : ∀ k : Nat, (k : Int) < 7 * (s.2.2.1 2 0).toInt → s.1 30 k = s.1 30 k := by exact fun k _ => rfl
              have n149d : ((Int32.ofInt 0)).toInt ≠ 0 → dkC (gvC s) (x1).toInt (V31 s) ∧ gvC s = opC (gvC s) (x1).toInt (V31 s) ∧ TQ s := by intro h; exact absurd rfl h
              have n149e : ((Int32.ofInt 0)).toInt = 0 → ¬ dkC (gvC s) (x1).toInt (V31 s) := by intro _ h; have hg := dk_t q_2 (by exact (have a0 := in_u ((inv_F hI 0 160 rfl e_2_3)); have a1 := in_u ((inv_F hI 448 28000 rfl e_30_0)); have a2 := in_u ((inv_F hI 0 32 rfl e_2_1)); have a3 := in_u i1x10; have a4 := in_u h1; have oc := oc_138_1; by omega)) (by exact (have a0 := in_u ((inv_F hI 0 160 rfl e_2_3)); have a1 := in_u ((inv_F hI 448 28000 rfl e_30_0)); have a2 := in_u ((inv_F hI 0 32 rfl e_2_1)); have a3 := in_u i1x10; have a4 := in_u h1; have oc := oc_138_1; by omega)) h; have h7 : 0 ≤ (s.1 31 0).toInt := hg.1; have h8 : (s.1 31 0).toInt ≤ 159 := hg.2.1; have h9 : (s.1 4 (s.1 31 0).toInt.toNat).toInt ≠ -1 := hg.2.2; rw [show s.1 31 0 = z141 from e141.symm] at h7 h8 h9; have h6 := q_3 z141.toInt.toNat (by omega) h9; rw [← e_2_3] at h6; exact (have a0 := in_u ((inv_F hI 0 160 rfl e_2_3)); have a1 := in_u ((inv_F hI 448 28000 rfl e_30_0)); have a2 := in_u ((inv_F hI 0 32 rfl e_2_1)); have a3 := in_u i1x10; have a4 := in_u h1; have oc := oc_138_1; by omega)
              have n149f : (u_2_0).toInt ≤ (u_2_0).toInt := by exact (have a0 := in_u ((inv_F hI 0 160 rfl e_2_3)); have a1 := in_u ((inv_F hI 448 28000 rfl e_30_0)); have a2 := in_u ((inv_F hI 0 32 rfl e_2_1)); have a3 := in_u i1x10; have a4 := in_u h1; have oc := oc_138_1; by omega)
              have n149g : (s.2.2.1 2 0).toInt ≤ (s.2.2.1 2 0).toInt := by have b0 : u_2_0 = s.2.2.1 2 0 := e_2_0; first | (rw [← b0, ← e_2_0]; exact n149f) | (rw [← b0]; exact n149f)
              exact g_ireturn (gd rfl) rfl (nb01 (in_w 0 1 (in_c 0 rfl) rfl)) (hP _ _ ⟨(A 30), s, hI, fr_rf, n149g, (Int32.ofInt 0), rfl, (by rw [ax_id]), in_w 0 1 (in_c 0 rfl) rfl, n149, n149a, n149b, n149c, n149d, n149e⟩)
          · skip
            have i142x1 := z_ge 0 2147483647 c142x1 (i_rng z141) rfl
            refine g_iload_n 5 (gd rfl) rfl rfl ?_
            refine g_aload_n 6 (gd rfl) rfl rfl ?_
            refine g_getI 9 (gd rfl) rfl rfl rfl (fun z142x6 e142x6 => ?_)
            have q142x6 : u_2_3 = z142x6 := (e_2_3).trans e142x6.symm
            subst q142x6
            refine g_cmp_ge 12 26 (gd rfl) rfl rfl (fun c142x9 => ?_) (fun c142x9 => ?_)
            · skip
              refine g_iconst 0 27 (gd rfl) rfl rfl ?_
              refine g_ireturn (gd rfl) rfl (nb01 (in_w 0 1 (in_c 0 rfl) rfl)) (hp142 _ _ ?_)
              show GG _ _ _ _ _ _ _ _ [.int (Int32.ofInt 0)] _ _ _
              refine g_if_ne 148 150 (gd rfl) rfl rfl (fun c145 => ?_) (fun c145 => ?_)
              · skip
                exact zn_ne c145 (in_c 0 rfl) rfl
              · skip
                refine g_iconst 0 149 (gd rfl) rfl rfl ?_
                have n149 : KL s := by exact q_0
                have n149a : ((Int32.ofInt 0)).toInt ≠ 0 → (s.2.2.1 30 0).toInt = nln s := by intro h; exact absurd rfl h
                have n149b : ((Int32.ofInt 0)).toInt ≠ 0 → (s.2.2.1 2 0).toInt ≤ 3999 := by first | (intro h; exact absurd rfl h) | (intro _; rw [← e_2_0]; exact (have a0 := in_u ((inv_F hI 0 160 rfl e_2_3)); have a1 := in_u ((inv_F hI 448 28000 rfl e_30_0)); have a2 := in_u ((inv_F hI 0 32 rfl e_2_1)); have a3 := in_u i1x10; have a4 := in_u h1; have oc := oc_138_1; by omega))
                have n149c : ∀ k : Nat, (k : Int) < 7 * (s.2.2.1 2 0).toInt → s.1 30 k = s.1 30 k := by exact fun k _ => rfl
                have n149d : ((Int32.ofInt 0)).toInt ≠ 0 → dkC (gvC s) (x1).toInt (V31 s) ∧ gvC s = opC (gvC s) (x1).toInt (V31 s) ∧ TQ s := by intro h; exact absurd rfl h
                have n149e : ((Int32.ofInt 0)).toInt = 0 → ¬ dkC (gvC s) (x1).toInt (V31 s) := by intro _ h; have hg := dk_t q_2 (by exact (have a0 := in_u ((inv_F hI 0 160 rfl e_2_3)); have a1 := in_u ((inv_F hI 448 28000 rfl e_30_0)); have a2 := in_u ((inv_F hI 0 32 rfl e_2_1)); have a3 := in_u i1x10; have a4 := in_u h1; have oc := oc_138_1; by omega)) (by exact (have a0 := in_u ((inv_F hI 0 160 rfl e_2_3)); have a1 := in_u ((inv_F hI 448 28000 rfl e_30_0)); have a2 := in_u ((inv_F hI 0 32 rfl e_2_1)); have a3 := in_u i1x10; have a4 := in_u h1; have oc := oc_138_1; by omega)) h; have h7 : 0 ≤ (s.1 31 0).toInt := hg.1; have h8 : (s.1 31 0).toInt ≤ 159 := hg.2.1; have h9 : (s.1 4 (s.1 31 0).toInt.toNat).toInt ≠ -1 := hg.2.2; rw [show s.1 31 0 = z141 from e141.symm] at h7 h8 h9; have h6 := q_3 z141.toInt.toNat (by omega) h9; rw [← e_2_3] at h6; exact (have a0 := in_u ((inv_F hI 0 160 rfl e_2_3)); have a1 := in_u ((inv_F hI 448 28000 rfl e_30_0)); have a2 := in_u ((inv_F hI 0 32 rfl e_2_1)); have a3 := in_u i1x10; have a4 := in_u h1; have oc := oc_138_1; by omega)
                have n149f : (u_2_0).toInt ≤ (u_2_0).toInt := by exact (have a0 := in_u ((inv_F hI 0 160 rfl e_2_3)); have a1 := in_u ((inv_F hI 448 28000 rfl e_30_0)); have a2 := in_u ((inv_F hI 0 32 rfl e_2_1)); have a3 := in_u i1x10; have a4 := in_u h1; have oc := oc_138_1; by omega)
                have n149g : (s.2.2.1 2 0).toInt ≤ (s.2.2.1 2 0).toInt := by have b0 : u_2_0 = s.2.2.1 2 0 := e_2_0; first | (rw [← b0, ← e_2_0]; exact n149f) | (rw [← b0]; exact n149f)
                exact g_ireturn (gd rfl) rfl (nb01 (in_w 0 1 (in_c 0 rfl) rfl)) (hP _ _ ⟨(A 30), s, hI, fr_rf, n149g, (Int32.ofInt 0), rfl, (by rw [ax_id]), in_w 0 1 (in_c 0 rfl) rfl, n149, n149a, n149b, n149c, n149d, n149e⟩)
            · skip
              have i142x9 := r_lt1 0 159 c142x9 i142x1 (inv_F hI 0 160 rfl e_2_3) rfl
              have i142x9a := r_lt2 1 160 c142x9 i142x1 (inv_F hI 0 160 rfl e_2_3) rfl
              refine g_aload_n 13 (gd rfl) rfl rfl ?_
              refine g_getA (q2 := 4) 16 (gd rfl) rfl rfl rfl rfl ?_
              refine g_iload_n 17 (gd rfl) rfl rfl ?_
              refine g_iaload 18 (gd rfl) rfl (n := 160) rfl (in_ix i142x9 rfl) (fun z142x17 e142x17 => ?_)
              have i142x17 := inv_I hI (n := 160) (t := 0) (-1) 31 rfl (in_ix i142x9 rfl) rfl e142x17
              refine g_iconst (-1) 19 (gd rfl) rfl rfl ?_
              refine g_cmp_eq 22 26 (gd rfl) rfl rfl (fun c142x19 => ?_) (fun c142x19 => ?_)
              · skip
                have i142x19 := r_eq1 (-1) (-1) c142x19 i142x17 (in_c (-1) rfl) rfl
                refine g_iconst 0 27 (gd rfl) rfl rfl ?_
                refine g_ireturn (gd rfl) rfl (nb01 (in_w 0 1 (in_c 0 rfl) rfl)) (hp142 _ _ ?_)
                show GG _ _ _ _ _ _ _ _ [.int (Int32.ofInt 0)] _ _ _
                refine g_if_ne 148 150 (gd rfl) rfl rfl (fun c145 => ?_) (fun c145 => ?_)
                · skip
                  exact zn_ne c145 (in_c 0 rfl) rfl
                · skip
                  refine g_iconst 0 149 (gd rfl) rfl rfl ?_
                  have n149 : KL s := by exact q_0
                  have n149a : ((Int32.ofInt 0)).toInt ≠ 0 → (s.2.2.1 30 0).toInt = nln s := by intro h; exact absurd rfl h
                  have n149b : ((Int32.ofInt 0)).toInt ≠ 0 → (s.2.2.1 2 0).toInt ≤ 3999 := by first | (intro h; exact absurd rfl h) | (intro _; rw [← e_2_0]; exact (have a0 := in_u i142x9a; have a1 := in_u ((inv_F hI 448 28000 rfl e_30_0)); have a2 := in_u ((inv_F hI 0 32 rfl e_2_1)); have a3 := in_u i1x10; have a4 := in_u h1; have oc := oc_138_1; by omega))
                  have n149c : ∀ k : Nat, (k : Int) < 7 * (s.2.2.1 2 0).toInt → s.1 30 k = s.1 30 k := by exact fun k _ => rfl
                  have n149d : ((Int32.ofInt 0)).toInt ≠ 0 → dkC (gvC s) (x1).toInt (V31 s) ∧ gvC s = opC (gvC s) (x1).toInt (V31 s) ∧ TQ s := by intro h; exact absurd rfl h
                  have n149e : ((Int32.ofInt 0)).toInt = 0 → ¬ dkC (gvC s) (x1).toInt (V31 s) := by intro _ h; have hg := dk_t q_2 (by exact (have a0 := in_u i142x9a; have a1 := in_u ((inv_F hI 448 28000 rfl e_30_0)); have a2 := in_u ((inv_F hI 0 32 rfl e_2_1)); have a3 := in_u i1x10; have a4 := in_u h1; have oc := oc_138_1; by omega)) (by exact (have a0 := in_u i142x9a; have a1 := in_u ((inv_F hI 448 28000 rfl e_30_0)); have a2 := in_u ((inv_F hI 0 32 rfl e_2_1)); have a3 := in_u i1x10; have a4 := in_u h1; have oc := oc_138_1; by omega)) h; have h7 : 0 ≤ (s.1 31 0).toInt := hg.1; have h8 : (s.1 31 0).toInt ≤ 159 := hg.2.1; have h9 : (s.1 4 (s.1 31 0).toInt.toNat).toInt ≠ -1 := hg.2.2; rw [show s.1 31 0 = z141 from e141.symm] at h7 h8 h9; rw [show s.1 4 z141.toInt.toNat = z142x17 from e142x17.symm] at h9; exact (have a0 := in_u i142x9a; have a1 := in_u ((inv_F hI 448 28000 rfl e_30_0)); have a2 := in_u ((inv_F hI 0 32 rfl e_2_1)); have a3 := in_u i1x10; have a4 := in_u h1; have oc := oc_138_1; by omega)
                  have n149f : (u_2_0).toInt ≤ (u_2_0).toInt := by exact (have a0 := in_u i142x9a; have a1 := in_u ((inv_F hI 448 28000 rfl e_30_0)); have a2 := in_u ((inv_F hI 0 32 rfl e_2_1)); have a3 := in_u i1x10; have a4 := in_u h1; have oc := oc_138_1; by omega)
                  have n149g : (s.2.2.1 2 0).toInt ≤ (s.2.2.1 2 0).toInt := by have b0 : u_2_0 = s.2.2.1 2 0 := e_2_0; first | (rw [← b0, ← e_2_0]; exact n149f) | (rw [← b0]; exact n149f)
                  exact g_ireturn (gd rfl) rfl (nb01 (in_w 0 1 (in_c 0 rfl) rfl)) (hP _ _ ⟨(A 30), s, hI, fr_rf, n149g, (Int32.ofInt 0), rfl, (by rw [ax_id]), in_w 0 1 (in_c 0 rfl) rfl, n149, n149a, n149b, n149c, n149d, n149e⟩)
              · skip
                have i142x19 := r_ne1 0 31 c142x19 i142x17 (in_c (-1) rfl) rfl
                refine g_iconst 1 23 (gd rfl) rfl rfl ?_
                refine g_goto 27 (gd rfl) rfl ?_
                refine g_ireturn (gd rfl) rfl (nb01 (in_w 0 1 (in_c 1 rfl) rfl)) (hp142 _ _ ?_)
                show GG _ _ _ _ _ _ _ _ [.int (Int32.ofInt 1)] _ _ _
                refine g_if_ne 148 150 (gd rfl) rfl rfl (fun c145 => ?_) (fun c145 => ?_)
                · skip
                  refine g_iload_n 151 (gd rfl) rfl rfl ?_
                  refine g_bipush 19 153 (gd rfl) rfl rfl ?_
                  refine g_cmp_ne 156 168 (gd rfl) rfl rfl (fun c153 => ?_) (fun c153 => ?_)
                  · skip
                    refine g_aload_n 169 (gd rfl) rfl rfl ?_
                    refine g_getA (q2 := 31) 172 (gd rfl) rfl rfl rfl rfl ?_
                    refine g_iconst 1 173 (gd rfl) rfl rfl ?_
                    refine g_iaload 174 (gd rfl) rfl (n := 5) rfl (in_ix (in_c 1 rfl) rfl) (fun z173 e173 => ?_)
                    refine g_calls (As := [.int z173]) (r := []) 177 (gd rfl) rfl rfl rfl rfl rfl (Nat.le_of_ble_eq_true rfl) (mc := 0) (ms := 0) (Nat.zero_le _) (Nat.zero_le _) (P := fun v u => _) ?_ (fun v u h => h)
                    intro po174 xx174 hp174 hx174
                    refine g_enter2 (k := 261) (N := 300) (by first | exact dq1 hd rfl | exact dq0 hd rfl | exact dq2 hd rfl | exact dq3 hd rfl | omega) rfl (Nat.le_of_ble_eq_true rfl) ?_
                    refine g_iload_n 1 (gd rfl) rfl rfl ?_
                    refine g_ldc_w (-1000000) 4 (gd rfl) rfl rfl ?_
                    refine g_cmp_lt 7 18 (gd rfl) rfl rfl (fun c174x4 => ?_) (fun c174x4 => ?_)
                    · skip
                      have i174x4 := r_lt1 (-2147483648) (-1000001) c174x4 (i_rng z173) (in_c (-1000000) rfl) rfl
                      refine g_iconst 0 19 (gd rfl) rfl rfl ?_
                      refine g_ireturn (gd rfl) rfl (nb01 (in_w 0 1 (in_c 0 rfl) rfl)) (hp174 _ _ ?_)
                      show GG _ _ _ _ _ _ _ _ [.int (Int32.ofInt 0)] _ _ _
                      refine g_if_ne 180 182 (gd rfl) rfl rfl (fun c177 => ?_) (fun c177 => ?_)
                      · skip
                        exact zn_ne c177 (in_c 0 rfl) rfl
                      · skip
                        refine g_iconst 0 181 (gd rfl) rfl rfl ?_
                        have n181 : KL s := by exact q_0
                        have n181a : ((Int32.ofInt 0)).toInt ≠ 0 → (s.2.2.1 30 0).toInt = nln s := by intro h; exact absurd rfl h
                        have n181b : ((Int32.ofInt 0)).toInt ≠ 0 → (s.2.2.1 2 0).toInt ≤ 3999 := by first | (intro h; exact absurd rfl h) | (intro _; rw [← e_2_0]; exact (have a0 := in_u i142x9a; have a1 := in_u ((inv_F hI 448 28000 rfl e_30_0)); have a2 := in_u ((inv_F hI 0 32 rfl e_2_1)); have a3 := in_u i1x10; have a4 := in_u h1; have oc := oc_138_1; by omega))
                        have n181c : ∀ k : Nat, (k : Int) < 7 * (s.2.2.1 2 0).toInt → s.1 30 k = s.1 30 k := by exact fun k _ => rfl
                        have n181d : ((Int32.ofInt 0)).toInt ≠ 0 → dkC (gvC s) (x1).toInt (V31 s) ∧ gvC s = opC (gvC s) (x1).toInt (V31 s) ∧ TQ s := by intro h; exact absurd rfl h
                        have n181e : ((Int32.ofInt 0)).toInt = 0 → ¬ dkC (gvC s) (x1).toInt (V31 s) := by intro _ h; have h9 : -1000000 ≤ (s.1 31 1).toInt ∧ (s.1 31 1).toInt ≤ 1000000 := (h.2.2.2.2 (by rcases q_2 with e | e | e | e; (exact (have a0 := in_u i142x9a; have a1 := in_u ((inv_F hI 448 28000 rfl e_30_0)); have a2 := in_u ((inv_F hI 0 32 rfl e_2_1)); have a3 := in_u i1x10; have a4 := in_u h1; have oc := oc_138_1; by omega)); (exact (have a0 := in_u i142x9a; have a1 := in_u ((inv_F hI 448 28000 rfl e_30_0)); have a2 := in_u ((inv_F hI 0 32 rfl e_2_1)); have a3 := in_u i1x10; have a4 := in_u h1; have oc := oc_138_1; by omega)); (exact (have a0 := in_u i142x9a; have a1 := in_u ((inv_F hI 448 28000 rfl e_30_0)); have a2 := in_u ((inv_F hI 0 32 rfl e_2_1)); have a3 := in_u i1x10; have a4 := in_u h1; have oc := oc_138_1; by omega)); (exact e))).2; rw [show s.1 31 1 = z173 from e173.symm] at h9; exact (have a0 := in_u i142x9a; have a1 := in_u ((inv_F hI 448 28000 rfl e_30_0)); have a2 := in_u ((inv_F hI 0 32 rfl e_2_1)); have a3 := in_u i1x10; have a4 := in_u h1; have oc := oc_138_1; by omega)
                        have n181f : (u_2_0).toInt ≤ (u_2_0).toInt := by exact (have a0 := in_u i142x9a; have a1 := in_u ((inv_F hI 448 28000 rfl e_30_0)); have a2 := in_u ((inv_F hI 0 32 rfl e_2_1)); have a3 := in_u i1x10; have a4 := in_u h1; have oc := oc_138_1; by omega)
                        have n181g : (s.2.2.1 2 0).toInt ≤ (s.2.2.1 2 0).toInt := by have b0 : u_2_0 = s.2.2.1 2 0 := e_2_0; first | (rw [← b0, ← e_2_0]; exact n181f) | (rw [← b0]; exact n181f)
                        exact g_ireturn (gd rfl) rfl (nb01 (in_w 0 1 (in_c 0 rfl) rfl)) (hP _ _ ⟨(A 30), s, hI, fr_rf, n181g, (Int32.ofInt 0), rfl, (by rw [ax_id]), in_w 0 1 (in_c 0 rfl) rfl, n181, n181a, n181b, n181c, n181d, n181e⟩)
                    · skip
                      have i174x4 := r_le2 (-1000000) 2147483647 c174x4 (in_c (-1000000) rfl) (i_rng z173) rfl
                      refine g_iload_n 8 (gd rfl) rfl rfl ?_
                      refine g_ldc_w 1000000 11 (gd rfl) rfl rfl ?_
                      refine g_cmp_gt 14 18 (gd rfl) rfl rfl (fun c174x11 => ?_) (fun c174x11 => ?_)
                      · skip
                        have i174x11 := r_lt2 1000001 2147483647 c174x11 (in_c 1000000 rfl) i174x4 rfl
                        refine g_iconst 0 19 (gd rfl) rfl rfl ?_
                        refine g_ireturn (gd rfl) rfl (nb01 (in_w 0 1 (in_c 0 rfl) rfl)) (hp174 _ _ ?_)
                        show GG _ _ _ _ _ _ _ _ [.int (Int32.ofInt 0)] _ _ _
                        refine g_if_ne 180 182 (gd rfl) rfl rfl (fun c177 => ?_) (fun c177 => ?_)
                        · skip
                          exact zn_ne c177 (in_c 0 rfl) rfl
                        · skip
                          refine g_iconst 0 181 (gd rfl) rfl rfl ?_
                          have n181 : KL s := by exact q_0
                          have n181a : ((Int32.ofInt 0)).toInt ≠ 0 → (s.2.2.1 30 0).toInt = nln s := by intro h; exact absurd rfl h
                          have n181b : ((Int32.ofInt 0)).toInt ≠ 0 → (s.2.2.1 2 0).toInt ≤ 3999 := by first | (intro h; exact absurd rfl h) | (intro _; rw [← e_2_0]; exact (have a0 := in_u i142x9a; have a1 := in_u ((inv_F hI 448 28000 rfl e_30_0)); have a2 := in_u ((inv_F hI 0 32 rfl e_2_1)); have a3 := in_u i1x10; have a4 := in_u h1; have oc := oc_138_1; by omega))
                          have n181c : ∀ k : Nat, (k : Int) < 7 * (s.2.2.1 2 0).toInt → s.1 30 k = s.1 30 k := by exact fun k _ => rfl
                          have n181d : ((Int32.ofInt 0)).toInt ≠ 0 → dkC (gvC s) (x1).toInt (V31 s) ∧ gvC s = opC (gvC s) (x1).toInt (V31 s) ∧ TQ s := by intro h; exact absurd rfl h
                          have n181e : ((Int32.ofInt 0)).toInt = 0 → ¬ dkC (gvC s) (x1).toInt (V31 s) := by intro _ h; have h9 : -1000000 ≤ (s.1 31 1).toInt ∧ (s.1 31 1).toInt ≤ 1000000 := (h.2.2.2.2 (by rcases q_2 with e | e | e | e; (exact (have a0 := in_u i142x9a; have a1 := in_u ((inv_F hI 448 28000 rfl e_30_0)); have a2 := in_u ((inv_F hI 0 32 rfl e_2_1)); have a3 := in_u i1x10; have a4 := in_u h1; have oc := oc_138_1; by omega)); (exact (have a0 := in_u i142x9a; have a1 := in_u ((inv_F hI 448 28000 rfl e_30_0)); have a2 := in_u ((inv_F hI 0 32 rfl e_2_1)); have a3 := in_u i1x10; have a4 := in_u h1; have oc := oc_138_1; by omega)); (exact (have a0 := in_u i142x9a; have a1 := in_u ((inv_F hI 448 28000 rfl e_30_0)); have a2 := in_u ((inv_F hI 0 32 rfl e_2_1)); have a3 := in_u i1x10; have a4 := in_u h1; have oc := oc_138_1; by omega)); (exact e))).2; rw [show s.1 31 1 = z173 from e173.symm] at h9; exact (have a0 := in_u i142x9a; have a1 := in_u ((inv_F hI 448 28000 rfl e_30_0)); have a2 := in_u ((inv_F hI 0 32 rfl e_2_1)); have a3 := in_u i1x10; have a4 := in_u h1; have oc := oc_138_1; by omega)
                          have n181f : (u_2_0).toInt ≤ (u_2_0).toInt := by exact (have a0 := in_u i142x9a; have a1 := in_u ((inv_F hI 448 28000 rfl e_30_0)); have a2 := in_u ((inv_F hI 0 32 rfl e_2_1)); have a3 := in_u i1x10; have a4 := in_u h1; have oc := oc_138_1; by omega)
                          have n181g : (s.2.2.1 2 0).toInt ≤ (s.2.2.1 2 0).toInt := by have b0 : u_2_0 = s.2.2.1 2 0 := e_2_0; first | (rw [← b0, ← e_2_0]; exact n181f) | (rw [← b0]; exact n181f)
                          exact g_ireturn (gd rfl) rfl (nb01 (in_w 0 1 (in_c 0 rfl) rfl)) (hP _ _ ⟨(A 30), s, hI, fr_rf, n181g, (Int32.ofInt 0), rfl, (by rw [ax_id]), in_w 0 1 (in_c 0 rfl) rfl, n181, n181a, n181b, n181c, n181d, n181e⟩)
                      · skip
                        have i174x11 := r_le1 (-1000000) 1000000 c174x11 i174x4 (in_c 1000000 rfl) rfl
                        refine g_iconst 1 15 (gd rfl) rfl rfl ?_
                        refine g_goto 19 (gd rfl) rfl ?_
                        refine g_ireturn (gd rfl) rfl (nb01 (in_w 0 1 (in_c 1 rfl) rfl)) (hp174 _ _ ?_)
                        show GG _ _ _ _ _ _ _ _ [.int (Int32.ofInt 1)] _ _ _
                        refine g_if_ne 180 182 (gd rfl) rfl rfl (fun c177 => ?_) (fun c177 => ?_)
                        · skip
                          refine g_aload_n 183 (gd rfl) rfl rfl ?_
                          refine g_aload_n 184 (gd rfl) rfl rfl ?_
                          refine g_getA (q2 := 31) 187 (gd rfl) rfl rfl rfl rfl ?_
                          refine g_iconst 0 188 (gd rfl) rfl rfl ?_
                          refine g_iaload 189 (gd rfl) rfl (n := 5) rfl (in_ix (in_c 0 rfl) rfl) (fun z188 e188 => ?_)
                          have q188 : z141 = z188 := (e141).trans e188.symm
                          subst q188
                          refine g_iconst 0 190 (gd rfl) rfl rfl ?_
                          refine g_aload_n 191 (gd rfl) rfl rfl ?_
                          refine g_getA (q2 := 31) 194 (gd rfl) rfl rfl rfl rfl ?_
                          refine g_iconst 1 195 (gd rfl) rfl rfl ?_
                          refine g_iaload 196 (gd rfl) rfl (n := 5) rfl (in_ix (in_c 1 rfl) rfl) (fun z195 e195 => ?_)
                          have q195 : z173 = z195 := (e173).trans e195.symm
                          subst q195
                          have p196 : KL s := by exact q_0
                          have p196a : ((Int32.ofInt 0)).toInt = 0 → In z173 (-1000000) 1000000 := by intro _; exact in_w (-1000000) 1000000 i174x11 rfl
                          have p196b : ((Int32.ofInt 0)).toInt = 1 → In z173 0 1000000 := by intro h; exact absurd h (by decide)
                          have p196c : ((Int32.ofInt 0)).toInt ≠ 0 → ((Int32.ofInt 0)).toInt ≠ 1 → In z173 0 25 := by intro h; exact absurd rfl h
                          refine g_callv (X := _) (As := [.int z141, .int (Int32.ofInt 0), .int z173]) (r := []) (b := A 1) (q := 1) 199 (gd rfl) rfl rfl rfl rfl rfl (ww_o rfl) (Nat.le_of_ble_eq_true rfl) (Nat.le_of_eq (lc_cg ((show Fr ([], [], [], []) s s from fr_rf).2.2.1 30 0 rfl) ((show Fr ([], [], [], []) s s from fr_rf).2.2.1 2 0 rfl)).1) (Nat.le_of_eq (lc_cg ((show Fr ([], [], [], []) s s from fr_rf).2.2.1 30 0 rfl) ((show Fr ([], [], [], []) s s from fr_rf).2.2.1 2 0 rfl)).2.1) (f_127_1 (by first | exact dq1 hd rfl | exact dq0 hd rfl | exact dq2 hd rfl | exact dq3 hd rfl | omega) hI (in_w 0 159 i142x9 rfl) e_2_0 e_2_1 e_30_0 (in_w 0 3999 i1x10 rfl) p196 p196a p196b p196c) (fun e u h => h) (fun v u h => ?_)
                          obtain ⟨a196, s196, hI196, hF196, n196, rfl, rfl, p196d, p196e, p196f, p196g, p196h, p196i⟩ := h
                          obtain ⟨z196a, e196⟩ : ∃ w, w = s196.2.2.1 2 0 := ⟨_, rfl⟩
                          have i196a := inv_F hI196 0 4000 rfl e196
                          rw [← (show u_2_0 = s.2.2.1 2 0 from e_2_0)] at n196
                          rw [← (show z196a = s196.2.2.1 2 0 from e196)] at n196
                          show GG _ _ _ _ _ _ _ _ [] _ _ _
                          refine g_iconst 1 200 (gd rfl) rfl rfl ?_
                          have n200 : KL s196 := by exact p196d
                          have n200a : ((Int32.ofInt 1)).toInt ≠ 0 → (s196.2.2.1 30 0).toInt = nln s := by intro _; exact p196e
                          have n200b : ((Int32.ofInt 1)).toInt ≠ 0 → (s.2.2.1 2 0).toInt ≤ 3999 := by first | (intro h; exact absurd rfl h) | (intro _; rw [← e_2_0]; exact (have a0 := in_u i142x9a; have a1 := in_u ((inv_F hI 448 28000 rfl e_30_0)); have a2 := in_u ((inv_F hI 0 32 rfl e_2_1)); have a3 := in_u i1x10; have a4 := in_u h1; have a5 := in_u i196a; have oc := oc_138_1; by omega))
                          have n200c : ∀ k : Nat, (k : Int) < 7 * (s.2.2.1 2 0).toInt → s196.1 30 k = s.1 30 k := by exact p196f
                          have n200d : ((Int32.ofInt 1)).toInt ≠ 0 → dkC (gvC s) (x1).toInt (V31 s) ∧ gvC s196 = opC (gvC s) (x1).toInt (V31 s) ∧ TQ s196 := by intro _; exact ⟨dk_22 (by rcases q_2 with e | e | e | e; (exact (have a0 := in_u i142x9a; have a1 := in_u ((inv_F hI 448 28000 rfl e_30_0)); have a2 := in_u ((inv_F hI 0 32 rfl e_2_1)); have a3 := in_u i1x10; have a4 := in_u h1; have a5 := in_u i196a; have oc := oc_138_1; by omega)); (exact (have a0 := in_u i142x9a; have a1 := in_u ((inv_F hI 448 28000 rfl e_30_0)); have a2 := in_u ((inv_F hI 0 32 rfl e_2_1)); have a3 := in_u i1x10; have a4 := in_u h1; have a5 := in_u i196a; have oc := oc_138_1; by omega)); (exact (have a0 := in_u i142x9a; have a1 := in_u ((inv_F hI 448 28000 rfl e_30_0)); have a2 := in_u ((inv_F hI 0 32 rfl e_2_1)); have a3 := in_u i1x10; have a4 := in_u h1; have a5 := in_u i196a; have oc := oc_138_1; by omega)); (exact e)) (show (s.2.2.1 2 0).toInt ≤ 3999 from by rw [← e_2_0]; exact (have a0 := in_u i142x9a; have a1 := in_u ((inv_F hI 448 28000 rfl e_30_0)); have a2 := in_u ((inv_F hI 0 32 rfl e_2_1)); have a3 := in_u i1x10; have a4 := in_u h1; have a5 := in_u i196a; have oc := oc_138_1; by omega)) (show gvT (gvC s) (V31 s 0) from ⟨show 0 ≤ (s.1 31 0).toInt from by rw [show s.1 31 0 = z141 from e141.symm]; exact (have a0 := in_u i142x9a; have a1 := in_u ((inv_F hI 448 28000 rfl e_30_0)); have a2 := in_u ((inv_F hI 0 32 rfl e_2_1)); have a3 := in_u i1x10; have a4 := in_u h1; have a5 := in_u i196a; have oc := oc_138_1; by omega), show (s.1 31 0).toInt ≤ 159 from by rw [show s.1 31 0 = z141 from e141.symm]; exact (have a0 := in_u i142x9a; have a1 := in_u ((inv_F hI 448 28000 rfl e_30_0)); have a2 := in_u ((inv_F hI 0 32 rfl e_2_1)); have a3 := in_u i1x10; have a4 := in_u h1; have a5 := in_u i196a; have oc := oc_138_1; by omega), show (s.1 4 (s.1 31 0).toInt.toNat).toInt ≠ -1 from by rw [show s.1 31 0 = z141 from e141.symm, show s.1 4 z141.toInt.toNat = z142x17 from e142x17.symm]; exact (have a0 := in_u i142x9a; have a1 := in_u ((inv_F hI 448 28000 rfl e_30_0)); have a2 := in_u ((inv_F hI 0 32 rfl e_2_1)); have a3 := in_u i1x10; have a4 := in_u h1; have a5 := in_u i196a; have oc := oc_138_1; by omega)⟩) (show -1000000 ≤ (s.1 31 1).toInt ∧ (s.1 31 1).toInt ≤ 1000000 from by rw [show s.1 31 1 = z173 from e173.symm]; exact ⟨by exact (have a0 := in_u i142x9a; have a1 := in_u ((inv_F hI 448 28000 rfl e_30_0)); have a2 := in_u ((inv_F hI 0 32 rfl e_2_1)); have a3 := in_u i1x10; have a4 := in_u h1; have a5 := in_u i196a; have oc := oc_138_1; by omega), by exact (have a0 := in_u i142x9a; have a1 := in_u ((inv_F hI 448 28000 rfl e_30_0)); have a2 := in_u ((inv_F hI 0 32 rfl e_2_1)); have a3 := in_u i1x10; have a4 := in_u h1; have a5 := in_u i196a; have oc := oc_138_1; by omega)⟩), by rw [p196g, opC_22 (by rcases q_2 with e | e | e | e; (exact (have a0 := in_u i142x9a; have a1 := in_u ((inv_F hI 448 28000 rfl e_30_0)); have a2 := in_u ((inv_F hI 0 32 rfl e_2_1)); have a3 := in_u i1x10; have a4 := in_u h1; have a5 := in_u i196a; have oc := oc_138_1; by omega)); (exact (have a0 := in_u i142x9a; have a1 := in_u ((inv_F hI 448 28000 rfl e_30_0)); have a2 := in_u ((inv_F hI 0 32 rfl e_2_1)); have a3 := in_u i1x10; have a4 := in_u h1; have a5 := in_u i196a; have oc := oc_138_1; by omega)); (exact (have a0 := in_u i142x9a; have a1 := in_u ((inv_F hI 448 28000 rfl e_30_0)); have a2 := in_u ((inv_F hI 0 32 rfl e_2_1)); have a3 := in_u i1x10; have a4 := in_u h1; have a5 := in_u i196a; have oc := oc_138_1; by omega)); (exact e)), show s.1 31 0 = z141 from e141.symm, show s.1 31 1 = z173 from e173.symm], p196h q_3⟩
                          have n200e : ((Int32.ofInt 1)).toInt = 0 → ¬ dkC (gvC s) (x1).toInt (V31 s) := by intro h; exact absurd h (by decide)
                          have n200f : (u_2_0).toInt ≤ (z196a).toInt := by exact (have a0 := in_u i142x9a; have a1 := in_u ((inv_F hI 448 28000 rfl e_30_0)); have a2 := in_u ((inv_F hI 0 32 rfl e_2_1)); have a3 := in_u i1x10; have a4 := in_u h1; have a5 := in_u i196a; have oc := oc_138_1; by omega)
                          have n200g : (s.2.2.1 2 0).toInt ≤ (s196.2.2.1 2 0).toInt := by have b0 : z196a = s196.2.2.1 2 0 := e196; first | (rw [← b0, ← e_2_0]; exact n200f) | (rw [← b0]; exact n200f)
                          exact g_ireturn (gd rfl) rfl (nb01 (in_w 0 1 (in_c 1 rfl) rfl)) (hP _ _ ⟨a196, s196, hI196, (fr_tr rfl fr_rf hF196), n200g, (Int32.ofInt 1), rfl, rfl, in_w 0 1 (in_c 1 rfl) rfl, n200, n200a, n200b, n200c, n200d, n200e⟩)
                        · skip
                          exact zn_eq c177 (in_c 1 rfl) rfl
                  · skip
                    have i153 := r_eq1 19 19 c153 h1 (in_c 19 rfl) rfl
                    refine g_aload_n 157 (gd rfl) rfl rfl ?_
                    refine g_aload_n 158 (gd rfl) rfl rfl ?_
                    refine g_getA (q2 := 31) 161 (gd rfl) rfl rfl rfl rfl ?_
                    refine g_iconst 0 162 (gd rfl) rfl rfl ?_
                    refine g_iaload 163 (gd rfl) rfl (n := 5) rfl (in_ix (in_c 0 rfl) rfl) (fun z162 e162 => ?_)
                    have q162 : z141 = z162 := (e141).trans e162.symm
                    subst q162
                    have p163 : KL s := by exact q_0
                    refine g_callv (X := _) (As := [.int z141]) (r := []) (b := A 1) (q := 1) 166 (gd rfl) rfl rfl rfl rfl rfl (ww_o rfl) (Nat.le_of_ble_eq_true rfl) (Nat.le_of_eq (lc_cg ((show Fr ([], [], [], []) s s from fr_rf).2.2.1 30 0 rfl) ((show Fr ([], [], [], []) s s from fr_rf).2.2.1 2 0 rfl)).1) (Nat.le_of_eq (lc_cg ((show Fr ([], [], [], []) s s from fr_rf).2.2.1 30 0 rfl) ((show Fr ([], [], [], []) s s from fr_rf).2.2.1 2 0 rfl)).2.1) (f_126_1 (by first | exact dq1 hd rfl | exact dq0 hd rfl | exact dq2 hd rfl | exact dq3 hd rfl | omega) hI (in_w 0 159 i142x9 rfl) e_2_0 e_2_1 e_30_0 (in_w 0 3999 i1x10 rfl) p163) (fun e u h => h) (fun v u h => ?_)
                    obtain ⟨a163, s163, hI163, hF163, n163, rfl, rfl, p163a, p163b, p163c, p163d, p163e, p163f⟩ := h
                    obtain ⟨z163a, e163⟩ : ∃ w, w = s163.2.2.1 2 0 := ⟨_, rfl⟩
                    have i163a := inv_F hI163 0 4000 rfl e163
                    rw [← (show u_2_0 = s.2.2.1 2 0 from e_2_0)] at n163
                    rw [← (show z163a = s163.2.2.1 2 0 from e163)] at n163
                    show GG _ _ _ _ _ _ _ _ [] _ _ _
                    refine g_iconst 1 167 (gd rfl) rfl rfl ?_
                    have n167 : KL s163 := by exact p163a
                    have n167a : ((Int32.ofInt 1)).toInt ≠ 0 → (s163.2.2.1 30 0).toInt = nln s := by intro _; exact p163b
                    have n167b : ((Int32.ofInt 1)).toInt ≠ 0 → (s.2.2.1 2 0).toInt ≤ 3999 := by first | (intro h; exact absurd rfl h) | (intro _; rw [← e_2_0]; exact (have a0 := in_u i142x9a; have a1 := in_u ((inv_F hI 448 28000 rfl e_30_0)); have a2 := in_u ((inv_F hI 0 32 rfl e_2_1)); have a3 := in_u i1x10; have a4 := in_u i153; have a5 := in_u i163a; have oc := oc_138_1; by omega))
                    have n167c : ∀ k : Nat, (k : Int) < 7 * (s.2.2.1 2 0).toInt → s163.1 30 k = s.1 30 k := by exact p163c
                    have n167d : ((Int32.ofInt 1)).toInt ≠ 0 → dkC (gvC s) (x1).toInt (V31 s) ∧ gvC s163 = opC (gvC s) (x1).toInt (V31 s) ∧ TQ s163 := by intro _; exact ⟨dk_19 (by exact (have a0 := in_u i142x9a; have a1 := in_u ((inv_F hI 448 28000 rfl e_30_0)); have a2 := in_u ((inv_F hI 0 32 rfl e_2_1)); have a3 := in_u i1x10; have a4 := in_u i153; have a5 := in_u i163a; have oc := oc_138_1; by omega)) (show (s.2.2.1 2 0).toInt ≤ 3999 from by rw [← e_2_0]; exact (have a0 := in_u i142x9a; have a1 := in_u ((inv_F hI 448 28000 rfl e_30_0)); have a2 := in_u ((inv_F hI 0 32 rfl e_2_1)); have a3 := in_u i1x10; have a4 := in_u i153; have a5 := in_u i163a; have oc := oc_138_1; by omega)) (show gvT (gvC s) (V31 s 0) from ⟨show 0 ≤ (s.1 31 0).toInt from by rw [show s.1 31 0 = z141 from e141.symm]; exact (have a0 := in_u i142x9a; have a1 := in_u ((inv_F hI 448 28000 rfl e_30_0)); have a2 := in_u ((inv_F hI 0 32 rfl e_2_1)); have a3 := in_u i1x10; have a4 := in_u i153; have a5 := in_u i163a; have oc := oc_138_1; by omega), show (s.1 31 0).toInt ≤ 159 from by rw [show s.1 31 0 = z141 from e141.symm]; exact (have a0 := in_u i142x9a; have a1 := in_u ((inv_F hI 448 28000 rfl e_30_0)); have a2 := in_u ((inv_F hI 0 32 rfl e_2_1)); have a3 := in_u i1x10; have a4 := in_u i153; have a5 := in_u i163a; have oc := oc_138_1; by omega), show (s.1 4 (s.1 31 0).toInt.toNat).toInt ≠ -1 from by rw [show s.1 31 0 = z141 from e141.symm, show s.1 4 z141.toInt.toNat = z142x17 from e142x17.symm]; exact (have a0 := in_u i142x9a; have a1 := in_u ((inv_F hI 448 28000 rfl e_30_0)); have a2 := in_u ((inv_F hI 0 32 rfl e_2_1)); have a3 := in_u i1x10; have a4 := in_u i153; have a5 := in_u i163a; have oc := oc_138_1; by omega)⟩), by rw [p163d, opC_19 (by exact (have a0 := in_u i142x9a; have a1 := in_u ((inv_F hI 448 28000 rfl e_30_0)); have a2 := in_u ((inv_F hI 0 32 rfl e_2_1)); have a3 := in_u i1x10; have a4 := in_u i153; have a5 := in_u i163a; have oc := oc_138_1; by omega)), show s.1 31 0 = z141 from e141.symm], p163e q_3⟩
                    have n167e : ((Int32.ofInt 1)).toInt = 0 → ¬ dkC (gvC s) (x1).toInt (V31 s) := by intro h; exact absurd h (by decide)
                    have n167f : (u_2_0).toInt ≤ (z163a).toInt := by exact (have a0 := in_u i142x9a; have a1 := in_u ((inv_F hI 448 28000 rfl e_30_0)); have a2 := in_u ((inv_F hI 0 32 rfl e_2_1)); have a3 := in_u i1x10; have a4 := in_u i153; have a5 := in_u i163a; have oc := oc_138_1; by omega)
                    have n167g : (s.2.2.1 2 0).toInt ≤ (s163.2.2.1 2 0).toInt := by have b0 : z163a = s163.2.2.1 2 0 := e163; first | (rw [← b0, ← e_2_0]; exact n167f) | (rw [← b0]; exact n167f)
                    exact g_ireturn (gd rfl) rfl (nb01 (in_w 0 1 (in_c 1 rfl) rfl)) (hP _ _ ⟨a163, s163, hI163, (fr_tr rfl fr_rf hF163), n167g, (Int32.ofInt 1), rfl, rfl, in_w 0 1 (in_c 1 rfl) rfl, n167, n167a, n167b, n167c, n167d, n167e⟩)
                · skip
                  exact zn_eq c145 (in_c 1 rfl) rfl
        · skip
          have i47 := z_eq 0 0 c47 h1 rfl
          refine g_aload_n 51 (gd rfl) rfl rfl ?_
          refine g_aload_n 52 (gd rfl) rfl rfl ?_
          refine g_getA (q2 := 31) 55 (gd rfl) rfl rfl rfl rfl ?_
          refine g_iconst 0 56 (gd rfl) rfl rfl ?_
          refine g_iaload 57 (gd rfl) rfl (n := 5) rfl (in_ix (in_c 0 rfl) rfl) (fun z56 e56 => ?_)
          refine g_aload_n 58 (gd rfl) rfl rfl ?_
          refine g_getA (q2 := 31) 61 (gd rfl) rfl rfl rfl rfl ?_
          refine g_iconst 1 62 (gd rfl) rfl rfl ?_
          refine g_iaload 63 (gd rfl) rfl (n := 5) rfl (in_ix (in_c 1 rfl) rfl) (fun z62 e62 => ?_)
          refine g_aload_n 64 (gd rfl) rfl rfl ?_
          refine g_getA (q2 := 31) 67 (gd rfl) rfl rfl rfl rfl ?_
          refine g_iconst 2 68 (gd rfl) rfl rfl ?_
          refine g_iaload 69 (gd rfl) rfl (n := 5) rfl (in_ix (in_c 2 rfl) rfl) (fun z68 e68 => ?_)
          refine g_aload_n 70 (gd rfl) rfl rfl ?_
          refine g_getA (q2 := 31) 73 (gd rfl) rfl rfl rfl rfl ?_
          refine g_iconst 3 74 (gd rfl) rfl rfl ?_
          refine g_iaload 75 (gd rfl) rfl (n := 5) rfl (in_ix (in_c 3 rfl) rfl) (fun z74 e74 => ?_)
          refine g_aload_n 76 (gd rfl) rfl rfl ?_
          refine g_getA (q2 := 31) 79 (gd rfl) rfl rfl rfl rfl ?_
          refine g_iconst 4 80 (gd rfl) rfl rfl ?_
          refine g_iaload 81 (gd rfl) rfl (n := 5) rfl (in_ix (in_c 4 rfl) rfl) (fun z80 e80 => ?_)
          refine g_callv (X := _) (As := [.int z56, .int z62, .int z68, .int z74, .int z80]) (r := []) (b := A 1) (q := 1) 84 (gd rfl) rfl rfl rfl rfl rfl (ww_o rfl) (Nat.le_of_ble_eq_true rfl) (mc := 0) (ms := 0) (Nat.zero_le _) (Nat.zero_le _) (P := fun v u => _) ?_ (fun e u h => h) (fun v u h => h)
          intro po81 xx81 hp81 hx81
          refine g_enter2 (k := 123) (N := 300) (by first | exact dq1 hd rfl | exact dq0 hd rfl | exact dq2 hd rfl | exact dq3 hd rfl | omega) rfl (Nat.le_of_ble_eq_true rfl) ?_
          refine g_aload_n 1 (gd rfl) rfl rfl ?_
          refine g_getA (q2 := 2) 4 (gd rfl) rfl rfl rfl rfl ?_
          refine g_iload_n 5 (gd rfl) rfl rfl ?_
          refine g_callv (X := _) (As := [.int z56]) (r := []) (b := A 2) (q := 2) 8 (gd rfl) rfl rfl rfl rfl rfl (ww_o rfl) (Nat.le_of_ble_eq_true rfl) (mc := 0) (ms := 0) (Nat.zero_le _) (Nat.zero_le _) (P := fun v u => _) ?_ (fun e u h => h) (fun v u h => h)
          intro po81x5 xx81x5 hp81x5 hx81x5
          refine g_enter2 (k := 94) (N := 300) (by first | exact dq1 hd rfl | exact dq0 hd rfl | exact dq2 hd rfl | exact dq3 hd rfl | omega) rfl (Nat.le_of_ble_eq_true rfl) ?_
          refine g_iload_n 1 (gd rfl) rfl rfl ?_
          refine g_if_lt 4 16 (gd rfl) rfl rfl (fun c81x5x1 => ?_) (fun c81x5x1 => ?_)
          · skip
            have i81x5x1 := z_lt (-2147483648) (-1) c81x5x1 (i_rng z56) rfl
            refine g_iconst 0 17 (gd rfl) rfl rfl ?_
            refine g_ireturn (gd rfl) rfl (nb01 (in_w 0 1 (in_c 0 rfl) rfl)) (hp81x5 _ _ ?_)
            show GG _ _ _ _ _ _ _ _ [.int (Int32.ofInt 0)] _ _ _
            refine g_if_eq 11 49 (gd rfl) rfl rfl (fun c81x8 => ?_) (fun c81x8 => ?_)
            · skip
              refine g_iconst 0 50 (gd rfl) rfl rfl ?_
              refine g_ireturn (gd rfl) rfl (nb01 (in_w 0 1 (in_c 0 rfl) rfl)) (hp81 _ _ ?_)
              show GG _ _ _ _ _ _ _ _ [.int (Int32.ofInt 0)] _ _ _
              refine g_if_eq 87 130 (gd rfl) rfl rfl (fun c84 => ?_) (fun c84 => ?_)
              · skip
                refine g_iconst 0 131 (gd rfl) rfl rfl ?_
                have n131 : KL s := by exact q_0
                have n131a : ((Int32.ofInt 0)).toInt ≠ 0 → (s.2.2.1 30 0).toInt = nln s := by intro h; exact absurd rfl h
                have n131b : ((Int32.ofInt 0)).toInt ≠ 0 → (s.2.2.1 2 0).toInt ≤ 3999 := by first | (intro h; exact absurd rfl h) | (intro _; rw [← e_2_0]; exact (have a0 := in_u ((inv_F hI 0 160 rfl e_2_3)); have a1 := in_u ((inv_F hI 448 28000 rfl e_30_0)); have a2 := in_u ((inv_F hI 0 32 rfl e_2_1)); have a3 := in_u i1x10; have a4 := in_u i47; have oc := oc_138_1; by omega))
                have n131c : ∀ k : Nat, (k : Int) < 7 * (s.2.2.1 2 0).toInt → s.1 30 k = s.1 30 k := by exact fun k _ => rfl
                have n131d : ((Int32.ofInt 0)).toInt ≠ 0 → dkC (gvC s) (x1).toInt (V31 s) ∧ gvC s = opC (gvC s) (x1).toInt (V31 s) ∧ TQ s := by intro h; exact absurd rfl h
                have n131e : ((Int32.ofInt 0)).toInt = 0 → ¬ dkC (gvC s) (x1).toInt (V31 s) := by intro _ h; have h8 : (0 ≤ (s.1 31 0).toInt ∧ (s.1 31 0).toInt < (s.2.2.1 2 1).toInt) ∧ (0 ≤ (s.1 31 1).toInt ∧ (s.1 31 1).toInt < (s.2.2.1 2 1).toInt) ∧ (-1000000 ≤ (s.1 31 2).toInt ∧ (s.1 31 2).toInt ≤ 1000000) ∧ (0 ≤ (s.1 31 3).toInt ∧ (s.1 31 3).toInt ≤ 1000000) ∧ fpl (ctg (s.1 4)) < 160 := h.2.2.1 (by exact (have a0 := in_u ((inv_F hI 0 160 rfl e_2_3)); have a1 := in_u ((inv_F hI 448 28000 rfl e_30_0)); have a2 := in_u ((inv_F hI 0 32 rfl e_2_1)); have a3 := in_u i1x10; have a4 := in_u i47; have oc := oc_138_1; by omega)); rw [show s.1 31 0 = z56 from e56.symm, show s.1 31 1 = z62 from e62.symm, show s.1 31 2 = z68 from e68.symm, show s.1 31 3 = z74 from e74.symm] at h8; rw [← e_2_1] at h8; have h5 := q_4 (by exact (have a0 := in_u ((inv_F hI 0 160 rfl e_2_3)); have a1 := in_u ((inv_F hI 448 28000 rfl e_30_0)); have a2 := in_u ((inv_F hI 0 32 rfl e_2_1)); have a3 := in_u i1x10; have a4 := in_u i47; have oc := oc_138_1; by omega)); rw [show s.1 31 4 = z80 from e80.symm] at h5; unfold In at h5; exact (have a0 := in_u ((inv_F hI 0 160 rfl e_2_3)); have a1 := in_u ((inv_F hI 448 28000 rfl e_30_0)); have a2 := in_u ((inv_F hI 0 32 rfl e_2_1)); have a3 := in_u i1x10; have a4 := in_u i47; have oc := oc_138_1; by omega)
                have n131f : (u_2_0).toInt ≤ (u_2_0).toInt := by exact (have a0 := in_u ((inv_F hI 0 160 rfl e_2_3)); have a1 := in_u ((inv_F hI 448 28000 rfl e_30_0)); have a2 := in_u ((inv_F hI 0 32 rfl e_2_1)); have a3 := in_u i1x10; have a4 := in_u i47; have oc := oc_138_1; by omega)
                have n131g : (s.2.2.1 2 0).toInt ≤ (s.2.2.1 2 0).toInt := by have b0 : u_2_0 = s.2.2.1 2 0 := e_2_0; first | (rw [← b0, ← e_2_0]; exact n131f) | (rw [← b0]; exact n131f)
                exact g_ireturn (gd rfl) rfl (nb01 (in_w 0 1 (in_c 0 rfl) rfl)) (hP _ _ ⟨(A 30), s, hI, fr_rf, n131g, (Int32.ofInt 0), rfl, (by rw [ax_id]), in_w 0 1 (in_c 0 rfl) rfl, n131, n131a, n131b, n131c, n131d, n131e⟩)
              · skip
                exact zn_ne c84 (in_c 0 rfl) rfl
            · skip
              exact zn_ne c81x8 (in_c 0 rfl) rfl
          · skip
            have i81x5x1 := z_ge 0 2147483647 c81x5x1 (i_rng z56) rfl
            refine g_iload_n 5 (gd rfl) rfl rfl ?_
            refine g_aload_n 6 (gd rfl) rfl rfl ?_
            refine g_getI 9 (gd rfl) rfl rfl rfl (fun z81x5x6 e81x5x6 => ?_)
            have q81x5x6 : u_2_1 = z81x5x6 := (e_2_1).trans e81x5x6.symm
            subst q81x5x6
            refine g_cmp_ge 12 16 (gd rfl) rfl rfl (fun c81x5x9 => ?_) (fun c81x5x9 => ?_)
            · skip
              refine g_iconst 0 17 (gd rfl) rfl rfl ?_
              refine g_ireturn (gd rfl) rfl (nb01 (in_w 0 1 (in_c 0 rfl) rfl)) (hp81x5 _ _ ?_)
              show GG _ _ _ _ _ _ _ _ [.int (Int32.ofInt 0)] _ _ _
              refine g_if_eq 11 49 (gd rfl) rfl rfl (fun c81x8 => ?_) (fun c81x8 => ?_)
              · skip
                refine g_iconst 0 50 (gd rfl) rfl rfl ?_
                refine g_ireturn (gd rfl) rfl (nb01 (in_w 0 1 (in_c 0 rfl) rfl)) (hp81 _ _ ?_)
                show GG _ _ _ _ _ _ _ _ [.int (Int32.ofInt 0)] _ _ _
                refine g_if_eq 87 130 (gd rfl) rfl rfl (fun c84 => ?_) (fun c84 => ?_)
                · skip
                  refine g_iconst 0 131 (gd rfl) rfl rfl ?_
                  have n131 : KL s := by exact q_0
                  have n131a : ((Int32.ofInt 0)).toInt ≠ 0 → (s.2.2.1 30 0).toInt = nln s := by intro h; exact absurd rfl h
                  have n131b : ((Int32.ofInt 0)).toInt ≠ 0 → (s.2.2.1 2 0).toInt ≤ 3999 := by first | (intro h; exact absurd rfl h) | (intro _; rw [← e_2_0]; exact (have a0 := in_u ((inv_F hI 0 160 rfl e_2_3)); have a1 := in_u ((inv_F hI 448 28000 rfl e_30_0)); have a2 := in_u ((inv_F hI 0 32 rfl e_2_1)); have a3 := in_u i1x10; have a4 := in_u i47; have oc := oc_138_1; by omega))
                  have n131c : ∀ k : Nat, (k : Int) < 7 * (s.2.2.1 2 0).toInt → s.1 30 k = s.1 30 k := by exact fun k _ => rfl
                  have n131d : ((Int32.ofInt 0)).toInt ≠ 0 → dkC (gvC s) (x1).toInt (V31 s) ∧ gvC s = opC (gvC s) (x1).toInt (V31 s) ∧ TQ s := by intro h; exact absurd rfl h
                  have n131e : ((Int32.ofInt 0)).toInt = 0 → ¬ dkC (gvC s) (x1).toInt (V31 s) := by intro _ h; have h8 : (0 ≤ (s.1 31 0).toInt ∧ (s.1 31 0).toInt < (s.2.2.1 2 1).toInt) ∧ (0 ≤ (s.1 31 1).toInt ∧ (s.1 31 1).toInt < (s.2.2.1 2 1).toInt) ∧ (-1000000 ≤ (s.1 31 2).toInt ∧ (s.1 31 2).toInt ≤ 1000000) ∧ (0 ≤ (s.1 31 3).toInt ∧ (s.1 31 3).toInt ≤ 1000000) ∧ fpl (ctg (s.1 4)) < 160 := h.2.2.1 (by exact (have a0 := in_u ((inv_F hI 0 160 rfl e_2_3)); have a1 := in_u ((inv_F hI 448 28000 rfl e_30_0)); have a2 := in_u ((inv_F hI 0 32 rfl e_2_1)); have a3 := in_u i1x10; have a4 := in_u i47; have oc := oc_138_1; by omega)); rw [show s.1 31 0 = z56 from e56.symm, show s.1 31 1 = z62 from e62.symm, show s.1 31 2 = z68 from e68.symm, show s.1 31 3 = z74 from e74.symm] at h8; rw [← e_2_1] at h8; have h5 := q_4 (by exact (have a0 := in_u ((inv_F hI 0 160 rfl e_2_3)); have a1 := in_u ((inv_F hI 448 28000 rfl e_30_0)); have a2 := in_u ((inv_F hI 0 32 rfl e_2_1)); have a3 := in_u i1x10; have a4 := in_u i47; have oc := oc_138_1; by omega)); rw [show s.1 31 4 = z80 from e80.symm] at h5; unfold In at h5; exact (have a0 := in_u ((inv_F hI 0 160 rfl e_2_3)); have a1 := in_u ((inv_F hI 448 28000 rfl e_30_0)); have a2 := in_u ((inv_F hI 0 32 rfl e_2_1)); have a3 := in_u i1x10; have a4 := in_u i47; have oc := oc_138_1; by omega)
                  have n131f : (u_2_0).toInt ≤ (u_2_0).toInt := by exact (have a0 := in_u ((inv_F hI 0 160 rfl e_2_3)); have a1 := in_u ((inv_F hI 448 28000 rfl e_30_0)); have a2 := in_u ((inv_F hI 0 32 rfl e_2_1)); have a3 := in_u i1x10; have a4 := in_u i47; have oc := oc_138_1; by omega)
                  have n131g : (s.2.2.1 2 0).toInt ≤ (s.2.2.1 2 0).toInt := by have b0 : u_2_0 = s.2.2.1 2 0 := e_2_0; first | (rw [← b0, ← e_2_0]; exact n131f) | (rw [← b0]; exact n131f)
                  exact g_ireturn (gd rfl) rfl (nb01 (in_w 0 1 (in_c 0 rfl) rfl)) (hP _ _ ⟨(A 30), s, hI, fr_rf, n131g, (Int32.ofInt 0), rfl, (by rw [ax_id]), in_w 0 1 (in_c 0 rfl) rfl, n131, n131a, n131b, n131c, n131d, n131e⟩)
                · skip
                  exact zn_ne c84 (in_c 0 rfl) rfl
              · skip
                exact zn_ne c81x8 (in_c 0 rfl) rfl
            · skip
              have i81x5x9 := r_lt1 0 31 c81x5x9 i81x5x1 (inv_F hI 0 32 rfl e_2_1) rfl
              have i81x5x9a := r_lt2 1 32 c81x5x9 i81x5x1 (inv_F hI 0 32 rfl e_2_1) rfl
              refine g_iconst 1 13 (gd rfl) rfl rfl ?_
              refine g_goto 17 (gd rfl) rfl ?_
              refine g_ireturn (gd rfl) rfl (nb01 (in_w 0 1 (in_c 1 rfl) rfl)) (hp81x5 _ _ ?_)
              show GG _ _ _ _ _ _ _ _ [.int (Int32.ofInt 1)] _ _ _
              refine g_if_eq 11 49 (gd rfl) rfl rfl (fun c81x8 => ?_) (fun c81x8 => ?_)
              · skip
                exact zn_eq c81x8 (in_c 1 rfl) rfl
              · skip
                refine g_aload_n 12 (gd rfl) rfl rfl ?_
                refine g_getA (q2 := 2) 15 (gd rfl) rfl rfl rfl rfl ?_
                refine g_iload_n 16 (gd rfl) rfl rfl ?_
                refine g_callv (X := _) (As := [.int z62]) (r := []) (b := A 2) (q := 2) 19 (gd rfl) rfl rfl rfl rfl rfl (ww_o rfl) (Nat.le_of_ble_eq_true rfl) (mc := 0) (ms := 0) (Nat.zero_le _) (Nat.zero_le _) (P := fun v u => _) ?_ (fun e u h => h) (fun v u h => h)
                intro po81x16 xx81x16 hp81x16 hx81x16
                refine g_enter2 (k := 94) (N := 300) (by first | exact dq1 hd rfl | exact dq0 hd rfl | exact dq2 hd rfl | exact dq3 hd rfl | omega) rfl (Nat.le_of_ble_eq_true rfl) ?_
                refine g_iload_n 1 (gd rfl) rfl rfl ?_
                refine g_if_lt 4 16 (gd rfl) rfl rfl (fun c81x16x1 => ?_) (fun c81x16x1 => ?_)
                · skip
                  have i81x16x1 := z_lt (-2147483648) (-1) c81x16x1 (i_rng z62) rfl
                  refine g_iconst 0 17 (gd rfl) rfl rfl ?_
                  refine g_ireturn (gd rfl) rfl (nb01 (in_w 0 1 (in_c 0 rfl) rfl)) (hp81x16 _ _ ?_)
                  show GG _ _ _ _ _ _ _ _ [.int (Int32.ofInt 0)] _ _ _
                  refine g_if_eq 22 49 (gd rfl) rfl rfl (fun c81x19 => ?_) (fun c81x19 => ?_)
                  · skip
                    refine g_iconst 0 50 (gd rfl) rfl rfl ?_
                    refine g_ireturn (gd rfl) rfl (nb01 (in_w 0 1 (in_c 0 rfl) rfl)) (hp81 _ _ ?_)
                    show GG _ _ _ _ _ _ _ _ [.int (Int32.ofInt 0)] _ _ _
                    refine g_if_eq 87 130 (gd rfl) rfl rfl (fun c84 => ?_) (fun c84 => ?_)
                    · skip
                      refine g_iconst 0 131 (gd rfl) rfl rfl ?_
                      have n131 : KL s := by exact q_0
                      have n131a : ((Int32.ofInt 0)).toInt ≠ 0 → (s.2.2.1 30 0).toInt = nln s := by intro h; exact absurd rfl h
                      have n131b : ((Int32.ofInt 0)).toInt ≠ 0 → (s.2.2.1 2 0).toInt ≤ 3999 := by first | (intro h; exact absurd rfl h) | (intro _; rw [← e_2_0]; exact (have a0 := in_u ((inv_F hI 0 160 rfl e_2_3)); have a1 := in_u ((inv_F hI 448 28000 rfl e_30_0)); have a2 := in_u i81x5x9a; have a3 := in_u i1x10; have a4 := in_u i47; have oc := oc_138_1; by omega))
                      have n131c : ∀ k : Nat, (k : Int) < 7 * (s.2.2.1 2 0).toInt → s.1 30 k = s.1 30 k := by exact fun k _ => rfl
                      have n131d : ((Int32.ofInt 0)).toInt ≠ 0 → dkC (gvC s) (x1).toInt (V31 s) ∧ gvC s = opC (gvC s) (x1).toInt (V31 s) ∧ TQ s := by intro h; exact absurd rfl h
                      have n131e : ((Int32.ofInt 0)).toInt = 0 → ¬ dkC (gvC s) (x1).toInt (V31 s) := by intro _ h; have h8 : (0 ≤ (s.1 31 0).toInt ∧ (s.1 31 0).toInt < (s.2.2.1 2 1).toInt) ∧ (0 ≤ (s.1 31 1).toInt ∧ (s.1 31 1).toInt < (s.2.2.1 2 1).toInt) ∧ (-1000000 ≤ (s.1 31 2).toInt ∧ (s.1 31 2).toInt ≤ 1000000) ∧ (0 ≤ (s.1 31 3).toInt ∧ (s.1 31 3).toInt ≤ 1000000) ∧ fpl (ctg (s.1 4)) < 160 := h.2.2.1 (by exact (have a0 := in_u ((inv_F hI 0 160 rfl e_2_3)); have a1 := in_u ((inv_F hI 448 28000 rfl e_30_0)); have a2 := in_u i81x5x9a; have a3 := in_u i1x10; have a4 := in_u i47; have oc := oc_138_1; by omega)); rw [show s.1 31 0 = z56 from e56.symm, show s.1 31 1 = z62 from e62.symm, show s.1 31 2 = z68 from e68.symm, show s.1 31 3 = z74 from e74.symm] at h8; rw [← e_2_1] at h8; have h5 := q_4 (by exact (have a0 := in_u ((inv_F hI 0 160 rfl e_2_3)); have a1 := in_u ((inv_F hI 448 28000 rfl e_30_0)); have a2 := in_u i81x5x9a; have a3 := in_u i1x10; have a4 := in_u i47; have oc := oc_138_1; by omega)); rw [show s.1 31 4 = z80 from e80.symm] at h5; unfold In at h5; exact (have a0 := in_u ((inv_F hI 0 160 rfl e_2_3)); have a1 := in_u ((inv_F hI 448 28000 rfl e_30_0)); have a2 := in_u i81x5x9a; have a3 := in_u i1x10; have a4 := in_u i47; have oc := oc_138_1; by omega)
                      have n131f : (u_2_0).toInt ≤ (u_2_0).toInt := by exact (have a0 := in_u ((inv_F hI 0 160 rfl e_2_3)); have a1 := in_u ((inv_F hI 448 28000 rfl e_30_0)); have a2 := in_u i81x5x9a; have a3 := in_u i1x10; have a4 := in_u i47; have oc := oc_138_1; by omega)
                      have n131g : (s.2.2.1 2 0).toInt ≤ (s.2.2.1 2 0).toInt := by have b0 : u_2_0 = s.2.2.1 2 0 := e_2_0; first | (rw [← b0, ← e_2_0]; exact n131f) | (rw [← b0]; exact n131f)
                      exact g_ireturn (gd rfl) rfl (nb01 (in_w 0 1 (in_c 0 rfl) rfl)) (hP _ _ ⟨(A 30), s, hI, fr_rf, n131g, (Int32.ofInt 0), rfl, (by rw [ax_id]), in_w 0 1 (in_c 0 rfl) rfl, n131, n131a, n131b, n131c, n131d, n131e⟩)
                    · skip
                      exact zn_ne c84 (in_c 0 rfl) rfl
                  · skip
                    exact zn_ne c81x19 (in_c 0 rfl) rfl
                · skip
                  have i81x16x1 := z_ge 0 2147483647 c81x16x1 (i_rng z62) rfl
                  refine g_iload_n 5 (gd rfl) rfl rfl ?_
                  refine g_aload_n 6 (gd rfl) rfl rfl ?_
                  refine g_getI 9 (gd rfl) rfl rfl rfl (fun z81x16x6 e81x16x6 => ?_)
                  have q81x16x6 : u_2_1 = z81x16x6 := (e_2_1).trans e81x16x6.symm
                  subst q81x16x6
                  refine g_cmp_ge 12 16 (gd rfl) rfl rfl (fun c81x16x9 => ?_) (fun c81x16x9 => ?_)
                  · skip
                    have i81x16x9 := r_le2 1 2147483647 c81x16x9 i81x5x9a i81x16x1 rfl
                    refine g_iconst 0 17 (gd rfl) rfl rfl ?_
                    refine g_ireturn (gd rfl) rfl (nb01 (in_w 0 1 (in_c 0 rfl) rfl)) (hp81x16 _ _ ?_)
                    show GG _ _ _ _ _ _ _ _ [.int (Int32.ofInt 0)] _ _ _
                    refine g_if_eq 22 49 (gd rfl) rfl rfl (fun c81x19 => ?_) (fun c81x19 => ?_)
                    · skip
                      refine g_iconst 0 50 (gd rfl) rfl rfl ?_
                      refine g_ireturn (gd rfl) rfl (nb01 (in_w 0 1 (in_c 0 rfl) rfl)) (hp81 _ _ ?_)
                      show GG _ _ _ _ _ _ _ _ [.int (Int32.ofInt 0)] _ _ _
                      refine g_if_eq 87 130 (gd rfl) rfl rfl (fun c84 => ?_) (fun c84 => ?_)
                      · skip
                        refine g_iconst 0 131 (gd rfl) rfl rfl ?_
                        have n131 : KL s := by exact q_0
                        have n131a : ((Int32.ofInt 0)).toInt ≠ 0 → (s.2.2.1 30 0).toInt = nln s := by intro h; exact absurd rfl h
                        have n131b : ((Int32.ofInt 0)).toInt ≠ 0 → (s.2.2.1 2 0).toInt ≤ 3999 := by first | (intro h; exact absurd rfl h) | (intro _; rw [← e_2_0]; exact (have a0 := in_u ((inv_F hI 0 160 rfl e_2_3)); have a1 := in_u ((inv_F hI 448 28000 rfl e_30_0)); have a2 := in_u i81x5x9a; have a3 := in_u i1x10; have a4 := in_u i47; have oc := oc_138_1; by omega))
                        have n131c : ∀ k : Nat, (k : Int) < 7 * (s.2.2.1 2 0).toInt → s.1 30 k = s.1 30 k := by exact fun k _ => rfl
                        have n131d : ((Int32.ofInt 0)).toInt ≠ 0 → dkC (gvC s) (x1).toInt (V31 s) ∧ gvC s = opC (gvC s) (x1).toInt (V31 s) ∧ TQ s := by intro h; exact absurd rfl h
                        have n131e : ((Int32.ofInt 0)).toInt = 0 → ¬ dkC (gvC s) (x1).toInt (V31 s) := by intro _ h; have h8 : (0 ≤ (s.1 31 0).toInt ∧ (s.1 31 0).toInt < (s.2.2.1 2 1).toInt) ∧ (0 ≤ (s.1 31 1).toInt ∧ (s.1 31 1).toInt < (s.2.2.1 2 1).toInt) ∧ (-1000000 ≤ (s.1 31 2).toInt ∧ (s.1 31 2).toInt ≤ 1000000) ∧ (0 ≤ (s.1 31 3).toInt ∧ (s.1 31 3).toInt ≤ 1000000) ∧ fpl (ctg (s.1 4)) < 160 := h.2.2.1 (by exact (have a0 := in_u ((inv_F hI 0 160 rfl e_2_3)); have a1 := in_u ((inv_F hI 448 28000 rfl e_30_0)); have a2 := in_u i81x5x9a; have a3 := in_u i1x10; have a4 := in_u i47; have oc := oc_138_1; by omega)); rw [show s.1 31 0 = z56 from e56.symm, show s.1 31 1 = z62 from e62.symm, show s.1 31 2 = z68 from e68.symm, show s.1 31 3 = z74 from e74.symm] at h8; rw [← e_2_1] at h8; have h5 := q_4 (by exact (have a0 := in_u ((inv_F hI 0 160 rfl e_2_3)); have a1 := in_u ((inv_F hI 448 28000 rfl e_30_0)); have a2 := in_u i81x5x9a; have a3 := in_u i1x10; have a4 := in_u i47; have oc := oc_138_1; by omega)); rw [show s.1 31 4 = z80 from e80.symm] at h5; unfold In at h5; exact (have a0 := in_u ((inv_F hI 0 160 rfl e_2_3)); have a1 := in_u ((inv_F hI 448 28000 rfl e_30_0)); have a2 := in_u i81x5x9a; have a3 := in_u i1x10; have a4 := in_u i47; have oc := oc_138_1; by omega)
                        have n131f : (u_2_0).toInt ≤ (u_2_0).toInt := by exact (have a0 := in_u ((inv_F hI 0 160 rfl e_2_3)); have a1 := in_u ((inv_F hI 448 28000 rfl e_30_0)); have a2 := in_u i81x5x9a; have a3 := in_u i1x10; have a4 := in_u i47; have oc := oc_138_1; by omega)
                        have n131g : (s.2.2.1 2 0).toInt ≤ (s.2.2.1 2 0).toInt := by have b0 : u_2_0 = s.2.2.1 2 0 := e_2_0; first | (rw [← b0, ← e_2_0]; exact n131f) | (rw [← b0]; exact n131f)
                        exact g_ireturn (gd rfl) rfl (nb01 (in_w 0 1 (in_c 0 rfl) rfl)) (hP _ _ ⟨(A 30), s, hI, fr_rf, n131g, (Int32.ofInt 0), rfl, (by rw [ax_id]), in_w 0 1 (in_c 0 rfl) rfl, n131, n131a, n131b, n131c, n131d, n131e⟩)
                      · skip
                        exact zn_ne c84 (in_c 0 rfl) rfl
                    · skip
                      exact zn_ne c81x19 (in_c 0 rfl) rfl
                  · skip
                    have i81x16x9 := r_lt1 0 31 c81x16x9 i81x16x1 i81x5x9a rfl
                    refine g_iconst 1 13 (gd rfl) rfl rfl ?_
                    refine g_goto 17 (gd rfl) rfl ?_
                    refine g_ireturn (gd rfl) rfl (nb01 (in_w 0 1 (in_c 1 rfl) rfl)) (hp81x16 _ _ ?_)
                    show GG _ _ _ _ _ _ _ _ [.int (Int32.ofInt 1)] _ _ _
                    refine g_if_eq 22 49 (gd rfl) rfl rfl (fun c81x19 => ?_) (fun c81x19 => ?_)
                    · skip
                      exact zn_eq c81x19 (in_c 1 rfl) rfl
                    · skip
                      refine g_iload_n 23 (gd rfl) rfl rfl ?_
                      refine g_calls (As := [.int z68]) (r := []) 26 (gd rfl) rfl rfl rfl rfl rfl (Nat.le_of_ble_eq_true rfl) (mc := 0) (ms := 0) (Nat.zero_le _) (Nat.zero_le _) (P := fun v u => _) ?_ (fun v u h => h)
                      intro po81x23 xx81x23 hp81x23 hx81x23
                      refine g_enter2 (k := 261) (N := 300) (by first | exact dq1 hd rfl | exact dq0 hd rfl | exact dq2 hd rfl | exact dq3 hd rfl | omega) rfl (Nat.le_of_ble_eq_true rfl) ?_
                      refine g_iload_n 1 (gd rfl) rfl rfl ?_
                      refine g_ldc_w (-1000000) 4 (gd rfl) rfl rfl ?_
                      refine g_cmp_lt 7 18 (gd rfl) rfl rfl (fun c81x23x4 => ?_) (fun c81x23x4 => ?_)
                      · skip
                        have i81x23x4 := r_lt1 (-2147483648) (-1000001) c81x23x4 (i_rng z68) (in_c (-1000000) rfl) rfl
                        refine g_iconst 0 19 (gd rfl) rfl rfl ?_
                        refine g_ireturn (gd rfl) rfl (nb01 (in_w 0 1 (in_c 0 rfl) rfl)) (hp81x23 _ _ ?_)
                        show GG _ _ _ _ _ _ _ _ [.int (Int32.ofInt 0)] _ _ _
                        refine g_if_eq 29 49 (gd rfl) rfl rfl (fun c81x26 => ?_) (fun c81x26 => ?_)
                        · skip
                          refine g_iconst 0 50 (gd rfl) rfl rfl ?_
                          refine g_ireturn (gd rfl) rfl (nb01 (in_w 0 1 (in_c 0 rfl) rfl)) (hp81 _ _ ?_)
                          show GG _ _ _ _ _ _ _ _ [.int (Int32.ofInt 0)] _ _ _
                          refine g_if_eq 87 130 (gd rfl) rfl rfl (fun c84 => ?_) (fun c84 => ?_)
                          · skip
                            refine g_iconst 0 131 (gd rfl) rfl rfl ?_
                            have n131 : KL s := by exact q_0
                            have n131a : ((Int32.ofInt 0)).toInt ≠ 0 → (s.2.2.1 30 0).toInt = nln s := by intro h; exact absurd rfl h
                            have n131b : ((Int32.ofInt 0)).toInt ≠ 0 → (s.2.2.1 2 0).toInt ≤ 3999 := by first | (intro h; exact absurd rfl h) | (intro _; rw [← e_2_0]; exact (have a0 := in_u ((inv_F hI 0 160 rfl e_2_3)); have a1 := in_u ((inv_F hI 448 28000 rfl e_30_0)); have a2 := in_u i81x5x9a; have a3 := in_u i1x10; have a4 := in_u i47; have oc := oc_138_1; by omega))
                            have n131c : ∀ k : Nat, (k : Int) < 7 * (s.2.2.1 2 0).toInt → s.1 30 k = s.1 30 k := by exact fun k _ => rfl
                            have n131d : ((Int32.ofInt 0)).toInt ≠ 0 → dkC (gvC s) (x1).toInt (V31 s) ∧ gvC s = opC (gvC s) (x1).toInt (V31 s) ∧ TQ s := by intro h; exact absurd rfl h
                            have n131e : ((Int32.ofInt 0)).toInt = 0 → ¬ dkC (gvC s) (x1).toInt (V31 s) := by intro _ h; have h8 : (0 ≤ (s.1 31 0).toInt ∧ (s.1 31 0).toInt < (s.2.2.1 2 1).toInt) ∧ (0 ≤ (s.1 31 1).toInt ∧ (s.1 31 1).toInt < (s.2.2.1 2 1).toInt) ∧ (-1000000 ≤ (s.1 31 2).toInt ∧ (s.1 31 2).toInt ≤ 1000000) ∧ (0 ≤ (s.1 31 3).toInt ∧ (s.1 31 3).toInt ≤ 1000000) ∧ fpl (ctg (s.1 4)) < 160 := h.2.2.1 (by exact (have a0 := in_u ((inv_F hI 0 160 rfl e_2_3)); have a1 := in_u ((inv_F hI 448 28000 rfl e_30_0)); have a2 := in_u i81x5x9a; have a3 := in_u i1x10; have a4 := in_u i47; have oc := oc_138_1; by omega)); rw [show s.1 31 0 = z56 from e56.symm, show s.1 31 1 = z62 from e62.symm, show s.1 31 2 = z68 from e68.symm, show s.1 31 3 = z74 from e74.symm] at h8; rw [← e_2_1] at h8; have h5 := q_4 (by exact (have a0 := in_u ((inv_F hI 0 160 rfl e_2_3)); have a1 := in_u ((inv_F hI 448 28000 rfl e_30_0)); have a2 := in_u i81x5x9a; have a3 := in_u i1x10; have a4 := in_u i47; have oc := oc_138_1; by omega)); rw [show s.1 31 4 = z80 from e80.symm] at h5; unfold In at h5; exact (have a0 := in_u ((inv_F hI 0 160 rfl e_2_3)); have a1 := in_u ((inv_F hI 448 28000 rfl e_30_0)); have a2 := in_u i81x5x9a; have a3 := in_u i1x10; have a4 := in_u i47; have oc := oc_138_1; by omega)
                            have n131f : (u_2_0).toInt ≤ (u_2_0).toInt := by exact (have a0 := in_u ((inv_F hI 0 160 rfl e_2_3)); have a1 := in_u ((inv_F hI 448 28000 rfl e_30_0)); have a2 := in_u i81x5x9a; have a3 := in_u i1x10; have a4 := in_u i47; have oc := oc_138_1; by omega)
                            have n131g : (s.2.2.1 2 0).toInt ≤ (s.2.2.1 2 0).toInt := by have b0 : u_2_0 = s.2.2.1 2 0 := e_2_0; first | (rw [← b0, ← e_2_0]; exact n131f) | (rw [← b0]; exact n131f)
                            exact g_ireturn (gd rfl) rfl (nb01 (in_w 0 1 (in_c 0 rfl) rfl)) (hP _ _ ⟨(A 30), s, hI, fr_rf, n131g, (Int32.ofInt 0), rfl, (by rw [ax_id]), in_w 0 1 (in_c 0 rfl) rfl, n131, n131a, n131b, n131c, n131d, n131e⟩)
                          · skip
                            exact zn_ne c84 (in_c 0 rfl) rfl
                        · skip
                          exact zn_ne c81x26 (in_c 0 rfl) rfl
                      · skip
                        have i81x23x4 := r_le2 (-1000000) 2147483647 c81x23x4 (in_c (-1000000) rfl) (i_rng z68) rfl
                        refine g_iload_n 8 (gd rfl) rfl rfl ?_
                        refine g_ldc_w 1000000 11 (gd rfl) rfl rfl ?_
                        refine g_cmp_gt 14 18 (gd rfl) rfl rfl (fun c81x23x11 => ?_) (fun c81x23x11 => ?_)
                        · skip
                          have i81x23x11 := r_lt2 1000001 2147483647 c81x23x11 (in_c 1000000 rfl) i81x23x4 rfl
                          refine g_iconst 0 19 (gd rfl) rfl rfl ?_
                          refine g_ireturn (gd rfl) rfl (nb01 (in_w 0 1 (in_c 0 rfl) rfl)) (hp81x23 _ _ ?_)
                          show GG _ _ _ _ _ _ _ _ [.int (Int32.ofInt 0)] _ _ _
                          refine g_if_eq 29 49 (gd rfl) rfl rfl (fun c81x26 => ?_) (fun c81x26 => ?_)
                          · skip
                            refine g_iconst 0 50 (gd rfl) rfl rfl ?_
                            refine g_ireturn (gd rfl) rfl (nb01 (in_w 0 1 (in_c 0 rfl) rfl)) (hp81 _ _ ?_)
                            show GG _ _ _ _ _ _ _ _ [.int (Int32.ofInt 0)] _ _ _
                            refine g_if_eq 87 130 (gd rfl) rfl rfl (fun c84 => ?_) (fun c84 => ?_)
                            · skip
                              refine g_iconst 0 131 (gd rfl) rfl rfl ?_
                              have n131 : KL s := by exact q_0
                              have n131a : ((Int32.ofInt 0)).toInt ≠ 0 → (s.2.2.1 30 0).toInt = nln s := by intro h; exact absurd rfl h
                              have n131b : ((Int32.ofInt 0)).toInt ≠ 0 → (s.2.2.1 2 0).toInt ≤ 3999 := by first | (intro h; exact absurd rfl h) | (intro _; rw [← e_2_0]; exact (have a0 := in_u ((inv_F hI 0 160 rfl e_2_3)); have a1 := in_u ((inv_F hI 448 28000 rfl e_30_0)); have a2 := in_u i81x5x9a; have a3 := in_u i1x10; have a4 := in_u i47; have oc := oc_138_1; by omega))
                              have n131c : ∀ k : Nat, (k : Int) < 7 * (s.2.2.1 2 0).toInt → s.1 30 k = s.1 30 k := by exact fun k _ => rfl
                              have n131d : ((Int32.ofInt 0)).toInt ≠ 0 → dkC (gvC s) (x1).toInt (V31 s) ∧ gvC s = opC (gvC s) (x1).toInt (V31 s) ∧ TQ s := by intro h; exact absurd rfl h
                              have n131e : ((Int32.ofInt 0)).toInt = 0 → ¬ dkC (gvC s) (x1).toInt (V31 s) := by intro _ h; have h8 : (0 ≤ (s.1 31 0).toInt ∧ (s.1 31 0).toInt < (s.2.2.1 2 1).toInt) ∧ (0 ≤ (s.1 31 1).toInt ∧ (s.1 31 1).toInt < (s.2.2.1 2 1).toInt) ∧ (-1000000 ≤ (s.1 31 2).toInt ∧ (s.1 31 2).toInt ≤ 1000000) ∧ (0 ≤ (s.1 31 3).toInt ∧ (s.1 31 3).toInt ≤ 1000000) ∧ fpl (ctg (s.1 4)) < 160 := h.2.2.1 (by exact (have a0 := in_u ((inv_F hI 0 160 rfl e_2_3)); have a1 := in_u ((inv_F hI 448 28000 rfl e_30_0)); have a2 := in_u i81x5x9a; have a3 := in_u i1x10; have a4 := in_u i47; have oc := oc_138_1; by omega)); rw [show s.1 31 0 = z56 from e56.symm, show s.1 31 1 = z62 from e62.symm, show s.1 31 2 = z68 from e68.symm, show s.1 31 3 = z74 from e74.symm] at h8; rw [← e_2_1] at h8; have h5 := q_4 (by exact (have a0 := in_u ((inv_F hI 0 160 rfl e_2_3)); have a1 := in_u ((inv_F hI 448 28000 rfl e_30_0)); have a2 := in_u i81x5x9a; have a3 := in_u i1x10; have a4 := in_u i47; have oc := oc_138_1; by omega)); rw [show s.1 31 4 = z80 from e80.symm] at h5; unfold In at h5; exact (have a0 := in_u ((inv_F hI 0 160 rfl e_2_3)); have a1 := in_u ((inv_F hI 448 28000 rfl e_30_0)); have a2 := in_u i81x5x9a; have a3 := in_u i1x10; have a4 := in_u i47; have oc := oc_138_1; by omega)
                              have n131f : (u_2_0).toInt ≤ (u_2_0).toInt := by exact (have a0 := in_u ((inv_F hI 0 160 rfl e_2_3)); have a1 := in_u ((inv_F hI 448 28000 rfl e_30_0)); have a2 := in_u i81x5x9a; have a3 := in_u i1x10; have a4 := in_u i47; have oc := oc_138_1; by omega)
                              have n131g : (s.2.2.1 2 0).toInt ≤ (s.2.2.1 2 0).toInt := by have b0 : u_2_0 = s.2.2.1 2 0 := e_2_0; first | (rw [← b0, ← e_2_0]; exact n131f) | (rw [← b0]; exact n131f)
                              exact g_ireturn (gd rfl) rfl (nb01 (in_w 0 1 (in_c 0 rfl) rfl)) (hP _ _ ⟨(A 30), s, hI, fr_rf, n131g, (Int32.ofInt 0), rfl, (by rw [ax_id]), in_w 0 1 (in_c 0 rfl) rfl, n131, n131a, n131b, n131c, n131d, n131e⟩)
                            · skip
                              exact zn_ne c84 (in_c 0 rfl) rfl
                          · skip
                            exact zn_ne c81x26 (in_c 0 rfl) rfl
                        · skip
                          have i81x23x11 := r_le1 (-1000000) 1000000 c81x23x11 i81x23x4 (in_c 1000000 rfl) rfl
                          refine g_iconst 1 15 (gd rfl) rfl rfl ?_
                          refine g_goto 19 (gd rfl) rfl ?_
                          refine g_ireturn (gd rfl) rfl (nb01 (in_w 0 1 (in_c 1 rfl) rfl)) (hp81x23 _ _ ?_)
                          show GG _ _ _ _ _ _ _ _ [.int (Int32.ofInt 1)] _ _ _
                          refine g_if_eq 29 49 (gd rfl) rfl rfl (fun c81x26 => ?_) (fun c81x26 => ?_)
                          · skip
                            exact zn_eq c81x26 (in_c 1 rfl) rfl
                          · skip
                            refine g_iload 31 (gd rfl) rfl rfl ?_
                            refine g_calls (As := [.int z74]) (r := []) 34 (gd rfl) rfl rfl rfl rfl rfl (Nat.le_of_ble_eq_true rfl) (mc := 0) (ms := 0) (Nat.zero_le _) (Nat.zero_le _) (P := fun v u => _) ?_ (fun v u h => h)
                            intro po81x31 xx81x31 hp81x31 hx81x31
                            refine g_enter2 (k := 262) (N := 300) (by first | exact dq1 hd rfl | exact dq0 hd rfl | exact dq2 hd rfl | exact dq3 hd rfl | omega) rfl (Nat.le_of_ble_eq_true rfl) ?_
                            refine g_iload_n 1 (gd rfl) rfl rfl ?_
                            refine g_if_lt 4 15 (gd rfl) rfl rfl (fun c81x31x1 => ?_) (fun c81x31x1 => ?_)
                            · skip
                              have i81x31x1 := z_lt (-2147483648) (-1) c81x31x1 (i_rng z74) rfl
                              refine g_iconst 0 16 (gd rfl) rfl rfl ?_
                              refine g_ireturn (gd rfl) rfl (nb01 (in_w 0 1 (in_c 0 rfl) rfl)) (hp81x31 _ _ ?_)
                              show GG _ _ _ _ _ _ _ _ [.int (Int32.ofInt 0)] _ _ _
                              refine g_if_eq 37 49 (gd rfl) rfl rfl (fun c81x34 => ?_) (fun c81x34 => ?_)
                              · skip
                                refine g_iconst 0 50 (gd rfl) rfl rfl ?_
                                refine g_ireturn (gd rfl) rfl (nb01 (in_w 0 1 (in_c 0 rfl) rfl)) (hp81 _ _ ?_)
                                show GG _ _ _ _ _ _ _ _ [.int (Int32.ofInt 0)] _ _ _
                                refine g_if_eq 87 130 (gd rfl) rfl rfl (fun c84 => ?_) (fun c84 => ?_)
                                · skip
                                  refine g_iconst 0 131 (gd rfl) rfl rfl ?_
                                  have n131 : KL s := by exact q_0
                                  have n131a : ((Int32.ofInt 0)).toInt ≠ 0 → (s.2.2.1 30 0).toInt = nln s := by intro h; exact absurd rfl h
                                  have n131b : ((Int32.ofInt 0)).toInt ≠ 0 → (s.2.2.1 2 0).toInt ≤ 3999 := by first | (intro h; exact absurd rfl h) | (intro _; rw [← e_2_0]; exact (have a0 := in_u ((inv_F hI 0 160 rfl e_2_3)); have a1 := in_u ((inv_F hI 448 28000 rfl e_30_0)); have a2 := in_u i81x5x9a; have a3 := in_u i1x10; have a4 := in_u i47; have oc := oc_138_1; by omega))
                                  have n131c : ∀ k : Nat, (k : Int) < 7 * (s.2.2.1 2 0).toInt → s.1 30 k = s.1 30 k := by exact fun k _ => rfl
                                  have n131d : ((Int32.ofInt 0)).toInt ≠ 0 → dkC (gvC s) (x1).toInt (V31 s) ∧ gvC s = opC (gvC s) (x1).toInt (V31 s) ∧ TQ s := by intro h; exact absurd rfl h
                                  have n131e : ((Int32.ofInt 0)).toInt = 0 → ¬ dkC (gvC s) (x1).toInt (V31 s) := by intro _ h; have h8 : (0 ≤ (s.1 31 0).toInt ∧ (s.1 31 0).toInt < (s.2.2.1 2 1).toInt) ∧ (0 ≤ (s.1 31 1).toInt ∧ (s.1 31 1).toInt < (s.2.2.1 2 1).toInt) ∧ (-1000000 ≤ (s.1 31 2).toInt ∧ (s.1 31 2).toInt ≤ 1000000) ∧ (0 ≤ (s.1 31 3).toInt ∧ (s.1 31 3).toInt ≤ 1000000) ∧ fpl (ctg (s.1 4)) < 160 := h.2.2.1 (by exact (have a0 := in_u ((inv_F hI 0 160 rfl e_2_3)); have a1 := in_u ((inv_F hI 448 28000 rfl e_30_0)); have a2 := in_u i81x5x9a; have a3 := in_u i1x10; have a4 := in_u i47; have oc := oc_138_1; by omega)); rw [show s.1 31 0 = z56 from e56.symm, show s.1 31 1 = z62 from e62.symm, show s.1 31 2 = z68 from e68.symm, show s.1 31 3 = z74 from e74.symm] at h8; rw [← e_2_1] at h8; have h5 := q_4 (by exact (have a0 := in_u ((inv_F hI 0 160 rfl e_2_3)); have a1 := in_u ((inv_F hI 448 28000 rfl e_30_0)); have a2 := in_u i81x5x9a; have a3 := in_u i1x10; have a4 := in_u i47; have oc := oc_138_1; by omega)); rw [show s.1 31 4 = z80 from e80.symm] at h5; unfold In at h5; exact (have a0 := in_u ((inv_F hI 0 160 rfl e_2_3)); have a1 := in_u ((inv_F hI 448 28000 rfl e_30_0)); have a2 := in_u i81x5x9a; have a3 := in_u i1x10; have a4 := in_u i47; have oc := oc_138_1; by omega)
                                  have n131f : (u_2_0).toInt ≤ (u_2_0).toInt := by exact (have a0 := in_u ((inv_F hI 0 160 rfl e_2_3)); have a1 := in_u ((inv_F hI 448 28000 rfl e_30_0)); have a2 := in_u i81x5x9a; have a3 := in_u i1x10; have a4 := in_u i47; have oc := oc_138_1; by omega)
                                  have n131g : (s.2.2.1 2 0).toInt ≤ (s.2.2.1 2 0).toInt := by have b0 : u_2_0 = s.2.2.1 2 0 := e_2_0; first | (rw [← b0, ← e_2_0]; exact n131f) | (rw [← b0]; exact n131f)
                                  exact g_ireturn (gd rfl) rfl (nb01 (in_w 0 1 (in_c 0 rfl) rfl)) (hP _ _ ⟨(A 30), s, hI, fr_rf, n131g, (Int32.ofInt 0), rfl, (by rw [ax_id]), in_w 0 1 (in_c 0 rfl) rfl, n131, n131a, n131b, n131c, n131d, n131e⟩)
                                · skip
                                  exact zn_ne c84 (in_c 0 rfl) rfl
                              · skip
                                exact zn_ne c81x34 (in_c 0 rfl) rfl
                            · skip
                              have i81x31x1 := z_ge 0 2147483647 c81x31x1 (i_rng z74) rfl
                              refine g_iload_n 5 (gd rfl) rfl rfl ?_
                              refine g_ldc_w 1000000 8 (gd rfl) rfl rfl ?_
                              refine g_cmp_gt 11 15 (gd rfl) rfl rfl (fun c81x31x8 => ?_) (fun c81x31x8 => ?_)
                              · skip
                                have i81x31x8 := r_lt2 1000001 2147483647 c81x31x8 (in_c 1000000 rfl) i81x31x1 rfl
                                refine g_iconst 0 16 (gd rfl) rfl rfl ?_
                                refine g_ireturn (gd rfl) rfl (nb01 (in_w 0 1 (in_c 0 rfl) rfl)) (hp81x31 _ _ ?_)
                                show GG _ _ _ _ _ _ _ _ [.int (Int32.ofInt 0)] _ _ _
                                refine g_if_eq 37 49 (gd rfl) rfl rfl (fun c81x34 => ?_) (fun c81x34 => ?_)
                                · skip
                                  refine g_iconst 0 50 (gd rfl) rfl rfl ?_
                                  refine g_ireturn (gd rfl) rfl (nb01 (in_w 0 1 (in_c 0 rfl) rfl)) (hp81 _ _ ?_)
                                  show GG _ _ _ _ _ _ _ _ [.int (Int32.ofInt 0)] _ _ _
                                  refine g_if_eq 87 130 (gd rfl) rfl rfl (fun c84 => ?_) (fun c84 => ?_)
                                  · skip
                                    refine g_iconst 0 131 (gd rfl) rfl rfl ?_
                                    have n131 : KL s := by exact q_0
                                    have n131a : ((Int32.ofInt 0)).toInt ≠ 0 → (s.2.2.1 30 0).toInt = nln s := by intro h; exact absurd rfl h
                                    have n131b : ((Int32.ofInt 0)).toInt ≠ 0 → (s.2.2.1 2 0).toInt ≤ 3999 := by first | (intro h; exact absurd rfl h) | (intro _; rw [← e_2_0]; exact (have a0 := in_u ((inv_F hI 0 160 rfl e_2_3)); have a1 := in_u ((inv_F hI 448 28000 rfl e_30_0)); have a2 := in_u i81x5x9a; have a3 := in_u i1x10; have a4 := in_u i47; have oc := oc_138_1; by omega))
                                    have n131c : ∀ k : Nat, (k : Int) < 7 * (s.2.2.1 2 0).toInt → s.1 30 k = s.1 30 k := by exact fun k _ => rfl
                                    have n131d : ((Int32.ofInt 0)).toInt ≠ 0 → dkC (gvC s) (x1).toInt (V31 s) ∧ gvC s = opC (gvC s) (x1).toInt (V31 s) ∧ TQ s := by intro h; exact absurd rfl h
                                    have n131e : ((Int32.ofInt 0)).toInt = 0 → ¬ dkC (gvC s) (x1).toInt (V31 s) := by intro _ h; have h8 : (0 ≤ (s.1 31 0).toInt ∧ (s.1 31 0).toInt < (s.2.2.1 2 1).toInt) ∧ (0 ≤ (s.1 31 1).toInt ∧ (s.1 31 1).toInt < (s.2.2.1 2 1).toInt) ∧ (-1000000 ≤ (s.1 31 2).toInt ∧ (s.1 31 2).toInt ≤ 1000000) ∧ (0 ≤ (s.1 31 3).toInt ∧ (s.1 31 3).toInt ≤ 1000000) ∧ fpl (ctg (s.1 4)) < 160 := h.2.2.1 (by exact (have a0 := in_u ((inv_F hI 0 160 rfl e_2_3)); have a1 := in_u ((inv_F hI 448 28000 rfl e_30_0)); have a2 := in_u i81x5x9a; have a3 := in_u i1x10; have a4 := in_u i47; have oc := oc_138_1; by omega)); rw [show s.1 31 0 = z56 from e56.symm, show s.1 31 1 = z62 from e62.symm, show s.1 31 2 = z68 from e68.symm, show s.1 31 3 = z74 from e74.symm] at h8; rw [← e_2_1] at h8; have h5 := q_4 (by exact (have a0 := in_u ((inv_F hI 0 160 rfl e_2_3)); have a1 := in_u ((inv_F hI 448 28000 rfl e_30_0)); have a2 := in_u i81x5x9a; have a3 := in_u i1x10; have a4 := in_u i47; have oc := oc_138_1; by omega)); rw [show s.1 31 4 = z80 from e80.symm] at h5; unfold In at h5; exact (have a0 := in_u ((inv_F hI 0 160 rfl e_2_3)); have a1 := in_u ((inv_F hI 448 28000 rfl e_30_0)); have a2 := in_u i81x5x9a; have a3 := in_u i1x10; have a4 := in_u i47; have oc := oc_138_1; by omega)
                                    have n131f : (u_2_0).toInt ≤ (u_2_0).toInt := by exact (have a0 := in_u ((inv_F hI 0 160 rfl e_2_3)); have a1 := in_u ((inv_F hI 448 28000 rfl e_30_0)); have a2 := in_u i81x5x9a; have a3 := in_u i1x10; have a4 := in_u i47; have oc := oc_138_1; by omega)
                                    have n131g : (s.2.2.1 2 0).toInt ≤ (s.2.2.1 2 0).toInt := by have b0 : u_2_0 = s.2.2.1 2 0 := e_2_0; first | (rw [← b0, ← e_2_0]; exact n131f) | (rw [← b0]; exact n131f)
                                    exact g_ireturn (gd rfl) rfl (nb01 (in_w 0 1 (in_c 0 rfl) rfl)) (hP _ _ ⟨(A 30), s, hI, fr_rf, n131g, (Int32.ofInt 0), rfl, (by rw [ax_id]), in_w 0 1 (in_c 0 rfl) rfl, n131, n131a, n131b, n131c, n131d, n131e⟩)
                                  · skip
                                    exact zn_ne c84 (in_c 0 rfl) rfl
                                · skip
                                  exact zn_ne c81x34 (in_c 0 rfl) rfl
                              · skip
                                have i81x31x8 := r_le1 0 1000000 c81x31x8 i81x31x1 (in_c 1000000 rfl) rfl
                                refine g_iconst 1 12 (gd rfl) rfl rfl ?_
                                refine g_goto 16 (gd rfl) rfl ?_
                                refine g_ireturn (gd rfl) rfl (nb01 (in_w 0 1 (in_c 1 rfl) rfl)) (hp81x31 _ _ ?_)
                                show GG _ _ _ _ _ _ _ _ [.int (Int32.ofInt 1)] _ _ _
                                refine g_if_eq 37 49 (gd rfl) rfl rfl (fun c81x34 => ?_) (fun c81x34 => ?_)
                                · skip
                                  exact zn_eq c81x34 (in_c 1 rfl) rfl
                                · skip
                                  refine g_iload 39 (gd rfl) rfl rfl ?_
                                  refine g_calls (As := [.int z80]) (r := []) 42 (gd rfl) rfl rfl rfl rfl rfl (Nat.le_of_ble_eq_true rfl) (mc := 0) (ms := 0) (Nat.zero_le _) (Nat.zero_le _) (P := fun v u => _) ?_ (fun v u h => h)
                                  intro po81x39 xx81x39 hp81x39 hx81x39
                                  refine g_enter2 (k := 260) (N := 300) (by first | exact dq1 hd rfl | exact dq0 hd rfl | exact dq2 hd rfl | exact dq3 hd rfl | omega) rfl (Nat.le_of_ble_eq_true rfl) ?_
                                  refine g_iload_n 1 (gd rfl) rfl rfl ?_
                                  refine g_if_lt 4 14 (gd rfl) rfl rfl (fun c81x39x1 => ?_) (fun c81x39x1 => ?_)
                                  · skip
                                    have i81x39x1 := z_lt (-2147483648) (-1) c81x39x1 (i_rng z80) rfl
                                    refine g_iconst 0 15 (gd rfl) rfl rfl ?_
                                    refine g_ireturn (gd rfl) rfl (nb01 (in_w 0 1 (in_c 0 rfl) rfl)) (hp81x39 _ _ ?_)
                                    show GG _ _ _ _ _ _ _ _ [.int (Int32.ofInt 0)] _ _ _
                                    refine g_if_eq 45 49 (gd rfl) rfl rfl (fun c81x42 => ?_) (fun c81x42 => ?_)
                                    · skip
                                      refine g_iconst 0 50 (gd rfl) rfl rfl ?_
                                      refine g_ireturn (gd rfl) rfl (nb01 (in_w 0 1 (in_c 0 rfl) rfl)) (hp81 _ _ ?_)
                                      show GG _ _ _ _ _ _ _ _ [.int (Int32.ofInt 0)] _ _ _
                                      refine g_if_eq 87 130 (gd rfl) rfl rfl (fun c84 => ?_) (fun c84 => ?_)
                                      · skip
                                        refine g_iconst 0 131 (gd rfl) rfl rfl ?_
                                        have n131 : KL s := by exact q_0
                                        have n131a : ((Int32.ofInt 0)).toInt ≠ 0 → (s.2.2.1 30 0).toInt = nln s := by intro h; exact absurd rfl h
                                        have n131b : ((Int32.ofInt 0)).toInt ≠ 0 → (s.2.2.1 2 0).toInt ≤ 3999 := by first | (intro h; exact absurd rfl h) | (intro _; rw [← e_2_0]; exact (have a0 := in_u ((inv_F hI 0 160 rfl e_2_3)); have a1 := in_u ((inv_F hI 448 28000 rfl e_30_0)); have a2 := in_u i81x5x9a; have a3 := in_u i1x10; have a4 := in_u i47; have oc := oc_138_1; by omega))
                                        have n131c : ∀ k : Nat, (k : Int) < 7 * (s.2.2.1 2 0).toInt → s.1 30 k = s.1 30 k := by exact fun k _ => rfl
                                        have n131d : ((Int32.ofInt 0)).toInt ≠ 0 → dkC (gvC s) (x1).toInt (V31 s) ∧ gvC s = opC (gvC s) (x1).toInt (V31 s) ∧ TQ s := by intro h; exact absurd rfl h
                                        have n131e : ((Int32.ofInt 0)).toInt = 0 → ¬ dkC (gvC s) (x1).toInt (V31 s) := by intro _ h; have h8 : (0 ≤ (s.1 31 0).toInt ∧ (s.1 31 0).toInt < (s.2.2.1 2 1).toInt) ∧ (0 ≤ (s.1 31 1).toInt ∧ (s.1 31 1).toInt < (s.2.2.1 2 1).toInt) ∧ (-1000000 ≤ (s.1 31 2).toInt ∧ (s.1 31 2).toInt ≤ 1000000) ∧ (0 ≤ (s.1 31 3).toInt ∧ (s.1 31 3).toInt ≤ 1000000) ∧ fpl (ctg (s.1 4)) < 160 := h.2.2.1 (by exact (have a0 := in_u ((inv_F hI 0 160 rfl e_2_3)); have a1 := in_u ((inv_F hI 448 28000 rfl e_30_0)); have a2 := in_u i81x5x9a; have a3 := in_u i1x10; have a4 := in_u i47; have oc := oc_138_1; by omega)); rw [show s.1 31 0 = z56 from e56.symm, show s.1 31 1 = z62 from e62.symm, show s.1 31 2 = z68 from e68.symm, show s.1 31 3 = z74 from e74.symm] at h8; rw [← e_2_1] at h8; have h5 := q_4 (by exact (have a0 := in_u ((inv_F hI 0 160 rfl e_2_3)); have a1 := in_u ((inv_F hI 448 28000 rfl e_30_0)); have a2 := in_u i81x5x9a; have a3 := in_u i1x10; have a4 := in_u i47; have oc := oc_138_1; by omega)); rw [show s.1 31 4 = z80 from e80.symm] at h5; unfold In at h5; exact (have a0 := in_u ((inv_F hI 0 160 rfl e_2_3)); have a1 := in_u ((inv_F hI 448 28000 rfl e_30_0)); have a2 := in_u i81x5x9a; have a3 := in_u i1x10; have a4 := in_u i47; have oc := oc_138_1; by omega)
                                        have n131f : (u_2_0).toInt ≤ (u_2_0).toInt := by exact (have a0 := in_u ((inv_F hI 0 160 rfl e_2_3)); have a1 := in_u ((inv_F hI 448 28000 rfl e_30_0)); have a2 := in_u i81x5x9a; have a3 := in_u i1x10; have a4 := in_u i47; have oc := oc_138_1; by omega)
                                        have n131g : (s.2.2.1 2 0).toInt ≤ (s.2.2.1 2 0).toInt := by have b0 : u_2_0 = s.2.2.1 2 0 := e_2_0; first | (rw [← b0, ← e_2_0]; exact n131f) | (rw [← b0]; exact n131f)
                                        exact g_ireturn (gd rfl) rfl (nb01 (in_w 0 1 (in_c 0 rfl) rfl)) (hP _ _ ⟨(A 30), s, hI, fr_rf, n131g, (Int32.ofInt 0), rfl, (by rw [ax_id]), in_w 0 1 (in_c 0 rfl) rfl, n131, n131a, n131b, n131c, n131d, n131e⟩)
                                      · skip
                                        exact zn_ne c84 (in_c 0 rfl) rfl
                                    · skip
                                      exact zn_ne c81x42 (in_c 0 rfl) rfl
                                  · skip
                                    have i81x39x1 := z_ge 0 2147483647 c81x39x1 (i_rng z80) rfl
                                    refine g_iload_n 5 (gd rfl) rfl rfl ?_
                                    refine g_bipush 26 7 (gd rfl) rfl rfl ?_
                                    refine g_cmp_ge 10 14 (gd rfl) rfl rfl (fun c81x39x7 => ?_) (fun c81x39x7 => ?_)
                                    · skip
                                      have i81x39x7 := r_le2 26 2147483647 c81x39x7 (in_c 26 rfl) i81x39x1 rfl
                                      refine g_iconst 0 15 (gd rfl) rfl rfl ?_
                                      refine g_ireturn (gd rfl) rfl (nb01 (in_w 0 1 (in_c 0 rfl) rfl)) (hp81x39 _ _ ?_)
                                      show GG _ _ _ _ _ _ _ _ [.int (Int32.ofInt 0)] _ _ _
                                      refine g_if_eq 45 49 (gd rfl) rfl rfl (fun c81x42 => ?_) (fun c81x42 => ?_)
                                      · skip
                                        refine g_iconst 0 50 (gd rfl) rfl rfl ?_
                                        refine g_ireturn (gd rfl) rfl (nb01 (in_w 0 1 (in_c 0 rfl) rfl)) (hp81 _ _ ?_)
                                        show GG _ _ _ _ _ _ _ _ [.int (Int32.ofInt 0)] _ _ _
                                        refine g_if_eq 87 130 (gd rfl) rfl rfl (fun c84 => ?_) (fun c84 => ?_)
                                        · skip
                                          refine g_iconst 0 131 (gd rfl) rfl rfl ?_
                                          have n131 : KL s := by exact q_0
                                          have n131a : ((Int32.ofInt 0)).toInt ≠ 0 → (s.2.2.1 30 0).toInt = nln s := by intro h; exact absurd rfl h
                                          have n131b : ((Int32.ofInt 0)).toInt ≠ 0 → (s.2.2.1 2 0).toInt ≤ 3999 := by first | (intro h; exact absurd rfl h) | (intro _; rw [← e_2_0]; exact (have a0 := in_u ((inv_F hI 0 160 rfl e_2_3)); have a1 := in_u ((inv_F hI 448 28000 rfl e_30_0)); have a2 := in_u i81x5x9a; have a3 := in_u i1x10; have a4 := in_u i47; have oc := oc_138_1; by omega))
                                          have n131c : ∀ k : Nat, (k : Int) < 7 * (s.2.2.1 2 0).toInt → s.1 30 k = s.1 30 k := by exact fun k _ => rfl
                                          have n131d : ((Int32.ofInt 0)).toInt ≠ 0 → dkC (gvC s) (x1).toInt (V31 s) ∧ gvC s = opC (gvC s) (x1).toInt (V31 s) ∧ TQ s := by intro h; exact absurd rfl h
                                          have n131e : ((Int32.ofInt 0)).toInt = 0 → ¬ dkC (gvC s) (x1).toInt (V31 s) := by intro _ h; have h8 : (0 ≤ (s.1 31 0).toInt ∧ (s.1 31 0).toInt < (s.2.2.1 2 1).toInt) ∧ (0 ≤ (s.1 31 1).toInt ∧ (s.1 31 1).toInt < (s.2.2.1 2 1).toInt) ∧ (-1000000 ≤ (s.1 31 2).toInt ∧ (s.1 31 2).toInt ≤ 1000000) ∧ (0 ≤ (s.1 31 3).toInt ∧ (s.1 31 3).toInt ≤ 1000000) ∧ fpl (ctg (s.1 4)) < 160 := h.2.2.1 (by exact (have a0 := in_u ((inv_F hI 0 160 rfl e_2_3)); have a1 := in_u ((inv_F hI 448 28000 rfl e_30_0)); have a2 := in_u i81x5x9a; have a3 := in_u i1x10; have a4 := in_u i47; have oc := oc_138_1; by omega)); rw [show s.1 31 0 = z56 from e56.symm, show s.1 31 1 = z62 from e62.symm, show s.1 31 2 = z68 from e68.symm, show s.1 31 3 = z74 from e74.symm] at h8; rw [← e_2_1] at h8; have h5 := q_4 (by exact (have a0 := in_u ((inv_F hI 0 160 rfl e_2_3)); have a1 := in_u ((inv_F hI 448 28000 rfl e_30_0)); have a2 := in_u i81x5x9a; have a3 := in_u i1x10; have a4 := in_u i47; have oc := oc_138_1; by omega)); rw [show s.1 31 4 = z80 from e80.symm] at h5; unfold In at h5; exact (have a0 := in_u ((inv_F hI 0 160 rfl e_2_3)); have a1 := in_u ((inv_F hI 448 28000 rfl e_30_0)); have a2 := in_u i81x5x9a; have a3 := in_u i1x10; have a4 := in_u i47; have oc := oc_138_1; by omega)
                                          have n131f : (u_2_0).toInt ≤ (u_2_0).toInt := by exact (have a0 := in_u ((inv_F hI 0 160 rfl e_2_3)); have a1 := in_u ((inv_F hI 448 28000 rfl e_30_0)); have a2 := in_u i81x5x9a; have a3 := in_u i1x10; have a4 := in_u i47; have oc := oc_138_1; by omega)
                                          have n131g : (s.2.2.1 2 0).toInt ≤ (s.2.2.1 2 0).toInt := by have b0 : u_2_0 = s.2.2.1 2 0 := e_2_0; first | (rw [← b0, ← e_2_0]; exact n131f) | (rw [← b0]; exact n131f)
                                          exact g_ireturn (gd rfl) rfl (nb01 (in_w 0 1 (in_c 0 rfl) rfl)) (hP _ _ ⟨(A 30), s, hI, fr_rf, n131g, (Int32.ofInt 0), rfl, (by rw [ax_id]), in_w 0 1 (in_c 0 rfl) rfl, n131, n131a, n131b, n131c, n131d, n131e⟩)
                                        · skip
                                          exact zn_ne c84 (in_c 0 rfl) rfl
                                      · skip
                                        exact zn_ne c81x42 (in_c 0 rfl) rfl
                                    · skip
                                      have i81x39x7 := r_lt1 0 25 c81x39x7 i81x39x1 (in_c 26 rfl) rfl
                                      refine g_iconst 1 11 (gd rfl) rfl rfl ?_
                                      refine g_goto 15 (gd rfl) rfl ?_
                                      refine g_ireturn (gd rfl) rfl (nb01 (in_w 0 1 (in_c 1 rfl) rfl)) (hp81x39 _ _ ?_)
                                      show GG _ _ _ _ _ _ _ _ [.int (Int32.ofInt 1)] _ _ _
                                      refine g_if_eq 45 49 (gd rfl) rfl rfl (fun c81x42 => ?_) (fun c81x42 => ?_)
                                      · skip
                                        exact zn_eq c81x42 (in_c 1 rfl) rfl
                                      · skip
                                        refine g_iconst 1 46 (gd rfl) rfl rfl ?_
                                        refine g_goto 50 (gd rfl) rfl ?_
                                        refine g_ireturn (gd rfl) rfl (nb01 (in_w 0 1 (in_c 1 rfl) rfl)) (hp81 _ _ ?_)
                                        show GG _ _ _ _ _ _ _ _ [.int (Int32.ofInt 1)] _ _ _
                                        refine g_if_eq 87 130 (gd rfl) rfl rfl (fun c84 => ?_) (fun c84 => ?_)
                                        · skip
                                          exact zn_eq c84 (in_c 1 rfl) rfl
                                        · skip
                                          refine g_aload_n 88 (gd rfl) rfl rfl ?_
                                          refine g_aload_n 89 (gd rfl) rfl rfl ?_
                                          refine g_getA (q2 := 31) 92 (gd rfl) rfl rfl rfl rfl ?_
                                          refine g_iconst 0 93 (gd rfl) rfl rfl ?_
                                          refine g_iaload 94 (gd rfl) rfl (n := 5) rfl (in_ix (in_c 0 rfl) rfl) (fun z93 e93 => ?_)
                                          have q93 : z56 = z93 := (e56).trans e93.symm
                                          subst q93
                                          refine g_aload_n 95 (gd rfl) rfl rfl ?_
                                          refine g_getA (q2 := 31) 98 (gd rfl) rfl rfl rfl rfl ?_
                                          refine g_iconst 1 99 (gd rfl) rfl rfl ?_
                                          refine g_iaload 100 (gd rfl) rfl (n := 5) rfl (in_ix (in_c 1 rfl) rfl) (fun z99 e99 => ?_)
                                          have q99 : z62 = z99 := (e62).trans e99.symm
                                          subst q99
                                          refine g_aload_n 101 (gd rfl) rfl rfl ?_
                                          refine g_getA (q2 := 31) 104 (gd rfl) rfl rfl rfl rfl ?_
                                          refine g_iconst 2 105 (gd rfl) rfl rfl ?_
                                          refine g_iaload 106 (gd rfl) rfl (n := 5) rfl (in_ix (in_c 2 rfl) rfl) (fun z105 e105 => ?_)
                                          have q105 : z68 = z105 := (e68).trans e105.symm
                                          subst q105
                                          refine g_aload_n 107 (gd rfl) rfl rfl ?_
                                          refine g_getA (q2 := 31) 110 (gd rfl) rfl rfl rfl rfl ?_
                                          refine g_iconst 3 111 (gd rfl) rfl rfl ?_
                                          refine g_iaload 112 (gd rfl) rfl (n := 5) rfl (in_ix (in_c 3 rfl) rfl) (fun z111 e111 => ?_)
                                          have q111 : z74 = z111 := (e74).trans e111.symm
                                          subst q111
                                          refine g_aload_n 113 (gd rfl) rfl rfl ?_
                                          refine g_getA (q2 := 31) 116 (gd rfl) rfl rfl rfl rfl ?_
                                          refine g_iconst 4 117 (gd rfl) rfl rfl ?_
                                          refine g_iaload 118 (gd rfl) rfl (n := 5) rfl (in_ix (in_c 4 rfl) rfl) (fun z117 e117 => ?_)
                                          have q117 : z80 = z117 := (e80).trans e117.symm
                                          subst q117
                                          have n118 : (z56).toInt < (u_2_1).toInt := by exact (have a0 := in_u ((inv_F hI 0 160 rfl e_2_3)); have a1 := in_u ((inv_F hI 448 28000 rfl e_30_0)); have a2 := in_u i81x5x9a; have a3 := in_u i1x10; have a4 := in_u i47; have a5 := in_u i81x5x9; have oc := oc_138_1; by omega)
                                          have n118a : (z62).toInt < (u_2_1).toInt := by exact (have a0 := in_u ((inv_F hI 0 160 rfl e_2_3)); have a1 := in_u ((inv_F hI 448 28000 rfl e_30_0)); have a2 := in_u i81x5x9a; have a3 := in_u i1x10; have a4 := in_u i47; have a5 := in_u i81x16x9; have oc := oc_138_1; by omega)
                                          have p118 : KL s := by exact q_0
                                          refine g_callv (X := _) (As := [.int z56, .int z62, .int z68, .int z74, .int z80]) (r := []) (b := A 1) (q := 1) 121 (gd rfl) rfl rfl rfl rfl rfl (ww_o rfl) (Nat.le_of_ble_eq_true rfl) (Nat.le_of_eq (lc_cg ((show Fr ([], [], [], []) s s from fr_rf).2.2.1 30 0 rfl) ((show Fr ([], [], [], []) s s from fr_rf).2.2.1 2 0 rfl)).1) (Nat.le_of_eq (lc_cg ((show Fr ([], [], [], []) s s from fr_rf).2.2.1 30 0 rfl) ((show Fr ([], [], [], []) s s from fr_rf).2.2.1 2 0 rfl)).2.1) (f_125_1 (by first | exact dq1 hd rfl | exact dq0 hd rfl | exact dq2 hd rfl | exact dq3 hd rfl | omega) hI (in_w 0 31 i81x5x9 rfl) (in_w 0 31 i81x16x9 rfl) (in_w (-1000000) 1000000 i81x23x11 rfl) (in_w 0 1000000 i81x31x8 rfl) (in_w 0 25 i81x39x7 rfl) e_2_0 e_2_1 e_30_0 (in_w 0 3999 i1x10 rfl) n118 n118a p118) (fun e u h => h) (fun v u h => ?_)
                                          obtain ⟨a118, s118, hI118, hF118, n118b, z118, rfl, rfl, i118, p118a, p118b, p118c, p118d, p118e, p118f, p118g, p118h⟩ := h
                                          obtain ⟨z118a, e118⟩ : ∃ w, w = s118.2.2.1 2 0 := ⟨_, rfl⟩
                                          have i118a := inv_F hI118 0 4000 rfl e118
                                          rw [← (show u_2_0 = s.2.2.1 2 0 from e_2_0)] at n118b
                                          rw [← (show z118a = s118.2.2.1 2 0 from e118)] at n118b
                                          show GG _ _ _ _ _ _ _ _ [.int z118] _ _ _
                                          refine g_bipush (-3) 123 (gd rfl) rfl rfl ?_
                                          refine g_cmp_eq 126 130 (gd rfl) rfl rfl (fun c123 => ?_) (fun c123 => ?_)
                                          · skip
                                            have i123 := r_eq1 (-3) (-3) c123 i118 (in_c (-3) rfl) rfl
                                            refine g_iconst 0 131 (gd rfl) rfl rfl ?_
                                            have n131 : KL s118 := by exact p118a
                                            have n131a : ((Int32.ofInt 0)).toInt ≠ 0 → (s118.2.2.1 30 0).toInt = nln s := by first | (intro h; exact absurd rfl h) | (intro _; exact p118b (by have c3 : (Int32.ofInt (-3)).toInt = -3 := (by decide); omega))
                                            have n131b : ((Int32.ofInt 0)).toInt ≠ 0 → (s.2.2.1 2 0).toInt ≤ 3999 := by first | (intro h; exact absurd rfl h) | (intro _; rw [← e_2_0]; exact (have a0 := in_u ((inv_F hI 0 160 rfl e_2_3)); have a1 := in_u ((inv_F hI 448 28000 rfl e_30_0)); have a2 := in_u i81x5x9a; have a3 := in_u i1x10; have a4 := in_u i47; have a5 := in_u i118a; have oc := oc_138_1; by omega))
                                            have n131c : ∀ k : Nat, (k : Int) < 7 * (s.2.2.1 2 0).toInt → s118.1 30 k = s.1 30 k := by exact p118d
                                            have n131d : ((Int32.ofInt 0)).toInt ≠ 0 → dkC (gvC s) (x1).toInt (V31 s) ∧ gvC s118 = opC (gvC s) (x1).toInt (V31 s) ∧ TQ s118 := by first | (intro h; exact absurd rfl h) | (intro _; exact ⟨dk_0 (by exact (have a0 := in_u ((inv_F hI 0 160 rfl e_2_3)); have a1 := in_u ((inv_F hI 448 28000 rfl e_30_0)); have a2 := in_u i81x5x9a; have a3 := in_u i1x10; have a4 := in_u i47; have a5 := in_u i118a; have oc := oc_138_1; by omega)) (show (s.2.2.1 2 0).toInt ≤ 3999 from by rw [← e_2_0]; exact (have a0 := in_u ((inv_F hI 0 160 rfl e_2_3)); have a1 := in_u ((inv_F hI 448 28000 rfl e_30_0)); have a2 := in_u i81x5x9a; have a3 := in_u i1x10; have a4 := in_u i47; have a5 := in_u i118a; have oc := oc_138_1; by omega)) (show (0 ≤ (s.1 31 0).toInt ∧ (s.1 31 0).toInt < (s.2.2.1 2 1).toInt) ∧ (0 ≤ (s.1 31 1).toInt ∧ (s.1 31 1).toInt < (s.2.2.1 2 1).toInt) ∧ (-1000000 ≤ (s.1 31 2).toInt ∧ (s.1 31 2).toInt ≤ 1000000) ∧ (0 ≤ (s.1 31 3).toInt ∧ (s.1 31 3).toInt ≤ 1000000) ∧ fpl (ctg (s.1 4)) < 160 from by rw [show s.1 31 0 = z56 from e56.symm, show s.1 31 1 = z62 from e62.symm, show s.1 31 2 = z68 from e68.symm, show s.1 31 3 = z74 from e74.symm, ← e_2_1, (p118f (by exact (have a0 := in_u ((inv_F hI 0 160 rfl e_2_3)); have a1 := in_u ((inv_F hI 448 28000 rfl e_30_0)); have a2 := in_u i81x5x9a; have a3 := in_u i1x10; have a4 := in_u i47; have a5 := in_u i118a; have oc := oc_138_1; by omega))).2.1]; refine ⟨⟨by exact (have a0 := in_u ((inv_F hI 0 160 rfl e_2_3)); have a1 := in_u ((inv_F hI 448 28000 rfl e_30_0)); have a2 := in_u i81x5x9a; have a3 := in_u i1x10; have a4 := in_u i47; have a5 := in_u i118a; have oc := oc_138_1; by omega), by exact (have a0 := in_u ((inv_F hI 0 160 rfl e_2_3)); have a1 := in_u ((inv_F hI 448 28000 rfl e_30_0)); have a2 := in_u i81x5x9a; have a3 := in_u i1x10; have a4 := in_u i47; have a5 := in_u i118a; have oc := oc_138_1; by omega)⟩, ⟨by exact (have a0 := in_u ((inv_F hI 0 160 rfl e_2_3)); have a1 := in_u ((inv_F hI 448 28000 rfl e_30_0)); have a2 := in_u i81x5x9a; have a3 := in_u i1x10; have a4 := in_u i47; have a5 := in_u i118a; have oc := oc_138_1; by omega), by exact (have a0 := in_u ((inv_F hI 0 160 rfl e_2_3)); have a1 := in_u ((inv_F hI 448 28000 rfl e_30_0)); have a2 := in_u i81x5x9a; have a3 := in_u i1x10; have a4 := in_u i47; have a5 := in_u i118a; have oc := oc_138_1; by omega)⟩, ⟨by exact (have a0 := in_u ((inv_F hI 0 160 rfl e_2_3)); have a1 := in_u ((inv_F hI 448 28000 rfl e_30_0)); have a2 := in_u i81x5x9a; have a3 := in_u i1x10; have a4 := in_u i47; have a5 := in_u i118a; have oc := oc_138_1; by omega), by exact (have a0 := in_u ((inv_F hI 0 160 rfl e_2_3)); have a1 := in_u ((inv_F hI 448 28000 rfl e_30_0)); have a2 := in_u i81x5x9a; have a3 := in_u i1x10; have a4 := in_u i47; have a5 := in_u i118a; have oc := oc_138_1; by omega)⟩, ⟨by exact (have a0 := in_u ((inv_F hI 0 160 rfl e_2_3)); have a1 := in_u ((inv_F hI 448 28000 rfl e_30_0)); have a2 := in_u i81x5x9a; have a3 := in_u i1x10; have a4 := in_u i47; have a5 := in_u i118a; have oc := oc_138_1; by omega), by exact (have a0 := in_u ((inv_F hI 0 160 rfl e_2_3)); have a1 := in_u ((inv_F hI 448 28000 rfl e_30_0)); have a2 := in_u i81x5x9a; have a3 := in_u i1x10; have a4 := in_u i47; have a5 := in_u i118a; have oc := oc_138_1; by omega)⟩, ?_⟩; have h18 := i118; unfold In at h18; show z118.toInt.toNat < 160; omega), by rw [(p118f (by exact (have a0 := in_u ((inv_F hI 0 160 rfl e_2_3)); have a1 := in_u ((inv_F hI 448 28000 rfl e_30_0)); have a2 := in_u i81x5x9a; have a3 := in_u i1x10; have a4 := in_u i47; have a5 := in_u i118a; have oc := oc_138_1; by omega))).1, opC_0 (by exact (have a0 := in_u ((inv_F hI 0 160 rfl e_2_3)); have a1 := in_u ((inv_F hI 448 28000 rfl e_30_0)); have a2 := in_u i81x5x9a; have a3 := in_u i1x10; have a4 := in_u i47; have a5 := in_u i118a; have oc := oc_138_1; by omega)) (p118f (by exact (have a0 := in_u ((inv_F hI 0 160 rfl e_2_3)); have a1 := in_u ((inv_F hI 448 28000 rfl e_30_0)); have a2 := in_u i81x5x9a; have a3 := in_u i1x10; have a4 := in_u i47; have a5 := in_u i118a; have oc := oc_138_1; by omega))).2.1, show s.1 31 0 = z56 from e56.symm, show s.1 31 1 = z62 from e62.symm, show s.1 31 2 = z68 from e68.symm, show s.1 31 3 = z74 from e74.symm, show s.1 31 4 = z80 from e80.symm], p118g q_3⟩)
                                            have n131e : ((Int32.ofInt 0)).toInt = 0 → ¬ dkC (gvC s) (x1).toInt (V31 s) := by first | (intro h; exact absurd h (by decide)) | (intro _ h; have h8 : (0 ≤ (s.1 31 0).toInt ∧ (s.1 31 0).toInt < (s.2.2.1 2 1).toInt) ∧ (0 ≤ (s.1 31 1).toInt ∧ (s.1 31 1).toInt < (s.2.2.1 2 1).toInt) ∧ (-1000000 ≤ (s.1 31 2).toInt ∧ (s.1 31 2).toInt ≤ 1000000) ∧ (0 ≤ (s.1 31 3).toInt ∧ (s.1 31 3).toInt ≤ 1000000) ∧ fpl (ctg (s.1 4)) < 160 := h.2.2.1 (by exact (have a0 := in_u ((inv_F hI 0 160 rfl e_2_3)); have a1 := in_u ((inv_F hI 448 28000 rfl e_30_0)); have a2 := in_u i81x5x9a; have a3 := in_u i1x10; have a4 := in_u i47; have a5 := in_u i118a; have oc := oc_138_1; by omega)); rw [(p118e (by exact (have a0 := in_u ((inv_F hI 0 160 rfl e_2_3)); have a1 := in_u ((inv_F hI 448 28000 rfl e_30_0)); have a2 := in_u i81x5x9a; have a3 := in_u i1x10; have a4 := in_u i47; have a5 := in_u i118a; have oc := oc_138_1; by omega))).2] at h8; exact absurd h8.2.2.2.2 (by decide))
                                            have n131f : (u_2_0).toInt ≤ (z118a).toInt := by exact (have a0 := in_u ((inv_F hI 0 160 rfl e_2_3)); have a1 := in_u ((inv_F hI 448 28000 rfl e_30_0)); have a2 := in_u i81x5x9a; have a3 := in_u i1x10; have a4 := in_u i47; have a5 := in_u i118a; have oc := oc_138_1; by omega)
                                            have n131g : (s.2.2.1 2 0).toInt ≤ (s118.2.2.1 2 0).toInt := by have b0 : z118a = s118.2.2.1 2 0 := e118; first | (rw [← b0, ← e_2_0]; exact n131f) | (rw [← b0]; exact n131f)
                                            exact g_ireturn (gd rfl) rfl (nb01 (in_w 0 1 (in_c 0 rfl) rfl)) (hP _ _ ⟨a118, s118, hI118, (fr_tr rfl fr_rf hF118), n131g, (Int32.ofInt 0), rfl, rfl, in_w 0 1 (in_c 0 rfl) rfl, n131, n131a, n131b, n131c, n131d, n131e⟩)
                                          · skip
                                            have i123 := r_ne1 (-2) 159 c123 i118 (in_c (-3) rfl) rfl
                                            refine g_iconst 1 127 (gd rfl) rfl rfl ?_
                                            refine g_goto 131 (gd rfl) rfl ?_
                                            have n131 : KL s118 := by exact p118a
                                            have n131a : ((Int32.ofInt 1)).toInt ≠ 0 → (s118.2.2.1 30 0).toInt = nln s := by first | (intro h; exact absurd rfl h) | (intro _; exact p118b (by have c3 : (Int32.ofInt (-3)).toInt = -3 := (by decide); omega))
                                            have n131b : ((Int32.ofInt 1)).toInt ≠ 0 → (s.2.2.1 2 0).toInt ≤ 3999 := by first | (intro h; exact absurd rfl h) | (intro _; rw [← e_2_0]; exact (have a0 := in_u ((inv_F hI 0 160 rfl e_2_3)); have a1 := in_u ((inv_F hI 448 28000 rfl e_30_0)); have a2 := in_u i81x5x9a; have a3 := in_u i1x10; have a4 := in_u i47; have a5 := in_u i118a; have oc := oc_138_1; by omega))
                                            have n131c : ∀ k : Nat, (k : Int) < 7 * (s.2.2.1 2 0).toInt → s118.1 30 k = s.1 30 k := by exact p118d
                                            have n131d : ((Int32.ofInt 1)).toInt ≠ 0 → dkC (gvC s) (x1).toInt (V31 s) ∧ gvC s118 = opC (gvC s) (x1).toInt (V31 s) ∧ TQ s118 := by first | (intro h; exact absurd rfl h) | (intro _; exact ⟨dk_0 (by exact (have a0 := in_u ((inv_F hI 0 160 rfl e_2_3)); have a1 := in_u ((inv_F hI 448 28000 rfl e_30_0)); have a2 := in_u i81x5x9a; have a3 := in_u i1x10; have a4 := in_u i47; have a5 := in_u i118a; have oc := oc_138_1; by omega)) (show (s.2.2.1 2 0).toInt ≤ 3999 from by rw [← e_2_0]; exact (have a0 := in_u ((inv_F hI 0 160 rfl e_2_3)); have a1 := in_u ((inv_F hI 448 28000 rfl e_30_0)); have a2 := in_u i81x5x9a; have a3 := in_u i1x10; have a4 := in_u i47; have a5 := in_u i118a; have oc := oc_138_1; by omega)) (show (0 ≤ (s.1 31 0).toInt ∧ (s.1 31 0).toInt < (s.2.2.1 2 1).toInt) ∧ (0 ≤ (s.1 31 1).toInt ∧ (s.1 31 1).toInt < (s.2.2.1 2 1).toInt) ∧ (-1000000 ≤ (s.1 31 2).toInt ∧ (s.1 31 2).toInt ≤ 1000000) ∧ (0 ≤ (s.1 31 3).toInt ∧ (s.1 31 3).toInt ≤ 1000000) ∧ fpl (ctg (s.1 4)) < 160 from by rw [show s.1 31 0 = z56 from e56.symm, show s.1 31 1 = z62 from e62.symm, show s.1 31 2 = z68 from e68.symm, show s.1 31 3 = z74 from e74.symm, ← e_2_1, (p118f (by exact (have a0 := in_u ((inv_F hI 0 160 rfl e_2_3)); have a1 := in_u ((inv_F hI 448 28000 rfl e_30_0)); have a2 := in_u i81x5x9a; have a3 := in_u i1x10; have a4 := in_u i47; have a5 := in_u i118a; have oc := oc_138_1; by omega))).2.1]; refine ⟨⟨by exact (have a0 := in_u ((inv_F hI 0 160 rfl e_2_3)); have a1 := in_u ((inv_F hI 448 28000 rfl e_30_0)); have a2 := in_u i81x5x9a; have a3 := in_u i1x10; have a4 := in_u i47; have a5 := in_u i118a; have oc := oc_138_1; by omega), by exact (have a0 := in_u ((inv_F hI 0 160 rfl e_2_3)); have a1 := in_u ((inv_F hI 448 28000 rfl e_30_0)); have a2 := in_u i81x5x9a; have a3 := in_u i1x10; have a4 := in_u i47; have a5 := in_u i118a; have oc := oc_138_1; by omega)⟩, ⟨by exact (have a0 := in_u ((inv_F hI 0 160 rfl e_2_3)); have a1 := in_u ((inv_F hI 448 28000 rfl e_30_0)); have a2 := in_u i81x5x9a; have a3 := in_u i1x10; have a4 := in_u i47; have a5 := in_u i118a; have oc := oc_138_1; by omega), by exact (have a0 := in_u ((inv_F hI 0 160 rfl e_2_3)); have a1 := in_u ((inv_F hI 448 28000 rfl e_30_0)); have a2 := in_u i81x5x9a; have a3 := in_u i1x10; have a4 := in_u i47; have a5 := in_u i118a; have oc := oc_138_1; by omega)⟩, ⟨by exact (have a0 := in_u ((inv_F hI 0 160 rfl e_2_3)); have a1 := in_u ((inv_F hI 448 28000 rfl e_30_0)); have a2 := in_u i81x5x9a; have a3 := in_u i1x10; have a4 := in_u i47; have a5 := in_u i118a; have oc := oc_138_1; by omega), by exact (have a0 := in_u ((inv_F hI 0 160 rfl e_2_3)); have a1 := in_u ((inv_F hI 448 28000 rfl e_30_0)); have a2 := in_u i81x5x9a; have a3 := in_u i1x10; have a4 := in_u i47; have a5 := in_u i118a; have oc := oc_138_1; by omega)⟩, ⟨by exact (have a0 := in_u ((inv_F hI 0 160 rfl e_2_3)); have a1 := in_u ((inv_F hI 448 28000 rfl e_30_0)); have a2 := in_u i81x5x9a; have a3 := in_u i1x10; have a4 := in_u i47; have a5 := in_u i118a; have oc := oc_138_1; by omega), by exact (have a0 := in_u ((inv_F hI 0 160 rfl e_2_3)); have a1 := in_u ((inv_F hI 448 28000 rfl e_30_0)); have a2 := in_u i81x5x9a; have a3 := in_u i1x10; have a4 := in_u i47; have a5 := in_u i118a; have oc := oc_138_1; by omega)⟩, ?_⟩; have h18 := i118; unfold In at h18; show z118.toInt.toNat < 160; omega), by rw [(p118f (by exact (have a0 := in_u ((inv_F hI 0 160 rfl e_2_3)); have a1 := in_u ((inv_F hI 448 28000 rfl e_30_0)); have a2 := in_u i81x5x9a; have a3 := in_u i1x10; have a4 := in_u i47; have a5 := in_u i118a; have oc := oc_138_1; by omega))).1, opC_0 (by exact (have a0 := in_u ((inv_F hI 0 160 rfl e_2_3)); have a1 := in_u ((inv_F hI 448 28000 rfl e_30_0)); have a2 := in_u i81x5x9a; have a3 := in_u i1x10; have a4 := in_u i47; have a5 := in_u i118a; have oc := oc_138_1; by omega)) (p118f (by exact (have a0 := in_u ((inv_F hI 0 160 rfl e_2_3)); have a1 := in_u ((inv_F hI 448 28000 rfl e_30_0)); have a2 := in_u i81x5x9a; have a3 := in_u i1x10; have a4 := in_u i47; have a5 := in_u i118a; have oc := oc_138_1; by omega))).2.1, show s.1 31 0 = z56 from e56.symm, show s.1 31 1 = z62 from e62.symm, show s.1 31 2 = z68 from e68.symm, show s.1 31 3 = z74 from e74.symm, show s.1 31 4 = z80 from e80.symm], p118g q_3⟩)
                                            have n131e : ((Int32.ofInt 1)).toInt = 0 → ¬ dkC (gvC s) (x1).toInt (V31 s) := by first | (intro h; exact absurd h (by decide)) | (intro _ h; have h8 : (0 ≤ (s.1 31 0).toInt ∧ (s.1 31 0).toInt < (s.2.2.1 2 1).toInt) ∧ (0 ≤ (s.1 31 1).toInt ∧ (s.1 31 1).toInt < (s.2.2.1 2 1).toInt) ∧ (-1000000 ≤ (s.1 31 2).toInt ∧ (s.1 31 2).toInt ≤ 1000000) ∧ (0 ≤ (s.1 31 3).toInt ∧ (s.1 31 3).toInt ≤ 1000000) ∧ fpl (ctg (s.1 4)) < 160 := h.2.2.1 (by exact (have a0 := in_u ((inv_F hI 0 160 rfl e_2_3)); have a1 := in_u ((inv_F hI 448 28000 rfl e_30_0)); have a2 := in_u i81x5x9a; have a3 := in_u i1x10; have a4 := in_u i47; have a5 := in_u i118a; have oc := oc_138_1; by omega)); rw [(p118e (by exact (have a0 := in_u ((inv_F hI 0 160 rfl e_2_3)); have a1 := in_u ((inv_F hI 448 28000 rfl e_30_0)); have a2 := in_u i81x5x9a; have a3 := in_u i1x10; have a4 := in_u i47; have a5 := in_u i118a; have oc := oc_138_1; by omega))).2] at h8; exact absurd h8.2.2.2.2 (by decide))
                                            have n131f : (u_2_0).toInt ≤ (z118a).toInt := by exact (have a0 := in_u ((inv_F hI 0 160 rfl e_2_3)); have a1 := in_u ((inv_F hI 448 28000 rfl e_30_0)); have a2 := in_u i81x5x9a; have a3 := in_u i1x10; have a4 := in_u i47; have a5 := in_u i118a; have oc := oc_138_1; by omega)
                                            have n131g : (s.2.2.1 2 0).toInt ≤ (s118.2.2.1 2 0).toInt := by have b0 : z118a = s118.2.2.1 2 0 := e118; first | (rw [← b0, ← e_2_0]; exact n131f) | (rw [← b0]; exact n131f)
                                            exact g_ireturn (gd rfl) rfl (nb01 (in_w 0 1 (in_c 1 rfl) rfl)) (hP _ _ ⟨a118, s118, hI118, (fr_tr rfl fr_rf hF118), n131g, (Int32.ofInt 1), rfl, rfl, in_w 0 1 (in_c 1 rfl) rfl, n131, n131a, n131b, n131c, n131d, n131e⟩)
      · skip
        have i12 := r_eq1 13 13 c12 h1 (in_c 13 rfl) rfl
        refine g_aload_n 16 (gd rfl) rfl rfl ?_
        refine g_getA (q2 := 2) 19 (gd rfl) rfl rfl rfl rfl ?_
        refine g_getI 22 (gd rfl) rfl rfl rfl (fun z19 e19 => ?_)
        have q19 : u_2_1 = z19 := (e_2_1).trans e19.symm
        subst q19
        refine g_bipush 32 24 (gd rfl) rfl rfl ?_
        refine g_cmp_ge 27 44 (gd rfl) rfl rfl (fun c24 => ?_) (fun c24 => ?_)
        · skip
          have i24 := r_le2 32 32 c24 (in_c 32 rfl) (inv_F hI 0 32 rfl e_2_1) rfl
          refine g_iconst 0 45 (gd rfl) rfl rfl ?_
          have n45 : KL s := by exact q_0
          have n45a : ((Int32.ofInt 0)).toInt ≠ 0 → (s.2.2.1 30 0).toInt = nln s := by intro h; exact absurd rfl h
          have n45b : ((Int32.ofInt 0)).toInt ≠ 0 → (s.2.2.1 2 0).toInt ≤ 3999 := by first | (intro h; exact absurd rfl h) | (intro _; rw [← e_2_0]; exact (have a0 := in_u ((inv_F hI 0 160 rfl e_2_3)); have a1 := in_u ((inv_F hI 448 28000 rfl e_30_0)); have a2 := in_u i24; have a3 := in_u i1x10; have a4 := in_u i12; have oc := oc_138_1; by omega))
          have n45c : ∀ k : Nat, (k : Int) < 7 * (s.2.2.1 2 0).toInt → s.1 30 k = s.1 30 k := by exact fun k _ => rfl
          have n45d : ((Int32.ofInt 0)).toInt ≠ 0 → dkC (gvC s) (x1).toInt (V31 s) ∧ gvC s = opC (gvC s) (x1).toInt (V31 s) ∧ TQ s := by intro h; exact absurd rfl h
          have n45e : ((Int32.ofInt 0)).toInt = 0 → ¬ dkC (gvC s) (x1).toInt (V31 s) := by intro _ h; first | (have h9 : (s.2.2.1 2 0).toInt ≤ 3999 := h.1; rw [← e_2_0] at h9; exact (have a0 := in_u ((inv_F hI 0 160 rfl e_2_3)); have a1 := in_u ((inv_F hI 448 28000 rfl e_30_0)); have a2 := in_u i24; have a3 := in_u i1x10; have a4 := in_u i12; have oc := oc_138_1; by omega)) | (have h9 : (s.2.2.1 2 1).toInt ≤ 31 := h.2.1 (by exact (have a0 := in_u ((inv_F hI 0 160 rfl e_2_3)); have a1 := in_u ((inv_F hI 448 28000 rfl e_30_0)); have a2 := in_u i24; have a3 := in_u i1x10; have a4 := in_u i12; have oc := oc_138_1; by omega)); rw [← e_2_1] at h9; exact (have a0 := in_u ((inv_F hI 0 160 rfl e_2_3)); have a1 := in_u ((inv_F hI 448 28000 rfl e_30_0)); have a2 := in_u i24; have a3 := in_u i1x10; have a4 := in_u i12; have oc := oc_138_1; by omega))
          have n45f : (u_2_0).toInt ≤ (u_2_0).toInt := by exact (have a0 := in_u ((inv_F hI 0 160 rfl e_2_3)); have a1 := in_u ((inv_F hI 448 28000 rfl e_30_0)); have a2 := in_u i24; have a3 := in_u i1x10; have a4 := in_u i12; have oc := oc_138_1; by omega)
          have n45g : (s.2.2.1 2 0).toInt ≤ (s.2.2.1 2 0).toInt := by have b0 : u_2_0 = s.2.2.1 2 0 := e_2_0; first | (rw [← b0, ← e_2_0]; exact n45f) | (rw [← b0]; exact n45f)
          exact g_ireturn (gd rfl) rfl (nb01 (in_w 0 1 (in_c 0 rfl) rfl)) (hP _ _ ⟨(A 30), s, hI, fr_rf, n45g, (Int32.ofInt 0), rfl, (by rw [ax_id]), in_w 0 1 (in_c 0 rfl) rfl, n45, n45a, n45b, n45c, n45d, n45e⟩)
        · skip
          have i24 := r_lt1 0 31 c24 (inv_F hI 0 32 rfl e_2_1) (in_c 32 rfl) rfl
          refine g_aload_n 28 (gd rfl) rfl rfl ?_
          refine g_aload_n 29 (gd rfl) rfl rfl ?_
          refine g_getA (q2 := 31) 32 (gd rfl) rfl rfl rfl rfl ?_
          refine g_iconst 0 33 (gd rfl) rfl rfl ?_
          refine g_iaload 34 (gd rfl) rfl (n := 5) rfl (in_ix (in_c 0 rfl) rfl) (fun z33 e33 => ?_)
          have i34 : In z33 0 25 := by rw [e33]; exact q_1 (c12.trans (by decide))
          have p34 : KL s := by exact q_0
          refine g_callv (X := _) (As := [.int z33]) (r := []) (b := A 1) (q := 1) 37 (gd rfl) rfl rfl rfl rfl rfl (ww_o rfl) (Nat.le_of_ble_eq_true rfl) (Nat.le_of_eq (lc_cg ((show Fr ([], [], [], []) s s from fr_rf).2.2.1 30 0 rfl) ((show Fr ([], [], [], []) s s from fr_rf).2.2.1 2 0 rfl)).1) (Nat.le_of_eq (lc_cg ((show Fr ([], [], [], []) s s from fr_rf).2.2.1 30 0 rfl) ((show Fr ([], [], [], []) s s from fr_rf).2.2.1 2 0 rfl)).2.1) (f_124_1 (by first | exact dq1 hd rfl | exact dq0 hd rfl | exact dq2 hd rfl | exact dq3 hd rfl | omega) hI (in_w 0 25 i34 rfl) e_2_0 e_2_1 e_30_0 (in_w 0 3999 i1x10 rfl) (in_w 0 31 i24 rfl) p34) (fun e u h => h) (fun v u h => ?_)
          obtain ⟨a34, s34, hI34, hF34, n34, z34, rfl, rfl, i34a, p34a, p34b, p34c, p34d, p34e, p34f, p34g⟩ := h
          obtain ⟨z34a, e34⟩ : ∃ w, w = s34.2.2.1 2 0 := ⟨_, rfl⟩
          have i34b := inv_F hI34 0 4000 rfl e34
          rw [← (show u_2_0 = s.2.2.1 2 0 from e_2_0)] at n34
          rw [← (show z34a = s34.2.2.1 2 0 from e34)] at n34
          show GG _ _ _ _ _ _ _ _ [.int z34] _ _ _
          refine g_if_lt 40 44 (gd rfl) rfl rfl (fun c37 => ?_) (fun c37 => ?_)
          · skip
            have i37 := z_lt (-1) (-1) c37 i34a rfl
            refine g_iconst 0 45 (gd rfl) rfl rfl ?_
            have n45 : KL s34 := by exact p34a
            have n45a : ((Int32.ofInt 0)).toInt ≠ 0 → (s34.2.2.1 30 0).toInt = nln s := by intro _; exact p34b
            have n45b : ((Int32.ofInt 0)).toInt ≠ 0 → (s.2.2.1 2 0).toInt ≤ 3999 := by first | (intro h; exact absurd rfl h) | (intro _; rw [← e_2_0]; exact (have a0 := in_u ((inv_F hI 0 160 rfl e_2_3)); have a1 := in_u ((inv_F hI 448 28000 rfl e_30_0)); have a2 := in_u i24; have a3 := in_u i1x10; have a4 := in_u i12; have a5 := in_u i34b; have oc := oc_138_1; by omega))
            have n45c : ∀ k : Nat, (k : Int) < 7 * (s.2.2.1 2 0).toInt → s34.1 30 k = s.1 30 k := by exact p34d
            have n45d : ((Int32.ofInt 0)).toInt ≠ 0 → dkC (gvC s) (x1).toInt (V31 s) ∧ gvC s34 = opC (gvC s) (x1).toInt (V31 s) ∧ TQ s34 := by first | (intro h; exact absurd rfl h) | (intro _; exact ⟨dk_13 (by exact (have a0 := in_u ((inv_F hI 0 160 rfl e_2_3)); have a1 := in_u ((inv_F hI 448 28000 rfl e_30_0)); have a2 := in_u i24; have a3 := in_u i1x10; have a4 := in_u i12; have a5 := in_u i34b; have oc := oc_138_1; by omega)) (show (s.2.2.1 2 0).toInt ≤ 3999 from by rw [← e_2_0]; exact (have a0 := in_u ((inv_F hI 0 160 rfl e_2_3)); have a1 := in_u ((inv_F hI 448 28000 rfl e_30_0)); have a2 := in_u i24; have a3 := in_u i1x10; have a4 := in_u i12; have a5 := in_u i34b; have oc := oc_138_1; by omega)) (show (s.2.2.1 2 1).toInt ≤ 31 from by rw [← e_2_1]; exact (have a0 := in_u ((inv_F hI 0 160 rfl e_2_3)); have a1 := in_u ((inv_F hI 448 28000 rfl e_30_0)); have a2 := in_u i24; have a3 := in_u i1x10; have a4 := in_u i12; have a5 := in_u i34b; have oc := oc_138_1; by omega)), by rw [p34e, opC_13 (by exact (have a0 := in_u ((inv_F hI 0 160 rfl e_2_3)); have a1 := in_u ((inv_F hI 448 28000 rfl e_30_0)); have a2 := in_u i24; have a3 := in_u i1x10; have a4 := in_u i12; have a5 := in_u i34b; have oc := oc_138_1; by omega)), show s.1 31 0 = z33 from e33.symm], p34f q_3⟩)
            have n45e : ((Int32.ofInt 0)).toInt = 0 → ¬ dkC (gvC s) (x1).toInt (V31 s) := by first | (intro h; exact absurd h (by decide)) | (intro _ h; have hn : (s34.2.2.1 2 1).toInt = (s.2.2.1 2 1).toInt + 1 := congrArg (fun g : GVW => g.2.2.2.2.2.2.1) p34e; rw [← e_2_1] at hn; exact (have a0 := in_u ((inv_F hI 0 160 rfl e_2_3)); have a1 := in_u ((inv_F hI 448 28000 rfl e_30_0)); have a2 := in_u i24; have a3 := in_u i1x10; have a4 := in_u i12; have a5 := in_u i34b; have oc := oc_138_1; by omega))
            have n45f : (u_2_0).toInt ≤ (z34a).toInt := by exact (have a0 := in_u ((inv_F hI 0 160 rfl e_2_3)); have a1 := in_u ((inv_F hI 448 28000 rfl e_30_0)); have a2 := in_u i24; have a3 := in_u i1x10; have a4 := in_u i12; have a5 := in_u i34b; have oc := oc_138_1; by omega)
            have n45g : (s.2.2.1 2 0).toInt ≤ (s34.2.2.1 2 0).toInt := by have b0 : z34a = s34.2.2.1 2 0 := e34; first | (rw [← b0, ← e_2_0]; exact n45f) | (rw [← b0]; exact n45f)
            exact g_ireturn (gd rfl) rfl (nb01 (in_w 0 1 (in_c 0 rfl) rfl)) (hP _ _ ⟨a34, s34, hI34, (fr_tr rfl fr_rf hF34), n45g, (Int32.ofInt 0), rfl, rfl, in_w 0 1 (in_c 0 rfl) rfl, n45, n45a, n45b, n45c, n45d, n45e⟩)
          · skip
            have i37 := z_ge 0 31 c37 i34a rfl
            refine g_iconst 1 41 (gd rfl) rfl rfl ?_
            refine g_goto 45 (gd rfl) rfl ?_
            have n45 : KL s34 := by exact p34a
            have n45a : ((Int32.ofInt 1)).toInt ≠ 0 → (s34.2.2.1 30 0).toInt = nln s := by intro _; exact p34b
            have n45b : ((Int32.ofInt 1)).toInt ≠ 0 → (s.2.2.1 2 0).toInt ≤ 3999 := by first | (intro h; exact absurd rfl h) | (intro _; rw [← e_2_0]; exact (have a0 := in_u ((inv_F hI 0 160 rfl e_2_3)); have a1 := in_u ((inv_F hI 448 28000 rfl e_30_0)); have a2 := in_u i24; have a3 := in_u i1x10; have a4 := in_u i12; have a5 := in_u i34b; have oc := oc_138_1; by omega))
            have n45c : ∀ k : Nat, (k : Int) < 7 * (s.2.2.1 2 0).toInt → s34.1 30 k = s.1 30 k := by exact p34d
            have n45d : ((Int32.ofInt 1)).toInt ≠ 0 → dkC (gvC s) (x1).toInt (V31 s) ∧ gvC s34 = opC (gvC s) (x1).toInt (V31 s) ∧ TQ s34 := by first | (intro h; exact absurd rfl h) | (intro _; exact ⟨dk_13 (by exact (have a0 := in_u ((inv_F hI 0 160 rfl e_2_3)); have a1 := in_u ((inv_F hI 448 28000 rfl e_30_0)); have a2 := in_u i24; have a3 := in_u i1x10; have a4 := in_u i12; have a5 := in_u i34b; have oc := oc_138_1; by omega)) (show (s.2.2.1 2 0).toInt ≤ 3999 from by rw [← e_2_0]; exact (have a0 := in_u ((inv_F hI 0 160 rfl e_2_3)); have a1 := in_u ((inv_F hI 448 28000 rfl e_30_0)); have a2 := in_u i24; have a3 := in_u i1x10; have a4 := in_u i12; have a5 := in_u i34b; have oc := oc_138_1; by omega)) (show (s.2.2.1 2 1).toInt ≤ 31 from by rw [← e_2_1]; exact (have a0 := in_u ((inv_F hI 0 160 rfl e_2_3)); have a1 := in_u ((inv_F hI 448 28000 rfl e_30_0)); have a2 := in_u i24; have a3 := in_u i1x10; have a4 := in_u i12; have a5 := in_u i34b; have oc := oc_138_1; by omega)), by rw [p34e, opC_13 (by exact (have a0 := in_u ((inv_F hI 0 160 rfl e_2_3)); have a1 := in_u ((inv_F hI 448 28000 rfl e_30_0)); have a2 := in_u i24; have a3 := in_u i1x10; have a4 := in_u i12; have a5 := in_u i34b; have oc := oc_138_1; by omega)), show s.1 31 0 = z33 from e33.symm], p34f q_3⟩)
            have n45e : ((Int32.ofInt 1)).toInt = 0 → ¬ dkC (gvC s) (x1).toInt (V31 s) := by first | (intro h; exact absurd h (by decide)) | (intro _ h; have hn : (s34.2.2.1 2 1).toInt = (s.2.2.1 2 1).toInt + 1 := congrArg (fun g : GVW => g.2.2.2.2.2.2.1) p34e; rw [← e_2_1] at hn; exact (have a0 := in_u ((inv_F hI 0 160 rfl e_2_3)); have a1 := in_u ((inv_F hI 448 28000 rfl e_30_0)); have a2 := in_u i24; have a3 := in_u i1x10; have a4 := in_u i12; have a5 := in_u i34b; have oc := oc_138_1; by omega))
            have n45f : (u_2_0).toInt ≤ (z34a).toInt := by exact (have a0 := in_u ((inv_F hI 0 160 rfl e_2_3)); have a1 := in_u ((inv_F hI 448 28000 rfl e_30_0)); have a2 := in_u i24; have a3 := in_u i1x10; have a4 := in_u i12; have a5 := in_u i34b; have oc := oc_138_1; by omega)
            have n45g : (s.2.2.1 2 0).toInt ≤ (s34.2.2.1 2 0).toInt := by have b0 : z34a = s34.2.2.1 2 0 := e34; first | (rw [← b0, ← e_2_0]; exact n45f) | (rw [← b0]; exact n45f)
            exact g_ireturn (gd rfl) rfl (nb01 (in_w 0 1 (in_c 1 rfl) rfl)) (hP _ _ ⟨a34, s34, hI34, (fr_tr rfl fr_rf hF34), n45g, (Int32.ofInt 1), rfl, rfl, in_w 0 1 (in_c 1 rfl) rfl, n45, n45a, n45b, n45c, n45d, n45e⟩)
    · skip
      exact zn_ne c4 (in_c 0 rfl) rfl
  · skip
    have i1x10 := r_le2 4000 4000 c1x10 (in_c 4000 rfl) (inv_F hI 0 4000 rfl e_2_0) rfl
    refine g_iconst 1 14 (gd rfl) rfl rfl ?_
    refine g_goto 18 (gd rfl) rfl ?_
    refine g_ireturn (gd rfl) rfl (nb01 (in_w 0 1 (in_c 1 rfl) rfl)) (hp1 _ _ ?_)
    show GG _ _ _ _ _ _ _ _ [.int (Int32.ofInt 1)] _ _ _
    refine g_if_eq 7 9 (gd rfl) rfl rfl (fun c4 => ?_) (fun c4 => ?_)
    · skip
      exact zn_eq c4 (in_c 1 rfl) rfl
    · skip
      refine g_iconst 0 8 (gd rfl) rfl rfl ?_
      have n8 : KL s := by exact q_0
      have n8a : ((Int32.ofInt 0)).toInt ≠ 0 → (s.2.2.1 30 0).toInt = nln s := by intro h; exact absurd rfl h
      have n8b : ((Int32.ofInt 0)).toInt ≠ 0 → (s.2.2.1 2 0).toInt ≤ 3999 := by first | (intro h; exact absurd rfl h) | (intro _; rw [← e_2_0]; exact (have a0 := in_u ((inv_F hI 0 160 rfl e_2_3)); have a1 := in_u ((inv_F hI 448 28000 rfl e_30_0)); have a2 := in_u ((inv_F hI 0 32 rfl e_2_1)); have a3 := in_u i1x10; have a4 := in_u h1; have oc := oc_138_1; by omega))
      have n8c : ∀ k : Nat, (k : Int) < 7 * (s.2.2.1 2 0).toInt → s.1 30 k = s.1 30 k := by exact fun k _ => rfl
      have n8d : ((Int32.ofInt 0)).toInt ≠ 0 → dkC (gvC s) (x1).toInt (V31 s) ∧ gvC s = opC (gvC s) (x1).toInt (V31 s) ∧ TQ s := by intro h; exact absurd rfl h
      have n8e : ((Int32.ofInt 0)).toInt = 0 → ¬ dkC (gvC s) (x1).toInt (V31 s) := by intro _ h; first | (have h9 : (s.2.2.1 2 0).toInt ≤ 3999 := h.1; rw [← e_2_0] at h9; exact (have a0 := in_u ((inv_F hI 0 160 rfl e_2_3)); have a1 := in_u ((inv_F hI 448 28000 rfl e_30_0)); have a2 := in_u ((inv_F hI 0 32 rfl e_2_1)); have a3 := in_u i1x10; have a4 := in_u h1; have oc := oc_138_1; by omega)) | (have h9 : (s.2.2.1 2 1).toInt ≤ 31 := h.2.1 (by exact (have a0 := in_u ((inv_F hI 0 160 rfl e_2_3)); have a1 := in_u ((inv_F hI 448 28000 rfl e_30_0)); have a2 := in_u ((inv_F hI 0 32 rfl e_2_1)); have a3 := in_u i1x10; have a4 := in_u h1; have oc := oc_138_1; by omega)); rw [← e_2_1] at h9; exact (have a0 := in_u ((inv_F hI 0 160 rfl e_2_3)); have a1 := in_u ((inv_F hI 448 28000 rfl e_30_0)); have a2 := in_u ((inv_F hI 0 32 rfl e_2_1)); have a3 := in_u i1x10; have a4 := in_u h1; have oc := oc_138_1; by omega))
      have n8f : (u_2_0).toInt ≤ (u_2_0).toInt := by exact (have a0 := in_u ((inv_F hI 0 160 rfl e_2_3)); have a1 := in_u ((inv_F hI 448 28000 rfl e_30_0)); have a2 := in_u ((inv_F hI 0 32 rfl e_2_1)); have a3 := in_u i1x10; have a4 := in_u h1; have oc := oc_138_1; by omega)
      have n8g : (s.2.2.1 2 0).toInt ≤ (s.2.2.1 2 0).toInt := by have b0 : u_2_0 = s.2.2.1 2 0 := e_2_0; first | (rw [← b0, ← e_2_0]; exact n8f) | (rw [← b0]; exact n8f)
      exact g_ireturn (gd rfl) rfl (nb01 (in_w 0 1 (in_c 0 rfl) rfl)) (hP _ _ ⟨(A 30), s, hI, fr_rf, n8g, (Int32.ofInt 0), rfl, (by rw [ax_id]), in_w 0 1 (in_c 0 rfl) rfl, n8, n8a, n8b, n8c, n8d, n8e⟩)
end
section
/-! FUNCTIONAL CONTRACTS, by fgen.py -/
theorem oc_136_1_46 : (Int32.ofInt (-1)).toInt = (-1) ∧ (Int32.ofInt 0).toInt = 0 ∧ (Int32.ofInt 1).toInt = 1 ∧ (Int32.ofInt 2).toInt = 2 ∧ (Int32.ofInt 3).toInt = 3 ∧ (Int32.ofInt 4).toInt = 4 ∧ (Int32.ofInt 7).toInt = 7 ∧ (Int32.ofInt 59).toInt = 59 ∧ (Int32.ofInt 108).toInt = 108 := ⟨rfl, rfl, rfl, rfl, rfl, rfl, rfl, rfl, rfl⟩
/-- GraphHouse$Ledger.readCommand -/
theorem f_136_1_46 {Z : AmZ} {A : Nat → Nat} {s : GS} {ex : va_W} {d : Nat} {X : AmX} {u_2_0 : Int32} {u_2_1 : Int32} {u_30_0 : Int32} {u_46_2 : Int32} {u_46_1 : Int32} {u_46_3 : Int32} {u_46_4 : Int32} {u_46_5 : Int32} (hd : 9 ≤ d) (hI : Inv s) (e_2_0 : u_2_0 = s.2.2.1 2 0) (e_2_1 : u_2_1 = s.2.2.1 2 1) (e_30_0 : u_30_0 = s.2.2.1 30 0) (e_46_2 : u_46_2 = s.2.2.1 46 2) (e_46_1 : u_46_1 = s.2.2.1 46 1) (e_46_3 : u_46_3 = s.2.2.1 46 3) (e_46_4 : u_46_4 = s.2.2.1 46 4) (e_46_5 : u_46_5 = s.2.2.1 46 5) (p_0 : (u_46_2).toInt ≤ (u_46_1).toInt) (q_0 : KL s) (q_1 : (s.2.2.1 46 3).toInt = 1 → In (s.2.2.1 46 5) 0 25) (q_2 : ∃ a : Nat, TKN (s.1 47) (s.2.2.1 46 1).toInt.toNat a (s.2.2.1 46 4).toInt.toNat (s.2.2.1 46 2).toInt.toNat (s.2.2.1 46 3).toInt (s.2.2.1 46 5).toInt) (q_3 : TQ s) (q_4 : (s.2.2.1 46 3).toInt ≠ 0) : GC Z d 136 [.ref (A 1), .ref (A 46)] (WW Z A s ++ ex) (lc s) (lsl s) (fun v u => ∃ a : Nat, ∃ t : GS, Inv t ∧ Fr fm_136_1_46 s t ∧ ((t.2.2.1 46 2).toInt ≤ (t.2.2.1 46 1).toInt) ∧ ((s.2.2.1 2 0).toInt ≤ (t.2.2.1 2 0).toInt) ∧ ∃ z : Int32, v = some (.int z) ∧ u = WW Z (ax A 30 a) t ++ ex ∧ In z 0 1 ∧ (KL t) ∧ ((z).toInt ≠ 0 → (t.2.2.1 30 0).toInt = nln s) ∧ ((z).toInt ≠ 0 → (s.2.2.1 2 0).toInt ≤ 3999) ∧ (∀ k : Nat, (k : Int) < 7 * (s.2.2.1 2 0).toInt → t.1 30 k = s.1 30 k) ∧ ((z).toInt ≠ 0 → ∀ a : Nat, TKN (s.1 47) (s.2.2.1 46 1).toInt.toNat a (s.2.2.1 46 4).toInt.toNat (s.2.2.1 46 2).toInt.toNat (s.2.2.1 46 3).toInt (s.2.2.1 46 5).toInt → ∃ c V, CMP (s.1 47) (s.2.2.1 46 1).toInt.toNat a (s.2.2.1 46 4).toInt.toNat c V (t.2.2.1 46 2).toInt.toNat ∧ dkC (gvC s) c V ∧ gvC t = opC (gvC s) c V) ∧ ((z).toInt = 0 → ∀ a : Nat, TKN (s.1 47) (s.2.2.1 46 1).toInt.toNat a (s.2.2.1 46 4).toInt.toNat (s.2.2.1 46 2).toInt.toNat (s.2.2.1 46 3).toInt (s.2.2.1 46 5).toInt → CMX (s.1 47) (s.2.2.1 46 1).toInt.toNat a (t.2.2.1 46 6).toInt (t.2.2.1 46 7).toInt.toNat ∨ ∃ c V e, CMP (s.1 47) (s.2.2.1 46 1).toInt.toNat a (t.2.2.1 46 7).toInt.toNat c V e ∧ ¬ dkC (gvC s) c V ∧ (t.2.2.1 46 6).toInt = 4) ∧ ((z).toInt ≠ 0 → TQ t) ∧ ((z).toInt ≠ 0 → t.2.2.1 46 6 = s.2.2.1 46 6 ∧ t.2.2.1 46 7 = s.2.2.1 46 7) ∧ ((z).toInt = 0 → 0 ≤ (t.2.2.1 46 7).toInt)) X := by
  intro post xp hP hX
  have ro_46_1 := inv_F hI 0 1000 rfl e_46_1
  have ct46 : ∀ (k46 : Nat) (sc46 : GS) (y46_2 : Int32) (y46_3 : Int32) (y46_4 : Int32) (y46_5 : Int32) (w46_46_2 : Int32) (w46_2_0 : Int32) (w46_2_1 : Int32) (w46_30_0 : Int32), Inv sc46 → Fr fm_136_1_46 s sc46 → (In y46_2 0 1000) → (In y46_3 (-1) 25) → (In y46_4 1 5) → (In y46_5 0 5) → (w46_46_2 = sc46.2.2.1 46 2) → (w46_2_0 = sc46.2.2.1 2 0) → (w46_2_1 = sc46.2.2.1 2 1) → (w46_30_0 = sc46.2.2.1 30 0) → ((w46_46_2).toInt ≤ (u_46_1).toInt) → ((u_2_0).toInt ≤ (w46_2_0).toInt) → ((y46_3).toInt = 13 → (y46_4).toInt = 1) → ((y46_4).toInt = 1 → 1 ≤ (y46_5).toInt → In (sc46.1 31 0) 0 25) → (Fr ([31], [], [(46, 2), (46, 3), (46, 4), (46, 5), (46, 6), (46, 7)], []) s sc46) → (SHQ (y46_3).toInt (y46_4).toInt) → ((s.2.2.1 46 3).toInt = 1 ∧ (s.2.2.1 46 5).toInt = (y46_3).toInt ∧ (y46_2) = s.2.2.1 46 4) → ((y46_5).toInt ≤ (cmA (y46_3).toInt : Int)) → (∀ a : Nat, TKN (s.1 47) (s.2.2.1 46 1).toInt.toNat a (s.2.2.1 46 4).toInt.toNat (s.2.2.1 46 2).toInt.toNat (s.2.2.1 46 3).toInt (s.2.2.1 46 5).toInt → (∀ j, j < (y46_5).toInt.toNat → ∃ q f, TSQ (s.1 47) (s.2.2.1 46 1).toInt.toNat a (j + 1) q f (cmK (y46_3).toInt (j + 1)) (sc46.1 31 j).toInt) ∧ ∃ p k v, TSQ (s.1 47) (s.2.2.1 46 1).toInt.toNat a (y46_5).toInt.toNat p (w46_46_2).toInt.toNat k v) → (sc46.2.2.1 46 6 = s.2.2.1 46 6 ∧ sc46.2.2.1 46 7 = s.2.2.1 46 7) → 5 - (y46_5).toInt < (k46 : Int) → GG Z (d - 1) 136 post (gx xp) (1 + k46 * 900) 46 (fun j => xlook j [(0, .ref (A 1)), (1, .ref (A 46)), (2, .int y46_2), (3, .int y46_3), (4, .ref (zq Z y46_4)), (5, .int y46_5)]) [] (WW Z A sc46 ++ ex) (lc s) (lsl s) := by
    intro k46
    induction k46 with
    | zero => intro sc46 y46_2 y46_3 y46_4 y46_5 w46_46_2 w46_2_0 w46_2_1 w46_30_0 hIc46 hFc46 j46_2 j46_3 j46_4 j46_5 v46_46_2 v46_2_0 v46_2_1 v46_30_0 n46_0 n46_1 g46_0 g46_1 g46_2 g46_3 g46_4 g46_5 g46_6 g46_7 mm46; exact m_no mm46 j46_5 rfl
    | succ k46 ih46 =>
      intro sc46 y46_2 y46_3 y46_4 y46_5 w46_46_2 w46_2_0 w46_2_1 w46_30_0 hIc46 hFc46 j46_2 j46_3 j46_4 j46_5 v46_46_2 v46_2_0 v46_2_1 v46_30_0 n46_0 n46_1 g46_0 g46_1 g46_2 g46_3 g46_4 g46_5 g46_6 g46_7 mm46
      refine gg_w (M := 1 + k46 * 900 + 900) gws ?_
      refine g_iload 48 (gd rfl) rfl rfl ?_
      refine g_aload 50 (gd rfl) rfl rfl ?_
      have i50 : In y46_4 0 6 := in_w 0 6 j46_4 rfl
      refine g_callS (X := _) (As := []) (r := [.int y46_5]) (x := y46_4) 53 (gd rfl) rfl rfl rfl zm_427 rfl rfl rfl i50 (Nat.le_of_ble_eq_true rfl) (k_427 i50 (by omega)) (fun e u h => h) (fun v u h => ?_)
      obtain ⟨z50, rfl, rfl, p50⟩ := h
      have i50a : In z50 0 9 := by have a := zn_9 i50; exact ⟨by omega, by omega⟩
      show GG _ _ _ _ _ _ _ _ [.int z50, .int y46_5] _ _ _
      refine g_cmp_ge 56 125 (gd rfl) rfl rfl (fun c53 => ?_) (fun c53 => ?_)
      · skip
        have i53 := r_le1 0 5 c53 i50a j46_5 rfl
        refine g_aload_n 126 (gd rfl) rfl rfl ?_
        refine g_bipush 7 128 (gd rfl) rfl rfl ?_
        refine g_iconst 1 129 (gd rfl) rfl rfl ?_
        have v129 : u_46_1 = sc46.2.2.1 46 1 := fr_F e_46_1 hFc46 rfl
        have n129 : (w46_46_2).toInt ≤ (u_46_1).toInt := by first | exact n46_0 | (exact (have a0 := in_u ro_46_1; have a1 := in_u ((inv_F hIc46 448 28000 rfl v46_30_0)); have a2 := in_u ((inv_F hIc46 0 32 rfl v46_2_1)); have a3 := in_u ((inv_F hIc46 0 4000 rfl v46_2_0)); have a4 := in_u ((inv_F hIc46 0 1000 rfl v46_46_2)); have a5 := in_u j46_5; have a6 := in_u j46_4; have a7 := in_u j46_3; have a8 := in_u j46_2; have oc := oc_136_1_46; by omega))
        refine g_callv (X := _) (As := [.int (Int32.ofInt 7), .int (Int32.ofInt 1)]) (r := []) (b := A 46) (q := 46) 132 (gd rfl) rfl rfl rfl rfl rfl (ww_o rfl) (Nat.le_of_ble_eq_true rfl) (Nat.zero_le _) (Nat.zero_le _) (f_171_46 (by first | exact dq1 hd rfl | exact dq0 hd rfl | exact dq2 hd rfl | exact dq3 hd rfl | omega) hIc46 (in_w 7 7 (in_c 7 rfl) rfl) (in_w 1 1 (in_c 1 rfl) rfl) v46_46_2 v129 n129) (fun e u h => h) (fun v u h => ?_)
        obtain ⟨s129, hI129, hF129, n129a, n129b, n129c, rfl, rfl, p129, p129a, p129b⟩ := h
        obtain ⟨z129a, e129⟩ : ∃ w, w = s129.2.2.1 46 2 := ⟨_, rfl⟩
        have i129a := inv_F hI129 0 1000 rfl e129
        obtain ⟨z129b, e129a⟩ : ∃ w, w = s129.2.2.1 46 4 := ⟨_, rfl⟩
        have i129b := inv_F hI129 0 1000 rfl e129a
        rw [← (show z129a = s129.2.2.1 46 2 from e129)] at n129a
        rw [← (show u_46_1 = s129.2.2.1 46 1 from fr_F (fr_F e_46_1 hFc46 rfl) hF129 rfl)] at n129a
        rw [← (show z129a = s129.2.2.1 46 2 from e129)] at n129b
        rw [← (show z129b = s129.2.2.1 46 4 from e129a)] at n129b
        rw [← (show w46_46_2 = sc46.2.2.1 46 2 from v46_46_2)] at n129c
        rw [← (show z129b = s129.2.2.1 46 4 from e129a)] at n129c
        show GG _ _ _ _ _ _ _ _ [] _ _ _
        refine g_aload_n 133 (gd rfl) rfl rfl ?_
        refine g_bipush 59 135 (gd rfl) rfl rfl ?_
        refine g_callv (X := _) (As := [.int (Int32.ofInt 59)]) (r := []) (b := A 46) (q := 46) 138 (gd rfl) rfl rfl rfl rfl rfl (ww_o rfl) (Nat.le_of_ble_eq_true rfl) (mc := 0) (ms := 0) (Nat.zero_le _) (Nat.zero_le _) (P := fun v u => _) ?_ (fun e u h => h) (fun v u h => h)
        intro po135 xx135 hp135 hx135
        refine g_enter2 (k := 170) (N := 300) (by first | exact dq1 hd rfl | exact dq0 hd rfl | exact dq2 hd rfl | exact dq3 hd rfl | omega) rfl (Nat.le_of_ble_eq_true rfl) ?_
        refine g_aload_n 1 (gd rfl) rfl rfl ?_
        refine g_getI 4 (gd rfl) rfl rfl rfl (fun z135x1 e135x1 => ?_)
        have i135x1 := inv_F hI129 0 5 rfl e135x1
        refine g_iconst 3 5 (gd rfl) rfl rfl ?_
        refine g_cmp_ne 8 20 (gd rfl) rfl rfl (fun c135x5 => ?_) (fun c135x5 => ?_)
        · skip
          refine g_iconst 0 21 (gd rfl) rfl rfl ?_
          refine g_ireturn (gd rfl) rfl (nb01 (in_w 0 1 (in_c 0 rfl) rfl)) (hp135 _ _ ?_)
          show GG _ _ _ _ _ _ _ _ [.int (Int32.ofInt 0)] _ _ _
          refine g_if_ne 141 148 (gd rfl) rfl rfl (fun c138 => ?_) (fun c138 => ?_)
          · skip
            exact zn_ne c138 (in_c 0 rfl) rfl
          · skip
            refine g_aload_n 142 (gd rfl) rfl rfl ?_
            refine g_iconst 2 143 (gd rfl) rfl rfl ?_
            refine g_iconst 3 144 (gd rfl) rfl rfl ?_
            refine g_callv (X := _) (As := [.int (Int32.ofInt 2), .int (Int32.ofInt 3)]) (r := []) (b := A 46) (q := 46) 147 (gd rfl) rfl rfl rfl rfl rfl (ww_o rfl) (Nat.le_of_ble_eq_true rfl) (Nat.zero_le _) (Nat.zero_le _) (f_169_46 (by first | exact dq1 hd rfl | exact dq0 hd rfl | exact dq2 hd rfl | exact dq3 hd rfl | omega) hI129 (in_w 2 2 (in_c 2 rfl) rfl) (in_w 3 3 (in_c 3 rfl) rfl) e135x1 e129a) (fun e u h => h) (fun v u h => ?_)
            obtain ⟨s144, hI144, hF144, z144, rfl, rfl, i144, p144⟩ := h
            show GG _ _ _ _ _ _ _ _ [.int z144] _ _ _
            have n147 : KL s144 := by have hL9 : Fr ([31], [], [(46, 2), (46, 3), (46, 4), (46, 5), (46, 6), (46, 7)], []) s s144 := (fr_tr rfl (fr_tr rfl g46_2 hF129) hF144); exact kl_fr q_0 hL9 rfl
            have n147a : (z144).toInt ≠ 0 → (s144.2.2.1 30 0).toInt = nln s := by first | (intro h; exact absurd rfl h) | (intro h; exfalso; revert h; first | (unfold In at i39; omega) | (unfold In at i104; omega) | (unfold In at i144; omega))
            have n147b : (z144).toInt ≠ 0 → (s.2.2.1 2 0).toInt ≤ 3999 := by first | (intro h; exact absurd rfl h) | (intro h; exfalso; revert h; first | (unfold In at i39; omega) | (unfold In at i104; omega) | (unfold In at i144; omega))
            have n147c : ∀ k : Nat, (k : Int) < 7 * (s.2.2.1 2 0).toInt → s144.1 30 k = s.1 30 k := by have hL9 : Fr ([31], [], [(46, 2), (46, 3), (46, 4), (46, 5), (46, 6), (46, 7)], []) s s144 := (fr_tr rfl (fr_tr rfl g46_2 hF129) hF144); exact fun k _ => by rw [hL9.1 30 rfl]
            have n147d : (z144).toInt ≠ 0 → ∀ a : Nat, TKN (s.1 47) (s.2.2.1 46 1).toInt.toNat a (s.2.2.1 46 4).toInt.toNat (s.2.2.1 46 2).toInt.toNat (s.2.2.1 46 3).toInt (s.2.2.1 46 5).toInt → ∃ c V, CMP (s.1 47) (s.2.2.1 46 1).toInt.toNat a (s.2.2.1 46 4).toInt.toNat c V (s144.2.2.1 46 2).toInt.toNat ∧ dkC (gvC s) c V ∧ gvC s144 = opC (gvC s) c V := by first | (intro h; exact absurd rfl h) | (intro h; exfalso; revert h; first | (unfold In at i39; omega) | (unfold In at i104; omega) | (unfold In at i144; omega))
            have n147e : (z144).toInt = 0 → ∀ a : Nat, TKN (s.1 47) (s.2.2.1 46 1).toInt.toNat a (s.2.2.1 46 4).toInt.toNat (s.2.2.1 46 2).toInt.toNat (s.2.2.1 46 3).toInt (s.2.2.1 46 5).toInt → CMX (s.1 47) (s.2.2.1 46 1).toInt.toNat a (s144.2.2.1 46 6).toInt (s144.2.2.1 46 7).toInt.toNat ∨ ∃ c V e, CMP (s.1 47) (s.2.2.1 46 1).toInt.toNat a (s144.2.2.1 46 7).toInt.toNat c V e ∧ ¬ dkC (gvC s) c V ∧ (s144.2.2.1 46 6).toInt = 4 := by intro _ a ha; obtain ⟨h1, p1, k1, v1, h2⟩ := g46_6 a ha; have hk9 := p129b; rw [show sc46.1 47 = s.1 47 from g46_2.1 47 rfl, show sc46.2.2.1 46 1 = s.2.2.1 46 1 from g46_2.2.2.1 46 1 rfl, ← v46_46_2] at hk9; have h5 : y46_5.toInt.toNat = cmA y46_3.toInt := (by have h9 := shq_n g46_3; have h8 := p50; rw [h9] at h8; have h7 := (shq_5 g46_3).1; have h6 := g46_5; exact (have a0 := in_u ro_46_1; have a1 := in_u ((inv_F hIc46 448 28000 rfl v46_30_0)); have a2 := in_u ((inv_F hIc46 0 32 rfl v46_2_1)); have a3 := in_u ((inv_F hIc46 0 4000 rfl v46_2_0)); have a4 := in_u ((inv_F hIc46 0 1000 rfl v46_46_2)); have a5 := in_u j46_5; have a6 := in_u j46_4; have a7 := in_u j46_3; have a8 := in_u j46_2; have a9 := in_u i135x1; have a10 := in_u i129b; have a11 := in_u i129a; have oc := oc_136_1_46; by omega)); refine Or.inl (Or.inr ⟨_, _, _, shq_i g46_3, by have h9 := ha; rw [g46_4.1, g46_4.2.1] at h9; exact h9, cmA y46_3.toInt, Nat.le_refl _, fun j hj => by obtain ⟨q, f, h9⟩ := h1 j (by omega); exact ⟨q, f, _, h9⟩, (s129.2.2.1 46 2).toInt.toNat, (s129.2.2.1 46 3).toInt, (s129.2.2.1 46 5).toInt, ?_, ?_, p144.1⟩); (rw [p144.2, ← h5]; exact ⟨p1, w46_46_2.toInt.toNat, k1, v1, h2, hk9⟩); (intro h9; unfold cmK at h9; rw [if_pos rfl] at h9; have h8 := tkn_v3 hk9 h9; first | (rw [← e135x1] at h9; exact (have a0 := in_u ro_46_1; have a1 := in_u ((inv_F hIc46 448 28000 rfl v46_30_0)); have a2 := in_u ((inv_F hIc46 0 32 rfl v46_2_1)); have a3 := in_u ((inv_F hIc46 0 4000 rfl v46_2_0)); have a4 := in_u ((inv_F hIc46 0 1000 rfl v46_46_2)); have a5 := in_u j46_5; have a6 := in_u j46_4; have a7 := in_u j46_3; have a8 := in_u j46_2; have a9 := in_u i135x1; have a10 := in_u i129b; have a11 := in_u i129a; have oc := oc_136_1_46; by omega)) | (rw [← e135x9] at h8; exact (have a0 := in_u ro_46_1; have a1 := in_u ((inv_F hIc46 448 28000 rfl v46_30_0)); have a2 := in_u ((inv_F hIc46 0 32 rfl v46_2_1)); have a3 := in_u ((inv_F hIc46 0 4000 rfl v46_2_0)); have a4 := in_u ((inv_F hIc46 0 1000 rfl v46_46_2)); have a5 := in_u j46_5; have a6 := in_u j46_4; have a7 := in_u j46_3; have a8 := in_u j46_2; have a9 := in_u i135x1; have a10 := in_u i129b; have a11 := in_u i129a; have oc := oc_136_1_46; by omega)))
            have n147f : (z144).toInt ≠ 0 → TQ s144 := by first | (intro h; exact absurd rfl h) | (intro h; exfalso; revert h; first | (unfold In at i39; omega) | (unfold In at i104; omega) | (unfold In at i144; omega))
            have n147g : (z144).toInt ≠ 0 → s144.2.2.1 46 6 = s.2.2.1 46 6 ∧ s144.2.2.1 46 7 = s.2.2.1 46 7 := by first | (intro h; exact absurd rfl h) | (intro h; exfalso; revert h; first | (unfold In at i39; omega) | (unfold In at i104; omega) | (unfold In at i144; omega))
            have n147h : (z144).toInt = 0 → 0 ≤ (s144.2.2.1 46 7).toInt := by intro _; rw [p144.2, ← e129a]; exact (have a0 := in_u ro_46_1; have a1 := in_u ((inv_F hIc46 448 28000 rfl v46_30_0)); have a2 := in_u ((inv_F hIc46 0 32 rfl v46_2_1)); have a3 := in_u ((inv_F hIc46 0 4000 rfl v46_2_0)); have a4 := in_u ((inv_F hIc46 0 1000 rfl v46_46_2)); have a5 := in_u j46_5; have a6 := in_u j46_4; have a7 := in_u j46_3; have a8 := in_u j46_2; have a9 := in_u i135x1; have a10 := in_u i129b; have a11 := in_u i129a; have oc := oc_136_1_46; by omega)
            have n147i : (z129a).toInt ≤ (u_46_1).toInt := by exact (have a0 := in_u ro_46_1; have a1 := in_u ((inv_F hIc46 448 28000 rfl v46_30_0)); have a2 := in_u ((inv_F hIc46 0 32 rfl v46_2_1)); have a3 := in_u ((inv_F hIc46 0 4000 rfl v46_2_0)); have a4 := in_u ((inv_F hIc46 0 1000 rfl v46_46_2)); have a5 := in_u j46_5; have a6 := in_u j46_4; have a7 := in_u j46_3; have a8 := in_u j46_2; have a9 := in_u i135x1; have a10 := in_u i129b; have a11 := in_u i129a; have oc := oc_136_1_46; by omega)
            have n147j : (s144.2.2.1 46 2).toInt ≤ (s144.2.2.1 46 1).toInt := by have b0 : z129a = s144.2.2.1 46 2 := fr_F (e129) hF144 rfl; have b1 : u_46_1 = s144.2.2.1 46 1 := fr_F (fr_F (fr_F e_46_1 hFc46 rfl) hF129 rfl) hF144 rfl; rw [← b0, ← b1]; exact n147i
            have n147k : (u_2_0).toInt ≤ (w46_2_0).toInt := by first | exact n46_1 | (exact (have a0 := in_u ro_46_1; have a1 := in_u ((inv_F hIc46 448 28000 rfl v46_30_0)); have a2 := in_u ((inv_F hIc46 0 32 rfl v46_2_1)); have a3 := in_u ((inv_F hIc46 0 4000 rfl v46_2_0)); have a4 := in_u ((inv_F hIc46 0 1000 rfl v46_46_2)); have a5 := in_u j46_5; have a6 := in_u j46_4; have a7 := in_u j46_3; have a8 := in_u j46_2; have a9 := in_u i135x1; have a10 := in_u i129b; have a11 := in_u i129a; have oc := oc_136_1_46; by omega))
            have n147l : (s.2.2.1 2 0).toInt ≤ (s144.2.2.1 2 0).toInt := by have b0 : w46_2_0 = s144.2.2.1 2 0 := fr_F (fr_F (v46_2_0) hF129 rfl) hF144 rfl; first | (rw [← b0, ← e_2_0]; exact n147k) | (rw [← b0]; exact n147k)
            exact g_ireturn (gd rfl) rfl (nb01 (in_w 0 1 i144 rfl)) (hP _ _ ⟨(A 30), s144, hI144, (fr_tr rfl (fr_tr rfl hFc46 hF129) hF144), n147j, n147l, z144, rfl, (by rw [ax_id]), in_w 0 1 i144 rfl, n147, n147a, n147b, n147c, n147d, n147e, n147f, n147g, n147h⟩)
        · skip
          have i135x5 := r_eq1 3 3 c135x5 i135x1 (in_c 3 rfl) rfl
          refine g_aload_n 9 (gd rfl) rfl rfl ?_
          refine g_getI 12 (gd rfl) rfl rfl rfl (fun z135x9 e135x9 => ?_)
          refine g_iload_n 13 (gd rfl) rfl rfl ?_
          refine g_cmp_ne 16 20 (gd rfl) rfl rfl (fun c135x13 => ?_) (fun c135x13 => ?_)
          · skip
            refine g_iconst 0 21 (gd rfl) rfl rfl ?_
            refine g_ireturn (gd rfl) rfl (nb01 (in_w 0 1 (in_c 0 rfl) rfl)) (hp135 _ _ ?_)
            show GG _ _ _ _ _ _ _ _ [.int (Int32.ofInt 0)] _ _ _
            refine g_if_ne 141 148 (gd rfl) rfl rfl (fun c138 => ?_) (fun c138 => ?_)
            · skip
              exact zn_ne c138 (in_c 0 rfl) rfl
            · skip
              refine g_aload_n 142 (gd rfl) rfl rfl ?_
              refine g_iconst 2 143 (gd rfl) rfl rfl ?_
              refine g_iconst 3 144 (gd rfl) rfl rfl ?_
              refine g_callv (X := _) (As := [.int (Int32.ofInt 2), .int (Int32.ofInt 3)]) (r := []) (b := A 46) (q := 46) 147 (gd rfl) rfl rfl rfl rfl rfl (ww_o rfl) (Nat.le_of_ble_eq_true rfl) (Nat.zero_le _) (Nat.zero_le _) (f_169_46 (by first | exact dq1 hd rfl | exact dq0 hd rfl | exact dq2 hd rfl | exact dq3 hd rfl | omega) hI129 (in_w 2 2 (in_c 2 rfl) rfl) (in_w 3 3 (in_c 3 rfl) rfl) e135x1 e129a) (fun e u h => h) (fun v u h => ?_)
              obtain ⟨s144, hI144, hF144, z144, rfl, rfl, i144, p144⟩ := h
              show GG _ _ _ _ _ _ _ _ [.int z144] _ _ _
              have n147 : KL s144 := by have hL9 : Fr ([31], [], [(46, 2), (46, 3), (46, 4), (46, 5), (46, 6), (46, 7)], []) s s144 := (fr_tr rfl (fr_tr rfl g46_2 hF129) hF144); exact kl_fr q_0 hL9 rfl
              have n147a : (z144).toInt ≠ 0 → (s144.2.2.1 30 0).toInt = nln s := by first | (intro h; exact absurd rfl h) | (intro h; exfalso; revert h; first | (unfold In at i39; omega) | (unfold In at i104; omega) | (unfold In at i144; omega))
              have n147b : (z144).toInt ≠ 0 → (s.2.2.1 2 0).toInt ≤ 3999 := by first | (intro h; exact absurd rfl h) | (intro h; exfalso; revert h; first | (unfold In at i39; omega) | (unfold In at i104; omega) | (unfold In at i144; omega))
              have n147c : ∀ k : Nat, (k : Int) < 7 * (s.2.2.1 2 0).toInt → s144.1 30 k = s.1 30 k := by have hL9 : Fr ([31], [], [(46, 2), (46, 3), (46, 4), (46, 5), (46, 6), (46, 7)], []) s s144 := (fr_tr rfl (fr_tr rfl g46_2 hF129) hF144); exact fun k _ => by rw [hL9.1 30 rfl]
              have n147d : (z144).toInt ≠ 0 → ∀ a : Nat, TKN (s.1 47) (s.2.2.1 46 1).toInt.toNat a (s.2.2.1 46 4).toInt.toNat (s.2.2.1 46 2).toInt.toNat (s.2.2.1 46 3).toInt (s.2.2.1 46 5).toInt → ∃ c V, CMP (s.1 47) (s.2.2.1 46 1).toInt.toNat a (s.2.2.1 46 4).toInt.toNat c V (s144.2.2.1 46 2).toInt.toNat ∧ dkC (gvC s) c V ∧ gvC s144 = opC (gvC s) c V := by first | (intro h; exact absurd rfl h) | (intro h; exfalso; revert h; first | (unfold In at i39; omega) | (unfold In at i104; omega) | (unfold In at i144; omega))
              have n147e : (z144).toInt = 0 → ∀ a : Nat, TKN (s.1 47) (s.2.2.1 46 1).toInt.toNat a (s.2.2.1 46 4).toInt.toNat (s.2.2.1 46 2).toInt.toNat (s.2.2.1 46 3).toInt (s.2.2.1 46 5).toInt → CMX (s.1 47) (s.2.2.1 46 1).toInt.toNat a (s144.2.2.1 46 6).toInt (s144.2.2.1 46 7).toInt.toNat ∨ ∃ c V e, CMP (s.1 47) (s.2.2.1 46 1).toInt.toNat a (s144.2.2.1 46 7).toInt.toNat c V e ∧ ¬ dkC (gvC s) c V ∧ (s144.2.2.1 46 6).toInt = 4 := by intro _ a ha; obtain ⟨h1, p1, k1, v1, h2⟩ := g46_6 a ha; have hk9 := p129b; rw [show sc46.1 47 = s.1 47 from g46_2.1 47 rfl, show sc46.2.2.1 46 1 = s.2.2.1 46 1 from g46_2.2.2.1 46 1 rfl, ← v46_46_2] at hk9; have h5 : y46_5.toInt.toNat = cmA y46_3.toInt := (by have h9 := shq_n g46_3; have h8 := p50; rw [h9] at h8; have h7 := (shq_5 g46_3).1; have h6 := g46_5; exact (have a0 := in_u ro_46_1; have a1 := in_u ((inv_F hIc46 448 28000 rfl v46_30_0)); have a2 := in_u ((inv_F hIc46 0 32 rfl v46_2_1)); have a3 := in_u ((inv_F hIc46 0 4000 rfl v46_2_0)); have a4 := in_u ((inv_F hIc46 0 1000 rfl v46_46_2)); have a5 := in_u j46_5; have a6 := in_u j46_4; have a7 := in_u j46_3; have a8 := in_u j46_2; have a9 := in_u i135x5; have a10 := in_u i129b; have a11 := in_u i129a; have oc := oc_136_1_46; by omega)); refine Or.inl (Or.inr ⟨_, _, _, shq_i g46_3, by have h9 := ha; rw [g46_4.1, g46_4.2.1] at h9; exact h9, cmA y46_3.toInt, Nat.le_refl _, fun j hj => by obtain ⟨q, f, h9⟩ := h1 j (by omega); exact ⟨q, f, _, h9⟩, (s129.2.2.1 46 2).toInt.toNat, (s129.2.2.1 46 3).toInt, (s129.2.2.1 46 5).toInt, ?_, ?_, p144.1⟩); (rw [p144.2, ← h5]; exact ⟨p1, w46_46_2.toInt.toNat, k1, v1, h2, hk9⟩); (intro h9; unfold cmK at h9; rw [if_pos rfl] at h9; have h8 := tkn_v3 hk9 h9; first | (rw [← e135x1] at h9; exact (have a0 := in_u ro_46_1; have a1 := in_u ((inv_F hIc46 448 28000 rfl v46_30_0)); have a2 := in_u ((inv_F hIc46 0 32 rfl v46_2_1)); have a3 := in_u ((inv_F hIc46 0 4000 rfl v46_2_0)); have a4 := in_u ((inv_F hIc46 0 1000 rfl v46_46_2)); have a5 := in_u j46_5; have a6 := in_u j46_4; have a7 := in_u j46_3; have a8 := in_u j46_2; have a9 := in_u i135x5; have a10 := in_u i129b; have a11 := in_u i129a; have oc := oc_136_1_46; by omega)) | (rw [← e135x9] at h8; exact (have a0 := in_u ro_46_1; have a1 := in_u ((inv_F hIc46 448 28000 rfl v46_30_0)); have a2 := in_u ((inv_F hIc46 0 32 rfl v46_2_1)); have a3 := in_u ((inv_F hIc46 0 4000 rfl v46_2_0)); have a4 := in_u ((inv_F hIc46 0 1000 rfl v46_46_2)); have a5 := in_u j46_5; have a6 := in_u j46_4; have a7 := in_u j46_3; have a8 := in_u j46_2; have a9 := in_u i135x5; have a10 := in_u i129b; have a11 := in_u i129a; have oc := oc_136_1_46; by omega)))
              have n147f : (z144).toInt ≠ 0 → TQ s144 := by first | (intro h; exact absurd rfl h) | (intro h; exfalso; revert h; first | (unfold In at i39; omega) | (unfold In at i104; omega) | (unfold In at i144; omega))
              have n147g : (z144).toInt ≠ 0 → s144.2.2.1 46 6 = s.2.2.1 46 6 ∧ s144.2.2.1 46 7 = s.2.2.1 46 7 := by first | (intro h; exact absurd rfl h) | (intro h; exfalso; revert h; first | (unfold In at i39; omega) | (unfold In at i104; omega) | (unfold In at i144; omega))
              have n147h : (z144).toInt = 0 → 0 ≤ (s144.2.2.1 46 7).toInt := by intro _; rw [p144.2, ← e129a]; exact (have a0 := in_u ro_46_1; have a1 := in_u ((inv_F hIc46 448 28000 rfl v46_30_0)); have a2 := in_u ((inv_F hIc46 0 32 rfl v46_2_1)); have a3 := in_u ((inv_F hIc46 0 4000 rfl v46_2_0)); have a4 := in_u ((inv_F hIc46 0 1000 rfl v46_46_2)); have a5 := in_u j46_5; have a6 := in_u j46_4; have a7 := in_u j46_3; have a8 := in_u j46_2; have a9 := in_u i135x5; have a10 := in_u i129b; have a11 := in_u i129a; have oc := oc_136_1_46; by omega)
              have n147i : (z129a).toInt ≤ (u_46_1).toInt := by exact (have a0 := in_u ro_46_1; have a1 := in_u ((inv_F hIc46 448 28000 rfl v46_30_0)); have a2 := in_u ((inv_F hIc46 0 32 rfl v46_2_1)); have a3 := in_u ((inv_F hIc46 0 4000 rfl v46_2_0)); have a4 := in_u ((inv_F hIc46 0 1000 rfl v46_46_2)); have a5 := in_u j46_5; have a6 := in_u j46_4; have a7 := in_u j46_3; have a8 := in_u j46_2; have a9 := in_u i135x5; have a10 := in_u i129b; have a11 := in_u i129a; have oc := oc_136_1_46; by omega)
              have n147j : (s144.2.2.1 46 2).toInt ≤ (s144.2.2.1 46 1).toInt := by have b0 : z129a = s144.2.2.1 46 2 := fr_F (e129) hF144 rfl; have b1 : u_46_1 = s144.2.2.1 46 1 := fr_F (fr_F (fr_F e_46_1 hFc46 rfl) hF129 rfl) hF144 rfl; rw [← b0, ← b1]; exact n147i
              have n147k : (u_2_0).toInt ≤ (w46_2_0).toInt := by first | exact n46_1 | (exact (have a0 := in_u ro_46_1; have a1 := in_u ((inv_F hIc46 448 28000 rfl v46_30_0)); have a2 := in_u ((inv_F hIc46 0 32 rfl v46_2_1)); have a3 := in_u ((inv_F hIc46 0 4000 rfl v46_2_0)); have a4 := in_u ((inv_F hIc46 0 1000 rfl v46_46_2)); have a5 := in_u j46_5; have a6 := in_u j46_4; have a7 := in_u j46_3; have a8 := in_u j46_2; have a9 := in_u i135x5; have a10 := in_u i129b; have a11 := in_u i129a; have oc := oc_136_1_46; by omega))
              have n147l : (s.2.2.1 2 0).toInt ≤ (s144.2.2.1 2 0).toInt := by have b0 : w46_2_0 = s144.2.2.1 2 0 := fr_F (fr_F (v46_2_0) hF129 rfl) hF144 rfl; first | (rw [← b0, ← e_2_0]; exact n147k) | (rw [← b0]; exact n147k)
              exact g_ireturn (gd rfl) rfl (nb01 (in_w 0 1 i144 rfl)) (hP _ _ ⟨(A 30), s144, hI144, (fr_tr rfl (fr_tr rfl hFc46 hF129) hF144), n147j, n147l, z144, rfl, (by rw [ax_id]), in_w 0 1 i144 rfl, n147, n147a, n147b, n147c, n147d, n147e, n147f, n147g, n147h⟩)
          · skip
            have i135x13 := r_eq1 59 59 c135x13 (i_rng z135x9) (in_c 59 rfl) rfl
            refine g_iconst 1 17 (gd rfl) rfl rfl ?_
            refine g_goto 21 (gd rfl) rfl ?_
            refine g_ireturn (gd rfl) rfl (nb01 (in_w 0 1 (in_c 1 rfl) rfl)) (hp135 _ _ ?_)
            show GG _ _ _ _ _ _ _ _ [.int (Int32.ofInt 1)] _ _ _
            refine g_if_ne 141 148 (gd rfl) rfl rfl (fun c138 => ?_) (fun c138 => ?_)
            · skip
              refine g_aload_n 149 (gd rfl) rfl rfl ?_
              refine g_iload_n 150 (gd rfl) rfl rfl ?_
              have hL : Fr ([31], [], [(46, 2), (46, 3), (46, 4), (46, 5), (46, 6), (46, 7)], []) s s129 := (fr_tr rfl g46_2 hF129)
              have v150 : w46_2_0 = s129.2.2.1 2 0 := fr_F (v46_2_0) hF129 rfl
              have v150a : w46_2_1 = s129.2.2.1 2 1 := fr_F (v46_2_1) hF129 rfl
              have v150b : w46_30_0 = s129.2.2.1 30 0 := fr_F (v46_30_0) hF129 rfl
              have p150 : KL s129 := by exact kl_fr q_0 hL rfl
              have p150a : (y46_3).toInt = 13 → In (s129.1 31 0) 0 25 := by intro h13; rw [hF129.1 31 rfl]; exact g46_1 (g46_0 h13) (by have hz1 := zn_1 (g46_0 h13); have h9 := p50; exact (have a0 := in_u ro_46_1; have a1 := in_u ((inv_F hIc46 448 28000 rfl v46_30_0)); have a2 := in_u ((inv_F hIc46 0 32 rfl v46_2_1)); have a3 := in_u ((inv_F hIc46 0 4000 rfl v46_2_0)); have a4 := in_u ((inv_F hIc46 0 1000 rfl v46_46_2)); have a5 := in_u j46_5; have a6 := in_u j46_4; have a7 := in_u j46_3; have a8 := in_u j46_2; have a9 := in_u i135x13; have a10 := in_u i135x5; have a11 := in_u i129b; have a12 := in_u i129a; have oc := oc_136_1_46; by omega))
              have p150b : cmI (y46_3).toInt := by exact shq_i g46_3
              have p150c : TQ s129 := by exact tq_fr q_3 hL rfl
              have p150d : (y46_3).toInt = 0 → In (s129.1 31 4) 0 25 := by intro h0; obtain ⟨a, ha⟩ := q_2; obtain ⟨q, f, h5⟩ := (g46_6 a ha).1 4 (by have h9 := shq_n g46_3; have h8 := p50; rw [h9, h0] at h8; have h7 : (cmA 0 : Int) = 5 := rfl; exact (have a0 := in_u ro_46_1; have a1 := in_u ((inv_F hIc46 448 28000 rfl v46_30_0)); have a2 := in_u ((inv_F hIc46 0 32 rfl v46_2_1)); have a3 := in_u ((inv_F hIc46 0 4000 rfl v46_2_0)); have a4 := in_u ((inv_F hIc46 0 1000 rfl v46_46_2)); have a5 := in_u j46_5; have a6 := in_u j46_4; have a7 := in_u j46_3; have a8 := in_u j46_2; have a9 := in_u i135x13; have a10 := in_u i135x5; have a11 := in_u i129b; have a12 := in_u i129a; have oc := oc_136_1_46; by omega)); rw [hF129.1 31 rfl]; rw [h0] at h5; obtain ⟨p8, e8, k8, v8, -, h6⟩ := h5; exact tkn_v1 h6 rfl
              refine g_callv (X := _) (As := [.int y46_3]) (r := []) (b := A 1) (q := 1) 153 (gd rfl) rfl rfl rfl rfl rfl (ww_o rfl) (Nat.le_of_ble_eq_true rfl) (Nat.le_of_eq (lc_cg ((show Fr ([31], [], [(46, 2), (46, 3), (46, 4), (46, 5), (46, 6), (46, 7)], []) s s129 from (fr_tr rfl g46_2 hF129)).2.2.1 30 0 rfl) ((show Fr ([31], [], [(46, 2), (46, 3), (46, 4), (46, 5), (46, 6), (46, 7)], []) s s129 from (fr_tr rfl g46_2 hF129)).2.2.1 2 0 rfl)).1) (Nat.le_of_eq (lc_cg ((show Fr ([31], [], [(46, 2), (46, 3), (46, 4), (46, 5), (46, 6), (46, 7)], []) s s129 from (fr_tr rfl g46_2 hF129)).2.2.1 30 0 rfl) ((show Fr ([31], [], [(46, 2), (46, 3), (46, 4), (46, 5), (46, 6), (46, 7)], []) s s129 from (fr_tr rfl g46_2 hF129)).2.2.1 2 0 rfl)).2.1) (f_138_1 (by first | exact dq1 hd rfl | exact dq0 hd rfl | exact dq2 hd rfl | exact dq3 hd rfl | omega) hI129 (in_w (-1) 25 j46_3 rfl) v150 v150a v150b rfl p150 p150a p150b p150c p150d) (fun e u h => h) (fun v u h => ?_)
              obtain ⟨a150, s150, hI150, hF150, n150, z150, rfl, rfl, i150, p150e, p150f, p150g, p150h, p150i, p150j⟩ := h
              obtain ⟨z150a, e150⟩ : ∃ w, w = s150.2.2.1 2 0 := ⟨_, rfl⟩
              have i150a := inv_F hI150 0 4000 rfl e150
              rw [← (show w46_2_0 = s129.2.2.1 2 0 from fr_F (v46_2_0) hF129 rfl)] at n150
              rw [← (show z150a = s150.2.2.1 2 0 from e150)] at n150
              show GG _ _ _ _ _ _ _ _ [.int z150] _ _ _
              refine g_if_ne 156 165 (gd rfl) rfl rfl (fun c153 => ?_) (fun c153 => ?_)
              · skip
                have i153 := z_ne 1 1 c153 i150 rfl
                refine g_iconst 1 166 (gd rfl) rfl rfl ?_
                refine g_goto 170 (gd rfl) rfl ?_
                have n170 : KL s150 := by exact p150e
                have n170a : ((Int32.ofInt 1)).toInt ≠ 0 → (s150.2.2.1 30 0).toInt = nln s := by first | (intro h; exact absurd rfl h) | (intro _; rw [← (lc_cg (s := s) (hL.2.2.1 30 0 rfl) (hL.2.2.1 2 0 rfl)).2.2]; exact p150f c153)
                have n170b : ((Int32.ofInt 1)).toInt ≠ 0 → (s.2.2.1 2 0).toInt ≤ 3999 := by first | (intro h; exact absurd rfl h) | (intro _; rw [← hL.2.2.1 2 0 rfl]; exact p150g c153)
                have n170c : ∀ k : Nat, (k : Int) < 7 * (s.2.2.1 2 0).toInt → s150.1 30 k = s.1 30 k := by exact fun k hk => by rw [p150h k (by rw [hL.2.2.1 2 0 rfl]; exact hk), hL.1 30 rfl]
                have n170d : ((Int32.ofInt 1)).toInt ≠ 0 → ∀ a : Nat, TKN (s.1 47) (s.2.2.1 46 1).toInt.toNat a (s.2.2.1 46 4).toInt.toNat (s.2.2.1 46 2).toInt.toNat (s.2.2.1 46 3).toInt (s.2.2.1 46 5).toInt → ∃ c V, CMP (s.1 47) (s.2.2.1 46 1).toInt.toNat a (s.2.2.1 46 4).toInt.toNat c V (s150.2.2.1 46 2).toInt.toNat ∧ dkC (gvC s) c V ∧ gvC s150 = opC (gvC s) c V := by first | (intro h; exact absurd rfl h) | (intro _ a ha; obtain ⟨h1, p1, k1, v1, h2⟩ := g46_6 a ha; have hk9 := p129b; rw [show sc46.1 47 = s.1 47 from g46_2.1 47 rfl, show sc46.2.2.1 46 1 = s.2.2.1 46 1 from g46_2.2.2.1 46 1 rfl, ← v46_46_2] at hk9; have h5 : y46_5.toInt.toNat = cmA y46_3.toInt := (by have h9 := shq_n g46_3; have h8 := p50; rw [h9] at h8; have h7 := (shq_5 g46_3).1; have h6 := g46_5; exact (have a0 := in_u ro_46_1; have a1 := in_u ((inv_F hIc46 448 28000 rfl v46_30_0)); have a2 := in_u ((inv_F hIc46 0 32 rfl v46_2_1)); have a3 := in_u ((inv_F hIc46 0 4000 rfl v46_2_0)); have a4 := in_u ((inv_F hIc46 0 1000 rfl v46_46_2)); have a5 := in_u j46_5; have a6 := in_u j46_4; have a7 := in_u j46_3; have a8 := in_u j46_2; have a9 := in_u i150a; have a10 := in_u i135x13; have a11 := in_u i135x5; have a12 := in_u i129b; have a13 := in_u i129a; have oc := oc_136_1_46; by omega)); have hcm : CMP (s.1 47) (s.2.2.1 46 1).toInt.toNat a (s.2.2.1 46 4).toInt.toNat y46_3.toInt (V31 s129) (s129.2.2.1 46 2).toInt.toNat := ⟨shq_i g46_3, ⟨_, by have h9 := ha; rw [g46_4.1, g46_4.2.1] at h9; exact h9⟩, fun i hi => by show ∃ q f, TSQ _ _ _ _ q f _ (s129.1 31 i).toInt; rw [hF129.1 31 rfl]; exact h1 i (by omega), (s129.2.2.1 46 4).toInt.toNat, (s129.2.2.1 46 5).toInt, by rw [← h5]; exact ⟨p1, w46_46_2.toInt.toNat, k1, v1, h2, by have h9 := hk9; rw [show (s129.2.2.1 46 3).toInt = 3 from (by rw [← e135x1]; exact (have a0 := in_u ro_46_1; have a1 := in_u ((inv_F hIc46 448 28000 rfl v46_30_0)); have a2 := in_u ((inv_F hIc46 0 32 rfl v46_2_1)); have a3 := in_u ((inv_F hIc46 0 4000 rfl v46_2_0)); have a4 := in_u ((inv_F hIc46 0 1000 rfl v46_46_2)); have a5 := in_u j46_5; have a6 := in_u j46_4; have a7 := in_u j46_3; have a8 := in_u j46_2; have a9 := in_u i150a; have a10 := in_u i135x13; have a11 := in_u i135x5; have a12 := in_u i129b; have a13 := in_u i129a; have oc := oc_136_1_46; by omega))] at h9; exact h9⟩⟩; have h3 := p150i c153; rw [gvC_cg hL rfl] at h3; exact ⟨_, _, by rw [hF150.2.2.1 46 2 rfl]; exact hcm, h3.1, h3.2.1⟩)
                have n170e : ((Int32.ofInt 1)).toInt = 0 → ∀ a : Nat, TKN (s.1 47) (s.2.2.1 46 1).toInt.toNat a (s.2.2.1 46 4).toInt.toNat (s.2.2.1 46 2).toInt.toNat (s.2.2.1 46 3).toInt (s.2.2.1 46 5).toInt → CMX (s.1 47) (s.2.2.1 46 1).toInt.toNat a (s150.2.2.1 46 6).toInt (s150.2.2.1 46 7).toInt.toNat ∨ ∃ c V e, CMP (s.1 47) (s.2.2.1 46 1).toInt.toNat a (s150.2.2.1 46 7).toInt.toNat c V e ∧ ¬ dkC (gvC s) c V ∧ (s150.2.2.1 46 6).toInt = 4 := by intro h; exact absurd h (by decide)
                have n170f : ((Int32.ofInt 1)).toInt ≠ 0 → TQ s150 := by first | (intro h; exact absurd rfl h) | (intro _; exact (p150i c153).2.2)
                have n170g : ((Int32.ofInt 1)).toInt ≠ 0 → s150.2.2.1 46 6 = s.2.2.1 46 6 ∧ s150.2.2.1 46 7 = s.2.2.1 46 7 := by first | (intro h; exact absurd rfl h) | (intro _; exact ⟨(hF150.2.2.1 46 6 rfl).trans ((hF129.2.2.1 46 6 rfl).trans g46_7.1), (hF150.2.2.1 46 7 rfl).trans ((hF129.2.2.1 46 7 rfl).trans g46_7.2)⟩)
                have n170h : ((Int32.ofInt 1)).toInt = 0 → 0 ≤ (s150.2.2.1 46 7).toInt := by intro h; exact absurd h (by decide)
                have n170i : (z129a).toInt ≤ (u_46_1).toInt := by exact (have a0 := in_u ro_46_1; have a1 := in_u ((inv_F hIc46 448 28000 rfl v46_30_0)); have a2 := in_u ((inv_F hIc46 0 32 rfl v46_2_1)); have a3 := in_u ((inv_F hIc46 0 4000 rfl v46_2_0)); have a4 := in_u ((inv_F hIc46 0 1000 rfl v46_46_2)); have a5 := in_u j46_5; have a6 := in_u j46_4; have a7 := in_u j46_3; have a8 := in_u j46_2; have a9 := in_u i150a; have a10 := in_u i135x13; have a11 := in_u i135x5; have a12 := in_u i129b; have a13 := in_u i129a; have oc := oc_136_1_46; by omega)
                have n170j : (s150.2.2.1 46 2).toInt ≤ (s150.2.2.1 46 1).toInt := by have b0 : z129a = s150.2.2.1 46 2 := fr_F (e129) hF150 rfl; have b1 : u_46_1 = s150.2.2.1 46 1 := fr_F (fr_F (fr_F e_46_1 hFc46 rfl) hF129 rfl) hF150 rfl; rw [← b0, ← b1]; exact n170i
                have n170k : (u_2_0).toInt ≤ (z150a).toInt := by exact (have a0 := in_u ro_46_1; have a1 := in_u ((inv_F hIc46 448 28000 rfl v46_30_0)); have a2 := in_u ((inv_F hIc46 0 32 rfl v46_2_1)); have a3 := in_u ((inv_F hIc46 0 4000 rfl v46_2_0)); have a4 := in_u ((inv_F hIc46 0 1000 rfl v46_46_2)); have a5 := in_u j46_5; have a6 := in_u j46_4; have a7 := in_u j46_3; have a8 := in_u j46_2; have a9 := in_u i150a; have a10 := in_u i135x13; have a11 := in_u i135x5; have a12 := in_u i129b; have a13 := in_u i129a; have oc := oc_136_1_46; by omega)
                have n170l : (s.2.2.1 2 0).toInt ≤ (s150.2.2.1 2 0).toInt := by have b0 : z150a = s150.2.2.1 2 0 := e150; first | (rw [← b0, ← e_2_0]; exact n170k) | (rw [← b0]; exact n170k)
                exact g_ireturn (gd rfl) rfl (nb01 (in_w 0 1 (in_c 1 rfl) rfl)) (hP _ _ ⟨a150, s150, hI150, (fr_tr rfl (fr_tr rfl hFc46 hF129) hF150), n170j, n170l, (Int32.ofInt 1), rfl, rfl, in_w 0 1 (in_c 1 rfl) rfl, n170, n170a, n170b, n170c, n170d, n170e, n170f, n170g, n170h⟩)
              · skip
                have i153 := z_eq 0 0 c153 i150 rfl
                refine g_aload_n 157 (gd rfl) rfl rfl ?_
                refine g_iconst 4 158 (gd rfl) rfl rfl ?_
                refine g_iload_n 159 (gd rfl) rfl rfl ?_
                refine g_callv (X := _) (As := [.int (Int32.ofInt 4), .int y46_2]) (r := []) (b := A 46) (q := 46) 162 (gd rfl) rfl rfl rfl rfl rfl (ww_o rfl) (Nat.le_of_ble_eq_true rfl) (Nat.zero_le _) (Nat.zero_le _) (f_168_46 (A := (ax A 30 a150)) (by omega) hI150 (in_w 1 5 (in_c 4 rfl) rfl) (in_w 0 1000 j46_2 rfl)) (fun e u h => h) (fun v u h => ?_)
                obtain ⟨s159, hI159, hF159, z159, rfl, rfl, i159, p159⟩ := h
                show GG _ _ _ _ _ _ _ _ [.int z159] _ _ _
                refine g_if_eq 165 169 (gd rfl) rfl rfl (fun c162 => ?_) (fun c162 => ?_)
                · skip
                  refine g_iconst 0 170 (gd rfl) rfl rfl ?_
                  have n170 : KL s159 := by exact kl_fr p150e hF159 rfl
                  have n170a : ((Int32.ofInt 0)).toInt ≠ 0 → (s159.2.2.1 30 0).toInt = nln s := by intro h; exact absurd rfl h
                  have n170b : ((Int32.ofInt 0)).toInt ≠ 0 → (s.2.2.1 2 0).toInt ≤ 3999 := by intro h; exact absurd rfl h
                  have n170c : ∀ k : Nat, (k : Int) < 7 * (s.2.2.1 2 0).toInt → s159.1 30 k = s.1 30 k := by exact fun k hk => by rw [hF159.1 30 rfl, p150h k (by rw [hL.2.2.1 2 0 rfl]; exact hk), hL.1 30 rfl]
                  have n170d : ((Int32.ofInt 0)).toInt ≠ 0 → ∀ a : Nat, TKN (s.1 47) (s.2.2.1 46 1).toInt.toNat a (s.2.2.1 46 4).toInt.toNat (s.2.2.1 46 2).toInt.toNat (s.2.2.1 46 3).toInt (s.2.2.1 46 5).toInt → ∃ c V, CMP (s.1 47) (s.2.2.1 46 1).toInt.toNat a (s.2.2.1 46 4).toInt.toNat c V (s159.2.2.1 46 2).toInt.toNat ∧ dkC (gvC s) c V ∧ gvC s159 = opC (gvC s) c V := by first | (intro h; exact absurd rfl h) | (intro _ a ha; obtain ⟨h1, p1, k1, v1, h2⟩ := g46_6 a ha; have hk9 := p129b; rw [show sc46.1 47 = s.1 47 from g46_2.1 47 rfl, show sc46.2.2.1 46 1 = s.2.2.1 46 1 from g46_2.2.2.1 46 1 rfl, ← v46_46_2] at hk9; have h5 : y46_5.toInt.toNat = cmA y46_3.toInt := (by have h9 := shq_n g46_3; have h8 := p50; rw [h9] at h8; have h7 := (shq_5 g46_3).1; have h6 := g46_5; exact (have a0 := in_u ro_46_1; have a1 := in_u ((inv_F hIc46 448 28000 rfl v46_30_0)); have a2 := in_u ((inv_F hIc46 0 32 rfl v46_2_1)); have a3 := in_u ((inv_F hIc46 0 4000 rfl v46_2_0)); have a4 := in_u ((inv_F hIc46 0 1000 rfl v46_46_2)); have a5 := in_u j46_5; have a6 := in_u j46_4; have a7 := in_u j46_3; have a8 := in_u j46_2; have a9 := in_u i150a; have a10 := in_u i135x13; have a11 := in_u i135x5; have a12 := in_u i129b; have a13 := in_u i129a; have oc := oc_136_1_46; by omega)); have hcm : CMP (s.1 47) (s.2.2.1 46 1).toInt.toNat a (s.2.2.1 46 4).toInt.toNat y46_3.toInt (V31 s129) (s129.2.2.1 46 2).toInt.toNat := ⟨shq_i g46_3, ⟨_, by have h9 := ha; rw [g46_4.1, g46_4.2.1] at h9; exact h9⟩, fun i hi => by show ∃ q f, TSQ _ _ _ _ q f _ (s129.1 31 i).toInt; rw [hF129.1 31 rfl]; exact h1 i (by omega), (s129.2.2.1 46 4).toInt.toNat, (s129.2.2.1 46 5).toInt, by rw [← h5]; exact ⟨p1, w46_46_2.toInt.toNat, k1, v1, h2, by have h9 := hk9; rw [show (s129.2.2.1 46 3).toInt = 3 from (by rw [← e135x1]; exact (have a0 := in_u ro_46_1; have a1 := in_u ((inv_F hIc46 448 28000 rfl v46_30_0)); have a2 := in_u ((inv_F hIc46 0 32 rfl v46_2_1)); have a3 := in_u ((inv_F hIc46 0 4000 rfl v46_2_0)); have a4 := in_u ((inv_F hIc46 0 1000 rfl v46_46_2)); have a5 := in_u j46_5; have a6 := in_u j46_4; have a7 := in_u j46_3; have a8 := in_u j46_2; have a9 := in_u i150a; have a10 := in_u i135x13; have a11 := in_u i135x5; have a12 := in_u i129b; have a13 := in_u i129a; have oc := oc_136_1_46; by omega))] at h9; exact h9⟩⟩; have h3 := p150i c153; rw [gvC_cg hL rfl] at h3; exact ⟨_, _, by rw [hF150.2.2.1 46 2 rfl]; exact hcm, h3.1, h3.2.1⟩)
                  have n170e : ((Int32.ofInt 0)).toInt = 0 → ∀ a : Nat, TKN (s.1 47) (s.2.2.1 46 1).toInt.toNat a (s.2.2.1 46 4).toInt.toNat (s.2.2.1 46 2).toInt.toNat (s.2.2.1 46 3).toInt (s.2.2.1 46 5).toInt → CMX (s.1 47) (s.2.2.1 46 1).toInt.toNat a (s159.2.2.1 46 6).toInt (s159.2.2.1 46 7).toInt.toNat ∨ ∃ c V e, CMP (s.1 47) (s.2.2.1 46 1).toInt.toNat a (s159.2.2.1 46 7).toInt.toNat c V e ∧ ¬ dkC (gvC s) c V ∧ (s159.2.2.1 46 6).toInt = 4 := by first | (intro h; exact absurd h (by decide)) | (intro _ a ha; obtain ⟨h1, p1, k1, v1, h2⟩ := g46_6 a ha; have hk9 := p129b; rw [show sc46.1 47 = s.1 47 from g46_2.1 47 rfl, show sc46.2.2.1 46 1 = s.2.2.1 46 1 from g46_2.2.2.1 46 1 rfl, ← v46_46_2] at hk9; have h5 : y46_5.toInt.toNat = cmA y46_3.toInt := (by have h9 := shq_n g46_3; have h8 := p50; rw [h9] at h8; have h7 := (shq_5 g46_3).1; have h6 := g46_5; exact (have a0 := in_u ro_46_1; have a1 := in_u ((inv_F hIc46 448 28000 rfl v46_30_0)); have a2 := in_u ((inv_F hIc46 0 32 rfl v46_2_1)); have a3 := in_u ((inv_F hIc46 0 4000 rfl v46_2_0)); have a4 := in_u ((inv_F hIc46 0 1000 rfl v46_46_2)); have a5 := in_u j46_5; have a6 := in_u j46_4; have a7 := in_u j46_3; have a8 := in_u j46_2; have a9 := in_u i150a; have a10 := in_u i135x13; have a11 := in_u i135x5; have a12 := in_u i129b; have a13 := in_u i129a; have oc := oc_136_1_46; by omega)); have hcm : CMP (s.1 47) (s.2.2.1 46 1).toInt.toNat a (s.2.2.1 46 4).toInt.toNat y46_3.toInt (V31 s129) (s129.2.2.1 46 2).toInt.toNat := ⟨shq_i g46_3, ⟨_, by have h9 := ha; rw [g46_4.1, g46_4.2.1] at h9; exact h9⟩, fun i hi => by show ∃ q f, TSQ _ _ _ _ q f _ (s129.1 31 i).toInt; rw [hF129.1 31 rfl]; exact h1 i (by omega), (s129.2.2.1 46 4).toInt.toNat, (s129.2.2.1 46 5).toInt, by rw [← h5]; exact ⟨p1, w46_46_2.toInt.toNat, k1, v1, h2, by have h9 := hk9; rw [show (s129.2.2.1 46 3).toInt = 3 from (by rw [← e135x1]; exact (have a0 := in_u ro_46_1; have a1 := in_u ((inv_F hIc46 448 28000 rfl v46_30_0)); have a2 := in_u ((inv_F hIc46 0 32 rfl v46_2_1)); have a3 := in_u ((inv_F hIc46 0 4000 rfl v46_2_0)); have a4 := in_u ((inv_F hIc46 0 1000 rfl v46_46_2)); have a5 := in_u j46_5; have a6 := in_u j46_4; have a7 := in_u j46_3; have a8 := in_u j46_2; have a9 := in_u i150a; have a10 := in_u i135x13; have a11 := in_u i135x5; have a12 := in_u i129b; have a13 := in_u i129a; have oc := oc_136_1_46; by omega))] at h9; exact h9⟩⟩; have h3 := p150j (by exact (have a0 := in_u ro_46_1; have a1 := in_u ((inv_F hIc46 448 28000 rfl v46_30_0)); have a2 := in_u ((inv_F hIc46 0 32 rfl v46_2_1)); have a3 := in_u ((inv_F hIc46 0 4000 rfl v46_2_0)); have a4 := in_u ((inv_F hIc46 0 1000 rfl v46_46_2)); have a5 := in_u j46_5; have a6 := in_u j46_4; have a7 := in_u j46_3; have a8 := in_u j46_2; have a9 := in_u i150a; have a10 := in_u i135x13; have a11 := in_u i135x5; have a12 := in_u i129b; have a13 := in_u i129a; have oc := oc_136_1_46; by omega)); rw [gvC_cg hL rfl] at h3; refine Or.inr ⟨y46_3.toInt, V31 s129, (s129.2.2.1 46 2).toInt.toNat, ?_, h3, by rw [p159.1]; rfl⟩; rw [p159.2, g46_4.2.2]; exact hcm)
                  have n170f : ((Int32.ofInt 0)).toInt ≠ 0 → TQ s159 := by first | (intro h; exact absurd rfl h) | (intro _; exact (p150i c153).2.2)
                  have n170g : ((Int32.ofInt 0)).toInt ≠ 0 → s159.2.2.1 46 6 = s.2.2.1 46 6 ∧ s159.2.2.1 46 7 = s.2.2.1 46 7 := by first | (intro h; exact absurd rfl h) | (intro h; exfalso; revert h; first | (unfold In at i39; omega) | (unfold In at i104; omega) | (unfold In at i144; omega))
                  have n170h : ((Int32.ofInt 0)).toInt = 0 → 0 ≤ (s159.2.2.1 46 7).toInt := by first | (intro h; exact absurd h (by decide)) | (intro _; rw [p159.2]; exact (have a0 := in_u ro_46_1; have a1 := in_u ((inv_F hIc46 448 28000 rfl v46_30_0)); have a2 := in_u ((inv_F hIc46 0 32 rfl v46_2_1)); have a3 := in_u ((inv_F hIc46 0 4000 rfl v46_2_0)); have a4 := in_u ((inv_F hIc46 0 1000 rfl v46_46_2)); have a5 := in_u j46_5; have a6 := in_u j46_4; have a7 := in_u j46_3; have a8 := in_u j46_2; have a9 := in_u i150a; have a10 := in_u i135x13; have a11 := in_u i135x5; have a12 := in_u i129b; have a13 := in_u i129a; have oc := oc_136_1_46; by omega))
                  have n170i : (z129a).toInt ≤ (u_46_1).toInt := by exact (have a0 := in_u ro_46_1; have a1 := in_u ((inv_F hIc46 448 28000 rfl v46_30_0)); have a2 := in_u ((inv_F hIc46 0 32 rfl v46_2_1)); have a3 := in_u ((inv_F hIc46 0 4000 rfl v46_2_0)); have a4 := in_u ((inv_F hIc46 0 1000 rfl v46_46_2)); have a5 := in_u j46_5; have a6 := in_u j46_4; have a7 := in_u j46_3; have a8 := in_u j46_2; have a9 := in_u i150a; have a10 := in_u i135x13; have a11 := in_u i135x5; have a12 := in_u i129b; have a13 := in_u i129a; have oc := oc_136_1_46; by omega)
                  have n170j : (s159.2.2.1 46 2).toInt ≤ (s159.2.2.1 46 1).toInt := by have b0 : z129a = s159.2.2.1 46 2 := fr_F (fr_F (e129) hF150 rfl) hF159 rfl; have b1 : u_46_1 = s159.2.2.1 46 1 := fr_F (fr_F (fr_F (fr_F e_46_1 hFc46 rfl) hF129 rfl) hF150 rfl) hF159 rfl; rw [← b0, ← b1]; exact n170i
                  have n170k : (u_2_0).toInt ≤ (z150a).toInt := by exact (have a0 := in_u ro_46_1; have a1 := in_u ((inv_F hIc46 448 28000 rfl v46_30_0)); have a2 := in_u ((inv_F hIc46 0 32 rfl v46_2_1)); have a3 := in_u ((inv_F hIc46 0 4000 rfl v46_2_0)); have a4 := in_u ((inv_F hIc46 0 1000 rfl v46_46_2)); have a5 := in_u j46_5; have a6 := in_u j46_4; have a7 := in_u j46_3; have a8 := in_u j46_2; have a9 := in_u i150a; have a10 := in_u i135x13; have a11 := in_u i135x5; have a12 := in_u i129b; have a13 := in_u i129a; have oc := oc_136_1_46; by omega)
                  have n170l : (s.2.2.1 2 0).toInt ≤ (s159.2.2.1 2 0).toInt := by have b0 : z150a = s159.2.2.1 2 0 := fr_F (e150) hF159 rfl; first | (rw [← b0, ← e_2_0]; exact n170k) | (rw [← b0]; exact n170k)
                  exact g_ireturn (gd rfl) rfl (nb01 (in_w 0 1 (in_c 0 rfl) rfl)) (hP _ _ ⟨a150, s159, hI159, (fr_tr rfl (fr_tr rfl (fr_tr rfl hFc46 hF129) hF150) hF159), n170j, n170l, (Int32.ofInt 0), rfl, rfl, in_w 0 1 (in_c 0 rfl) rfl, n170, n170a, n170b, n170c, n170d, n170e, n170f, n170g, n170h⟩)
                · skip
                  exact zn_ne c162 i159 rfl
            · skip
              exact zn_eq c138 (in_c 1 rfl) rfl
      · skip
        have i53 := r_lt2 1 9 c53 j46_5 i50a rfl
        refine g_iload 58 (gd rfl) rfl rfl ?_
        refine g_aload_n 59 (gd rfl) rfl rfl ?_
        refine g_getA (q2 := 31) 62 (gd rfl) rfl rfl rfl rfl ?_
        refine g_alen (n := 5) (t := 0) 5 63 (gd rfl) rfl rfl (Nat.le_of_ble_eq_true rfl) rfl ?_
        refine g_cmp_ge 66 125 (gd rfl) rfl rfl (fun c63 => ?_) (fun c63 => ?_)
        · skip
          have i63 := r_le2 5 5 c63 (in_c 5 rfl) j46_5 rfl
          refine g_aload_n 126 (gd rfl) rfl rfl ?_
          refine g_bipush 7 128 (gd rfl) rfl rfl ?_
          refine g_iconst 1 129 (gd rfl) rfl rfl ?_
          have v129 : u_46_1 = sc46.2.2.1 46 1 := fr_F e_46_1 hFc46 rfl
          have n129 : (w46_46_2).toInt ≤ (u_46_1).toInt := by first | exact n46_0 | (exact (have a0 := in_u ro_46_1; have a1 := in_u ((inv_F hIc46 448 28000 rfl v46_30_0)); have a2 := in_u ((inv_F hIc46 0 32 rfl v46_2_1)); have a3 := in_u ((inv_F hIc46 0 4000 rfl v46_2_0)); have a4 := in_u ((inv_F hIc46 0 1000 rfl v46_46_2)); have a5 := in_u i63; have a6 := in_u j46_4; have a7 := in_u j46_3; have a8 := in_u j46_2; have oc := oc_136_1_46; by omega))
          refine g_callv (X := _) (As := [.int (Int32.ofInt 7), .int (Int32.ofInt 1)]) (r := []) (b := A 46) (q := 46) 132 (gd rfl) rfl rfl rfl rfl rfl (ww_o rfl) (Nat.le_of_ble_eq_true rfl) (Nat.zero_le _) (Nat.zero_le _) (f_171_46 (by first | exact dq1 hd rfl | exact dq0 hd rfl | exact dq2 hd rfl | exact dq3 hd rfl | omega) hIc46 (in_w 7 7 (in_c 7 rfl) rfl) (in_w 1 1 (in_c 1 rfl) rfl) v46_46_2 v129 n129) (fun e u h => h) (fun v u h => ?_)
          obtain ⟨s129, hI129, hF129, n129a, n129b, n129c, rfl, rfl, p129, p129a, p129b⟩ := h
          obtain ⟨z129a, e129⟩ : ∃ w, w = s129.2.2.1 46 2 := ⟨_, rfl⟩
          have i129a := inv_F hI129 0 1000 rfl e129
          obtain ⟨z129b, e129a⟩ : ∃ w, w = s129.2.2.1 46 4 := ⟨_, rfl⟩
          have i129b := inv_F hI129 0 1000 rfl e129a
          rw [← (show z129a = s129.2.2.1 46 2 from e129)] at n129a
          rw [← (show u_46_1 = s129.2.2.1 46 1 from fr_F (fr_F e_46_1 hFc46 rfl) hF129 rfl)] at n129a
          rw [← (show z129a = s129.2.2.1 46 2 from e129)] at n129b
          rw [← (show z129b = s129.2.2.1 46 4 from e129a)] at n129b
          rw [← (show w46_46_2 = sc46.2.2.1 46 2 from v46_46_2)] at n129c
          rw [← (show z129b = s129.2.2.1 46 4 from e129a)] at n129c
          show GG _ _ _ _ _ _ _ _ [] _ _ _
          refine g_aload_n 133 (gd rfl) rfl rfl ?_
          refine g_bipush 59 135 (gd rfl) rfl rfl ?_
          refine g_callv (X := _) (As := [.int (Int32.ofInt 59)]) (r := []) (b := A 46) (q := 46) 138 (gd rfl) rfl rfl rfl rfl rfl (ww_o rfl) (Nat.le_of_ble_eq_true rfl) (mc := 0) (ms := 0) (Nat.zero_le _) (Nat.zero_le _) (P := fun v u => _) ?_ (fun e u h => h) (fun v u h => h)
          intro po135 xx135 hp135 hx135
          refine g_enter2 (k := 170) (N := 300) (by first | exact dq1 hd rfl | exact dq0 hd rfl | exact dq2 hd rfl | exact dq3 hd rfl | omega) rfl (Nat.le_of_ble_eq_true rfl) ?_
          refine g_aload_n 1 (gd rfl) rfl rfl ?_
          refine g_getI 4 (gd rfl) rfl rfl rfl (fun z135x1 e135x1 => ?_)
          have i135x1 := inv_F hI129 0 5 rfl e135x1
          refine g_iconst 3 5 (gd rfl) rfl rfl ?_
          refine g_cmp_ne 8 20 (gd rfl) rfl rfl (fun c135x5 => ?_) (fun c135x5 => ?_)
          · skip
            refine g_iconst 0 21 (gd rfl) rfl rfl ?_
            refine g_ireturn (gd rfl) rfl (nb01 (in_w 0 1 (in_c 0 rfl) rfl)) (hp135 _ _ ?_)
            show GG _ _ _ _ _ _ _ _ [.int (Int32.ofInt 0)] _ _ _
            refine g_if_ne 141 148 (gd rfl) rfl rfl (fun c138 => ?_) (fun c138 => ?_)
            · skip
              exact zn_ne c138 (in_c 0 rfl) rfl
            · skip
              refine g_aload_n 142 (gd rfl) rfl rfl ?_
              refine g_iconst 2 143 (gd rfl) rfl rfl ?_
              refine g_iconst 3 144 (gd rfl) rfl rfl ?_
              refine g_callv (X := _) (As := [.int (Int32.ofInt 2), .int (Int32.ofInt 3)]) (r := []) (b := A 46) (q := 46) 147 (gd rfl) rfl rfl rfl rfl rfl (ww_o rfl) (Nat.le_of_ble_eq_true rfl) (Nat.zero_le _) (Nat.zero_le _) (f_169_46 (by first | exact dq1 hd rfl | exact dq0 hd rfl | exact dq2 hd rfl | exact dq3 hd rfl | omega) hI129 (in_w 2 2 (in_c 2 rfl) rfl) (in_w 3 3 (in_c 3 rfl) rfl) e135x1 e129a) (fun e u h => h) (fun v u h => ?_)
              obtain ⟨s144, hI144, hF144, z144, rfl, rfl, i144, p144⟩ := h
              show GG _ _ _ _ _ _ _ _ [.int z144] _ _ _
              have n147 : KL s144 := by have hL9 : Fr ([31], [], [(46, 2), (46, 3), (46, 4), (46, 5), (46, 6), (46, 7)], []) s s144 := (fr_tr rfl (fr_tr rfl g46_2 hF129) hF144); exact kl_fr q_0 hL9 rfl
              have n147a : (z144).toInt ≠ 0 → (s144.2.2.1 30 0).toInt = nln s := by first | (intro h; exact absurd rfl h) | (intro h; exfalso; revert h; first | (unfold In at i39; omega) | (unfold In at i104; omega) | (unfold In at i144; omega))
              have n147b : (z144).toInt ≠ 0 → (s.2.2.1 2 0).toInt ≤ 3999 := by first | (intro h; exact absurd rfl h) | (intro h; exfalso; revert h; first | (unfold In at i39; omega) | (unfold In at i104; omega) | (unfold In at i144; omega))
              have n147c : ∀ k : Nat, (k : Int) < 7 * (s.2.2.1 2 0).toInt → s144.1 30 k = s.1 30 k := by have hL9 : Fr ([31], [], [(46, 2), (46, 3), (46, 4), (46, 5), (46, 6), (46, 7)], []) s s144 := (fr_tr rfl (fr_tr rfl g46_2 hF129) hF144); exact fun k _ => by rw [hL9.1 30 rfl]
              have n147d : (z144).toInt ≠ 0 → ∀ a : Nat, TKN (s.1 47) (s.2.2.1 46 1).toInt.toNat a (s.2.2.1 46 4).toInt.toNat (s.2.2.1 46 2).toInt.toNat (s.2.2.1 46 3).toInt (s.2.2.1 46 5).toInt → ∃ c V, CMP (s.1 47) (s.2.2.1 46 1).toInt.toNat a (s.2.2.1 46 4).toInt.toNat c V (s144.2.2.1 46 2).toInt.toNat ∧ dkC (gvC s) c V ∧ gvC s144 = opC (gvC s) c V := by first | (intro h; exact absurd rfl h) | (intro h; exfalso; revert h; first | (unfold In at i39; omega) | (unfold In at i104; omega) | (unfold In at i144; omega))
              have n147e : (z144).toInt = 0 → ∀ a : Nat, TKN (s.1 47) (s.2.2.1 46 1).toInt.toNat a (s.2.2.1 46 4).toInt.toNat (s.2.2.1 46 2).toInt.toNat (s.2.2.1 46 3).toInt (s.2.2.1 46 5).toInt → CMX (s.1 47) (s.2.2.1 46 1).toInt.toNat a (s144.2.2.1 46 6).toInt (s144.2.2.1 46 7).toInt.toNat ∨ ∃ c V e, CMP (s.1 47) (s.2.2.1 46 1).toInt.toNat a (s144.2.2.1 46 7).toInt.toNat c V e ∧ ¬ dkC (gvC s) c V ∧ (s144.2.2.1 46 6).toInt = 4 := by intro _ a ha; obtain ⟨h1, p1, k1, v1, h2⟩ := g46_6 a ha; have hk9 := p129b; rw [show sc46.1 47 = s.1 47 from g46_2.1 47 rfl, show sc46.2.2.1 46 1 = s.2.2.1 46 1 from g46_2.2.2.1 46 1 rfl, ← v46_46_2] at hk9; have h5 : y46_5.toInt.toNat = cmA y46_3.toInt := (by have h9 := shq_n g46_3; have h8 := p50; rw [h9] at h8; have h7 := (shq_5 g46_3).1; have h6 := g46_5; exact (have a0 := in_u ro_46_1; have a1 := in_u ((inv_F hIc46 448 28000 rfl v46_30_0)); have a2 := in_u ((inv_F hIc46 0 32 rfl v46_2_1)); have a3 := in_u ((inv_F hIc46 0 4000 rfl v46_2_0)); have a4 := in_u ((inv_F hIc46 0 1000 rfl v46_46_2)); have a5 := in_u i63; have a6 := in_u j46_4; have a7 := in_u j46_3; have a8 := in_u j46_2; have a9 := in_u i135x1; have a10 := in_u i129b; have a11 := in_u i129a; have oc := oc_136_1_46; by omega)); refine Or.inl (Or.inr ⟨_, _, _, shq_i g46_3, by have h9 := ha; rw [g46_4.1, g46_4.2.1] at h9; exact h9, cmA y46_3.toInt, Nat.le_refl _, fun j hj => by obtain ⟨q, f, h9⟩ := h1 j (by omega); exact ⟨q, f, _, h9⟩, (s129.2.2.1 46 2).toInt.toNat, (s129.2.2.1 46 3).toInt, (s129.2.2.1 46 5).toInt, ?_, ?_, p144.1⟩); (rw [p144.2, ← h5]; exact ⟨p1, w46_46_2.toInt.toNat, k1, v1, h2, hk9⟩); (intro h9; unfold cmK at h9; rw [if_pos rfl] at h9; have h8 := tkn_v3 hk9 h9; first | (rw [← e135x1] at h9; exact (have a0 := in_u ro_46_1; have a1 := in_u ((inv_F hIc46 448 28000 rfl v46_30_0)); have a2 := in_u ((inv_F hIc46 0 32 rfl v46_2_1)); have a3 := in_u ((inv_F hIc46 0 4000 rfl v46_2_0)); have a4 := in_u ((inv_F hIc46 0 1000 rfl v46_46_2)); have a5 := in_u i63; have a6 := in_u j46_4; have a7 := in_u j46_3; have a8 := in_u j46_2; have a9 := in_u i135x1; have a10 := in_u i129b; have a11 := in_u i129a; have oc := oc_136_1_46; by omega)) | (rw [← e135x9] at h8; exact (have a0 := in_u ro_46_1; have a1 := in_u ((inv_F hIc46 448 28000 rfl v46_30_0)); have a2 := in_u ((inv_F hIc46 0 32 rfl v46_2_1)); have a3 := in_u ((inv_F hIc46 0 4000 rfl v46_2_0)); have a4 := in_u ((inv_F hIc46 0 1000 rfl v46_46_2)); have a5 := in_u i63; have a6 := in_u j46_4; have a7 := in_u j46_3; have a8 := in_u j46_2; have a9 := in_u i135x1; have a10 := in_u i129b; have a11 := in_u i129a; have oc := oc_136_1_46; by omega)))
              have n147f : (z144).toInt ≠ 0 → TQ s144 := by first | (intro h; exact absurd rfl h) | (intro h; exfalso; revert h; first | (unfold In at i39; omega) | (unfold In at i104; omega) | (unfold In at i144; omega))
              have n147g : (z144).toInt ≠ 0 → s144.2.2.1 46 6 = s.2.2.1 46 6 ∧ s144.2.2.1 46 7 = s.2.2.1 46 7 := by first | (intro h; exact absurd rfl h) | (intro h; exfalso; revert h; first | (unfold In at i39; omega) | (unfold In at i104; omega) | (unfold In at i144; omega))
              have n147h : (z144).toInt = 0 → 0 ≤ (s144.2.2.1 46 7).toInt := by intro _; rw [p144.2, ← e129a]; exact (have a0 := in_u ro_46_1; have a1 := in_u ((inv_F hIc46 448 28000 rfl v46_30_0)); have a2 := in_u ((inv_F hIc46 0 32 rfl v46_2_1)); have a3 := in_u ((inv_F hIc46 0 4000 rfl v46_2_0)); have a4 := in_u ((inv_F hIc46 0 1000 rfl v46_46_2)); have a5 := in_u i63; have a6 := in_u j46_4; have a7 := in_u j46_3; have a8 := in_u j46_2; have a9 := in_u i135x1; have a10 := in_u i129b; have a11 := in_u i129a; have oc := oc_136_1_46; by omega)
              have n147i : (z129a).toInt ≤ (u_46_1).toInt := by exact (have a0 := in_u ro_46_1; have a1 := in_u ((inv_F hIc46 448 28000 rfl v46_30_0)); have a2 := in_u ((inv_F hIc46 0 32 rfl v46_2_1)); have a3 := in_u ((inv_F hIc46 0 4000 rfl v46_2_0)); have a4 := in_u ((inv_F hIc46 0 1000 rfl v46_46_2)); have a5 := in_u i63; have a6 := in_u j46_4; have a7 := in_u j46_3; have a8 := in_u j46_2; have a9 := in_u i135x1; have a10 := in_u i129b; have a11 := in_u i129a; have oc := oc_136_1_46; by omega)
              have n147j : (s144.2.2.1 46 2).toInt ≤ (s144.2.2.1 46 1).toInt := by have b0 : z129a = s144.2.2.1 46 2 := fr_F (e129) hF144 rfl; have b1 : u_46_1 = s144.2.2.1 46 1 := fr_F (fr_F (fr_F e_46_1 hFc46 rfl) hF129 rfl) hF144 rfl; rw [← b0, ← b1]; exact n147i
              have n147k : (u_2_0).toInt ≤ (w46_2_0).toInt := by first | exact n46_1 | (exact (have a0 := in_u ro_46_1; have a1 := in_u ((inv_F hIc46 448 28000 rfl v46_30_0)); have a2 := in_u ((inv_F hIc46 0 32 rfl v46_2_1)); have a3 := in_u ((inv_F hIc46 0 4000 rfl v46_2_0)); have a4 := in_u ((inv_F hIc46 0 1000 rfl v46_46_2)); have a5 := in_u i63; have a6 := in_u j46_4; have a7 := in_u j46_3; have a8 := in_u j46_2; have a9 := in_u i135x1; have a10 := in_u i129b; have a11 := in_u i129a; have oc := oc_136_1_46; by omega))
              have n147l : (s.2.2.1 2 0).toInt ≤ (s144.2.2.1 2 0).toInt := by have b0 : w46_2_0 = s144.2.2.1 2 0 := fr_F (fr_F (v46_2_0) hF129 rfl) hF144 rfl; first | (rw [← b0, ← e_2_0]; exact n147k) | (rw [← b0]; exact n147k)
              exact g_ireturn (gd rfl) rfl (nb01 (in_w 0 1 i144 rfl)) (hP _ _ ⟨(A 30), s144, hI144, (fr_tr rfl (fr_tr rfl hFc46 hF129) hF144), n147j, n147l, z144, rfl, (by rw [ax_id]), in_w 0 1 i144 rfl, n147, n147a, n147b, n147c, n147d, n147e, n147f, n147g, n147h⟩)
          · skip
            have i135x5 := r_eq1 3 3 c135x5 i135x1 (in_c 3 rfl) rfl
            refine g_aload_n 9 (gd rfl) rfl rfl ?_
            refine g_getI 12 (gd rfl) rfl rfl rfl (fun z135x9 e135x9 => ?_)
            refine g_iload_n 13 (gd rfl) rfl rfl ?_
            refine g_cmp_ne 16 20 (gd rfl) rfl rfl (fun c135x13 => ?_) (fun c135x13 => ?_)
            · skip
              refine g_iconst 0 21 (gd rfl) rfl rfl ?_
              refine g_ireturn (gd rfl) rfl (nb01 (in_w 0 1 (in_c 0 rfl) rfl)) (hp135 _ _ ?_)
              show GG _ _ _ _ _ _ _ _ [.int (Int32.ofInt 0)] _ _ _
              refine g_if_ne 141 148 (gd rfl) rfl rfl (fun c138 => ?_) (fun c138 => ?_)
              · skip
                exact zn_ne c138 (in_c 0 rfl) rfl
              · skip
                refine g_aload_n 142 (gd rfl) rfl rfl ?_
                refine g_iconst 2 143 (gd rfl) rfl rfl ?_
                refine g_iconst 3 144 (gd rfl) rfl rfl ?_
                refine g_callv (X := _) (As := [.int (Int32.ofInt 2), .int (Int32.ofInt 3)]) (r := []) (b := A 46) (q := 46) 147 (gd rfl) rfl rfl rfl rfl rfl (ww_o rfl) (Nat.le_of_ble_eq_true rfl) (Nat.zero_le _) (Nat.zero_le _) (f_169_46 (by first | exact dq1 hd rfl | exact dq0 hd rfl | exact dq2 hd rfl | exact dq3 hd rfl | omega) hI129 (in_w 2 2 (in_c 2 rfl) rfl) (in_w 3 3 (in_c 3 rfl) rfl) e135x1 e129a) (fun e u h => h) (fun v u h => ?_)
                obtain ⟨s144, hI144, hF144, z144, rfl, rfl, i144, p144⟩ := h
                show GG _ _ _ _ _ _ _ _ [.int z144] _ _ _
                have n147 : KL s144 := by have hL9 : Fr ([31], [], [(46, 2), (46, 3), (46, 4), (46, 5), (46, 6), (46, 7)], []) s s144 := (fr_tr rfl (fr_tr rfl g46_2 hF129) hF144); exact kl_fr q_0 hL9 rfl
                have n147a : (z144).toInt ≠ 0 → (s144.2.2.1 30 0).toInt = nln s := by first | (intro h; exact absurd rfl h) | (intro h; exfalso; revert h; first | (unfold In at i39; omega) | (unfold In at i104; omega) | (unfold In at i144; omega))
                have n147b : (z144).toInt ≠ 0 → (s.2.2.1 2 0).toInt ≤ 3999 := by first | (intro h; exact absurd rfl h) | (intro h; exfalso; revert h; first | (unfold In at i39; omega) | (unfold In at i104; omega) | (unfold In at i144; omega))
                have n147c : ∀ k : Nat, (k : Int) < 7 * (s.2.2.1 2 0).toInt → s144.1 30 k = s.1 30 k := by have hL9 : Fr ([31], [], [(46, 2), (46, 3), (46, 4), (46, 5), (46, 6), (46, 7)], []) s s144 := (fr_tr rfl (fr_tr rfl g46_2 hF129) hF144); exact fun k _ => by rw [hL9.1 30 rfl]
                have n147d : (z144).toInt ≠ 0 → ∀ a : Nat, TKN (s.1 47) (s.2.2.1 46 1).toInt.toNat a (s.2.2.1 46 4).toInt.toNat (s.2.2.1 46 2).toInt.toNat (s.2.2.1 46 3).toInt (s.2.2.1 46 5).toInt → ∃ c V, CMP (s.1 47) (s.2.2.1 46 1).toInt.toNat a (s.2.2.1 46 4).toInt.toNat c V (s144.2.2.1 46 2).toInt.toNat ∧ dkC (gvC s) c V ∧ gvC s144 = opC (gvC s) c V := by first | (intro h; exact absurd rfl h) | (intro h; exfalso; revert h; first | (unfold In at i39; omega) | (unfold In at i104; omega) | (unfold In at i144; omega))
                have n147e : (z144).toInt = 0 → ∀ a : Nat, TKN (s.1 47) (s.2.2.1 46 1).toInt.toNat a (s.2.2.1 46 4).toInt.toNat (s.2.2.1 46 2).toInt.toNat (s.2.2.1 46 3).toInt (s.2.2.1 46 5).toInt → CMX (s.1 47) (s.2.2.1 46 1).toInt.toNat a (s144.2.2.1 46 6).toInt (s144.2.2.1 46 7).toInt.toNat ∨ ∃ c V e, CMP (s.1 47) (s.2.2.1 46 1).toInt.toNat a (s144.2.2.1 46 7).toInt.toNat c V e ∧ ¬ dkC (gvC s) c V ∧ (s144.2.2.1 46 6).toInt = 4 := by intro _ a ha; obtain ⟨h1, p1, k1, v1, h2⟩ := g46_6 a ha; have hk9 := p129b; rw [show sc46.1 47 = s.1 47 from g46_2.1 47 rfl, show sc46.2.2.1 46 1 = s.2.2.1 46 1 from g46_2.2.2.1 46 1 rfl, ← v46_46_2] at hk9; have h5 : y46_5.toInt.toNat = cmA y46_3.toInt := (by have h9 := shq_n g46_3; have h8 := p50; rw [h9] at h8; have h7 := (shq_5 g46_3).1; have h6 := g46_5; exact (have a0 := in_u ro_46_1; have a1 := in_u ((inv_F hIc46 448 28000 rfl v46_30_0)); have a2 := in_u ((inv_F hIc46 0 32 rfl v46_2_1)); have a3 := in_u ((inv_F hIc46 0 4000 rfl v46_2_0)); have a4 := in_u ((inv_F hIc46 0 1000 rfl v46_46_2)); have a5 := in_u i63; have a6 := in_u j46_4; have a7 := in_u j46_3; have a8 := in_u j46_2; have a9 := in_u i135x5; have a10 := in_u i129b; have a11 := in_u i129a; have oc := oc_136_1_46; by omega)); refine Or.inl (Or.inr ⟨_, _, _, shq_i g46_3, by have h9 := ha; rw [g46_4.1, g46_4.2.1] at h9; exact h9, cmA y46_3.toInt, Nat.le_refl _, fun j hj => by obtain ⟨q, f, h9⟩ := h1 j (by omega); exact ⟨q, f, _, h9⟩, (s129.2.2.1 46 2).toInt.toNat, (s129.2.2.1 46 3).toInt, (s129.2.2.1 46 5).toInt, ?_, ?_, p144.1⟩); (rw [p144.2, ← h5]; exact ⟨p1, w46_46_2.toInt.toNat, k1, v1, h2, hk9⟩); (intro h9; unfold cmK at h9; rw [if_pos rfl] at h9; have h8 := tkn_v3 hk9 h9; first | (rw [← e135x1] at h9; exact (have a0 := in_u ro_46_1; have a1 := in_u ((inv_F hIc46 448 28000 rfl v46_30_0)); have a2 := in_u ((inv_F hIc46 0 32 rfl v46_2_1)); have a3 := in_u ((inv_F hIc46 0 4000 rfl v46_2_0)); have a4 := in_u ((inv_F hIc46 0 1000 rfl v46_46_2)); have a5 := in_u i63; have a6 := in_u j46_4; have a7 := in_u j46_3; have a8 := in_u j46_2; have a9 := in_u i135x5; have a10 := in_u i129b; have a11 := in_u i129a; have oc := oc_136_1_46; by omega)) | (rw [← e135x9] at h8; exact (have a0 := in_u ro_46_1; have a1 := in_u ((inv_F hIc46 448 28000 rfl v46_30_0)); have a2 := in_u ((inv_F hIc46 0 32 rfl v46_2_1)); have a3 := in_u ((inv_F hIc46 0 4000 rfl v46_2_0)); have a4 := in_u ((inv_F hIc46 0 1000 rfl v46_46_2)); have a5 := in_u i63; have a6 := in_u j46_4; have a7 := in_u j46_3; have a8 := in_u j46_2; have a9 := in_u i135x5; have a10 := in_u i129b; have a11 := in_u i129a; have oc := oc_136_1_46; by omega)))
                have n147f : (z144).toInt ≠ 0 → TQ s144 := by first | (intro h; exact absurd rfl h) | (intro h; exfalso; revert h; first | (unfold In at i39; omega) | (unfold In at i104; omega) | (unfold In at i144; omega))
                have n147g : (z144).toInt ≠ 0 → s144.2.2.1 46 6 = s.2.2.1 46 6 ∧ s144.2.2.1 46 7 = s.2.2.1 46 7 := by first | (intro h; exact absurd rfl h) | (intro h; exfalso; revert h; first | (unfold In at i39; omega) | (unfold In at i104; omega) | (unfold In at i144; omega))
                have n147h : (z144).toInt = 0 → 0 ≤ (s144.2.2.1 46 7).toInt := by intro _; rw [p144.2, ← e129a]; exact (have a0 := in_u ro_46_1; have a1 := in_u ((inv_F hIc46 448 28000 rfl v46_30_0)); have a2 := in_u ((inv_F hIc46 0 32 rfl v46_2_1)); have a3 := in_u ((inv_F hIc46 0 4000 rfl v46_2_0)); have a4 := in_u ((inv_F hIc46 0 1000 rfl v46_46_2)); have a5 := in_u i63; have a6 := in_u j46_4; have a7 := in_u j46_3; have a8 := in_u j46_2; have a9 := in_u i135x5; have a10 := in_u i129b; have a11 := in_u i129a; have oc := oc_136_1_46; by omega)
                have n147i : (z129a).toInt ≤ (u_46_1).toInt := by exact (have a0 := in_u ro_46_1; have a1 := in_u ((inv_F hIc46 448 28000 rfl v46_30_0)); have a2 := in_u ((inv_F hIc46 0 32 rfl v46_2_1)); have a3 := in_u ((inv_F hIc46 0 4000 rfl v46_2_0)); have a4 := in_u ((inv_F hIc46 0 1000 rfl v46_46_2)); have a5 := in_u i63; have a6 := in_u j46_4; have a7 := in_u j46_3; have a8 := in_u j46_2; have a9 := in_u i135x5; have a10 := in_u i129b; have a11 := in_u i129a; have oc := oc_136_1_46; by omega)
                have n147j : (s144.2.2.1 46 2).toInt ≤ (s144.2.2.1 46 1).toInt := by have b0 : z129a = s144.2.2.1 46 2 := fr_F (e129) hF144 rfl; have b1 : u_46_1 = s144.2.2.1 46 1 := fr_F (fr_F (fr_F e_46_1 hFc46 rfl) hF129 rfl) hF144 rfl; rw [← b0, ← b1]; exact n147i
                have n147k : (u_2_0).toInt ≤ (w46_2_0).toInt := by first | exact n46_1 | (exact (have a0 := in_u ro_46_1; have a1 := in_u ((inv_F hIc46 448 28000 rfl v46_30_0)); have a2 := in_u ((inv_F hIc46 0 32 rfl v46_2_1)); have a3 := in_u ((inv_F hIc46 0 4000 rfl v46_2_0)); have a4 := in_u ((inv_F hIc46 0 1000 rfl v46_46_2)); have a5 := in_u i63; have a6 := in_u j46_4; have a7 := in_u j46_3; have a8 := in_u j46_2; have a9 := in_u i135x5; have a10 := in_u i129b; have a11 := in_u i129a; have oc := oc_136_1_46; by omega))
                have n147l : (s.2.2.1 2 0).toInt ≤ (s144.2.2.1 2 0).toInt := by have b0 : w46_2_0 = s144.2.2.1 2 0 := fr_F (fr_F (v46_2_0) hF129 rfl) hF144 rfl; first | (rw [← b0, ← e_2_0]; exact n147k) | (rw [← b0]; exact n147k)
                exact g_ireturn (gd rfl) rfl (nb01 (in_w 0 1 i144 rfl)) (hP _ _ ⟨(A 30), s144, hI144, (fr_tr rfl (fr_tr rfl hFc46 hF129) hF144), n147j, n147l, z144, rfl, (by rw [ax_id]), in_w 0 1 i144 rfl, n147, n147a, n147b, n147c, n147d, n147e, n147f, n147g, n147h⟩)
            · skip
              have i135x13 := r_eq1 59 59 c135x13 (i_rng z135x9) (in_c 59 rfl) rfl
              refine g_iconst 1 17 (gd rfl) rfl rfl ?_
              refine g_goto 21 (gd rfl) rfl ?_
              refine g_ireturn (gd rfl) rfl (nb01 (in_w 0 1 (in_c 1 rfl) rfl)) (hp135 _ _ ?_)
              show GG _ _ _ _ _ _ _ _ [.int (Int32.ofInt 1)] _ _ _
              refine g_if_ne 141 148 (gd rfl) rfl rfl (fun c138 => ?_) (fun c138 => ?_)
              · skip
                refine g_aload_n 149 (gd rfl) rfl rfl ?_
                refine g_iload_n 150 (gd rfl) rfl rfl ?_
                have hL : Fr ([31], [], [(46, 2), (46, 3), (46, 4), (46, 5), (46, 6), (46, 7)], []) s s129 := (fr_tr rfl g46_2 hF129)
                have v150 : w46_2_0 = s129.2.2.1 2 0 := fr_F (v46_2_0) hF129 rfl
                have v150a : w46_2_1 = s129.2.2.1 2 1 := fr_F (v46_2_1) hF129 rfl
                have v150b : w46_30_0 = s129.2.2.1 30 0 := fr_F (v46_30_0) hF129 rfl
                have p150 : KL s129 := by exact kl_fr q_0 hL rfl
                have p150a : (y46_3).toInt = 13 → In (s129.1 31 0) 0 25 := by intro h13; rw [hF129.1 31 rfl]; exact g46_1 (g46_0 h13) (by have hz1 := zn_1 (g46_0 h13); have h9 := p50; exact (have a0 := in_u ro_46_1; have a1 := in_u ((inv_F hIc46 448 28000 rfl v46_30_0)); have a2 := in_u ((inv_F hIc46 0 32 rfl v46_2_1)); have a3 := in_u ((inv_F hIc46 0 4000 rfl v46_2_0)); have a4 := in_u ((inv_F hIc46 0 1000 rfl v46_46_2)); have a5 := in_u i63; have a6 := in_u j46_4; have a7 := in_u j46_3; have a8 := in_u j46_2; have a9 := in_u i135x13; have a10 := in_u i135x5; have a11 := in_u i129b; have a12 := in_u i129a; have oc := oc_136_1_46; by omega))
                have p150b : cmI (y46_3).toInt := by exact shq_i g46_3
                have p150c : TQ s129 := by exact tq_fr q_3 hL rfl
                have p150d : (y46_3).toInt = 0 → In (s129.1 31 4) 0 25 := by intro h0; obtain ⟨a, ha⟩ := q_2; obtain ⟨q, f, h5⟩ := (g46_6 a ha).1 4 (by have h9 := shq_n g46_3; have h8 := p50; rw [h9, h0] at h8; have h7 : (cmA 0 : Int) = 5 := rfl; exact (have a0 := in_u ro_46_1; have a1 := in_u ((inv_F hIc46 448 28000 rfl v46_30_0)); have a2 := in_u ((inv_F hIc46 0 32 rfl v46_2_1)); have a3 := in_u ((inv_F hIc46 0 4000 rfl v46_2_0)); have a4 := in_u ((inv_F hIc46 0 1000 rfl v46_46_2)); have a5 := in_u i63; have a6 := in_u j46_4; have a7 := in_u j46_3; have a8 := in_u j46_2; have a9 := in_u i135x13; have a10 := in_u i135x5; have a11 := in_u i129b; have a12 := in_u i129a; have oc := oc_136_1_46; by omega)); rw [hF129.1 31 rfl]; rw [h0] at h5; obtain ⟨p8, e8, k8, v8, -, h6⟩ := h5; exact tkn_v1 h6 rfl
                refine g_callv (X := _) (As := [.int y46_3]) (r := []) (b := A 1) (q := 1) 153 (gd rfl) rfl rfl rfl rfl rfl (ww_o rfl) (Nat.le_of_ble_eq_true rfl) (Nat.le_of_eq (lc_cg ((show Fr ([31], [], [(46, 2), (46, 3), (46, 4), (46, 5), (46, 6), (46, 7)], []) s s129 from (fr_tr rfl g46_2 hF129)).2.2.1 30 0 rfl) ((show Fr ([31], [], [(46, 2), (46, 3), (46, 4), (46, 5), (46, 6), (46, 7)], []) s s129 from (fr_tr rfl g46_2 hF129)).2.2.1 2 0 rfl)).1) (Nat.le_of_eq (lc_cg ((show Fr ([31], [], [(46, 2), (46, 3), (46, 4), (46, 5), (46, 6), (46, 7)], []) s s129 from (fr_tr rfl g46_2 hF129)).2.2.1 30 0 rfl) ((show Fr ([31], [], [(46, 2), (46, 3), (46, 4), (46, 5), (46, 6), (46, 7)], []) s s129 from (fr_tr rfl g46_2 hF129)).2.2.1 2 0 rfl)).2.1) (f_138_1 (by first | exact dq1 hd rfl | exact dq0 hd rfl | exact dq2 hd rfl | exact dq3 hd rfl | omega) hI129 (in_w (-1) 25 j46_3 rfl) v150 v150a v150b rfl p150 p150a p150b p150c p150d) (fun e u h => h) (fun v u h => ?_)
                obtain ⟨a150, s150, hI150, hF150, n150, z150, rfl, rfl, i150, p150e, p150f, p150g, p150h, p150i, p150j⟩ := h
                obtain ⟨z150a, e150⟩ : ∃ w, w = s150.2.2.1 2 0 := ⟨_, rfl⟩
                have i150a := inv_F hI150 0 4000 rfl e150
                rw [← (show w46_2_0 = s129.2.2.1 2 0 from fr_F (v46_2_0) hF129 rfl)] at n150
                rw [← (show z150a = s150.2.2.1 2 0 from e150)] at n150
                show GG _ _ _ _ _ _ _ _ [.int z150] _ _ _
                refine g_if_ne 156 165 (gd rfl) rfl rfl (fun c153 => ?_) (fun c153 => ?_)
                · skip
                  have i153 := z_ne 1 1 c153 i150 rfl
                  refine g_iconst 1 166 (gd rfl) rfl rfl ?_
                  refine g_goto 170 (gd rfl) rfl ?_
                  have n170 : KL s150 := by exact p150e
                  have n170a : ((Int32.ofInt 1)).toInt ≠ 0 → (s150.2.2.1 30 0).toInt = nln s := by first | (intro h; exact absurd rfl h) | (intro _; rw [← (lc_cg (s := s) (hL.2.2.1 30 0 rfl) (hL.2.2.1 2 0 rfl)).2.2]; exact p150f c153)
                  have n170b : ((Int32.ofInt 1)).toInt ≠ 0 → (s.2.2.1 2 0).toInt ≤ 3999 := by first | (intro h; exact absurd rfl h) | (intro _; rw [← hL.2.2.1 2 0 rfl]; exact p150g c153)
                  have n170c : ∀ k : Nat, (k : Int) < 7 * (s.2.2.1 2 0).toInt → s150.1 30 k = s.1 30 k := by exact fun k hk => by rw [p150h k (by rw [hL.2.2.1 2 0 rfl]; exact hk), hL.1 30 rfl]
                  have n170d : ((Int32.ofInt 1)).toInt ≠ 0 → ∀ a : Nat, TKN (s.1 47) (s.2.2.1 46 1).toInt.toNat a (s.2.2.1 46 4).toInt.toNat (s.2.2.1 46 2).toInt.toNat (s.2.2.1 46 3).toInt (s.2.2.1 46 5).toInt → ∃ c V, CMP (s.1 47) (s.2.2.1 46 1).toInt.toNat a (s.2.2.1 46 4).toInt.toNat c V (s150.2.2.1 46 2).toInt.toNat ∧ dkC (gvC s) c V ∧ gvC s150 = opC (gvC s) c V := by first | (intro h; exact absurd rfl h) | (intro _ a ha; obtain ⟨h1, p1, k1, v1, h2⟩ := g46_6 a ha; have hk9 := p129b; rw [show sc46.1 47 = s.1 47 from g46_2.1 47 rfl, show sc46.2.2.1 46 1 = s.2.2.1 46 1 from g46_2.2.2.1 46 1 rfl, ← v46_46_2] at hk9; have h5 : y46_5.toInt.toNat = cmA y46_3.toInt := (by have h9 := shq_n g46_3; have h8 := p50; rw [h9] at h8; have h7 := (shq_5 g46_3).1; have h6 := g46_5; exact (have a0 := in_u ro_46_1; have a1 := in_u ((inv_F hIc46 448 28000 rfl v46_30_0)); have a2 := in_u ((inv_F hIc46 0 32 rfl v46_2_1)); have a3 := in_u ((inv_F hIc46 0 4000 rfl v46_2_0)); have a4 := in_u ((inv_F hIc46 0 1000 rfl v46_46_2)); have a5 := in_u i63; have a6 := in_u j46_4; have a7 := in_u j46_3; have a8 := in_u j46_2; have a9 := in_u i150a; have a10 := in_u i135x13; have a11 := in_u i135x5; have a12 := in_u i129b; have a13 := in_u i129a; have oc := oc_136_1_46; by omega)); have hcm : CMP (s.1 47) (s.2.2.1 46 1).toInt.toNat a (s.2.2.1 46 4).toInt.toNat y46_3.toInt (V31 s129) (s129.2.2.1 46 2).toInt.toNat := ⟨shq_i g46_3, ⟨_, by have h9 := ha; rw [g46_4.1, g46_4.2.1] at h9; exact h9⟩, fun i hi => by show ∃ q f, TSQ _ _ _ _ q f _ (s129.1 31 i).toInt; rw [hF129.1 31 rfl]; exact h1 i (by omega), (s129.2.2.1 46 4).toInt.toNat, (s129.2.2.1 46 5).toInt, by rw [← h5]; exact ⟨p1, w46_46_2.toInt.toNat, k1, v1, h2, by have h9 := hk9; rw [show (s129.2.2.1 46 3).toInt = 3 from (by rw [← e135x1]; exact (have a0 := in_u ro_46_1; have a1 := in_u ((inv_F hIc46 448 28000 rfl v46_30_0)); have a2 := in_u ((inv_F hIc46 0 32 rfl v46_2_1)); have a3 := in_u ((inv_F hIc46 0 4000 rfl v46_2_0)); have a4 := in_u ((inv_F hIc46 0 1000 rfl v46_46_2)); have a5 := in_u i63; have a6 := in_u j46_4; have a7 := in_u j46_3; have a8 := in_u j46_2; have a9 := in_u i150a; have a10 := in_u i135x13; have a11 := in_u i135x5; have a12 := in_u i129b; have a13 := in_u i129a; have oc := oc_136_1_46; by omega))] at h9; exact h9⟩⟩; have h3 := p150i c153; rw [gvC_cg hL rfl] at h3; exact ⟨_, _, by rw [hF150.2.2.1 46 2 rfl]; exact hcm, h3.1, h3.2.1⟩)
                  have n170e : ((Int32.ofInt 1)).toInt = 0 → ∀ a : Nat, TKN (s.1 47) (s.2.2.1 46 1).toInt.toNat a (s.2.2.1 46 4).toInt.toNat (s.2.2.1 46 2).toInt.toNat (s.2.2.1 46 3).toInt (s.2.2.1 46 5).toInt → CMX (s.1 47) (s.2.2.1 46 1).toInt.toNat a (s150.2.2.1 46 6).toInt (s150.2.2.1 46 7).toInt.toNat ∨ ∃ c V e, CMP (s.1 47) (s.2.2.1 46 1).toInt.toNat a (s150.2.2.1 46 7).toInt.toNat c V e ∧ ¬ dkC (gvC s) c V ∧ (s150.2.2.1 46 6).toInt = 4 := by intro h; exact absurd h (by decide)
                  have n170f : ((Int32.ofInt 1)).toInt ≠ 0 → TQ s150 := by first | (intro h; exact absurd rfl h) | (intro _; exact (p150i c153).2.2)
                  have n170g : ((Int32.ofInt 1)).toInt ≠ 0 → s150.2.2.1 46 6 = s.2.2.1 46 6 ∧ s150.2.2.1 46 7 = s.2.2.1 46 7 := by first | (intro h; exact absurd rfl h) | (intro _; exact ⟨(hF150.2.2.1 46 6 rfl).trans ((hF129.2.2.1 46 6 rfl).trans g46_7.1), (hF150.2.2.1 46 7 rfl).trans ((hF129.2.2.1 46 7 rfl).trans g46_7.2)⟩)
                  have n170h : ((Int32.ofInt 1)).toInt = 0 → 0 ≤ (s150.2.2.1 46 7).toInt := by intro h; exact absurd h (by decide)
                  have n170i : (z129a).toInt ≤ (u_46_1).toInt := by exact (have a0 := in_u ro_46_1; have a1 := in_u ((inv_F hIc46 448 28000 rfl v46_30_0)); have a2 := in_u ((inv_F hIc46 0 32 rfl v46_2_1)); have a3 := in_u ((inv_F hIc46 0 4000 rfl v46_2_0)); have a4 := in_u ((inv_F hIc46 0 1000 rfl v46_46_2)); have a5 := in_u i63; have a6 := in_u j46_4; have a7 := in_u j46_3; have a8 := in_u j46_2; have a9 := in_u i150a; have a10 := in_u i135x13; have a11 := in_u i135x5; have a12 := in_u i129b; have a13 := in_u i129a; have oc := oc_136_1_46; by omega)
                  have n170j : (s150.2.2.1 46 2).toInt ≤ (s150.2.2.1 46 1).toInt := by have b0 : z129a = s150.2.2.1 46 2 := fr_F (e129) hF150 rfl; have b1 : u_46_1 = s150.2.2.1 46 1 := fr_F (fr_F (fr_F e_46_1 hFc46 rfl) hF129 rfl) hF150 rfl; rw [← b0, ← b1]; exact n170i
                  have n170k : (u_2_0).toInt ≤ (z150a).toInt := by exact (have a0 := in_u ro_46_1; have a1 := in_u ((inv_F hIc46 448 28000 rfl v46_30_0)); have a2 := in_u ((inv_F hIc46 0 32 rfl v46_2_1)); have a3 := in_u ((inv_F hIc46 0 4000 rfl v46_2_0)); have a4 := in_u ((inv_F hIc46 0 1000 rfl v46_46_2)); have a5 := in_u i63; have a6 := in_u j46_4; have a7 := in_u j46_3; have a8 := in_u j46_2; have a9 := in_u i150a; have a10 := in_u i135x13; have a11 := in_u i135x5; have a12 := in_u i129b; have a13 := in_u i129a; have oc := oc_136_1_46; by omega)
                  have n170l : (s.2.2.1 2 0).toInt ≤ (s150.2.2.1 2 0).toInt := by have b0 : z150a = s150.2.2.1 2 0 := e150; first | (rw [← b0, ← e_2_0]; exact n170k) | (rw [← b0]; exact n170k)
                  exact g_ireturn (gd rfl) rfl (nb01 (in_w 0 1 (in_c 1 rfl) rfl)) (hP _ _ ⟨a150, s150, hI150, (fr_tr rfl (fr_tr rfl hFc46 hF129) hF150), n170j, n170l, (Int32.ofInt 1), rfl, rfl, in_w 0 1 (in_c 1 rfl) rfl, n170, n170a, n170b, n170c, n170d, n170e, n170f, n170g, n170h⟩)
                · skip
                  have i153 := z_eq 0 0 c153 i150 rfl
                  refine g_aload_n 157 (gd rfl) rfl rfl ?_
                  refine g_iconst 4 158 (gd rfl) rfl rfl ?_
                  refine g_iload_n 159 (gd rfl) rfl rfl ?_
                  refine g_callv (X := _) (As := [.int (Int32.ofInt 4), .int y46_2]) (r := []) (b := A 46) (q := 46) 162 (gd rfl) rfl rfl rfl rfl rfl (ww_o rfl) (Nat.le_of_ble_eq_true rfl) (Nat.zero_le _) (Nat.zero_le _) (f_168_46 (A := (ax A 30 a150)) (by omega) hI150 (in_w 1 5 (in_c 4 rfl) rfl) (in_w 0 1000 j46_2 rfl)) (fun e u h => h) (fun v u h => ?_)
                  obtain ⟨s159, hI159, hF159, z159, rfl, rfl, i159, p159⟩ := h
                  show GG _ _ _ _ _ _ _ _ [.int z159] _ _ _
                  refine g_if_eq 165 169 (gd rfl) rfl rfl (fun c162 => ?_) (fun c162 => ?_)
                  · skip
                    refine g_iconst 0 170 (gd rfl) rfl rfl ?_
                    have n170 : KL s159 := by exact kl_fr p150e hF159 rfl
                    have n170a : ((Int32.ofInt 0)).toInt ≠ 0 → (s159.2.2.1 30 0).toInt = nln s := by intro h; exact absurd rfl h
                    have n170b : ((Int32.ofInt 0)).toInt ≠ 0 → (s.2.2.1 2 0).toInt ≤ 3999 := by intro h; exact absurd rfl h
                    have n170c : ∀ k : Nat, (k : Int) < 7 * (s.2.2.1 2 0).toInt → s159.1 30 k = s.1 30 k := by exact fun k hk => by rw [hF159.1 30 rfl, p150h k (by rw [hL.2.2.1 2 0 rfl]; exact hk), hL.1 30 rfl]
                    have n170d : ((Int32.ofInt 0)).toInt ≠ 0 → ∀ a : Nat, TKN (s.1 47) (s.2.2.1 46 1).toInt.toNat a (s.2.2.1 46 4).toInt.toNat (s.2.2.1 46 2).toInt.toNat (s.2.2.1 46 3).toInt (s.2.2.1 46 5).toInt → ∃ c V, CMP (s.1 47) (s.2.2.1 46 1).toInt.toNat a (s.2.2.1 46 4).toInt.toNat c V (s159.2.2.1 46 2).toInt.toNat ∧ dkC (gvC s) c V ∧ gvC s159 = opC (gvC s) c V := by first | (intro h; exact absurd rfl h) | (intro _ a ha; obtain ⟨h1, p1, k1, v1, h2⟩ := g46_6 a ha; have hk9 := p129b; rw [show sc46.1 47 = s.1 47 from g46_2.1 47 rfl, show sc46.2.2.1 46 1 = s.2.2.1 46 1 from g46_2.2.2.1 46 1 rfl, ← v46_46_2] at hk9; have h5 : y46_5.toInt.toNat = cmA y46_3.toInt := (by have h9 := shq_n g46_3; have h8 := p50; rw [h9] at h8; have h7 := (shq_5 g46_3).1; have h6 := g46_5; exact (have a0 := in_u ro_46_1; have a1 := in_u ((inv_F hIc46 448 28000 rfl v46_30_0)); have a2 := in_u ((inv_F hIc46 0 32 rfl v46_2_1)); have a3 := in_u ((inv_F hIc46 0 4000 rfl v46_2_0)); have a4 := in_u ((inv_F hIc46 0 1000 rfl v46_46_2)); have a5 := in_u i63; have a6 := in_u j46_4; have a7 := in_u j46_3; have a8 := in_u j46_2; have a9 := in_u i150a; have a10 := in_u i135x13; have a11 := in_u i135x5; have a12 := in_u i129b; have a13 := in_u i129a; have oc := oc_136_1_46; by omega)); have hcm : CMP (s.1 47) (s.2.2.1 46 1).toInt.toNat a (s.2.2.1 46 4).toInt.toNat y46_3.toInt (V31 s129) (s129.2.2.1 46 2).toInt.toNat := ⟨shq_i g46_3, ⟨_, by have h9 := ha; rw [g46_4.1, g46_4.2.1] at h9; exact h9⟩, fun i hi => by show ∃ q f, TSQ _ _ _ _ q f _ (s129.1 31 i).toInt; rw [hF129.1 31 rfl]; exact h1 i (by omega), (s129.2.2.1 46 4).toInt.toNat, (s129.2.2.1 46 5).toInt, by rw [← h5]; exact ⟨p1, w46_46_2.toInt.toNat, k1, v1, h2, by have h9 := hk9; rw [show (s129.2.2.1 46 3).toInt = 3 from (by rw [← e135x1]; exact (have a0 := in_u ro_46_1; have a1 := in_u ((inv_F hIc46 448 28000 rfl v46_30_0)); have a2 := in_u ((inv_F hIc46 0 32 rfl v46_2_1)); have a3 := in_u ((inv_F hIc46 0 4000 rfl v46_2_0)); have a4 := in_u ((inv_F hIc46 0 1000 rfl v46_46_2)); have a5 := in_u i63; have a6 := in_u j46_4; have a7 := in_u j46_3; have a8 := in_u j46_2; have a9 := in_u i150a; have a10 := in_u i135x13; have a11 := in_u i135x5; have a12 := in_u i129b; have a13 := in_u i129a; have oc := oc_136_1_46; by omega))] at h9; exact h9⟩⟩; have h3 := p150i c153; rw [gvC_cg hL rfl] at h3; exact ⟨_, _, by rw [hF150.2.2.1 46 2 rfl]; exact hcm, h3.1, h3.2.1⟩)
                    have n170e : ((Int32.ofInt 0)).toInt = 0 → ∀ a : Nat, TKN (s.1 47) (s.2.2.1 46 1).toInt.toNat a (s.2.2.1 46 4).toInt.toNat (s.2.2.1 46 2).toInt.toNat (s.2.2.1 46 3).toInt (s.2.2.1 46 5).toInt → CMX (s.1 47) (s.2.2.1 46 1).toInt.toNat a (s159.2.2.1 46 6).toInt (s159.2.2.1 46 7).toInt.toNat ∨ ∃ c V e, CMP (s.1 47) (s.2.2.1 46 1).toInt.toNat a (s159.2.2.1 46 7).toInt.toNat c V e ∧ ¬ dkC (gvC s) c V ∧ (s159.2.2.1 46 6).toInt = 4 := by first | (intro h; exact absurd h (by decide)) | (intro _ a ha; obtain ⟨h1, p1, k1, v1, h2⟩ := g46_6 a ha; have hk9 := p129b; rw [show sc46.1 47 = s.1 47 from g46_2.1 47 rfl, show sc46.2.2.1 46 1 = s.2.2.1 46 1 from g46_2.2.2.1 46 1 rfl, ← v46_46_2] at hk9; have h5 : y46_5.toInt.toNat = cmA y46_3.toInt := (by have h9 := shq_n g46_3; have h8 := p50; rw [h9] at h8; have h7 := (shq_5 g46_3).1; have h6 := g46_5; exact (have a0 := in_u ro_46_1; have a1 := in_u ((inv_F hIc46 448 28000 rfl v46_30_0)); have a2 := in_u ((inv_F hIc46 0 32 rfl v46_2_1)); have a3 := in_u ((inv_F hIc46 0 4000 rfl v46_2_0)); have a4 := in_u ((inv_F hIc46 0 1000 rfl v46_46_2)); have a5 := in_u i63; have a6 := in_u j46_4; have a7 := in_u j46_3; have a8 := in_u j46_2; have a9 := in_u i150a; have a10 := in_u i135x13; have a11 := in_u i135x5; have a12 := in_u i129b; have a13 := in_u i129a; have oc := oc_136_1_46; by omega)); have hcm : CMP (s.1 47) (s.2.2.1 46 1).toInt.toNat a (s.2.2.1 46 4).toInt.toNat y46_3.toInt (V31 s129) (s129.2.2.1 46 2).toInt.toNat := ⟨shq_i g46_3, ⟨_, by have h9 := ha; rw [g46_4.1, g46_4.2.1] at h9; exact h9⟩, fun i hi => by show ∃ q f, TSQ _ _ _ _ q f _ (s129.1 31 i).toInt; rw [hF129.1 31 rfl]; exact h1 i (by omega), (s129.2.2.1 46 4).toInt.toNat, (s129.2.2.1 46 5).toInt, by rw [← h5]; exact ⟨p1, w46_46_2.toInt.toNat, k1, v1, h2, by have h9 := hk9; rw [show (s129.2.2.1 46 3).toInt = 3 from (by rw [← e135x1]; exact (have a0 := in_u ro_46_1; have a1 := in_u ((inv_F hIc46 448 28000 rfl v46_30_0)); have a2 := in_u ((inv_F hIc46 0 32 rfl v46_2_1)); have a3 := in_u ((inv_F hIc46 0 4000 rfl v46_2_0)); have a4 := in_u ((inv_F hIc46 0 1000 rfl v46_46_2)); have a5 := in_u i63; have a6 := in_u j46_4; have a7 := in_u j46_3; have a8 := in_u j46_2; have a9 := in_u i150a; have a10 := in_u i135x13; have a11 := in_u i135x5; have a12 := in_u i129b; have a13 := in_u i129a; have oc := oc_136_1_46; by omega))] at h9; exact h9⟩⟩; have h3 := p150j (by exact (have a0 := in_u ro_46_1; have a1 := in_u ((inv_F hIc46 448 28000 rfl v46_30_0)); have a2 := in_u ((inv_F hIc46 0 32 rfl v46_2_1)); have a3 := in_u ((inv_F hIc46 0 4000 rfl v46_2_0)); have a4 := in_u ((inv_F hIc46 0 1000 rfl v46_46_2)); have a5 := in_u i63; have a6 := in_u j46_4; have a7 := in_u j46_3; have a8 := in_u j46_2; have a9 := in_u i150a; have a10 := in_u i135x13; have a11 := in_u i135x5; have a12 := in_u i129b; have a13 := in_u i129a; have oc := oc_136_1_46; by omega)); rw [gvC_cg hL rfl] at h3; refine Or.inr ⟨y46_3.toInt, V31 s129, (s129.2.2.1 46 2).toInt.toNat, ?_, h3, by rw [p159.1]; rfl⟩; rw [p159.2, g46_4.2.2]; exact hcm)
                    have n170f : ((Int32.ofInt 0)).toInt ≠ 0 → TQ s159 := by first | (intro h; exact absurd rfl h) | (intro _; exact (p150i c153).2.2)
                    have n170g : ((Int32.ofInt 0)).toInt ≠ 0 → s159.2.2.1 46 6 = s.2.2.1 46 6 ∧ s159.2.2.1 46 7 = s.2.2.1 46 7 := by first | (intro h; exact absurd rfl h) | (intro h; exfalso; revert h; first | (unfold In at i39; omega) | (unfold In at i104; omega) | (unfold In at i144; omega))
                    have n170h : ((Int32.ofInt 0)).toInt = 0 → 0 ≤ (s159.2.2.1 46 7).toInt := by first | (intro h; exact absurd h (by decide)) | (intro _; rw [p159.2]; exact (have a0 := in_u ro_46_1; have a1 := in_u ((inv_F hIc46 448 28000 rfl v46_30_0)); have a2 := in_u ((inv_F hIc46 0 32 rfl v46_2_1)); have a3 := in_u ((inv_F hIc46 0 4000 rfl v46_2_0)); have a4 := in_u ((inv_F hIc46 0 1000 rfl v46_46_2)); have a5 := in_u i63; have a6 := in_u j46_4; have a7 := in_u j46_3; have a8 := in_u j46_2; have a9 := in_u i150a; have a10 := in_u i135x13; have a11 := in_u i135x5; have a12 := in_u i129b; have a13 := in_u i129a; have oc := oc_136_1_46; by omega))
                    have n170i : (z129a).toInt ≤ (u_46_1).toInt := by exact (have a0 := in_u ro_46_1; have a1 := in_u ((inv_F hIc46 448 28000 rfl v46_30_0)); have a2 := in_u ((inv_F hIc46 0 32 rfl v46_2_1)); have a3 := in_u ((inv_F hIc46 0 4000 rfl v46_2_0)); have a4 := in_u ((inv_F hIc46 0 1000 rfl v46_46_2)); have a5 := in_u i63; have a6 := in_u j46_4; have a7 := in_u j46_3; have a8 := in_u j46_2; have a9 := in_u i150a; have a10 := in_u i135x13; have a11 := in_u i135x5; have a12 := in_u i129b; have a13 := in_u i129a; have oc := oc_136_1_46; by omega)
                    have n170j : (s159.2.2.1 46 2).toInt ≤ (s159.2.2.1 46 1).toInt := by have b0 : z129a = s159.2.2.1 46 2 := fr_F (fr_F (e129) hF150 rfl) hF159 rfl; have b1 : u_46_1 = s159.2.2.1 46 1 := fr_F (fr_F (fr_F (fr_F e_46_1 hFc46 rfl) hF129 rfl) hF150 rfl) hF159 rfl; rw [← b0, ← b1]; exact n170i
                    have n170k : (u_2_0).toInt ≤ (z150a).toInt := by exact (have a0 := in_u ro_46_1; have a1 := in_u ((inv_F hIc46 448 28000 rfl v46_30_0)); have a2 := in_u ((inv_F hIc46 0 32 rfl v46_2_1)); have a3 := in_u ((inv_F hIc46 0 4000 rfl v46_2_0)); have a4 := in_u ((inv_F hIc46 0 1000 rfl v46_46_2)); have a5 := in_u i63; have a6 := in_u j46_4; have a7 := in_u j46_3; have a8 := in_u j46_2; have a9 := in_u i150a; have a10 := in_u i135x13; have a11 := in_u i135x5; have a12 := in_u i129b; have a13 := in_u i129a; have oc := oc_136_1_46; by omega)
                    have n170l : (s.2.2.1 2 0).toInt ≤ (s159.2.2.1 2 0).toInt := by have b0 : z150a = s159.2.2.1 2 0 := fr_F (e150) hF159 rfl; first | (rw [← b0, ← e_2_0]; exact n170k) | (rw [← b0]; exact n170k)
                    exact g_ireturn (gd rfl) rfl (nb01 (in_w 0 1 (in_c 0 rfl) rfl)) (hP _ _ ⟨a150, s159, hI159, (fr_tr rfl (fr_tr rfl (fr_tr rfl hFc46 hF129) hF150) hF159), n170j, n170l, (Int32.ofInt 0), rfl, rfl, in_w 0 1 (in_c 0 rfl) rfl, n170, n170a, n170b, n170c, n170d, n170e, n170f, n170g, n170h⟩)
                  · skip
                    exact zn_ne c162 i159 rfl
              · skip
                exact zn_eq c138 (in_c 1 rfl) rfl
        · skip
          have i63 := r_lt1 0 4 c63 j46_5 (in_c 5 rfl) rfl
          refine g_aload_n 67 (gd rfl) rfl rfl ?_
          refine g_bipush 7 69 (gd rfl) rfl rfl ?_
          refine g_iconst 1 70 (gd rfl) rfl rfl ?_
          have v70 : u_46_1 = sc46.2.2.1 46 1 := fr_F e_46_1 hFc46 rfl
          have n70 : (w46_46_2).toInt ≤ (u_46_1).toInt := by first | exact n46_0 | (exact (have a0 := in_u ro_46_1; have a1 := in_u ((inv_F hIc46 448 28000 rfl v46_30_0)); have a2 := in_u ((inv_F hIc46 0 32 rfl v46_2_1)); have a3 := in_u ((inv_F hIc46 0 4000 rfl v46_2_0)); have a4 := in_u ((inv_F hIc46 0 1000 rfl v46_46_2)); have a5 := in_u i63; have a6 := in_u j46_4; have a7 := in_u j46_3; have a8 := in_u j46_2; have oc := oc_136_1_46; by omega))
          refine g_callv (X := _) (As := [.int (Int32.ofInt 7), .int (Int32.ofInt 1)]) (r := []) (b := A 46) (q := 46) 73 (gd rfl) rfl rfl rfl rfl rfl (ww_o rfl) (Nat.le_of_ble_eq_true rfl) (Nat.zero_le _) (Nat.zero_le _) (f_171_46 (by first | exact dq1 hd rfl | exact dq0 hd rfl | exact dq2 hd rfl | exact dq3 hd rfl | omega) hIc46 (in_w 7 7 (in_c 7 rfl) rfl) (in_w 1 1 (in_c 1 rfl) rfl) v46_46_2 v70 n70) (fun e u h => h) (fun v u h => ?_)
          obtain ⟨s70, hI70, hF70, n70a, n70b, n70c, rfl, rfl, p70, p70a, p70b⟩ := h
          obtain ⟨z70a, e70⟩ : ∃ w, w = s70.2.2.1 46 2 := ⟨_, rfl⟩
          have i70a := inv_F hI70 0 1000 rfl e70
          obtain ⟨z70b, e70a⟩ : ∃ w, w = s70.2.2.1 46 4 := ⟨_, rfl⟩
          have i70b := inv_F hI70 0 1000 rfl e70a
          rw [← (show z70a = s70.2.2.1 46 2 from e70)] at n70a
          rw [← (show u_46_1 = s70.2.2.1 46 1 from fr_F (fr_F e_46_1 hFc46 rfl) hF70 rfl)] at n70a
          rw [← (show z70a = s70.2.2.1 46 2 from e70)] at n70b
          rw [← (show z70b = s70.2.2.1 46 4 from e70a)] at n70b
          rw [← (show w46_46_2 = sc46.2.2.1 46 2 from v46_46_2)] at n70c
          rw [← (show z70b = s70.2.2.1 46 4 from e70a)] at n70c
          show GG _ _ _ _ _ _ _ _ [] _ _ _
          refine g_aload 75 (gd rfl) rfl rfl ?_
          refine g_iload 77 (gd rfl) rfl rfl ?_
          have i77 : In y46_4 0 6 := in_w 0 6 j46_4 rfl
          have n77 : 0 ≤ (y46_5).toInt := by have a := i63; unfold In at a; omega
          have n77a : (y46_5).toInt < (zn y46_4 : Int) := by have h9 := p50; exact (have a0 := in_u ro_46_1; have a1 := in_u ((inv_F hIc46 448 28000 rfl v46_30_0)); have a2 := in_u ((inv_F hIc46 0 32 rfl v46_2_1)); have a3 := in_u ((inv_F hIc46 0 4000 rfl v46_2_0)); have a4 := in_u ((inv_F hIc46 0 1000 rfl v46_46_2)); have a5 := in_u i63; have a6 := in_u j46_4; have a7 := in_u j46_3; have a8 := in_u j46_2; have a9 := in_u i70b; have a10 := in_u i70a; have oc := oc_136_1_46; by omega)
          refine g_callS (X := _) (As := [.int y46_5]) (r := []) (x := y46_4) 80 (gd rfl) rfl rfl rfl zm_429 rfl rfl rfl i77 (Nat.le_of_ble_eq_true rfl) (f_429 i77 n77 n77a (by omega)) (fun e u h => h) (fun v u h => ?_)
          obtain ⟨z77, rfl, rfl, i77a, p77, p77a⟩ := h
          show GG _ _ _ _ _ _ _ _ [.int z77] _ _ _
          refine g_bipush 108 82 (gd rfl) rfl rfl ?_
          refine g_cmp_ne 85 89 (gd rfl) rfl rfl (fun c82 => ?_) (fun c82 => ?_)
          · skip
            refine g_iconst 2 90 (gd rfl) rfl rfl ?_
            refine g_istore 92 (gd rfl) rfl (Nat.le_of_ble_eq_true rfl) ?_
            refine g_aload_n 93 (gd rfl) rfl rfl ?_
            refine g_getI 96 (gd rfl) rfl rfl rfl (fun z93 e93 => ?_)
            have i93 := inv_F hI70 0 5 rfl e93
            refine g_iload 98 (gd rfl) rfl rfl ?_
            refine g_cmp_eq 101 108 (gd rfl) rfl rfl (fun c98 => ?_) (fun c98 => ?_)
            · skip
              have i98 := r_eq1 2 2 c98 i93 (in_c 2 rfl) rfl
              refine g_aload_n 109 (gd rfl) rfl rfl ?_
              refine g_getA (q2 := 31) 112 (gd rfl) rfl rfl rfl rfl ?_
              refine g_iload 114 (gd rfl) rfl rfl ?_
              refine g_aload_n 115 (gd rfl) rfl rfl ?_
              refine g_getI 118 (gd rfl) rfl rfl rfl (fun z115 e115 => ?_)
              refine g_iastore 119 (gd rfl) rfl (n := 5) rfl (in_ix i63 rfl) ?_
              have hI118 := inv_sI (q := 31) (j := y46_5.toNatClampNeg) hI70 rfl (in_w (-2147483648) 2147483647 (i_rng z115) rfl)
              refine g_iinc 122 (gd rfl) rfl rfl (Nat.le_of_ble_eq_true rfl) (fun z119 e119 => ?_)
              have i119 := in_add 1 5 e119 i63 (in_c 1 rfl) rfl rfl
              refine g_goto 46 (gd rfl) rfl ?_
              have v46 : z70a = (sI s70 31 y46_5.toNatClampNeg z115).2.2.1 46 2 := sI_F (e70)
              have v46a : w46_2_0 = (sI s70 31 y46_5.toNatClampNeg z115).2.2.1 2 0 := sI_F (fr_F (v46_2_0) hF70 rfl)
              have v46b : w46_2_1 = (sI s70 31 y46_5.toNatClampNeg z115).2.2.1 2 1 := sI_F (fr_F (v46_2_1) hF70 rfl)
              have v46c : w46_30_0 = (sI s70 31 y46_5.toNatClampNeg z115).2.2.1 30 0 := sI_F (fr_F (v46_30_0) hF70 rfl)
              have n46 : (z70a).toInt ≤ (u_46_1).toInt := by exact (have a0 := in_u ro_46_1; have a1 := in_u ((inv_F hIc46 448 28000 rfl v46_30_0)); have a2 := in_u ((inv_F hIc46 0 32 rfl v46_2_1)); have a3 := in_u ((inv_F hIc46 0 4000 rfl v46_2_0)); have a4 := in_u ((inv_F hIc46 0 1000 rfl v46_46_2)); have a5 := in_u i63; have a6 := in_u j46_4; have a7 := in_u j46_3; have a8 := in_u j46_2; have a9 := in_u ((in_c 2 rfl)); have a10 := in_u i119; have a11 := t_add e119 i63 (in_c 1 rfl) rfl; have a12 := in_u ((in_c 1 rfl)); have a13 := in_u i98; have a14 := in_u i70b; have a15 := in_u i70a; have oc := oc_136_1_46; by omega)
              have n46a : (u_2_0).toInt ≤ (w46_2_0).toInt := by first | exact n46_1 | (exact (have a0 := in_u ro_46_1; have a1 := in_u ((inv_F hIc46 448 28000 rfl v46_30_0)); have a2 := in_u ((inv_F hIc46 0 32 rfl v46_2_1)); have a3 := in_u ((inv_F hIc46 0 4000 rfl v46_2_0)); have a4 := in_u ((inv_F hIc46 0 1000 rfl v46_46_2)); have a5 := in_u i63; have a6 := in_u j46_4; have a7 := in_u j46_3; have a8 := in_u j46_2; have a9 := in_u ((in_c 2 rfl)); have a10 := in_u i119; have a11 := t_add e119 i63 (in_c 1 rfl) rfl; have a12 := in_u ((in_c 1 rfl)); have a13 := in_u i98; have a14 := in_u i70b; have a15 := in_u i70a; have oc := oc_136_1_46; by omega))
              have n46b : (y46_3).toInt = 13 → (y46_4).toInt = 1 := by exact g46_0
              have n46c : (y46_4).toInt = 1 → 1 ≤ (z119).toInt → In ((sI s70 31 y46_5.toNatClampNeg z115).1 31 0) 0 25 := by intro h4 _; first | (exfalso; have h9 := p77 h4; have c8 : (Int32.ofInt 108).toInt = 108 := (by decide); omega) | (have hz1 := zn_1 h4; have hi0 : y46_5.toInt = 0 := (by have h9 := p50; exact (have a0 := in_u ro_46_1; have a1 := in_u ((inv_F hIc46 448 28000 rfl v46_30_0)); have a2 := in_u ((inv_F hIc46 0 32 rfl v46_2_1)); have a3 := in_u ((inv_F hIc46 0 4000 rfl v46_2_0)); have a4 := in_u ((inv_F hIc46 0 1000 rfl v46_46_2)); have a5 := in_u i63; have a6 := in_u j46_4; have a7 := in_u j46_3; have a8 := in_u j46_2; have a9 := in_u ((in_c 2 rfl)); have a10 := in_u i119; have a11 := t_add e119 i63 (in_c 1 rfl) rfl; have a12 := in_u ((in_c 1 rfl)); have a13 := in_u i98; have a14 := in_u i70b; have a15 := in_u i70a; have oc := oc_136_1_46; by omega)); rw [sI_q, show y46_5.toNatClampNeg = 0 from (by show y46_5.toInt.toNat = 0; omega), ug_at, e115]; exact p70a (by rw [← e93]; exact c98.trans (by decide)))
              have n46d : Fr ([31], [], [(46, 2), (46, 3), (46, 4), (46, 5), (46, 6), (46, 7)], []) s (sI s70 31 y46_5.toNatClampNeg z115) := by exact fr_sI rfl (fr_tr rfl g46_2 hF70)
              have n46e : SHQ (y46_3).toInt (y46_4).toInt := by exact g46_3
              have n46f : (s.2.2.1 46 3).toInt = 1 ∧ (s.2.2.1 46 5).toInt = (y46_3).toInt ∧ (y46_2) = s.2.2.1 46 4 := by exact g46_4
              have n46g : (z119).toInt ≤ (cmA (y46_3).toInt : Int) := by have h9 := shq_n g46_3; have h8 := p50; rw [h9] at h8; exact (have a0 := in_u ro_46_1; have a1 := in_u ((inv_F hIc46 448 28000 rfl v46_30_0)); have a2 := in_u ((inv_F hIc46 0 32 rfl v46_2_1)); have a3 := in_u ((inv_F hIc46 0 4000 rfl v46_2_0)); have a4 := in_u ((inv_F hIc46 0 1000 rfl v46_46_2)); have a5 := in_u i63; have a6 := in_u j46_4; have a7 := in_u j46_3; have a8 := in_u j46_2; have a9 := in_u ((in_c 2 rfl)); have a10 := in_u i119; have a11 := t_add e119 i63 (in_c 1 rfl) rfl; have a12 := in_u ((in_c 1 rfl)); have a13 := in_u i98; have a14 := in_u i70b; have a15 := in_u i70a; have oc := oc_136_1_46; by omega)
              have n46h : ∀ a : Nat, TKN (s.1 47) (s.2.2.1 46 1).toInt.toNat a (s.2.2.1 46 4).toInt.toNat (s.2.2.1 46 2).toInt.toNat (s.2.2.1 46 3).toInt (s.2.2.1 46 5).toInt → (∀ j, j < (z119).toInt.toNat → ∃ q f, TSQ (s.1 47) (s.2.2.1 46 1).toInt.toNat a (j + 1) q f (cmK (y46_3).toInt (j + 1)) ((sI s70 31 y46_5.toNatClampNeg z115).1 31 j).toInt) ∧ ∃ p k v, TSQ (s.1 47) (s.2.2.1 46 1).toInt.toNat a (z119).toInt.toNat p (z70a).toInt.toNat k v := by intro a ha; obtain ⟨h1, p1, k1, v1, h2⟩ := g46_6 a ha; have hk9 := p70b; rw [show sc46.1 47 = s.1 47 from g46_2.1 47 rfl, show sc46.2.2.1 46 1 = s.2.2.1 46 1 from g46_2.2.2.1 46 1 rfl, ← v46_46_2] at hk9; have hq9 := shq_k g46_3 (j := y46_5.toNatClampNeg) (by have h9 := shq_n g46_3; have h8 := p50; rw [h9] at h8; show y46_5.toInt.toNat < _; exact (have a0 := in_u ro_46_1; have a1 := in_u ((inv_F hIc46 448 28000 rfl v46_30_0)); have a2 := in_u ((inv_F hIc46 0 32 rfl v46_2_1)); have a3 := in_u ((inv_F hIc46 0 4000 rfl v46_2_0)); have a4 := in_u ((inv_F hIc46 0 1000 rfl v46_46_2)); have a5 := in_u i63; have a6 := in_u j46_4; have a7 := in_u j46_3; have a8 := in_u j46_2; have a9 := in_u ((in_c 2 rfl)); have a10 := in_u i119; have a11 := t_add e119 i63 (in_c 1 rfl) rfl; have a12 := in_u ((in_c 1 rfl)); have a13 := in_u i98; have a14 := in_u i70b; have a15 := in_u i70a; have oc := oc_136_1_46; by omega)); rw [← p77a] at hq9; have hn9 : TSQ (s.1 47) (s.2.2.1 46 1).toInt.toNat a (y46_5.toInt.toNat + 1) (s70.2.2.1 46 4).toInt.toNat (s70.2.2.1 46 2).toInt.toNat (s70.2.2.1 46 3).toInt (s70.2.2.1 46 5).toInt := ⟨p1, w46_46_2.toInt.toNat, k1, v1, h2, hk9⟩; rw [show z119.toInt.toNat = y46_5.toInt.toNat + 1 from (by exact (have a0 := in_u ro_46_1; have a1 := in_u ((inv_F hIc46 448 28000 rfl v46_30_0)); have a2 := in_u ((inv_F hIc46 0 32 rfl v46_2_1)); have a3 := in_u ((inv_F hIc46 0 4000 rfl v46_2_0)); have a4 := in_u ((inv_F hIc46 0 1000 rfl v46_46_2)); have a5 := in_u i63; have a6 := in_u j46_4; have a7 := in_u j46_3; have a8 := in_u j46_2; have a9 := in_u ((in_c 2 rfl)); have a10 := in_u i119; have a11 := t_add e119 i63 (in_c 1 rfl) rfl; have a12 := in_u ((in_c 1 rfl)); have a13 := in_u i98; have a14 := in_u i70b; have a15 := in_u i70a; have oc := oc_136_1_46; by omega))]; refine ⟨fun j hj => ?_, _, _, _, by rw [← (show z70a = (sI s70 31 y46_5.toNatClampNeg z115).2.2.1 46 2 from sI_F (e70)), ← e70] at *; exact hn9⟩; rw [sI_q]; by_cases hc : j = y46_5.toNatClampNeg; (rw [hc, ug_at, show y46_5.toNatClampNeg = y46_5.toInt.toNat from rfl, show cmK y46_3.toInt (y46_5.toInt.toNat + 1) = (s70.2.2.1 46 3).toInt from (by rw [← e93]; first | (rw [show cmK y46_3.toInt (y46_5.toInt.toNat + 1) = 1 from hq9.1 (by exact (have a0 := in_u ro_46_1; have a1 := in_u ((inv_F hIc46 448 28000 rfl v46_30_0)); have a2 := in_u ((inv_F hIc46 0 32 rfl v46_2_1)); have a3 := in_u ((inv_F hIc46 0 4000 rfl v46_2_0)); have a4 := in_u ((inv_F hIc46 0 1000 rfl v46_46_2)); have a5 := in_u i63; have a6 := in_u j46_4; have a7 := in_u j46_3; have a8 := in_u j46_2; have a9 := in_u ((in_c 2 rfl)); have a10 := in_u i119; have a11 := t_add e119 i63 (in_c 1 rfl) rfl; have a12 := in_u ((in_c 1 rfl)); have a13 := in_u i98; have a14 := in_u i70b; have a15 := in_u i70a; have oc := oc_136_1_46; by omega))]; exact (have a0 := in_u ro_46_1; have a1 := in_u ((inv_F hIc46 448 28000 rfl v46_30_0)); have a2 := in_u ((inv_F hIc46 0 32 rfl v46_2_1)); have a3 := in_u ((inv_F hIc46 0 4000 rfl v46_2_0)); have a4 := in_u ((inv_F hIc46 0 1000 rfl v46_46_2)); have a5 := in_u i63; have a6 := in_u j46_4; have a7 := in_u j46_3; have a8 := in_u j46_2; have a9 := in_u ((in_c 2 rfl)); have a10 := in_u i119; have a11 := t_add e119 i63 (in_c 1 rfl) rfl; have a12 := in_u ((in_c 1 rfl)); have a13 := in_u i98; have a14 := in_u i70b; have a15 := in_u i70a; have oc := oc_136_1_46; by omega)) | (rw [show cmK y46_3.toInt (y46_5.toInt.toNat + 1) = 2 from hq9.2 (by exact (have a0 := in_u ro_46_1; have a1 := in_u ((inv_F hIc46 448 28000 rfl v46_30_0)); have a2 := in_u ((inv_F hIc46 0 32 rfl v46_2_1)); have a3 := in_u ((inv_F hIc46 0 4000 rfl v46_2_0)); have a4 := in_u ((inv_F hIc46 0 1000 rfl v46_46_2)); have a5 := in_u i63; have a6 := in_u j46_4; have a7 := in_u j46_3; have a8 := in_u j46_2; have a9 := in_u ((in_c 2 rfl)); have a10 := in_u i119; have a11 := t_add e119 i63 (in_c 1 rfl) rfl; have a12 := in_u ((in_c 1 rfl)); have a13 := in_u i98; have a14 := in_u i70b; have a15 := in_u i70a; have oc := oc_136_1_46; by omega))]; exact (have a0 := in_u ro_46_1; have a1 := in_u ((inv_F hIc46 448 28000 rfl v46_30_0)); have a2 := in_u ((inv_F hIc46 0 32 rfl v46_2_1)); have a3 := in_u ((inv_F hIc46 0 4000 rfl v46_2_0)); have a4 := in_u ((inv_F hIc46 0 1000 rfl v46_46_2)); have a5 := in_u i63; have a6 := in_u j46_4; have a7 := in_u j46_3; have a8 := in_u j46_2; have a9 := in_u ((in_c 2 rfl)); have a10 := in_u i119; have a11 := t_add e119 i63 (in_c 1 rfl) rfl; have a12 := in_u ((in_c 1 rfl)); have a13 := in_u i98; have a14 := in_u i70b; have a15 := in_u i70a; have oc := oc_136_1_46; by omega))), e115]; exact ⟨_, _, hn9⟩); (rw [ug_ne hc, hF70.1 31 rfl]; exact h1 j (by have h9 : y46_5.toNatClampNeg = y46_5.toInt.toNat := rfl; omega))
              have n46i : (sI s70 31 y46_5.toNatClampNeg z115).2.2.1 46 6 = s.2.2.1 46 6 ∧ (sI s70 31 y46_5.toNatClampNeg z115).2.2.1 46 7 = s.2.2.1 46 7 := by exact ⟨(hF70.2.2.1 46 6 rfl).trans g46_7.1, (hF70.2.2.1 46 7 rfl).trans g46_7.2⟩
              exact gg_w (by first | exact Nat.le_add_right _ _ | exact gw2 | exact gw3 | exact gwe rfl | exact gwf rfl | exact gwg rfl | exact gwh rfl | omega) (gg_f (gf_cons rfl (gf_cons rfl (gf_cons rfl (gf_cons rfl (gf_cons rfl (gf_cons rfl gf_nil)))))) (ih46 (sI s70 31 y46_5.toNatClampNeg z115) y46_2 y46_3 y46_4 z119 z70a w46_2_0 w46_2_1 w46_30_0 hI118 (fr_sI rfl (fr_tr rfl hFc46 hF70)) (in_w 0 1000 j46_2 rfl) (in_w (-1) 25 j46_3 rfl) (in_w 1 5 j46_4 rfl) (in_w 0 5 i119 rfl) v46 v46a v46b v46c n46 n46a n46b n46c n46d n46e n46f n46g n46h n46i (m_up mm46 (t_add e119 i63 (in_c 1 rfl) rfl) (in_w 1 1 (in_c 1 rfl) rfl))))
            · skip
              refine g_aload_n 102 (gd rfl) rfl rfl ?_
              refine g_iconst 2 103 (gd rfl) rfl rfl ?_
              refine g_iconst 3 104 (gd rfl) rfl rfl ?_
              refine g_callv (X := _) (As := [.int (Int32.ofInt 2), .int (Int32.ofInt 3)]) (r := []) (b := A 46) (q := 46) 107 (gd rfl) rfl rfl rfl rfl rfl (ww_o rfl) (Nat.le_of_ble_eq_true rfl) (Nat.zero_le _) (Nat.zero_le _) (f_169_46 (by first | exact dq1 hd rfl | exact dq0 hd rfl | exact dq2 hd rfl | exact dq3 hd rfl | omega) hI70 (in_w 2 2 (in_c 2 rfl) rfl) (in_w 3 3 (in_c 3 rfl) rfl) e93 e70a) (fun e u h => h) (fun v u h => ?_)
              obtain ⟨s104, hI104, hF104, z104, rfl, rfl, i104, p104⟩ := h
              show GG _ _ _ _ _ _ _ _ [.int z104] _ _ _
              have n107 : KL s104 := by have hL9 : Fr ([31], [], [(46, 2), (46, 3), (46, 4), (46, 5), (46, 6), (46, 7)], []) s s104 := (fr_tr rfl (fr_tr rfl g46_2 hF70) hF104); exact kl_fr q_0 hL9 rfl
              have n107a : (z104).toInt ≠ 0 → (s104.2.2.1 30 0).toInt = nln s := by first | (intro h; exact absurd rfl h) | (intro h; exfalso; revert h; first | (unfold In at i39; omega) | (unfold In at i104; omega) | (unfold In at i144; omega))
              have n107b : (z104).toInt ≠ 0 → (s.2.2.1 2 0).toInt ≤ 3999 := by first | (intro h; exact absurd rfl h) | (intro h; exfalso; revert h; first | (unfold In at i39; omega) | (unfold In at i104; omega) | (unfold In at i144; omega))
              have n107c : ∀ k : Nat, (k : Int) < 7 * (s.2.2.1 2 0).toInt → s104.1 30 k = s.1 30 k := by have hL9 : Fr ([31], [], [(46, 2), (46, 3), (46, 4), (46, 5), (46, 6), (46, 7)], []) s s104 := (fr_tr rfl (fr_tr rfl g46_2 hF70) hF104); exact fun k _ => by rw [hL9.1 30 rfl]
              have n107d : (z104).toInt ≠ 0 → ∀ a : Nat, TKN (s.1 47) (s.2.2.1 46 1).toInt.toNat a (s.2.2.1 46 4).toInt.toNat (s.2.2.1 46 2).toInt.toNat (s.2.2.1 46 3).toInt (s.2.2.1 46 5).toInt → ∃ c V, CMP (s.1 47) (s.2.2.1 46 1).toInt.toNat a (s.2.2.1 46 4).toInt.toNat c V (s104.2.2.1 46 2).toInt.toNat ∧ dkC (gvC s) c V ∧ gvC s104 = opC (gvC s) c V := by first | (intro h; exact absurd rfl h) | (intro h; exfalso; revert h; first | (unfold In at i39; omega) | (unfold In at i104; omega) | (unfold In at i144; omega))
              have n107e : (z104).toInt = 0 → ∀ a : Nat, TKN (s.1 47) (s.2.2.1 46 1).toInt.toNat a (s.2.2.1 46 4).toInt.toNat (s.2.2.1 46 2).toInt.toNat (s.2.2.1 46 3).toInt (s.2.2.1 46 5).toInt → CMX (s.1 47) (s.2.2.1 46 1).toInt.toNat a (s104.2.2.1 46 6).toInt (s104.2.2.1 46 7).toInt.toNat ∨ ∃ c V e, CMP (s.1 47) (s.2.2.1 46 1).toInt.toNat a (s104.2.2.1 46 7).toInt.toNat c V e ∧ ¬ dkC (gvC s) c V ∧ (s104.2.2.1 46 6).toInt = 4 := by intro _ a ha; obtain ⟨h1, p1, k1, v1, h2⟩ := g46_6 a ha; have hk9 := p70b; rw [show sc46.1 47 = s.1 47 from g46_2.1 47 rfl, show sc46.2.2.1 46 1 = s.2.2.1 46 1 from g46_2.2.2.1 46 1 rfl, ← v46_46_2] at hk9; have hq9 := shq_k g46_3 (j := y46_5.toNatClampNeg) (by have h9 := shq_n g46_3; have h8 := p50; rw [h9] at h8; show y46_5.toInt.toNat < _; exact (have a0 := in_u ro_46_1; have a1 := in_u ((inv_F hIc46 448 28000 rfl v46_30_0)); have a2 := in_u ((inv_F hIc46 0 32 rfl v46_2_1)); have a3 := in_u ((inv_F hIc46 0 4000 rfl v46_2_0)); have a4 := in_u ((inv_F hIc46 0 1000 rfl v46_46_2)); have a5 := in_u i63; have a6 := in_u j46_4; have a7 := in_u j46_3; have a8 := in_u j46_2; have a9 := in_u ((in_c 2 rfl)); have a10 := in_u i93; have a11 := in_u i70b; have a12 := in_u i70a; have oc := oc_136_1_46; by omega)); rw [← p77a] at hq9; refine Or.inl (Or.inr ⟨_, _, _, shq_i g46_3, by have h9 := ha; rw [g46_4.1, g46_4.2.1] at h9; exact h9, y46_5.toInt.toNat, by have h9 := g46_5; omega, fun j hj => by obtain ⟨q, f, h9⟩ := h1 j hj; exact ⟨q, f, _, h9⟩, (s70.2.2.1 46 2).toInt.toNat, (s70.2.2.1 46 3).toInt, (s70.2.2.1 46 5).toInt, ?_, ?_, p104.1⟩); (rw [p104.2]; exact ⟨p1, w46_46_2.toInt.toNat, k1, v1, h2, hk9⟩); (rw [← e93]; first | (rw [show cmK y46_3.toInt (y46_5.toInt.toNat + 1) = 1 from hq9.1 (by exact (have a0 := in_u ro_46_1; have a1 := in_u ((inv_F hIc46 448 28000 rfl v46_30_0)); have a2 := in_u ((inv_F hIc46 0 32 rfl v46_2_1)); have a3 := in_u ((inv_F hIc46 0 4000 rfl v46_2_0)); have a4 := in_u ((inv_F hIc46 0 1000 rfl v46_46_2)); have a5 := in_u i63; have a6 := in_u j46_4; have a7 := in_u j46_3; have a8 := in_u j46_2; have a9 := in_u ((in_c 2 rfl)); have a10 := in_u i93; have a11 := in_u i70b; have a12 := in_u i70a; have oc := oc_136_1_46; by omega))]; exact (have a0 := in_u ro_46_1; have a1 := in_u ((inv_F hIc46 448 28000 rfl v46_30_0)); have a2 := in_u ((inv_F hIc46 0 32 rfl v46_2_1)); have a3 := in_u ((inv_F hIc46 0 4000 rfl v46_2_0)); have a4 := in_u ((inv_F hIc46 0 1000 rfl v46_46_2)); have a5 := in_u i63; have a6 := in_u j46_4; have a7 := in_u j46_3; have a8 := in_u j46_2; have a9 := in_u ((in_c 2 rfl)); have a10 := in_u i93; have a11 := in_u i70b; have a12 := in_u i70a; have oc := oc_136_1_46; by omega)) | (rw [show cmK y46_3.toInt (y46_5.toInt.toNat + 1) = 2 from hq9.2 (by exact (have a0 := in_u ro_46_1; have a1 := in_u ((inv_F hIc46 448 28000 rfl v46_30_0)); have a2 := in_u ((inv_F hIc46 0 32 rfl v46_2_1)); have a3 := in_u ((inv_F hIc46 0 4000 rfl v46_2_0)); have a4 := in_u ((inv_F hIc46 0 1000 rfl v46_46_2)); have a5 := in_u i63; have a6 := in_u j46_4; have a7 := in_u j46_3; have a8 := in_u j46_2; have a9 := in_u ((in_c 2 rfl)); have a10 := in_u i93; have a11 := in_u i70b; have a12 := in_u i70a; have oc := oc_136_1_46; by omega))]; exact (have a0 := in_u ro_46_1; have a1 := in_u ((inv_F hIc46 448 28000 rfl v46_30_0)); have a2 := in_u ((inv_F hIc46 0 32 rfl v46_2_1)); have a3 := in_u ((inv_F hIc46 0 4000 rfl v46_2_0)); have a4 := in_u ((inv_F hIc46 0 1000 rfl v46_46_2)); have a5 := in_u i63; have a6 := in_u j46_4; have a7 := in_u j46_3; have a8 := in_u j46_2; have a9 := in_u ((in_c 2 rfl)); have a10 := in_u i93; have a11 := in_u i70b; have a12 := in_u i70a; have oc := oc_136_1_46; by omega)))
              have n107f : (z104).toInt ≠ 0 → TQ s104 := by first | (intro h; exact absurd rfl h) | (intro h; exfalso; revert h; first | (unfold In at i39; omega) | (unfold In at i104; omega) | (unfold In at i144; omega))
              have n107g : (z104).toInt ≠ 0 → s104.2.2.1 46 6 = s.2.2.1 46 6 ∧ s104.2.2.1 46 7 = s.2.2.1 46 7 := by first | (intro h; exact absurd rfl h) | (intro h; exfalso; revert h; first | (unfold In at i39; omega) | (unfold In at i104; omega) | (unfold In at i144; omega))
              have n107h : (z104).toInt = 0 → 0 ≤ (s104.2.2.1 46 7).toInt := by intro _; rw [p104.2, ← e70a]; exact (have a0 := in_u ro_46_1; have a1 := in_u ((inv_F hIc46 448 28000 rfl v46_30_0)); have a2 := in_u ((inv_F hIc46 0 32 rfl v46_2_1)); have a3 := in_u ((inv_F hIc46 0 4000 rfl v46_2_0)); have a4 := in_u ((inv_F hIc46 0 1000 rfl v46_46_2)); have a5 := in_u i63; have a6 := in_u j46_4; have a7 := in_u j46_3; have a8 := in_u j46_2; have a9 := in_u ((in_c 2 rfl)); have a10 := in_u i93; have a11 := in_u i70b; have a12 := in_u i70a; have oc := oc_136_1_46; by omega)
              have n107i : (z70a).toInt ≤ (u_46_1).toInt := by exact (have a0 := in_u ro_46_1; have a1 := in_u ((inv_F hIc46 448 28000 rfl v46_30_0)); have a2 := in_u ((inv_F hIc46 0 32 rfl v46_2_1)); have a3 := in_u ((inv_F hIc46 0 4000 rfl v46_2_0)); have a4 := in_u ((inv_F hIc46 0 1000 rfl v46_46_2)); have a5 := in_u i63; have a6 := in_u j46_4; have a7 := in_u j46_3; have a8 := in_u j46_2; have a9 := in_u ((in_c 2 rfl)); have a10 := in_u i93; have a11 := in_u i70b; have a12 := in_u i70a; have oc := oc_136_1_46; by omega)
              have n107j : (s104.2.2.1 46 2).toInt ≤ (s104.2.2.1 46 1).toInt := by have b0 : z70a = s104.2.2.1 46 2 := fr_F (e70) hF104 rfl; have b1 : u_46_1 = s104.2.2.1 46 1 := fr_F (fr_F (fr_F e_46_1 hFc46 rfl) hF70 rfl) hF104 rfl; rw [← b0, ← b1]; exact n107i
              have n107k : (u_2_0).toInt ≤ (w46_2_0).toInt := by first | exact n46_1 | (exact (have a0 := in_u ro_46_1; have a1 := in_u ((inv_F hIc46 448 28000 rfl v46_30_0)); have a2 := in_u ((inv_F hIc46 0 32 rfl v46_2_1)); have a3 := in_u ((inv_F hIc46 0 4000 rfl v46_2_0)); have a4 := in_u ((inv_F hIc46 0 1000 rfl v46_46_2)); have a5 := in_u i63; have a6 := in_u j46_4; have a7 := in_u j46_3; have a8 := in_u j46_2; have a9 := in_u ((in_c 2 rfl)); have a10 := in_u i93; have a11 := in_u i70b; have a12 := in_u i70a; have oc := oc_136_1_46; by omega))
              have n107l : (s.2.2.1 2 0).toInt ≤ (s104.2.2.1 2 0).toInt := by have b0 : w46_2_0 = s104.2.2.1 2 0 := fr_F (fr_F (v46_2_0) hF70 rfl) hF104 rfl; first | (rw [← b0, ← e_2_0]; exact n107k) | (rw [← b0]; exact n107k)
              exact g_ireturn (gd rfl) rfl (nb01 (in_w 0 1 i104 rfl)) (hP _ _ ⟨(A 30), s104, hI104, (fr_tr rfl (fr_tr rfl hFc46 hF70) hF104), n107j, n107l, z104, rfl, (by rw [ax_id]), in_w 0 1 i104 rfl, n107, n107a, n107b, n107c, n107d, n107e, n107f, n107g, n107h⟩)
          · skip
            have i82 := r_eq1 108 108 c82 i77a (in_c 108 rfl) rfl
            refine g_iconst 1 86 (gd rfl) rfl rfl ?_
            refine g_goto 90 (gd rfl) rfl ?_
            refine g_istore 92 (gd rfl) rfl (Nat.le_of_ble_eq_true rfl) ?_
            refine g_aload_n 93 (gd rfl) rfl rfl ?_
            refine g_getI 96 (gd rfl) rfl rfl rfl (fun z93 e93 => ?_)
            have i93 := inv_F hI70 0 5 rfl e93
            refine g_iload 98 (gd rfl) rfl rfl ?_
            refine g_cmp_eq 101 108 (gd rfl) rfl rfl (fun c98 => ?_) (fun c98 => ?_)
            · skip
              have i98 := r_eq1 1 1 c98 i93 (in_c 1 rfl) rfl
              refine g_aload_n 109 (gd rfl) rfl rfl ?_
              refine g_getA (q2 := 31) 112 (gd rfl) rfl rfl rfl rfl ?_
              refine g_iload 114 (gd rfl) rfl rfl ?_
              refine g_aload_n 115 (gd rfl) rfl rfl ?_
              refine g_getI 118 (gd rfl) rfl rfl rfl (fun z115 e115 => ?_)
              refine g_iastore 119 (gd rfl) rfl (n := 5) rfl (in_ix i63 rfl) ?_
              have hI118 := inv_sI (q := 31) (j := y46_5.toNatClampNeg) hI70 rfl (in_w (-2147483648) 2147483647 (i_rng z115) rfl)
              refine g_iinc 122 (gd rfl) rfl rfl (Nat.le_of_ble_eq_true rfl) (fun z119 e119 => ?_)
              have i119 := in_add 1 5 e119 i63 (in_c 1 rfl) rfl rfl
              refine g_goto 46 (gd rfl) rfl ?_
              have v46 : z70a = (sI s70 31 y46_5.toNatClampNeg z115).2.2.1 46 2 := sI_F (e70)
              have v46a : w46_2_0 = (sI s70 31 y46_5.toNatClampNeg z115).2.2.1 2 0 := sI_F (fr_F (v46_2_0) hF70 rfl)
              have v46b : w46_2_1 = (sI s70 31 y46_5.toNatClampNeg z115).2.2.1 2 1 := sI_F (fr_F (v46_2_1) hF70 rfl)
              have v46c : w46_30_0 = (sI s70 31 y46_5.toNatClampNeg z115).2.2.1 30 0 := sI_F (fr_F (v46_30_0) hF70 rfl)
              have n46 : (z70a).toInt ≤ (u_46_1).toInt := by exact (have a0 := in_u ro_46_1; have a1 := in_u ((inv_F hIc46 448 28000 rfl v46_30_0)); have a2 := in_u ((inv_F hIc46 0 32 rfl v46_2_1)); have a3 := in_u ((inv_F hIc46 0 4000 rfl v46_2_0)); have a4 := in_u ((inv_F hIc46 0 1000 rfl v46_46_2)); have a5 := in_u i63; have a6 := in_u j46_4; have a7 := in_u j46_3; have a8 := in_u j46_2; have a9 := in_u ((in_c 1 rfl)); have a10 := in_u i119; have a11 := t_add e119 i63 (in_c 1 rfl) rfl; have a12 := in_u i98; have a13 := in_u i70b; have a14 := in_u i70a; have oc := oc_136_1_46; by omega)
              have n46a : (u_2_0).toInt ≤ (w46_2_0).toInt := by first | exact n46_1 | (exact (have a0 := in_u ro_46_1; have a1 := in_u ((inv_F hIc46 448 28000 rfl v46_30_0)); have a2 := in_u ((inv_F hIc46 0 32 rfl v46_2_1)); have a3 := in_u ((inv_F hIc46 0 4000 rfl v46_2_0)); have a4 := in_u ((inv_F hIc46 0 1000 rfl v46_46_2)); have a5 := in_u i63; have a6 := in_u j46_4; have a7 := in_u j46_3; have a8 := in_u j46_2; have a9 := in_u ((in_c 1 rfl)); have a10 := in_u i119; have a11 := t_add e119 i63 (in_c 1 rfl) rfl; have a12 := in_u i98; have a13 := in_u i70b; have a14 := in_u i70a; have oc := oc_136_1_46; by omega))
              have n46b : (y46_3).toInt = 13 → (y46_4).toInt = 1 := by exact g46_0
              have n46c : (y46_4).toInt = 1 → 1 ≤ (z119).toInt → In ((sI s70 31 y46_5.toNatClampNeg z115).1 31 0) 0 25 := by intro h4 _; first | (exfalso; have h9 := p77 h4; have c8 : (Int32.ofInt 108).toInt = 108 := (by decide); omega) | (have hz1 := zn_1 h4; have hi0 : y46_5.toInt = 0 := (by have h9 := p50; exact (have a0 := in_u ro_46_1; have a1 := in_u ((inv_F hIc46 448 28000 rfl v46_30_0)); have a2 := in_u ((inv_F hIc46 0 32 rfl v46_2_1)); have a3 := in_u ((inv_F hIc46 0 4000 rfl v46_2_0)); have a4 := in_u ((inv_F hIc46 0 1000 rfl v46_46_2)); have a5 := in_u i63; have a6 := in_u j46_4; have a7 := in_u j46_3; have a8 := in_u j46_2; have a9 := in_u ((in_c 1 rfl)); have a10 := in_u i119; have a11 := t_add e119 i63 (in_c 1 rfl) rfl; have a12 := in_u i98; have a13 := in_u i70b; have a14 := in_u i70a; have oc := oc_136_1_46; by omega)); rw [sI_q, show y46_5.toNatClampNeg = 0 from (by show y46_5.toInt.toNat = 0; omega), ug_at, e115]; exact p70a (by rw [← e93]; exact c98.trans (by decide)))
              have n46d : Fr ([31], [], [(46, 2), (46, 3), (46, 4), (46, 5), (46, 6), (46, 7)], []) s (sI s70 31 y46_5.toNatClampNeg z115) := by exact fr_sI rfl (fr_tr rfl g46_2 hF70)
              have n46e : SHQ (y46_3).toInt (y46_4).toInt := by exact g46_3
              have n46f : (s.2.2.1 46 3).toInt = 1 ∧ (s.2.2.1 46 5).toInt = (y46_3).toInt ∧ (y46_2) = s.2.2.1 46 4 := by exact g46_4
              have n46g : (z119).toInt ≤ (cmA (y46_3).toInt : Int) := by have h9 := shq_n g46_3; have h8 := p50; rw [h9] at h8; exact (have a0 := in_u ro_46_1; have a1 := in_u ((inv_F hIc46 448 28000 rfl v46_30_0)); have a2 := in_u ((inv_F hIc46 0 32 rfl v46_2_1)); have a3 := in_u ((inv_F hIc46 0 4000 rfl v46_2_0)); have a4 := in_u ((inv_F hIc46 0 1000 rfl v46_46_2)); have a5 := in_u i63; have a6 := in_u j46_4; have a7 := in_u j46_3; have a8 := in_u j46_2; have a9 := in_u ((in_c 1 rfl)); have a10 := in_u i119; have a11 := t_add e119 i63 (in_c 1 rfl) rfl; have a12 := in_u i98; have a13 := in_u i70b; have a14 := in_u i70a; have oc := oc_136_1_46; by omega)
              have n46h : ∀ a : Nat, TKN (s.1 47) (s.2.2.1 46 1).toInt.toNat a (s.2.2.1 46 4).toInt.toNat (s.2.2.1 46 2).toInt.toNat (s.2.2.1 46 3).toInt (s.2.2.1 46 5).toInt → (∀ j, j < (z119).toInt.toNat → ∃ q f, TSQ (s.1 47) (s.2.2.1 46 1).toInt.toNat a (j + 1) q f (cmK (y46_3).toInt (j + 1)) ((sI s70 31 y46_5.toNatClampNeg z115).1 31 j).toInt) ∧ ∃ p k v, TSQ (s.1 47) (s.2.2.1 46 1).toInt.toNat a (z119).toInt.toNat p (z70a).toInt.toNat k v := by intro a ha; obtain ⟨h1, p1, k1, v1, h2⟩ := g46_6 a ha; have hk9 := p70b; rw [show sc46.1 47 = s.1 47 from g46_2.1 47 rfl, show sc46.2.2.1 46 1 = s.2.2.1 46 1 from g46_2.2.2.1 46 1 rfl, ← v46_46_2] at hk9; have hq9 := shq_k g46_3 (j := y46_5.toNatClampNeg) (by have h9 := shq_n g46_3; have h8 := p50; rw [h9] at h8; show y46_5.toInt.toNat < _; exact (have a0 := in_u ro_46_1; have a1 := in_u ((inv_F hIc46 448 28000 rfl v46_30_0)); have a2 := in_u ((inv_F hIc46 0 32 rfl v46_2_1)); have a3 := in_u ((inv_F hIc46 0 4000 rfl v46_2_0)); have a4 := in_u ((inv_F hIc46 0 1000 rfl v46_46_2)); have a5 := in_u i63; have a6 := in_u j46_4; have a7 := in_u j46_3; have a8 := in_u j46_2; have a9 := in_u ((in_c 1 rfl)); have a10 := in_u i119; have a11 := t_add e119 i63 (in_c 1 rfl) rfl; have a12 := in_u i98; have a13 := in_u i70b; have a14 := in_u i70a; have oc := oc_136_1_46; by omega)); rw [← p77a] at hq9; have hn9 : TSQ (s.1 47) (s.2.2.1 46 1).toInt.toNat a (y46_5.toInt.toNat + 1) (s70.2.2.1 46 4).toInt.toNat (s70.2.2.1 46 2).toInt.toNat (s70.2.2.1 46 3).toInt (s70.2.2.1 46 5).toInt := ⟨p1, w46_46_2.toInt.toNat, k1, v1, h2, hk9⟩; rw [show z119.toInt.toNat = y46_5.toInt.toNat + 1 from (by exact (have a0 := in_u ro_46_1; have a1 := in_u ((inv_F hIc46 448 28000 rfl v46_30_0)); have a2 := in_u ((inv_F hIc46 0 32 rfl v46_2_1)); have a3 := in_u ((inv_F hIc46 0 4000 rfl v46_2_0)); have a4 := in_u ((inv_F hIc46 0 1000 rfl v46_46_2)); have a5 := in_u i63; have a6 := in_u j46_4; have a7 := in_u j46_3; have a8 := in_u j46_2; have a9 := in_u ((in_c 1 rfl)); have a10 := in_u i119; have a11 := t_add e119 i63 (in_c 1 rfl) rfl; have a12 := in_u i98; have a13 := in_u i70b; have a14 := in_u i70a; have oc := oc_136_1_46; by omega))]; refine ⟨fun j hj => ?_, _, _, _, by rw [← (show z70a = (sI s70 31 y46_5.toNatClampNeg z115).2.2.1 46 2 from sI_F (e70)), ← e70] at *; exact hn9⟩; rw [sI_q]; by_cases hc : j = y46_5.toNatClampNeg; (rw [hc, ug_at, show y46_5.toNatClampNeg = y46_5.toInt.toNat from rfl, show cmK y46_3.toInt (y46_5.toInt.toNat + 1) = (s70.2.2.1 46 3).toInt from (by rw [← e93]; first | (rw [show cmK y46_3.toInt (y46_5.toInt.toNat + 1) = 1 from hq9.1 (by exact (have a0 := in_u ro_46_1; have a1 := in_u ((inv_F hIc46 448 28000 rfl v46_30_0)); have a2 := in_u ((inv_F hIc46 0 32 rfl v46_2_1)); have a3 := in_u ((inv_F hIc46 0 4000 rfl v46_2_0)); have a4 := in_u ((inv_F hIc46 0 1000 rfl v46_46_2)); have a5 := in_u i63; have a6 := in_u j46_4; have a7 := in_u j46_3; have a8 := in_u j46_2; have a9 := in_u ((in_c 1 rfl)); have a10 := in_u i119; have a11 := t_add e119 i63 (in_c 1 rfl) rfl; have a12 := in_u i98; have a13 := in_u i70b; have a14 := in_u i70a; have oc := oc_136_1_46; by omega))]; exact (have a0 := in_u ro_46_1; have a1 := in_u ((inv_F hIc46 448 28000 rfl v46_30_0)); have a2 := in_u ((inv_F hIc46 0 32 rfl v46_2_1)); have a3 := in_u ((inv_F hIc46 0 4000 rfl v46_2_0)); have a4 := in_u ((inv_F hIc46 0 1000 rfl v46_46_2)); have a5 := in_u i63; have a6 := in_u j46_4; have a7 := in_u j46_3; have a8 := in_u j46_2; have a9 := in_u ((in_c 1 rfl)); have a10 := in_u i119; have a11 := t_add e119 i63 (in_c 1 rfl) rfl; have a12 := in_u i98; have a13 := in_u i70b; have a14 := in_u i70a; have oc := oc_136_1_46; by omega)) | (rw [show cmK y46_3.toInt (y46_5.toInt.toNat + 1) = 2 from hq9.2 (by exact (have a0 := in_u ro_46_1; have a1 := in_u ((inv_F hIc46 448 28000 rfl v46_30_0)); have a2 := in_u ((inv_F hIc46 0 32 rfl v46_2_1)); have a3 := in_u ((inv_F hIc46 0 4000 rfl v46_2_0)); have a4 := in_u ((inv_F hIc46 0 1000 rfl v46_46_2)); have a5 := in_u i63; have a6 := in_u j46_4; have a7 := in_u j46_3; have a8 := in_u j46_2; have a9 := in_u ((in_c 1 rfl)); have a10 := in_u i119; have a11 := t_add e119 i63 (in_c 1 rfl) rfl; have a12 := in_u i98; have a13 := in_u i70b; have a14 := in_u i70a; have oc := oc_136_1_46; by omega))]; exact (have a0 := in_u ro_46_1; have a1 := in_u ((inv_F hIc46 448 28000 rfl v46_30_0)); have a2 := in_u ((inv_F hIc46 0 32 rfl v46_2_1)); have a3 := in_u ((inv_F hIc46 0 4000 rfl v46_2_0)); have a4 := in_u ((inv_F hIc46 0 1000 rfl v46_46_2)); have a5 := in_u i63; have a6 := in_u j46_4; have a7 := in_u j46_3; have a8 := in_u j46_2; have a9 := in_u ((in_c 1 rfl)); have a10 := in_u i119; have a11 := t_add e119 i63 (in_c 1 rfl) rfl; have a12 := in_u i98; have a13 := in_u i70b; have a14 := in_u i70a; have oc := oc_136_1_46; by omega))), e115]; exact ⟨_, _, hn9⟩); (rw [ug_ne hc, hF70.1 31 rfl]; exact h1 j (by have h9 : y46_5.toNatClampNeg = y46_5.toInt.toNat := rfl; omega))
              have n46i : (sI s70 31 y46_5.toNatClampNeg z115).2.2.1 46 6 = s.2.2.1 46 6 ∧ (sI s70 31 y46_5.toNatClampNeg z115).2.2.1 46 7 = s.2.2.1 46 7 := by exact ⟨(hF70.2.2.1 46 6 rfl).trans g46_7.1, (hF70.2.2.1 46 7 rfl).trans g46_7.2⟩
              exact gg_w (by first | exact Nat.le_add_right _ _ | exact gw2 | exact gw3 | exact gwe rfl | exact gwf rfl | exact gwg rfl | exact gwh rfl | omega) (gg_f (gf_cons rfl (gf_cons rfl (gf_cons rfl (gf_cons rfl (gf_cons rfl (gf_cons rfl gf_nil)))))) (ih46 (sI s70 31 y46_5.toNatClampNeg z115) y46_2 y46_3 y46_4 z119 z70a w46_2_0 w46_2_1 w46_30_0 hI118 (fr_sI rfl (fr_tr rfl hFc46 hF70)) (in_w 0 1000 j46_2 rfl) (in_w (-1) 25 j46_3 rfl) (in_w 1 5 j46_4 rfl) (in_w 0 5 i119 rfl) v46 v46a v46b v46c n46 n46a n46b n46c n46d n46e n46f n46g n46h n46i (m_up mm46 (t_add e119 i63 (in_c 1 rfl) rfl) (in_w 1 1 (in_c 1 rfl) rfl))))
            · skip
              refine g_aload_n 102 (gd rfl) rfl rfl ?_
              refine g_iconst 2 103 (gd rfl) rfl rfl ?_
              refine g_iconst 3 104 (gd rfl) rfl rfl ?_
              refine g_callv (X := _) (As := [.int (Int32.ofInt 2), .int (Int32.ofInt 3)]) (r := []) (b := A 46) (q := 46) 107 (gd rfl) rfl rfl rfl rfl rfl (ww_o rfl) (Nat.le_of_ble_eq_true rfl) (Nat.zero_le _) (Nat.zero_le _) (f_169_46 (by first | exact dq1 hd rfl | exact dq0 hd rfl | exact dq2 hd rfl | exact dq3 hd rfl | omega) hI70 (in_w 2 2 (in_c 2 rfl) rfl) (in_w 3 3 (in_c 3 rfl) rfl) e93 e70a) (fun e u h => h) (fun v u h => ?_)
              obtain ⟨s104, hI104, hF104, z104, rfl, rfl, i104, p104⟩ := h
              show GG _ _ _ _ _ _ _ _ [.int z104] _ _ _
              have n107 : KL s104 := by have hL9 : Fr ([31], [], [(46, 2), (46, 3), (46, 4), (46, 5), (46, 6), (46, 7)], []) s s104 := (fr_tr rfl (fr_tr rfl g46_2 hF70) hF104); exact kl_fr q_0 hL9 rfl
              have n107a : (z104).toInt ≠ 0 → (s104.2.2.1 30 0).toInt = nln s := by first | (intro h; exact absurd rfl h) | (intro h; exfalso; revert h; first | (unfold In at i39; omega) | (unfold In at i104; omega) | (unfold In at i144; omega))
              have n107b : (z104).toInt ≠ 0 → (s.2.2.1 2 0).toInt ≤ 3999 := by first | (intro h; exact absurd rfl h) | (intro h; exfalso; revert h; first | (unfold In at i39; omega) | (unfold In at i104; omega) | (unfold In at i144; omega))
              have n107c : ∀ k : Nat, (k : Int) < 7 * (s.2.2.1 2 0).toInt → s104.1 30 k = s.1 30 k := by have hL9 : Fr ([31], [], [(46, 2), (46, 3), (46, 4), (46, 5), (46, 6), (46, 7)], []) s s104 := (fr_tr rfl (fr_tr rfl g46_2 hF70) hF104); exact fun k _ => by rw [hL9.1 30 rfl]
              have n107d : (z104).toInt ≠ 0 → ∀ a : Nat, TKN (s.1 47) (s.2.2.1 46 1).toInt.toNat a (s.2.2.1 46 4).toInt.toNat (s.2.2.1 46 2).toInt.toNat (s.2.2.1 46 3).toInt (s.2.2.1 46 5).toInt → ∃ c V, CMP (s.1 47) (s.2.2.1 46 1).toInt.toNat a (s.2.2.1 46 4).toInt.toNat c V (s104.2.2.1 46 2).toInt.toNat ∧ dkC (gvC s) c V ∧ gvC s104 = opC (gvC s) c V := by first | (intro h; exact absurd rfl h) | (intro h; exfalso; revert h; first | (unfold In at i39; omega) | (unfold In at i104; omega) | (unfold In at i144; omega))
              have n107e : (z104).toInt = 0 → ∀ a : Nat, TKN (s.1 47) (s.2.2.1 46 1).toInt.toNat a (s.2.2.1 46 4).toInt.toNat (s.2.2.1 46 2).toInt.toNat (s.2.2.1 46 3).toInt (s.2.2.1 46 5).toInt → CMX (s.1 47) (s.2.2.1 46 1).toInt.toNat a (s104.2.2.1 46 6).toInt (s104.2.2.1 46 7).toInt.toNat ∨ ∃ c V e, CMP (s.1 47) (s.2.2.1 46 1).toInt.toNat a (s104.2.2.1 46 7).toInt.toNat c V e ∧ ¬ dkC (gvC s) c V ∧ (s104.2.2.1 46 6).toInt = 4 := by intro _ a ha; obtain ⟨h1, p1, k1, v1, h2⟩ := g46_6 a ha; have hk9 := p70b; rw [show sc46.1 47 = s.1 47 from g46_2.1 47 rfl, show sc46.2.2.1 46 1 = s.2.2.1 46 1 from g46_2.2.2.1 46 1 rfl, ← v46_46_2] at hk9; have hq9 := shq_k g46_3 (j := y46_5.toNatClampNeg) (by have h9 := shq_n g46_3; have h8 := p50; rw [h9] at h8; show y46_5.toInt.toNat < _; exact (have a0 := in_u ro_46_1; have a1 := in_u ((inv_F hIc46 448 28000 rfl v46_30_0)); have a2 := in_u ((inv_F hIc46 0 32 rfl v46_2_1)); have a3 := in_u ((inv_F hIc46 0 4000 rfl v46_2_0)); have a4 := in_u ((inv_F hIc46 0 1000 rfl v46_46_2)); have a5 := in_u i63; have a6 := in_u j46_4; have a7 := in_u j46_3; have a8 := in_u j46_2; have a9 := in_u ((in_c 1 rfl)); have a10 := in_u i93; have a11 := in_u i70b; have a12 := in_u i70a; have oc := oc_136_1_46; by omega)); rw [← p77a] at hq9; refine Or.inl (Or.inr ⟨_, _, _, shq_i g46_3, by have h9 := ha; rw [g46_4.1, g46_4.2.1] at h9; exact h9, y46_5.toInt.toNat, by have h9 := g46_5; omega, fun j hj => by obtain ⟨q, f, h9⟩ := h1 j hj; exact ⟨q, f, _, h9⟩, (s70.2.2.1 46 2).toInt.toNat, (s70.2.2.1 46 3).toInt, (s70.2.2.1 46 5).toInt, ?_, ?_, p104.1⟩); (rw [p104.2]; exact ⟨p1, w46_46_2.toInt.toNat, k1, v1, h2, hk9⟩); (rw [← e93]; first | (rw [show cmK y46_3.toInt (y46_5.toInt.toNat + 1) = 1 from hq9.1 (by exact (have a0 := in_u ro_46_1; have a1 := in_u ((inv_F hIc46 448 28000 rfl v46_30_0)); have a2 := in_u ((inv_F hIc46 0 32 rfl v46_2_1)); have a3 := in_u ((inv_F hIc46 0 4000 rfl v46_2_0)); have a4 := in_u ((inv_F hIc46 0 1000 rfl v46_46_2)); have a5 := in_u i63; have a6 := in_u j46_4; have a7 := in_u j46_3; have a8 := in_u j46_2; have a9 := in_u ((in_c 1 rfl)); have a10 := in_u i93; have a11 := in_u i70b; have a12 := in_u i70a; have oc := oc_136_1_46; by omega))]; exact (have a0 := in_u ro_46_1; have a1 := in_u ((inv_F hIc46 448 28000 rfl v46_30_0)); have a2 := in_u ((inv_F hIc46 0 32 rfl v46_2_1)); have a3 := in_u ((inv_F hIc46 0 4000 rfl v46_2_0)); have a4 := in_u ((inv_F hIc46 0 1000 rfl v46_46_2)); have a5 := in_u i63; have a6 := in_u j46_4; have a7 := in_u j46_3; have a8 := in_u j46_2; have a9 := in_u ((in_c 1 rfl)); have a10 := in_u i93; have a11 := in_u i70b; have a12 := in_u i70a; have oc := oc_136_1_46; by omega)) | (rw [show cmK y46_3.toInt (y46_5.toInt.toNat + 1) = 2 from hq9.2 (by exact (have a0 := in_u ro_46_1; have a1 := in_u ((inv_F hIc46 448 28000 rfl v46_30_0)); have a2 := in_u ((inv_F hIc46 0 32 rfl v46_2_1)); have a3 := in_u ((inv_F hIc46 0 4000 rfl v46_2_0)); have a4 := in_u ((inv_F hIc46 0 1000 rfl v46_46_2)); have a5 := in_u i63; have a6 := in_u j46_4; have a7 := in_u j46_3; have a8 := in_u j46_2; have a9 := in_u ((in_c 1 rfl)); have a10 := in_u i93; have a11 := in_u i70b; have a12 := in_u i70a; have oc := oc_136_1_46; by omega))]; exact (have a0 := in_u ro_46_1; have a1 := in_u ((inv_F hIc46 448 28000 rfl v46_30_0)); have a2 := in_u ((inv_F hIc46 0 32 rfl v46_2_1)); have a3 := in_u ((inv_F hIc46 0 4000 rfl v46_2_0)); have a4 := in_u ((inv_F hIc46 0 1000 rfl v46_46_2)); have a5 := in_u i63; have a6 := in_u j46_4; have a7 := in_u j46_3; have a8 := in_u j46_2; have a9 := in_u ((in_c 1 rfl)); have a10 := in_u i93; have a11 := in_u i70b; have a12 := in_u i70a; have oc := oc_136_1_46; by omega)))
              have n107f : (z104).toInt ≠ 0 → TQ s104 := by first | (intro h; exact absurd rfl h) | (intro h; exfalso; revert h; first | (unfold In at i39; omega) | (unfold In at i104; omega) | (unfold In at i144; omega))
              have n107g : (z104).toInt ≠ 0 → s104.2.2.1 46 6 = s.2.2.1 46 6 ∧ s104.2.2.1 46 7 = s.2.2.1 46 7 := by first | (intro h; exact absurd rfl h) | (intro h; exfalso; revert h; first | (unfold In at i39; omega) | (unfold In at i104; omega) | (unfold In at i144; omega))
              have n107h : (z104).toInt = 0 → 0 ≤ (s104.2.2.1 46 7).toInt := by intro _; rw [p104.2, ← e70a]; exact (have a0 := in_u ro_46_1; have a1 := in_u ((inv_F hIc46 448 28000 rfl v46_30_0)); have a2 := in_u ((inv_F hIc46 0 32 rfl v46_2_1)); have a3 := in_u ((inv_F hIc46 0 4000 rfl v46_2_0)); have a4 := in_u ((inv_F hIc46 0 1000 rfl v46_46_2)); have a5 := in_u i63; have a6 := in_u j46_4; have a7 := in_u j46_3; have a8 := in_u j46_2; have a9 := in_u ((in_c 1 rfl)); have a10 := in_u i93; have a11 := in_u i70b; have a12 := in_u i70a; have oc := oc_136_1_46; by omega)
              have n107i : (z70a).toInt ≤ (u_46_1).toInt := by exact (have a0 := in_u ro_46_1; have a1 := in_u ((inv_F hIc46 448 28000 rfl v46_30_0)); have a2 := in_u ((inv_F hIc46 0 32 rfl v46_2_1)); have a3 := in_u ((inv_F hIc46 0 4000 rfl v46_2_0)); have a4 := in_u ((inv_F hIc46 0 1000 rfl v46_46_2)); have a5 := in_u i63; have a6 := in_u j46_4; have a7 := in_u j46_3; have a8 := in_u j46_2; have a9 := in_u ((in_c 1 rfl)); have a10 := in_u i93; have a11 := in_u i70b; have a12 := in_u i70a; have oc := oc_136_1_46; by omega)
              have n107j : (s104.2.2.1 46 2).toInt ≤ (s104.2.2.1 46 1).toInt := by have b0 : z70a = s104.2.2.1 46 2 := fr_F (e70) hF104 rfl; have b1 : u_46_1 = s104.2.2.1 46 1 := fr_F (fr_F (fr_F e_46_1 hFc46 rfl) hF70 rfl) hF104 rfl; rw [← b0, ← b1]; exact n107i
              have n107k : (u_2_0).toInt ≤ (w46_2_0).toInt := by first | exact n46_1 | (exact (have a0 := in_u ro_46_1; have a1 := in_u ((inv_F hIc46 448 28000 rfl v46_30_0)); have a2 := in_u ((inv_F hIc46 0 32 rfl v46_2_1)); have a3 := in_u ((inv_F hIc46 0 4000 rfl v46_2_0)); have a4 := in_u ((inv_F hIc46 0 1000 rfl v46_46_2)); have a5 := in_u i63; have a6 := in_u j46_4; have a7 := in_u j46_3; have a8 := in_u j46_2; have a9 := in_u ((in_c 1 rfl)); have a10 := in_u i93; have a11 := in_u i70b; have a12 := in_u i70a; have oc := oc_136_1_46; by omega))
              have n107l : (s.2.2.1 2 0).toInt ≤ (s104.2.2.1 2 0).toInt := by have b0 : w46_2_0 = s104.2.2.1 2 0 := fr_F (fr_F (v46_2_0) hF70 rfl) hF104 rfl; first | (rw [← b0, ← e_2_0]; exact n107k) | (rw [← b0]; exact n107k)
              exact g_ireturn (gd rfl) rfl (nb01 (in_w 0 1 i104 rfl)) (hP _ _ ⟨(A 30), s104, hI104, (fr_tr rfl (fr_tr rfl hFc46 hF70) hF104), n107j, n107l, z104, rfl, (by rw [ax_id]), in_w 0 1 i104 rfl, n107, n107a, n107b, n107c, n107d, n107e, n107f, n107g, n107h⟩)
  refine g_enter2 (k := 136) (N := 6301) (by first | exact dq1 hd rfl | exact dq0 hd rfl | exact dq2 hd rfl | exact dq3 hd rfl | omega) rfl (Nat.le_of_ble_eq_true rfl) ?_
  refine g_aload_n 1 (gd rfl) rfl rfl ?_
  refine g_getI 4 (gd rfl) rfl rfl rfl (fun z1 e1 => ?_)
  have q1 : u_46_4 = z1 := (e_46_4).trans e1.symm
  subst q1
  refine g_istore_n 5 (gd rfl) rfl (Nat.le_of_ble_eq_true rfl) ?_
  refine g_aload_n 6 (gd rfl) rfl rfl ?_
  refine g_getI 9 (gd rfl) rfl rfl rfl (fun z6 e6 => ?_)
  have q6 : u_46_3 = z6 := (e_46_3).trans e6.symm
  subst q6
  refine g_iconst 1 10 (gd rfl) rfl rfl ?_
  refine g_cmp_ne 13 20 (gd rfl) rfl rfl (fun c10 => ?_) (fun c10 => ?_)
  · skip
    refine g_iconst (-1) 21 (gd rfl) rfl rfl ?_
    refine g_istore_n 22 (gd rfl) rfl (Nat.le_of_ble_eq_true rfl) ?_
    refine g_iload_n 23 (gd rfl) rfl rfl ?_
    refine g_calls (As := [.int (Int32.ofInt (-1))]) (r := []) 26 (gd rfl) rfl rfl rfl rfl rfl (Nat.le_of_ble_eq_true rfl) (mc := 0) (ms := 0) (Nat.zero_le _) (Nat.zero_le _) (P := fun v u => _) ?_ (fun v u h => h)
    intro po23 xx23 hp23 hx23
    refine g_enter2 (k := 137) (N := 300) (by first | exact dq1 hd rfl | exact dq0 hd rfl | exact dq2 hd rfl | exact dq3 hd rfl | omega) rfl (Nat.le_of_ble_eq_true rfl) ?_
    refine g_iload_n 1 (gd rfl) rfl rfl ?_
    refine g_lsw [(0, 47), (13, 44), (19, 50), (22, 53)] 56 (gd rfl) rfl rfl rfl ⟨fun c23x1 => ?_, fun c23x1_0 => ⟨fun c23x1 => ?_, fun c23x1_1 => ⟨fun c23x1 => ?_, fun c23x1_2 => ⟨fun c23x1 => ?_, fun c23x1_3 => ?_⟩⟩⟩⟩
    · skip
      exact sw_ne c23x1 (in_c (-1) rfl) rfl
    · skip
      exact sw_ne c23x1 (in_c (-1) rfl) rfl
    · skip
      exact sw_ne c23x1 (in_c (-1) rfl) rfl
    · skip
      exact sw_ne c23x1 (in_c (-1) rfl) rfl
    · skip
      refine g_ldcs 5 58 (gd rfl) rfl rfl ?_
      refine g_areturn (gd rfl) rfl (hp23 _ _ ?_)
      show GG _ _ _ _ _ _ _ _ [.ref (zq Z (Int32.ofInt 5))] _ _ _
      refine g_astore 28 (gd rfl) rfl (Nat.le_of_ble_eq_true rfl) ?_
      refine g_aload 30 (gd rfl) rfl rfl ?_
      have i30 : In (Int32.ofInt 5) 0 6 := in_w 0 6 (in_c 5 rfl) rfl
      refine g_callS (X := _) (As := []) (r := []) (x := (Int32.ofInt 5)) 33 (gd rfl) rfl rfl rfl zm_428 rfl rfl rfl i30 (Nat.le_of_ble_eq_true rfl) (f_428 i30 (by omega)) (fun e u h => h) (fun v u h => ?_)
      obtain ⟨z30, rfl, rfl, i30a, p30, p30a⟩ := h
      show GG _ _ _ _ _ _ _ _ [.int z30] _ _ _
      refine g_if_eq 36 43 (gd rfl) rfl rfl (fun c33 => ?_) (fun c33 => ?_)
      · skip
        have i33 := z_eq 0 0 c33 i30a rfl
        refine g_iconst 0 44 (gd rfl) rfl rfl ?_
        refine g_istore 46 (gd rfl) rfl (Nat.le_of_ble_eq_true rfl) ?_
        have n46 : (u_46_2).toInt ≤ (u_46_1).toInt := by exact (have a0 := in_u ((inv_F hI 0 1000 rfl e_46_4)); have a1 := in_u ((inv_F hI 0 5 rfl e_46_3)); have a2 := in_u ((inv_F hI 0 1000 rfl e_46_1)); have a3 := in_u ((inv_F hI 0 1000 rfl e_46_2)); have a4 := in_u ((inv_F hI 448 28000 rfl e_30_0)); have a5 := in_u ((inv_F hI 0 32 rfl e_2_1)); have a6 := in_u ((inv_F hI 0 4000 rfl e_2_0)); have a7 := in_u ((in_c 0 rfl)); have a8 := in_u ((in_c (-1) rfl)); have oc := oc_136_1_46; by omega)
        have n46a : (u_2_0).toInt ≤ (u_2_0).toInt := by exact (have a0 := in_u ((inv_F hI 0 1000 rfl e_46_4)); have a1 := in_u ((inv_F hI 0 5 rfl e_46_3)); have a2 := in_u ((inv_F hI 0 1000 rfl e_46_1)); have a3 := in_u ((inv_F hI 0 1000 rfl e_46_2)); have a4 := in_u ((inv_F hI 448 28000 rfl e_30_0)); have a5 := in_u ((inv_F hI 0 32 rfl e_2_1)); have a6 := in_u ((inv_F hI 0 4000 rfl e_2_0)); have a7 := in_u ((in_c 0 rfl)); have a8 := in_u ((in_c (-1) rfl)); have oc := oc_136_1_46; by omega)
        have n46b : ((Int32.ofInt (-1))).toInt = 13 → ((Int32.ofInt 5)).toInt = 1 := by intro h; first | decide | (exfalso; exact (have a0 := in_u ((inv_F hI 0 1000 rfl e_46_4)); have a1 := in_u ((inv_F hI 0 5 rfl e_46_3)); have a2 := in_u ((inv_F hI 0 1000 rfl e_46_1)); have a3 := in_u ((inv_F hI 0 1000 rfl e_46_2)); have a4 := in_u ((inv_F hI 448 28000 rfl e_30_0)); have a5 := in_u ((inv_F hI 0 32 rfl e_2_1)); have a6 := in_u ((inv_F hI 0 4000 rfl e_2_0)); have a7 := in_u ((in_c 0 rfl)); have a8 := in_u ((in_c (-1) rfl)); have oc := oc_136_1_46; by omega))
        have n46c : ((Int32.ofInt 5)).toInt = 1 → 1 ≤ ((Int32.ofInt 0)).toInt → In (s.1 31 0) 0 25 := by intro _ h; exfalso; revert h; decide
        have n46d : Fr ([31], [], [(46, 2), (46, 3), (46, 4), (46, 5), (46, 6), (46, 7)], []) s s := by exact fr_rf
        have n46e : SHQ ((Int32.ofInt (-1))).toInt ((Int32.ofInt 5)).toInt := by first | (exfalso; have h9 := p30 (by exact (have a0 := in_u ((inv_F hI 0 1000 rfl e_46_4)); have a1 := in_u ((inv_F hI 0 5 rfl e_46_3)); have a2 := in_u ((inv_F hI 0 1000 rfl e_46_1)); have a3 := in_u ((inv_F hI 0 1000 rfl e_46_2)); have a4 := in_u ((inv_F hI 448 28000 rfl e_30_0)); have a5 := in_u ((inv_F hI 0 32 rfl e_2_1)); have a6 := in_u ((inv_F hI 0 4000 rfl e_2_0)); have a7 := in_u ((in_c 0 rfl)); have a8 := in_u ((in_c (-1) rfl)); have oc := oc_136_1_46; by omega)); revert h9; decide) | exact Or.inl ⟨by exact (have a0 := in_u ((inv_F hI 0 1000 rfl e_46_4)); have a1 := in_u ((inv_F hI 0 5 rfl e_46_3)); have a2 := in_u ((inv_F hI 0 1000 rfl e_46_1)); have a3 := in_u ((inv_F hI 0 1000 rfl e_46_2)); have a4 := in_u ((inv_F hI 448 28000 rfl e_30_0)); have a5 := in_u ((inv_F hI 0 32 rfl e_2_1)); have a6 := in_u ((inv_F hI 0 4000 rfl e_2_0)); have a7 := in_u ((in_c 0 rfl)); have a8 := in_u ((in_c (-1) rfl)); have oc := oc_136_1_46; by omega), by decide⟩ | exact Or.inr (Or.inl ⟨by exact (have a0 := in_u ((inv_F hI 0 1000 rfl e_46_4)); have a1 := in_u ((inv_F hI 0 5 rfl e_46_3)); have a2 := in_u ((inv_F hI 0 1000 rfl e_46_1)); have a3 := in_u ((inv_F hI 0 1000 rfl e_46_2)); have a4 := in_u ((inv_F hI 448 28000 rfl e_30_0)); have a5 := in_u ((inv_F hI 0 32 rfl e_2_1)); have a6 := in_u ((inv_F hI 0 4000 rfl e_2_0)); have a7 := in_u ((in_c 0 rfl)); have a8 := in_u ((in_c (-1) rfl)); have oc := oc_136_1_46; by omega), by decide⟩) | exact Or.inr (Or.inr (Or.inl ⟨by exact (have a0 := in_u ((inv_F hI 0 1000 rfl e_46_4)); have a1 := in_u ((inv_F hI 0 5 rfl e_46_3)); have a2 := in_u ((inv_F hI 0 1000 rfl e_46_1)); have a3 := in_u ((inv_F hI 0 1000 rfl e_46_2)); have a4 := in_u ((inv_F hI 448 28000 rfl e_30_0)); have a5 := in_u ((inv_F hI 0 32 rfl e_2_1)); have a6 := in_u ((inv_F hI 0 4000 rfl e_2_0)); have a7 := in_u ((in_c 0 rfl)); have a8 := in_u ((in_c (-1) rfl)); have oc := oc_136_1_46; by omega), by decide⟩)) | exact Or.inr (Or.inr (Or.inr ⟨by exact (have a0 := in_u ((inv_F hI 0 1000 rfl e_46_4)); have a1 := in_u ((inv_F hI 0 5 rfl e_46_3)); have a2 := in_u ((inv_F hI 0 1000 rfl e_46_1)); have a3 := in_u ((inv_F hI 0 1000 rfl e_46_2)); have a4 := in_u ((inv_F hI 448 28000 rfl e_30_0)); have a5 := in_u ((inv_F hI 0 32 rfl e_2_1)); have a6 := in_u ((inv_F hI 0 4000 rfl e_2_0)); have a7 := in_u ((in_c 0 rfl)); have a8 := in_u ((in_c (-1) rfl)); have oc := oc_136_1_46; by omega), by decide⟩))
        have n46f : (s.2.2.1 46 3).toInt = 1 ∧ (s.2.2.1 46 5).toInt = ((Int32.ofInt (-1))).toInt ∧ (u_46_4) = s.2.2.1 46 4 := by first | (exfalso; have h9 := p30 (by exact (have a0 := in_u ((inv_F hI 0 1000 rfl e_46_4)); have a1 := in_u ((inv_F hI 0 5 rfl e_46_3)); have a2 := in_u ((inv_F hI 0 1000 rfl e_46_1)); have a3 := in_u ((inv_F hI 0 1000 rfl e_46_2)); have a4 := in_u ((inv_F hI 448 28000 rfl e_30_0)); have a5 := in_u ((inv_F hI 0 32 rfl e_2_1)); have a6 := in_u ((inv_F hI 0 4000 rfl e_2_0)); have a7 := in_u ((in_c 0 rfl)); have a8 := in_u ((in_c (-1) rfl)); have oc := oc_136_1_46; by omega)); revert h9; decide) | exact ⟨by rw [← e_46_3]; exact (have a0 := in_u ((inv_F hI 0 1000 rfl e_46_4)); have a1 := in_u ((inv_F hI 0 5 rfl e_46_3)); have a2 := in_u ((inv_F hI 0 1000 rfl e_46_1)); have a3 := in_u ((inv_F hI 0 1000 rfl e_46_2)); have a4 := in_u ((inv_F hI 448 28000 rfl e_30_0)); have a5 := in_u ((inv_F hI 0 32 rfl e_2_1)); have a6 := in_u ((inv_F hI 0 4000 rfl e_2_0)); have a7 := in_u ((in_c 0 rfl)); have a8 := in_u ((in_c (-1) rfl)); have oc := oc_136_1_46; by omega), by rw [← e_46_5], e_46_4⟩
        have n46g : ((Int32.ofInt 0)).toInt ≤ (cmA ((Int32.ofInt (-1))).toInt : Int) := by exact Int.natCast_nonneg _
        have n46h : ∀ a : Nat, TKN (s.1 47) (s.2.2.1 46 1).toInt.toNat a (s.2.2.1 46 4).toInt.toNat (s.2.2.1 46 2).toInt.toNat (s.2.2.1 46 3).toInt (s.2.2.1 46 5).toInt → (∀ j, j < ((Int32.ofInt 0)).toInt.toNat → ∃ q f, TSQ (s.1 47) (s.2.2.1 46 1).toInt.toNat a (j + 1) q f (cmK ((Int32.ofInt (-1))).toInt (j + 1)) (s.1 31 j).toInt) ∧ ∃ p k v, TSQ (s.1 47) (s.2.2.1 46 1).toInt.toNat a ((Int32.ofInt 0)).toInt.toNat p (u_46_2).toInt.toNat k v := by intro a ha; exact ⟨fun j hj => absurd hj (by have h9 : (Int32.ofInt 0).toInt.toNat = 0 := rfl; omega), _, _, _, by rw [e_46_2]; exact ha⟩
        have n46i : s.2.2.1 46 6 = s.2.2.1 46 6 ∧ s.2.2.1 46 7 = s.2.2.1 46 7 := by exact ⟨rfl, rfl⟩
        exact gg_w (by first | exact Nat.le_of_ble_eq_true rfl | omega) (gg_f (gf_cons rfl (gf_cons rfl (gf_cons rfl (gf_cons rfl (gf_cons rfl (gf_cons rfl gf_nil)))))) (ct46 6 s u_46_4 (Int32.ofInt (-1)) (Int32.ofInt 5) (Int32.ofInt 0) u_46_2 u_2_0 u_2_1 u_30_0 hI fr_rf (in_w 0 1000 (inv_F hI 0 1000 rfl e_46_4) rfl) (in_w (-1) 25 (in_c (-1) rfl) rfl) (in_w 1 5 (in_c 5 rfl) rfl) (in_w 0 5 (in_c 0 rfl) rfl) e_46_2 e_2_0 e_2_1 e_30_0 n46 n46a n46b n46c n46d n46e n46f n46g n46h n46i (m_in 6 (in_w 0 5 (in_c 0 rfl) rfl) rfl)))
      · skip
        have i33 := z_ne 1 1 c33 i30a rfl
        refine g_aload_n 37 (gd rfl) rfl rfl ?_
        refine g_iconst 2 38 (gd rfl) rfl rfl ?_
        refine g_iconst 3 39 (gd rfl) rfl rfl ?_
        refine g_callv (X := _) (As := [.int (Int32.ofInt 2), .int (Int32.ofInt 3)]) (r := []) (b := A 46) (q := 46) 42 (gd rfl) rfl rfl rfl rfl rfl (ww_o rfl) (Nat.le_of_ble_eq_true rfl) (Nat.zero_le _) (Nat.zero_le _) (f_169_46 (by first | exact dq1 hd rfl | exact dq0 hd rfl | exact dq2 hd rfl | exact dq3 hd rfl | omega) hI (in_w 2 2 (in_c 2 rfl) rfl) (in_w 3 3 (in_c 3 rfl) rfl) e_46_3 e_46_4) (fun e u h => h) (fun v u h => ?_)
        obtain ⟨s39, hI39, hF39, z39, rfl, rfl, i39, p39⟩ := h
        show GG _ _ _ _ _ _ _ _ [.int z39] _ _ _
        have n42 : KL s39 := by have hL9 : Fr ([31], [], [(46, 2), (46, 3), (46, 4), (46, 5), (46, 6), (46, 7)], []) s s39 := (fr_tr rfl fr_rf hF39); exact kl_fr q_0 hL9 rfl
        have n42a : (z39).toInt ≠ 0 → (s39.2.2.1 30 0).toInt = nln s := by first | (intro h; exact absurd rfl h) | (intro h; exfalso; revert h; first | (unfold In at i39; omega) | (unfold In at i104; omega) | (unfold In at i144; omega))
        have n42b : (z39).toInt ≠ 0 → (s.2.2.1 2 0).toInt ≤ 3999 := by first | (intro h; exact absurd rfl h) | (intro h; exfalso; revert h; first | (unfold In at i39; omega) | (unfold In at i104; omega) | (unfold In at i144; omega))
        have n42c : ∀ k : Nat, (k : Int) < 7 * (s.2.2.1 2 0).toInt → s39.1 30 k = s.1 30 k := by have hL9 : Fr ([31], [], [(46, 2), (46, 3), (46, 4), (46, 5), (46, 6), (46, 7)], []) s s39 := (fr_tr rfl fr_rf hF39); exact fun k _ => by rw [hL9.1 30 rfl]
        have n42d : (z39).toInt ≠ 0 → ∀ a : Nat, TKN (s.1 47) (s.2.2.1 46 1).toInt.toNat a (s.2.2.1 46 4).toInt.toNat (s.2.2.1 46 2).toInt.toNat (s.2.2.1 46 3).toInt (s.2.2.1 46 5).toInt → ∃ c V, CMP (s.1 47) (s.2.2.1 46 1).toInt.toNat a (s.2.2.1 46 4).toInt.toNat c V (s39.2.2.1 46 2).toInt.toNat ∧ dkC (gvC s) c V ∧ gvC s39 = opC (gvC s) c V := by first | (intro h; exact absurd rfl h) | (intro h; exfalso; revert h; first | (unfold In at i39; omega) | (unfold In at i104; omega) | (unfold In at i144; omega))
        have n42e : (z39).toInt = 0 → ∀ a : Nat, TKN (s.1 47) (s.2.2.1 46 1).toInt.toNat a (s.2.2.1 46 4).toInt.toNat (s.2.2.1 46 2).toInt.toNat (s.2.2.1 46 3).toInt (s.2.2.1 46 5).toInt → CMX (s.1 47) (s.2.2.1 46 1).toInt.toNat a (s39.2.2.1 46 6).toInt (s39.2.2.1 46 7).toInt.toNat ∨ ∃ c V e, CMP (s.1 47) (s.2.2.1 46 1).toInt.toNat a (s39.2.2.1 46 7).toInt.toNat c V e ∧ ¬ dkC (gvC s) c V ∧ (s39.2.2.1 46 6).toInt = 4 := by intro _ a ha; refine Or.inl (Or.inl ⟨_, _, _, by rw [p39.2]; exact ha, q_4, ?_, p39.1⟩); first | (rintro ⟨h8, h9⟩; rw [← e_46_3] at h8; exact (have a0 := in_u ((inv_F hI 0 1000 rfl e_46_4)); have a1 := in_u ((inv_F hI 0 5 rfl e_46_3)); have a2 := in_u ((inv_F hI 0 1000 rfl e_46_1)); have a3 := in_u ((inv_F hI 0 1000 rfl e_46_2)); have a4 := in_u ((inv_F hI 448 28000 rfl e_30_0)); have a5 := in_u ((inv_F hI 0 32 rfl e_2_1)); have a6 := in_u ((inv_F hI 0 4000 rfl e_2_0)); have a7 := in_u ((in_c (-1) rfl)); have oc := oc_136_1_46; by omega)) | (rintro ⟨h8, h9⟩; rw [← e_46_5] at h9; unfold cmI at h9; exact (have a0 := in_u ((inv_F hI 0 1000 rfl e_46_4)); have a1 := in_u ((inv_F hI 0 5 rfl e_46_3)); have a2 := in_u ((inv_F hI 0 1000 rfl e_46_1)); have a3 := in_u ((inv_F hI 0 1000 rfl e_46_2)); have a4 := in_u ((inv_F hI 448 28000 rfl e_30_0)); have a5 := in_u ((inv_F hI 0 32 rfl e_2_1)); have a6 := in_u ((inv_F hI 0 4000 rfl e_2_0)); have a7 := in_u ((in_c (-1) rfl)); have oc := oc_136_1_46; by omega)) | (exfalso; have h9 := p30a (by exact (have a0 := in_u ((inv_F hI 0 1000 rfl e_46_4)); have a1 := in_u ((inv_F hI 0 5 rfl e_46_3)); have a2 := in_u ((inv_F hI 0 1000 rfl e_46_1)); have a3 := in_u ((inv_F hI 0 1000 rfl e_46_2)); have a4 := in_u ((inv_F hI 448 28000 rfl e_30_0)); have a5 := in_u ((inv_F hI 0 32 rfl e_2_1)); have a6 := in_u ((inv_F hI 0 4000 rfl e_2_0)); have a7 := in_u ((in_c (-1) rfl)); have oc := oc_136_1_46; by omega)); revert h9; decide)
        have n42f : (z39).toInt ≠ 0 → TQ s39 := by first | (intro h; exact absurd rfl h) | (intro h; exfalso; revert h; first | (unfold In at i39; omega) | (unfold In at i104; omega) | (unfold In at i144; omega))
        have n42g : (z39).toInt ≠ 0 → s39.2.2.1 46 6 = s.2.2.1 46 6 ∧ s39.2.2.1 46 7 = s.2.2.1 46 7 := by first | (intro h; exact absurd rfl h) | (intro h; exfalso; revert h; first | (unfold In at i39; omega) | (unfold In at i104; omega) | (unfold In at i144; omega))
        have n42h : (z39).toInt = 0 → 0 ≤ (s39.2.2.1 46 7).toInt := by intro _; rw [p39.2, ← e_46_4]; exact (have a0 := in_u ((inv_F hI 0 1000 rfl e_46_4)); have a1 := in_u ((inv_F hI 0 5 rfl e_46_3)); have a2 := in_u ((inv_F hI 0 1000 rfl e_46_1)); have a3 := in_u ((inv_F hI 0 1000 rfl e_46_2)); have a4 := in_u ((inv_F hI 448 28000 rfl e_30_0)); have a5 := in_u ((inv_F hI 0 32 rfl e_2_1)); have a6 := in_u ((inv_F hI 0 4000 rfl e_2_0)); have a7 := in_u ((in_c (-1) rfl)); have oc := oc_136_1_46; by omega)
        have n42i : (u_46_2).toInt ≤ (u_46_1).toInt := by exact (have a0 := in_u ((inv_F hI 0 1000 rfl e_46_4)); have a1 := in_u ((inv_F hI 0 5 rfl e_46_3)); have a2 := in_u ((inv_F hI 0 1000 rfl e_46_1)); have a3 := in_u ((inv_F hI 0 1000 rfl e_46_2)); have a4 := in_u ((inv_F hI 448 28000 rfl e_30_0)); have a5 := in_u ((inv_F hI 0 32 rfl e_2_1)); have a6 := in_u ((inv_F hI 0 4000 rfl e_2_0)); have a7 := in_u ((in_c (-1) rfl)); have oc := oc_136_1_46; by omega)
        have n42j : (s39.2.2.1 46 2).toInt ≤ (s39.2.2.1 46 1).toInt := by have b0 : u_46_2 = s39.2.2.1 46 2 := fr_F (e_46_2) hF39 rfl; have b1 : u_46_1 = s39.2.2.1 46 1 := fr_F (e_46_1) hF39 rfl; rw [← b0, ← b1]; exact n42i
        have n42k : (u_2_0).toInt ≤ (u_2_0).toInt := by exact (have a0 := in_u ((inv_F hI 0 1000 rfl e_46_4)); have a1 := in_u ((inv_F hI 0 5 rfl e_46_3)); have a2 := in_u ((inv_F hI 0 1000 rfl e_46_1)); have a3 := in_u ((inv_F hI 0 1000 rfl e_46_2)); have a4 := in_u ((inv_F hI 448 28000 rfl e_30_0)); have a5 := in_u ((inv_F hI 0 32 rfl e_2_1)); have a6 := in_u ((inv_F hI 0 4000 rfl e_2_0)); have a7 := in_u ((in_c (-1) rfl)); have oc := oc_136_1_46; by omega)
        have n42l : (s.2.2.1 2 0).toInt ≤ (s39.2.2.1 2 0).toInt := by have b0 : u_2_0 = s39.2.2.1 2 0 := fr_F (e_2_0) hF39 rfl; first | (rw [← b0, ← e_2_0]; exact n42k) | (rw [← b0]; exact n42k)
        exact g_ireturn (gd rfl) rfl (nb01 (in_w 0 1 i39 rfl)) (hP _ _ ⟨(A 30), s39, hI39, (fr_tr rfl fr_rf hF39), n42j, n42l, z39, rfl, (by rw [ax_id]), in_w 0 1 i39 rfl, n42, n42a, n42b, n42c, n42d, n42e, n42f, n42g, n42h⟩)
  · skip
    have i10 := r_eq1 1 1 c10 (inv_F hI 0 5 rfl e_46_3) (in_c 1 rfl) rfl
    refine g_aload_n 14 (gd rfl) rfl rfl ?_
    refine g_getI 17 (gd rfl) rfl rfl rfl (fun z14 e14 => ?_)
    have q14 : u_46_5 = z14 := (e_46_5).trans e14.symm
    subst q14
    have i17 : In u_46_5 0 25 := by rw [e14]; exact q_1 (by rw [← e6]; exact c10.trans (by decide))
    refine g_goto 21 (gd rfl) rfl ?_
    refine g_istore_n 22 (gd rfl) rfl (Nat.le_of_ble_eq_true rfl) ?_
    refine g_iload_n 23 (gd rfl) rfl rfl ?_
    refine g_calls (As := [.int u_46_5]) (r := []) 26 (gd rfl) rfl rfl rfl rfl rfl (Nat.le_of_ble_eq_true rfl) (mc := 0) (ms := 0) (Nat.zero_le _) (Nat.zero_le _) (P := fun v u => _) ?_ (fun v u h => h)
    intro po23 xx23 hp23 hx23
    refine g_enter2 (k := 137) (N := 300) (by first | exact dq1 hd rfl | exact dq0 hd rfl | exact dq2 hd rfl | exact dq3 hd rfl | omega) rfl (Nat.le_of_ble_eq_true rfl) ?_
    refine g_iload_n 1 (gd rfl) rfl rfl ?_
    refine g_lsw [(0, 47), (13, 44), (19, 50), (22, 53)] 56 (gd rfl) rfl rfl rfl ⟨fun c23x1 => ?_, fun c23x1_0 => ⟨fun c23x1 => ?_, fun c23x1_1 => ⟨fun c23x1 => ?_, fun c23x1_2 => ⟨fun c23x1 => ?_, fun c23x1_3 => ?_⟩⟩⟩⟩
    · skip
      have i23x1 := sw_eq c23x1
      refine g_ldcs 2 49 (gd rfl) rfl rfl ?_
      refine g_areturn (gd rfl) rfl (hp23 _ _ ?_)
      show GG _ _ _ _ _ _ _ _ [.ref (zq Z (Int32.ofInt 2))] _ _ _
      refine g_astore 28 (gd rfl) rfl (Nat.le_of_ble_eq_true rfl) ?_
      refine g_aload 30 (gd rfl) rfl rfl ?_
      have i30 : In (Int32.ofInt 2) 0 6 := in_w 0 6 (in_c 2 rfl) rfl
      refine g_callS (X := _) (As := []) (r := []) (x := (Int32.ofInt 2)) 33 (gd rfl) rfl rfl rfl zm_428 rfl rfl rfl i30 (Nat.le_of_ble_eq_true rfl) (f_428 i30 (by omega)) (fun e u h => h) (fun v u h => ?_)
      obtain ⟨z30, rfl, rfl, i30a, p30, p30a⟩ := h
      show GG _ _ _ _ _ _ _ _ [.int z30] _ _ _
      refine g_if_eq 36 43 (gd rfl) rfl rfl (fun c33 => ?_) (fun c33 => ?_)
      · skip
        have i33 := z_eq 0 0 c33 i30a rfl
        refine g_iconst 0 44 (gd rfl) rfl rfl ?_
        refine g_istore 46 (gd rfl) rfl (Nat.le_of_ble_eq_true rfl) ?_
        have n46 : (u_46_2).toInt ≤ (u_46_1).toInt := by exact (have a0 := in_u i23x1; have a1 := in_u ((inv_F hI 0 1000 rfl e_46_4)); have a2 := in_u i10; have a3 := in_u ((inv_F hI 0 1000 rfl e_46_1)); have a4 := in_u ((inv_F hI 0 1000 rfl e_46_2)); have a5 := in_u ((inv_F hI 448 28000 rfl e_30_0)); have a6 := in_u ((inv_F hI 0 32 rfl e_2_1)); have a7 := in_u ((inv_F hI 0 4000 rfl e_2_0)); have a8 := in_u ((in_c 0 rfl)); have oc := oc_136_1_46; by omega)
        have n46a : (u_2_0).toInt ≤ (u_2_0).toInt := by exact (have a0 := in_u i23x1; have a1 := in_u ((inv_F hI 0 1000 rfl e_46_4)); have a2 := in_u i10; have a3 := in_u ((inv_F hI 0 1000 rfl e_46_1)); have a4 := in_u ((inv_F hI 0 1000 rfl e_46_2)); have a5 := in_u ((inv_F hI 448 28000 rfl e_30_0)); have a6 := in_u ((inv_F hI 0 32 rfl e_2_1)); have a7 := in_u ((inv_F hI 0 4000 rfl e_2_0)); have a8 := in_u ((in_c 0 rfl)); have oc := oc_136_1_46; by omega)
        have n46b : (u_46_5).toInt = 13 → ((Int32.ofInt 2)).toInt = 1 := by intro h; first | decide | (exfalso; exact (have a0 := in_u i23x1; have a1 := in_u ((inv_F hI 0 1000 rfl e_46_4)); have a2 := in_u i10; have a3 := in_u ((inv_F hI 0 1000 rfl e_46_1)); have a4 := in_u ((inv_F hI 0 1000 rfl e_46_2)); have a5 := in_u ((inv_F hI 448 28000 rfl e_30_0)); have a6 := in_u ((inv_F hI 0 32 rfl e_2_1)); have a7 := in_u ((inv_F hI 0 4000 rfl e_2_0)); have a8 := in_u ((in_c 0 rfl)); have oc := oc_136_1_46; by omega))
        have n46c : ((Int32.ofInt 2)).toInt = 1 → 1 ≤ ((Int32.ofInt 0)).toInt → In (s.1 31 0) 0 25 := by intro _ h; exfalso; revert h; decide
        have n46d : Fr ([31], [], [(46, 2), (46, 3), (46, 4), (46, 5), (46, 6), (46, 7)], []) s s := by exact fr_rf
        have n46e : SHQ (u_46_5).toInt ((Int32.ofInt 2)).toInt := by first | (exfalso; have h9 := p30 (by exact (have a0 := in_u i23x1; have a1 := in_u ((inv_F hI 0 1000 rfl e_46_4)); have a2 := in_u i10; have a3 := in_u ((inv_F hI 0 1000 rfl e_46_1)); have a4 := in_u ((inv_F hI 0 1000 rfl e_46_2)); have a5 := in_u ((inv_F hI 448 28000 rfl e_30_0)); have a6 := in_u ((inv_F hI 0 32 rfl e_2_1)); have a7 := in_u ((inv_F hI 0 4000 rfl e_2_0)); have a8 := in_u ((in_c 0 rfl)); have oc := oc_136_1_46; by omega)); revert h9; decide) | exact Or.inl ⟨by exact (have a0 := in_u i23x1; have a1 := in_u ((inv_F hI 0 1000 rfl e_46_4)); have a2 := in_u i10; have a3 := in_u ((inv_F hI 0 1000 rfl e_46_1)); have a4 := in_u ((inv_F hI 0 1000 rfl e_46_2)); have a5 := in_u ((inv_F hI 448 28000 rfl e_30_0)); have a6 := in_u ((inv_F hI 0 32 rfl e_2_1)); have a7 := in_u ((inv_F hI 0 4000 rfl e_2_0)); have a8 := in_u ((in_c 0 rfl)); have oc := oc_136_1_46; by omega), by decide⟩ | exact Or.inr (Or.inl ⟨by exact (have a0 := in_u i23x1; have a1 := in_u ((inv_F hI 0 1000 rfl e_46_4)); have a2 := in_u i10; have a3 := in_u ((inv_F hI 0 1000 rfl e_46_1)); have a4 := in_u ((inv_F hI 0 1000 rfl e_46_2)); have a5 := in_u ((inv_F hI 448 28000 rfl e_30_0)); have a6 := in_u ((inv_F hI 0 32 rfl e_2_1)); have a7 := in_u ((inv_F hI 0 4000 rfl e_2_0)); have a8 := in_u ((in_c 0 rfl)); have oc := oc_136_1_46; by omega), by decide⟩) | exact Or.inr (Or.inr (Or.inl ⟨by exact (have a0 := in_u i23x1; have a1 := in_u ((inv_F hI 0 1000 rfl e_46_4)); have a2 := in_u i10; have a3 := in_u ((inv_F hI 0 1000 rfl e_46_1)); have a4 := in_u ((inv_F hI 0 1000 rfl e_46_2)); have a5 := in_u ((inv_F hI 448 28000 rfl e_30_0)); have a6 := in_u ((inv_F hI 0 32 rfl e_2_1)); have a7 := in_u ((inv_F hI 0 4000 rfl e_2_0)); have a8 := in_u ((in_c 0 rfl)); have oc := oc_136_1_46; by omega), by decide⟩)) | exact Or.inr (Or.inr (Or.inr ⟨by exact (have a0 := in_u i23x1; have a1 := in_u ((inv_F hI 0 1000 rfl e_46_4)); have a2 := in_u i10; have a3 := in_u ((inv_F hI 0 1000 rfl e_46_1)); have a4 := in_u ((inv_F hI 0 1000 rfl e_46_2)); have a5 := in_u ((inv_F hI 448 28000 rfl e_30_0)); have a6 := in_u ((inv_F hI 0 32 rfl e_2_1)); have a7 := in_u ((inv_F hI 0 4000 rfl e_2_0)); have a8 := in_u ((in_c 0 rfl)); have oc := oc_136_1_46; by omega), by decide⟩))
        have n46f : (s.2.2.1 46 3).toInt = 1 ∧ (s.2.2.1 46 5).toInt = (u_46_5).toInt ∧ (u_46_4) = s.2.2.1 46 4 := by first | (exfalso; have h9 := p30 (by exact (have a0 := in_u i23x1; have a1 := in_u ((inv_F hI 0 1000 rfl e_46_4)); have a2 := in_u i10; have a3 := in_u ((inv_F hI 0 1000 rfl e_46_1)); have a4 := in_u ((inv_F hI 0 1000 rfl e_46_2)); have a5 := in_u ((inv_F hI 448 28000 rfl e_30_0)); have a6 := in_u ((inv_F hI 0 32 rfl e_2_1)); have a7 := in_u ((inv_F hI 0 4000 rfl e_2_0)); have a8 := in_u ((in_c 0 rfl)); have oc := oc_136_1_46; by omega)); revert h9; decide) | exact ⟨by rw [← e_46_3]; exact (have a0 := in_u i23x1; have a1 := in_u ((inv_F hI 0 1000 rfl e_46_4)); have a2 := in_u i10; have a3 := in_u ((inv_F hI 0 1000 rfl e_46_1)); have a4 := in_u ((inv_F hI 0 1000 rfl e_46_2)); have a5 := in_u ((inv_F hI 448 28000 rfl e_30_0)); have a6 := in_u ((inv_F hI 0 32 rfl e_2_1)); have a7 := in_u ((inv_F hI 0 4000 rfl e_2_0)); have a8 := in_u ((in_c 0 rfl)); have oc := oc_136_1_46; by omega), by rw [← e_46_5], e_46_4⟩
        have n46g : ((Int32.ofInt 0)).toInt ≤ (cmA (u_46_5).toInt : Int) := by exact Int.natCast_nonneg _
        have n46h : ∀ a : Nat, TKN (s.1 47) (s.2.2.1 46 1).toInt.toNat a (s.2.2.1 46 4).toInt.toNat (s.2.2.1 46 2).toInt.toNat (s.2.2.1 46 3).toInt (s.2.2.1 46 5).toInt → (∀ j, j < ((Int32.ofInt 0)).toInt.toNat → ∃ q f, TSQ (s.1 47) (s.2.2.1 46 1).toInt.toNat a (j + 1) q f (cmK (u_46_5).toInt (j + 1)) (s.1 31 j).toInt) ∧ ∃ p k v, TSQ (s.1 47) (s.2.2.1 46 1).toInt.toNat a ((Int32.ofInt 0)).toInt.toNat p (u_46_2).toInt.toNat k v := by intro a ha; exact ⟨fun j hj => absurd hj (by have h9 : (Int32.ofInt 0).toInt.toNat = 0 := rfl; omega), _, _, _, by rw [e_46_2]; exact ha⟩
        have n46i : s.2.2.1 46 6 = s.2.2.1 46 6 ∧ s.2.2.1 46 7 = s.2.2.1 46 7 := by exact ⟨rfl, rfl⟩
        exact gg_w (by first | exact Nat.le_of_ble_eq_true rfl | omega) (gg_f (gf_cons rfl (gf_cons rfl (gf_cons rfl (gf_cons rfl (gf_cons rfl (gf_cons rfl gf_nil)))))) (ct46 6 s u_46_4 u_46_5 (Int32.ofInt 2) (Int32.ofInt 0) u_46_2 u_2_0 u_2_1 u_30_0 hI fr_rf (in_w 0 1000 (inv_F hI 0 1000 rfl e_46_4) rfl) (in_w (-1) 25 i23x1 rfl) (in_w 1 5 (in_c 2 rfl) rfl) (in_w 0 5 (in_c 0 rfl) rfl) e_46_2 e_2_0 e_2_1 e_30_0 n46 n46a n46b n46c n46d n46e n46f n46g n46h n46i (m_in 6 (in_w 0 5 (in_c 0 rfl) rfl) rfl)))
      · skip
        have i33 := z_ne 1 1 c33 i30a rfl
        refine g_aload_n 37 (gd rfl) rfl rfl ?_
        refine g_iconst 2 38 (gd rfl) rfl rfl ?_
        refine g_iconst 3 39 (gd rfl) rfl rfl ?_
        refine g_callv (X := _) (As := [.int (Int32.ofInt 2), .int (Int32.ofInt 3)]) (r := []) (b := A 46) (q := 46) 42 (gd rfl) rfl rfl rfl rfl rfl (ww_o rfl) (Nat.le_of_ble_eq_true rfl) (Nat.zero_le _) (Nat.zero_le _) (f_169_46 (by first | exact dq1 hd rfl | exact dq0 hd rfl | exact dq2 hd rfl | exact dq3 hd rfl | omega) hI (in_w 2 2 (in_c 2 rfl) rfl) (in_w 3 3 (in_c 3 rfl) rfl) e_46_3 e_46_4) (fun e u h => h) (fun v u h => ?_)
        obtain ⟨s39, hI39, hF39, z39, rfl, rfl, i39, p39⟩ := h
        show GG _ _ _ _ _ _ _ _ [.int z39] _ _ _
        have n42 : KL s39 := by have hL9 : Fr ([31], [], [(46, 2), (46, 3), (46, 4), (46, 5), (46, 6), (46, 7)], []) s s39 := (fr_tr rfl fr_rf hF39); exact kl_fr q_0 hL9 rfl
        have n42a : (z39).toInt ≠ 0 → (s39.2.2.1 30 0).toInt = nln s := by first | (intro h; exact absurd rfl h) | (intro h; exfalso; revert h; first | (unfold In at i39; omega) | (unfold In at i104; omega) | (unfold In at i144; omega))
        have n42b : (z39).toInt ≠ 0 → (s.2.2.1 2 0).toInt ≤ 3999 := by first | (intro h; exact absurd rfl h) | (intro h; exfalso; revert h; first | (unfold In at i39; omega) | (unfold In at i104; omega) | (unfold In at i144; omega))
        have n42c : ∀ k : Nat, (k : Int) < 7 * (s.2.2.1 2 0).toInt → s39.1 30 k = s.1 30 k := by have hL9 : Fr ([31], [], [(46, 2), (46, 3), (46, 4), (46, 5), (46, 6), (46, 7)], []) s s39 := (fr_tr rfl fr_rf hF39); exact fun k _ => by rw [hL9.1 30 rfl]
        have n42d : (z39).toInt ≠ 0 → ∀ a : Nat, TKN (s.1 47) (s.2.2.1 46 1).toInt.toNat a (s.2.2.1 46 4).toInt.toNat (s.2.2.1 46 2).toInt.toNat (s.2.2.1 46 3).toInt (s.2.2.1 46 5).toInt → ∃ c V, CMP (s.1 47) (s.2.2.1 46 1).toInt.toNat a (s.2.2.1 46 4).toInt.toNat c V (s39.2.2.1 46 2).toInt.toNat ∧ dkC (gvC s) c V ∧ gvC s39 = opC (gvC s) c V := by first | (intro h; exact absurd rfl h) | (intro h; exfalso; revert h; first | (unfold In at i39; omega) | (unfold In at i104; omega) | (unfold In at i144; omega))
        have n42e : (z39).toInt = 0 → ∀ a : Nat, TKN (s.1 47) (s.2.2.1 46 1).toInt.toNat a (s.2.2.1 46 4).toInt.toNat (s.2.2.1 46 2).toInt.toNat (s.2.2.1 46 3).toInt (s.2.2.1 46 5).toInt → CMX (s.1 47) (s.2.2.1 46 1).toInt.toNat a (s39.2.2.1 46 6).toInt (s39.2.2.1 46 7).toInt.toNat ∨ ∃ c V e, CMP (s.1 47) (s.2.2.1 46 1).toInt.toNat a (s39.2.2.1 46 7).toInt.toNat c V e ∧ ¬ dkC (gvC s) c V ∧ (s39.2.2.1 46 6).toInt = 4 := by intro _ a ha; refine Or.inl (Or.inl ⟨_, _, _, by rw [p39.2]; exact ha, q_4, ?_, p39.1⟩); first | (rintro ⟨h8, h9⟩; rw [← e_46_3] at h8; exact (have a0 := in_u i23x1; have a1 := in_u ((inv_F hI 0 1000 rfl e_46_4)); have a2 := in_u i10; have a3 := in_u ((inv_F hI 0 1000 rfl e_46_1)); have a4 := in_u ((inv_F hI 0 1000 rfl e_46_2)); have a5 := in_u ((inv_F hI 448 28000 rfl e_30_0)); have a6 := in_u ((inv_F hI 0 32 rfl e_2_1)); have a7 := in_u ((inv_F hI 0 4000 rfl e_2_0)); have oc := oc_136_1_46; by omega)) | (rintro ⟨h8, h9⟩; rw [← e_46_5] at h9; unfold cmI at h9; exact (have a0 := in_u i23x1; have a1 := in_u ((inv_F hI 0 1000 rfl e_46_4)); have a2 := in_u i10; have a3 := in_u ((inv_F hI 0 1000 rfl e_46_1)); have a4 := in_u ((inv_F hI 0 1000 rfl e_46_2)); have a5 := in_u ((inv_F hI 448 28000 rfl e_30_0)); have a6 := in_u ((inv_F hI 0 32 rfl e_2_1)); have a7 := in_u ((inv_F hI 0 4000 rfl e_2_0)); have oc := oc_136_1_46; by omega)) | (exfalso; have h9 := p30a (by exact (have a0 := in_u i23x1; have a1 := in_u ((inv_F hI 0 1000 rfl e_46_4)); have a2 := in_u i10; have a3 := in_u ((inv_F hI 0 1000 rfl e_46_1)); have a4 := in_u ((inv_F hI 0 1000 rfl e_46_2)); have a5 := in_u ((inv_F hI 448 28000 rfl e_30_0)); have a6 := in_u ((inv_F hI 0 32 rfl e_2_1)); have a7 := in_u ((inv_F hI 0 4000 rfl e_2_0)); have oc := oc_136_1_46; by omega)); revert h9; decide)
        have n42f : (z39).toInt ≠ 0 → TQ s39 := by first | (intro h; exact absurd rfl h) | (intro h; exfalso; revert h; first | (unfold In at i39; omega) | (unfold In at i104; omega) | (unfold In at i144; omega))
        have n42g : (z39).toInt ≠ 0 → s39.2.2.1 46 6 = s.2.2.1 46 6 ∧ s39.2.2.1 46 7 = s.2.2.1 46 7 := by first | (intro h; exact absurd rfl h) | (intro h; exfalso; revert h; first | (unfold In at i39; omega) | (unfold In at i104; omega) | (unfold In at i144; omega))
        have n42h : (z39).toInt = 0 → 0 ≤ (s39.2.2.1 46 7).toInt := by intro _; rw [p39.2, ← e_46_4]; exact (have a0 := in_u i23x1; have a1 := in_u ((inv_F hI 0 1000 rfl e_46_4)); have a2 := in_u i10; have a3 := in_u ((inv_F hI 0 1000 rfl e_46_1)); have a4 := in_u ((inv_F hI 0 1000 rfl e_46_2)); have a5 := in_u ((inv_F hI 448 28000 rfl e_30_0)); have a6 := in_u ((inv_F hI 0 32 rfl e_2_1)); have a7 := in_u ((inv_F hI 0 4000 rfl e_2_0)); have oc := oc_136_1_46; by omega)
        have n42i : (u_46_2).toInt ≤ (u_46_1).toInt := by exact (have a0 := in_u i23x1; have a1 := in_u ((inv_F hI 0 1000 rfl e_46_4)); have a2 := in_u i10; have a3 := in_u ((inv_F hI 0 1000 rfl e_46_1)); have a4 := in_u ((inv_F hI 0 1000 rfl e_46_2)); have a5 := in_u ((inv_F hI 448 28000 rfl e_30_0)); have a6 := in_u ((inv_F hI 0 32 rfl e_2_1)); have a7 := in_u ((inv_F hI 0 4000 rfl e_2_0)); have oc := oc_136_1_46; by omega)
        have n42j : (s39.2.2.1 46 2).toInt ≤ (s39.2.2.1 46 1).toInt := by have b0 : u_46_2 = s39.2.2.1 46 2 := fr_F (e_46_2) hF39 rfl; have b1 : u_46_1 = s39.2.2.1 46 1 := fr_F (e_46_1) hF39 rfl; rw [← b0, ← b1]; exact n42i
        have n42k : (u_2_0).toInt ≤ (u_2_0).toInt := by exact (have a0 := in_u i23x1; have a1 := in_u ((inv_F hI 0 1000 rfl e_46_4)); have a2 := in_u i10; have a3 := in_u ((inv_F hI 0 1000 rfl e_46_1)); have a4 := in_u ((inv_F hI 0 1000 rfl e_46_2)); have a5 := in_u ((inv_F hI 448 28000 rfl e_30_0)); have a6 := in_u ((inv_F hI 0 32 rfl e_2_1)); have a7 := in_u ((inv_F hI 0 4000 rfl e_2_0)); have oc := oc_136_1_46; by omega)
        have n42l : (s.2.2.1 2 0).toInt ≤ (s39.2.2.1 2 0).toInt := by have b0 : u_2_0 = s39.2.2.1 2 0 := fr_F (e_2_0) hF39 rfl; first | (rw [← b0, ← e_2_0]; exact n42k) | (rw [← b0]; exact n42k)
        exact g_ireturn (gd rfl) rfl (nb01 (in_w 0 1 i39 rfl)) (hP _ _ ⟨(A 30), s39, hI39, (fr_tr rfl fr_rf hF39), n42j, n42l, z39, rfl, (by rw [ax_id]), in_w 0 1 i39 rfl, n42, n42a, n42b, n42c, n42d, n42e, n42f, n42g, n42h⟩)
    · skip
      have i23x1 := sw_eq c23x1
      refine g_ldcs 1 46 (gd rfl) rfl rfl ?_
      refine g_areturn (gd rfl) rfl (hp23 _ _ ?_)
      show GG _ _ _ _ _ _ _ _ [.ref (zq Z (Int32.ofInt 1))] _ _ _
      refine g_astore 28 (gd rfl) rfl (Nat.le_of_ble_eq_true rfl) ?_
      refine g_aload 30 (gd rfl) rfl rfl ?_
      have i30 : In (Int32.ofInt 1) 0 6 := in_w 0 6 (in_c 1 rfl) rfl
      refine g_callS (X := _) (As := []) (r := []) (x := (Int32.ofInt 1)) 33 (gd rfl) rfl rfl rfl zm_428 rfl rfl rfl i30 (Nat.le_of_ble_eq_true rfl) (f_428 i30 (by omega)) (fun e u h => h) (fun v u h => ?_)
      obtain ⟨z30, rfl, rfl, i30a, p30, p30a⟩ := h
      show GG _ _ _ _ _ _ _ _ [.int z30] _ _ _
      refine g_if_eq 36 43 (gd rfl) rfl rfl (fun c33 => ?_) (fun c33 => ?_)
      · skip
        have i33 := z_eq 0 0 c33 i30a rfl
        refine g_iconst 0 44 (gd rfl) rfl rfl ?_
        refine g_istore 46 (gd rfl) rfl (Nat.le_of_ble_eq_true rfl) ?_
        have n46 : (u_46_2).toInt ≤ (u_46_1).toInt := by exact (have a0 := in_u i23x1; have a1 := in_u ((inv_F hI 0 1000 rfl e_46_4)); have a2 := in_u i10; have a3 := in_u ((inv_F hI 0 1000 rfl e_46_1)); have a4 := in_u ((inv_F hI 0 1000 rfl e_46_2)); have a5 := in_u ((inv_F hI 448 28000 rfl e_30_0)); have a6 := in_u ((inv_F hI 0 32 rfl e_2_1)); have a7 := in_u ((inv_F hI 0 4000 rfl e_2_0)); have a8 := in_u ((in_c 0 rfl)); have oc := oc_136_1_46; by omega)
        have n46a : (u_2_0).toInt ≤ (u_2_0).toInt := by exact (have a0 := in_u i23x1; have a1 := in_u ((inv_F hI 0 1000 rfl e_46_4)); have a2 := in_u i10; have a3 := in_u ((inv_F hI 0 1000 rfl e_46_1)); have a4 := in_u ((inv_F hI 0 1000 rfl e_46_2)); have a5 := in_u ((inv_F hI 448 28000 rfl e_30_0)); have a6 := in_u ((inv_F hI 0 32 rfl e_2_1)); have a7 := in_u ((inv_F hI 0 4000 rfl e_2_0)); have a8 := in_u ((in_c 0 rfl)); have oc := oc_136_1_46; by omega)
        have n46b : (u_46_5).toInt = 13 → ((Int32.ofInt 1)).toInt = 1 := by intro h; first | decide | (exfalso; exact (have a0 := in_u i23x1; have a1 := in_u ((inv_F hI 0 1000 rfl e_46_4)); have a2 := in_u i10; have a3 := in_u ((inv_F hI 0 1000 rfl e_46_1)); have a4 := in_u ((inv_F hI 0 1000 rfl e_46_2)); have a5 := in_u ((inv_F hI 448 28000 rfl e_30_0)); have a6 := in_u ((inv_F hI 0 32 rfl e_2_1)); have a7 := in_u ((inv_F hI 0 4000 rfl e_2_0)); have a8 := in_u ((in_c 0 rfl)); have oc := oc_136_1_46; by omega))
        have n46c : ((Int32.ofInt 1)).toInt = 1 → 1 ≤ ((Int32.ofInt 0)).toInt → In (s.1 31 0) 0 25 := by intro _ h; exfalso; revert h; decide
        have n46d : Fr ([31], [], [(46, 2), (46, 3), (46, 4), (46, 5), (46, 6), (46, 7)], []) s s := by exact fr_rf
        have n46e : SHQ (u_46_5).toInt ((Int32.ofInt 1)).toInt := by first | (exfalso; have h9 := p30 (by exact (have a0 := in_u i23x1; have a1 := in_u ((inv_F hI 0 1000 rfl e_46_4)); have a2 := in_u i10; have a3 := in_u ((inv_F hI 0 1000 rfl e_46_1)); have a4 := in_u ((inv_F hI 0 1000 rfl e_46_2)); have a5 := in_u ((inv_F hI 448 28000 rfl e_30_0)); have a6 := in_u ((inv_F hI 0 32 rfl e_2_1)); have a7 := in_u ((inv_F hI 0 4000 rfl e_2_0)); have a8 := in_u ((in_c 0 rfl)); have oc := oc_136_1_46; by omega)); revert h9; decide) | exact Or.inl ⟨by exact (have a0 := in_u i23x1; have a1 := in_u ((inv_F hI 0 1000 rfl e_46_4)); have a2 := in_u i10; have a3 := in_u ((inv_F hI 0 1000 rfl e_46_1)); have a4 := in_u ((inv_F hI 0 1000 rfl e_46_2)); have a5 := in_u ((inv_F hI 448 28000 rfl e_30_0)); have a6 := in_u ((inv_F hI 0 32 rfl e_2_1)); have a7 := in_u ((inv_F hI 0 4000 rfl e_2_0)); have a8 := in_u ((in_c 0 rfl)); have oc := oc_136_1_46; by omega), by decide⟩ | exact Or.inr (Or.inl ⟨by exact (have a0 := in_u i23x1; have a1 := in_u ((inv_F hI 0 1000 rfl e_46_4)); have a2 := in_u i10; have a3 := in_u ((inv_F hI 0 1000 rfl e_46_1)); have a4 := in_u ((inv_F hI 0 1000 rfl e_46_2)); have a5 := in_u ((inv_F hI 448 28000 rfl e_30_0)); have a6 := in_u ((inv_F hI 0 32 rfl e_2_1)); have a7 := in_u ((inv_F hI 0 4000 rfl e_2_0)); have a8 := in_u ((in_c 0 rfl)); have oc := oc_136_1_46; by omega), by decide⟩) | exact Or.inr (Or.inr (Or.inl ⟨by exact (have a0 := in_u i23x1; have a1 := in_u ((inv_F hI 0 1000 rfl e_46_4)); have a2 := in_u i10; have a3 := in_u ((inv_F hI 0 1000 rfl e_46_1)); have a4 := in_u ((inv_F hI 0 1000 rfl e_46_2)); have a5 := in_u ((inv_F hI 448 28000 rfl e_30_0)); have a6 := in_u ((inv_F hI 0 32 rfl e_2_1)); have a7 := in_u ((inv_F hI 0 4000 rfl e_2_0)); have a8 := in_u ((in_c 0 rfl)); have oc := oc_136_1_46; by omega), by decide⟩)) | exact Or.inr (Or.inr (Or.inr ⟨by exact (have a0 := in_u i23x1; have a1 := in_u ((inv_F hI 0 1000 rfl e_46_4)); have a2 := in_u i10; have a3 := in_u ((inv_F hI 0 1000 rfl e_46_1)); have a4 := in_u ((inv_F hI 0 1000 rfl e_46_2)); have a5 := in_u ((inv_F hI 448 28000 rfl e_30_0)); have a6 := in_u ((inv_F hI 0 32 rfl e_2_1)); have a7 := in_u ((inv_F hI 0 4000 rfl e_2_0)); have a8 := in_u ((in_c 0 rfl)); have oc := oc_136_1_46; by omega), by decide⟩))
        have n46f : (s.2.2.1 46 3).toInt = 1 ∧ (s.2.2.1 46 5).toInt = (u_46_5).toInt ∧ (u_46_4) = s.2.2.1 46 4 := by first | (exfalso; have h9 := p30 (by exact (have a0 := in_u i23x1; have a1 := in_u ((inv_F hI 0 1000 rfl e_46_4)); have a2 := in_u i10; have a3 := in_u ((inv_F hI 0 1000 rfl e_46_1)); have a4 := in_u ((inv_F hI 0 1000 rfl e_46_2)); have a5 := in_u ((inv_F hI 448 28000 rfl e_30_0)); have a6 := in_u ((inv_F hI 0 32 rfl e_2_1)); have a7 := in_u ((inv_F hI 0 4000 rfl e_2_0)); have a8 := in_u ((in_c 0 rfl)); have oc := oc_136_1_46; by omega)); revert h9; decide) | exact ⟨by rw [← e_46_3]; exact (have a0 := in_u i23x1; have a1 := in_u ((inv_F hI 0 1000 rfl e_46_4)); have a2 := in_u i10; have a3 := in_u ((inv_F hI 0 1000 rfl e_46_1)); have a4 := in_u ((inv_F hI 0 1000 rfl e_46_2)); have a5 := in_u ((inv_F hI 448 28000 rfl e_30_0)); have a6 := in_u ((inv_F hI 0 32 rfl e_2_1)); have a7 := in_u ((inv_F hI 0 4000 rfl e_2_0)); have a8 := in_u ((in_c 0 rfl)); have oc := oc_136_1_46; by omega), by rw [← e_46_5], e_46_4⟩
        have n46g : ((Int32.ofInt 0)).toInt ≤ (cmA (u_46_5).toInt : Int) := by exact Int.natCast_nonneg _
        have n46h : ∀ a : Nat, TKN (s.1 47) (s.2.2.1 46 1).toInt.toNat a (s.2.2.1 46 4).toInt.toNat (s.2.2.1 46 2).toInt.toNat (s.2.2.1 46 3).toInt (s.2.2.1 46 5).toInt → (∀ j, j < ((Int32.ofInt 0)).toInt.toNat → ∃ q f, TSQ (s.1 47) (s.2.2.1 46 1).toInt.toNat a (j + 1) q f (cmK (u_46_5).toInt (j + 1)) (s.1 31 j).toInt) ∧ ∃ p k v, TSQ (s.1 47) (s.2.2.1 46 1).toInt.toNat a ((Int32.ofInt 0)).toInt.toNat p (u_46_2).toInt.toNat k v := by intro a ha; exact ⟨fun j hj => absurd hj (by have h9 : (Int32.ofInt 0).toInt.toNat = 0 := rfl; omega), _, _, _, by rw [e_46_2]; exact ha⟩
        have n46i : s.2.2.1 46 6 = s.2.2.1 46 6 ∧ s.2.2.1 46 7 = s.2.2.1 46 7 := by exact ⟨rfl, rfl⟩
        exact gg_w (by first | exact Nat.le_of_ble_eq_true rfl | omega) (gg_f (gf_cons rfl (gf_cons rfl (gf_cons rfl (gf_cons rfl (gf_cons rfl (gf_cons rfl gf_nil)))))) (ct46 6 s u_46_4 u_46_5 (Int32.ofInt 1) (Int32.ofInt 0) u_46_2 u_2_0 u_2_1 u_30_0 hI fr_rf (in_w 0 1000 (inv_F hI 0 1000 rfl e_46_4) rfl) (in_w (-1) 25 i23x1 rfl) (in_w 1 5 (in_c 1 rfl) rfl) (in_w 0 5 (in_c 0 rfl) rfl) e_46_2 e_2_0 e_2_1 e_30_0 n46 n46a n46b n46c n46d n46e n46f n46g n46h n46i (m_in 6 (in_w 0 5 (in_c 0 rfl) rfl) rfl)))
      · skip
        have i33 := z_ne 1 1 c33 i30a rfl
        refine g_aload_n 37 (gd rfl) rfl rfl ?_
        refine g_iconst 2 38 (gd rfl) rfl rfl ?_
        refine g_iconst 3 39 (gd rfl) rfl rfl ?_
        refine g_callv (X := _) (As := [.int (Int32.ofInt 2), .int (Int32.ofInt 3)]) (r := []) (b := A 46) (q := 46) 42 (gd rfl) rfl rfl rfl rfl rfl (ww_o rfl) (Nat.le_of_ble_eq_true rfl) (Nat.zero_le _) (Nat.zero_le _) (f_169_46 (by first | exact dq1 hd rfl | exact dq0 hd rfl | exact dq2 hd rfl | exact dq3 hd rfl | omega) hI (in_w 2 2 (in_c 2 rfl) rfl) (in_w 3 3 (in_c 3 rfl) rfl) e_46_3 e_46_4) (fun e u h => h) (fun v u h => ?_)
        obtain ⟨s39, hI39, hF39, z39, rfl, rfl, i39, p39⟩ := h
        show GG _ _ _ _ _ _ _ _ [.int z39] _ _ _
        have n42 : KL s39 := by have hL9 : Fr ([31], [], [(46, 2), (46, 3), (46, 4), (46, 5), (46, 6), (46, 7)], []) s s39 := (fr_tr rfl fr_rf hF39); exact kl_fr q_0 hL9 rfl
        have n42a : (z39).toInt ≠ 0 → (s39.2.2.1 30 0).toInt = nln s := by first | (intro h; exact absurd rfl h) | (intro h; exfalso; revert h; first | (unfold In at i39; omega) | (unfold In at i104; omega) | (unfold In at i144; omega))
        have n42b : (z39).toInt ≠ 0 → (s.2.2.1 2 0).toInt ≤ 3999 := by first | (intro h; exact absurd rfl h) | (intro h; exfalso; revert h; first | (unfold In at i39; omega) | (unfold In at i104; omega) | (unfold In at i144; omega))
        have n42c : ∀ k : Nat, (k : Int) < 7 * (s.2.2.1 2 0).toInt → s39.1 30 k = s.1 30 k := by have hL9 : Fr ([31], [], [(46, 2), (46, 3), (46, 4), (46, 5), (46, 6), (46, 7)], []) s s39 := (fr_tr rfl fr_rf hF39); exact fun k _ => by rw [hL9.1 30 rfl]
        have n42d : (z39).toInt ≠ 0 → ∀ a : Nat, TKN (s.1 47) (s.2.2.1 46 1).toInt.toNat a (s.2.2.1 46 4).toInt.toNat (s.2.2.1 46 2).toInt.toNat (s.2.2.1 46 3).toInt (s.2.2.1 46 5).toInt → ∃ c V, CMP (s.1 47) (s.2.2.1 46 1).toInt.toNat a (s.2.2.1 46 4).toInt.toNat c V (s39.2.2.1 46 2).toInt.toNat ∧ dkC (gvC s) c V ∧ gvC s39 = opC (gvC s) c V := by first | (intro h; exact absurd rfl h) | (intro h; exfalso; revert h; first | (unfold In at i39; omega) | (unfold In at i104; omega) | (unfold In at i144; omega))
        have n42e : (z39).toInt = 0 → ∀ a : Nat, TKN (s.1 47) (s.2.2.1 46 1).toInt.toNat a (s.2.2.1 46 4).toInt.toNat (s.2.2.1 46 2).toInt.toNat (s.2.2.1 46 3).toInt (s.2.2.1 46 5).toInt → CMX (s.1 47) (s.2.2.1 46 1).toInt.toNat a (s39.2.2.1 46 6).toInt (s39.2.2.1 46 7).toInt.toNat ∨ ∃ c V e, CMP (s.1 47) (s.2.2.1 46 1).toInt.toNat a (s39.2.2.1 46 7).toInt.toNat c V e ∧ ¬ dkC (gvC s) c V ∧ (s39.2.2.1 46 6).toInt = 4 := by intro _ a ha; refine Or.inl (Or.inl ⟨_, _, _, by rw [p39.2]; exact ha, q_4, ?_, p39.1⟩); first | (rintro ⟨h8, h9⟩; rw [← e_46_3] at h8; exact (have a0 := in_u i23x1; have a1 := in_u ((inv_F hI 0 1000 rfl e_46_4)); have a2 := in_u i10; have a3 := in_u ((inv_F hI 0 1000 rfl e_46_1)); have a4 := in_u ((inv_F hI 0 1000 rfl e_46_2)); have a5 := in_u ((inv_F hI 448 28000 rfl e_30_0)); have a6 := in_u ((inv_F hI 0 32 rfl e_2_1)); have a7 := in_u ((inv_F hI 0 4000 rfl e_2_0)); have oc := oc_136_1_46; by omega)) | (rintro ⟨h8, h9⟩; rw [← e_46_5] at h9; unfold cmI at h9; exact (have a0 := in_u i23x1; have a1 := in_u ((inv_F hI 0 1000 rfl e_46_4)); have a2 := in_u i10; have a3 := in_u ((inv_F hI 0 1000 rfl e_46_1)); have a4 := in_u ((inv_F hI 0 1000 rfl e_46_2)); have a5 := in_u ((inv_F hI 448 28000 rfl e_30_0)); have a6 := in_u ((inv_F hI 0 32 rfl e_2_1)); have a7 := in_u ((inv_F hI 0 4000 rfl e_2_0)); have oc := oc_136_1_46; by omega)) | (exfalso; have h9 := p30a (by exact (have a0 := in_u i23x1; have a1 := in_u ((inv_F hI 0 1000 rfl e_46_4)); have a2 := in_u i10; have a3 := in_u ((inv_F hI 0 1000 rfl e_46_1)); have a4 := in_u ((inv_F hI 0 1000 rfl e_46_2)); have a5 := in_u ((inv_F hI 448 28000 rfl e_30_0)); have a6 := in_u ((inv_F hI 0 32 rfl e_2_1)); have a7 := in_u ((inv_F hI 0 4000 rfl e_2_0)); have oc := oc_136_1_46; by omega)); revert h9; decide)
        have n42f : (z39).toInt ≠ 0 → TQ s39 := by first | (intro h; exact absurd rfl h) | (intro h; exfalso; revert h; first | (unfold In at i39; omega) | (unfold In at i104; omega) | (unfold In at i144; omega))
        have n42g : (z39).toInt ≠ 0 → s39.2.2.1 46 6 = s.2.2.1 46 6 ∧ s39.2.2.1 46 7 = s.2.2.1 46 7 := by first | (intro h; exact absurd rfl h) | (intro h; exfalso; revert h; first | (unfold In at i39; omega) | (unfold In at i104; omega) | (unfold In at i144; omega))
        have n42h : (z39).toInt = 0 → 0 ≤ (s39.2.2.1 46 7).toInt := by intro _; rw [p39.2, ← e_46_4]; exact (have a0 := in_u i23x1; have a1 := in_u ((inv_F hI 0 1000 rfl e_46_4)); have a2 := in_u i10; have a3 := in_u ((inv_F hI 0 1000 rfl e_46_1)); have a4 := in_u ((inv_F hI 0 1000 rfl e_46_2)); have a5 := in_u ((inv_F hI 448 28000 rfl e_30_0)); have a6 := in_u ((inv_F hI 0 32 rfl e_2_1)); have a7 := in_u ((inv_F hI 0 4000 rfl e_2_0)); have oc := oc_136_1_46; by omega)
        have n42i : (u_46_2).toInt ≤ (u_46_1).toInt := by exact (have a0 := in_u i23x1; have a1 := in_u ((inv_F hI 0 1000 rfl e_46_4)); have a2 := in_u i10; have a3 := in_u ((inv_F hI 0 1000 rfl e_46_1)); have a4 := in_u ((inv_F hI 0 1000 rfl e_46_2)); have a5 := in_u ((inv_F hI 448 28000 rfl e_30_0)); have a6 := in_u ((inv_F hI 0 32 rfl e_2_1)); have a7 := in_u ((inv_F hI 0 4000 rfl e_2_0)); have oc := oc_136_1_46; by omega)
        have n42j : (s39.2.2.1 46 2).toInt ≤ (s39.2.2.1 46 1).toInt := by have b0 : u_46_2 = s39.2.2.1 46 2 := fr_F (e_46_2) hF39 rfl; have b1 : u_46_1 = s39.2.2.1 46 1 := fr_F (e_46_1) hF39 rfl; rw [← b0, ← b1]; exact n42i
        have n42k : (u_2_0).toInt ≤ (u_2_0).toInt := by exact (have a0 := in_u i23x1; have a1 := in_u ((inv_F hI 0 1000 rfl e_46_4)); have a2 := in_u i10; have a3 := in_u ((inv_F hI 0 1000 rfl e_46_1)); have a4 := in_u ((inv_F hI 0 1000 rfl e_46_2)); have a5 := in_u ((inv_F hI 448 28000 rfl e_30_0)); have a6 := in_u ((inv_F hI 0 32 rfl e_2_1)); have a7 := in_u ((inv_F hI 0 4000 rfl e_2_0)); have oc := oc_136_1_46; by omega)
        have n42l : (s.2.2.1 2 0).toInt ≤ (s39.2.2.1 2 0).toInt := by have b0 : u_2_0 = s39.2.2.1 2 0 := fr_F (e_2_0) hF39 rfl; first | (rw [← b0, ← e_2_0]; exact n42k) | (rw [← b0]; exact n42k)
        exact g_ireturn (gd rfl) rfl (nb01 (in_w 0 1 i39 rfl)) (hP _ _ ⟨(A 30), s39, hI39, (fr_tr rfl fr_rf hF39), n42j, n42l, z39, rfl, (by rw [ax_id]), in_w 0 1 i39 rfl, n42, n42a, n42b, n42c, n42d, n42e, n42f, n42g, n42h⟩)
    · skip
      have i23x1 := sw_eq c23x1
      refine g_ldcs 3 52 (gd rfl) rfl rfl ?_
      refine g_areturn (gd rfl) rfl (hp23 _ _ ?_)
      show GG _ _ _ _ _ _ _ _ [.ref (zq Z (Int32.ofInt 3))] _ _ _
      refine g_astore 28 (gd rfl) rfl (Nat.le_of_ble_eq_true rfl) ?_
      refine g_aload 30 (gd rfl) rfl rfl ?_
      have i30 : In (Int32.ofInt 3) 0 6 := in_w 0 6 (in_c 3 rfl) rfl
      refine g_callS (X := _) (As := []) (r := []) (x := (Int32.ofInt 3)) 33 (gd rfl) rfl rfl rfl zm_428 rfl rfl rfl i30 (Nat.le_of_ble_eq_true rfl) (f_428 i30 (by omega)) (fun e u h => h) (fun v u h => ?_)
      obtain ⟨z30, rfl, rfl, i30a, p30, p30a⟩ := h
      show GG _ _ _ _ _ _ _ _ [.int z30] _ _ _
      refine g_if_eq 36 43 (gd rfl) rfl rfl (fun c33 => ?_) (fun c33 => ?_)
      · skip
        have i33 := z_eq 0 0 c33 i30a rfl
        refine g_iconst 0 44 (gd rfl) rfl rfl ?_
        refine g_istore 46 (gd rfl) rfl (Nat.le_of_ble_eq_true rfl) ?_
        have n46 : (u_46_2).toInt ≤ (u_46_1).toInt := by exact (have a0 := in_u i23x1; have a1 := in_u ((inv_F hI 0 1000 rfl e_46_4)); have a2 := in_u i10; have a3 := in_u ((inv_F hI 0 1000 rfl e_46_1)); have a4 := in_u ((inv_F hI 0 1000 rfl e_46_2)); have a5 := in_u ((inv_F hI 448 28000 rfl e_30_0)); have a6 := in_u ((inv_F hI 0 32 rfl e_2_1)); have a7 := in_u ((inv_F hI 0 4000 rfl e_2_0)); have a8 := in_u ((in_c 0 rfl)); have oc := oc_136_1_46; by omega)
        have n46a : (u_2_0).toInt ≤ (u_2_0).toInt := by exact (have a0 := in_u i23x1; have a1 := in_u ((inv_F hI 0 1000 rfl e_46_4)); have a2 := in_u i10; have a3 := in_u ((inv_F hI 0 1000 rfl e_46_1)); have a4 := in_u ((inv_F hI 0 1000 rfl e_46_2)); have a5 := in_u ((inv_F hI 448 28000 rfl e_30_0)); have a6 := in_u ((inv_F hI 0 32 rfl e_2_1)); have a7 := in_u ((inv_F hI 0 4000 rfl e_2_0)); have a8 := in_u ((in_c 0 rfl)); have oc := oc_136_1_46; by omega)
        have n46b : (u_46_5).toInt = 13 → ((Int32.ofInt 3)).toInt = 1 := by intro h; first | decide | (exfalso; exact (have a0 := in_u i23x1; have a1 := in_u ((inv_F hI 0 1000 rfl e_46_4)); have a2 := in_u i10; have a3 := in_u ((inv_F hI 0 1000 rfl e_46_1)); have a4 := in_u ((inv_F hI 0 1000 rfl e_46_2)); have a5 := in_u ((inv_F hI 448 28000 rfl e_30_0)); have a6 := in_u ((inv_F hI 0 32 rfl e_2_1)); have a7 := in_u ((inv_F hI 0 4000 rfl e_2_0)); have a8 := in_u ((in_c 0 rfl)); have oc := oc_136_1_46; by omega))
        have n46c : ((Int32.ofInt 3)).toInt = 1 → 1 ≤ ((Int32.ofInt 0)).toInt → In (s.1 31 0) 0 25 := by intro _ h; exfalso; revert h; decide
        have n46d : Fr ([31], [], [(46, 2), (46, 3), (46, 4), (46, 5), (46, 6), (46, 7)], []) s s := by exact fr_rf
        have n46e : SHQ (u_46_5).toInt ((Int32.ofInt 3)).toInt := by first | (exfalso; have h9 := p30 (by exact (have a0 := in_u i23x1; have a1 := in_u ((inv_F hI 0 1000 rfl e_46_4)); have a2 := in_u i10; have a3 := in_u ((inv_F hI 0 1000 rfl e_46_1)); have a4 := in_u ((inv_F hI 0 1000 rfl e_46_2)); have a5 := in_u ((inv_F hI 448 28000 rfl e_30_0)); have a6 := in_u ((inv_F hI 0 32 rfl e_2_1)); have a7 := in_u ((inv_F hI 0 4000 rfl e_2_0)); have a8 := in_u ((in_c 0 rfl)); have oc := oc_136_1_46; by omega)); revert h9; decide) | exact Or.inl ⟨by exact (have a0 := in_u i23x1; have a1 := in_u ((inv_F hI 0 1000 rfl e_46_4)); have a2 := in_u i10; have a3 := in_u ((inv_F hI 0 1000 rfl e_46_1)); have a4 := in_u ((inv_F hI 0 1000 rfl e_46_2)); have a5 := in_u ((inv_F hI 448 28000 rfl e_30_0)); have a6 := in_u ((inv_F hI 0 32 rfl e_2_1)); have a7 := in_u ((inv_F hI 0 4000 rfl e_2_0)); have a8 := in_u ((in_c 0 rfl)); have oc := oc_136_1_46; by omega), by decide⟩ | exact Or.inr (Or.inl ⟨by exact (have a0 := in_u i23x1; have a1 := in_u ((inv_F hI 0 1000 rfl e_46_4)); have a2 := in_u i10; have a3 := in_u ((inv_F hI 0 1000 rfl e_46_1)); have a4 := in_u ((inv_F hI 0 1000 rfl e_46_2)); have a5 := in_u ((inv_F hI 448 28000 rfl e_30_0)); have a6 := in_u ((inv_F hI 0 32 rfl e_2_1)); have a7 := in_u ((inv_F hI 0 4000 rfl e_2_0)); have a8 := in_u ((in_c 0 rfl)); have oc := oc_136_1_46; by omega), by decide⟩) | exact Or.inr (Or.inr (Or.inl ⟨by exact (have a0 := in_u i23x1; have a1 := in_u ((inv_F hI 0 1000 rfl e_46_4)); have a2 := in_u i10; have a3 := in_u ((inv_F hI 0 1000 rfl e_46_1)); have a4 := in_u ((inv_F hI 0 1000 rfl e_46_2)); have a5 := in_u ((inv_F hI 448 28000 rfl e_30_0)); have a6 := in_u ((inv_F hI 0 32 rfl e_2_1)); have a7 := in_u ((inv_F hI 0 4000 rfl e_2_0)); have a8 := in_u ((in_c 0 rfl)); have oc := oc_136_1_46; by omega), by decide⟩)) | exact Or.inr (Or.inr (Or.inr ⟨by exact (have a0 := in_u i23x1; have a1 := in_u ((inv_F hI 0 1000 rfl e_46_4)); have a2 := in_u i10; have a3 := in_u ((inv_F hI 0 1000 rfl e_46_1)); have a4 := in_u ((inv_F hI 0 1000 rfl e_46_2)); have a5 := in_u ((inv_F hI 448 28000 rfl e_30_0)); have a6 := in_u ((inv_F hI 0 32 rfl e_2_1)); have a7 := in_u ((inv_F hI 0 4000 rfl e_2_0)); have a8 := in_u ((in_c 0 rfl)); have oc := oc_136_1_46; by omega), by decide⟩))
        have n46f : (s.2.2.1 46 3).toInt = 1 ∧ (s.2.2.1 46 5).toInt = (u_46_5).toInt ∧ (u_46_4) = s.2.2.1 46 4 := by first | (exfalso; have h9 := p30 (by exact (have a0 := in_u i23x1; have a1 := in_u ((inv_F hI 0 1000 rfl e_46_4)); have a2 := in_u i10; have a3 := in_u ((inv_F hI 0 1000 rfl e_46_1)); have a4 := in_u ((inv_F hI 0 1000 rfl e_46_2)); have a5 := in_u ((inv_F hI 448 28000 rfl e_30_0)); have a6 := in_u ((inv_F hI 0 32 rfl e_2_1)); have a7 := in_u ((inv_F hI 0 4000 rfl e_2_0)); have a8 := in_u ((in_c 0 rfl)); have oc := oc_136_1_46; by omega)); revert h9; decide) | exact ⟨by rw [← e_46_3]; exact (have a0 := in_u i23x1; have a1 := in_u ((inv_F hI 0 1000 rfl e_46_4)); have a2 := in_u i10; have a3 := in_u ((inv_F hI 0 1000 rfl e_46_1)); have a4 := in_u ((inv_F hI 0 1000 rfl e_46_2)); have a5 := in_u ((inv_F hI 448 28000 rfl e_30_0)); have a6 := in_u ((inv_F hI 0 32 rfl e_2_1)); have a7 := in_u ((inv_F hI 0 4000 rfl e_2_0)); have a8 := in_u ((in_c 0 rfl)); have oc := oc_136_1_46; by omega), by rw [← e_46_5], e_46_4⟩
        have n46g : ((Int32.ofInt 0)).toInt ≤ (cmA (u_46_5).toInt : Int) := by exact Int.natCast_nonneg _
        have n46h : ∀ a : Nat, TKN (s.1 47) (s.2.2.1 46 1).toInt.toNat a (s.2.2.1 46 4).toInt.toNat (s.2.2.1 46 2).toInt.toNat (s.2.2.1 46 3).toInt (s.2.2.1 46 5).toInt → (∀ j, j < ((Int32.ofInt 0)).toInt.toNat → ∃ q f, TSQ (s.1 47) (s.2.2.1 46 1).toInt.toNat a (j + 1) q f (cmK (u_46_5).toInt (j + 1)) (s.1 31 j).toInt) ∧ ∃ p k v, TSQ (s.1 47) (s.2.2.1 46 1).toInt.toNat a ((Int32.ofInt 0)).toInt.toNat p (u_46_2).toInt.toNat k v := by intro a ha; exact ⟨fun j hj => absurd hj (by have h9 : (Int32.ofInt 0).toInt.toNat = 0 := rfl; omega), _, _, _, by rw [e_46_2]; exact ha⟩
        have n46i : s.2.2.1 46 6 = s.2.2.1 46 6 ∧ s.2.2.1 46 7 = s.2.2.1 46 7 := by exact ⟨rfl, rfl⟩
        exact gg_w (by first | exact Nat.le_of_ble_eq_true rfl | omega) (gg_f (gf_cons rfl (gf_cons rfl (gf_cons rfl (gf_cons rfl (gf_cons rfl (gf_cons rfl gf_nil)))))) (ct46 6 s u_46_4 u_46_5 (Int32.ofInt 3) (Int32.ofInt 0) u_46_2 u_2_0 u_2_1 u_30_0 hI fr_rf (in_w 0 1000 (inv_F hI 0 1000 rfl e_46_4) rfl) (in_w (-1) 25 i23x1 rfl) (in_w 1 5 (in_c 3 rfl) rfl) (in_w 0 5 (in_c 0 rfl) rfl) e_46_2 e_2_0 e_2_1 e_30_0 n46 n46a n46b n46c n46d n46e n46f n46g n46h n46i (m_in 6 (in_w 0 5 (in_c 0 rfl) rfl) rfl)))
      · skip
        have i33 := z_ne 1 1 c33 i30a rfl
        refine g_aload_n 37 (gd rfl) rfl rfl ?_
        refine g_iconst 2 38 (gd rfl) rfl rfl ?_
        refine g_iconst 3 39 (gd rfl) rfl rfl ?_
        refine g_callv (X := _) (As := [.int (Int32.ofInt 2), .int (Int32.ofInt 3)]) (r := []) (b := A 46) (q := 46) 42 (gd rfl) rfl rfl rfl rfl rfl (ww_o rfl) (Nat.le_of_ble_eq_true rfl) (Nat.zero_le _) (Nat.zero_le _) (f_169_46 (by first | exact dq1 hd rfl | exact dq0 hd rfl | exact dq2 hd rfl | exact dq3 hd rfl | omega) hI (in_w 2 2 (in_c 2 rfl) rfl) (in_w 3 3 (in_c 3 rfl) rfl) e_46_3 e_46_4) (fun e u h => h) (fun v u h => ?_)
        obtain ⟨s39, hI39, hF39, z39, rfl, rfl, i39, p39⟩ := h
        show GG _ _ _ _ _ _ _ _ [.int z39] _ _ _
        have n42 : KL s39 := by have hL9 : Fr ([31], [], [(46, 2), (46, 3), (46, 4), (46, 5), (46, 6), (46, 7)], []) s s39 := (fr_tr rfl fr_rf hF39); exact kl_fr q_0 hL9 rfl
        have n42a : (z39).toInt ≠ 0 → (s39.2.2.1 30 0).toInt = nln s := by first | (intro h; exact absurd rfl h) | (intro h; exfalso; revert h; first | (unfold In at i39; omega) | (unfold In at i104; omega) | (unfold In at i144; omega))
        have n42b : (z39).toInt ≠ 0 → (s.2.2.1 2 0).toInt ≤ 3999 := by first | (intro h; exact absurd rfl h) | (intro h; exfalso; revert h; first | (unfold In at i39; omega) | (unfold In at i104; omega) | (unfold In at i144; omega))
        have n42c : ∀ k : Nat, (k : Int) < 7 * (s.2.2.1 2 0).toInt → s39.1 30 k = s.1 30 k := by have hL9 : Fr ([31], [], [(46, 2), (46, 3), (46, 4), (46, 5), (46, 6), (46, 7)], []) s s39 := (fr_tr rfl fr_rf hF39); exact fun k _ => by rw [hL9.1 30 rfl]
        have n42d : (z39).toInt ≠ 0 → ∀ a : Nat, TKN (s.1 47) (s.2.2.1 46 1).toInt.toNat a (s.2.2.1 46 4).toInt.toNat (s.2.2.1 46 2).toInt.toNat (s.2.2.1 46 3).toInt (s.2.2.1 46 5).toInt → ∃ c V, CMP (s.1 47) (s.2.2.1 46 1).toInt.toNat a (s.2.2.1 46 4).toInt.toNat c V (s39.2.2.1 46 2).toInt.toNat ∧ dkC (gvC s) c V ∧ gvC s39 = opC (gvC s) c V := by first | (intro h; exact absurd rfl h) | (intro h; exfalso; revert h; first | (unfold In at i39; omega) | (unfold In at i104; omega) | (unfold In at i144; omega))
        have n42e : (z39).toInt = 0 → ∀ a : Nat, TKN (s.1 47) (s.2.2.1 46 1).toInt.toNat a (s.2.2.1 46 4).toInt.toNat (s.2.2.1 46 2).toInt.toNat (s.2.2.1 46 3).toInt (s.2.2.1 46 5).toInt → CMX (s.1 47) (s.2.2.1 46 1).toInt.toNat a (s39.2.2.1 46 6).toInt (s39.2.2.1 46 7).toInt.toNat ∨ ∃ c V e, CMP (s.1 47) (s.2.2.1 46 1).toInt.toNat a (s39.2.2.1 46 7).toInt.toNat c V e ∧ ¬ dkC (gvC s) c V ∧ (s39.2.2.1 46 6).toInt = 4 := by intro _ a ha; refine Or.inl (Or.inl ⟨_, _, _, by rw [p39.2]; exact ha, q_4, ?_, p39.1⟩); first | (rintro ⟨h8, h9⟩; rw [← e_46_3] at h8; exact (have a0 := in_u i23x1; have a1 := in_u ((inv_F hI 0 1000 rfl e_46_4)); have a2 := in_u i10; have a3 := in_u ((inv_F hI 0 1000 rfl e_46_1)); have a4 := in_u ((inv_F hI 0 1000 rfl e_46_2)); have a5 := in_u ((inv_F hI 448 28000 rfl e_30_0)); have a6 := in_u ((inv_F hI 0 32 rfl e_2_1)); have a7 := in_u ((inv_F hI 0 4000 rfl e_2_0)); have oc := oc_136_1_46; by omega)) | (rintro ⟨h8, h9⟩; rw [← e_46_5] at h9; unfold cmI at h9; exact (have a0 := in_u i23x1; have a1 := in_u ((inv_F hI 0 1000 rfl e_46_4)); have a2 := in_u i10; have a3 := in_u ((inv_F hI 0 1000 rfl e_46_1)); have a4 := in_u ((inv_F hI 0 1000 rfl e_46_2)); have a5 := in_u ((inv_F hI 448 28000 rfl e_30_0)); have a6 := in_u ((inv_F hI 0 32 rfl e_2_1)); have a7 := in_u ((inv_F hI 0 4000 rfl e_2_0)); have oc := oc_136_1_46; by omega)) | (exfalso; have h9 := p30a (by exact (have a0 := in_u i23x1; have a1 := in_u ((inv_F hI 0 1000 rfl e_46_4)); have a2 := in_u i10; have a3 := in_u ((inv_F hI 0 1000 rfl e_46_1)); have a4 := in_u ((inv_F hI 0 1000 rfl e_46_2)); have a5 := in_u ((inv_F hI 448 28000 rfl e_30_0)); have a6 := in_u ((inv_F hI 0 32 rfl e_2_1)); have a7 := in_u ((inv_F hI 0 4000 rfl e_2_0)); have oc := oc_136_1_46; by omega)); revert h9; decide)
        have n42f : (z39).toInt ≠ 0 → TQ s39 := by first | (intro h; exact absurd rfl h) | (intro h; exfalso; revert h; first | (unfold In at i39; omega) | (unfold In at i104; omega) | (unfold In at i144; omega))
        have n42g : (z39).toInt ≠ 0 → s39.2.2.1 46 6 = s.2.2.1 46 6 ∧ s39.2.2.1 46 7 = s.2.2.1 46 7 := by first | (intro h; exact absurd rfl h) | (intro h; exfalso; revert h; first | (unfold In at i39; omega) | (unfold In at i104; omega) | (unfold In at i144; omega))
        have n42h : (z39).toInt = 0 → 0 ≤ (s39.2.2.1 46 7).toInt := by intro _; rw [p39.2, ← e_46_4]; exact (have a0 := in_u i23x1; have a1 := in_u ((inv_F hI 0 1000 rfl e_46_4)); have a2 := in_u i10; have a3 := in_u ((inv_F hI 0 1000 rfl e_46_1)); have a4 := in_u ((inv_F hI 0 1000 rfl e_46_2)); have a5 := in_u ((inv_F hI 448 28000 rfl e_30_0)); have a6 := in_u ((inv_F hI 0 32 rfl e_2_1)); have a7 := in_u ((inv_F hI 0 4000 rfl e_2_0)); have oc := oc_136_1_46; by omega)
        have n42i : (u_46_2).toInt ≤ (u_46_1).toInt := by exact (have a0 := in_u i23x1; have a1 := in_u ((inv_F hI 0 1000 rfl e_46_4)); have a2 := in_u i10; have a3 := in_u ((inv_F hI 0 1000 rfl e_46_1)); have a4 := in_u ((inv_F hI 0 1000 rfl e_46_2)); have a5 := in_u ((inv_F hI 448 28000 rfl e_30_0)); have a6 := in_u ((inv_F hI 0 32 rfl e_2_1)); have a7 := in_u ((inv_F hI 0 4000 rfl e_2_0)); have oc := oc_136_1_46; by omega)
        have n42j : (s39.2.2.1 46 2).toInt ≤ (s39.2.2.1 46 1).toInt := by have b0 : u_46_2 = s39.2.2.1 46 2 := fr_F (e_46_2) hF39 rfl; have b1 : u_46_1 = s39.2.2.1 46 1 := fr_F (e_46_1) hF39 rfl; rw [← b0, ← b1]; exact n42i
        have n42k : (u_2_0).toInt ≤ (u_2_0).toInt := by exact (have a0 := in_u i23x1; have a1 := in_u ((inv_F hI 0 1000 rfl e_46_4)); have a2 := in_u i10; have a3 := in_u ((inv_F hI 0 1000 rfl e_46_1)); have a4 := in_u ((inv_F hI 0 1000 rfl e_46_2)); have a5 := in_u ((inv_F hI 448 28000 rfl e_30_0)); have a6 := in_u ((inv_F hI 0 32 rfl e_2_1)); have a7 := in_u ((inv_F hI 0 4000 rfl e_2_0)); have oc := oc_136_1_46; by omega)
        have n42l : (s.2.2.1 2 0).toInt ≤ (s39.2.2.1 2 0).toInt := by have b0 : u_2_0 = s39.2.2.1 2 0 := fr_F (e_2_0) hF39 rfl; first | (rw [← b0, ← e_2_0]; exact n42k) | (rw [← b0]; exact n42k)
        exact g_ireturn (gd rfl) rfl (nb01 (in_w 0 1 i39 rfl)) (hP _ _ ⟨(A 30), s39, hI39, (fr_tr rfl fr_rf hF39), n42j, n42l, z39, rfl, (by rw [ax_id]), in_w 0 1 i39 rfl, n42, n42a, n42b, n42c, n42d, n42e, n42f, n42g, n42h⟩)
    · skip
      have i23x1 := sw_eq c23x1
      refine g_ldcs 4 55 (gd rfl) rfl rfl ?_
      refine g_areturn (gd rfl) rfl (hp23 _ _ ?_)
      show GG _ _ _ _ _ _ _ _ [.ref (zq Z (Int32.ofInt 4))] _ _ _
      refine g_astore 28 (gd rfl) rfl (Nat.le_of_ble_eq_true rfl) ?_
      refine g_aload 30 (gd rfl) rfl rfl ?_
      have i30 : In (Int32.ofInt 4) 0 6 := in_w 0 6 (in_c 4 rfl) rfl
      refine g_callS (X := _) (As := []) (r := []) (x := (Int32.ofInt 4)) 33 (gd rfl) rfl rfl rfl zm_428 rfl rfl rfl i30 (Nat.le_of_ble_eq_true rfl) (f_428 i30 (by omega)) (fun e u h => h) (fun v u h => ?_)
      obtain ⟨z30, rfl, rfl, i30a, p30, p30a⟩ := h
      show GG _ _ _ _ _ _ _ _ [.int z30] _ _ _
      refine g_if_eq 36 43 (gd rfl) rfl rfl (fun c33 => ?_) (fun c33 => ?_)
      · skip
        have i33 := z_eq 0 0 c33 i30a rfl
        refine g_iconst 0 44 (gd rfl) rfl rfl ?_
        refine g_istore 46 (gd rfl) rfl (Nat.le_of_ble_eq_true rfl) ?_
        have n46 : (u_46_2).toInt ≤ (u_46_1).toInt := by exact (have a0 := in_u i23x1; have a1 := in_u ((inv_F hI 0 1000 rfl e_46_4)); have a2 := in_u i10; have a3 := in_u ((inv_F hI 0 1000 rfl e_46_1)); have a4 := in_u ((inv_F hI 0 1000 rfl e_46_2)); have a5 := in_u ((inv_F hI 448 28000 rfl e_30_0)); have a6 := in_u ((inv_F hI 0 32 rfl e_2_1)); have a7 := in_u ((inv_F hI 0 4000 rfl e_2_0)); have a8 := in_u ((in_c 0 rfl)); have oc := oc_136_1_46; by omega)
        have n46a : (u_2_0).toInt ≤ (u_2_0).toInt := by exact (have a0 := in_u i23x1; have a1 := in_u ((inv_F hI 0 1000 rfl e_46_4)); have a2 := in_u i10; have a3 := in_u ((inv_F hI 0 1000 rfl e_46_1)); have a4 := in_u ((inv_F hI 0 1000 rfl e_46_2)); have a5 := in_u ((inv_F hI 448 28000 rfl e_30_0)); have a6 := in_u ((inv_F hI 0 32 rfl e_2_1)); have a7 := in_u ((inv_F hI 0 4000 rfl e_2_0)); have a8 := in_u ((in_c 0 rfl)); have oc := oc_136_1_46; by omega)
        have n46b : (u_46_5).toInt = 13 → ((Int32.ofInt 4)).toInt = 1 := by intro h; first | decide | (exfalso; exact (have a0 := in_u i23x1; have a1 := in_u ((inv_F hI 0 1000 rfl e_46_4)); have a2 := in_u i10; have a3 := in_u ((inv_F hI 0 1000 rfl e_46_1)); have a4 := in_u ((inv_F hI 0 1000 rfl e_46_2)); have a5 := in_u ((inv_F hI 448 28000 rfl e_30_0)); have a6 := in_u ((inv_F hI 0 32 rfl e_2_1)); have a7 := in_u ((inv_F hI 0 4000 rfl e_2_0)); have a8 := in_u ((in_c 0 rfl)); have oc := oc_136_1_46; by omega))
        have n46c : ((Int32.ofInt 4)).toInt = 1 → 1 ≤ ((Int32.ofInt 0)).toInt → In (s.1 31 0) 0 25 := by intro _ h; exfalso; revert h; decide
        have n46d : Fr ([31], [], [(46, 2), (46, 3), (46, 4), (46, 5), (46, 6), (46, 7)], []) s s := by exact fr_rf
        have n46e : SHQ (u_46_5).toInt ((Int32.ofInt 4)).toInt := by first | (exfalso; have h9 := p30 (by exact (have a0 := in_u i23x1; have a1 := in_u ((inv_F hI 0 1000 rfl e_46_4)); have a2 := in_u i10; have a3 := in_u ((inv_F hI 0 1000 rfl e_46_1)); have a4 := in_u ((inv_F hI 0 1000 rfl e_46_2)); have a5 := in_u ((inv_F hI 448 28000 rfl e_30_0)); have a6 := in_u ((inv_F hI 0 32 rfl e_2_1)); have a7 := in_u ((inv_F hI 0 4000 rfl e_2_0)); have a8 := in_u ((in_c 0 rfl)); have oc := oc_136_1_46; by omega)); revert h9; decide) | exact Or.inl ⟨by exact (have a0 := in_u i23x1; have a1 := in_u ((inv_F hI 0 1000 rfl e_46_4)); have a2 := in_u i10; have a3 := in_u ((inv_F hI 0 1000 rfl e_46_1)); have a4 := in_u ((inv_F hI 0 1000 rfl e_46_2)); have a5 := in_u ((inv_F hI 448 28000 rfl e_30_0)); have a6 := in_u ((inv_F hI 0 32 rfl e_2_1)); have a7 := in_u ((inv_F hI 0 4000 rfl e_2_0)); have a8 := in_u ((in_c 0 rfl)); have oc := oc_136_1_46; by omega), by decide⟩ | exact Or.inr (Or.inl ⟨by exact (have a0 := in_u i23x1; have a1 := in_u ((inv_F hI 0 1000 rfl e_46_4)); have a2 := in_u i10; have a3 := in_u ((inv_F hI 0 1000 rfl e_46_1)); have a4 := in_u ((inv_F hI 0 1000 rfl e_46_2)); have a5 := in_u ((inv_F hI 448 28000 rfl e_30_0)); have a6 := in_u ((inv_F hI 0 32 rfl e_2_1)); have a7 := in_u ((inv_F hI 0 4000 rfl e_2_0)); have a8 := in_u ((in_c 0 rfl)); have oc := oc_136_1_46; by omega), by decide⟩) | exact Or.inr (Or.inr (Or.inl ⟨by exact (have a0 := in_u i23x1; have a1 := in_u ((inv_F hI 0 1000 rfl e_46_4)); have a2 := in_u i10; have a3 := in_u ((inv_F hI 0 1000 rfl e_46_1)); have a4 := in_u ((inv_F hI 0 1000 rfl e_46_2)); have a5 := in_u ((inv_F hI 448 28000 rfl e_30_0)); have a6 := in_u ((inv_F hI 0 32 rfl e_2_1)); have a7 := in_u ((inv_F hI 0 4000 rfl e_2_0)); have a8 := in_u ((in_c 0 rfl)); have oc := oc_136_1_46; by omega), by decide⟩)) | exact Or.inr (Or.inr (Or.inr ⟨by exact (have a0 := in_u i23x1; have a1 := in_u ((inv_F hI 0 1000 rfl e_46_4)); have a2 := in_u i10; have a3 := in_u ((inv_F hI 0 1000 rfl e_46_1)); have a4 := in_u ((inv_F hI 0 1000 rfl e_46_2)); have a5 := in_u ((inv_F hI 448 28000 rfl e_30_0)); have a6 := in_u ((inv_F hI 0 32 rfl e_2_1)); have a7 := in_u ((inv_F hI 0 4000 rfl e_2_0)); have a8 := in_u ((in_c 0 rfl)); have oc := oc_136_1_46; by omega), by decide⟩))
        have n46f : (s.2.2.1 46 3).toInt = 1 ∧ (s.2.2.1 46 5).toInt = (u_46_5).toInt ∧ (u_46_4) = s.2.2.1 46 4 := by first | (exfalso; have h9 := p30 (by exact (have a0 := in_u i23x1; have a1 := in_u ((inv_F hI 0 1000 rfl e_46_4)); have a2 := in_u i10; have a3 := in_u ((inv_F hI 0 1000 rfl e_46_1)); have a4 := in_u ((inv_F hI 0 1000 rfl e_46_2)); have a5 := in_u ((inv_F hI 448 28000 rfl e_30_0)); have a6 := in_u ((inv_F hI 0 32 rfl e_2_1)); have a7 := in_u ((inv_F hI 0 4000 rfl e_2_0)); have a8 := in_u ((in_c 0 rfl)); have oc := oc_136_1_46; by omega)); revert h9; decide) | exact ⟨by rw [← e_46_3]; exact (have a0 := in_u i23x1; have a1 := in_u ((inv_F hI 0 1000 rfl e_46_4)); have a2 := in_u i10; have a3 := in_u ((inv_F hI 0 1000 rfl e_46_1)); have a4 := in_u ((inv_F hI 0 1000 rfl e_46_2)); have a5 := in_u ((inv_F hI 448 28000 rfl e_30_0)); have a6 := in_u ((inv_F hI 0 32 rfl e_2_1)); have a7 := in_u ((inv_F hI 0 4000 rfl e_2_0)); have a8 := in_u ((in_c 0 rfl)); have oc := oc_136_1_46; by omega), by rw [← e_46_5], e_46_4⟩
        have n46g : ((Int32.ofInt 0)).toInt ≤ (cmA (u_46_5).toInt : Int) := by exact Int.natCast_nonneg _
        have n46h : ∀ a : Nat, TKN (s.1 47) (s.2.2.1 46 1).toInt.toNat a (s.2.2.1 46 4).toInt.toNat (s.2.2.1 46 2).toInt.toNat (s.2.2.1 46 3).toInt (s.2.2.1 46 5).toInt → (∀ j, j < ((Int32.ofInt 0)).toInt.toNat → ∃ q f, TSQ (s.1 47) (s.2.2.1 46 1).toInt.toNat a (j + 1) q f (cmK (u_46_5).toInt (j + 1)) (s.1 31 j).toInt) ∧ ∃ p k v, TSQ (s.1 47) (s.2.2.1 46 1).toInt.toNat a ((Int32.ofInt 0)).toInt.toNat p (u_46_2).toInt.toNat k v := by intro a ha; exact ⟨fun j hj => absurd hj (by have h9 : (Int32.ofInt 0).toInt.toNat = 0 := rfl; omega), _, _, _, by rw [e_46_2]; exact ha⟩
        have n46i : s.2.2.1 46 6 = s.2.2.1 46 6 ∧ s.2.2.1 46 7 = s.2.2.1 46 7 := by exact ⟨rfl, rfl⟩
        exact gg_w (by first | exact Nat.le_of_ble_eq_true rfl | omega) (gg_f (gf_cons rfl (gf_cons rfl (gf_cons rfl (gf_cons rfl (gf_cons rfl (gf_cons rfl gf_nil)))))) (ct46 6 s u_46_4 u_46_5 (Int32.ofInt 4) (Int32.ofInt 0) u_46_2 u_2_0 u_2_1 u_30_0 hI fr_rf (in_w 0 1000 (inv_F hI 0 1000 rfl e_46_4) rfl) (in_w (-1) 25 i23x1 rfl) (in_w 1 5 (in_c 4 rfl) rfl) (in_w 0 5 (in_c 0 rfl) rfl) e_46_2 e_2_0 e_2_1 e_30_0 n46 n46a n46b n46c n46d n46e n46f n46g n46h n46i (m_in 6 (in_w 0 5 (in_c 0 rfl) rfl) rfl)))
      · skip
        have i33 := z_ne 1 1 c33 i30a rfl
        refine g_aload_n 37 (gd rfl) rfl rfl ?_
        refine g_iconst 2 38 (gd rfl) rfl rfl ?_
        refine g_iconst 3 39 (gd rfl) rfl rfl ?_
        refine g_callv (X := _) (As := [.int (Int32.ofInt 2), .int (Int32.ofInt 3)]) (r := []) (b := A 46) (q := 46) 42 (gd rfl) rfl rfl rfl rfl rfl (ww_o rfl) (Nat.le_of_ble_eq_true rfl) (Nat.zero_le _) (Nat.zero_le _) (f_169_46 (by first | exact dq1 hd rfl | exact dq0 hd rfl | exact dq2 hd rfl | exact dq3 hd rfl | omega) hI (in_w 2 2 (in_c 2 rfl) rfl) (in_w 3 3 (in_c 3 rfl) rfl) e_46_3 e_46_4) (fun e u h => h) (fun v u h => ?_)
        obtain ⟨s39, hI39, hF39, z39, rfl, rfl, i39, p39⟩ := h
        show GG _ _ _ _ _ _ _ _ [.int z39] _ _ _
        have n42 : KL s39 := by have hL9 : Fr ([31], [], [(46, 2), (46, 3), (46, 4), (46, 5), (46, 6), (46, 7)], []) s s39 := (fr_tr rfl fr_rf hF39); exact kl_fr q_0 hL9 rfl
        have n42a : (z39).toInt ≠ 0 → (s39.2.2.1 30 0).toInt = nln s := by first | (intro h; exact absurd rfl h) | (intro h; exfalso; revert h; first | (unfold In at i39; omega) | (unfold In at i104; omega) | (unfold In at i144; omega))
        have n42b : (z39).toInt ≠ 0 → (s.2.2.1 2 0).toInt ≤ 3999 := by first | (intro h; exact absurd rfl h) | (intro h; exfalso; revert h; first | (unfold In at i39; omega) | (unfold In at i104; omega) | (unfold In at i144; omega))
        have n42c : ∀ k : Nat, (k : Int) < 7 * (s.2.2.1 2 0).toInt → s39.1 30 k = s.1 30 k := by have hL9 : Fr ([31], [], [(46, 2), (46, 3), (46, 4), (46, 5), (46, 6), (46, 7)], []) s s39 := (fr_tr rfl fr_rf hF39); exact fun k _ => by rw [hL9.1 30 rfl]
        have n42d : (z39).toInt ≠ 0 → ∀ a : Nat, TKN (s.1 47) (s.2.2.1 46 1).toInt.toNat a (s.2.2.1 46 4).toInt.toNat (s.2.2.1 46 2).toInt.toNat (s.2.2.1 46 3).toInt (s.2.2.1 46 5).toInt → ∃ c V, CMP (s.1 47) (s.2.2.1 46 1).toInt.toNat a (s.2.2.1 46 4).toInt.toNat c V (s39.2.2.1 46 2).toInt.toNat ∧ dkC (gvC s) c V ∧ gvC s39 = opC (gvC s) c V := by first | (intro h; exact absurd rfl h) | (intro h; exfalso; revert h; first | (unfold In at i39; omega) | (unfold In at i104; omega) | (unfold In at i144; omega))
        have n42e : (z39).toInt = 0 → ∀ a : Nat, TKN (s.1 47) (s.2.2.1 46 1).toInt.toNat a (s.2.2.1 46 4).toInt.toNat (s.2.2.1 46 2).toInt.toNat (s.2.2.1 46 3).toInt (s.2.2.1 46 5).toInt → CMX (s.1 47) (s.2.2.1 46 1).toInt.toNat a (s39.2.2.1 46 6).toInt (s39.2.2.1 46 7).toInt.toNat ∨ ∃ c V e, CMP (s.1 47) (s.2.2.1 46 1).toInt.toNat a (s39.2.2.1 46 7).toInt.toNat c V e ∧ ¬ dkC (gvC s) c V ∧ (s39.2.2.1 46 6).toInt = 4 := by intro _ a ha; refine Or.inl (Or.inl ⟨_, _, _, by rw [p39.2]; exact ha, q_4, ?_, p39.1⟩); first | (rintro ⟨h8, h9⟩; rw [← e_46_3] at h8; exact (have a0 := in_u i23x1; have a1 := in_u ((inv_F hI 0 1000 rfl e_46_4)); have a2 := in_u i10; have a3 := in_u ((inv_F hI 0 1000 rfl e_46_1)); have a4 := in_u ((inv_F hI 0 1000 rfl e_46_2)); have a5 := in_u ((inv_F hI 448 28000 rfl e_30_0)); have a6 := in_u ((inv_F hI 0 32 rfl e_2_1)); have a7 := in_u ((inv_F hI 0 4000 rfl e_2_0)); have oc := oc_136_1_46; by omega)) | (rintro ⟨h8, h9⟩; rw [← e_46_5] at h9; unfold cmI at h9; exact (have a0 := in_u i23x1; have a1 := in_u ((inv_F hI 0 1000 rfl e_46_4)); have a2 := in_u i10; have a3 := in_u ((inv_F hI 0 1000 rfl e_46_1)); have a4 := in_u ((inv_F hI 0 1000 rfl e_46_2)); have a5 := in_u ((inv_F hI 448 28000 rfl e_30_0)); have a6 := in_u ((inv_F hI 0 32 rfl e_2_1)); have a7 := in_u ((inv_F hI 0 4000 rfl e_2_0)); have oc := oc_136_1_46; by omega)) | (exfalso; have h9 := p30a (by exact (have a0 := in_u i23x1; have a1 := in_u ((inv_F hI 0 1000 rfl e_46_4)); have a2 := in_u i10; have a3 := in_u ((inv_F hI 0 1000 rfl e_46_1)); have a4 := in_u ((inv_F hI 0 1000 rfl e_46_2)); have a5 := in_u ((inv_F hI 448 28000 rfl e_30_0)); have a6 := in_u ((inv_F hI 0 32 rfl e_2_1)); have a7 := in_u ((inv_F hI 0 4000 rfl e_2_0)); have oc := oc_136_1_46; by omega)); revert h9; decide)
        have n42f : (z39).toInt ≠ 0 → TQ s39 := by first | (intro h; exact absurd rfl h) | (intro h; exfalso; revert h; first | (unfold In at i39; omega) | (unfold In at i104; omega) | (unfold In at i144; omega))
        have n42g : (z39).toInt ≠ 0 → s39.2.2.1 46 6 = s.2.2.1 46 6 ∧ s39.2.2.1 46 7 = s.2.2.1 46 7 := by first | (intro h; exact absurd rfl h) | (intro h; exfalso; revert h; first | (unfold In at i39; omega) | (unfold In at i104; omega) | (unfold In at i144; omega))
        have n42h : (z39).toInt = 0 → 0 ≤ (s39.2.2.1 46 7).toInt := by intro _; rw [p39.2, ← e_46_4]; exact (have a0 := in_u i23x1; have a1 := in_u ((inv_F hI 0 1000 rfl e_46_4)); have a2 := in_u i10; have a3 := in_u ((inv_F hI 0 1000 rfl e_46_1)); have a4 := in_u ((inv_F hI 0 1000 rfl e_46_2)); have a5 := in_u ((inv_F hI 448 28000 rfl e_30_0)); have a6 := in_u ((inv_F hI 0 32 rfl e_2_1)); have a7 := in_u ((inv_F hI 0 4000 rfl e_2_0)); have oc := oc_136_1_46; by omega)
        have n42i : (u_46_2).toInt ≤ (u_46_1).toInt := by exact (have a0 := in_u i23x1; have a1 := in_u ((inv_F hI 0 1000 rfl e_46_4)); have a2 := in_u i10; have a3 := in_u ((inv_F hI 0 1000 rfl e_46_1)); have a4 := in_u ((inv_F hI 0 1000 rfl e_46_2)); have a5 := in_u ((inv_F hI 448 28000 rfl e_30_0)); have a6 := in_u ((inv_F hI 0 32 rfl e_2_1)); have a7 := in_u ((inv_F hI 0 4000 rfl e_2_0)); have oc := oc_136_1_46; by omega)
        have n42j : (s39.2.2.1 46 2).toInt ≤ (s39.2.2.1 46 1).toInt := by have b0 : u_46_2 = s39.2.2.1 46 2 := fr_F (e_46_2) hF39 rfl; have b1 : u_46_1 = s39.2.2.1 46 1 := fr_F (e_46_1) hF39 rfl; rw [← b0, ← b1]; exact n42i
        have n42k : (u_2_0).toInt ≤ (u_2_0).toInt := by exact (have a0 := in_u i23x1; have a1 := in_u ((inv_F hI 0 1000 rfl e_46_4)); have a2 := in_u i10; have a3 := in_u ((inv_F hI 0 1000 rfl e_46_1)); have a4 := in_u ((inv_F hI 0 1000 rfl e_46_2)); have a5 := in_u ((inv_F hI 448 28000 rfl e_30_0)); have a6 := in_u ((inv_F hI 0 32 rfl e_2_1)); have a7 := in_u ((inv_F hI 0 4000 rfl e_2_0)); have oc := oc_136_1_46; by omega)
        have n42l : (s.2.2.1 2 0).toInt ≤ (s39.2.2.1 2 0).toInt := by have b0 : u_2_0 = s39.2.2.1 2 0 := fr_F (e_2_0) hF39 rfl; first | (rw [← b0, ← e_2_0]; exact n42k) | (rw [← b0]; exact n42k)
        exact g_ireturn (gd rfl) rfl (nb01 (in_w 0 1 i39 rfl)) (hP _ _ ⟨(A 30), s39, hI39, (fr_tr rfl fr_rf hF39), n42j, n42l, z39, rfl, (by rw [ax_id]), in_w 0 1 i39 rfl, n42, n42a, n42b, n42c, n42d, n42e, n42f, n42g, n42h⟩)
    · skip
      refine g_ldcs 5 58 (gd rfl) rfl rfl ?_
      refine g_areturn (gd rfl) rfl (hp23 _ _ ?_)
      show GG _ _ _ _ _ _ _ _ [.ref (zq Z (Int32.ofInt 5))] _ _ _
      refine g_astore 28 (gd rfl) rfl (Nat.le_of_ble_eq_true rfl) ?_
      refine g_aload 30 (gd rfl) rfl rfl ?_
      have i30 : In (Int32.ofInt 5) 0 6 := in_w 0 6 (in_c 5 rfl) rfl
      refine g_callS (X := _) (As := []) (r := []) (x := (Int32.ofInt 5)) 33 (gd rfl) rfl rfl rfl zm_428 rfl rfl rfl i30 (Nat.le_of_ble_eq_true rfl) (f_428 i30 (by omega)) (fun e u h => h) (fun v u h => ?_)
      obtain ⟨z30, rfl, rfl, i30a, p30, p30a⟩ := h
      show GG _ _ _ _ _ _ _ _ [.int z30] _ _ _
      refine g_if_eq 36 43 (gd rfl) rfl rfl (fun c33 => ?_) (fun c33 => ?_)
      · skip
        have i33 := z_eq 0 0 c33 i30a rfl
        refine g_iconst 0 44 (gd rfl) rfl rfl ?_
        refine g_istore 46 (gd rfl) rfl (Nat.le_of_ble_eq_true rfl) ?_
        have n46 : (u_46_2).toInt ≤ (u_46_1).toInt := by exact (have a0 := in_u i17; have a1 := in_u ((inv_F hI 0 1000 rfl e_46_4)); have a2 := in_u i10; have a3 := in_u ((inv_F hI 0 1000 rfl e_46_1)); have a4 := in_u ((inv_F hI 0 1000 rfl e_46_2)); have a5 := in_u ((inv_F hI 448 28000 rfl e_30_0)); have a6 := in_u ((inv_F hI 0 32 rfl e_2_1)); have a7 := in_u ((inv_F hI 0 4000 rfl e_2_0)); have a8 := in_u ((in_c 0 rfl)); have oc := oc_136_1_46; by omega)
        have n46a : (u_2_0).toInt ≤ (u_2_0).toInt := by exact (have a0 := in_u i17; have a1 := in_u ((inv_F hI 0 1000 rfl e_46_4)); have a2 := in_u i10; have a3 := in_u ((inv_F hI 0 1000 rfl e_46_1)); have a4 := in_u ((inv_F hI 0 1000 rfl e_46_2)); have a5 := in_u ((inv_F hI 448 28000 rfl e_30_0)); have a6 := in_u ((inv_F hI 0 32 rfl e_2_1)); have a7 := in_u ((inv_F hI 0 4000 rfl e_2_0)); have a8 := in_u ((in_c 0 rfl)); have oc := oc_136_1_46; by omega)
        have n46b : (u_46_5).toInt = 13 → ((Int32.ofInt 5)).toInt = 1 := by intro h; first | decide | (exfalso; exact (have a0 := in_u i17; have a1 := in_u ((inv_F hI 0 1000 rfl e_46_4)); have a2 := in_u i10; have a3 := in_u ((inv_F hI 0 1000 rfl e_46_1)); have a4 := in_u ((inv_F hI 0 1000 rfl e_46_2)); have a5 := in_u ((inv_F hI 448 28000 rfl e_30_0)); have a6 := in_u ((inv_F hI 0 32 rfl e_2_1)); have a7 := in_u ((inv_F hI 0 4000 rfl e_2_0)); have a8 := in_u ((in_c 0 rfl)); have oc := oc_136_1_46; by omega))
        have n46c : ((Int32.ofInt 5)).toInt = 1 → 1 ≤ ((Int32.ofInt 0)).toInt → In (s.1 31 0) 0 25 := by intro _ h; exfalso; revert h; decide
        have n46d : Fr ([31], [], [(46, 2), (46, 3), (46, 4), (46, 5), (46, 6), (46, 7)], []) s s := by exact fr_rf
        have n46e : SHQ (u_46_5).toInt ((Int32.ofInt 5)).toInt := by first | (exfalso; have h9 := p30 (by exact (have a0 := in_u i17; have a1 := in_u ((inv_F hI 0 1000 rfl e_46_4)); have a2 := in_u i10; have a3 := in_u ((inv_F hI 0 1000 rfl e_46_1)); have a4 := in_u ((inv_F hI 0 1000 rfl e_46_2)); have a5 := in_u ((inv_F hI 448 28000 rfl e_30_0)); have a6 := in_u ((inv_F hI 0 32 rfl e_2_1)); have a7 := in_u ((inv_F hI 0 4000 rfl e_2_0)); have a8 := in_u ((in_c 0 rfl)); have oc := oc_136_1_46; by omega)); revert h9; decide) | exact Or.inl ⟨by exact (have a0 := in_u i17; have a1 := in_u ((inv_F hI 0 1000 rfl e_46_4)); have a2 := in_u i10; have a3 := in_u ((inv_F hI 0 1000 rfl e_46_1)); have a4 := in_u ((inv_F hI 0 1000 rfl e_46_2)); have a5 := in_u ((inv_F hI 448 28000 rfl e_30_0)); have a6 := in_u ((inv_F hI 0 32 rfl e_2_1)); have a7 := in_u ((inv_F hI 0 4000 rfl e_2_0)); have a8 := in_u ((in_c 0 rfl)); have oc := oc_136_1_46; by omega), by decide⟩ | exact Or.inr (Or.inl ⟨by exact (have a0 := in_u i17; have a1 := in_u ((inv_F hI 0 1000 rfl e_46_4)); have a2 := in_u i10; have a3 := in_u ((inv_F hI 0 1000 rfl e_46_1)); have a4 := in_u ((inv_F hI 0 1000 rfl e_46_2)); have a5 := in_u ((inv_F hI 448 28000 rfl e_30_0)); have a6 := in_u ((inv_F hI 0 32 rfl e_2_1)); have a7 := in_u ((inv_F hI 0 4000 rfl e_2_0)); have a8 := in_u ((in_c 0 rfl)); have oc := oc_136_1_46; by omega), by decide⟩) | exact Or.inr (Or.inr (Or.inl ⟨by exact (have a0 := in_u i17; have a1 := in_u ((inv_F hI 0 1000 rfl e_46_4)); have a2 := in_u i10; have a3 := in_u ((inv_F hI 0 1000 rfl e_46_1)); have a4 := in_u ((inv_F hI 0 1000 rfl e_46_2)); have a5 := in_u ((inv_F hI 448 28000 rfl e_30_0)); have a6 := in_u ((inv_F hI 0 32 rfl e_2_1)); have a7 := in_u ((inv_F hI 0 4000 rfl e_2_0)); have a8 := in_u ((in_c 0 rfl)); have oc := oc_136_1_46; by omega), by decide⟩)) | exact Or.inr (Or.inr (Or.inr ⟨by exact (have a0 := in_u i17; have a1 := in_u ((inv_F hI 0 1000 rfl e_46_4)); have a2 := in_u i10; have a3 := in_u ((inv_F hI 0 1000 rfl e_46_1)); have a4 := in_u ((inv_F hI 0 1000 rfl e_46_2)); have a5 := in_u ((inv_F hI 448 28000 rfl e_30_0)); have a6 := in_u ((inv_F hI 0 32 rfl e_2_1)); have a7 := in_u ((inv_F hI 0 4000 rfl e_2_0)); have a8 := in_u ((in_c 0 rfl)); have oc := oc_136_1_46; by omega), by decide⟩))
        have n46f : (s.2.2.1 46 3).toInt = 1 ∧ (s.2.2.1 46 5).toInt = (u_46_5).toInt ∧ (u_46_4) = s.2.2.1 46 4 := by first | (exfalso; have h9 := p30 (by exact (have a0 := in_u i17; have a1 := in_u ((inv_F hI 0 1000 rfl e_46_4)); have a2 := in_u i10; have a3 := in_u ((inv_F hI 0 1000 rfl e_46_1)); have a4 := in_u ((inv_F hI 0 1000 rfl e_46_2)); have a5 := in_u ((inv_F hI 448 28000 rfl e_30_0)); have a6 := in_u ((inv_F hI 0 32 rfl e_2_1)); have a7 := in_u ((inv_F hI 0 4000 rfl e_2_0)); have a8 := in_u ((in_c 0 rfl)); have oc := oc_136_1_46; by omega)); revert h9; decide) | exact ⟨by rw [← e_46_3]; exact (have a0 := in_u i17; have a1 := in_u ((inv_F hI 0 1000 rfl e_46_4)); have a2 := in_u i10; have a3 := in_u ((inv_F hI 0 1000 rfl e_46_1)); have a4 := in_u ((inv_F hI 0 1000 rfl e_46_2)); have a5 := in_u ((inv_F hI 448 28000 rfl e_30_0)); have a6 := in_u ((inv_F hI 0 32 rfl e_2_1)); have a7 := in_u ((inv_F hI 0 4000 rfl e_2_0)); have a8 := in_u ((in_c 0 rfl)); have oc := oc_136_1_46; by omega), by rw [← e_46_5], e_46_4⟩
        have n46g : ((Int32.ofInt 0)).toInt ≤ (cmA (u_46_5).toInt : Int) := by exact Int.natCast_nonneg _
        have n46h : ∀ a : Nat, TKN (s.1 47) (s.2.2.1 46 1).toInt.toNat a (s.2.2.1 46 4).toInt.toNat (s.2.2.1 46 2).toInt.toNat (s.2.2.1 46 3).toInt (s.2.2.1 46 5).toInt → (∀ j, j < ((Int32.ofInt 0)).toInt.toNat → ∃ q f, TSQ (s.1 47) (s.2.2.1 46 1).toInt.toNat a (j + 1) q f (cmK (u_46_5).toInt (j + 1)) (s.1 31 j).toInt) ∧ ∃ p k v, TSQ (s.1 47) (s.2.2.1 46 1).toInt.toNat a ((Int32.ofInt 0)).toInt.toNat p (u_46_2).toInt.toNat k v := by intro a ha; exact ⟨fun j hj => absurd hj (by have h9 : (Int32.ofInt 0).toInt.toNat = 0 := rfl; omega), _, _, _, by rw [e_46_2]; exact ha⟩
        have n46i : s.2.2.1 46 6 = s.2.2.1 46 6 ∧ s.2.2.1 46 7 = s.2.2.1 46 7 := by exact ⟨rfl, rfl⟩
        exact gg_w (by first | exact Nat.le_of_ble_eq_true rfl | omega) (gg_f (gf_cons rfl (gf_cons rfl (gf_cons rfl (gf_cons rfl (gf_cons rfl (gf_cons rfl gf_nil)))))) (ct46 6 s u_46_4 u_46_5 (Int32.ofInt 5) (Int32.ofInt 0) u_46_2 u_2_0 u_2_1 u_30_0 hI fr_rf (in_w 0 1000 (inv_F hI 0 1000 rfl e_46_4) rfl) (in_w (-1) 25 i17 rfl) (in_w 1 5 (in_c 5 rfl) rfl) (in_w 0 5 (in_c 0 rfl) rfl) e_46_2 e_2_0 e_2_1 e_30_0 n46 n46a n46b n46c n46d n46e n46f n46g n46h n46i (m_in 6 (in_w 0 5 (in_c 0 rfl) rfl) rfl)))
      · skip
        have i33 := z_ne 1 1 c33 i30a rfl
        refine g_aload_n 37 (gd rfl) rfl rfl ?_
        refine g_iconst 2 38 (gd rfl) rfl rfl ?_
        refine g_iconst 3 39 (gd rfl) rfl rfl ?_
        refine g_callv (X := _) (As := [.int (Int32.ofInt 2), .int (Int32.ofInt 3)]) (r := []) (b := A 46) (q := 46) 42 (gd rfl) rfl rfl rfl rfl rfl (ww_o rfl) (Nat.le_of_ble_eq_true rfl) (Nat.zero_le _) (Nat.zero_le _) (f_169_46 (by first | exact dq1 hd rfl | exact dq0 hd rfl | exact dq2 hd rfl | exact dq3 hd rfl | omega) hI (in_w 2 2 (in_c 2 rfl) rfl) (in_w 3 3 (in_c 3 rfl) rfl) e_46_3 e_46_4) (fun e u h => h) (fun v u h => ?_)
        obtain ⟨s39, hI39, hF39, z39, rfl, rfl, i39, p39⟩ := h
        show GG _ _ _ _ _ _ _ _ [.int z39] _ _ _
        have n42 : KL s39 := by have hL9 : Fr ([31], [], [(46, 2), (46, 3), (46, 4), (46, 5), (46, 6), (46, 7)], []) s s39 := (fr_tr rfl fr_rf hF39); exact kl_fr q_0 hL9 rfl
        have n42a : (z39).toInt ≠ 0 → (s39.2.2.1 30 0).toInt = nln s := by first | (intro h; exact absurd rfl h) | (intro h; exfalso; revert h; first | (unfold In at i39; omega) | (unfold In at i104; omega) | (unfold In at i144; omega))
        have n42b : (z39).toInt ≠ 0 → (s.2.2.1 2 0).toInt ≤ 3999 := by first | (intro h; exact absurd rfl h) | (intro h; exfalso; revert h; first | (unfold In at i39; omega) | (unfold In at i104; omega) | (unfold In at i144; omega))
        have n42c : ∀ k : Nat, (k : Int) < 7 * (s.2.2.1 2 0).toInt → s39.1 30 k = s.1 30 k := by have hL9 : Fr ([31], [], [(46, 2), (46, 3), (46, 4), (46, 5), (46, 6), (46, 7)], []) s s39 := (fr_tr rfl fr_rf hF39); exact fun k _ => by rw [hL9.1 30 rfl]
        have n42d : (z39).toInt ≠ 0 → ∀ a : Nat, TKN (s.1 47) (s.2.2.1 46 1).toInt.toNat a (s.2.2.1 46 4).toInt.toNat (s.2.2.1 46 2).toInt.toNat (s.2.2.1 46 3).toInt (s.2.2.1 46 5).toInt → ∃ c V, CMP (s.1 47) (s.2.2.1 46 1).toInt.toNat a (s.2.2.1 46 4).toInt.toNat c V (s39.2.2.1 46 2).toInt.toNat ∧ dkC (gvC s) c V ∧ gvC s39 = opC (gvC s) c V := by first | (intro h; exact absurd rfl h) | (intro h; exfalso; revert h; first | (unfold In at i39; omega) | (unfold In at i104; omega) | (unfold In at i144; omega))
        have n42e : (z39).toInt = 0 → ∀ a : Nat, TKN (s.1 47) (s.2.2.1 46 1).toInt.toNat a (s.2.2.1 46 4).toInt.toNat (s.2.2.1 46 2).toInt.toNat (s.2.2.1 46 3).toInt (s.2.2.1 46 5).toInt → CMX (s.1 47) (s.2.2.1 46 1).toInt.toNat a (s39.2.2.1 46 6).toInt (s39.2.2.1 46 7).toInt.toNat ∨ ∃ c V e, CMP (s.1 47) (s.2.2.1 46 1).toInt.toNat a (s39.2.2.1 46 7).toInt.toNat c V e ∧ ¬ dkC (gvC s) c V ∧ (s39.2.2.1 46 6).toInt = 4 := by intro _ a ha; refine Or.inl (Or.inl ⟨_, _, _, by rw [p39.2]; exact ha, q_4, ?_, p39.1⟩); first | (rintro ⟨h8, h9⟩; rw [← e_46_3] at h8; exact (have a0 := in_u i17; have a1 := in_u ((inv_F hI 0 1000 rfl e_46_4)); have a2 := in_u i10; have a3 := in_u ((inv_F hI 0 1000 rfl e_46_1)); have a4 := in_u ((inv_F hI 0 1000 rfl e_46_2)); have a5 := in_u ((inv_F hI 448 28000 rfl e_30_0)); have a6 := in_u ((inv_F hI 0 32 rfl e_2_1)); have a7 := in_u ((inv_F hI 0 4000 rfl e_2_0)); have oc := oc_136_1_46; by omega)) | (rintro ⟨h8, h9⟩; rw [← e_46_5] at h9; unfold cmI at h9; exact (have a0 := in_u i17; have a1 := in_u ((inv_F hI 0 1000 rfl e_46_4)); have a2 := in_u i10; have a3 := in_u ((inv_F hI 0 1000 rfl e_46_1)); have a4 := in_u ((inv_F hI 0 1000 rfl e_46_2)); have a5 := in_u ((inv_F hI 448 28000 rfl e_30_0)); have a6 := in_u ((inv_F hI 0 32 rfl e_2_1)); have a7 := in_u ((inv_F hI 0 4000 rfl e_2_0)); have oc := oc_136_1_46; by omega)) | (exfalso; have h9 := p30a (by exact (have a0 := in_u i17; have a1 := in_u ((inv_F hI 0 1000 rfl e_46_4)); have a2 := in_u i10; have a3 := in_u ((inv_F hI 0 1000 rfl e_46_1)); have a4 := in_u ((inv_F hI 0 1000 rfl e_46_2)); have a5 := in_u ((inv_F hI 448 28000 rfl e_30_0)); have a6 := in_u ((inv_F hI 0 32 rfl e_2_1)); have a7 := in_u ((inv_F hI 0 4000 rfl e_2_0)); have oc := oc_136_1_46; by omega)); revert h9; decide)
        have n42f : (z39).toInt ≠ 0 → TQ s39 := by first | (intro h; exact absurd rfl h) | (intro h; exfalso; revert h; first | (unfold In at i39; omega) | (unfold In at i104; omega) | (unfold In at i144; omega))
        have n42g : (z39).toInt ≠ 0 → s39.2.2.1 46 6 = s.2.2.1 46 6 ∧ s39.2.2.1 46 7 = s.2.2.1 46 7 := by first | (intro h; exact absurd rfl h) | (intro h; exfalso; revert h; first | (unfold In at i39; omega) | (unfold In at i104; omega) | (unfold In at i144; omega))
        have n42h : (z39).toInt = 0 → 0 ≤ (s39.2.2.1 46 7).toInt := by intro _; rw [p39.2, ← e_46_4]; exact (have a0 := in_u i17; have a1 := in_u ((inv_F hI 0 1000 rfl e_46_4)); have a2 := in_u i10; have a3 := in_u ((inv_F hI 0 1000 rfl e_46_1)); have a4 := in_u ((inv_F hI 0 1000 rfl e_46_2)); have a5 := in_u ((inv_F hI 448 28000 rfl e_30_0)); have a6 := in_u ((inv_F hI 0 32 rfl e_2_1)); have a7 := in_u ((inv_F hI 0 4000 rfl e_2_0)); have oc := oc_136_1_46; by omega)
        have n42i : (u_46_2).toInt ≤ (u_46_1).toInt := by exact (have a0 := in_u i17; have a1 := in_u ((inv_F hI 0 1000 rfl e_46_4)); have a2 := in_u i10; have a3 := in_u ((inv_F hI 0 1000 rfl e_46_1)); have a4 := in_u ((inv_F hI 0 1000 rfl e_46_2)); have a5 := in_u ((inv_F hI 448 28000 rfl e_30_0)); have a6 := in_u ((inv_F hI 0 32 rfl e_2_1)); have a7 := in_u ((inv_F hI 0 4000 rfl e_2_0)); have oc := oc_136_1_46; by omega)
        have n42j : (s39.2.2.1 46 2).toInt ≤ (s39.2.2.1 46 1).toInt := by have b0 : u_46_2 = s39.2.2.1 46 2 := fr_F (e_46_2) hF39 rfl; have b1 : u_46_1 = s39.2.2.1 46 1 := fr_F (e_46_1) hF39 rfl; rw [← b0, ← b1]; exact n42i
        have n42k : (u_2_0).toInt ≤ (u_2_0).toInt := by exact (have a0 := in_u i17; have a1 := in_u ((inv_F hI 0 1000 rfl e_46_4)); have a2 := in_u i10; have a3 := in_u ((inv_F hI 0 1000 rfl e_46_1)); have a4 := in_u ((inv_F hI 0 1000 rfl e_46_2)); have a5 := in_u ((inv_F hI 448 28000 rfl e_30_0)); have a6 := in_u ((inv_F hI 0 32 rfl e_2_1)); have a7 := in_u ((inv_F hI 0 4000 rfl e_2_0)); have oc := oc_136_1_46; by omega)
        have n42l : (s.2.2.1 2 0).toInt ≤ (s39.2.2.1 2 0).toInt := by have b0 : u_2_0 = s39.2.2.1 2 0 := fr_F (e_2_0) hF39 rfl; first | (rw [← b0, ← e_2_0]; exact n42k) | (rw [← b0]; exact n42k)
        exact g_ireturn (gd rfl) rfl (nb01 (in_w 0 1 i39 rfl)) (hP _ _ ⟨(A 30), s39, hI39, (fr_tr rfl fr_rf hF39), n42j, n42l, z39, rfl, (by rw [ax_id]), in_w 0 1 i39 rfl, n42, n42a, n42b, n42c, n42d, n42e, n42f, n42g, n42h⟩)
end
