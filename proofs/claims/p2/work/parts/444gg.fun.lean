/-! FUNCTIONAL CONTRACTS, by fgen.py -/
theorem oc_168_46 : (Int32.ofInt (-1)).toInt = (-1) ∧ (Int32.ofInt 0).toInt = 0 ∧ (Int32.ofInt 1).toInt = 1 := ⟨rfl, rfl, rfl⟩
/-- GraphHouse$Script.accuse -/
theorem f_168_46 {Z : AmZ} {A : Nat → Nat} {s : GS} {ex : va_W} {d : Nat} {X : AmX} {x1 : Int32} {x2 : Int32} (hd : 1 ≤ d) (hI : Inv s) (h1 : In x1 1 5) (h2 : In x2 0 1000) : GC Z d 168 [.ref (A 46), .int x1, .int x2] (WW Z A s ++ ex) 0 0 (fun v u => ∃ t : GS, Inv t ∧ Fr fm_168_46 s t ∧ ∃ z : Int32, v = some (.int z) ∧ u = WW Z A t ++ ex ∧ In z 0 0 ∧ ((t.2.2.1 46 6) = x1 ∧ (t.2.2.1 46 7) = x2)) X := by
  intro post xp hP hX
  refine g_enter2 (k := 168) (N := 900) (by omega) rfl (Nat.le_of_ble_eq_true rfl) ?_
  refine g_aload_n 1 (gd rfl) rfl rfl ?_
  refine g_iload_n 2 (gd rfl) rfl rfl ?_
  refine g_putI 5 (gd rfl) rfl rfl rfl rfl ?_
  have hI2 := inv_sF (q := 46) (j := 6) hI rfl (in_w (-1) 5 h1 rfl)
  refine g_aload_n 6 (gd rfl) rfl rfl ?_
  refine g_iload_n 7 (gd rfl) rfl rfl ?_
  refine g_putI 10 (gd rfl) rfl rfl rfl rfl ?_
  have hI7 := inv_sF (q := 46) (j := 7) hI2 rfl (in_w (-1) 1000 h2 rfl)
  refine g_iconst 0 11 (gd rfl) rfl rfl ?_
  have n11 : ((sF (sF s 46 6 x1) 46 7 x2).2.2.1 46 6) = x1 ∧ ((sF (sF s 46 6 x1) 46 7 x2).2.2.1 46 7) = x2 := by exact ⟨((show x1 = (sF (sF s 46 6 x1) 46 7 x2).2.2.1 46 6 from sF_ne rfl (sF_get))).symm, ((show x2 = (sF (sF s 46 6 x1) 46 7 x2).2.2.1 46 7 from sF_get)).symm⟩
  exact g_ireturn (gd rfl) rfl (nb01 (in_w 0 1 (in_c 0 rfl) rfl)) (hP _ _ ⟨(sF (sF s 46 6 x1) 46 7 x2), hI7, (fr_sF rfl (fr_sF rfl fr_rf)), (Int32.ofInt 0), rfl, rfl, in_w 0 0 (in_c 0 rfl) rfl, n11⟩)

theorem oc_169_46 : (Int32.ofInt (-1)).toInt = (-1) ∧ (Int32.ofInt 0).toInt = 0 ∧ (Int32.ofInt 1).toInt = 1 ∧ (Int32.ofInt 4).toInt = 4 ∧ (Int32.ofInt 5).toInt = 5 := ⟨rfl, rfl, rfl, rfl, rfl⟩
/-- GraphHouse$Script.refuse -/
theorem f_169_46 {Z : AmZ} {A : Nat → Nat} {s : GS} {ex : va_W} {d : Nat} {X : AmX} {x1 : Int32} {x2 : Int32} {u_46_3 : Int32} {u_46_4 : Int32} (hd : 2 ≤ d) (hI : Inv s) (h1 : In x1 2 2) (h2 : In x2 3 3) (e_46_3 : u_46_3 = s.2.2.1 46 3) (e_46_4 : u_46_4 = s.2.2.1 46 4) : GC Z d 169 [.ref (A 46), .int x1, .int x2] (WW Z A s ++ ex) 0 0 (fun v u => ∃ t : GS, Inv t ∧ Fr fm_169_46 s t ∧ ∃ z : Int32, v = some (.int z) ∧ u = WW Z A t ++ ex ∧ In z 0 0 ∧ ((t.2.2.1 46 6).toInt = cmF (s.2.2.1 46 3).toInt ∧ (t.2.2.1 46 7) = s.2.2.1 46 4)) X := by
  intro post xp hP hX
  have ro_46_3 := inv_F hI 0 5 rfl e_46_3
  have ro_46_4 := inv_F hI 0 1000 rfl e_46_4
  refine g_enter2 (k := 169) (N := 900) (by omega) rfl (Nat.le_of_ble_eq_true rfl) ?_
  refine g_aload_n 1 (gd rfl) rfl rfl ?_
  refine g_getI 4 (gd rfl) rfl rfl rfl (fun z1 e1 => ?_)
  have q1 : u_46_3 = z1 := (e_46_3).trans e1.symm
  subst q1
  refine g_iconst 4 5 (gd rfl) rfl rfl ?_
  refine g_cmp_ne 8 18 (gd rfl) rfl rfl (fun c5 => ?_) (fun c5 => ?_)
  · skip
    refine g_aload_n 19 (gd rfl) rfl rfl ?_
    refine g_aload_n 20 (gd rfl) rfl rfl ?_
    refine g_getI 23 (gd rfl) rfl rfl rfl (fun z20 e20 => ?_)
    have q20 : u_46_3 = z20 := (e_46_3).trans e20.symm
    subst q20
    refine g_iconst 5 24 (gd rfl) rfl rfl ?_
    refine g_cmp_ne 27 31 (gd rfl) rfl rfl (fun c24 => ?_) (fun c24 => ?_)
    · skip
      have i24 := r_ne1 0 4 c24 (inv_F hI 0 5 rfl e_46_3) (in_c 5 rfl) rfl
      refine g_iload_n 32 (gd rfl) rfl rfl ?_
      refine g_aload_n 33 (gd rfl) rfl rfl ?_
      refine g_getI 36 (gd rfl) rfl rfl rfl (fun z33 e33 => ?_)
      have q33 : u_46_4 = z33 := (e_46_4).trans e33.symm
      subst q33
      refine g_callv (X := _) (As := [.int x1, .int u_46_4]) (r := []) (b := A 46) (q := 46) 39 (gd rfl) rfl rfl rfl rfl rfl (ww_o rfl) (Nat.le_of_ble_eq_true rfl) (Nat.zero_le _) (Nat.zero_le _) (f_168_46 (by omega) hI (in_w 1 5 h1 rfl) (in_w 0 1000 (inv_F hI 0 1000 rfl e_46_4) rfl)) (fun e u h => h) (fun v u h => ?_)
      obtain ⟨s36, hI36, hF36, z36, rfl, rfl, i36, p36⟩ := h
      show GG _ _ _ _ _ _ _ _ [.int z36] _ _ _
      have n39 : (s36.2.2.1 46 6).toInt = cmF (s.2.2.1 46 3).toInt ∧ (s36.2.2.1 46 7) = s.2.2.1 46 4 := by refine ⟨?_, by rw [p36.2, ← e_46_4]⟩; rw [p36.1, ← e_46_3]; unfold cmF; rw [if_neg (by have a0 := (inv_F hI 0 1000 rfl e_46_4); unfold In at a0; have a1 := i24; unfold In at a1; have a2 := h2; unfold In at a2; have a3 := h1; unfold In at a3; have oc := oc_169_46; omega)]; first | (rw [if_pos (by have a0 := (inv_F hI 0 1000 rfl e_46_4); unfold In at a0; have a1 := i24; unfold In at a1; have a2 := h2; unfold In at a2; have a3 := h1; unfold In at a3; have oc := oc_169_46; omega)]; have a0 := (inv_F hI 0 1000 rfl e_46_4); unfold In at a0; have a1 := i24; unfold In at a1; have a2 := h2; unfold In at a2; have a3 := h1; unfold In at a3; have oc := oc_169_46; omega) | (rw [if_neg (by have a0 := (inv_F hI 0 1000 rfl e_46_4); unfold In at a0; have a1 := i24; unfold In at a1; have a2 := h2; unfold In at a2; have a3 := h1; unfold In at a3; have oc := oc_169_46; omega)]; have a0 := (inv_F hI 0 1000 rfl e_46_4); unfold In at a0; have a1 := i24; unfold In at a1; have a2 := h2; unfold In at a2; have a3 := h1; unfold In at a3; have oc := oc_169_46; omega)
      exact g_ireturn (gd rfl) rfl (nb01 (in_w 0 1 i36 rfl)) (hP _ _ ⟨s36, hI36, (fr_tr rfl fr_rf hF36), z36, rfl, rfl, in_w 0 0 i36 rfl, n39⟩)
    · skip
      have i24 := r_eq1 5 5 c24 (inv_F hI 0 5 rfl e_46_3) (in_c 5 rfl) rfl
      refine g_iload_n 28 (gd rfl) rfl rfl ?_
      refine g_goto 32 (gd rfl) rfl ?_
      refine g_aload_n 33 (gd rfl) rfl rfl ?_
      refine g_getI 36 (gd rfl) rfl rfl rfl (fun z33 e33 => ?_)
      have q33 : u_46_4 = z33 := (e_46_4).trans e33.symm
      subst q33
      refine g_callv (X := _) (As := [.int x2, .int u_46_4]) (r := []) (b := A 46) (q := 46) 39 (gd rfl) rfl rfl rfl rfl rfl (ww_o rfl) (Nat.le_of_ble_eq_true rfl) (Nat.zero_le _) (Nat.zero_le _) (f_168_46 (by omega) hI (in_w 1 5 h2 rfl) (in_w 0 1000 (inv_F hI 0 1000 rfl e_46_4) rfl)) (fun e u h => h) (fun v u h => ?_)
      obtain ⟨s36, hI36, hF36, z36, rfl, rfl, i36, p36⟩ := h
      show GG _ _ _ _ _ _ _ _ [.int z36] _ _ _
      have n39 : (s36.2.2.1 46 6).toInt = cmF (s.2.2.1 46 3).toInt ∧ (s36.2.2.1 46 7) = s.2.2.1 46 4 := by refine ⟨?_, by rw [p36.2, ← e_46_4]⟩; rw [p36.1, ← e_46_3]; unfold cmF; rw [if_neg (by have a0 := (inv_F hI 0 1000 rfl e_46_4); unfold In at a0; have a1 := i24; unfold In at a1; have a2 := h2; unfold In at a2; have a3 := h1; unfold In at a3; have oc := oc_169_46; omega)]; first | (rw [if_pos (by have a0 := (inv_F hI 0 1000 rfl e_46_4); unfold In at a0; have a1 := i24; unfold In at a1; have a2 := h2; unfold In at a2; have a3 := h1; unfold In at a3; have oc := oc_169_46; omega)]; have a0 := (inv_F hI 0 1000 rfl e_46_4); unfold In at a0; have a1 := i24; unfold In at a1; have a2 := h2; unfold In at a2; have a3 := h1; unfold In at a3; have oc := oc_169_46; omega) | (rw [if_neg (by have a0 := (inv_F hI 0 1000 rfl e_46_4); unfold In at a0; have a1 := i24; unfold In at a1; have a2 := h2; unfold In at a2; have a3 := h1; unfold In at a3; have oc := oc_169_46; omega)]; have a0 := (inv_F hI 0 1000 rfl e_46_4); unfold In at a0; have a1 := i24; unfold In at a1; have a2 := h2; unfold In at a2; have a3 := h1; unfold In at a3; have oc := oc_169_46; omega)
      exact g_ireturn (gd rfl) rfl (nb01 (in_w 0 1 i36 rfl)) (hP _ _ ⟨s36, hI36, (fr_tr rfl fr_rf hF36), z36, rfl, rfl, in_w 0 0 i36 rfl, n39⟩)
  · skip
    have i5 := r_eq1 4 4 c5 (inv_F hI 0 5 rfl e_46_3) (in_c 4 rfl) rfl
    refine g_aload_n 9 (gd rfl) rfl rfl ?_
    refine g_iconst 1 10 (gd rfl) rfl rfl ?_
    refine g_aload_n 11 (gd rfl) rfl rfl ?_
    refine g_getI 14 (gd rfl) rfl rfl rfl (fun z11 e11 => ?_)
    have q11 : u_46_4 = z11 := (e_46_4).trans e11.symm
    subst q11
    refine g_callv (X := _) (As := [.int (Int32.ofInt 1), .int u_46_4]) (r := []) (b := A 46) (q := 46) 17 (gd rfl) rfl rfl rfl rfl rfl (ww_o rfl) (Nat.le_of_ble_eq_true rfl) (Nat.zero_le _) (Nat.zero_le _) (f_168_46 (by omega) hI (in_w 1 5 (in_c 1 rfl) rfl) (in_w 0 1000 (inv_F hI 0 1000 rfl e_46_4) rfl)) (fun e u h => h) (fun v u h => ?_)
    obtain ⟨s14, hI14, hF14, z14, rfl, rfl, i14, p14⟩ := h
    show GG _ _ _ _ _ _ _ _ [.int z14] _ _ _
    have n17 : (s14.2.2.1 46 6).toInt = cmF (s.2.2.1 46 3).toInt ∧ (s14.2.2.1 46 7) = s.2.2.1 46 4 := by refine ⟨?_, by rw [p14.2, ← e_46_4]⟩; rw [p14.1, ← e_46_3]; unfold cmF; rw [if_pos (by have a0 := (inv_F hI 0 1000 rfl e_46_4); unfold In at a0; have a1 := i5; unfold In at a1; have a2 := h2; unfold In at a2; have a3 := h1; unfold In at a3; have oc := oc_169_46; omega)]; rfl
    exact g_ireturn (gd rfl) rfl (nb01 (in_w 0 1 i14 rfl)) (hP _ _ ⟨s14, hI14, (fr_tr rfl fr_rf hF14), z14, rfl, rfl, in_w 0 0 i14 rfl, n17⟩)

theorem oc_93_16_2 : (Int32.ofInt (-1)).toInt = (-1) ∧ (Int32.ofInt 0).toInt = 0 ∧ (Int32.ofInt 1).toInt = 1 ∧ (Int32.ofInt 32).toInt = 32 ∧ (Int32.ofInt 160).toInt = 160 := ⟨rfl, rfl, rfl, rfl, rfl⟩
/-- GraphHouse$Graph.copyOf -/
theorem f_93_16_2 {Z : AmZ} {A : Nat → Nat} {s : GS} {ex : va_W} {d : Nat} {X : AmX}  (hd : 1 ≤ d) (hI : Inv s)  : GC Z d 93 [.ref (A 16), .ref (A 2)] (WW Z A s ++ ex) 0 0 (fun v u => ∃ t : GS, Inv t ∧ Fr fm_93_16_2 s t ∧ v = none ∧ u = WW Z A t ++ ex ∧ (∀ p : Nat, p < 160 → t.1 18 p = s.1 4 p) ∧ (∀ p : Nat, p < 160 → t.1 19 p = s.1 5 p) ∧ (t.2.2.1 16 0 = s.2.2.1 2 0) ∧ (t.2.2.1 16 1 = s.2.2.1 2 1) ∧ (∀ p : Nat, p < 32 → t.1 17 p = s.1 3 p) ∧ (∀ p : Nat, p < 160 → t.1 20 p = s.1 6 p) ∧ (∀ p : Nat, p < 160 → t.1 21 p = s.1 7 p) ∧ (∀ p : Nat, p < 160 → t.1 22 p = s.1 8 p) ∧ (t.2.2.1 16 3 = s.2.2.1 2 3)) X := by
  intro post xp hP hX
  obtain ⟨u_2_0, e_2_0⟩ : ∃ w, w = s.2.2.1 2 0 := ⟨_, rfl⟩
  have ro_2_0 := inv_F hI 0 4000 rfl e_2_0
  obtain ⟨u_2_1, e_2_1⟩ : ∃ w, w = s.2.2.1 2 1 := ⟨_, rfl⟩
  have ro_2_1 := inv_F hI 0 32 rfl e_2_1
  obtain ⟨u_2_2, e_2_2⟩ : ∃ w, w = s.2.2.1 2 2 := ⟨_, rfl⟩
  obtain ⟨u_2_3, e_2_3⟩ : ∃ w, w = s.2.2.1 2 3 := ⟨_, rfl⟩
  have ro_2_3 := inv_F hI 0 160 rfl e_2_3
  refine g_enter2 (k := 93) (N := 900) (by omega) rfl (Nat.le_of_ble_eq_true rfl) ?_
  refine g_aload_n 1 (gd rfl) rfl rfl ?_
  refine g_aload_n 2 (gd rfl) rfl rfl ?_
  refine g_getI 5 (gd rfl) rfl rfl rfl (fun z2 e2 => ?_)
  have q2 : u_2_0 = z2 := (e_2_0).trans e2.symm
  subst q2
  refine g_putI 8 (gd rfl) rfl rfl rfl rfl ?_
  have hI5 := rng_sF (q := 16) (j := 0) hI.1 rfl (in_w 0 4000 ro_2_0 rfl)
  refine g_aload_n 9 (gd rfl) rfl rfl ?_
  refine g_aload_n 10 (gd rfl) rfl rfl ?_
  refine g_getI 13 (gd rfl) rfl rfl rfl (fun z10 e10 => ?_)
  have q10 : u_2_1 = z10 := (sF_ne rfl (e_2_1)).trans e10.symm
  subst q10
  refine g_putI 16 (gd rfl) rfl rfl rfl rfl ?_
  have hI13 := rng_sF (q := 16) (j := 1) hI5 rfl (in_w 0 32 ro_2_1 rfl)
  refine g_aload_n 17 (gd rfl) rfl rfl ?_
  refine g_aload_n 18 (gd rfl) rfl rfl ?_
  refine g_getI 21 (gd rfl) rfl rfl rfl (fun z18 e18 => ?_)
  have q18 : u_2_2 = z18 := (sF_ne rfl (sF_ne rfl (e_2_2))).trans e18.symm
  subst q18
  refine g_putI 24 (gd rfl) rfl rfl rfl rfl ?_
  have hI21 := rng_sF (q := 16) (j := 2) hI13 rfl (in_w (-2147483648) 2147483647 (i_rng u_2_2) rfl)
  refine g_aload_n 25 (gd rfl) rfl rfl ?_
  refine g_aload_n 26 (gd rfl) rfl rfl ?_
  refine g_getI 29 (gd rfl) rfl rfl rfl (fun z26 e26 => ?_)
  have q26 : u_2_3 = z26 := (sF_ne rfl (sF_ne rfl (sF_ne rfl (e_2_3)))).trans e26.symm
  subst q26
  refine g_putI 32 (gd rfl) rfl rfl rfl rfl ?_
  have hI29 := rng_sF (q := 16) (j := 3) hI21 rfl (in_w 0 160 ro_2_3 rfl)
  refine g_aload_n 33 (gd rfl) rfl rfl ?_
  refine g_iconst (-1) 34 (gd rfl) rfl rfl ?_
  refine g_putI 37 (gd rfl) rfl rfl rfl rfl ?_
  have hI34 := rng_sF (q := 16) (j := 4) hI29 rfl (in_w (-1) 4000 (in_c (-1) rfl) rfl)
  refine g_aload_n 38 (gd rfl) rfl rfl ?_
  refine g_getA (q2 := 3) 41 (gd rfl) rfl rfl rfl rfl ?_
  refine g_iconst 0 42 (gd rfl) rfl rfl ?_
  refine g_aload_n 43 (gd rfl) rfl rfl ?_
  refine g_getA (q2 := 17) 46 (gd rfl) rfl rfl rfl rfl ?_
  refine g_iconst 0 47 (gd rfl) rfl rfl ?_
  refine g_bipush 32 49 (gd rfl) rfl rfl ?_
  refine g_cpIr (q2 := 3) (q := 17) (n0 := 32) (n1 := 32) 52 (gd rfl) rfl rfl rfl rfl (Nat.le_of_ble_eq_true rfl) (cp_0 (in_c 0 rfl) rfl) (cp_0 (in_c 0 rfl) rfl) (cp_0 (in_c 32 rfl) rfl) (cp_1 (in_c 0 rfl) (in_c 32 rfl) rfl) (cp_1 (in_c 0 rfl) (in_c 32 rfl) rfl) hI34 rfl rfl rfl (fun s49 hI49 hF49 cp49 => ?_)
  refine g_aload_n 53 (gd rfl) rfl rfl ?_
  refine g_getA (q2 := 4) 56 (gd rfl) rfl rfl rfl rfl ?_
  refine g_iconst 0 57 (gd rfl) rfl rfl ?_
  refine g_aload_n 58 (gd rfl) rfl rfl ?_
  refine g_getA (q2 := 18) 61 (gd rfl) rfl rfl rfl rfl ?_
  refine g_iconst 0 62 (gd rfl) rfl rfl ?_
  refine g_sipush 160 65 (gd rfl) rfl rfl ?_
  refine g_cpIr (q2 := 4) (q := 18) (n0 := 160) (n1 := 160) 68 (gd rfl) rfl rfl rfl rfl (Nat.le_of_ble_eq_true rfl) (cp_0 (in_c 0 rfl) rfl) (cp_0 (in_c 0 rfl) rfl) (cp_0 (in_c 160 rfl) rfl) (cp_1 (in_c 0 rfl) (in_c 160 rfl) rfl) (cp_1 (in_c 0 rfl) (in_c 160 rfl) rfl) hI49 rfl rfl rfl (fun s65 hI65 hF65 cp65 => ?_)
  refine g_aload_n 69 (gd rfl) rfl rfl ?_
  refine g_getA (q2 := 5) 72 (gd rfl) rfl rfl rfl rfl ?_
  refine g_iconst 0 73 (gd rfl) rfl rfl ?_
  refine g_aload_n 74 (gd rfl) rfl rfl ?_
  refine g_getA (q2 := 19) 77 (gd rfl) rfl rfl rfl rfl ?_
  refine g_iconst 0 78 (gd rfl) rfl rfl ?_
  refine g_sipush 160 81 (gd rfl) rfl rfl ?_
  refine g_cpIr (q2 := 5) (q := 19) (n0 := 160) (n1 := 160) 84 (gd rfl) rfl rfl rfl rfl (Nat.le_of_ble_eq_true rfl) (cp_0 (in_c 0 rfl) rfl) (cp_0 (in_c 0 rfl) rfl) (cp_0 (in_c 160 rfl) rfl) (cp_1 (in_c 0 rfl) (in_c 160 rfl) rfl) (cp_1 (in_c 0 rfl) (in_c 160 rfl) rfl) hI65 rfl rfl rfl (fun s81 hI81 hF81 cp81 => ?_)
  refine g_aload_n 85 (gd rfl) rfl rfl ?_
  refine g_getA (q2 := 6) 88 (gd rfl) rfl rfl rfl rfl ?_
  refine g_iconst 0 89 (gd rfl) rfl rfl ?_
  refine g_aload_n 90 (gd rfl) rfl rfl ?_
  refine g_getA (q2 := 20) 93 (gd rfl) rfl rfl rfl rfl ?_
  refine g_iconst 0 94 (gd rfl) rfl rfl ?_
  refine g_sipush 160 97 (gd rfl) rfl rfl ?_
  refine g_cpIr (q2 := 6) (q := 20) (n0 := 160) (n1 := 160) 100 (gd rfl) rfl rfl rfl rfl (Nat.le_of_ble_eq_true rfl) (cp_0 (in_c 0 rfl) rfl) (cp_0 (in_c 0 rfl) rfl) (cp_0 (in_c 160 rfl) rfl) (cp_1 (in_c 0 rfl) (in_c 160 rfl) rfl) (cp_1 (in_c 0 rfl) (in_c 160 rfl) rfl) hI81 rfl rfl rfl (fun s97 hI97 hF97 cp97 => ?_)
  refine g_aload_n 101 (gd rfl) rfl rfl ?_
  refine g_getA (q2 := 7) 104 (gd rfl) rfl rfl rfl rfl ?_
  refine g_iconst 0 105 (gd rfl) rfl rfl ?_
  refine g_aload_n 106 (gd rfl) rfl rfl ?_
  refine g_getA (q2 := 21) 109 (gd rfl) rfl rfl rfl rfl ?_
  refine g_iconst 0 110 (gd rfl) rfl rfl ?_
  refine g_sipush 160 113 (gd rfl) rfl rfl ?_
  refine g_cpIr (q2 := 7) (q := 21) (n0 := 160) (n1 := 160) 116 (gd rfl) rfl rfl rfl rfl (Nat.le_of_ble_eq_true rfl) (cp_0 (in_c 0 rfl) rfl) (cp_0 (in_c 0 rfl) rfl) (cp_0 (in_c 160 rfl) rfl) (cp_1 (in_c 0 rfl) (in_c 160 rfl) rfl) (cp_1 (in_c 0 rfl) (in_c 160 rfl) rfl) hI97 rfl rfl rfl (fun s113 hI113 hF113 cp113 => ?_)
  refine g_aload_n 117 (gd rfl) rfl rfl ?_
  refine g_getA (q2 := 8) 120 (gd rfl) rfl rfl rfl rfl ?_
  refine g_iconst 0 121 (gd rfl) rfl rfl ?_
  refine g_aload_n 122 (gd rfl) rfl rfl ?_
  refine g_getA (q2 := 22) 125 (gd rfl) rfl rfl rfl rfl ?_
  refine g_iconst 0 126 (gd rfl) rfl rfl ?_
  refine g_sipush 160 129 (gd rfl) rfl rfl ?_
  refine g_cpIr (q2 := 8) (q := 22) (n0 := 160) (n1 := 160) 132 (gd rfl) rfl rfl rfl rfl (Nat.le_of_ble_eq_true rfl) (cp_0 (in_c 0 rfl) rfl) (cp_0 (in_c 0 rfl) rfl) (cp_0 (in_c 160 rfl) rfl) (cp_1 (in_c 0 rfl) (in_c 160 rfl) rfl) (cp_1 (in_c 0 rfl) (in_c 160 rfl) rfl) hI113 rfl rfl rfl (fun s129 hI129 hF129 cp129 => ?_)
  have hI132 : Inv s129 := by have hFF : Fr fm_93_16_2 s s129 := (fr_tr rfl (fr_tr rfl (fr_tr rfl (fr_tr rfl (fr_tr rfl (fr_tr rfl (fr_sF rfl (fr_sF rfl (fr_sF rfl (fr_sF rfl (fr_sF rfl fr_rf))))) hF49) hF65) hF81) hF97) hF113) hF129); exact ⟨hI129, kk_g hI.2.1 hFF rfl rfl rfl rfl rfl, kk_g hI.2.2.1 hFF rfl rfl rfl rfl rfl, kk_s hI.2.2.2.1 hFF rfl, kk_r hI.2.2.2.2 hFF rfl⟩
  have n132 : ∀ p : Nat, p < 160 → s129.1 18 p = s.1 4 p := by exact fun p hp => by rw [hF129.1 18 rfl, hF113.1 18 rfl, hF97.1 18 rfl, hF81.1 18 rfl, cp65 p, cp_get (show p < (Int32.ofInt 160).toNatClampNeg from hp), hF49.1 4 rfl]; rfl
  have n132a : ∀ p : Nat, p < 160 → s129.1 19 p = s.1 5 p := by exact fun p hp => by rw [hF129.1 19 rfl, hF113.1 19 rfl, hF97.1 19 rfl, cp81 p, cp_get (show p < (Int32.ofInt 160).toNatClampNeg from hp), hF65.1 5 rfl, hF49.1 5 rfl]; rfl
  have n132b : s129.2.2.1 16 0 = s.2.2.1 2 0 := by exact ((show u_2_0 = s129.2.2.1 16 0 from fr_F (fr_F (fr_F (fr_F (fr_F (fr_F (s := (sF (sF (sF (sF (sF s 16 0 u_2_0) 16 1 u_2_1) 16 2 u_2_2) 16 3 u_2_3) 16 4 (Int32.ofInt (-1)))) (sF_ne rfl (sF_ne rfl (sF_ne rfl (sF_ne rfl (sF_get))))) hF49 rfl) hF65 rfl) hF81 rfl) hF97 rfl) hF113 rfl) hF129 rfl)).symm.trans e_2_0
  have n132c : s129.2.2.1 16 1 = s.2.2.1 2 1 := by exact ((show u_2_1 = s129.2.2.1 16 1 from fr_F (fr_F (fr_F (fr_F (fr_F (fr_F (s := (sF (sF (sF (sF (sF s 16 0 u_2_0) 16 1 u_2_1) 16 2 u_2_2) 16 3 u_2_3) 16 4 (Int32.ofInt (-1)))) (sF_ne rfl (sF_ne rfl (sF_ne rfl (sF_get)))) hF49 rfl) hF65 rfl) hF81 rfl) hF97 rfl) hF113 rfl) hF129 rfl)).symm.trans e_2_1
  have n132d : ∀ p : Nat, p < 32 → s129.1 17 p = s.1 3 p := by exact fun p hp => by rw [hF129.1 17 rfl, hF113.1 17 rfl, hF97.1 17 rfl, hF81.1 17 rfl, hF65.1 17 rfl, cp49 p, cp_get (show p < (Int32.ofInt 32).toNatClampNeg from hp)]; rfl
  have n132e : ∀ p : Nat, p < 160 → s129.1 20 p = s.1 6 p := by exact fun p hp => by rw [hF129.1 20 rfl, hF113.1 20 rfl, cp97 p, cp_get (show p < (Int32.ofInt 160).toNatClampNeg from hp), hF81.1 6 rfl, hF65.1 6 rfl, hF49.1 6 rfl]; rfl
  have n132f : ∀ p : Nat, p < 160 → s129.1 21 p = s.1 7 p := by exact fun p hp => by rw [hF129.1 21 rfl, cp113 p, cp_get (show p < (Int32.ofInt 160).toNatClampNeg from hp), hF97.1 7 rfl, hF81.1 7 rfl, hF65.1 7 rfl, hF49.1 7 rfl]; rfl
  have n132g : ∀ p : Nat, p < 160 → s129.1 22 p = s.1 8 p := by exact fun p hp => by rw [cp129 p, cp_get (show p < (Int32.ofInt 160).toNatClampNeg from hp), hF113.1 8 rfl, hF97.1 8 rfl, hF81.1 8 rfl, hF65.1 8 rfl, hF49.1 8 rfl]; rfl
  have n132h : s129.2.2.1 16 3 = s.2.2.1 2 3 := by exact ((show u_2_3 = s129.2.2.1 16 3 from fr_F (fr_F (fr_F (fr_F (fr_F (fr_F (s := (sF (sF (sF (sF (sF s 16 0 u_2_0) 16 1 u_2_1) 16 2 u_2_2) 16 3 u_2_3) 16 4 (Int32.ofInt (-1)))) (sF_ne rfl (sF_get)) hF49 rfl) hF65 rfl) hF81 rfl) hF97 rfl) hF113 rfl) hF129 rfl)).symm.trans e_2_3
  exact g_return (gd rfl) rfl (hP _ _ ⟨s129, hI132, (fr_tr rfl (fr_tr rfl (fr_tr rfl (fr_tr rfl (fr_tr rfl (fr_tr rfl (fr_sF rfl (fr_sF rfl (fr_sF rfl (fr_sF rfl (fr_sF rfl fr_rf))))) hF49) hF65) hF81) hF97) hF113) hF129), rfl, rfl, n132, n132a, n132b, n132c, n132d, n132e, n132f, n132g, n132h⟩)

theorem oc_93_2_16 : (Int32.ofInt (-1)).toInt = (-1) ∧ (Int32.ofInt 0).toInt = 0 ∧ (Int32.ofInt 1).toInt = 1 ∧ (Int32.ofInt 32).toInt = 32 ∧ (Int32.ofInt 160).toInt = 160 := ⟨rfl, rfl, rfl, rfl, rfl⟩
/-- GraphHouse$Graph.copyOf -/
theorem f_93_2_16 {Z : AmZ} {A : Nat → Nat} {s : GS} {ex : va_W} {d : Nat} {X : AmX}  (hd : 1 ≤ d) (hI : Inv s)  : GC Z d 93 [.ref (A 2), .ref (A 16)] (WW Z A s ++ ex) 0 0 (fun v u => ∃ t : GS, Inv t ∧ Fr fm_93_2_16 s t ∧ v = none ∧ u = WW Z A t ++ ex ∧ (∀ p : Nat, p < 160 → t.1 4 p = s.1 18 p) ∧ (∀ p : Nat, p < 160 → t.1 5 p = s.1 19 p) ∧ (t.2.2.1 2 0 = s.2.2.1 16 0) ∧ (t.2.2.1 2 1 = s.2.2.1 16 1) ∧ (∀ p : Nat, p < 32 → t.1 3 p = s.1 17 p) ∧ (∀ p : Nat, p < 160 → t.1 6 p = s.1 20 p) ∧ (∀ p : Nat, p < 160 → t.1 7 p = s.1 21 p) ∧ (∀ p : Nat, p < 160 → t.1 8 p = s.1 22 p) ∧ (t.2.2.1 2 3 = s.2.2.1 16 3)) X := by
  intro post xp hP hX
  obtain ⟨u_16_0, e_16_0⟩ : ∃ w, w = s.2.2.1 16 0 := ⟨_, rfl⟩
  have ro_16_0 := inv_F hI 0 4000 rfl e_16_0
  obtain ⟨u_16_1, e_16_1⟩ : ∃ w, w = s.2.2.1 16 1 := ⟨_, rfl⟩
  have ro_16_1 := inv_F hI 0 32 rfl e_16_1
  obtain ⟨u_16_2, e_16_2⟩ : ∃ w, w = s.2.2.1 16 2 := ⟨_, rfl⟩
  obtain ⟨u_16_3, e_16_3⟩ : ∃ w, w = s.2.2.1 16 3 := ⟨_, rfl⟩
  have ro_16_3 := inv_F hI 0 160 rfl e_16_3
  refine g_enter2 (k := 93) (N := 900) (by omega) rfl (Nat.le_of_ble_eq_true rfl) ?_
  refine g_aload_n 1 (gd rfl) rfl rfl ?_
  refine g_aload_n 2 (gd rfl) rfl rfl ?_
  refine g_getI 5 (gd rfl) rfl rfl rfl (fun z2 e2 => ?_)
  have q2 : u_16_0 = z2 := (e_16_0).trans e2.symm
  subst q2
  refine g_putI 8 (gd rfl) rfl rfl rfl rfl ?_
  have hI5 := rng_sF (q := 2) (j := 0) hI.1 rfl (in_w 0 4000 ro_16_0 rfl)
  refine g_aload_n 9 (gd rfl) rfl rfl ?_
  refine g_aload_n 10 (gd rfl) rfl rfl ?_
  refine g_getI 13 (gd rfl) rfl rfl rfl (fun z10 e10 => ?_)
  have q10 : u_16_1 = z10 := (sF_ne rfl (e_16_1)).trans e10.symm
  subst q10
  refine g_putI 16 (gd rfl) rfl rfl rfl rfl ?_
  have hI13 := rng_sF (q := 2) (j := 1) hI5 rfl (in_w 0 32 ro_16_1 rfl)
  refine g_aload_n 17 (gd rfl) rfl rfl ?_
  refine g_aload_n 18 (gd rfl) rfl rfl ?_
  refine g_getI 21 (gd rfl) rfl rfl rfl (fun z18 e18 => ?_)
  have q18 : u_16_2 = z18 := (sF_ne rfl (sF_ne rfl (e_16_2))).trans e18.symm
  subst q18
  refine g_putI 24 (gd rfl) rfl rfl rfl rfl ?_
  have hI21 := rng_sF (q := 2) (j := 2) hI13 rfl (in_w (-2147483648) 2147483647 (i_rng u_16_2) rfl)
  refine g_aload_n 25 (gd rfl) rfl rfl ?_
  refine g_aload_n 26 (gd rfl) rfl rfl ?_
  refine g_getI 29 (gd rfl) rfl rfl rfl (fun z26 e26 => ?_)
  have q26 : u_16_3 = z26 := (sF_ne rfl (sF_ne rfl (sF_ne rfl (e_16_3)))).trans e26.symm
  subst q26
  refine g_putI 32 (gd rfl) rfl rfl rfl rfl ?_
  have hI29 := rng_sF (q := 2) (j := 3) hI21 rfl (in_w 0 160 ro_16_3 rfl)
  refine g_aload_n 33 (gd rfl) rfl rfl ?_
  refine g_iconst (-1) 34 (gd rfl) rfl rfl ?_
  refine g_putI 37 (gd rfl) rfl rfl rfl rfl ?_
  have hI34 := rng_sF (q := 2) (j := 4) hI29 rfl (in_w (-1) 4000 (in_c (-1) rfl) rfl)
  refine g_aload_n 38 (gd rfl) rfl rfl ?_
  refine g_getA (q2 := 17) 41 (gd rfl) rfl rfl rfl rfl ?_
  refine g_iconst 0 42 (gd rfl) rfl rfl ?_
  refine g_aload_n 43 (gd rfl) rfl rfl ?_
  refine g_getA (q2 := 3) 46 (gd rfl) rfl rfl rfl rfl ?_
  refine g_iconst 0 47 (gd rfl) rfl rfl ?_
  refine g_bipush 32 49 (gd rfl) rfl rfl ?_
  refine g_cpIr (q2 := 17) (q := 3) (n0 := 32) (n1 := 32) 52 (gd rfl) rfl rfl rfl rfl (Nat.le_of_ble_eq_true rfl) (cp_0 (in_c 0 rfl) rfl) (cp_0 (in_c 0 rfl) rfl) (cp_0 (in_c 32 rfl) rfl) (cp_1 (in_c 0 rfl) (in_c 32 rfl) rfl) (cp_1 (in_c 0 rfl) (in_c 32 rfl) rfl) hI34 rfl rfl rfl (fun s49 hI49 hF49 cp49 => ?_)
  refine g_aload_n 53 (gd rfl) rfl rfl ?_
  refine g_getA (q2 := 18) 56 (gd rfl) rfl rfl rfl rfl ?_
  refine g_iconst 0 57 (gd rfl) rfl rfl ?_
  refine g_aload_n 58 (gd rfl) rfl rfl ?_
  refine g_getA (q2 := 4) 61 (gd rfl) rfl rfl rfl rfl ?_
  refine g_iconst 0 62 (gd rfl) rfl rfl ?_
  refine g_sipush 160 65 (gd rfl) rfl rfl ?_
  refine g_cpIr (q2 := 18) (q := 4) (n0 := 160) (n1 := 160) 68 (gd rfl) rfl rfl rfl rfl (Nat.le_of_ble_eq_true rfl) (cp_0 (in_c 0 rfl) rfl) (cp_0 (in_c 0 rfl) rfl) (cp_0 (in_c 160 rfl) rfl) (cp_1 (in_c 0 rfl) (in_c 160 rfl) rfl) (cp_1 (in_c 0 rfl) (in_c 160 rfl) rfl) hI49 rfl rfl rfl (fun s65 hI65 hF65 cp65 => ?_)
  refine g_aload_n 69 (gd rfl) rfl rfl ?_
  refine g_getA (q2 := 19) 72 (gd rfl) rfl rfl rfl rfl ?_
  refine g_iconst 0 73 (gd rfl) rfl rfl ?_
  refine g_aload_n 74 (gd rfl) rfl rfl ?_
  refine g_getA (q2 := 5) 77 (gd rfl) rfl rfl rfl rfl ?_
  refine g_iconst 0 78 (gd rfl) rfl rfl ?_
  refine g_sipush 160 81 (gd rfl) rfl rfl ?_
  refine g_cpIr (q2 := 19) (q := 5) (n0 := 160) (n1 := 160) 84 (gd rfl) rfl rfl rfl rfl (Nat.le_of_ble_eq_true rfl) (cp_0 (in_c 0 rfl) rfl) (cp_0 (in_c 0 rfl) rfl) (cp_0 (in_c 160 rfl) rfl) (cp_1 (in_c 0 rfl) (in_c 160 rfl) rfl) (cp_1 (in_c 0 rfl) (in_c 160 rfl) rfl) hI65 rfl rfl rfl (fun s81 hI81 hF81 cp81 => ?_)
  refine g_aload_n 85 (gd rfl) rfl rfl ?_
  refine g_getA (q2 := 20) 88 (gd rfl) rfl rfl rfl rfl ?_
  refine g_iconst 0 89 (gd rfl) rfl rfl ?_
  refine g_aload_n 90 (gd rfl) rfl rfl ?_
  refine g_getA (q2 := 6) 93 (gd rfl) rfl rfl rfl rfl ?_
  refine g_iconst 0 94 (gd rfl) rfl rfl ?_
  refine g_sipush 160 97 (gd rfl) rfl rfl ?_
  refine g_cpIr (q2 := 20) (q := 6) (n0 := 160) (n1 := 160) 100 (gd rfl) rfl rfl rfl rfl (Nat.le_of_ble_eq_true rfl) (cp_0 (in_c 0 rfl) rfl) (cp_0 (in_c 0 rfl) rfl) (cp_0 (in_c 160 rfl) rfl) (cp_1 (in_c 0 rfl) (in_c 160 rfl) rfl) (cp_1 (in_c 0 rfl) (in_c 160 rfl) rfl) hI81 rfl rfl rfl (fun s97 hI97 hF97 cp97 => ?_)
  refine g_aload_n 101 (gd rfl) rfl rfl ?_
  refine g_getA (q2 := 21) 104 (gd rfl) rfl rfl rfl rfl ?_
  refine g_iconst 0 105 (gd rfl) rfl rfl ?_
  refine g_aload_n 106 (gd rfl) rfl rfl ?_
  refine g_getA (q2 := 7) 109 (gd rfl) rfl rfl rfl rfl ?_
  refine g_iconst 0 110 (gd rfl) rfl rfl ?_
  refine g_sipush 160 113 (gd rfl) rfl rfl ?_
  refine g_cpIr (q2 := 21) (q := 7) (n0 := 160) (n1 := 160) 116 (gd rfl) rfl rfl rfl rfl (Nat.le_of_ble_eq_true rfl) (cp_0 (in_c 0 rfl) rfl) (cp_0 (in_c 0 rfl) rfl) (cp_0 (in_c 160 rfl) rfl) (cp_1 (in_c 0 rfl) (in_c 160 rfl) rfl) (cp_1 (in_c 0 rfl) (in_c 160 rfl) rfl) hI97 rfl rfl rfl (fun s113 hI113 hF113 cp113 => ?_)
  refine g_aload_n 117 (gd rfl) rfl rfl ?_
  refine g_getA (q2 := 22) 120 (gd rfl) rfl rfl rfl rfl ?_
  refine g_iconst 0 121 (gd rfl) rfl rfl ?_
  refine g_aload_n 122 (gd rfl) rfl rfl ?_
  refine g_getA (q2 := 8) 125 (gd rfl) rfl rfl rfl rfl ?_
  refine g_iconst 0 126 (gd rfl) rfl rfl ?_
  refine g_sipush 160 129 (gd rfl) rfl rfl ?_
  refine g_cpIr (q2 := 22) (q := 8) (n0 := 160) (n1 := 160) 132 (gd rfl) rfl rfl rfl rfl (Nat.le_of_ble_eq_true rfl) (cp_0 (in_c 0 rfl) rfl) (cp_0 (in_c 0 rfl) rfl) (cp_0 (in_c 160 rfl) rfl) (cp_1 (in_c 0 rfl) (in_c 160 rfl) rfl) (cp_1 (in_c 0 rfl) (in_c 160 rfl) rfl) hI113 rfl rfl rfl (fun s129 hI129 hF129 cp129 => ?_)
  have hI132 : Inv s129 := by have hFF : Fr fm_93_2_16 s s129 := (fr_tr rfl (fr_tr rfl (fr_tr rfl (fr_tr rfl (fr_tr rfl (fr_tr rfl (fr_sF rfl (fr_sF rfl (fr_sF rfl (fr_sF rfl (fr_sF rfl fr_rf))))) hF49) hF65) hF81) hF97) hF113) hF129); exact ⟨hI129, kk_un rfl rfl (by rw [← (show (Int32.ofInt (-1)) = s129.2.2.1 2 4 from fr_F (fr_F (fr_F (fr_F (fr_F (fr_F (s := (sF (sF (sF (sF (sF s 2 0 u_16_0) 2 1 u_16_1) 2 2 u_16_2) 2 3 u_16_3) 2 4 (Int32.ofInt (-1)))) (sF_get) hF49 rfl) hF65 rfl) hF81 rfl) hF97 rfl) hF113 rfl) hF129 rfl)]; rfl) (rng_F hI129 0 4000 rfl rfl).1, kk_g hI.2.2.1 hFF rfl rfl rfl rfl rfl, kk_s hI.2.2.2.1 hFF rfl, kk_r hI.2.2.2.2 hFF rfl⟩
  have n132 : ∀ p : Nat, p < 160 → s129.1 4 p = s.1 18 p := by exact fun p hp => by rw [hF129.1 4 rfl, hF113.1 4 rfl, hF97.1 4 rfl, hF81.1 4 rfl, cp65 p, cp_get (show p < (Int32.ofInt 160).toNatClampNeg from hp), hF49.1 18 rfl]; rfl
  have n132a : ∀ p : Nat, p < 160 → s129.1 5 p = s.1 19 p := by exact fun p hp => by rw [hF129.1 5 rfl, hF113.1 5 rfl, hF97.1 5 rfl, cp81 p, cp_get (show p < (Int32.ofInt 160).toNatClampNeg from hp), hF65.1 19 rfl, hF49.1 19 rfl]; rfl
  have n132b : s129.2.2.1 2 0 = s.2.2.1 16 0 := by exact ((show u_16_0 = s129.2.2.1 2 0 from fr_F (fr_F (fr_F (fr_F (fr_F (fr_F (s := (sF (sF (sF (sF (sF s 2 0 u_16_0) 2 1 u_16_1) 2 2 u_16_2) 2 3 u_16_3) 2 4 (Int32.ofInt (-1)))) (sF_ne rfl (sF_ne rfl (sF_ne rfl (sF_ne rfl (sF_get))))) hF49 rfl) hF65 rfl) hF81 rfl) hF97 rfl) hF113 rfl) hF129 rfl)).symm.trans e_16_0
  have n132c : s129.2.2.1 2 1 = s.2.2.1 16 1 := by exact ((show u_16_1 = s129.2.2.1 2 1 from fr_F (fr_F (fr_F (fr_F (fr_F (fr_F (s := (sF (sF (sF (sF (sF s 2 0 u_16_0) 2 1 u_16_1) 2 2 u_16_2) 2 3 u_16_3) 2 4 (Int32.ofInt (-1)))) (sF_ne rfl (sF_ne rfl (sF_ne rfl (sF_get)))) hF49 rfl) hF65 rfl) hF81 rfl) hF97 rfl) hF113 rfl) hF129 rfl)).symm.trans e_16_1
  have n132d : ∀ p : Nat, p < 32 → s129.1 3 p = s.1 17 p := by exact fun p hp => by rw [hF129.1 3 rfl, hF113.1 3 rfl, hF97.1 3 rfl, hF81.1 3 rfl, hF65.1 3 rfl, cp49 p, cp_get (show p < (Int32.ofInt 32).toNatClampNeg from hp)]; rfl
  have n132e : ∀ p : Nat, p < 160 → s129.1 6 p = s.1 20 p := by exact fun p hp => by rw [hF129.1 6 rfl, hF113.1 6 rfl, cp97 p, cp_get (show p < (Int32.ofInt 160).toNatClampNeg from hp), hF81.1 20 rfl, hF65.1 20 rfl, hF49.1 20 rfl]; rfl
  have n132f : ∀ p : Nat, p < 160 → s129.1 7 p = s.1 21 p := by exact fun p hp => by rw [hF129.1 7 rfl, cp113 p, cp_get (show p < (Int32.ofInt 160).toNatClampNeg from hp), hF97.1 21 rfl, hF81.1 21 rfl, hF65.1 21 rfl, hF49.1 21 rfl]; rfl
  have n132g : ∀ p : Nat, p < 160 → s129.1 8 p = s.1 22 p := by exact fun p hp => by rw [cp129 p, cp_get (show p < (Int32.ofInt 160).toNatClampNeg from hp), hF113.1 22 rfl, hF97.1 22 rfl, hF81.1 22 rfl, hF65.1 22 rfl, hF49.1 22 rfl]; rfl
  have n132h : s129.2.2.1 2 3 = s.2.2.1 16 3 := by exact ((show u_16_3 = s129.2.2.1 2 3 from fr_F (fr_F (fr_F (fr_F (fr_F (fr_F (s := (sF (sF (sF (sF (sF s 2 0 u_16_0) 2 1 u_16_1) 2 2 u_16_2) 2 3 u_16_3) 2 4 (Int32.ofInt (-1)))) (sF_ne rfl (sF_get)) hF49 rfl) hF65 rfl) hF81 rfl) hF97 rfl) hF113 rfl) hF129 rfl)).symm.trans e_16_3
  exact g_return (gd rfl) rfl (hP _ _ ⟨s129, hI132, (fr_tr rfl (fr_tr rfl (fr_tr rfl (fr_tr rfl (fr_tr rfl (fr_tr rfl (fr_sF rfl (fr_sF rfl (fr_sF rfl (fr_sF rfl (fr_sF rfl fr_rf))))) hF49) hF65) hF81) hF97) hF113) hF129), rfl, rfl, n132, n132a, n132b, n132c, n132d, n132e, n132f, n132g, n132h⟩)

theorem oc_138_1 : (Int32.ofInt (-1000000)).toInt = (-1000000) ∧ (Int32.ofInt (-3)).toInt = (-3) ∧ (Int32.ofInt (-1)).toInt = (-1) ∧ (Int32.ofInt 0).toInt = 0 ∧ (Int32.ofInt 1).toInt = 1 ∧ (Int32.ofInt 2).toInt = 2 ∧ (Int32.ofInt 3).toInt = 3 ∧ (Int32.ofInt 4).toInt = 4 ∧ (Int32.ofInt 13).toInt = 13 ∧ (Int32.ofInt 19).toInt = 19 ∧ (Int32.ofInt 26).toInt = 26 ∧ (Int32.ofInt 32).toInt = 32 ∧ (Int32.ofInt 4000).toInt = 4000 ∧ (Int32.ofInt 1000000).toInt = 1000000 := ⟨rfl, rfl, rfl, rfl, rfl, rfl, rfl, rfl, rfl, rfl, rfl, rfl, rfl, rfl⟩
/-- GraphHouse$Ledger.doCommand -/
theorem f_138_1 {Z : AmZ} {A : Nat → Nat} {s : GS} {ex : va_W} {d : Nat} {X : AmX} {x1 : Int32} {u_2_0 : Int32} {u_2_1 : Int32} {u_30_0 : Int32} {u_2_3 : Int32} (hd : 8 ≤ d) (hI : Inv s) (h1 : In x1 (-1) 25) (e_2_0 : u_2_0 = s.2.2.1 2 0) (e_2_1 : u_2_1 = s.2.2.1 2 1) (e_30_0 : u_30_0 = s.2.2.1 30 0) (e_2_3 : u_2_3 = s.2.2.1 2 3) (q_0 : KL s) (q_1 : (x1).toInt = 13 → In (s.1 31 0) 0 25) (q_2 : cmI (x1).toInt) (q_3 : TQ s) (q_4 : (x1).toInt = 0 → In (s.1 31 4) 0 25) : GC Z d 138 [.ref (A 1), .int x1] (WW Z A s ++ ex) (lc s) (lsl s) (fun v u => ∃ a : Nat, ∃ t : GS, Inv t ∧ Fr fm_138_1 s t ∧ ((s.2.2.1 2 0).toInt ≤ (t.2.2.1 2 0).toInt) ∧ ∃ z : Int32, v = some (.int z) ∧ u = WW Z (ax A 30 a) t ++ ex ∧ In z 0 1 ∧ (KL t) ∧ ((z).toInt ≠ 0 → (t.2.2.1 30 0).toInt = nln s) ∧ ((z).toInt ≠ 0 → (s.2.2.1 2 0).toInt ≤ 3999) ∧ (∀ k : Nat, (k : Int) < 7 * (s.2.2.1 2 0).toInt → t.1 30 k = s.1 30 k) ∧ ((z).toInt ≠ 0 → dkC (gvC s) (x1).toInt (V31 s) ∧ gvC t = opC (gvC s) (x1).toInt (V31 s) ∧ TQ t) ∧ ((z).toInt = 0 → ¬ dkC (gvC s) (x1).toInt (V31 s))) X := by
  intro post xp hP hX
  refine g_enter2 (k := 138) (N := 900) (by omega) rfl (Nat.le_of_ble_eq_true rfl) ?_
  refine g_aload_n 1 (gd rfl) rfl rfl ?_
  refine g_callv (X := _) (As := []) (r := []) (b := A 1) (q := 1) 4 (gd rfl) rfl rfl rfl rfl rfl (ww_o rfl) (Nat.le_of_ble_eq_true rfl) (mc := 0) (ms := 0) (Nat.zero_le _) (Nat.zero_le _) (P := fun v u => _) ?_ (fun e u h => h) (fun v u h => h)
  intro po1 xx1 hp1 hx1
  refine g_enter2 (k := 122) (N := 300) (by omega) rfl (Nat.le_of_ble_eq_true rfl) ?_
  refine g_aload_n 1 (gd rfl) rfl rfl ?_
  refine g_getA (q2 := 2) 4 (gd rfl) rfl rfl rfl rfl ?_
  refine g_getI 7 (gd rfl) rfl rfl rfl (fun z1x4 e1x4 => ?_)
  have q1x4 : u_2_0 = z1x4 := (e_2_0).trans e1x4.symm
  subst q1x4
  refine g_sipush 4000 10 (gd rfl) rfl rfl ?_
  refine g_cmp_lt 13 17 (gd rfl) rfl rfl (fun c1x10 => ?_) (fun c1x10 => ?_)
  · skip
    have i1x10 := r_lt1 0 3999 c1x10 (inv_F hI 0 4000 rfl e_2_0) (in_c 4000 rfl) rfl
    refine g_iconst 0 18 (gd rfl) rfl rfl ?_
    refine g_ireturn (gd rfl) rfl (nb01 (in_w 0 1 (in_c 0 rfl) rfl)) (hp1 _ _ ?_)
    show GG _ _ _ _ _ _ _ _ [.int (Int32.ofInt 0)] _ _ _
    refine g_if_eq 7 9 (gd rfl) rfl rfl (fun c4 => ?_) (fun c4 => ?_)
    · skip
      refine g_iload_n 10 (gd rfl) rfl rfl ?_
      refine g_bipush 13 12 (gd rfl) rfl rfl ?_
      refine g_cmp_ne 15 46 (gd rfl) rfl rfl (fun c12 => ?_) (fun c12 => ?_)
      · skip
        refine g_iload_n 47 (gd rfl) rfl rfl ?_
        refine g_if_ne 50 132 (gd rfl) rfl rfl (fun c47 => ?_) (fun c47 => ?_)
        · skip
          refine g_aload_n 133 (gd rfl) rfl rfl ?_
          refine g_getA (q2 := 2) 136 (gd rfl) rfl rfl rfl rfl ?_
          refine g_aload_n 137 (gd rfl) rfl rfl ?_
          refine g_getA (q2 := 31) 140 (gd rfl) rfl rfl rfl rfl ?_
          refine g_iconst 0 141 (gd rfl) rfl rfl ?_
          refine g_iaload 142 (gd rfl) rfl (n := 5) rfl (in_ix (in_c 0 rfl) rfl) (fun z141 e141 => ?_)
          refine g_callv (X := _) (As := [.int z141]) (r := []) (b := A 2) (q := 2) 145 (gd rfl) rfl rfl rfl rfl rfl (ww_o rfl) (Nat.le_of_ble_eq_true rfl) (mc := 0) (ms := 0) (Nat.zero_le _) (Nat.zero_le _) (P := fun v u => _) ?_ (fun e u h => h) (fun v u h => h)
          intro po142 xx142 hp142 hx142
          refine g_enter2 (k := 96) (N := 300) (by omega) rfl (Nat.le_of_ble_eq_true rfl) ?_
          refine g_iload_n 1 (gd rfl) rfl rfl ?_
          refine g_if_lt 4 26 (gd rfl) rfl rfl (fun c142x1 => ?_) (fun c142x1 => ?_)
          · skip
            have i142x1 := z_lt (-2147483648) (-1) c142x1 (i_rng z141) rfl
            refine g_iconst 0 27 (gd rfl) rfl rfl ?_
            refine g_ireturn (gd rfl) rfl (nb01 (in_w 0 1 (in_c 0 rfl) rfl)) (hp142 _ _ ?_)
            show GG _ _ _ _ _ _ _ _ [.int (Int32.ofInt 0)] _ _ _
            refine g_if_ne 148 150 (gd rfl) rfl rfl (fun c145 => ?_) (fun c145 => ?_)
            · skip
              exact zn_ne c145 (in_c 0 rfl) rfl
            · skip
              refine g_iconst 0 149 (gd rfl) rfl rfl ?_
              have n149 : KL s := by exact q_0
              have n149a : ((Int32.ofInt 0)).toInt ≠ 0 → (s.2.2.1 30 0).toInt = nln s := by intro h; exact absurd rfl h
              have n149b : ((Int32.ofInt 0)).toInt ≠ 0 → (s.2.2.1 2 0).toInt ≤ 3999 := by first | (intro h; exact absurd rfl h) | (intro _; rw [← e_2_0]; have a0 := (inv_F hI 0 160 rfl e_2_3); unfold In at a0; have a1 := (inv_F hI 448 28000 rfl e_30_0); unfold In at a1; have a2 := (inv_F hI 0 32 rfl e_2_1); unfold In at a2; have a3 := i1x10; unfold In at a3; have a4 := h1; unfold In at a4; have oc := oc_138_1; omega)
              have n149c : ∀ k : Nat, (k : Int) < 7 * (s.2.2.1 2 0).toInt → s.1 30 k = s.1 30 k := by exact fun k _ => rfl
              have n149d : ((Int32.ofInt 0)).toInt ≠ 0 → dkC (gvC s) (x1).toInt (V31 s) ∧ gvC s = opC (gvC s) (x1).toInt (V31 s) ∧ TQ s := by intro h; exact absurd rfl h
              have n149e : ((Int32.ofInt 0)).toInt = 0 → ¬ dkC (gvC s) (x1).toInt (V31 s) := by intro _ h; have hg := dk_t q_2 (by have a0 := (inv_F hI 0 160 rfl e_2_3); unfold In at a0; have a1 := (inv_F hI 448 28000 rfl e_30_0); unfold In at a1; have a2 := (inv_F hI 0 32 rfl e_2_1); unfold In at a2; have a3 := i1x10; unfold In at a3; have a4 := h1; unfold In at a4; have oc := oc_138_1; omega) (by have a0 := (inv_F hI 0 160 rfl e_2_3); unfold In at a0; have a1 := (inv_F hI 448 28000 rfl e_30_0); unfold In at a1; have a2 := (inv_F hI 0 32 rfl e_2_1); unfold In at a2; have a3 := i1x10; unfold In at a3; have a4 := h1; unfold In at a4; have oc := oc_138_1; omega) h; have h7 : 0 ≤ (s.1 31 0).toInt := hg.1; have h8 : (s.1 31 0).toInt ≤ 159 := hg.2.1; have h9 : (s.1 4 (s.1 31 0).toInt.toNat).toInt ≠ -1 := hg.2.2; rw [show s.1 31 0 = z141 from e141.symm] at h7 h8 h9; have h6 := q_3 z141.toInt.toNat (by omega) h9; rw [← e_2_3] at h6; have a0 := (inv_F hI 0 160 rfl e_2_3); unfold In at a0; have a1 := (inv_F hI 448 28000 rfl e_30_0); unfold In at a1; have a2 := (inv_F hI 0 32 rfl e_2_1); unfold In at a2; have a3 := i1x10; unfold In at a3; have a4 := h1; unfold In at a4; have oc := oc_138_1; omega
              have n149f : (u_2_0).toInt ≤ (u_2_0).toInt := by have a0 := (inv_F hI 0 160 rfl e_2_3); unfold In at a0; have a1 := (inv_F hI 448 28000 rfl e_30_0); unfold In at a1; have a2 := (inv_F hI 0 32 rfl e_2_1); unfold In at a2; have a3 := i1x10; unfold In at a3; have a4 := h1; unfold In at a4; have oc := oc_138_1; omega
              have n149g : (s.2.2.1 2 0).toInt ≤ (s.2.2.1 2 0).toInt := by have b0 : u_2_0 = s.2.2.1 2 0 := e_2_0; first | (rw [← b0, ← e_2_0]; exact n149f) | (rw [← b0]; exact n149f)
              exact g_ireturn (gd rfl) rfl (nb01 (in_w 0 1 (in_c 0 rfl) rfl)) (hP _ _ ⟨(A 30), s, hI, fr_rf, n149g, (Int32.ofInt 0), rfl, (by rw [ax_id]), in_w 0 1 (in_c 0 rfl) rfl, n149, n149a, n149b, n149c, n149d, n149e⟩)
          · skip
            have i142x1 := z_ge 0 2147483647 c142x1 (i_rng z141) rfl
            refine g_iload_n 5 (gd rfl) rfl rfl ?_
            refine g_aload_n 6 (gd rfl) rfl rfl ?_
            refine g_getI 9 (gd rfl) rfl rfl rfl (fun z142x6 e142x6 => ?_)
            have q142x6 : u_2_3 = z142x6 := (e_2_3).trans e142x6.symm
            subst q142x6
            refine g_cmp_ge 12 26 (gd rfl) rfl rfl (fun c142x9 => ?_) (fun c142x9 => ?_)
            · skip
              refine g_iconst 0 27 (gd rfl) rfl rfl ?_
              refine g_ireturn (gd rfl) rfl (nb01 (in_w 0 1 (in_c 0 rfl) rfl)) (hp142 _ _ ?_)
              show GG _ _ _ _ _ _ _ _ [.int (Int32.ofInt 0)] _ _ _
              refine g_if_ne 148 150 (gd rfl) rfl rfl (fun c145 => ?_) (fun c145 => ?_)
              · skip
                exact zn_ne c145 (in_c 0 rfl) rfl
              · skip
                refine g_iconst 0 149 (gd rfl) rfl rfl ?_
                have n149 : KL s := by exact q_0
                have n149a : ((Int32.ofInt 0)).toInt ≠ 0 → (s.2.2.1 30 0).toInt = nln s := by intro h; exact absurd rfl h
                have n149b : ((Int32.ofInt 0)).toInt ≠ 0 → (s.2.2.1 2 0).toInt ≤ 3999 := by first | (intro h; exact absurd rfl h) | (intro _; rw [← e_2_0]; have a0 := (inv_F hI 0 160 rfl e_2_3); unfold In at a0; have a1 := (inv_F hI 448 28000 rfl e_30_0); unfold In at a1; have a2 := (inv_F hI 0 32 rfl e_2_1); unfold In at a2; have a3 := i1x10; unfold In at a3; have a4 := h1; unfold In at a4; have oc := oc_138_1; omega)
                have n149c : ∀ k : Nat, (k : Int) < 7 * (s.2.2.1 2 0).toInt → s.1 30 k = s.1 30 k := by exact fun k _ => rfl
                have n149d : ((Int32.ofInt 0)).toInt ≠ 0 → dkC (gvC s) (x1).toInt (V31 s) ∧ gvC s = opC (gvC s) (x1).toInt (V31 s) ∧ TQ s := by intro h; exact absurd rfl h
                have n149e : ((Int32.ofInt 0)).toInt = 0 → ¬ dkC (gvC s) (x1).toInt (V31 s) := by intro _ h; have hg := dk_t q_2 (by have a0 := (inv_F hI 0 160 rfl e_2_3); unfold In at a0; have a1 := (inv_F hI 448 28000 rfl e_30_0); unfold In at a1; have a2 := (inv_F hI 0 32 rfl e_2_1); unfold In at a2; have a3 := i1x10; unfold In at a3; have a4 := h1; unfold In at a4; have oc := oc_138_1; omega) (by have a0 := (inv_F hI 0 160 rfl e_2_3); unfold In at a0; have a1 := (inv_F hI 448 28000 rfl e_30_0); unfold In at a1; have a2 := (inv_F hI 0 32 rfl e_2_1); unfold In at a2; have a3 := i1x10; unfold In at a3; have a4 := h1; unfold In at a4; have oc := oc_138_1; omega) h; have h7 : 0 ≤ (s.1 31 0).toInt := hg.1; have h8 : (s.1 31 0).toInt ≤ 159 := hg.2.1; have h9 : (s.1 4 (s.1 31 0).toInt.toNat).toInt ≠ -1 := hg.2.2; rw [show s.1 31 0 = z141 from e141.symm] at h7 h8 h9; have h6 := q_3 z141.toInt.toNat (by omega) h9; rw [← e_2_3] at h6; have a0 := (inv_F hI 0 160 rfl e_2_3); unfold In at a0; have a1 := (inv_F hI 448 28000 rfl e_30_0); unfold In at a1; have a2 := (inv_F hI 0 32 rfl e_2_1); unfold In at a2; have a3 := i1x10; unfold In at a3; have a4 := h1; unfold In at a4; have oc := oc_138_1; omega
                have n149f : (u_2_0).toInt ≤ (u_2_0).toInt := by have a0 := (inv_F hI 0 160 rfl e_2_3); unfold In at a0; have a1 := (inv_F hI 448 28000 rfl e_30_0); unfold In at a1; have a2 := (inv_F hI 0 32 rfl e_2_1); unfold In at a2; have a3 := i1x10; unfold In at a3; have a4 := h1; unfold In at a4; have oc := oc_138_1; omega
                have n149g : (s.2.2.1 2 0).toInt ≤ (s.2.2.1 2 0).toInt := by have b0 : u_2_0 = s.2.2.1 2 0 := e_2_0; first | (rw [← b0, ← e_2_0]; exact n149f) | (rw [← b0]; exact n149f)
                exact g_ireturn (gd rfl) rfl (nb01 (in_w 0 1 (in_c 0 rfl) rfl)) (hP _ _ ⟨(A 30), s, hI, fr_rf, n149g, (Int32.ofInt 0), rfl, (by rw [ax_id]), in_w 0 1 (in_c 0 rfl) rfl, n149, n149a, n149b, n149c, n149d, n149e⟩)
            · skip
              have i142x9 := r_lt1 0 159 c142x9 i142x1 (inv_F hI 0 160 rfl e_2_3) rfl
              have i142x9a := r_lt2 1 160 c142x9 i142x1 (inv_F hI 0 160 rfl e_2_3) rfl
              refine g_aload_n 13 (gd rfl) rfl rfl ?_
              refine g_getA (q2 := 4) 16 (gd rfl) rfl rfl rfl rfl ?_
              refine g_iload_n 17 (gd rfl) rfl rfl ?_
              refine g_iaload 18 (gd rfl) rfl (n := 160) rfl (in_ix i142x9 rfl) (fun z142x17 e142x17 => ?_)
              have i142x17 := inv_I hI (n := 160) (t := 0) (-1) 31 rfl (in_ix i142x9 rfl) rfl e142x17
              refine g_iconst (-1) 19 (gd rfl) rfl rfl ?_
              refine g_cmp_eq 22 26 (gd rfl) rfl rfl (fun c142x19 => ?_) (fun c142x19 => ?_)
              · skip
                have i142x19 := r_eq1 (-1) (-1) c142x19 i142x17 (in_c (-1) rfl) rfl
                refine g_iconst 0 27 (gd rfl) rfl rfl ?_
                refine g_ireturn (gd rfl) rfl (nb01 (in_w 0 1 (in_c 0 rfl) rfl)) (hp142 _ _ ?_)
                show GG _ _ _ _ _ _ _ _ [.int (Int32.ofInt 0)] _ _ _
                refine g_if_ne 148 150 (gd rfl) rfl rfl (fun c145 => ?_) (fun c145 => ?_)
                · skip
                  exact zn_ne c145 (in_c 0 rfl) rfl
                · skip
                  refine g_iconst 0 149 (gd rfl) rfl rfl ?_
                  have n149 : KL s := by exact q_0
                  have n149a : ((Int32.ofInt 0)).toInt ≠ 0 → (s.2.2.1 30 0).toInt = nln s := by intro h; exact absurd rfl h
                  have n149b : ((Int32.ofInt 0)).toInt ≠ 0 → (s.2.2.1 2 0).toInt ≤ 3999 := by first | (intro h; exact absurd rfl h) | (intro _; rw [← e_2_0]; have a0 := i142x9a; unfold In at a0; have a1 := (inv_F hI 448 28000 rfl e_30_0); unfold In at a1; have a2 := (inv_F hI 0 32 rfl e_2_1); unfold In at a2; have a3 := i1x10; unfold In at a3; have a4 := h1; unfold In at a4; have oc := oc_138_1; omega)
                  have n149c : ∀ k : Nat, (k : Int) < 7 * (s.2.2.1 2 0).toInt → s.1 30 k = s.1 30 k := by exact fun k _ => rfl
                  have n149d : ((Int32.ofInt 0)).toInt ≠ 0 → dkC (gvC s) (x1).toInt (V31 s) ∧ gvC s = opC (gvC s) (x1).toInt (V31 s) ∧ TQ s := by intro h; exact absurd rfl h
                  have n149e : ((Int32.ofInt 0)).toInt = 0 → ¬ dkC (gvC s) (x1).toInt (V31 s) := by intro _ h; have hg := dk_t q_2 (by have a0 := i142x9a; unfold In at a0; have a1 := (inv_F hI 448 28000 rfl e_30_0); unfold In at a1; have a2 := (inv_F hI 0 32 rfl e_2_1); unfold In at a2; have a3 := i1x10; unfold In at a3; have a4 := h1; unfold In at a4; have oc := oc_138_1; omega) (by have a0 := i142x9a; unfold In at a0; have a1 := (inv_F hI 448 28000 rfl e_30_0); unfold In at a1; have a2 := (inv_F hI 0 32 rfl e_2_1); unfold In at a2; have a3 := i1x10; unfold In at a3; have a4 := h1; unfold In at a4; have oc := oc_138_1; omega) h; have h7 : 0 ≤ (s.1 31 0).toInt := hg.1; have h8 : (s.1 31 0).toInt ≤ 159 := hg.2.1; have h9 : (s.1 4 (s.1 31 0).toInt.toNat).toInt ≠ -1 := hg.2.2; rw [show s.1 31 0 = z141 from e141.symm] at h7 h8 h9; rw [show s.1 4 z141.toInt.toNat = z142x17 from e142x17.symm] at h9; have a0 := i142x9a; unfold In at a0; have a1 := (inv_F hI 448 28000 rfl e_30_0); unfold In at a1; have a2 := (inv_F hI 0 32 rfl e_2_1); unfold In at a2; have a3 := i1x10; unfold In at a3; have a4 := h1; unfold In at a4; have oc := oc_138_1; omega
                  have n149f : (u_2_0).toInt ≤ (u_2_0).toInt := by have a0 := i142x9a; unfold In at a0; have a1 := (inv_F hI 448 28000 rfl e_30_0); unfold In at a1; have a2 := (inv_F hI 0 32 rfl e_2_1); unfold In at a2; have a3 := i1x10; unfold In at a3; have a4 := h1; unfold In at a4; have oc := oc_138_1; omega
                  have n149g : (s.2.2.1 2 0).toInt ≤ (s.2.2.1 2 0).toInt := by have b0 : u_2_0 = s.2.2.1 2 0 := e_2_0; first | (rw [← b0, ← e_2_0]; exact n149f) | (rw [← b0]; exact n149f)
                  exact g_ireturn (gd rfl) rfl (nb01 (in_w 0 1 (in_c 0 rfl) rfl)) (hP _ _ ⟨(A 30), s, hI, fr_rf, n149g, (Int32.ofInt 0), rfl, (by rw [ax_id]), in_w 0 1 (in_c 0 rfl) rfl, n149, n149a, n149b, n149c, n149d, n149e⟩)
              · skip
                have i142x19 := r_ne1 0 31 c142x19 i142x17 (in_c (-1) rfl) rfl
                refine g_iconst 1 23 (gd rfl) rfl rfl ?_
                refine g_goto 27 (gd rfl) rfl ?_
                refine g_ireturn (gd rfl) rfl (nb01 (in_w 0 1 (in_c 1 rfl) rfl)) (hp142 _ _ ?_)
                show GG _ _ _ _ _ _ _ _ [.int (Int32.ofInt 1)] _ _ _
                refine g_if_ne 148 150 (gd rfl) rfl rfl (fun c145 => ?_) (fun c145 => ?_)
                · skip
                  refine g_iload_n 151 (gd rfl) rfl rfl ?_
                  refine g_bipush 19 153 (gd rfl) rfl rfl ?_
                  refine g_cmp_ne 156 168 (gd rfl) rfl rfl (fun c153 => ?_) (fun c153 => ?_)
                  · skip
                    refine g_aload_n 169 (gd rfl) rfl rfl ?_
                    refine g_getA (q2 := 31) 172 (gd rfl) rfl rfl rfl rfl ?_
                    refine g_iconst 1 173 (gd rfl) rfl rfl ?_
                    refine g_iaload 174 (gd rfl) rfl (n := 5) rfl (in_ix (in_c 1 rfl) rfl) (fun z173 e173 => ?_)
                    refine g_calls (As := [.int z173]) (r := []) 177 (gd rfl) rfl rfl rfl rfl rfl (Nat.le_of_ble_eq_true rfl) (mc := 0) (ms := 0) (Nat.zero_le _) (Nat.zero_le _) (P := fun v u => _) ?_ (fun v u h => h)
                    intro po174 xx174 hp174 hx174
                    refine g_enter2 (k := 261) (N := 300) (by omega) rfl (Nat.le_of_ble_eq_true rfl) ?_
                    refine g_iload_n 1 (gd rfl) rfl rfl ?_
                    refine g_ldc_w (-1000000) 4 (gd rfl) rfl rfl ?_
                    refine g_cmp_lt 7 18 (gd rfl) rfl rfl (fun c174x4 => ?_) (fun c174x4 => ?_)
                    · skip
                      have i174x4 := r_lt1 (-2147483648) (-1000001) c174x4 (i_rng z173) (in_c (-1000000) rfl) rfl
                      refine g_iconst 0 19 (gd rfl) rfl rfl ?_
                      refine g_ireturn (gd rfl) rfl (nb01 (in_w 0 1 (in_c 0 rfl) rfl)) (hp174 _ _ ?_)
                      show GG _ _ _ _ _ _ _ _ [.int (Int32.ofInt 0)] _ _ _
                      refine g_if_ne 180 182 (gd rfl) rfl rfl (fun c177 => ?_) (fun c177 => ?_)
                      · skip
                        exact zn_ne c177 (in_c 0 rfl) rfl
                      · skip
                        refine g_iconst 0 181 (gd rfl) rfl rfl ?_
                        have n181 : KL s := by exact q_0
                        have n181a : ((Int32.ofInt 0)).toInt ≠ 0 → (s.2.2.1 30 0).toInt = nln s := by intro h; exact absurd rfl h
                        have n181b : ((Int32.ofInt 0)).toInt ≠ 0 → (s.2.2.1 2 0).toInt ≤ 3999 := by first | (intro h; exact absurd rfl h) | (intro _; rw [← e_2_0]; have a0 := i142x9a; unfold In at a0; have a1 := (inv_F hI 448 28000 rfl e_30_0); unfold In at a1; have a2 := (inv_F hI 0 32 rfl e_2_1); unfold In at a2; have a3 := i1x10; unfold In at a3; have a4 := h1; unfold In at a4; have oc := oc_138_1; omega)
                        have n181c : ∀ k : Nat, (k : Int) < 7 * (s.2.2.1 2 0).toInt → s.1 30 k = s.1 30 k := by exact fun k _ => rfl
                        have n181d : ((Int32.ofInt 0)).toInt ≠ 0 → dkC (gvC s) (x1).toInt (V31 s) ∧ gvC s = opC (gvC s) (x1).toInt (V31 s) ∧ TQ s := by intro h; exact absurd rfl h
                        have n181e : ((Int32.ofInt 0)).toInt = 0 → ¬ dkC (gvC s) (x1).toInt (V31 s) := by intro _ h; have h9 : -1000000 ≤ (s.1 31 1).toInt ∧ (s.1 31 1).toInt ≤ 1000000 := (h.2.2.2.2 (by rcases q_2 with e | e | e | e; (have a0 := i142x9a; unfold In at a0; have a1 := (inv_F hI 448 28000 rfl e_30_0); unfold In at a1; have a2 := (inv_F hI 0 32 rfl e_2_1); unfold In at a2; have a3 := i1x10; unfold In at a3; have a4 := h1; unfold In at a4; have oc := oc_138_1; omega); (have a0 := i142x9a; unfold In at a0; have a1 := (inv_F hI 448 28000 rfl e_30_0); unfold In at a1; have a2 := (inv_F hI 0 32 rfl e_2_1); unfold In at a2; have a3 := i1x10; unfold In at a3; have a4 := h1; unfold In at a4; have oc := oc_138_1; omega); (have a0 := i142x9a; unfold In at a0; have a1 := (inv_F hI 448 28000 rfl e_30_0); unfold In at a1; have a2 := (inv_F hI 0 32 rfl e_2_1); unfold In at a2; have a3 := i1x10; unfold In at a3; have a4 := h1; unfold In at a4; have oc := oc_138_1; omega); (exact e))).2; rw [show s.1 31 1 = z173 from e173.symm] at h9; have a0 := i142x9a; unfold In at a0; have a1 := (inv_F hI 448 28000 rfl e_30_0); unfold In at a1; have a2 := (inv_F hI 0 32 rfl e_2_1); unfold In at a2; have a3 := i1x10; unfold In at a3; have a4 := h1; unfold In at a4; have oc := oc_138_1; omega
                        have n181f : (u_2_0).toInt ≤ (u_2_0).toInt := by have a0 := i142x9a; unfold In at a0; have a1 := (inv_F hI 448 28000 rfl e_30_0); unfold In at a1; have a2 := (inv_F hI 0 32 rfl e_2_1); unfold In at a2; have a3 := i1x10; unfold In at a3; have a4 := h1; unfold In at a4; have oc := oc_138_1; omega
                        have n181g : (s.2.2.1 2 0).toInt ≤ (s.2.2.1 2 0).toInt := by have b0 : u_2_0 = s.2.2.1 2 0 := e_2_0; first | (rw [← b0, ← e_2_0]; exact n181f) | (rw [← b0]; exact n181f)
                        exact g_ireturn (gd rfl) rfl (nb01 (in_w 0 1 (in_c 0 rfl) rfl)) (hP _ _ ⟨(A 30), s, hI, fr_rf, n181g, (Int32.ofInt 0), rfl, (by rw [ax_id]), in_w 0 1 (in_c 0 rfl) rfl, n181, n181a, n181b, n181c, n181d, n181e⟩)
                    · skip
                      have i174x4 := r_le2 (-1000000) 2147483647 c174x4 (in_c (-1000000) rfl) (i_rng z173) rfl
                      refine g_iload_n 8 (gd rfl) rfl rfl ?_
                      refine g_ldc_w 1000000 11 (gd rfl) rfl rfl ?_
                      refine g_cmp_gt 14 18 (gd rfl) rfl rfl (fun c174x11 => ?_) (fun c174x11 => ?_)
                      · skip
                        have i174x11 := r_lt2 1000001 2147483647 c174x11 (in_c 1000000 rfl) i174x4 rfl
                        refine g_iconst 0 19 (gd rfl) rfl rfl ?_
                        refine g_ireturn (gd rfl) rfl (nb01 (in_w 0 1 (in_c 0 rfl) rfl)) (hp174 _ _ ?_)
                        show GG _ _ _ _ _ _ _ _ [.int (Int32.ofInt 0)] _ _ _
                        refine g_if_ne 180 182 (gd rfl) rfl rfl (fun c177 => ?_) (fun c177 => ?_)
                        · skip
                          exact zn_ne c177 (in_c 0 rfl) rfl
                        · skip
                          refine g_iconst 0 181 (gd rfl) rfl rfl ?_
                          have n181 : KL s := by exact q_0
                          have n181a : ((Int32.ofInt 0)).toInt ≠ 0 → (s.2.2.1 30 0).toInt = nln s := by intro h; exact absurd rfl h
                          have n181b : ((Int32.ofInt 0)).toInt ≠ 0 → (s.2.2.1 2 0).toInt ≤ 3999 := by first | (intro h; exact absurd rfl h) | (intro _; rw [← e_2_0]; have a0 := i142x9a; unfold In at a0; have a1 := (inv_F hI 448 28000 rfl e_30_0); unfold In at a1; have a2 := (inv_F hI 0 32 rfl e_2_1); unfold In at a2; have a3 := i1x10; unfold In at a3; have a4 := h1; unfold In at a4; have oc := oc_138_1; omega)
                          have n181c : ∀ k : Nat, (k : Int) < 7 * (s.2.2.1 2 0).toInt → s.1 30 k = s.1 30 k := by exact fun k _ => rfl
                          have n181d : ((Int32.ofInt 0)).toInt ≠ 0 → dkC (gvC s) (x1).toInt (V31 s) ∧ gvC s = opC (gvC s) (x1).toInt (V31 s) ∧ TQ s := by intro h; exact absurd rfl h
                          have n181e : ((Int32.ofInt 0)).toInt = 0 → ¬ dkC (gvC s) (x1).toInt (V31 s) := by intro _ h; have h9 : -1000000 ≤ (s.1 31 1).toInt ∧ (s.1 31 1).toInt ≤ 1000000 := (h.2.2.2.2 (by rcases q_2 with e | e | e | e; (have a0 := i142x9a; unfold In at a0; have a1 := (inv_F hI 448 28000 rfl e_30_0); unfold In at a1; have a2 := (inv_F hI 0 32 rfl e_2_1); unfold In at a2; have a3 := i1x10; unfold In at a3; have a4 := h1; unfold In at a4; have oc := oc_138_1; omega); (have a0 := i142x9a; unfold In at a0; have a1 := (inv_F hI 448 28000 rfl e_30_0); unfold In at a1; have a2 := (inv_F hI 0 32 rfl e_2_1); unfold In at a2; have a3 := i1x10; unfold In at a3; have a4 := h1; unfold In at a4; have oc := oc_138_1; omega); (have a0 := i142x9a; unfold In at a0; have a1 := (inv_F hI 448 28000 rfl e_30_0); unfold In at a1; have a2 := (inv_F hI 0 32 rfl e_2_1); unfold In at a2; have a3 := i1x10; unfold In at a3; have a4 := h1; unfold In at a4; have oc := oc_138_1; omega); (exact e))).2; rw [show s.1 31 1 = z173 from e173.symm] at h9; have a0 := i142x9a; unfold In at a0; have a1 := (inv_F hI 448 28000 rfl e_30_0); unfold In at a1; have a2 := (inv_F hI 0 32 rfl e_2_1); unfold In at a2; have a3 := i1x10; unfold In at a3; have a4 := h1; unfold In at a4; have oc := oc_138_1; omega
                          have n181f : (u_2_0).toInt ≤ (u_2_0).toInt := by have a0 := i142x9a; unfold In at a0; have a1 := (inv_F hI 448 28000 rfl e_30_0); unfold In at a1; have a2 := (inv_F hI 0 32 rfl e_2_1); unfold In at a2; have a3 := i1x10; unfold In at a3; have a4 := h1; unfold In at a4; have oc := oc_138_1; omega
                          have n181g : (s.2.2.1 2 0).toInt ≤ (s.2.2.1 2 0).toInt := by have b0 : u_2_0 = s.2.2.1 2 0 := e_2_0; first | (rw [← b0, ← e_2_0]; exact n181f) | (rw [← b0]; exact n181f)
                          exact g_ireturn (gd rfl) rfl (nb01 (in_w 0 1 (in_c 0 rfl) rfl)) (hP _ _ ⟨(A 30), s, hI, fr_rf, n181g, (Int32.ofInt 0), rfl, (by rw [ax_id]), in_w 0 1 (in_c 0 rfl) rfl, n181, n181a, n181b, n181c, n181d, n181e⟩)
                      · skip
                        have i174x11 := r_le1 (-1000000) 1000000 c174x11 i174x4 (in_c 1000000 rfl) rfl
                        refine g_iconst 1 15 (gd rfl) rfl rfl ?_
                        refine g_goto 19 (gd rfl) rfl ?_
                        refine g_ireturn (gd rfl) rfl (nb01 (in_w 0 1 (in_c 1 rfl) rfl)) (hp174 _ _ ?_)
                        show GG _ _ _ _ _ _ _ _ [.int (Int32.ofInt 1)] _ _ _
                        refine g_if_ne 180 182 (gd rfl) rfl rfl (fun c177 => ?_) (fun c177 => ?_)
                        · skip
                          refine g_aload_n 183 (gd rfl) rfl rfl ?_
                          refine g_aload_n 184 (gd rfl) rfl rfl ?_
                          refine g_getA (q2 := 31) 187 (gd rfl) rfl rfl rfl rfl ?_
                          refine g_iconst 0 188 (gd rfl) rfl rfl ?_
                          refine g_iaload 189 (gd rfl) rfl (n := 5) rfl (in_ix (in_c 0 rfl) rfl) (fun z188 e188 => ?_)
                          have q188 : z141 = z188 := (e141).trans e188.symm
                          subst q188
                          refine g_iconst 0 190 (gd rfl) rfl rfl ?_
                          refine g_aload_n 191 (gd rfl) rfl rfl ?_
                          refine g_getA (q2 := 31) 194 (gd rfl) rfl rfl rfl rfl ?_
                          refine g_iconst 1 195 (gd rfl) rfl rfl ?_
                          refine g_iaload 196 (gd rfl) rfl (n := 5) rfl (in_ix (in_c 1 rfl) rfl) (fun z195 e195 => ?_)
                          have q195 : z173 = z195 := (e173).trans e195.symm
                          subst q195
                          have p196 : KL s := by exact q_0
                          have p196a : ((Int32.ofInt 0)).toInt = 0 → In z173 (-1000000) 1000000 := by intro _; exact in_w (-1000000) 1000000 i174x11 rfl
                          have p196b : ((Int32.ofInt 0)).toInt = 1 → In z173 0 1000000 := by intro h; exact absurd h (by decide)
                          have p196c : ((Int32.ofInt 0)).toInt ≠ 0 → ((Int32.ofInt 0)).toInt ≠ 1 → In z173 0 25 := by intro h; exact absurd rfl h
                          refine g_callv (X := _) (As := [.int z141, .int (Int32.ofInt 0), .int z173]) (r := []) (b := A 1) (q := 1) 199 (gd rfl) rfl rfl rfl rfl rfl (ww_o rfl) (Nat.le_of_ble_eq_true rfl) (Nat.le_of_eq (lc_cg ((show Fr ([], [], [], []) s s from fr_rf).2.2.1 30 0 rfl) ((show Fr ([], [], [], []) s s from fr_rf).2.2.1 2 0 rfl)).1) (Nat.le_of_eq (lc_cg ((show Fr ([], [], [], []) s s from fr_rf).2.2.1 30 0 rfl) ((show Fr ([], [], [], []) s s from fr_rf).2.2.1 2 0 rfl)).2.1) (f_127_1 (by omega) hI (in_w 0 159 i142x9 rfl) e_2_0 e_2_1 e_30_0 (in_w 0 3999 i1x10 rfl) p196 p196a p196b p196c) (fun e u h => h) (fun v u h => ?_)
                          obtain ⟨a196, s196, hI196, hF196, n196, rfl, rfl, p196d, p196e, p196f, p196g, p196h, p196i⟩ := h
                          obtain ⟨z196a, e196⟩ : ∃ w, w = s196.2.2.1 2 0 := ⟨_, rfl⟩
                          have i196a := inv_F hI196 0 4000 rfl e196
                          rw [← (show u_2_0 = s.2.2.1 2 0 from e_2_0)] at n196
                          rw [← (show z196a = s196.2.2.1 2 0 from e196)] at n196
                          show GG _ _ _ _ _ _ _ _ [] _ _ _
                          refine g_iconst 1 200 (gd rfl) rfl rfl ?_
                          have n200 : KL s196 := by exact p196d
                          have n200a : ((Int32.ofInt 1)).toInt ≠ 0 → (s196.2.2.1 30 0).toInt = nln s := by intro _; exact p196e
                          have n200b : ((Int32.ofInt 1)).toInt ≠ 0 → (s.2.2.1 2 0).toInt ≤ 3999 := by first | (intro h; exact absurd rfl h) | (intro _; rw [← e_2_0]; have a0 := i142x9a; unfold In at a0; have a1 := (inv_F hI 448 28000 rfl e_30_0); unfold In at a1; have a2 := (inv_F hI 0 32 rfl e_2_1); unfold In at a2; have a3 := i1x10; unfold In at a3; have a4 := h1; unfold In at a4; have a5 := i196a; unfold In at a5; have oc := oc_138_1; omega)
                          have n200c : ∀ k : Nat, (k : Int) < 7 * (s.2.2.1 2 0).toInt → s196.1 30 k = s.1 30 k := by exact p196f
                          have n200d : ((Int32.ofInt 1)).toInt ≠ 0 → dkC (gvC s) (x1).toInt (V31 s) ∧ gvC s196 = opC (gvC s) (x1).toInt (V31 s) ∧ TQ s196 := by intro _; exact ⟨dk_22 (by rcases q_2 with e | e | e | e; (have a0 := i142x9a; unfold In at a0; have a1 := (inv_F hI 448 28000 rfl e_30_0); unfold In at a1; have a2 := (inv_F hI 0 32 rfl e_2_1); unfold In at a2; have a3 := i1x10; unfold In at a3; have a4 := h1; unfold In at a4; have a5 := i196a; unfold In at a5; have oc := oc_138_1; omega); (have a0 := i142x9a; unfold In at a0; have a1 := (inv_F hI 448 28000 rfl e_30_0); unfold In at a1; have a2 := (inv_F hI 0 32 rfl e_2_1); unfold In at a2; have a3 := i1x10; unfold In at a3; have a4 := h1; unfold In at a4; have a5 := i196a; unfold In at a5; have oc := oc_138_1; omega); (have a0 := i142x9a; unfold In at a0; have a1 := (inv_F hI 448 28000 rfl e_30_0); unfold In at a1; have a2 := (inv_F hI 0 32 rfl e_2_1); unfold In at a2; have a3 := i1x10; unfold In at a3; have a4 := h1; unfold In at a4; have a5 := i196a; unfold In at a5; have oc := oc_138_1; omega); (exact e)) (show (s.2.2.1 2 0).toInt ≤ 3999 from by rw [← e_2_0]; have a0 := i142x9a; unfold In at a0; have a1 := (inv_F hI 448 28000 rfl e_30_0); unfold In at a1; have a2 := (inv_F hI 0 32 rfl e_2_1); unfold In at a2; have a3 := i1x10; unfold In at a3; have a4 := h1; unfold In at a4; have a5 := i196a; unfold In at a5; have oc := oc_138_1; omega) (show gvT (gvC s) (V31 s 0) from ⟨show 0 ≤ (s.1 31 0).toInt from by rw [show s.1 31 0 = z141 from e141.symm]; have a0 := i142x9a; unfold In at a0; have a1 := (inv_F hI 448 28000 rfl e_30_0); unfold In at a1; have a2 := (inv_F hI 0 32 rfl e_2_1); unfold In at a2; have a3 := i1x10; unfold In at a3; have a4 := h1; unfold In at a4; have a5 := i196a; unfold In at a5; have oc := oc_138_1; omega, show (s.1 31 0).toInt ≤ 159 from by rw [show s.1 31 0 = z141 from e141.symm]; have a0 := i142x9a; unfold In at a0; have a1 := (inv_F hI 448 28000 rfl e_30_0); unfold In at a1; have a2 := (inv_F hI 0 32 rfl e_2_1); unfold In at a2; have a3 := i1x10; unfold In at a3; have a4 := h1; unfold In at a4; have a5 := i196a; unfold In at a5; have oc := oc_138_1; omega, show (s.1 4 (s.1 31 0).toInt.toNat).toInt ≠ -1 from by rw [show s.1 31 0 = z141 from e141.symm, show s.1 4 z141.toInt.toNat = z142x17 from e142x17.symm]; have a0 := i142x9a; unfold In at a0; have a1 := (inv_F hI 448 28000 rfl e_30_0); unfold In at a1; have a2 := (inv_F hI 0 32 rfl e_2_1); unfold In at a2; have a3 := i1x10; unfold In at a3; have a4 := h1; unfold In at a4; have a5 := i196a; unfold In at a5; have oc := oc_138_1; omega⟩) (show -1000000 ≤ (s.1 31 1).toInt ∧ (s.1 31 1).toInt ≤ 1000000 from by rw [show s.1 31 1 = z173 from e173.symm]; exact ⟨by have a0 := i142x9a; unfold In at a0; have a1 := (inv_F hI 448 28000 rfl e_30_0); unfold In at a1; have a2 := (inv_F hI 0 32 rfl e_2_1); unfold In at a2; have a3 := i1x10; unfold In at a3; have a4 := h1; unfold In at a4; have a5 := i196a; unfold In at a5; have oc := oc_138_1; omega, by have a0 := i142x9a; unfold In at a0; have a1 := (inv_F hI 448 28000 rfl e_30_0); unfold In at a1; have a2 := (inv_F hI 0 32 rfl e_2_1); unfold In at a2; have a3 := i1x10; unfold In at a3; have a4 := h1; unfold In at a4; have a5 := i196a; unfold In at a5; have oc := oc_138_1; omega⟩), by rw [p196g, opC_22 (by rcases q_2 with e | e | e | e; (have a0 := i142x9a; unfold In at a0; have a1 := (inv_F hI 448 28000 rfl e_30_0); unfold In at a1; have a2 := (inv_F hI 0 32 rfl e_2_1); unfold In at a2; have a3 := i1x10; unfold In at a3; have a4 := h1; unfold In at a4; have a5 := i196a; unfold In at a5; have oc := oc_138_1; omega); (have a0 := i142x9a; unfold In at a0; have a1 := (inv_F hI 448 28000 rfl e_30_0); unfold In at a1; have a2 := (inv_F hI 0 32 rfl e_2_1); unfold In at a2; have a3 := i1x10; unfold In at a3; have a4 := h1; unfold In at a4; have a5 := i196a; unfold In at a5; have oc := oc_138_1; omega); (have a0 := i142x9a; unfold In at a0; have a1 := (inv_F hI 448 28000 rfl e_30_0); unfold In at a1; have a2 := (inv_F hI 0 32 rfl e_2_1); unfold In at a2; have a3 := i1x10; unfold In at a3; have a4 := h1; unfold In at a4; have a5 := i196a; unfold In at a5; have oc := oc_138_1; omega); (exact e)), show s.1 31 0 = z141 from e141.symm, show s.1 31 1 = z173 from e173.symm], p196h q_3⟩
                          have n200e : ((Int32.ofInt 1)).toInt = 0 → ¬ dkC (gvC s) (x1).toInt (V31 s) := by intro h; exact absurd h (by decide)
                          have n200f : (u_2_0).toInt ≤ (z196a).toInt := by have a0 := i142x9a; unfold In at a0; have a1 := (inv_F hI 448 28000 rfl e_30_0); unfold In at a1; have a2 := (inv_F hI 0 32 rfl e_2_1); unfold In at a2; have a3 := i1x10; unfold In at a3; have a4 := h1; unfold In at a4; have a5 := i196a; unfold In at a5; have oc := oc_138_1; omega
                          have n200g : (s.2.2.1 2 0).toInt ≤ (s196.2.2.1 2 0).toInt := by have b0 : z196a = s196.2.2.1 2 0 := e196; first | (rw [← b0, ← e_2_0]; exact n200f) | (rw [← b0]; exact n200f)
                          exact g_ireturn (gd rfl) rfl (nb01 (in_w 0 1 (in_c 1 rfl) rfl)) (hP _ _ ⟨a196, s196, hI196, (fr_tr rfl fr_rf hF196), n200g, (Int32.ofInt 1), rfl, rfl, in_w 0 1 (in_c 1 rfl) rfl, n200, n200a, n200b, n200c, n200d, n200e⟩)
                        · skip
                          exact zn_eq c177 (in_c 1 rfl) rfl
                  · skip
                    have i153 := r_eq1 19 19 c153 h1 (in_c 19 rfl) rfl
                    refine g_aload_n 157 (gd rfl) rfl rfl ?_
                    refine g_aload_n 158 (gd rfl) rfl rfl ?_
                    refine g_getA (q2 := 31) 161 (gd rfl) rfl rfl rfl rfl ?_
                    refine g_iconst 0 162 (gd rfl) rfl rfl ?_
                    refine g_iaload 163 (gd rfl) rfl (n := 5) rfl (in_ix (in_c 0 rfl) rfl) (fun z162 e162 => ?_)
                    have q162 : z141 = z162 := (e141).trans e162.symm
                    subst q162
                    have p163 : KL s := by exact q_0
                    refine g_callv (X := _) (As := [.int z141]) (r := []) (b := A 1) (q := 1) 166 (gd rfl) rfl rfl rfl rfl rfl (ww_o rfl) (Nat.le_of_ble_eq_true rfl) (Nat.le_of_eq (lc_cg ((show Fr ([], [], [], []) s s from fr_rf).2.2.1 30 0 rfl) ((show Fr ([], [], [], []) s s from fr_rf).2.2.1 2 0 rfl)).1) (Nat.le_of_eq (lc_cg ((show Fr ([], [], [], []) s s from fr_rf).2.2.1 30 0 rfl) ((show Fr ([], [], [], []) s s from fr_rf).2.2.1 2 0 rfl)).2.1) (f_126_1 (by omega) hI (in_w 0 159 i142x9 rfl) e_2_0 e_2_1 e_30_0 (in_w 0 3999 i1x10 rfl) p163) (fun e u h => h) (fun v u h => ?_)
                    obtain ⟨a163, s163, hI163, hF163, n163, rfl, rfl, p163a, p163b, p163c, p163d, p163e, p163f⟩ := h
                    obtain ⟨z163a, e163⟩ : ∃ w, w = s163.2.2.1 2 0 := ⟨_, rfl⟩
                    have i163a := inv_F hI163 0 4000 rfl e163
                    rw [← (show u_2_0 = s.2.2.1 2 0 from e_2_0)] at n163
                    rw [← (show z163a = s163.2.2.1 2 0 from e163)] at n163
                    show GG _ _ _ _ _ _ _ _ [] _ _ _
                    refine g_iconst 1 167 (gd rfl) rfl rfl ?_
                    have n167 : KL s163 := by exact p163a
                    have n167a : ((Int32.ofInt 1)).toInt ≠ 0 → (s163.2.2.1 30 0).toInt = nln s := by intro _; exact p163b
                    have n167b : ((Int32.ofInt 1)).toInt ≠ 0 → (s.2.2.1 2 0).toInt ≤ 3999 := by first | (intro h; exact absurd rfl h) | (intro _; rw [← e_2_0]; have a0 := i142x9a; unfold In at a0; have a1 := (inv_F hI 448 28000 rfl e_30_0); unfold In at a1; have a2 := (inv_F hI 0 32 rfl e_2_1); unfold In at a2; have a3 := i1x10; unfold In at a3; have a4 := i153; unfold In at a4; have a5 := i163a; unfold In at a5; have oc := oc_138_1; omega)
                    have n167c : ∀ k : Nat, (k : Int) < 7 * (s.2.2.1 2 0).toInt → s163.1 30 k = s.1 30 k := by exact p163c
                    have n167d : ((Int32.ofInt 1)).toInt ≠ 0 → dkC (gvC s) (x1).toInt (V31 s) ∧ gvC s163 = opC (gvC s) (x1).toInt (V31 s) ∧ TQ s163 := by intro _; exact ⟨dk_19 (by have a0 := i142x9a; unfold In at a0; have a1 := (inv_F hI 448 28000 rfl e_30_0); unfold In at a1; have a2 := (inv_F hI 0 32 rfl e_2_1); unfold In at a2; have a3 := i1x10; unfold In at a3; have a4 := i153; unfold In at a4; have a5 := i163a; unfold In at a5; have oc := oc_138_1; omega) (show (s.2.2.1 2 0).toInt ≤ 3999 from by rw [← e_2_0]; have a0 := i142x9a; unfold In at a0; have a1 := (inv_F hI 448 28000 rfl e_30_0); unfold In at a1; have a2 := (inv_F hI 0 32 rfl e_2_1); unfold In at a2; have a3 := i1x10; unfold In at a3; have a4 := i153; unfold In at a4; have a5 := i163a; unfold In at a5; have oc := oc_138_1; omega) (show gvT (gvC s) (V31 s 0) from ⟨show 0 ≤ (s.1 31 0).toInt from by rw [show s.1 31 0 = z141 from e141.symm]; have a0 := i142x9a; unfold In at a0; have a1 := (inv_F hI 448 28000 rfl e_30_0); unfold In at a1; have a2 := (inv_F hI 0 32 rfl e_2_1); unfold In at a2; have a3 := i1x10; unfold In at a3; have a4 := i153; unfold In at a4; have a5 := i163a; unfold In at a5; have oc := oc_138_1; omega, show (s.1 31 0).toInt ≤ 159 from by rw [show s.1 31 0 = z141 from e141.symm]; have a0 := i142x9a; unfold In at a0; have a1 := (inv_F hI 448 28000 rfl e_30_0); unfold In at a1; have a2 := (inv_F hI 0 32 rfl e_2_1); unfold In at a2; have a3 := i1x10; unfold In at a3; have a4 := i153; unfold In at a4; have a5 := i163a; unfold In at a5; have oc := oc_138_1; omega, show (s.1 4 (s.1 31 0).toInt.toNat).toInt ≠ -1 from by rw [show s.1 31 0 = z141 from e141.symm, show s.1 4 z141.toInt.toNat = z142x17 from e142x17.symm]; have a0 := i142x9a; unfold In at a0; have a1 := (inv_F hI 448 28000 rfl e_30_0); unfold In at a1; have a2 := (inv_F hI 0 32 rfl e_2_1); unfold In at a2; have a3 := i1x10; unfold In at a3; have a4 := i153; unfold In at a4; have a5 := i163a; unfold In at a5; have oc := oc_138_1; omega⟩), by rw [p163d, opC_19 (by have a0 := i142x9a; unfold In at a0; have a1 := (inv_F hI 448 28000 rfl e_30_0); unfold In at a1; have a2 := (inv_F hI 0 32 rfl e_2_1); unfold In at a2; have a3 := i1x10; unfold In at a3; have a4 := i153; unfold In at a4; have a5 := i163a; unfold In at a5; have oc := oc_138_1; omega), show s.1 31 0 = z141 from e141.symm], p163e q_3⟩
                    have n167e : ((Int32.ofInt 1)).toInt = 0 → ¬ dkC (gvC s) (x1).toInt (V31 s) := by intro h; exact absurd h (by decide)
                    have n167f : (u_2_0).toInt ≤ (z163a).toInt := by have a0 := i142x9a; unfold In at a0; have a1 := (inv_F hI 448 28000 rfl e_30_0); unfold In at a1; have a2 := (inv_F hI 0 32 rfl e_2_1); unfold In at a2; have a3 := i1x10; unfold In at a3; have a4 := i153; unfold In at a4; have a5 := i163a; unfold In at a5; have oc := oc_138_1; omega
                    have n167g : (s.2.2.1 2 0).toInt ≤ (s163.2.2.1 2 0).toInt := by have b0 : z163a = s163.2.2.1 2 0 := e163; first | (rw [← b0, ← e_2_0]; exact n167f) | (rw [← b0]; exact n167f)
                    exact g_ireturn (gd rfl) rfl (nb01 (in_w 0 1 (in_c 1 rfl) rfl)) (hP _ _ ⟨a163, s163, hI163, (fr_tr rfl fr_rf hF163), n167g, (Int32.ofInt 1), rfl, rfl, in_w 0 1 (in_c 1 rfl) rfl, n167, n167a, n167b, n167c, n167d, n167e⟩)
                · skip
                  exact zn_eq c145 (in_c 1 rfl) rfl
        · skip
          have i47 := z_eq 0 0 c47 h1 rfl
          refine g_aload_n 51 (gd rfl) rfl rfl ?_
          refine g_aload_n 52 (gd rfl) rfl rfl ?_
          refine g_getA (q2 := 31) 55 (gd rfl) rfl rfl rfl rfl ?_
          refine g_iconst 0 56 (gd rfl) rfl rfl ?_
          refine g_iaload 57 (gd rfl) rfl (n := 5) rfl (in_ix (in_c 0 rfl) rfl) (fun z56 e56 => ?_)
          refine g_aload_n 58 (gd rfl) rfl rfl ?_
          refine g_getA (q2 := 31) 61 (gd rfl) rfl rfl rfl rfl ?_
          refine g_iconst 1 62 (gd rfl) rfl rfl ?_
          refine g_iaload 63 (gd rfl) rfl (n := 5) rfl (in_ix (in_c 1 rfl) rfl) (fun z62 e62 => ?_)
          refine g_aload_n 64 (gd rfl) rfl rfl ?_
          refine g_getA (q2 := 31) 67 (gd rfl) rfl rfl rfl rfl ?_
          refine g_iconst 2 68 (gd rfl) rfl rfl ?_
          refine g_iaload 69 (gd rfl) rfl (n := 5) rfl (in_ix (in_c 2 rfl) rfl) (fun z68 e68 => ?_)
          refine g_aload_n 70 (gd rfl) rfl rfl ?_
          refine g_getA (q2 := 31) 73 (gd rfl) rfl rfl rfl rfl ?_
          refine g_iconst 3 74 (gd rfl) rfl rfl ?_
          refine g_iaload 75 (gd rfl) rfl (n := 5) rfl (in_ix (in_c 3 rfl) rfl) (fun z74 e74 => ?_)
          refine g_aload_n 76 (gd rfl) rfl rfl ?_
          refine g_getA (q2 := 31) 79 (gd rfl) rfl rfl rfl rfl ?_
          refine g_iconst 4 80 (gd rfl) rfl rfl ?_
          refine g_iaload 81 (gd rfl) rfl (n := 5) rfl (in_ix (in_c 4 rfl) rfl) (fun z80 e80 => ?_)
          refine g_callv (X := _) (As := [.int z56, .int z62, .int z68, .int z74, .int z80]) (r := []) (b := A 1) (q := 1) 84 (gd rfl) rfl rfl rfl rfl rfl (ww_o rfl) (Nat.le_of_ble_eq_true rfl) (mc := 0) (ms := 0) (Nat.zero_le _) (Nat.zero_le _) (P := fun v u => _) ?_ (fun e u h => h) (fun v u h => h)
          intro po81 xx81 hp81 hx81
          refine g_enter2 (k := 123) (N := 300) (by omega) rfl (Nat.le_of_ble_eq_true rfl) ?_
          refine g_aload_n 1 (gd rfl) rfl rfl ?_
          refine g_getA (q2 := 2) 4 (gd rfl) rfl rfl rfl rfl ?_
          refine g_iload_n 5 (gd rfl) rfl rfl ?_
          refine g_callv (X := _) (As := [.int z56]) (r := []) (b := A 2) (q := 2) 8 (gd rfl) rfl rfl rfl rfl rfl (ww_o rfl) (Nat.le_of_ble_eq_true rfl) (mc := 0) (ms := 0) (Nat.zero_le _) (Nat.zero_le _) (P := fun v u => _) ?_ (fun e u h => h) (fun v u h => h)
          intro po81x5 xx81x5 hp81x5 hx81x5
          refine g_enter2 (k := 94) (N := 300) (by omega) rfl (Nat.le_of_ble_eq_true rfl) ?_
          refine g_iload_n 1 (gd rfl) rfl rfl ?_
          refine g_if_lt 4 16 (gd rfl) rfl rfl (fun c81x5x1 => ?_) (fun c81x5x1 => ?_)
          · skip
            have i81x5x1 := z_lt (-2147483648) (-1) c81x5x1 (i_rng z56) rfl
            refine g_iconst 0 17 (gd rfl) rfl rfl ?_
            refine g_ireturn (gd rfl) rfl (nb01 (in_w 0 1 (in_c 0 rfl) rfl)) (hp81x5 _ _ ?_)
            show GG _ _ _ _ _ _ _ _ [.int (Int32.ofInt 0)] _ _ _
            refine g_if_eq 11 49 (gd rfl) rfl rfl (fun c81x8 => ?_) (fun c81x8 => ?_)
            · skip
              refine g_iconst 0 50 (gd rfl) rfl rfl ?_
              refine g_ireturn (gd rfl) rfl (nb01 (in_w 0 1 (in_c 0 rfl) rfl)) (hp81 _ _ ?_)
              show GG _ _ _ _ _ _ _ _ [.int (Int32.ofInt 0)] _ _ _
              refine g_if_eq 87 130 (gd rfl) rfl rfl (fun c84 => ?_) (fun c84 => ?_)
              · skip
                refine g_iconst 0 131 (gd rfl) rfl rfl ?_
                have n131 : KL s := by exact q_0
                have n131a : ((Int32.ofInt 0)).toInt ≠ 0 → (s.2.2.1 30 0).toInt = nln s := by intro h; exact absurd rfl h
                have n131b : ((Int32.ofInt 0)).toInt ≠ 0 → (s.2.2.1 2 0).toInt ≤ 3999 := by first | (intro h; exact absurd rfl h) | (intro _; rw [← e_2_0]; have a0 := (inv_F hI 0 160 rfl e_2_3); unfold In at a0; have a1 := (inv_F hI 448 28000 rfl e_30_0); unfold In at a1; have a2 := (inv_F hI 0 32 rfl e_2_1); unfold In at a2; have a3 := i1x10; unfold In at a3; have a4 := i47; unfold In at a4; have oc := oc_138_1; omega)
                have n131c : ∀ k : Nat, (k : Int) < 7 * (s.2.2.1 2 0).toInt → s.1 30 k = s.1 30 k := by exact fun k _ => rfl
                have n131d : ((Int32.ofInt 0)).toInt ≠ 0 → dkC (gvC s) (x1).toInt (V31 s) ∧ gvC s = opC (gvC s) (x1).toInt (V31 s) ∧ TQ s := by intro h; exact absurd rfl h
                have n131e : ((Int32.ofInt 0)).toInt = 0 → ¬ dkC (gvC s) (x1).toInt (V31 s) := by intro _ h; have h8 : (0 ≤ (s.1 31 0).toInt ∧ (s.1 31 0).toInt < (s.2.2.1 2 1).toInt) ∧ (0 ≤ (s.1 31 1).toInt ∧ (s.1 31 1).toInt < (s.2.2.1 2 1).toInt) ∧ (-1000000 ≤ (s.1 31 2).toInt ∧ (s.1 31 2).toInt ≤ 1000000) ∧ (0 ≤ (s.1 31 3).toInt ∧ (s.1 31 3).toInt ≤ 1000000) ∧ fpl (ctg (s.1 4)) < 160 := h.2.2.1 (by have a0 := (inv_F hI 0 160 rfl e_2_3); unfold In at a0; have a1 := (inv_F hI 448 28000 rfl e_30_0); unfold In at a1; have a2 := (inv_F hI 0 32 rfl e_2_1); unfold In at a2; have a3 := i1x10; unfold In at a3; have a4 := i47; unfold In at a4; have oc := oc_138_1; omega); rw [show s.1 31 0 = z56 from e56.symm, show s.1 31 1 = z62 from e62.symm, show s.1 31 2 = z68 from e68.symm, show s.1 31 3 = z74 from e74.symm] at h8; rw [← e_2_1] at h8; have h5 := q_4 (by have a0 := (inv_F hI 0 160 rfl e_2_3); unfold In at a0; have a1 := (inv_F hI 448 28000 rfl e_30_0); unfold In at a1; have a2 := (inv_F hI 0 32 rfl e_2_1); unfold In at a2; have a3 := i1x10; unfold In at a3; have a4 := i47; unfold In at a4; have oc := oc_138_1; omega); rw [show s.1 31 4 = z80 from e80.symm] at h5; unfold In at h5; have a0 := (inv_F hI 0 160 rfl e_2_3); unfold In at a0; have a1 := (inv_F hI 448 28000 rfl e_30_0); unfold In at a1; have a2 := (inv_F hI 0 32 rfl e_2_1); unfold In at a2; have a3 := i1x10; unfold In at a3; have a4 := i47; unfold In at a4; have oc := oc_138_1; omega
                have n131f : (u_2_0).toInt ≤ (u_2_0).toInt := by have a0 := (inv_F hI 0 160 rfl e_2_3); unfold In at a0; have a1 := (inv_F hI 448 28000 rfl e_30_0); unfold In at a1; have a2 := (inv_F hI 0 32 rfl e_2_1); unfold In at a2; have a3 := i1x10; unfold In at a3; have a4 := i47; unfold In at a4; have oc := oc_138_1; omega
                have n131g : (s.2.2.1 2 0).toInt ≤ (s.2.2.1 2 0).toInt := by have b0 : u_2_0 = s.2.2.1 2 0 := e_2_0; first | (rw [← b0, ← e_2_0]; exact n131f) | (rw [← b0]; exact n131f)
                exact g_ireturn (gd rfl) rfl (nb01 (in_w 0 1 (in_c 0 rfl) rfl)) (hP _ _ ⟨(A 30), s, hI, fr_rf, n131g, (Int32.ofInt 0), rfl, (by rw [ax_id]), in_w 0 1 (in_c 0 rfl) rfl, n131, n131a, n131b, n131c, n131d, n131e⟩)
              · skip
                exact zn_ne c84 (in_c 0 rfl) rfl
            · skip
              exact zn_ne c81x8 (in_c 0 rfl) rfl
          · skip
            have i81x5x1 := z_ge 0 2147483647 c81x5x1 (i_rng z56) rfl
            refine g_iload_n 5 (gd rfl) rfl rfl ?_
            refine g_aload_n 6 (gd rfl) rfl rfl ?_
            refine g_getI 9 (gd rfl) rfl rfl rfl (fun z81x5x6 e81x5x6 => ?_)
            have q81x5x6 : u_2_1 = z81x5x6 := (e_2_1).trans e81x5x6.symm
            subst q81x5x6
            refine g_cmp_ge 12 16 (gd rfl) rfl rfl (fun c81x5x9 => ?_) (fun c81x5x9 => ?_)
            · skip
              refine g_iconst 0 17 (gd rfl) rfl rfl ?_
              refine g_ireturn (gd rfl) rfl (nb01 (in_w 0 1 (in_c 0 rfl) rfl)) (hp81x5 _ _ ?_)
              show GG _ _ _ _ _ _ _ _ [.int (Int32.ofInt 0)] _ _ _
              refine g_if_eq 11 49 (gd rfl) rfl rfl (fun c81x8 => ?_) (fun c81x8 => ?_)
              · skip
                refine g_iconst 0 50 (gd rfl) rfl rfl ?_
                refine g_ireturn (gd rfl) rfl (nb01 (in_w 0 1 (in_c 0 rfl) rfl)) (hp81 _ _ ?_)
                show GG _ _ _ _ _ _ _ _ [.int (Int32.ofInt 0)] _ _ _
                refine g_if_eq 87 130 (gd rfl) rfl rfl (fun c84 => ?_) (fun c84 => ?_)
                · skip
                  refine g_iconst 0 131 (gd rfl) rfl rfl ?_
                  have n131 : KL s := by exact q_0
                  have n131a : ((Int32.ofInt 0)).toInt ≠ 0 → (s.2.2.1 30 0).toInt = nln s := by intro h; exact absurd rfl h
                  have n131b : ((Int32.ofInt 0)).toInt ≠ 0 → (s.2.2.1 2 0).toInt ≤ 3999 := by first | (intro h; exact absurd rfl h) | (intro _; rw [← e_2_0]; have a0 := (inv_F hI 0 160 rfl e_2_3); unfold In at a0; have a1 := (inv_F hI 448 28000 rfl e_30_0); unfold In at a1; have a2 := (inv_F hI 0 32 rfl e_2_1); unfold In at a2; have a3 := i1x10; unfold In at a3; have a4 := i47; unfold In at a4; have oc := oc_138_1; omega)
                  have n131c : ∀ k : Nat, (k : Int) < 7 * (s.2.2.1 2 0).toInt → s.1 30 k = s.1 30 k := by exact fun k _ => rfl
                  have n131d : ((Int32.ofInt 0)).toInt ≠ 0 → dkC (gvC s) (x1).toInt (V31 s) ∧ gvC s = opC (gvC s) (x1).toInt (V31 s) ∧ TQ s := by intro h; exact absurd rfl h
                  have n131e : ((Int32.ofInt 0)).toInt = 0 → ¬ dkC (gvC s) (x1).toInt (V31 s) := by intro _ h; have h8 : (0 ≤ (s.1 31 0).toInt ∧ (s.1 31 0).toInt < (s.2.2.1 2 1).toInt) ∧ (0 ≤ (s.1 31 1).toInt ∧ (s.1 31 1).toInt < (s.2.2.1 2 1).toInt) ∧ (-1000000 ≤ (s.1 31 2).toInt ∧ (s.1 31 2).toInt ≤ 1000000) ∧ (0 ≤ (s.1 31 3).toInt ∧ (s.1 31 3).toInt ≤ 1000000) ∧ fpl (ctg (s.1 4)) < 160 := h.2.2.1 (by have a0 := (inv_F hI 0 160 rfl e_2_3); unfold In at a0; have a1 := (inv_F hI 448 28000 rfl e_30_0); unfold In at a1; have a2 := (inv_F hI 0 32 rfl e_2_1); unfold In at a2; have a3 := i1x10; unfold In at a3; have a4 := i47; unfold In at a4; have oc := oc_138_1; omega); rw [show s.1 31 0 = z56 from e56.symm, show s.1 31 1 = z62 from e62.symm, show s.1 31 2 = z68 from e68.symm, show s.1 31 3 = z74 from e74.symm] at h8; rw [← e_2_1] at h8; have h5 := q_4 (by have a0 := (inv_F hI 0 160 rfl e_2_3); unfold In at a0; have a1 := (inv_F hI 448 28000 rfl e_30_0); unfold In at a1; have a2 := (inv_F hI 0 32 rfl e_2_1); unfold In at a2; have a3 := i1x10; unfold In at a3; have a4 := i47; unfold In at a4; have oc := oc_138_1; omega); rw [show s.1 31 4 = z80 from e80.symm] at h5; unfold In at h5; have a0 := (inv_F hI 0 160 rfl e_2_3); unfold In at a0; have a1 := (inv_F hI 448 28000 rfl e_30_0); unfold In at a1; have a2 := (inv_F hI 0 32 rfl e_2_1); unfold In at a2; have a3 := i1x10; unfold In at a3; have a4 := i47; unfold In at a4; have oc := oc_138_1; omega
                  have n131f : (u_2_0).toInt ≤ (u_2_0).toInt := by have a0 := (inv_F hI 0 160 rfl e_2_3); unfold In at a0; have a1 := (inv_F hI 448 28000 rfl e_30_0); unfold In at a1; have a2 := (inv_F hI 0 32 rfl e_2_1); unfold In at a2; have a3 := i1x10; unfold In at a3; have a4 := i47; unfold In at a4; have oc := oc_138_1; omega
                  have n131g : (s.2.2.1 2 0).toInt ≤ (s.2.2.1 2 0).toInt := by have b0 : u_2_0 = s.2.2.1 2 0 := e_2_0; first | (rw [← b0, ← e_2_0]; exact n131f) | (rw [← b0]; exact n131f)
                  exact g_ireturn (gd rfl) rfl (nb01 (in_w 0 1 (in_c 0 rfl) rfl)) (hP _ _ ⟨(A 30), s, hI, fr_rf, n131g, (Int32.ofInt 0), rfl, (by rw [ax_id]), in_w 0 1 (in_c 0 rfl) rfl, n131, n131a, n131b, n131c, n131d, n131e⟩)
                · skip
                  exact zn_ne c84 (in_c 0 rfl) rfl
              · skip
                exact zn_ne c81x8 (in_c 0 rfl) rfl
            · skip
              have i81x5x9 := r_lt1 0 31 c81x5x9 i81x5x1 (inv_F hI 0 32 rfl e_2_1) rfl
              have i81x5x9a := r_lt2 1 32 c81x5x9 i81x5x1 (inv_F hI 0 32 rfl e_2_1) rfl
              refine g_iconst 1 13 (gd rfl) rfl rfl ?_
              refine g_goto 17 (gd rfl) rfl ?_
              refine g_ireturn (gd rfl) rfl (nb01 (in_w 0 1 (in_c 1 rfl) rfl)) (hp81x5 _ _ ?_)
              show GG _ _ _ _ _ _ _ _ [.int (Int32.ofInt 1)] _ _ _
              refine g_if_eq 11 49 (gd rfl) rfl rfl (fun c81x8 => ?_) (fun c81x8 => ?_)
              · skip
                exact zn_eq c81x8 (in_c 1 rfl) rfl
              · skip
                refine g_aload_n 12 (gd rfl) rfl rfl ?_
                refine g_getA (q2 := 2) 15 (gd rfl) rfl rfl rfl rfl ?_
                refine g_iload_n 16 (gd rfl) rfl rfl ?_
                refine g_callv (X := _) (As := [.int z62]) (r := []) (b := A 2) (q := 2) 19 (gd rfl) rfl rfl rfl rfl rfl (ww_o rfl) (Nat.le_of_ble_eq_true rfl) (mc := 0) (ms := 0) (Nat.zero_le _) (Nat.zero_le _) (P := fun v u => _) ?_ (fun e u h => h) (fun v u h => h)
                intro po81x16 xx81x16 hp81x16 hx81x16
                refine g_enter2 (k := 94) (N := 300) (by omega) rfl (Nat.le_of_ble_eq_true rfl) ?_
                refine g_iload_n 1 (gd rfl) rfl rfl ?_
                refine g_if_lt 4 16 (gd rfl) rfl rfl (fun c81x16x1 => ?_) (fun c81x16x1 => ?_)
                · skip
                  have i81x16x1 := z_lt (-2147483648) (-1) c81x16x1 (i_rng z62) rfl
                  refine g_iconst 0 17 (gd rfl) rfl rfl ?_
                  refine g_ireturn (gd rfl) rfl (nb01 (in_w 0 1 (in_c 0 rfl) rfl)) (hp81x16 _ _ ?_)
                  show GG _ _ _ _ _ _ _ _ [.int (Int32.ofInt 0)] _ _ _
                  refine g_if_eq 22 49 (gd rfl) rfl rfl (fun c81x19 => ?_) (fun c81x19 => ?_)
                  · skip
                    refine g_iconst 0 50 (gd rfl) rfl rfl ?_
                    refine g_ireturn (gd rfl) rfl (nb01 (in_w 0 1 (in_c 0 rfl) rfl)) (hp81 _ _ ?_)
                    show GG _ _ _ _ _ _ _ _ [.int (Int32.ofInt 0)] _ _ _
                    refine g_if_eq 87 130 (gd rfl) rfl rfl (fun c84 => ?_) (fun c84 => ?_)
                    · skip
                      refine g_iconst 0 131 (gd rfl) rfl rfl ?_
                      have n131 : KL s := by exact q_0
                      have n131a : ((Int32.ofInt 0)).toInt ≠ 0 → (s.2.2.1 30 0).toInt = nln s := by intro h; exact absurd rfl h
                      have n131b : ((Int32.ofInt 0)).toInt ≠ 0 → (s.2.2.1 2 0).toInt ≤ 3999 := by first | (intro h; exact absurd rfl h) | (intro _; rw [← e_2_0]; have a0 := (inv_F hI 0 160 rfl e_2_3); unfold In at a0; have a1 := (inv_F hI 448 28000 rfl e_30_0); unfold In at a1; have a2 := i81x5x9a; unfold In at a2; have a3 := i1x10; unfold In at a3; have a4 := i47; unfold In at a4; have oc := oc_138_1; omega)
                      have n131c : ∀ k : Nat, (k : Int) < 7 * (s.2.2.1 2 0).toInt → s.1 30 k = s.1 30 k := by exact fun k _ => rfl
                      have n131d : ((Int32.ofInt 0)).toInt ≠ 0 → dkC (gvC s) (x1).toInt (V31 s) ∧ gvC s = opC (gvC s) (x1).toInt (V31 s) ∧ TQ s := by intro h; exact absurd rfl h
                      have n131e : ((Int32.ofInt 0)).toInt = 0 → ¬ dkC (gvC s) (x1).toInt (V31 s) := by intro _ h; have h8 : (0 ≤ (s.1 31 0).toInt ∧ (s.1 31 0).toInt < (s.2.2.1 2 1).toInt) ∧ (0 ≤ (s.1 31 1).toInt ∧ (s.1 31 1).toInt < (s.2.2.1 2 1).toInt) ∧ (-1000000 ≤ (s.1 31 2).toInt ∧ (s.1 31 2).toInt ≤ 1000000) ∧ (0 ≤ (s.1 31 3).toInt ∧ (s.1 31 3).toInt ≤ 1000000) ∧ fpl (ctg (s.1 4)) < 160 := h.2.2.1 (by have a0 := (inv_F hI 0 160 rfl e_2_3); unfold In at a0; have a1 := (inv_F hI 448 28000 rfl e_30_0); unfold In at a1; have a2 := i81x5x9a; unfold In at a2; have a3 := i1x10; unfold In at a3; have a4 := i47; unfold In at a4; have oc := oc_138_1; omega); rw [show s.1 31 0 = z56 from e56.symm, show s.1 31 1 = z62 from e62.symm, show s.1 31 2 = z68 from e68.symm, show s.1 31 3 = z74 from e74.symm] at h8; rw [← e_2_1] at h8; have h5 := q_4 (by have a0 := (inv_F hI 0 160 rfl e_2_3); unfold In at a0; have a1 := (inv_F hI 448 28000 rfl e_30_0); unfold In at a1; have a2 := i81x5x9a; unfold In at a2; have a3 := i1x10; unfold In at a3; have a4 := i47; unfold In at a4; have oc := oc_138_1; omega); rw [show s.1 31 4 = z80 from e80.symm] at h5; unfold In at h5; have a0 := (inv_F hI 0 160 rfl e_2_3); unfold In at a0; have a1 := (inv_F hI 448 28000 rfl e_30_0); unfold In at a1; have a2 := i81x5x9a; unfold In at a2; have a3 := i1x10; unfold In at a3; have a4 := i47; unfold In at a4; have oc := oc_138_1; omega
                      have n131f : (u_2_0).toInt ≤ (u_2_0).toInt := by have a0 := (inv_F hI 0 160 rfl e_2_3); unfold In at a0; have a1 := (inv_F hI 448 28000 rfl e_30_0); unfold In at a1; have a2 := i81x5x9a; unfold In at a2; have a3 := i1x10; unfold In at a3; have a4 := i47; unfold In at a4; have oc := oc_138_1; omega
                      have n131g : (s.2.2.1 2 0).toInt ≤ (s.2.2.1 2 0).toInt := by have b0 : u_2_0 = s.2.2.1 2 0 := e_2_0; first | (rw [← b0, ← e_2_0]; exact n131f) | (rw [← b0]; exact n131f)
                      exact g_ireturn (gd rfl) rfl (nb01 (in_w 0 1 (in_c 0 rfl) rfl)) (hP _ _ ⟨(A 30), s, hI, fr_rf, n131g, (Int32.ofInt 0), rfl, (by rw [ax_id]), in_w 0 1 (in_c 0 rfl) rfl, n131, n131a, n131b, n131c, n131d, n131e⟩)
                    · skip
                      exact zn_ne c84 (in_c 0 rfl) rfl
                  · skip
                    exact zn_ne c81x19 (in_c 0 rfl) rfl
                · skip
                  have i81x16x1 := z_ge 0 2147483647 c81x16x1 (i_rng z62) rfl
                  refine g_iload_n 5 (gd rfl) rfl rfl ?_
                  refine g_aload_n 6 (gd rfl) rfl rfl ?_
                  refine g_getI 9 (gd rfl) rfl rfl rfl (fun z81x16x6 e81x16x6 => ?_)
                  have q81x16x6 : u_2_1 = z81x16x6 := (e_2_1).trans e81x16x6.symm
                  subst q81x16x6
                  refine g_cmp_ge 12 16 (gd rfl) rfl rfl (fun c81x16x9 => ?_) (fun c81x16x9 => ?_)
                  · skip
                    have i81x16x9 := r_le2 1 2147483647 c81x16x9 i81x5x9a i81x16x1 rfl
                    refine g_iconst 0 17 (gd rfl) rfl rfl ?_
                    refine g_ireturn (gd rfl) rfl (nb01 (in_w 0 1 (in_c 0 rfl) rfl)) (hp81x16 _ _ ?_)
                    show GG _ _ _ _ _ _ _ _ [.int (Int32.ofInt 0)] _ _ _
                    refine g_if_eq 22 49 (gd rfl) rfl rfl (fun c81x19 => ?_) (fun c81x19 => ?_)
                    · skip
                      refine g_iconst 0 50 (gd rfl) rfl rfl ?_
                      refine g_ireturn (gd rfl) rfl (nb01 (in_w 0 1 (in_c 0 rfl) rfl)) (hp81 _ _ ?_)
                      show GG _ _ _ _ _ _ _ _ [.int (Int32.ofInt 0)] _ _ _
                      refine g_if_eq 87 130 (gd rfl) rfl rfl (fun c84 => ?_) (fun c84 => ?_)
                      · skip
                        refine g_iconst 0 131 (gd rfl) rfl rfl ?_
                        have n131 : KL s := by exact q_0
                        have n131a : ((Int32.ofInt 0)).toInt ≠ 0 → (s.2.2.1 30 0).toInt = nln s := by intro h; exact absurd rfl h
                        have n131b : ((Int32.ofInt 0)).toInt ≠ 0 → (s.2.2.1 2 0).toInt ≤ 3999 := by first | (intro h; exact absurd rfl h) | (intro _; rw [← e_2_0]; have a0 := (inv_F hI 0 160 rfl e_2_3); unfold In at a0; have a1 := (inv_F hI 448 28000 rfl e_30_0); unfold In at a1; have a2 := i81x5x9a; unfold In at a2; have a3 := i1x10; unfold In at a3; have a4 := i47; unfold In at a4; have oc := oc_138_1; omega)
                        have n131c : ∀ k : Nat, (k : Int) < 7 * (s.2.2.1 2 0).toInt → s.1 30 k = s.1 30 k := by exact fun k _ => rfl
                        have n131d : ((Int32.ofInt 0)).toInt ≠ 0 → dkC (gvC s) (x1).toInt (V31 s) ∧ gvC s = opC (gvC s) (x1).toInt (V31 s) ∧ TQ s := by intro h; exact absurd rfl h
                        have n131e : ((Int32.ofInt 0)).toInt = 0 → ¬ dkC (gvC s) (x1).toInt (V31 s) := by intro _ h; have h8 : (0 ≤ (s.1 31 0).toInt ∧ (s.1 31 0).toInt < (s.2.2.1 2 1).toInt) ∧ (0 ≤ (s.1 31 1).toInt ∧ (s.1 31 1).toInt < (s.2.2.1 2 1).toInt) ∧ (-1000000 ≤ (s.1 31 2).toInt ∧ (s.1 31 2).toInt ≤ 1000000) ∧ (0 ≤ (s.1 31 3).toInt ∧ (s.1 31 3).toInt ≤ 1000000) ∧ fpl (ctg (s.1 4)) < 160 := h.2.2.1 (by have a0 := (inv_F hI 0 160 rfl e_2_3); unfold In at a0; have a1 := (inv_F hI 448 28000 rfl e_30_0); unfold In at a1; have a2 := i81x5x9a; unfold In at a2; have a3 := i1x10; unfold In at a3; have a4 := i47; unfold In at a4; have oc := oc_138_1; omega); rw [show s.1 31 0 = z56 from e56.symm, show s.1 31 1 = z62 from e62.symm, show s.1 31 2 = z68 from e68.symm, show s.1 31 3 = z74 from e74.symm] at h8; rw [← e_2_1] at h8; have h5 := q_4 (by have a0 := (inv_F hI 0 160 rfl e_2_3); unfold In at a0; have a1 := (inv_F hI 448 28000 rfl e_30_0); unfold In at a1; have a2 := i81x5x9a; unfold In at a2; have a3 := i1x10; unfold In at a3; have a4 := i47; unfold In at a4; have oc := oc_138_1; omega); rw [show s.1 31 4 = z80 from e80.symm] at h5; unfold In at h5; have a0 := (inv_F hI 0 160 rfl e_2_3); unfold In at a0; have a1 := (inv_F hI 448 28000 rfl e_30_0); unfold In at a1; have a2 := i81x5x9a; unfold In at a2; have a3 := i1x10; unfold In at a3; have a4 := i47; unfold In at a4; have oc := oc_138_1; omega
                        have n131f : (u_2_0).toInt ≤ (u_2_0).toInt := by have a0 := (inv_F hI 0 160 rfl e_2_3); unfold In at a0; have a1 := (inv_F hI 448 28000 rfl e_30_0); unfold In at a1; have a2 := i81x5x9a; unfold In at a2; have a3 := i1x10; unfold In at a3; have a4 := i47; unfold In at a4; have oc := oc_138_1; omega
                        have n131g : (s.2.2.1 2 0).toInt ≤ (s.2.2.1 2 0).toInt := by have b0 : u_2_0 = s.2.2.1 2 0 := e_2_0; first | (rw [← b0, ← e_2_0]; exact n131f) | (rw [← b0]; exact n131f)
                        exact g_ireturn (gd rfl) rfl (nb01 (in_w 0 1 (in_c 0 rfl) rfl)) (hP _ _ ⟨(A 30), s, hI, fr_rf, n131g, (Int32.ofInt 0), rfl, (by rw [ax_id]), in_w 0 1 (in_c 0 rfl) rfl, n131, n131a, n131b, n131c, n131d, n131e⟩)
                      · skip
                        exact zn_ne c84 (in_c 0 rfl) rfl
                    · skip
                      exact zn_ne c81x19 (in_c 0 rfl) rfl
                  · skip
                    have i81x16x9 := r_lt1 0 31 c81x16x9 i81x16x1 i81x5x9a rfl
                    refine g_iconst 1 13 (gd rfl) rfl rfl ?_
                    refine g_goto 17 (gd rfl) rfl ?_
                    refine g_ireturn (gd rfl) rfl (nb01 (in_w 0 1 (in_c 1 rfl) rfl)) (hp81x16 _ _ ?_)
                    show GG _ _ _ _ _ _ _ _ [.int (Int32.ofInt 1)] _ _ _
                    refine g_if_eq 22 49 (gd rfl) rfl rfl (fun c81x19 => ?_) (fun c81x19 => ?_)
                    · skip
                      exact zn_eq c81x19 (in_c 1 rfl) rfl
                    · skip
                      refine g_iload_n 23 (gd rfl) rfl rfl ?_
                      refine g_calls (As := [.int z68]) (r := []) 26 (gd rfl) rfl rfl rfl rfl rfl (Nat.le_of_ble_eq_true rfl) (mc := 0) (ms := 0) (Nat.zero_le _) (Nat.zero_le _) (P := fun v u => _) ?_ (fun v u h => h)
                      intro po81x23 xx81x23 hp81x23 hx81x23
                      refine g_enter2 (k := 261) (N := 300) (by omega) rfl (Nat.le_of_ble_eq_true rfl) ?_
                      refine g_iload_n 1 (gd rfl) rfl rfl ?_
                      refine g_ldc_w (-1000000) 4 (gd rfl) rfl rfl ?_
                      refine g_cmp_lt 7 18 (gd rfl) rfl rfl (fun c81x23x4 => ?_) (fun c81x23x4 => ?_)
                      · skip
                        have i81x23x4 := r_lt1 (-2147483648) (-1000001) c81x23x4 (i_rng z68) (in_c (-1000000) rfl) rfl
                        refine g_iconst 0 19 (gd rfl) rfl rfl ?_
                        refine g_ireturn (gd rfl) rfl (nb01 (in_w 0 1 (in_c 0 rfl) rfl)) (hp81x23 _ _ ?_)
                        show GG _ _ _ _ _ _ _ _ [.int (Int32.ofInt 0)] _ _ _
                        refine g_if_eq 29 49 (gd rfl) rfl rfl (fun c81x26 => ?_) (fun c81x26 => ?_)
                        · skip
                          refine g_iconst 0 50 (gd rfl) rfl rfl ?_
                          refine g_ireturn (gd rfl) rfl (nb01 (in_w 0 1 (in_c 0 rfl) rfl)) (hp81 _ _ ?_)
                          show GG _ _ _ _ _ _ _ _ [.int (Int32.ofInt 0)] _ _ _
                          refine g_if_eq 87 130 (gd rfl) rfl rfl (fun c84 => ?_) (fun c84 => ?_)
                          · skip
                            refine g_iconst 0 131 (gd rfl) rfl rfl ?_
                            have n131 : KL s := by exact q_0
                            have n131a : ((Int32.ofInt 0)).toInt ≠ 0 → (s.2.2.1 30 0).toInt = nln s := by intro h; exact absurd rfl h
                            have n131b : ((Int32.ofInt 0)).toInt ≠ 0 → (s.2.2.1 2 0).toInt ≤ 3999 := by first | (intro h; exact absurd rfl h) | (intro _; rw [← e_2_0]; have a0 := (inv_F hI 0 160 rfl e_2_3); unfold In at a0; have a1 := (inv_F hI 448 28000 rfl e_30_0); unfold In at a1; have a2 := i81x5x9a; unfold In at a2; have a3 := i1x10; unfold In at a3; have a4 := i47; unfold In at a4; have oc := oc_138_1; omega)
                            have n131c : ∀ k : Nat, (k : Int) < 7 * (s.2.2.1 2 0).toInt → s.1 30 k = s.1 30 k := by exact fun k _ => rfl
                            have n131d : ((Int32.ofInt 0)).toInt ≠ 0 → dkC (gvC s) (x1).toInt (V31 s) ∧ gvC s = opC (gvC s) (x1).toInt (V31 s) ∧ TQ s := by intro h; exact absurd rfl h
                            have n131e : ((Int32.ofInt 0)).toInt = 0 → ¬ dkC (gvC s) (x1).toInt (V31 s) := by intro _ h; have h8 : (0 ≤ (s.1 31 0).toInt ∧ (s.1 31 0).toInt < (s.2.2.1 2 1).toInt) ∧ (0 ≤ (s.1 31 1).toInt ∧ (s.1 31 1).toInt < (s.2.2.1 2 1).toInt) ∧ (-1000000 ≤ (s.1 31 2).toInt ∧ (s.1 31 2).toInt ≤ 1000000) ∧ (0 ≤ (s.1 31 3).toInt ∧ (s.1 31 3).toInt ≤ 1000000) ∧ fpl (ctg (s.1 4)) < 160 := h.2.2.1 (by have a0 := (inv_F hI 0 160 rfl e_2_3); unfold In at a0; have a1 := (inv_F hI 448 28000 rfl e_30_0); unfold In at a1; have a2 := i81x5x9a; unfold In at a2; have a3 := i1x10; unfold In at a3; have a4 := i47; unfold In at a4; have oc := oc_138_1; omega); rw [show s.1 31 0 = z56 from e56.symm, show s.1 31 1 = z62 from e62.symm, show s.1 31 2 = z68 from e68.symm, show s.1 31 3 = z74 from e74.symm] at h8; rw [← e_2_1] at h8; have h5 := q_4 (by have a0 := (inv_F hI 0 160 rfl e_2_3); unfold In at a0; have a1 := (inv_F hI 448 28000 rfl e_30_0); unfold In at a1; have a2 := i81x5x9a; unfold In at a2; have a3 := i1x10; unfold In at a3; have a4 := i47; unfold In at a4; have oc := oc_138_1; omega); rw [show s.1 31 4 = z80 from e80.symm] at h5; unfold In at h5; have a0 := (inv_F hI 0 160 rfl e_2_3); unfold In at a0; have a1 := (inv_F hI 448 28000 rfl e_30_0); unfold In at a1; have a2 := i81x5x9a; unfold In at a2; have a3 := i1x10; unfold In at a3; have a4 := i47; unfold In at a4; have oc := oc_138_1; omega
                            have n131f : (u_2_0).toInt ≤ (u_2_0).toInt := by have a0 := (inv_F hI 0 160 rfl e_2_3); unfold In at a0; have a1 := (inv_F hI 448 28000 rfl e_30_0); unfold In at a1; have a2 := i81x5x9a; unfold In at a2; have a3 := i1x10; unfold In at a3; have a4 := i47; unfold In at a4; have oc := oc_138_1; omega
                            have n131g : (s.2.2.1 2 0).toInt ≤ (s.2.2.1 2 0).toInt := by have b0 : u_2_0 = s.2.2.1 2 0 := e_2_0; first | (rw [← b0, ← e_2_0]; exact n131f) | (rw [← b0]; exact n131f)
                            exact g_ireturn (gd rfl) rfl (nb01 (in_w 0 1 (in_c 0 rfl) rfl)) (hP _ _ ⟨(A 30), s, hI, fr_rf, n131g, (Int32.ofInt 0), rfl, (by rw [ax_id]), in_w 0 1 (in_c 0 rfl) rfl, n131, n131a, n131b, n131c, n131d, n131e⟩)
                          · skip
                            exact zn_ne c84 (in_c 0 rfl) rfl
                        · skip
                          exact zn_ne c81x26 (in_c 0 rfl) rfl
                      · skip
                        have i81x23x4 := r_le2 (-1000000) 2147483647 c81x23x4 (in_c (-1000000) rfl) (i_rng z68) rfl
                        refine g_iload_n 8 (gd rfl) rfl rfl ?_
                        refine g_ldc_w 1000000 11 (gd rfl) rfl rfl ?_
                        refine g_cmp_gt 14 18 (gd rfl) rfl rfl (fun c81x23x11 => ?_) (fun c81x23x11 => ?_)
                        · skip
                          have i81x23x11 := r_lt2 1000001 2147483647 c81x23x11 (in_c 1000000 rfl) i81x23x4 rfl
                          refine g_iconst 0 19 (gd rfl) rfl rfl ?_
                          refine g_ireturn (gd rfl) rfl (nb01 (in_w 0 1 (in_c 0 rfl) rfl)) (hp81x23 _ _ ?_)
                          show GG _ _ _ _ _ _ _ _ [.int (Int32.ofInt 0)] _ _ _
                          refine g_if_eq 29 49 (gd rfl) rfl rfl (fun c81x26 => ?_) (fun c81x26 => ?_)
                          · skip
                            refine g_iconst 0 50 (gd rfl) rfl rfl ?_
                            refine g_ireturn (gd rfl) rfl (nb01 (in_w 0 1 (in_c 0 rfl) rfl)) (hp81 _ _ ?_)
                            show GG _ _ _ _ _ _ _ _ [.int (Int32.ofInt 0)] _ _ _
                            refine g_if_eq 87 130 (gd rfl) rfl rfl (fun c84 => ?_) (fun c84 => ?_)
                            · skip
                              refine g_iconst 0 131 (gd rfl) rfl rfl ?_
                              have n131 : KL s := by exact q_0
                              have n131a : ((Int32.ofInt 0)).toInt ≠ 0 → (s.2.2.1 30 0).toInt = nln s := by intro h; exact absurd rfl h
                              have n131b : ((Int32.ofInt 0)).toInt ≠ 0 → (s.2.2.1 2 0).toInt ≤ 3999 := by first | (intro h; exact absurd rfl h) | (intro _; rw [← e_2_0]; have a0 := (inv_F hI 0 160 rfl e_2_3); unfold In at a0; have a1 := (inv_F hI 448 28000 rfl e_30_0); unfold In at a1; have a2 := i81x5x9a; unfold In at a2; have a3 := i1x10; unfold In at a3; have a4 := i47; unfold In at a4; have oc := oc_138_1; omega)
                              have n131c : ∀ k : Nat, (k : Int) < 7 * (s.2.2.1 2 0).toInt → s.1 30 k = s.1 30 k := by exact fun k _ => rfl
                              have n131d : ((Int32.ofInt 0)).toInt ≠ 0 → dkC (gvC s) (x1).toInt (V31 s) ∧ gvC s = opC (gvC s) (x1).toInt (V31 s) ∧ TQ s := by intro h; exact absurd rfl h
                              have n131e : ((Int32.ofInt 0)).toInt = 0 → ¬ dkC (gvC s) (x1).toInt (V31 s) := by intro _ h; have h8 : (0 ≤ (s.1 31 0).toInt ∧ (s.1 31 0).toInt < (s.2.2.1 2 1).toInt) ∧ (0 ≤ (s.1 31 1).toInt ∧ (s.1 31 1).toInt < (s.2.2.1 2 1).toInt) ∧ (-1000000 ≤ (s.1 31 2).toInt ∧ (s.1 31 2).toInt ≤ 1000000) ∧ (0 ≤ (s.1 31 3).toInt ∧ (s.1 31 3).toInt ≤ 1000000) ∧ fpl (ctg (s.1 4)) < 160 := h.2.2.1 (by have a0 := (inv_F hI 0 160 rfl e_2_3); unfold In at a0; have a1 := (inv_F hI 448 28000 rfl e_30_0); unfold In at a1; have a2 := i81x5x9a; unfold In at a2; have a3 := i1x10; unfold In at a3; have a4 := i47; unfold In at a4; have oc := oc_138_1; omega); rw [show s.1 31 0 = z56 from e56.symm, show s.1 31 1 = z62 from e62.symm, show s.1 31 2 = z68 from e68.symm, show s.1 31 3 = z74 from e74.symm] at h8; rw [← e_2_1] at h8; have h5 := q_4 (by have a0 := (inv_F hI 0 160 rfl e_2_3); unfold In at a0; have a1 := (inv_F hI 448 28000 rfl e_30_0); unfold In at a1; have a2 := i81x5x9a; unfold In at a2; have a3 := i1x10; unfold In at a3; have a4 := i47; unfold In at a4; have oc := oc_138_1; omega); rw [show s.1 31 4 = z80 from e80.symm] at h5; unfold In at h5; have a0 := (inv_F hI 0 160 rfl e_2_3); unfold In at a0; have a1 := (inv_F hI 448 28000 rfl e_30_0); unfold In at a1; have a2 := i81x5x9a; unfold In at a2; have a3 := i1x10; unfold In at a3; have a4 := i47; unfold In at a4; have oc := oc_138_1; omega
                              have n131f : (u_2_0).toInt ≤ (u_2_0).toInt := by have a0 := (inv_F hI 0 160 rfl e_2_3); unfold In at a0; have a1 := (inv_F hI 448 28000 rfl e_30_0); unfold In at a1; have a2 := i81x5x9a; unfold In at a2; have a3 := i1x10; unfold In at a3; have a4 := i47; unfold In at a4; have oc := oc_138_1; omega
                              have n131g : (s.2.2.1 2 0).toInt ≤ (s.2.2.1 2 0).toInt := by have b0 : u_2_0 = s.2.2.1 2 0 := e_2_0; first | (rw [← b0, ← e_2_0]; exact n131f) | (rw [← b0]; exact n131f)
                              exact g_ireturn (gd rfl) rfl (nb01 (in_w 0 1 (in_c 0 rfl) rfl)) (hP _ _ ⟨(A 30), s, hI, fr_rf, n131g, (Int32.ofInt 0), rfl, (by rw [ax_id]), in_w 0 1 (in_c 0 rfl) rfl, n131, n131a, n131b, n131c, n131d, n131e⟩)
                            · skip
                              exact zn_ne c84 (in_c 0 rfl) rfl
                          · skip
                            exact zn_ne c81x26 (in_c 0 rfl) rfl
                        · skip
                          have i81x23x11 := r_le1 (-1000000) 1000000 c81x23x11 i81x23x4 (in_c 1000000 rfl) rfl
                          refine g_iconst 1 15 (gd rfl) rfl rfl ?_
                          refine g_goto 19 (gd rfl) rfl ?_
                          refine g_ireturn (gd rfl) rfl (nb01 (in_w 0 1 (in_c 1 rfl) rfl)) (hp81x23 _ _ ?_)
                          show GG _ _ _ _ _ _ _ _ [.int (Int32.ofInt 1)] _ _ _
                          refine g_if_eq 29 49 (gd rfl) rfl rfl (fun c81x26 => ?_) (fun c81x26 => ?_)
                          · skip
                            exact zn_eq c81x26 (in_c 1 rfl) rfl
                          · skip
                            refine g_iload 31 (gd rfl) rfl rfl ?_
                            refine g_calls (As := [.int z74]) (r := []) 34 (gd rfl) rfl rfl rfl rfl rfl (Nat.le_of_ble_eq_true rfl) (mc := 0) (ms := 0) (Nat.zero_le _) (Nat.zero_le _) (P := fun v u => _) ?_ (fun v u h => h)
                            intro po81x31 xx81x31 hp81x31 hx81x31
                            refine g_enter2 (k := 262) (N := 300) (by omega) rfl (Nat.le_of_ble_eq_true rfl) ?_
                            refine g_iload_n 1 (gd rfl) rfl rfl ?_
                            refine g_if_lt 4 15 (gd rfl) rfl rfl (fun c81x31x1 => ?_) (fun c81x31x1 => ?_)
                            · skip
                              have i81x31x1 := z_lt (-2147483648) (-1) c81x31x1 (i_rng z74) rfl
                              refine g_iconst 0 16 (gd rfl) rfl rfl ?_
                              refine g_ireturn (gd rfl) rfl (nb01 (in_w 0 1 (in_c 0 rfl) rfl)) (hp81x31 _ _ ?_)
                              show GG _ _ _ _ _ _ _ _ [.int (Int32.ofInt 0)] _ _ _
                              refine g_if_eq 37 49 (gd rfl) rfl rfl (fun c81x34 => ?_) (fun c81x34 => ?_)
                              · skip
                                refine g_iconst 0 50 (gd rfl) rfl rfl ?_
                                refine g_ireturn (gd rfl) rfl (nb01 (in_w 0 1 (in_c 0 rfl) rfl)) (hp81 _ _ ?_)
                                show GG _ _ _ _ _ _ _ _ [.int (Int32.ofInt 0)] _ _ _
                                refine g_if_eq 87 130 (gd rfl) rfl rfl (fun c84 => ?_) (fun c84 => ?_)
                                · skip
                                  refine g_iconst 0 131 (gd rfl) rfl rfl ?_
                                  have n131 : KL s := by exact q_0
                                  have n131a : ((Int32.ofInt 0)).toInt ≠ 0 → (s.2.2.1 30 0).toInt = nln s := by intro h; exact absurd rfl h
                                  have n131b : ((Int32.ofInt 0)).toInt ≠ 0 → (s.2.2.1 2 0).toInt ≤ 3999 := by first | (intro h; exact absurd rfl h) | (intro _; rw [← e_2_0]; have a0 := (inv_F hI 0 160 rfl e_2_3); unfold In at a0; have a1 := (inv_F hI 448 28000 rfl e_30_0); unfold In at a1; have a2 := i81x5x9a; unfold In at a2; have a3 := i1x10; unfold In at a3; have a4 := i47; unfold In at a4; have oc := oc_138_1; omega)
                                  have n131c : ∀ k : Nat, (k : Int) < 7 * (s.2.2.1 2 0).toInt → s.1 30 k = s.1 30 k := by exact fun k _ => rfl
                                  have n131d : ((Int32.ofInt 0)).toInt ≠ 0 → dkC (gvC s) (x1).toInt (V31 s) ∧ gvC s = opC (gvC s) (x1).toInt (V31 s) ∧ TQ s := by intro h; exact absurd rfl h
                                  have n131e : ((Int32.ofInt 0)).toInt = 0 → ¬ dkC (gvC s) (x1).toInt (V31 s) := by intro _ h; have h8 : (0 ≤ (s.1 31 0).toInt ∧ (s.1 31 0).toInt < (s.2.2.1 2 1).toInt) ∧ (0 ≤ (s.1 31 1).toInt ∧ (s.1 31 1).toInt < (s.2.2.1 2 1).toInt) ∧ (-1000000 ≤ (s.1 31 2).toInt ∧ (s.1 31 2).toInt ≤ 1000000) ∧ (0 ≤ (s.1 31 3).toInt ∧ (s.1 31 3).toInt ≤ 1000000) ∧ fpl (ctg (s.1 4)) < 160 := h.2.2.1 (by have a0 := (inv_F hI 0 160 rfl e_2_3); unfold In at a0; have a1 := (inv_F hI 448 28000 rfl e_30_0); unfold In at a1; have a2 := i81x5x9a; unfold In at a2; have a3 := i1x10; unfold In at a3; have a4 := i47; unfold In at a4; have oc := oc_138_1; omega); rw [show s.1 31 0 = z56 from e56.symm, show s.1 31 1 = z62 from e62.symm, show s.1 31 2 = z68 from e68.symm, show s.1 31 3 = z74 from e74.symm] at h8; rw [← e_2_1] at h8; have h5 := q_4 (by have a0 := (inv_F hI 0 160 rfl e_2_3); unfold In at a0; have a1 := (inv_F hI 448 28000 rfl e_30_0); unfold In at a1; have a2 := i81x5x9a; unfold In at a2; have a3 := i1x10; unfold In at a3; have a4 := i47; unfold In at a4; have oc := oc_138_1; omega); rw [show s.1 31 4 = z80 from e80.symm] at h5; unfold In at h5; have a0 := (inv_F hI 0 160 rfl e_2_3); unfold In at a0; have a1 := (inv_F hI 448 28000 rfl e_30_0); unfold In at a1; have a2 := i81x5x9a; unfold In at a2; have a3 := i1x10; unfold In at a3; have a4 := i47; unfold In at a4; have oc := oc_138_1; omega
                                  have n131f : (u_2_0).toInt ≤ (u_2_0).toInt := by have a0 := (inv_F hI 0 160 rfl e_2_3); unfold In at a0; have a1 := (inv_F hI 448 28000 rfl e_30_0); unfold In at a1; have a2 := i81x5x9a; unfold In at a2; have a3 := i1x10; unfold In at a3; have a4 := i47; unfold In at a4; have oc := oc_138_1; omega
                                  have n131g : (s.2.2.1 2 0).toInt ≤ (s.2.2.1 2 0).toInt := by have b0 : u_2_0 = s.2.2.1 2 0 := e_2_0; first | (rw [← b0, ← e_2_0]; exact n131f) | (rw [← b0]; exact n131f)
                                  exact g_ireturn (gd rfl) rfl (nb01 (in_w 0 1 (in_c 0 rfl) rfl)) (hP _ _ ⟨(A 30), s, hI, fr_rf, n131g, (Int32.ofInt 0), rfl, (by rw [ax_id]), in_w 0 1 (in_c 0 rfl) rfl, n131, n131a, n131b, n131c, n131d, n131e⟩)
                                · skip
                                  exact zn_ne c84 (in_c 0 rfl) rfl
                              · skip
                                exact zn_ne c81x34 (in_c 0 rfl) rfl
                            · skip
                              have i81x31x1 := z_ge 0 2147483647 c81x31x1 (i_rng z74) rfl
                              refine g_iload_n 5 (gd rfl) rfl rfl ?_
                              refine g_ldc_w 1000000 8 (gd rfl) rfl rfl ?_
                              refine g_cmp_gt 11 15 (gd rfl) rfl rfl (fun c81x31x8 => ?_) (fun c81x31x8 => ?_)
                              · skip
                                have i81x31x8 := r_lt2 1000001 2147483647 c81x31x8 (in_c 1000000 rfl) i81x31x1 rfl
                                refine g_iconst 0 16 (gd rfl) rfl rfl ?_
                                refine g_ireturn (gd rfl) rfl (nb01 (in_w 0 1 (in_c 0 rfl) rfl)) (hp81x31 _ _ ?_)
                                show GG _ _ _ _ _ _ _ _ [.int (Int32.ofInt 0)] _ _ _
                                refine g_if_eq 37 49 (gd rfl) rfl rfl (fun c81x34 => ?_) (fun c81x34 => ?_)
                                · skip
                                  refine g_iconst 0 50 (gd rfl) rfl rfl ?_
                                  refine g_ireturn (gd rfl) rfl (nb01 (in_w 0 1 (in_c 0 rfl) rfl)) (hp81 _ _ ?_)
                                  show GG _ _ _ _ _ _ _ _ [.int (Int32.ofInt 0)] _ _ _
                                  refine g_if_eq 87 130 (gd rfl) rfl rfl (fun c84 => ?_) (fun c84 => ?_)
                                  · skip
                                    refine g_iconst 0 131 (gd rfl) rfl rfl ?_
                                    have n131 : KL s := by exact q_0
                                    have n131a : ((Int32.ofInt 0)).toInt ≠ 0 → (s.2.2.1 30 0).toInt = nln s := by intro h; exact absurd rfl h
                                    have n131b : ((Int32.ofInt 0)).toInt ≠ 0 → (s.2.2.1 2 0).toInt ≤ 3999 := by first | (intro h; exact absurd rfl h) | (intro _; rw [← e_2_0]; have a0 := (inv_F hI 0 160 rfl e_2_3); unfold In at a0; have a1 := (inv_F hI 448 28000 rfl e_30_0); unfold In at a1; have a2 := i81x5x9a; unfold In at a2; have a3 := i1x10; unfold In at a3; have a4 := i47; unfold In at a4; have oc := oc_138_1; omega)
                                    have n131c : ∀ k : Nat, (k : Int) < 7 * (s.2.2.1 2 0).toInt → s.1 30 k = s.1 30 k := by exact fun k _ => rfl
                                    have n131d : ((Int32.ofInt 0)).toInt ≠ 0 → dkC (gvC s) (x1).toInt (V31 s) ∧ gvC s = opC (gvC s) (x1).toInt (V31 s) ∧ TQ s := by intro h; exact absurd rfl h
                                    have n131e : ((Int32.ofInt 0)).toInt = 0 → ¬ dkC (gvC s) (x1).toInt (V31 s) := by intro _ h; have h8 : (0 ≤ (s.1 31 0).toInt ∧ (s.1 31 0).toInt < (s.2.2.1 2 1).toInt) ∧ (0 ≤ (s.1 31 1).toInt ∧ (s.1 31 1).toInt < (s.2.2.1 2 1).toInt) ∧ (-1000000 ≤ (s.1 31 2).toInt ∧ (s.1 31 2).toInt ≤ 1000000) ∧ (0 ≤ (s.1 31 3).toInt ∧ (s.1 31 3).toInt ≤ 1000000) ∧ fpl (ctg (s.1 4)) < 160 := h.2.2.1 (by have a0 := (inv_F hI 0 160 rfl e_2_3); unfold In at a0; have a1 := (inv_F hI 448 28000 rfl e_30_0); unfold In at a1; have a2 := i81x5x9a; unfold In at a2; have a3 := i1x10; unfold In at a3; have a4 := i47; unfold In at a4; have oc := oc_138_1; omega); rw [show s.1 31 0 = z56 from e56.symm, show s.1 31 1 = z62 from e62.symm, show s.1 31 2 = z68 from e68.symm, show s.1 31 3 = z74 from e74.symm] at h8; rw [← e_2_1] at h8; have h5 := q_4 (by have a0 := (inv_F hI 0 160 rfl e_2_3); unfold In at a0; have a1 := (inv_F hI 448 28000 rfl e_30_0); unfold In at a1; have a2 := i81x5x9a; unfold In at a2; have a3 := i1x10; unfold In at a3; have a4 := i47; unfold In at a4; have oc := oc_138_1; omega); rw [show s.1 31 4 = z80 from e80.symm] at h5; unfold In at h5; have a0 := (inv_F hI 0 160 rfl e_2_3); unfold In at a0; have a1 := (inv_F hI 448 28000 rfl e_30_0); unfold In at a1; have a2 := i81x5x9a; unfold In at a2; have a3 := i1x10; unfold In at a3; have a4 := i47; unfold In at a4; have oc := oc_138_1; omega
                                    have n131f : (u_2_0).toInt ≤ (u_2_0).toInt := by have a0 := (inv_F hI 0 160 rfl e_2_3); unfold In at a0; have a1 := (inv_F hI 448 28000 rfl e_30_0); unfold In at a1; have a2 := i81x5x9a; unfold In at a2; have a3 := i1x10; unfold In at a3; have a4 := i47; unfold In at a4; have oc := oc_138_1; omega
                                    have n131g : (s.2.2.1 2 0).toInt ≤ (s.2.2.1 2 0).toInt := by have b0 : u_2_0 = s.2.2.1 2 0 := e_2_0; first | (rw [← b0, ← e_2_0]; exact n131f) | (rw [← b0]; exact n131f)
                                    exact g_ireturn (gd rfl) rfl (nb01 (in_w 0 1 (in_c 0 rfl) rfl)) (hP _ _ ⟨(A 30), s, hI, fr_rf, n131g, (Int32.ofInt 0), rfl, (by rw [ax_id]), in_w 0 1 (in_c 0 rfl) rfl, n131, n131a, n131b, n131c, n131d, n131e⟩)
                                  · skip
                                    exact zn_ne c84 (in_c 0 rfl) rfl
                                · skip
                                  exact zn_ne c81x34 (in_c 0 rfl) rfl
                              · skip
                                have i81x31x8 := r_le1 0 1000000 c81x31x8 i81x31x1 (in_c 1000000 rfl) rfl
                                refine g_iconst 1 12 (gd rfl) rfl rfl ?_
                                refine g_goto 16 (gd rfl) rfl ?_
                                refine g_ireturn (gd rfl) rfl (nb01 (in_w 0 1 (in_c 1 rfl) rfl)) (hp81x31 _ _ ?_)
                                show GG _ _ _ _ _ _ _ _ [.int (Int32.ofInt 1)] _ _ _
                                refine g_if_eq 37 49 (gd rfl) rfl rfl (fun c81x34 => ?_) (fun c81x34 => ?_)
                                · skip
                                  exact zn_eq c81x34 (in_c 1 rfl) rfl
                                · skip
                                  refine g_iload 39 (gd rfl) rfl rfl ?_
                                  refine g_calls (As := [.int z80]) (r := []) 42 (gd rfl) rfl rfl rfl rfl rfl (Nat.le_of_ble_eq_true rfl) (mc := 0) (ms := 0) (Nat.zero_le _) (Nat.zero_le _) (P := fun v u => _) ?_ (fun v u h => h)
                                  intro po81x39 xx81x39 hp81x39 hx81x39
                                  refine g_enter2 (k := 260) (N := 300) (by omega) rfl (Nat.le_of_ble_eq_true rfl) ?_
                                  refine g_iload_n 1 (gd rfl) rfl rfl ?_
                                  refine g_if_lt 4 14 (gd rfl) rfl rfl (fun c81x39x1 => ?_) (fun c81x39x1 => ?_)
                                  · skip
                                    have i81x39x1 := z_lt (-2147483648) (-1) c81x39x1 (i_rng z80) rfl
                                    refine g_iconst 0 15 (gd rfl) rfl rfl ?_
                                    refine g_ireturn (gd rfl) rfl (nb01 (in_w 0 1 (in_c 0 rfl) rfl)) (hp81x39 _ _ ?_)
                                    show GG _ _ _ _ _ _ _ _ [.int (Int32.ofInt 0)] _ _ _
                                    refine g_if_eq 45 49 (gd rfl) rfl rfl (fun c81x42 => ?_) (fun c81x42 => ?_)
                                    · skip
                                      refine g_iconst 0 50 (gd rfl) rfl rfl ?_
                                      refine g_ireturn (gd rfl) rfl (nb01 (in_w 0 1 (in_c 0 rfl) rfl)) (hp81 _ _ ?_)
                                      show GG _ _ _ _ _ _ _ _ [.int (Int32.ofInt 0)] _ _ _
                                      refine g_if_eq 87 130 (gd rfl) rfl rfl (fun c84 => ?_) (fun c84 => ?_)
                                      · skip
                                        refine g_iconst 0 131 (gd rfl) rfl rfl ?_
                                        have n131 : KL s := by exact q_0
                                        have n131a : ((Int32.ofInt 0)).toInt ≠ 0 → (s.2.2.1 30 0).toInt = nln s := by intro h; exact absurd rfl h
                                        have n131b : ((Int32.ofInt 0)).toInt ≠ 0 → (s.2.2.1 2 0).toInt ≤ 3999 := by first | (intro h; exact absurd rfl h) | (intro _; rw [← e_2_0]; have a0 := (inv_F hI 0 160 rfl e_2_3); unfold In at a0; have a1 := (inv_F hI 448 28000 rfl e_30_0); unfold In at a1; have a2 := i81x5x9a; unfold In at a2; have a3 := i1x10; unfold In at a3; have a4 := i47; unfold In at a4; have oc := oc_138_1; omega)
                                        have n131c : ∀ k : Nat, (k : Int) < 7 * (s.2.2.1 2 0).toInt → s.1 30 k = s.1 30 k := by exact fun k _ => rfl
                                        have n131d : ((Int32.ofInt 0)).toInt ≠ 0 → dkC (gvC s) (x1).toInt (V31 s) ∧ gvC s = opC (gvC s) (x1).toInt (V31 s) ∧ TQ s := by intro h; exact absurd rfl h
                                        have n131e : ((Int32.ofInt 0)).toInt = 0 → ¬ dkC (gvC s) (x1).toInt (V31 s) := by intro _ h; have h8 : (0 ≤ (s.1 31 0).toInt ∧ (s.1 31 0).toInt < (s.2.2.1 2 1).toInt) ∧ (0 ≤ (s.1 31 1).toInt ∧ (s.1 31 1).toInt < (s.2.2.1 2 1).toInt) ∧ (-1000000 ≤ (s.1 31 2).toInt ∧ (s.1 31 2).toInt ≤ 1000000) ∧ (0 ≤ (s.1 31 3).toInt ∧ (s.1 31 3).toInt ≤ 1000000) ∧ fpl (ctg (s.1 4)) < 160 := h.2.2.1 (by have a0 := (inv_F hI 0 160 rfl e_2_3); unfold In at a0; have a1 := (inv_F hI 448 28000 rfl e_30_0); unfold In at a1; have a2 := i81x5x9a; unfold In at a2; have a3 := i1x10; unfold In at a3; have a4 := i47; unfold In at a4; have oc := oc_138_1; omega); rw [show s.1 31 0 = z56 from e56.symm, show s.1 31 1 = z62 from e62.symm, show s.1 31 2 = z68 from e68.symm, show s.1 31 3 = z74 from e74.symm] at h8; rw [← e_2_1] at h8; have h5 := q_4 (by have a0 := (inv_F hI 0 160 rfl e_2_3); unfold In at a0; have a1 := (inv_F hI 448 28000 rfl e_30_0); unfold In at a1; have a2 := i81x5x9a; unfold In at a2; have a3 := i1x10; unfold In at a3; have a4 := i47; unfold In at a4; have oc := oc_138_1; omega); rw [show s.1 31 4 = z80 from e80.symm] at h5; unfold In at h5; have a0 := (inv_F hI 0 160 rfl e_2_3); unfold In at a0; have a1 := (inv_F hI 448 28000 rfl e_30_0); unfold In at a1; have a2 := i81x5x9a; unfold In at a2; have a3 := i1x10; unfold In at a3; have a4 := i47; unfold In at a4; have oc := oc_138_1; omega
                                        have n131f : (u_2_0).toInt ≤ (u_2_0).toInt := by have a0 := (inv_F hI 0 160 rfl e_2_3); unfold In at a0; have a1 := (inv_F hI 448 28000 rfl e_30_0); unfold In at a1; have a2 := i81x5x9a; unfold In at a2; have a3 := i1x10; unfold In at a3; have a4 := i47; unfold In at a4; have oc := oc_138_1; omega
                                        have n131g : (s.2.2.1 2 0).toInt ≤ (s.2.2.1 2 0).toInt := by have b0 : u_2_0 = s.2.2.1 2 0 := e_2_0; first | (rw [← b0, ← e_2_0]; exact n131f) | (rw [← b0]; exact n131f)
                                        exact g_ireturn (gd rfl) rfl (nb01 (in_w 0 1 (in_c 0 rfl) rfl)) (hP _ _ ⟨(A 30), s, hI, fr_rf, n131g, (Int32.ofInt 0), rfl, (by rw [ax_id]), in_w 0 1 (in_c 0 rfl) rfl, n131, n131a, n131b, n131c, n131d, n131e⟩)
                                      · skip
                                        exact zn_ne c84 (in_c 0 rfl) rfl
                                    · skip
                                      exact zn_ne c81x42 (in_c 0 rfl) rfl
                                  · skip
                                    have i81x39x1 := z_ge 0 2147483647 c81x39x1 (i_rng z80) rfl
                                    refine g_iload_n 5 (gd rfl) rfl rfl ?_
                                    refine g_bipush 26 7 (gd rfl) rfl rfl ?_
                                    refine g_cmp_ge 10 14 (gd rfl) rfl rfl (fun c81x39x7 => ?_) (fun c81x39x7 => ?_)
                                    · skip
                                      have i81x39x7 := r_le2 26 2147483647 c81x39x7 (in_c 26 rfl) i81x39x1 rfl
                                      refine g_iconst 0 15 (gd rfl) rfl rfl ?_
                                      refine g_ireturn (gd rfl) rfl (nb01 (in_w 0 1 (in_c 0 rfl) rfl)) (hp81x39 _ _ ?_)
                                      show GG _ _ _ _ _ _ _ _ [.int (Int32.ofInt 0)] _ _ _
                                      refine g_if_eq 45 49 (gd rfl) rfl rfl (fun c81x42 => ?_) (fun c81x42 => ?_)
                                      · skip
                                        refine g_iconst 0 50 (gd rfl) rfl rfl ?_
                                        refine g_ireturn (gd rfl) rfl (nb01 (in_w 0 1 (in_c 0 rfl) rfl)) (hp81 _ _ ?_)
                                        show GG _ _ _ _ _ _ _ _ [.int (Int32.ofInt 0)] _ _ _
                                        refine g_if_eq 87 130 (gd rfl) rfl rfl (fun c84 => ?_) (fun c84 => ?_)
                                        · skip
                                          refine g_iconst 0 131 (gd rfl) rfl rfl ?_
                                          have n131 : KL s := by exact q_0
                                          have n131a : ((Int32.ofInt 0)).toInt ≠ 0 → (s.2.2.1 30 0).toInt = nln s := by intro h; exact absurd rfl h
                                          have n131b : ((Int32.ofInt 0)).toInt ≠ 0 → (s.2.2.1 2 0).toInt ≤ 3999 := by first | (intro h; exact absurd rfl h) | (intro _; rw [← e_2_0]; have a0 := (inv_F hI 0 160 rfl e_2_3); unfold In at a0; have a1 := (inv_F hI 448 28000 rfl e_30_0); unfold In at a1; have a2 := i81x5x9a; unfold In at a2; have a3 := i1x10; unfold In at a3; have a4 := i47; unfold In at a4; have oc := oc_138_1; omega)
                                          have n131c : ∀ k : Nat, (k : Int) < 7 * (s.2.2.1 2 0).toInt → s.1 30 k = s.1 30 k := by exact fun k _ => rfl
                                          have n131d : ((Int32.ofInt 0)).toInt ≠ 0 → dkC (gvC s) (x1).toInt (V31 s) ∧ gvC s = opC (gvC s) (x1).toInt (V31 s) ∧ TQ s := by intro h; exact absurd rfl h
                                          have n131e : ((Int32.ofInt 0)).toInt = 0 → ¬ dkC (gvC s) (x1).toInt (V31 s) := by intro _ h; have h8 : (0 ≤ (s.1 31 0).toInt ∧ (s.1 31 0).toInt < (s.2.2.1 2 1).toInt) ∧ (0 ≤ (s.1 31 1).toInt ∧ (s.1 31 1).toInt < (s.2.2.1 2 1).toInt) ∧ (-1000000 ≤ (s.1 31 2).toInt ∧ (s.1 31 2).toInt ≤ 1000000) ∧ (0 ≤ (s.1 31 3).toInt ∧ (s.1 31 3).toInt ≤ 1000000) ∧ fpl (ctg (s.1 4)) < 160 := h.2.2.1 (by have a0 := (inv_F hI 0 160 rfl e_2_3); unfold In at a0; have a1 := (inv_F hI 448 28000 rfl e_30_0); unfold In at a1; have a2 := i81x5x9a; unfold In at a2; have a3 := i1x10; unfold In at a3; have a4 := i47; unfold In at a4; have oc := oc_138_1; omega); rw [show s.1 31 0 = z56 from e56.symm, show s.1 31 1 = z62 from e62.symm, show s.1 31 2 = z68 from e68.symm, show s.1 31 3 = z74 from e74.symm] at h8; rw [← e_2_1] at h8; have h5 := q_4 (by have a0 := (inv_F hI 0 160 rfl e_2_3); unfold In at a0; have a1 := (inv_F hI 448 28000 rfl e_30_0); unfold In at a1; have a2 := i81x5x9a; unfold In at a2; have a3 := i1x10; unfold In at a3; have a4 := i47; unfold In at a4; have oc := oc_138_1; omega); rw [show s.1 31 4 = z80 from e80.symm] at h5; unfold In at h5; have a0 := (inv_F hI 0 160 rfl e_2_3); unfold In at a0; have a1 := (inv_F hI 448 28000 rfl e_30_0); unfold In at a1; have a2 := i81x5x9a; unfold In at a2; have a3 := i1x10; unfold In at a3; have a4 := i47; unfold In at a4; have oc := oc_138_1; omega
                                          have n131f : (u_2_0).toInt ≤ (u_2_0).toInt := by have a0 := (inv_F hI 0 160 rfl e_2_3); unfold In at a0; have a1 := (inv_F hI 448 28000 rfl e_30_0); unfold In at a1; have a2 := i81x5x9a; unfold In at a2; have a3 := i1x10; unfold In at a3; have a4 := i47; unfold In at a4; have oc := oc_138_1; omega
                                          have n131g : (s.2.2.1 2 0).toInt ≤ (s.2.2.1 2 0).toInt := by have b0 : u_2_0 = s.2.2.1 2 0 := e_2_0; first | (rw [← b0, ← e_2_0]; exact n131f) | (rw [← b0]; exact n131f)
                                          exact g_ireturn (gd rfl) rfl (nb01 (in_w 0 1 (in_c 0 rfl) rfl)) (hP _ _ ⟨(A 30), s, hI, fr_rf, n131g, (Int32.ofInt 0), rfl, (by rw [ax_id]), in_w 0 1 (in_c 0 rfl) rfl, n131, n131a, n131b, n131c, n131d, n131e⟩)
                                        · skip
                                          exact zn_ne c84 (in_c 0 rfl) rfl
                                      · skip
                                        exact zn_ne c81x42 (in_c 0 rfl) rfl
                                    · skip
                                      have i81x39x7 := r_lt1 0 25 c81x39x7 i81x39x1 (in_c 26 rfl) rfl
                                      refine g_iconst 1 11 (gd rfl) rfl rfl ?_
                                      refine g_goto 15 (gd rfl) rfl ?_
                                      refine g_ireturn (gd rfl) rfl (nb01 (in_w 0 1 (in_c 1 rfl) rfl)) (hp81x39 _ _ ?_)
                                      show GG _ _ _ _ _ _ _ _ [.int (Int32.ofInt 1)] _ _ _
                                      refine g_if_eq 45 49 (gd rfl) rfl rfl (fun c81x42 => ?_) (fun c81x42 => ?_)
                                      · skip
                                        exact zn_eq c81x42 (in_c 1 rfl) rfl
                                      · skip
                                        refine g_iconst 1 46 (gd rfl) rfl rfl ?_
                                        refine g_goto 50 (gd rfl) rfl ?_
                                        refine g_ireturn (gd rfl) rfl (nb01 (in_w 0 1 (in_c 1 rfl) rfl)) (hp81 _ _ ?_)
                                        show GG _ _ _ _ _ _ _ _ [.int (Int32.ofInt 1)] _ _ _
                                        refine g_if_eq 87 130 (gd rfl) rfl rfl (fun c84 => ?_) (fun c84 => ?_)
                                        · skip
                                          exact zn_eq c84 (in_c 1 rfl) rfl
                                        · skip
                                          refine g_aload_n 88 (gd rfl) rfl rfl ?_
                                          refine g_aload_n 89 (gd rfl) rfl rfl ?_
                                          refine g_getA (q2 := 31) 92 (gd rfl) rfl rfl rfl rfl ?_
                                          refine g_iconst 0 93 (gd rfl) rfl rfl ?_
                                          refine g_iaload 94 (gd rfl) rfl (n := 5) rfl (in_ix (in_c 0 rfl) rfl) (fun z93 e93 => ?_)
                                          have q93 : z56 = z93 := (e56).trans e93.symm
                                          subst q93
                                          refine g_aload_n 95 (gd rfl) rfl rfl ?_
                                          refine g_getA (q2 := 31) 98 (gd rfl) rfl rfl rfl rfl ?_
                                          refine g_iconst 1 99 (gd rfl) rfl rfl ?_
                                          refine g_iaload 100 (gd rfl) rfl (n := 5) rfl (in_ix (in_c 1 rfl) rfl) (fun z99 e99 => ?_)
                                          have q99 : z62 = z99 := (e62).trans e99.symm
                                          subst q99
                                          refine g_aload_n 101 (gd rfl) rfl rfl ?_
                                          refine g_getA (q2 := 31) 104 (gd rfl) rfl rfl rfl rfl ?_
                                          refine g_iconst 2 105 (gd rfl) rfl rfl ?_
                                          refine g_iaload 106 (gd rfl) rfl (n := 5) rfl (in_ix (in_c 2 rfl) rfl) (fun z105 e105 => ?_)
                                          have q105 : z68 = z105 := (e68).trans e105.symm
                                          subst q105
                                          refine g_aload_n 107 (gd rfl) rfl rfl ?_
                                          refine g_getA (q2 := 31) 110 (gd rfl) rfl rfl rfl rfl ?_
                                          refine g_iconst 3 111 (gd rfl) rfl rfl ?_
                                          refine g_iaload 112 (gd rfl) rfl (n := 5) rfl (in_ix (in_c 3 rfl) rfl) (fun z111 e111 => ?_)
                                          have q111 : z74 = z111 := (e74).trans e111.symm
                                          subst q111
                                          refine g_aload_n 113 (gd rfl) rfl rfl ?_
                                          refine g_getA (q2 := 31) 116 (gd rfl) rfl rfl rfl rfl ?_
                                          refine g_iconst 4 117 (gd rfl) rfl rfl ?_
                                          refine g_iaload 118 (gd rfl) rfl (n := 5) rfl (in_ix (in_c 4 rfl) rfl) (fun z117 e117 => ?_)
                                          have q117 : z80 = z117 := (e80).trans e117.symm
                                          subst q117
                                          have n118 : (z56).toInt < (u_2_1).toInt := by have a0 := (inv_F hI 0 160 rfl e_2_3); unfold In at a0; have a1 := (inv_F hI 448 28000 rfl e_30_0); unfold In at a1; have a2 := i81x5x9a; unfold In at a2; have a3 := i1x10; unfold In at a3; have a4 := i47; unfold In at a4; have a5 := i81x5x9; unfold In at a5; have oc := oc_138_1; omega
                                          have n118a : (z62).toInt < (u_2_1).toInt := by have a0 := (inv_F hI 0 160 rfl e_2_3); unfold In at a0; have a1 := (inv_F hI 448 28000 rfl e_30_0); unfold In at a1; have a2 := i81x5x9a; unfold In at a2; have a3 := i1x10; unfold In at a3; have a4 := i47; unfold In at a4; have a5 := i81x16x9; unfold In at a5; have oc := oc_138_1; omega
                                          have p118 : KL s := by exact q_0
                                          refine g_callv (X := _) (As := [.int z56, .int z62, .int z68, .int z74, .int z80]) (r := []) (b := A 1) (q := 1) 121 (gd rfl) rfl rfl rfl rfl rfl (ww_o rfl) (Nat.le_of_ble_eq_true rfl) (Nat.le_of_eq (lc_cg ((show Fr ([], [], [], []) s s from fr_rf).2.2.1 30 0 rfl) ((show Fr ([], [], [], []) s s from fr_rf).2.2.1 2 0 rfl)).1) (Nat.le_of_eq (lc_cg ((show Fr ([], [], [], []) s s from fr_rf).2.2.1 30 0 rfl) ((show Fr ([], [], [], []) s s from fr_rf).2.2.1 2 0 rfl)).2.1) (f_125_1 (by omega) hI (in_w 0 31 i81x5x9 rfl) (in_w 0 31 i81x16x9 rfl) (in_w (-1000000) 1000000 i81x23x11 rfl) (in_w 0 1000000 i81x31x8 rfl) (in_w 0 25 i81x39x7 rfl) e_2_0 e_2_1 e_30_0 (in_w 0 3999 i1x10 rfl) n118 n118a p118) (fun e u h => h) (fun v u h => ?_)
                                          obtain ⟨a118, s118, hI118, hF118, n118b, z118, rfl, rfl, i118, p118a, p118b, p118c, p118d, p118e, p118f, p118g, p118h⟩ := h
                                          obtain ⟨z118a, e118⟩ : ∃ w, w = s118.2.2.1 2 0 := ⟨_, rfl⟩
                                          have i118a := inv_F hI118 0 4000 rfl e118
                                          rw [← (show u_2_0 = s.2.2.1 2 0 from e_2_0)] at n118b
                                          rw [← (show z118a = s118.2.2.1 2 0 from e118)] at n118b
                                          show GG _ _ _ _ _ _ _ _ [.int z118] _ _ _
                                          refine g_bipush (-3) 123 (gd rfl) rfl rfl ?_
                                          refine g_cmp_eq 126 130 (gd rfl) rfl rfl (fun c123 => ?_) (fun c123 => ?_)
                                          · skip
                                            have i123 := r_eq1 (-3) (-3) c123 i118 (in_c (-3) rfl) rfl
                                            refine g_iconst 0 131 (gd rfl) rfl rfl ?_
                                            have n131 : KL s118 := by exact p118a
                                            have n131a : ((Int32.ofInt 0)).toInt ≠ 0 → (s118.2.2.1 30 0).toInt = nln s := by first | (intro h; exact absurd rfl h) | (intro _; exact p118b (by have c3 : (Int32.ofInt (-3)).toInt = -3 := (by decide); omega))
                                            have n131b : ((Int32.ofInt 0)).toInt ≠ 0 → (s.2.2.1 2 0).toInt ≤ 3999 := by first | (intro h; exact absurd rfl h) | (intro _; rw [← e_2_0]; have a0 := (inv_F hI 0 160 rfl e_2_3); unfold In at a0; have a1 := (inv_F hI 448 28000 rfl e_30_0); unfold In at a1; have a2 := i81x5x9a; unfold In at a2; have a3 := i1x10; unfold In at a3; have a4 := i47; unfold In at a4; have a5 := i118a; unfold In at a5; have oc := oc_138_1; omega)
                                            have n131c : ∀ k : Nat, (k : Int) < 7 * (s.2.2.1 2 0).toInt → s118.1 30 k = s.1 30 k := by exact p118d
                                            have n131d : ((Int32.ofInt 0)).toInt ≠ 0 → dkC (gvC s) (x1).toInt (V31 s) ∧ gvC s118 = opC (gvC s) (x1).toInt (V31 s) ∧ TQ s118 := by first | (intro h; exact absurd rfl h) | (intro _; exact ⟨dk_0 (by have a0 := (inv_F hI 0 160 rfl e_2_3); unfold In at a0; have a1 := (inv_F hI 448 28000 rfl e_30_0); unfold In at a1; have a2 := i81x5x9a; unfold In at a2; have a3 := i1x10; unfold In at a3; have a4 := i47; unfold In at a4; have a5 := i118a; unfold In at a5; have oc := oc_138_1; omega) (show (s.2.2.1 2 0).toInt ≤ 3999 from by rw [← e_2_0]; have a0 := (inv_F hI 0 160 rfl e_2_3); unfold In at a0; have a1 := (inv_F hI 448 28000 rfl e_30_0); unfold In at a1; have a2 := i81x5x9a; unfold In at a2; have a3 := i1x10; unfold In at a3; have a4 := i47; unfold In at a4; have a5 := i118a; unfold In at a5; have oc := oc_138_1; omega) (show (0 ≤ (s.1 31 0).toInt ∧ (s.1 31 0).toInt < (s.2.2.1 2 1).toInt) ∧ (0 ≤ (s.1 31 1).toInt ∧ (s.1 31 1).toInt < (s.2.2.1 2 1).toInt) ∧ (-1000000 ≤ (s.1 31 2).toInt ∧ (s.1 31 2).toInt ≤ 1000000) ∧ (0 ≤ (s.1 31 3).toInt ∧ (s.1 31 3).toInt ≤ 1000000) ∧ fpl (ctg (s.1 4)) < 160 from by rw [show s.1 31 0 = z56 from e56.symm, show s.1 31 1 = z62 from e62.symm, show s.1 31 2 = z68 from e68.symm, show s.1 31 3 = z74 from e74.symm, ← e_2_1, (p118f (by have a0 := (inv_F hI 0 160 rfl e_2_3); unfold In at a0; have a1 := (inv_F hI 448 28000 rfl e_30_0); unfold In at a1; have a2 := i81x5x9a; unfold In at a2; have a3 := i1x10; unfold In at a3; have a4 := i47; unfold In at a4; have a5 := i118a; unfold In at a5; have oc := oc_138_1; omega)).2.1]; refine ⟨⟨by have a0 := (inv_F hI 0 160 rfl e_2_3); unfold In at a0; have a1 := (inv_F hI 448 28000 rfl e_30_0); unfold In at a1; have a2 := i81x5x9a; unfold In at a2; have a3 := i1x10; unfold In at a3; have a4 := i47; unfold In at a4; have a5 := i118a; unfold In at a5; have oc := oc_138_1; omega, by have a0 := (inv_F hI 0 160 rfl e_2_3); unfold In at a0; have a1 := (inv_F hI 448 28000 rfl e_30_0); unfold In at a1; have a2 := i81x5x9a; unfold In at a2; have a3 := i1x10; unfold In at a3; have a4 := i47; unfold In at a4; have a5 := i118a; unfold In at a5; have oc := oc_138_1; omega⟩, ⟨by have a0 := (inv_F hI 0 160 rfl e_2_3); unfold In at a0; have a1 := (inv_F hI 448 28000 rfl e_30_0); unfold In at a1; have a2 := i81x5x9a; unfold In at a2; have a3 := i1x10; unfold In at a3; have a4 := i47; unfold In at a4; have a5 := i118a; unfold In at a5; have oc := oc_138_1; omega, by have a0 := (inv_F hI 0 160 rfl e_2_3); unfold In at a0; have a1 := (inv_F hI 448 28000 rfl e_30_0); unfold In at a1; have a2 := i81x5x9a; unfold In at a2; have a3 := i1x10; unfold In at a3; have a4 := i47; unfold In at a4; have a5 := i118a; unfold In at a5; have oc := oc_138_1; omega⟩, ⟨by have a0 := (inv_F hI 0 160 rfl e_2_3); unfold In at a0; have a1 := (inv_F hI 448 28000 rfl e_30_0); unfold In at a1; have a2 := i81x5x9a; unfold In at a2; have a3 := i1x10; unfold In at a3; have a4 := i47; unfold In at a4; have a5 := i118a; unfold In at a5; have oc := oc_138_1; omega, by have a0 := (inv_F hI 0 160 rfl e_2_3); unfold In at a0; have a1 := (inv_F hI 448 28000 rfl e_30_0); unfold In at a1; have a2 := i81x5x9a; unfold In at a2; have a3 := i1x10; unfold In at a3; have a4 := i47; unfold In at a4; have a5 := i118a; unfold In at a5; have oc := oc_138_1; omega⟩, ⟨by have a0 := (inv_F hI 0 160 rfl e_2_3); unfold In at a0; have a1 := (inv_F hI 448 28000 rfl e_30_0); unfold In at a1; have a2 := i81x5x9a; unfold In at a2; have a3 := i1x10; unfold In at a3; have a4 := i47; unfold In at a4; have a5 := i118a; unfold In at a5; have oc := oc_138_1; omega, by have a0 := (inv_F hI 0 160 rfl e_2_3); unfold In at a0; have a1 := (inv_F hI 448 28000 rfl e_30_0); unfold In at a1; have a2 := i81x5x9a; unfold In at a2; have a3 := i1x10; unfold In at a3; have a4 := i47; unfold In at a4; have a5 := i118a; unfold In at a5; have oc := oc_138_1; omega⟩, ?_⟩; have h18 := i118; unfold In at h18; show z118.toInt.toNat < 160; omega), by rw [(p118f (by have a0 := (inv_F hI 0 160 rfl e_2_3); unfold In at a0; have a1 := (inv_F hI 448 28000 rfl e_30_0); unfold In at a1; have a2 := i81x5x9a; unfold In at a2; have a3 := i1x10; unfold In at a3; have a4 := i47; unfold In at a4; have a5 := i118a; unfold In at a5; have oc := oc_138_1; omega)).1, opC_0 (by have a0 := (inv_F hI 0 160 rfl e_2_3); unfold In at a0; have a1 := (inv_F hI 448 28000 rfl e_30_0); unfold In at a1; have a2 := i81x5x9a; unfold In at a2; have a3 := i1x10; unfold In at a3; have a4 := i47; unfold In at a4; have a5 := i118a; unfold In at a5; have oc := oc_138_1; omega) (p118f (by have a0 := (inv_F hI 0 160 rfl e_2_3); unfold In at a0; have a1 := (inv_F hI 448 28000 rfl e_30_0); unfold In at a1; have a2 := i81x5x9a; unfold In at a2; have a3 := i1x10; unfold In at a3; have a4 := i47; unfold In at a4; have a5 := i118a; unfold In at a5; have oc := oc_138_1; omega)).2.1, show s.1 31 0 = z56 from e56.symm, show s.1 31 1 = z62 from e62.symm, show s.1 31 2 = z68 from e68.symm, show s.1 31 3 = z74 from e74.symm, show s.1 31 4 = z80 from e80.symm], p118g q_3⟩)
                                            have n131e : ((Int32.ofInt 0)).toInt = 0 → ¬ dkC (gvC s) (x1).toInt (V31 s) := by first | (intro h; exact absurd h (by decide)) | (intro _ h; have h8 : (0 ≤ (s.1 31 0).toInt ∧ (s.1 31 0).toInt < (s.2.2.1 2 1).toInt) ∧ (0 ≤ (s.1 31 1).toInt ∧ (s.1 31 1).toInt < (s.2.2.1 2 1).toInt) ∧ (-1000000 ≤ (s.1 31 2).toInt ∧ (s.1 31 2).toInt ≤ 1000000) ∧ (0 ≤ (s.1 31 3).toInt ∧ (s.1 31 3).toInt ≤ 1000000) ∧ fpl (ctg (s.1 4)) < 160 := h.2.2.1 (by have a0 := (inv_F hI 0 160 rfl e_2_3); unfold In at a0; have a1 := (inv_F hI 448 28000 rfl e_30_0); unfold In at a1; have a2 := i81x5x9a; unfold In at a2; have a3 := i1x10; unfold In at a3; have a4 := i47; unfold In at a4; have a5 := i118a; unfold In at a5; have oc := oc_138_1; omega); rw [(p118e (by have a0 := (inv_F hI 0 160 rfl e_2_3); unfold In at a0; have a1 := (inv_F hI 448 28000 rfl e_30_0); unfold In at a1; have a2 := i81x5x9a; unfold In at a2; have a3 := i1x10; unfold In at a3; have a4 := i47; unfold In at a4; have a5 := i118a; unfold In at a5; have oc := oc_138_1; omega)).2] at h8; exact absurd h8.2.2.2.2 (by decide))
                                            have n131f : (u_2_0).toInt ≤ (z118a).toInt := by have a0 := (inv_F hI 0 160 rfl e_2_3); unfold In at a0; have a1 := (inv_F hI 448 28000 rfl e_30_0); unfold In at a1; have a2 := i81x5x9a; unfold In at a2; have a3 := i1x10; unfold In at a3; have a4 := i47; unfold In at a4; have a5 := i118a; unfold In at a5; have oc := oc_138_1; omega
                                            have n131g : (s.2.2.1 2 0).toInt ≤ (s118.2.2.1 2 0).toInt := by have b0 : z118a = s118.2.2.1 2 0 := e118; first | (rw [← b0, ← e_2_0]; exact n131f) | (rw [← b0]; exact n131f)
                                            exact g_ireturn (gd rfl) rfl (nb01 (in_w 0 1 (in_c 0 rfl) rfl)) (hP _ _ ⟨a118, s118, hI118, (fr_tr rfl fr_rf hF118), n131g, (Int32.ofInt 0), rfl, rfl, in_w 0 1 (in_c 0 rfl) rfl, n131, n131a, n131b, n131c, n131d, n131e⟩)
                                          · skip
                                            have i123 := r_ne1 (-2) 159 c123 i118 (in_c (-3) rfl) rfl
                                            refine g_iconst 1 127 (gd rfl) rfl rfl ?_
                                            refine g_goto 131 (gd rfl) rfl ?_
                                            have n131 : KL s118 := by exact p118a
                                            have n131a : ((Int32.ofInt 1)).toInt ≠ 0 → (s118.2.2.1 30 0).toInt = nln s := by first | (intro h; exact absurd rfl h) | (intro _; exact p118b (by have c3 : (Int32.ofInt (-3)).toInt = -3 := (by decide); omega))
                                            have n131b : ((Int32.ofInt 1)).toInt ≠ 0 → (s.2.2.1 2 0).toInt ≤ 3999 := by first | (intro h; exact absurd rfl h) | (intro _; rw [← e_2_0]; have a0 := (inv_F hI 0 160 rfl e_2_3); unfold In at a0; have a1 := (inv_F hI 448 28000 rfl e_30_0); unfold In at a1; have a2 := i81x5x9a; unfold In at a2; have a3 := i1x10; unfold In at a3; have a4 := i47; unfold In at a4; have a5 := i118a; unfold In at a5; have oc := oc_138_1; omega)
                                            have n131c : ∀ k : Nat, (k : Int) < 7 * (s.2.2.1 2 0).toInt → s118.1 30 k = s.1 30 k := by exact p118d
                                            have n131d : ((Int32.ofInt 1)).toInt ≠ 0 → dkC (gvC s) (x1).toInt (V31 s) ∧ gvC s118 = opC (gvC s) (x1).toInt (V31 s) ∧ TQ s118 := by first | (intro h; exact absurd rfl h) | (intro _; exact ⟨dk_0 (by have a0 := (inv_F hI 0 160 rfl e_2_3); unfold In at a0; have a1 := (inv_F hI 448 28000 rfl e_30_0); unfold In at a1; have a2 := i81x5x9a; unfold In at a2; have a3 := i1x10; unfold In at a3; have a4 := i47; unfold In at a4; have a5 := i118a; unfold In at a5; have oc := oc_138_1; omega) (show (s.2.2.1 2 0).toInt ≤ 3999 from by rw [← e_2_0]; have a0 := (inv_F hI 0 160 rfl e_2_3); unfold In at a0; have a1 := (inv_F hI 448 28000 rfl e_30_0); unfold In at a1; have a2 := i81x5x9a; unfold In at a2; have a3 := i1x10; unfold In at a3; have a4 := i47; unfold In at a4; have a5 := i118a; unfold In at a5; have oc := oc_138_1; omega) (show (0 ≤ (s.1 31 0).toInt ∧ (s.1 31 0).toInt < (s.2.2.1 2 1).toInt) ∧ (0 ≤ (s.1 31 1).toInt ∧ (s.1 31 1).toInt < (s.2.2.1 2 1).toInt) ∧ (-1000000 ≤ (s.1 31 2).toInt ∧ (s.1 31 2).toInt ≤ 1000000) ∧ (0 ≤ (s.1 31 3).toInt ∧ (s.1 31 3).toInt ≤ 1000000) ∧ fpl (ctg (s.1 4)) < 160 from by rw [show s.1 31 0 = z56 from e56.symm, show s.1 31 1 = z62 from e62.symm, show s.1 31 2 = z68 from e68.symm, show s.1 31 3 = z74 from e74.symm, ← e_2_1, (p118f (by have a0 := (inv_F hI 0 160 rfl e_2_3); unfold In at a0; have a1 := (inv_F hI 448 28000 rfl e_30_0); unfold In at a1; have a2 := i81x5x9a; unfold In at a2; have a3 := i1x10; unfold In at a3; have a4 := i47; unfold In at a4; have a5 := i118a; unfold In at a5; have oc := oc_138_1; omega)).2.1]; refine ⟨⟨by have a0 := (inv_F hI 0 160 rfl e_2_3); unfold In at a0; have a1 := (inv_F hI 448 28000 rfl e_30_0); unfold In at a1; have a2 := i81x5x9a; unfold In at a2; have a3 := i1x10; unfold In at a3; have a4 := i47; unfold In at a4; have a5 := i118a; unfold In at a5; have oc := oc_138_1; omega, by have a0 := (inv_F hI 0 160 rfl e_2_3); unfold In at a0; have a1 := (inv_F hI 448 28000 rfl e_30_0); unfold In at a1; have a2 := i81x5x9a; unfold In at a2; have a3 := i1x10; unfold In at a3; have a4 := i47; unfold In at a4; have a5 := i118a; unfold In at a5; have oc := oc_138_1; omega⟩, ⟨by have a0 := (inv_F hI 0 160 rfl e_2_3); unfold In at a0; have a1 := (inv_F hI 448 28000 rfl e_30_0); unfold In at a1; have a2 := i81x5x9a; unfold In at a2; have a3 := i1x10; unfold In at a3; have a4 := i47; unfold In at a4; have a5 := i118a; unfold In at a5; have oc := oc_138_1; omega, by have a0 := (inv_F hI 0 160 rfl e_2_3); unfold In at a0; have a1 := (inv_F hI 448 28000 rfl e_30_0); unfold In at a1; have a2 := i81x5x9a; unfold In at a2; have a3 := i1x10; unfold In at a3; have a4 := i47; unfold In at a4; have a5 := i118a; unfold In at a5; have oc := oc_138_1; omega⟩, ⟨by have a0 := (inv_F hI 0 160 rfl e_2_3); unfold In at a0; have a1 := (inv_F hI 448 28000 rfl e_30_0); unfold In at a1; have a2 := i81x5x9a; unfold In at a2; have a3 := i1x10; unfold In at a3; have a4 := i47; unfold In at a4; have a5 := i118a; unfold In at a5; have oc := oc_138_1; omega, by have a0 := (inv_F hI 0 160 rfl e_2_3); unfold In at a0; have a1 := (inv_F hI 448 28000 rfl e_30_0); unfold In at a1; have a2 := i81x5x9a; unfold In at a2; have a3 := i1x10; unfold In at a3; have a4 := i47; unfold In at a4; have a5 := i118a; unfold In at a5; have oc := oc_138_1; omega⟩, ⟨by have a0 := (inv_F hI 0 160 rfl e_2_3); unfold In at a0; have a1 := (inv_F hI 448 28000 rfl e_30_0); unfold In at a1; have a2 := i81x5x9a; unfold In at a2; have a3 := i1x10; unfold In at a3; have a4 := i47; unfold In at a4; have a5 := i118a; unfold In at a5; have oc := oc_138_1; omega, by have a0 := (inv_F hI 0 160 rfl e_2_3); unfold In at a0; have a1 := (inv_F hI 448 28000 rfl e_30_0); unfold In at a1; have a2 := i81x5x9a; unfold In at a2; have a3 := i1x10; unfold In at a3; have a4 := i47; unfold In at a4; have a5 := i118a; unfold In at a5; have oc := oc_138_1; omega⟩, ?_⟩; have h18 := i118; unfold In at h18; show z118.toInt.toNat < 160; omega), by rw [(p118f (by have a0 := (inv_F hI 0 160 rfl e_2_3); unfold In at a0; have a1 := (inv_F hI 448 28000 rfl e_30_0); unfold In at a1; have a2 := i81x5x9a; unfold In at a2; have a3 := i1x10; unfold In at a3; have a4 := i47; unfold In at a4; have a5 := i118a; unfold In at a5; have oc := oc_138_1; omega)).1, opC_0 (by have a0 := (inv_F hI 0 160 rfl e_2_3); unfold In at a0; have a1 := (inv_F hI 448 28000 rfl e_30_0); unfold In at a1; have a2 := i81x5x9a; unfold In at a2; have a3 := i1x10; unfold In at a3; have a4 := i47; unfold In at a4; have a5 := i118a; unfold In at a5; have oc := oc_138_1; omega) (p118f (by have a0 := (inv_F hI 0 160 rfl e_2_3); unfold In at a0; have a1 := (inv_F hI 448 28000 rfl e_30_0); unfold In at a1; have a2 := i81x5x9a; unfold In at a2; have a3 := i1x10; unfold In at a3; have a4 := i47; unfold In at a4; have a5 := i118a; unfold In at a5; have oc := oc_138_1; omega)).2.1, show s.1 31 0 = z56 from e56.symm, show s.1 31 1 = z62 from e62.symm, show s.1 31 2 = z68 from e68.symm, show s.1 31 3 = z74 from e74.symm, show s.1 31 4 = z80 from e80.symm], p118g q_3⟩)
                                            have n131e : ((Int32.ofInt 1)).toInt = 0 → ¬ dkC (gvC s) (x1).toInt (V31 s) := by first | (intro h; exact absurd h (by decide)) | (intro _ h; have h8 : (0 ≤ (s.1 31 0).toInt ∧ (s.1 31 0).toInt < (s.2.2.1 2 1).toInt) ∧ (0 ≤ (s.1 31 1).toInt ∧ (s.1 31 1).toInt < (s.2.2.1 2 1).toInt) ∧ (-1000000 ≤ (s.1 31 2).toInt ∧ (s.1 31 2).toInt ≤ 1000000) ∧ (0 ≤ (s.1 31 3).toInt ∧ (s.1 31 3).toInt ≤ 1000000) ∧ fpl (ctg (s.1 4)) < 160 := h.2.2.1 (by have a0 := (inv_F hI 0 160 rfl e_2_3); unfold In at a0; have a1 := (inv_F hI 448 28000 rfl e_30_0); unfold In at a1; have a2 := i81x5x9a; unfold In at a2; have a3 := i1x10; unfold In at a3; have a4 := i47; unfold In at a4; have a5 := i118a; unfold In at a5; have oc := oc_138_1; omega); rw [(p118e (by have a0 := (inv_F hI 0 160 rfl e_2_3); unfold In at a0; have a1 := (inv_F hI 448 28000 rfl e_30_0); unfold In at a1; have a2 := i81x5x9a; unfold In at a2; have a3 := i1x10; unfold In at a3; have a4 := i47; unfold In at a4; have a5 := i118a; unfold In at a5; have oc := oc_138_1; omega)).2] at h8; exact absurd h8.2.2.2.2 (by decide))
                                            have n131f : (u_2_0).toInt ≤ (z118a).toInt := by have a0 := (inv_F hI 0 160 rfl e_2_3); unfold In at a0; have a1 := (inv_F hI 448 28000 rfl e_30_0); unfold In at a1; have a2 := i81x5x9a; unfold In at a2; have a3 := i1x10; unfold In at a3; have a4 := i47; unfold In at a4; have a5 := i118a; unfold In at a5; have oc := oc_138_1; omega
                                            have n131g : (s.2.2.1 2 0).toInt ≤ (s118.2.2.1 2 0).toInt := by have b0 : z118a = s118.2.2.1 2 0 := e118; first | (rw [← b0, ← e_2_0]; exact n131f) | (rw [← b0]; exact n131f)
                                            exact g_ireturn (gd rfl) rfl (nb01 (in_w 0 1 (in_c 1 rfl) rfl)) (hP _ _ ⟨a118, s118, hI118, (fr_tr rfl fr_rf hF118), n131g, (Int32.ofInt 1), rfl, rfl, in_w 0 1 (in_c 1 rfl) rfl, n131, n131a, n131b, n131c, n131d, n131e⟩)
      · skip
        have i12 := r_eq1 13 13 c12 h1 (in_c 13 rfl) rfl
        refine g_aload_n 16 (gd rfl) rfl rfl ?_
        refine g_getA (q2 := 2) 19 (gd rfl) rfl rfl rfl rfl ?_
        refine g_getI 22 (gd rfl) rfl rfl rfl (fun z19 e19 => ?_)
        have q19 : u_2_1 = z19 := (e_2_1).trans e19.symm
        subst q19
        refine g_bipush 32 24 (gd rfl) rfl rfl ?_
        refine g_cmp_ge 27 44 (gd rfl) rfl rfl (fun c24 => ?_) (fun c24 => ?_)
        · skip
          have i24 := r_le2 32 32 c24 (in_c 32 rfl) (inv_F hI 0 32 rfl e_2_1) rfl
          refine g_iconst 0 45 (gd rfl) rfl rfl ?_
          have n45 : KL s := by exact q_0
          have n45a : ((Int32.ofInt 0)).toInt ≠ 0 → (s.2.2.1 30 0).toInt = nln s := by intro h; exact absurd rfl h
          have n45b : ((Int32.ofInt 0)).toInt ≠ 0 → (s.2.2.1 2 0).toInt ≤ 3999 := by first | (intro h; exact absurd rfl h) | (intro _; rw [← e_2_0]; have a0 := (inv_F hI 0 160 rfl e_2_3); unfold In at a0; have a1 := (inv_F hI 448 28000 rfl e_30_0); unfold In at a1; have a2 := i24; unfold In at a2; have a3 := i1x10; unfold In at a3; have a4 := i12; unfold In at a4; have oc := oc_138_1; omega)
          have n45c : ∀ k : Nat, (k : Int) < 7 * (s.2.2.1 2 0).toInt → s.1 30 k = s.1 30 k := by exact fun k _ => rfl
          have n45d : ((Int32.ofInt 0)).toInt ≠ 0 → dkC (gvC s) (x1).toInt (V31 s) ∧ gvC s = opC (gvC s) (x1).toInt (V31 s) ∧ TQ s := by intro h; exact absurd rfl h
          have n45e : ((Int32.ofInt 0)).toInt = 0 → ¬ dkC (gvC s) (x1).toInt (V31 s) := by intro _ h; first | (have h9 : (s.2.2.1 2 0).toInt ≤ 3999 := h.1; rw [← e_2_0] at h9; have a0 := (inv_F hI 0 160 rfl e_2_3); unfold In at a0; have a1 := (inv_F hI 448 28000 rfl e_30_0); unfold In at a1; have a2 := i24; unfold In at a2; have a3 := i1x10; unfold In at a3; have a4 := i12; unfold In at a4; have oc := oc_138_1; omega) | (have h9 : (s.2.2.1 2 1).toInt ≤ 31 := h.2.1 (by have a0 := (inv_F hI 0 160 rfl e_2_3); unfold In at a0; have a1 := (inv_F hI 448 28000 rfl e_30_0); unfold In at a1; have a2 := i24; unfold In at a2; have a3 := i1x10; unfold In at a3; have a4 := i12; unfold In at a4; have oc := oc_138_1; omega); rw [← e_2_1] at h9; have a0 := (inv_F hI 0 160 rfl e_2_3); unfold In at a0; have a1 := (inv_F hI 448 28000 rfl e_30_0); unfold In at a1; have a2 := i24; unfold In at a2; have a3 := i1x10; unfold In at a3; have a4 := i12; unfold In at a4; have oc := oc_138_1; omega)
          have n45f : (u_2_0).toInt ≤ (u_2_0).toInt := by have a0 := (inv_F hI 0 160 rfl e_2_3); unfold In at a0; have a1 := (inv_F hI 448 28000 rfl e_30_0); unfold In at a1; have a2 := i24; unfold In at a2; have a3 := i1x10; unfold In at a3; have a4 := i12; unfold In at a4; have oc := oc_138_1; omega
          have n45g : (s.2.2.1 2 0).toInt ≤ (s.2.2.1 2 0).toInt := by have b0 : u_2_0 = s.2.2.1 2 0 := e_2_0; first | (rw [← b0, ← e_2_0]; exact n45f) | (rw [← b0]; exact n45f)
          exact g_ireturn (gd rfl) rfl (nb01 (in_w 0 1 (in_c 0 rfl) rfl)) (hP _ _ ⟨(A 30), s, hI, fr_rf, n45g, (Int32.ofInt 0), rfl, (by rw [ax_id]), in_w 0 1 (in_c 0 rfl) rfl, n45, n45a, n45b, n45c, n45d, n45e⟩)
        · skip
          have i24 := r_lt1 0 31 c24 (inv_F hI 0 32 rfl e_2_1) (in_c 32 rfl) rfl
          refine g_aload_n 28 (gd rfl) rfl rfl ?_
          refine g_aload_n 29 (gd rfl) rfl rfl ?_
          refine g_getA (q2 := 31) 32 (gd rfl) rfl rfl rfl rfl ?_
          refine g_iconst 0 33 (gd rfl) rfl rfl ?_
          refine g_iaload 34 (gd rfl) rfl (n := 5) rfl (in_ix (in_c 0 rfl) rfl) (fun z33 e33 => ?_)
          have i34 : In z33 0 25 := by rw [e33]; exact q_1 (c12.trans (by decide))
          have p34 : KL s := by exact q_0
          refine g_callv (X := _) (As := [.int z33]) (r := []) (b := A 1) (q := 1) 37 (gd rfl) rfl rfl rfl rfl rfl (ww_o rfl) (Nat.le_of_ble_eq_true rfl) (Nat.le_of_eq (lc_cg ((show Fr ([], [], [], []) s s from fr_rf).2.2.1 30 0 rfl) ((show Fr ([], [], [], []) s s from fr_rf).2.2.1 2 0 rfl)).1) (Nat.le_of_eq (lc_cg ((show Fr ([], [], [], []) s s from fr_rf).2.2.1 30 0 rfl) ((show Fr ([], [], [], []) s s from fr_rf).2.2.1 2 0 rfl)).2.1) (f_124_1 (by omega) hI (in_w 0 25 i34 rfl) e_2_0 e_2_1 e_30_0 (in_w 0 3999 i1x10 rfl) (in_w 0 31 i24 rfl) p34) (fun e u h => h) (fun v u h => ?_)
          obtain ⟨a34, s34, hI34, hF34, n34, z34, rfl, rfl, i34a, p34a, p34b, p34c, p34d, p34e, p34f, p34g⟩ := h
          obtain ⟨z34a, e34⟩ : ∃ w, w = s34.2.2.1 2 0 := ⟨_, rfl⟩
          have i34b := inv_F hI34 0 4000 rfl e34
          rw [← (show u_2_0 = s.2.2.1 2 0 from e_2_0)] at n34
          rw [← (show z34a = s34.2.2.1 2 0 from e34)] at n34
          show GG _ _ _ _ _ _ _ _ [.int z34] _ _ _
          refine g_if_lt 40 44 (gd rfl) rfl rfl (fun c37 => ?_) (fun c37 => ?_)
          · skip
            have i37 := z_lt (-1) (-1) c37 i34a rfl
            refine g_iconst 0 45 (gd rfl) rfl rfl ?_
            have n45 : KL s34 := by exact p34a
            have n45a : ((Int32.ofInt 0)).toInt ≠ 0 → (s34.2.2.1 30 0).toInt = nln s := by intro _; exact p34b
            have n45b : ((Int32.ofInt 0)).toInt ≠ 0 → (s.2.2.1 2 0).toInt ≤ 3999 := by first | (intro h; exact absurd rfl h) | (intro _; rw [← e_2_0]; have a0 := (inv_F hI 0 160 rfl e_2_3); unfold In at a0; have a1 := (inv_F hI 448 28000 rfl e_30_0); unfold In at a1; have a2 := i24; unfold In at a2; have a3 := i1x10; unfold In at a3; have a4 := i12; unfold In at a4; have a5 := i34b; unfold In at a5; have oc := oc_138_1; omega)
            have n45c : ∀ k : Nat, (k : Int) < 7 * (s.2.2.1 2 0).toInt → s34.1 30 k = s.1 30 k := by exact p34d
            have n45d : ((Int32.ofInt 0)).toInt ≠ 0 → dkC (gvC s) (x1).toInt (V31 s) ∧ gvC s34 = opC (gvC s) (x1).toInt (V31 s) ∧ TQ s34 := by first | (intro h; exact absurd rfl h) | (intro _; exact ⟨dk_13 (by have a0 := (inv_F hI 0 160 rfl e_2_3); unfold In at a0; have a1 := (inv_F hI 448 28000 rfl e_30_0); unfold In at a1; have a2 := i24; unfold In at a2; have a3 := i1x10; unfold In at a3; have a4 := i12; unfold In at a4; have a5 := i34b; unfold In at a5; have oc := oc_138_1; omega) (show (s.2.2.1 2 0).toInt ≤ 3999 from by rw [← e_2_0]; have a0 := (inv_F hI 0 160 rfl e_2_3); unfold In at a0; have a1 := (inv_F hI 448 28000 rfl e_30_0); unfold In at a1; have a2 := i24; unfold In at a2; have a3 := i1x10; unfold In at a3; have a4 := i12; unfold In at a4; have a5 := i34b; unfold In at a5; have oc := oc_138_1; omega) (show (s.2.2.1 2 1).toInt ≤ 31 from by rw [← e_2_1]; have a0 := (inv_F hI 0 160 rfl e_2_3); unfold In at a0; have a1 := (inv_F hI 448 28000 rfl e_30_0); unfold In at a1; have a2 := i24; unfold In at a2; have a3 := i1x10; unfold In at a3; have a4 := i12; unfold In at a4; have a5 := i34b; unfold In at a5; have oc := oc_138_1; omega), by rw [p34e, opC_13 (by have a0 := (inv_F hI 0 160 rfl e_2_3); unfold In at a0; have a1 := (inv_F hI 448 28000 rfl e_30_0); unfold In at a1; have a2 := i24; unfold In at a2; have a3 := i1x10; unfold In at a3; have a4 := i12; unfold In at a4; have a5 := i34b; unfold In at a5; have oc := oc_138_1; omega), show s.1 31 0 = z33 from e33.symm], p34f q_3⟩)
            have n45e : ((Int32.ofInt 0)).toInt = 0 → ¬ dkC (gvC s) (x1).toInt (V31 s) := by first | (intro h; exact absurd h (by decide)) | (intro _ h; have hn : (s34.2.2.1 2 1).toInt = (s.2.2.1 2 1).toInt + 1 := congrArg (fun g : GVW => g.2.2.2.2.2.2.1) p34e; rw [← e_2_1] at hn; have a0 := (inv_F hI 0 160 rfl e_2_3); unfold In at a0; have a1 := (inv_F hI 448 28000 rfl e_30_0); unfold In at a1; have a2 := i24; unfold In at a2; have a3 := i1x10; unfold In at a3; have a4 := i12; unfold In at a4; have a5 := i34b; unfold In at a5; have oc := oc_138_1; omega)
            have n45f : (u_2_0).toInt ≤ (z34a).toInt := by have a0 := (inv_F hI 0 160 rfl e_2_3); unfold In at a0; have a1 := (inv_F hI 448 28000 rfl e_30_0); unfold In at a1; have a2 := i24; unfold In at a2; have a3 := i1x10; unfold In at a3; have a4 := i12; unfold In at a4; have a5 := i34b; unfold In at a5; have oc := oc_138_1; omega
            have n45g : (s.2.2.1 2 0).toInt ≤ (s34.2.2.1 2 0).toInt := by have b0 : z34a = s34.2.2.1 2 0 := e34; first | (rw [← b0, ← e_2_0]; exact n45f) | (rw [← b0]; exact n45f)
            exact g_ireturn (gd rfl) rfl (nb01 (in_w 0 1 (in_c 0 rfl) rfl)) (hP _ _ ⟨a34, s34, hI34, (fr_tr rfl fr_rf hF34), n45g, (Int32.ofInt 0), rfl, rfl, in_w 0 1 (in_c 0 rfl) rfl, n45, n45a, n45b, n45c, n45d, n45e⟩)
          · skip
            have i37 := z_ge 0 31 c37 i34a rfl
            refine g_iconst 1 41 (gd rfl) rfl rfl ?_
            refine g_goto 45 (gd rfl) rfl ?_
            have n45 : KL s34 := by exact p34a
            have n45a : ((Int32.ofInt 1)).toInt ≠ 0 → (s34.2.2.1 30 0).toInt = nln s := by intro _; exact p34b
            have n45b : ((Int32.ofInt 1)).toInt ≠ 0 → (s.2.2.1 2 0).toInt ≤ 3999 := by first | (intro h; exact absurd rfl h) | (intro _; rw [← e_2_0]; have a0 := (inv_F hI 0 160 rfl e_2_3); unfold In at a0; have a1 := (inv_F hI 448 28000 rfl e_30_0); unfold In at a1; have a2 := i24; unfold In at a2; have a3 := i1x10; unfold In at a3; have a4 := i12; unfold In at a4; have a5 := i34b; unfold In at a5; have oc := oc_138_1; omega)
            have n45c : ∀ k : Nat, (k : Int) < 7 * (s.2.2.1 2 0).toInt → s34.1 30 k = s.1 30 k := by exact p34d
            have n45d : ((Int32.ofInt 1)).toInt ≠ 0 → dkC (gvC s) (x1).toInt (V31 s) ∧ gvC s34 = opC (gvC s) (x1).toInt (V31 s) ∧ TQ s34 := by first | (intro h; exact absurd rfl h) | (intro _; exact ⟨dk_13 (by have a0 := (inv_F hI 0 160 rfl e_2_3); unfold In at a0; have a1 := (inv_F hI 448 28000 rfl e_30_0); unfold In at a1; have a2 := i24; unfold In at a2; have a3 := i1x10; unfold In at a3; have a4 := i12; unfold In at a4; have a5 := i34b; unfold In at a5; have oc := oc_138_1; omega) (show (s.2.2.1 2 0).toInt ≤ 3999 from by rw [← e_2_0]; have a0 := (inv_F hI 0 160 rfl e_2_3); unfold In at a0; have a1 := (inv_F hI 448 28000 rfl e_30_0); unfold In at a1; have a2 := i24; unfold In at a2; have a3 := i1x10; unfold In at a3; have a4 := i12; unfold In at a4; have a5 := i34b; unfold In at a5; have oc := oc_138_1; omega) (show (s.2.2.1 2 1).toInt ≤ 31 from by rw [← e_2_1]; have a0 := (inv_F hI 0 160 rfl e_2_3); unfold In at a0; have a1 := (inv_F hI 448 28000 rfl e_30_0); unfold In at a1; have a2 := i24; unfold In at a2; have a3 := i1x10; unfold In at a3; have a4 := i12; unfold In at a4; have a5 := i34b; unfold In at a5; have oc := oc_138_1; omega), by rw [p34e, opC_13 (by have a0 := (inv_F hI 0 160 rfl e_2_3); unfold In at a0; have a1 := (inv_F hI 448 28000 rfl e_30_0); unfold In at a1; have a2 := i24; unfold In at a2; have a3 := i1x10; unfold In at a3; have a4 := i12; unfold In at a4; have a5 := i34b; unfold In at a5; have oc := oc_138_1; omega), show s.1 31 0 = z33 from e33.symm], p34f q_3⟩)
            have n45e : ((Int32.ofInt 1)).toInt = 0 → ¬ dkC (gvC s) (x1).toInt (V31 s) := by first | (intro h; exact absurd h (by decide)) | (intro _ h; have hn : (s34.2.2.1 2 1).toInt = (s.2.2.1 2 1).toInt + 1 := congrArg (fun g : GVW => g.2.2.2.2.2.2.1) p34e; rw [← e_2_1] at hn; have a0 := (inv_F hI 0 160 rfl e_2_3); unfold In at a0; have a1 := (inv_F hI 448 28000 rfl e_30_0); unfold In at a1; have a2 := i24; unfold In at a2; have a3 := i1x10; unfold In at a3; have a4 := i12; unfold In at a4; have a5 := i34b; unfold In at a5; have oc := oc_138_1; omega)
            have n45f : (u_2_0).toInt ≤ (z34a).toInt := by have a0 := (inv_F hI 0 160 rfl e_2_3); unfold In at a0; have a1 := (inv_F hI 448 28000 rfl e_30_0); unfold In at a1; have a2 := i24; unfold In at a2; have a3 := i1x10; unfold In at a3; have a4 := i12; unfold In at a4; have a5 := i34b; unfold In at a5; have oc := oc_138_1; omega
            have n45g : (s.2.2.1 2 0).toInt ≤ (s34.2.2.1 2 0).toInt := by have b0 : z34a = s34.2.2.1 2 0 := e34; first | (rw [← b0, ← e_2_0]; exact n45f) | (rw [← b0]; exact n45f)
            exact g_ireturn (gd rfl) rfl (nb01 (in_w 0 1 (in_c 1 rfl) rfl)) (hP _ _ ⟨a34, s34, hI34, (fr_tr rfl fr_rf hF34), n45g, (Int32.ofInt 1), rfl, rfl, in_w 0 1 (in_c 1 rfl) rfl, n45, n45a, n45b, n45c, n45d, n45e⟩)
    · skip
      exact zn_ne c4 (in_c 0 rfl) rfl
  · skip
    have i1x10 := r_le2 4000 4000 c1x10 (in_c 4000 rfl) (inv_F hI 0 4000 rfl e_2_0) rfl
    refine g_iconst 1 14 (gd rfl) rfl rfl ?_
    refine g_goto 18 (gd rfl) rfl ?_
    refine g_ireturn (gd rfl) rfl (nb01 (in_w 0 1 (in_c 1 rfl) rfl)) (hp1 _ _ ?_)
    show GG _ _ _ _ _ _ _ _ [.int (Int32.ofInt 1)] _ _ _
    refine g_if_eq 7 9 (gd rfl) rfl rfl (fun c4 => ?_) (fun c4 => ?_)
    · skip
      exact zn_eq c4 (in_c 1 rfl) rfl
    · skip
      refine g_iconst 0 8 (gd rfl) rfl rfl ?_
      have n8 : KL s := by exact q_0
      have n8a : ((Int32.ofInt 0)).toInt ≠ 0 → (s.2.2.1 30 0).toInt = nln s := by intro h; exact absurd rfl h
      have n8b : ((Int32.ofInt 0)).toInt ≠ 0 → (s.2.2.1 2 0).toInt ≤ 3999 := by first | (intro h; exact absurd rfl h) | (intro _; rw [← e_2_0]; have a0 := (inv_F hI 0 160 rfl e_2_3); unfold In at a0; have a1 := (inv_F hI 448 28000 rfl e_30_0); unfold In at a1; have a2 := (inv_F hI 0 32 rfl e_2_1); unfold In at a2; have a3 := i1x10; unfold In at a3; have a4 := h1; unfold In at a4; have oc := oc_138_1; omega)
      have n8c : ∀ k : Nat, (k : Int) < 7 * (s.2.2.1 2 0).toInt → s.1 30 k = s.1 30 k := by exact fun k _ => rfl
      have n8d : ((Int32.ofInt 0)).toInt ≠ 0 → dkC (gvC s) (x1).toInt (V31 s) ∧ gvC s = opC (gvC s) (x1).toInt (V31 s) ∧ TQ s := by intro h; exact absurd rfl h
      have n8e : ((Int32.ofInt 0)).toInt = 0 → ¬ dkC (gvC s) (x1).toInt (V31 s) := by intro _ h; first | (have h9 : (s.2.2.1 2 0).toInt ≤ 3999 := h.1; rw [← e_2_0] at h9; have a0 := (inv_F hI 0 160 rfl e_2_3); unfold In at a0; have a1 := (inv_F hI 448 28000 rfl e_30_0); unfold In at a1; have a2 := (inv_F hI 0 32 rfl e_2_1); unfold In at a2; have a3 := i1x10; unfold In at a3; have a4 := h1; unfold In at a4; have oc := oc_138_1; omega) | (have h9 : (s.2.2.1 2 1).toInt ≤ 31 := h.2.1 (by have a0 := (inv_F hI 0 160 rfl e_2_3); unfold In at a0; have a1 := (inv_F hI 448 28000 rfl e_30_0); unfold In at a1; have a2 := (inv_F hI 0 32 rfl e_2_1); unfold In at a2; have a3 := i1x10; unfold In at a3; have a4 := h1; unfold In at a4; have oc := oc_138_1; omega); rw [← e_2_1] at h9; have a0 := (inv_F hI 0 160 rfl e_2_3); unfold In at a0; have a1 := (inv_F hI 448 28000 rfl e_30_0); unfold In at a1; have a2 := (inv_F hI 0 32 rfl e_2_1); unfold In at a2; have a3 := i1x10; unfold In at a3; have a4 := h1; unfold In at a4; have oc := oc_138_1; omega)
      have n8f : (u_2_0).toInt ≤ (u_2_0).toInt := by have a0 := (inv_F hI 0 160 rfl e_2_3); unfold In at a0; have a1 := (inv_F hI 448 28000 rfl e_30_0); unfold In at a1; have a2 := (inv_F hI 0 32 rfl e_2_1); unfold In at a2; have a3 := i1x10; unfold In at a3; have a4 := h1; unfold In at a4; have oc := oc_138_1; omega
      have n8g : (s.2.2.1 2 0).toInt ≤ (s.2.2.1 2 0).toInt := by have b0 : u_2_0 = s.2.2.1 2 0 := e_2_0; first | (rw [← b0, ← e_2_0]; exact n8f) | (rw [← b0]; exact n8f)
      exact g_ireturn (gd rfl) rfl (nb01 (in_w 0 1 (in_c 0 rfl) rfl)) (hP _ _ ⟨(A 30), s, hI, fr_rf, n8g, (Int32.ofInt 0), rfl, (by rw [ax_id]), in_w 0 1 (in_c 0 rfl) rfl, n8, n8a, n8b, n8c, n8d, n8e⟩)
