/-! methods, by vc.py -/
def fm_62_102_46 : FM := ([104], [], [(46, 2), (46, 3), (46, 4), (46, 5), (46, 6), (46, 7), (102, 4)], [])
/-- GraphHouse$Engine.readAtom -/
theorem k_62_102_46 {Z : AmZ} {A : Nat → Nat} {s : GS} {ex : va_W} {d : Nat} {X : AmX} {u_46_2 : Int32} {u_46_1 : Int32} {u_46_4 : Int32} {u_46_3 : Int32} {u_46_5 : Int32} {u_102_4 : Int32} (hd : 8 ≤ d) (hI : Inv s) (e_46_2 : u_46_2 = s.2.2.1 46 2) (e_46_1 : u_46_1 = s.2.2.1 46 1) (e_46_4 : u_46_4 = s.2.2.1 46 4) (e_46_3 : u_46_3 = s.2.2.1 46 3) (e_46_5 : u_46_5 = s.2.2.1 46 5) (e_102_4 : u_102_4 = s.2.2.1 102 4) (r_46_1 : In u_46_1 0 120) (p_0 : (u_46_2).toInt ≤ (u_46_1).toInt) (p_1 : (u_46_4).toInt ≤ (u_46_2).toInt) (p_2 : (u_102_4).toInt ≤ (u_46_4).toInt) (p_3 : 1 ≤ (u_46_3).toInt) (p_4 : (u_46_3).toInt ≤ 2) (q_0 : TK s) : GC Z d 62 [.ref (A 102), .ref (A 46)] (WW Z A s ++ ex) 0 0 (fun v u => ∃ t : GS, Inv t ∧ Fr fm_62_102_46 s t ∧ ((t.2.2.1 46 2).toInt ≤ (t.2.2.1 46 1).toInt) ∧ ((t.2.2.1 46 4).toInt ≤ (t.2.2.1 46 2).toInt) ∧ ((t.2.2.1 102 4).toInt ≤ (t.2.2.1 46 4).toInt) ∧ ((s.2.2.1 46 4).toInt - (s.2.2.1 102 4).toInt ≤ (t.2.2.1 46 4).toInt - (t.2.2.1 102 4).toInt) ∧ ∃ z : Int32, v = some (.int z) ∧ u = WW Z A t ++ ex ∧ In z 0 1 ∧ (TK t) ∧ ((z).toInt ≠ 0 → PCV s t 1)) X := by
  intro post xp hP hX
  refine g_enter2 (k := 62) (N := 900) (by omega) rfl (Nat.le_of_ble_eq_true rfl) (g_aload_n 1 (gd rfl) rfl rfl (g_getIv (y := u_46_5) 4 (gd rfl) rfl rfl rfl (e_46_5) (g_istore_n 5 (gd rfl) rfl (Nat.le_of_ble_eq_true rfl) ?_)))
  have hk := tka_1 q_0 (show u_46_3 = s.2.2.1 46 3 from e_46_3) (show u_46_4 = s.2.2.1 46 4 from e_46_4) (show u_46_2 = s.2.2.1 46 2 from e_46_2) (by exact (have a0 := in_u ((inv_F hI 0 120 rfl e_102_4)); have a1 := in_u ((inv_F hI 0 5 rfl e_46_3)); have a2 := in_u ((inv_F hI 0 1000 rfl e_46_4)); have a3 := in_u r_46_1; have a4 := in_u ((inv_F hI 0 1000 rfl e_46_2)); by omega))
  refine g_aload_n 6 (gd rfl) rfl rfl (g_getIv (y := u_46_3) 9 (gd rfl) rfl rfl rfl (e_46_3) (g_iconst 1 10 (gd rfl) rfl rfl (g_cmp_ne 13 46 (gd rfl) rfl rfl (fun c10 => ?_) (fun c10 => ?_))))
  · skip
    refine g_aload_n 47 (gd rfl) rfl rfl (g_iload_n 48 (gd rfl) rfl rfl ?_)
    have hDe : _ = s.2.2.1 102 4 := (show u_102_4 = s.2.2.1 102 4 from e_102_4)
    have n48 : (u_102_4).toInt ≤ 119 := by exact (have a0 := in_u ((inv_F hI 0 120 rfl e_102_4)); have a1 := in_u ((inv_F hI 0 5 rfl e_46_3)); have a2 := in_u ((inv_F hI 0 1000 rfl e_46_4)); have a3 := in_u r_46_1; have a4 := in_u ((inv_F hI 0 1000 rfl e_46_2)); by omega)
    refine g_callv (X := _) (As := [.int u_46_5]) (r := []) (b := A 102) (q := 102) 51 (gd rfl) rfl rfl rfl rfl rfl (ww_o rfl) (Nat.le_of_ble_eq_true rfl) (Nat.zero_le _) (Nat.zero_le _) (k_57_102 (by omega) hI e_102_4 n48) (fun e u h => h) (fun v u h => ?_)
    obtain ⟨s48, hI48, hF48, n48a, z48, rfl, rfl, i48, p48⟩ := h
    obtain ⟨z48a, e48⟩ : ∃ w, w = s48.2.2.1 102 4 := ⟨_, rfl⟩
    have i48a := inv_F hI48 0 120 rfl e48
    rw [← (show u_102_4 = s.2.2.1 102 4 from e_102_4)] at n48a
    rw [← (show z48a = s48.2.2.1 102 4 from e48)] at n48a
    show GG _ _ _ _ _ _ _ _ [.int z48] _ _ _
    refine g_pop 52 (gd rfl) rfl rfl (g_aload_n 53 (gd rfl) rfl rfl (g_bipush 6 55 (gd rfl) rfl rfl (g_iconst 0 56 (gd rfl) rfl rfl ?_)))
    have v56 : u_46_2 = s48.2.2.1 46 2 := fr_F (e_46_2) hF48 rfl
    have v56a : u_46_1 = s48.2.2.1 46 1 := fr_F (e_46_1) hF48 rfl
    have n56 : (u_46_2).toInt ≤ (u_46_1).toInt := by exact (have a0 := in_u ((inv_F hI 0 120 rfl e_102_4)); have a1 := in_u ((inv_F hI 0 5 rfl e_46_3)); have a2 := in_u ((inv_F hI 0 1000 rfl e_46_4)); have a3 := in_u r_46_1; have a4 := in_u ((inv_F hI 0 1000 rfl e_46_2)); have a5 := in_u i48a; by omega)
    refine g_callv (X := _) (As := [.int (Int32.ofInt 6), .int (Int32.ofInt 0)]) (r := []) (b := A 46) (q := 46) 59 (gd rfl) rfl rfl rfl rfl rfl (ww_o rfl) (Nat.le_of_ble_eq_true rfl) (Nat.zero_le _) (Nat.zero_le _) (k_171_46 (by omega) hI48 (in_w 6 7 (in_c 6 rfl) rfl) (in_w 0 1 (in_c 0 rfl) rfl) v56 v56a n56) (fun e u h => h) (fun v u h => ?_)
    obtain ⟨s56, hI56, hF56, n56a, n56b, n56c, rfl, rfl, p56, p56a⟩ := h
    obtain ⟨z56a, e56⟩ : ∃ w, w = s56.2.2.1 46 2 := ⟨_, rfl⟩
    have i56a := inv_F hI56 0 1000 rfl e56
    obtain ⟨z56b, e56a⟩ : ∃ w, w = s56.2.2.1 46 4 := ⟨_, rfl⟩
    have i56b := inv_F hI56 0 1000 rfl e56a
    rw [← (show z56a = s56.2.2.1 46 2 from e56)] at n56a
    rw [← (show u_46_1 = s56.2.2.1 46 1 from fr_F (fr_F (e_46_1) hF48 rfl) hF56 rfl)] at n56a
    rw [← (show z56a = s56.2.2.1 46 2 from e56)] at n56b
    rw [← (show z56b = s56.2.2.1 46 4 from e56a)] at n56b
    rw [← (show u_46_2 = s48.2.2.1 46 2 from fr_F (e_46_2) hF48 rfl)] at n56c
    rw [← (show z56b = s56.2.2.1 46 4 from e56a)] at n56c
    show GG _ _ _ _ _ _ _ _ [] _ _ _
    refine g_iconst 1 60 (gd rfl) rfl rfl ?_
    have n60 : TK s56 := by exact p56 (by decide)
    have n60a : ((Int32.ofInt 1)).toInt ≠ 0 → PCV s s56 1 := by intro _; exact pv_tr (j := 1) (k := 0) (pv_st (j := 0) (k := 1) pv_rf (inv_F hI 0 120 rfl rfl).1 p48 (by rw [← e48, ← hDe]; exact (have a0 := in_u ((inv_F hI 0 120 rfl e_102_4)); have a1 := in_u ((inv_F hI 0 5 rfl e_46_3)); have a2 := in_u ((inv_F hI 0 1000 rfl e_46_4)); have a3 := in_u r_46_1; have a4 := in_u ((inv_F hI 0 1000 rfl e_46_2)); have a5 := in_u i56b; have a6 := in_u i56a; have a7 := in_u i48a; by omega)) (fun e => hc_a (by first | (exact (have a0 := in_u ((inv_F hI 0 120 rfl e_102_4)); have a1 := in_u ((inv_F hI 0 5 rfl e_46_3)); have a2 := in_u ((inv_F hI 0 1000 rfl e_46_4)); have a3 := in_u r_46_1; have a4 := in_u ((inv_F hI 0 1000 rfl e_46_2)); have a5 := in_u i56b; have a6 := in_u i56a; have a7 := in_u i48a; by omega)) | (have c1 : (Int32.ofInt 1).toInt = 1 := (by decide); have hv := tkv_1 q_0 e_46_3 e_46_5 (by exact (have a0 := in_u ((inv_F hI 0 120 rfl e_102_4)); have a1 := in_u ((inv_F hI 0 5 rfl e_46_3)); have a2 := in_u ((inv_F hI 0 1000 rfl e_46_4)); have a3 := in_u r_46_1; have a4 := in_u ((inv_F hI 0 1000 rfl e_46_2)); have a5 := in_u i56b; have a6 := in_u i56a; have a7 := in_u i48a; by omega)); exact (have a0 := in_u ((inv_F hI 0 120 rfl e_102_4)); have a1 := in_u ((inv_F hI 0 5 rfl e_46_3)); have a2 := in_u ((inv_F hI 0 1000 rfl e_46_4)); have a3 := in_u r_46_1; have a4 := in_u ((inv_F hI 0 1000 rfl e_46_2)); have a5 := in_u i56b; have a6 := in_u i56a; have a7 := in_u i48a; by omega))) e)) (pv_sm (hF56.1 104 rfl) (hF56.2.2.1 102 4 rfl))
    have n60b : (z56a).toInt ≤ (u_46_1).toInt := by exact (have a0 := in_u ((inv_F hI 0 120 rfl e_102_4)); have a1 := in_u ((inv_F hI 0 5 rfl e_46_3)); have a2 := in_u ((inv_F hI 0 1000 rfl e_46_4)); have a3 := in_u r_46_1; have a4 := in_u ((inv_F hI 0 1000 rfl e_46_2)); have a5 := in_u i56b; have a6 := in_u i56a; have a7 := in_u i48a; by omega)
    have n60c : (s56.2.2.1 46 2).toInt ≤ (s56.2.2.1 46 1).toInt := by have b0 : z56a = s56.2.2.1 46 2 := e56; have b1 : u_46_1 = s56.2.2.1 46 1 := fr_F (fr_F (e_46_1) hF48 rfl) hF56 rfl; rw [← b0, ← b1]; exact n60b
    have n60d : (z56b).toInt ≤ (z56a).toInt := by exact (have a0 := in_u ((inv_F hI 0 120 rfl e_102_4)); have a1 := in_u ((inv_F hI 0 5 rfl e_46_3)); have a2 := in_u ((inv_F hI 0 1000 rfl e_46_4)); have a3 := in_u r_46_1; have a4 := in_u ((inv_F hI 0 1000 rfl e_46_2)); have a5 := in_u i56b; have a6 := in_u i56a; have a7 := in_u i48a; by omega)
    have n60e : (s56.2.2.1 46 4).toInt ≤ (s56.2.2.1 46 2).toInt := by have b0 : z56b = s56.2.2.1 46 4 := e56a; have b1 : z56a = s56.2.2.1 46 2 := e56; rw [← b0, ← b1]; exact n60d
    have n60f : (z48a).toInt ≤ (z56b).toInt := by exact (have a0 := in_u ((inv_F hI 0 120 rfl e_102_4)); have a1 := in_u ((inv_F hI 0 5 rfl e_46_3)); have a2 := in_u ((inv_F hI 0 1000 rfl e_46_4)); have a3 := in_u r_46_1; have a4 := in_u ((inv_F hI 0 1000 rfl e_46_2)); have a5 := in_u i56b; have a6 := in_u i56a; have a7 := in_u i48a; by omega)
    have n60g : (s56.2.2.1 102 4).toInt ≤ (s56.2.2.1 46 4).toInt := by have b0 : z48a = s56.2.2.1 102 4 := fr_F (e48) hF56 rfl; have b1 : z56b = s56.2.2.1 46 4 := e56a; rw [← b0, ← b1]; exact n60f
    have n60h : (u_46_4).toInt - (u_102_4).toInt ≤ (z56b).toInt - (z48a).toInt := by exact (have a0 := in_u ((inv_F hI 0 120 rfl e_102_4)); have a1 := in_u ((inv_F hI 0 5 rfl e_46_3)); have a2 := in_u ((inv_F hI 0 1000 rfl e_46_4)); have a3 := in_u r_46_1; have a4 := in_u ((inv_F hI 0 1000 rfl e_46_2)); have a5 := in_u i56b; have a6 := in_u i56a; have a7 := in_u i48a; by omega)
    have n60i : (s.2.2.1 46 4).toInt - (s.2.2.1 102 4).toInt ≤ (s56.2.2.1 46 4).toInt - (s56.2.2.1 102 4).toInt := by have b0 : z56b = s56.2.2.1 46 4 := e56a; have b1 : z48a = s56.2.2.1 102 4 := fr_F (e48) hF56 rfl; first | (rw [← b0, ← b1, ← e_46_4, ← e_102_4]; exact n60h) | (rw [← b0, ← b1]; exact n60h)
    exact g_ireturn (gd rfl) rfl (nb01 (in_w 0 1 (in_c 1 rfl) rfl)) (hP _ _ ⟨s56, hI56, (fr_tr rfl (fr_tr rfl fr_rf hF48) hF56), n60c, n60e, n60g, n60i, (Int32.ofInt 1), rfl, rfl, in_w 0 1 (in_c 1 rfl) rfl, n60, n60a⟩)
  · skip
    have i10 := r_eq1 1 1 c10 (inv_F hI 0 5 rfl e_46_3) (in_c 1 rfl) rfl
    refine g_ldcs 6 15 (gd rfl) rfl rfl (g_bipush 97 17 (gd rfl) rfl rfl (g_aload_n 18 (gd rfl) rfl rfl (g_getIv (y := u_46_5) 21 (gd rfl) rfl rfl rfl (e_46_5) (g_iadd 22 (gd rfl) rfl (fun z21 e21 => g_i2c 23 (gd rfl) rfl (fun z22 e22 => have i22 := in_i2c e22; have i23 : In (Int32.ofInt 6) 0 6 := in_w 0 6 (in_c 6 rfl) rfl; g_callS (X := _) (As := [.int z22]) (r := []) (x := (Int32.ofInt 6)) 26 (gd rfl) rfl rfl rfl zm_430 rfl rfl rfl i23 (Nat.le_of_ble_eq_true rfl) (k_430 i23 (by omega)) (fun e u h => h) (fun v u h => ?_)))))))
    obtain ⟨z23, rfl, rfl, p23⟩ := h
    have i23a : In z23 (-1) 8 := by have a := zn_9 i23; unfold In at p23; exact ⟨by omega, by omega⟩
    show GG _ _ _ _ _ _ _ _ [.int z23] _ _ _
    refine g_istore_n 27 (gd rfl) rfl (Nat.le_of_ble_eq_true rfl) (g_iload_n 28 (gd rfl) rfl rfl (g_if_ge 31 41 (gd rfl) rfl rfl (fun c28 => ?_) (fun c28 => ?_)))
    · skip
      have i28 := z_ge 0 8 c28 i23a rfl
      refine g_ldc 1000000 43 (gd rfl) rfl rfl (g_iload_n 44 (gd rfl) rfl rfl (g_iadd 45 (gd rfl) rfl (fun z44 e44 => have i44 := in_add 1000000 1000008 e44 (in_c 1000000 rfl) i28 rfl rfl; g_istore_n 46 (gd rfl) rfl (Nat.le_of_ble_eq_true rfl) (g_aload_n 47 (gd rfl) rfl rfl (g_iload_n 48 (gd rfl) rfl rfl ?_)))))
      have hDe : _ = s.2.2.1 102 4 := (show u_102_4 = s.2.2.1 102 4 from e_102_4)
      have n48 : (u_102_4).toInt ≤ 119 := by exact (have a0 := in_u ((inv_F hI 0 120 rfl e_102_4)); have a1 := in_u i10; have a2 := in_u ((inv_F hI 0 1000 rfl e_46_4)); have a3 := in_u r_46_1; have a4 := in_u ((inv_F hI 0 1000 rfl e_46_2)); have a5 := in_u i28; have a6 := in_u i44; have a7 := t_add e44 (in_c 1000000 rfl) i28 rfl; have a8 := in_u ((in_c 1000000 rfl)); by omega)
      refine g_callv (X := _) (As := [.int z44]) (r := []) (b := A 102) (q := 102) 51 (gd rfl) rfl rfl rfl rfl rfl (ww_o rfl) (Nat.le_of_ble_eq_true rfl) (Nat.zero_le _) (Nat.zero_le _) (k_57_102 (by omega) hI e_102_4 n48) (fun e u h => h) (fun v u h => ?_)
      obtain ⟨s48, hI48, hF48, n48a, z48, rfl, rfl, i48, p48⟩ := h
      obtain ⟨z48a, e48⟩ : ∃ w, w = s48.2.2.1 102 4 := ⟨_, rfl⟩
      have i48a := inv_F hI48 0 120 rfl e48
      rw [← (show u_102_4 = s.2.2.1 102 4 from e_102_4)] at n48a
      rw [← (show z48a = s48.2.2.1 102 4 from e48)] at n48a
      show GG _ _ _ _ _ _ _ _ [.int z48] _ _ _
      refine g_pop 52 (gd rfl) rfl rfl (g_aload_n 53 (gd rfl) rfl rfl (g_bipush 6 55 (gd rfl) rfl rfl (g_iconst 0 56 (gd rfl) rfl rfl ?_)))
      have v56 : u_46_2 = s48.2.2.1 46 2 := fr_F (e_46_2) hF48 rfl
      have v56a : u_46_1 = s48.2.2.1 46 1 := fr_F (e_46_1) hF48 rfl
      have n56 : (u_46_2).toInt ≤ (u_46_1).toInt := by exact (have a0 := in_u ((inv_F hI 0 120 rfl e_102_4)); have a1 := in_u i10; have a2 := in_u ((inv_F hI 0 1000 rfl e_46_4)); have a3 := in_u r_46_1; have a4 := in_u ((inv_F hI 0 1000 rfl e_46_2)); have a5 := in_u i28; have a6 := in_u i44; have a7 := t_add e44 (in_c 1000000 rfl) i28 rfl; have a8 := in_u ((in_c 1000000 rfl)); have a9 := in_u i48a; by omega)
      refine g_callv (X := _) (As := [.int (Int32.ofInt 6), .int (Int32.ofInt 0)]) (r := []) (b := A 46) (q := 46) 59 (gd rfl) rfl rfl rfl rfl rfl (ww_o rfl) (Nat.le_of_ble_eq_true rfl) (Nat.zero_le _) (Nat.zero_le _) (k_171_46 (by omega) hI48 (in_w 6 7 (in_c 6 rfl) rfl) (in_w 0 1 (in_c 0 rfl) rfl) v56 v56a n56) (fun e u h => h) (fun v u h => ?_)
      obtain ⟨s56, hI56, hF56, n56a, n56b, n56c, rfl, rfl, p56, p56a⟩ := h
      obtain ⟨z56a, e56⟩ : ∃ w, w = s56.2.2.1 46 2 := ⟨_, rfl⟩
      have i56a := inv_F hI56 0 1000 rfl e56
      obtain ⟨z56b, e56a⟩ : ∃ w, w = s56.2.2.1 46 4 := ⟨_, rfl⟩
      have i56b := inv_F hI56 0 1000 rfl e56a
      rw [← (show z56a = s56.2.2.1 46 2 from e56)] at n56a
      rw [← (show u_46_1 = s56.2.2.1 46 1 from fr_F (fr_F (e_46_1) hF48 rfl) hF56 rfl)] at n56a
      rw [← (show z56a = s56.2.2.1 46 2 from e56)] at n56b
      rw [← (show z56b = s56.2.2.1 46 4 from e56a)] at n56b
      rw [← (show u_46_2 = s48.2.2.1 46 2 from fr_F (e_46_2) hF48 rfl)] at n56c
      rw [← (show z56b = s56.2.2.1 46 4 from e56a)] at n56c
      show GG _ _ _ _ _ _ _ _ [] _ _ _
      refine g_iconst 1 60 (gd rfl) rfl rfl ?_
      have n60 : TK s56 := by exact p56 (by decide)
      have n60a : ((Int32.ofInt 1)).toInt ≠ 0 → PCV s s56 1 := by intro _; exact pv_tr (j := 1) (k := 0) (pv_st (j := 0) (k := 1) pv_rf (inv_F hI 0 120 rfl rfl).1 p48 (by rw [← e48, ← hDe]; exact (have a0 := in_u ((inv_F hI 0 120 rfl e_102_4)); have a1 := in_u i10; have a2 := in_u ((inv_F hI 0 1000 rfl e_46_4)); have a3 := in_u r_46_1; have a4 := in_u ((inv_F hI 0 1000 rfl e_46_2)); have a5 := in_u i28; have a6 := in_u i44; have a7 := t_add e44 (in_c 1000000 rfl) i28 rfl; have a8 := in_u ((in_c 1000000 rfl)); have a9 := in_u i56b; have a10 := in_u i56a; have a11 := in_u i48a; by omega)) (fun e => hc_a (by first | (exact (have a0 := in_u ((inv_F hI 0 120 rfl e_102_4)); have a1 := in_u i10; have a2 := in_u ((inv_F hI 0 1000 rfl e_46_4)); have a3 := in_u r_46_1; have a4 := in_u ((inv_F hI 0 1000 rfl e_46_2)); have a5 := in_u i28; have a6 := in_u i44; have a7 := t_add e44 (in_c 1000000 rfl) i28 rfl; have a8 := in_u ((in_c 1000000 rfl)); have a9 := in_u i56b; have a10 := in_u i56a; have a11 := in_u i48a; by omega)) | (have c1 : (Int32.ofInt 1).toInt = 1 := (by decide); have hv := tkv_1 q_0 e_46_3 e_46_5 (by exact (have a0 := in_u ((inv_F hI 0 120 rfl e_102_4)); have a1 := in_u i10; have a2 := in_u ((inv_F hI 0 1000 rfl e_46_4)); have a3 := in_u r_46_1; have a4 := in_u ((inv_F hI 0 1000 rfl e_46_2)); have a5 := in_u i28; have a6 := in_u i44; have a7 := t_add e44 (in_c 1000000 rfl) i28 rfl; have a8 := in_u ((in_c 1000000 rfl)); have a9 := in_u i56b; have a10 := in_u i56a; have a11 := in_u i48a; by omega)); exact (have a0 := in_u ((inv_F hI 0 120 rfl e_102_4)); have a1 := in_u i10; have a2 := in_u ((inv_F hI 0 1000 rfl e_46_4)); have a3 := in_u r_46_1; have a4 := in_u ((inv_F hI 0 1000 rfl e_46_2)); have a5 := in_u i28; have a6 := in_u i44; have a7 := t_add e44 (in_c 1000000 rfl) i28 rfl; have a8 := in_u ((in_c 1000000 rfl)); have a9 := in_u i56b; have a10 := in_u i56a; have a11 := in_u i48a; by omega))) e)) (pv_sm (hF56.1 104 rfl) (hF56.2.2.1 102 4 rfl))
      have n60b : (z56a).toInt ≤ (u_46_1).toInt := by exact (have a0 := in_u ((inv_F hI 0 120 rfl e_102_4)); have a1 := in_u i10; have a2 := in_u ((inv_F hI 0 1000 rfl e_46_4)); have a3 := in_u r_46_1; have a4 := in_u ((inv_F hI 0 1000 rfl e_46_2)); have a5 := in_u i28; have a6 := in_u i44; have a7 := t_add e44 (in_c 1000000 rfl) i28 rfl; have a8 := in_u ((in_c 1000000 rfl)); have a9 := in_u i56b; have a10 := in_u i56a; have a11 := in_u i48a; by omega)
      have n60c : (s56.2.2.1 46 2).toInt ≤ (s56.2.2.1 46 1).toInt := by have b0 : z56a = s56.2.2.1 46 2 := e56; have b1 : u_46_1 = s56.2.2.1 46 1 := fr_F (fr_F (e_46_1) hF48 rfl) hF56 rfl; rw [← b0, ← b1]; exact n60b
      have n60d : (z56b).toInt ≤ (z56a).toInt := by exact (have a0 := in_u ((inv_F hI 0 120 rfl e_102_4)); have a1 := in_u i10; have a2 := in_u ((inv_F hI 0 1000 rfl e_46_4)); have a3 := in_u r_46_1; have a4 := in_u ((inv_F hI 0 1000 rfl e_46_2)); have a5 := in_u i28; have a6 := in_u i44; have a7 := t_add e44 (in_c 1000000 rfl) i28 rfl; have a8 := in_u ((in_c 1000000 rfl)); have a9 := in_u i56b; have a10 := in_u i56a; have a11 := in_u i48a; by omega)
      have n60e : (s56.2.2.1 46 4).toInt ≤ (s56.2.2.1 46 2).toInt := by have b0 : z56b = s56.2.2.1 46 4 := e56a; have b1 : z56a = s56.2.2.1 46 2 := e56; rw [← b0, ← b1]; exact n60d
      have n60f : (z48a).toInt ≤ (z56b).toInt := by exact (have a0 := in_u ((inv_F hI 0 120 rfl e_102_4)); have a1 := in_u i10; have a2 := in_u ((inv_F hI 0 1000 rfl e_46_4)); have a3 := in_u r_46_1; have a4 := in_u ((inv_F hI 0 1000 rfl e_46_2)); have a5 := in_u i28; have a6 := in_u i44; have a7 := t_add e44 (in_c 1000000 rfl) i28 rfl; have a8 := in_u ((in_c 1000000 rfl)); have a9 := in_u i56b; have a10 := in_u i56a; have a11 := in_u i48a; by omega)
      have n60g : (s56.2.2.1 102 4).toInt ≤ (s56.2.2.1 46 4).toInt := by have b0 : z48a = s56.2.2.1 102 4 := fr_F (e48) hF56 rfl; have b1 : z56b = s56.2.2.1 46 4 := e56a; rw [← b0, ← b1]; exact n60f
      have n60h : (u_46_4).toInt - (u_102_4).toInt ≤ (z56b).toInt - (z48a).toInt := by exact (have a0 := in_u ((inv_F hI 0 120 rfl e_102_4)); have a1 := in_u i10; have a2 := in_u ((inv_F hI 0 1000 rfl e_46_4)); have a3 := in_u r_46_1; have a4 := in_u ((inv_F hI 0 1000 rfl e_46_2)); have a5 := in_u i28; have a6 := in_u i44; have a7 := t_add e44 (in_c 1000000 rfl) i28 rfl; have a8 := in_u ((in_c 1000000 rfl)); have a9 := in_u i56b; have a10 := in_u i56a; have a11 := in_u i48a; by omega)
      have n60i : (s.2.2.1 46 4).toInt - (s.2.2.1 102 4).toInt ≤ (s56.2.2.1 46 4).toInt - (s56.2.2.1 102 4).toInt := by have b0 : z56b = s56.2.2.1 46 4 := e56a; have b1 : z48a = s56.2.2.1 102 4 := fr_F (e48) hF56 rfl; first | (rw [← b0, ← b1, ← e_46_4, ← e_102_4]; exact n60h) | (rw [← b0, ← b1]; exact n60h)
      exact g_ireturn (gd rfl) rfl (nb01 (in_w 0 1 (in_c 1 rfl) rfl)) (hP _ _ ⟨s56, hI56, (fr_tr rfl (fr_tr rfl fr_rf hF48) hF56), n60c, n60e, n60g, n60i, (Int32.ofInt 1), rfl, rfl, in_w 0 1 (in_c 1 rfl) rfl, n60, n60a⟩)
    · skip
      have i28 := z_lt (-1) (-1) c28 i23a rfl
      refine g_aload_n 32 (gd rfl) rfl rfl (g_iconst 5 33 (gd rfl) rfl rfl (g_aload_n 34 (gd rfl) rfl rfl (g_getIv (y := u_46_4) 37 (gd rfl) rfl rfl rfl (e_46_4) (g_callv (X := _) (As := [.int (Int32.ofInt 5), .int u_46_4]) (r := []) (b := A 46) (q := 46) 40 (gd rfl) rfl rfl rfl rfl rfl (ww_o rfl) (Nat.le_of_ble_eq_true rfl) (Nat.zero_le _) (Nat.zero_le _) (k_168_46 (by omega) hI (in_w 1 5 (in_c 5 rfl) rfl) (in_w 0 1000 (inv_F hI 0 1000 rfl e_46_4) rfl)) (fun e u h => h) (fun v u h => ?_)))))
      obtain ⟨s37, hI37, hF37, z37, rfl, rfl, i37⟩ := h
      show GG _ _ _ _ _ _ _ _ [.int z37] _ _ _
      have n40 : TK s37 := by exact tk_fr hF37 rfl q_0
      have n40a : (z37).toInt ≠ 0 → PCV s s37 1 := by intro h; unfold In at i37; omega
      have n40b : (u_46_2).toInt ≤ (u_46_1).toInt := by exact (have a0 := in_u ((inv_F hI 0 120 rfl e_102_4)); have a1 := in_u i10; have a2 := in_u ((inv_F hI 0 1000 rfl e_46_4)); have a3 := in_u r_46_1; have a4 := in_u ((inv_F hI 0 1000 rfl e_46_2)); have a5 := in_u i28; by omega)
      have n40c : (s37.2.2.1 46 2).toInt ≤ (s37.2.2.1 46 1).toInt := by have b0 : u_46_2 = s37.2.2.1 46 2 := fr_F (e_46_2) hF37 rfl; have b1 : u_46_1 = s37.2.2.1 46 1 := fr_F (e_46_1) hF37 rfl; rw [← b0, ← b1]; exact n40b
      have n40d : (u_46_4).toInt ≤ (u_46_2).toInt := by exact (have a0 := in_u ((inv_F hI 0 120 rfl e_102_4)); have a1 := in_u i10; have a2 := in_u ((inv_F hI 0 1000 rfl e_46_4)); have a3 := in_u r_46_1; have a4 := in_u ((inv_F hI 0 1000 rfl e_46_2)); have a5 := in_u i28; by omega)
      have n40e : (s37.2.2.1 46 4).toInt ≤ (s37.2.2.1 46 2).toInt := by have b0 : u_46_4 = s37.2.2.1 46 4 := fr_F (e_46_4) hF37 rfl; have b1 : u_46_2 = s37.2.2.1 46 2 := fr_F (e_46_2) hF37 rfl; rw [← b0, ← b1]; exact n40d
      have n40f : (u_102_4).toInt ≤ (u_46_4).toInt := by exact (have a0 := in_u ((inv_F hI 0 120 rfl e_102_4)); have a1 := in_u i10; have a2 := in_u ((inv_F hI 0 1000 rfl e_46_4)); have a3 := in_u r_46_1; have a4 := in_u ((inv_F hI 0 1000 rfl e_46_2)); have a5 := in_u i28; by omega)
      have n40g : (s37.2.2.1 102 4).toInt ≤ (s37.2.2.1 46 4).toInt := by have b0 : u_102_4 = s37.2.2.1 102 4 := fr_F (e_102_4) hF37 rfl; have b1 : u_46_4 = s37.2.2.1 46 4 := fr_F (e_46_4) hF37 rfl; rw [← b0, ← b1]; exact n40f
      have n40h : (u_46_4).toInt - (u_102_4).toInt ≤ (u_46_4).toInt - (u_102_4).toInt := by exact (have a0 := in_u ((inv_F hI 0 120 rfl e_102_4)); have a1 := in_u i10; have a2 := in_u ((inv_F hI 0 1000 rfl e_46_4)); have a3 := in_u r_46_1; have a4 := in_u ((inv_F hI 0 1000 rfl e_46_2)); have a5 := in_u i28; by omega)
      have n40i : (s.2.2.1 46 4).toInt - (s.2.2.1 102 4).toInt ≤ (s37.2.2.1 46 4).toInt - (s37.2.2.1 102 4).toInt := by have b0 : u_46_4 = s37.2.2.1 46 4 := fr_F (e_46_4) hF37 rfl; have b1 : u_102_4 = s37.2.2.1 102 4 := fr_F (e_102_4) hF37 rfl; first | (rw [← b0, ← b1, ← e_46_4, ← e_102_4]; exact n40h) | (rw [← b0, ← b1]; exact n40h)
      exact g_ireturn (gd rfl) rfl (nb01 (in_w 0 1 i37 rfl)) (hP _ _ ⟨s37, hI37, (fr_tr rfl fr_rf hF37), n40c, n40e, n40g, n40i, z37, rfl, rfl, in_w 0 1 i37 rfl, n40, n40a⟩)

def fm_136_1_46 : FM := ([3, 4, 5, 6, 7, 8, 30, 31], [], [(2, 0), (2, 1), (2, 2), (2, 3), (30, 0), (46, 2), (46, 3), (46, 4), (46, 5), (46, 6), (46, 7)], [])
def fm_134_1_32 : FM := ([33, 34, 35, 36, 37, 38], [], [(32, 0), (32, 1), (32, 2), (32, 3), (32, 4)], [])
def fm_217_0 : FM := ([33, 34, 35, 36, 37, 38], [], [(0, 2), (32, 0), (32, 1), (32, 2), (32, 3), (32, 4)], [])
def fm_135_1_46 : FM := ([3, 4, 5, 6, 7, 8, 17, 18, 19, 20, 21, 22, 30, 31], [], [(2, 0), (2, 1), (2, 2), (2, 3), (2, 4), (16, 0), (16, 1), (16, 2), (16, 3), (16, 4), (30, 0), (46, 2), (46, 3), (46, 4), (46, 5), (46, 6), (46, 7)], [])
def fm_225_0 : FM := ([3, 4, 5, 6, 7, 8, 17, 18, 19, 20, 21, 22, 30, 31], [], [(2, 0), (2, 1), (2, 2), (2, 3), (2, 4), (16, 0), (16, 1), (16, 2), (16, 3), (16, 4), (30, 0), (46, 2), (46, 3), (46, 4), (46, 5), (46, 6), (46, 7)], [])
def fm_46_60_9 : FM := ([61, 63], [], [(60, 7)], [])
def fm_47_60_9 : FM := ([61, 63], [], [(60, 7)], [])
theorem k_47_60_9_r {Z : AmZ} {A : Nat → Nat} {ex : va_W} (kk : Nat) (ihF : ∀ {s : GS} {d : Nat} {X : AmX} {x2 : Int32} {x3 : Int32}, 40 + kk * 10 ≤ d → Inv s → (In x3 0 33) → 33 - (x3).toInt < ((kk : Nat) : Int) → GC Z d 46 [.ref (A 60), .ref (A 9), .int x2, .int x3] (WW Z A s ++ ex) 0 0 (fun v u => ∃ t : GS, Inv t ∧ Fr fm_46_60_9 s t ∧ ∃ z : Int32, v = some (.int z) ∧ u = WW Z A t ++ ex ∧ In z 0 1) X) : ∀ {s : GS} {d : Nat} {X : AmX} {x2 : Int32} {x3 : Int32}, 45 + kk * 10 ≤ d → Inv s → (In x3 0 32) → (x2.toInt ≠ 0) → 33 - (x3).toInt < ((kk + 1 : Nat) : Int) → GC Z d 47 [.ref (A 60), .ref (A 9), .int x2, .int x3] (WW Z A s ++ ex) 0 0 (fun v u => ∃ t : GS, Inv t ∧ Fr fm_47_60_9 s t ∧ ∃ z : Int32, v = some (.int z) ∧ u = WW Z A t ++ ex ∧ In z 0 1) X := by
  intro s d X x2 x3 hd hI h3 nza_2 hm
  intro post xp hP hX
  obtain ⟨u_60_3, e_60_3⟩ : ∃ w, w = s.2.2.1 60 3 := ⟨_, rfl⟩
  have ro_60_3 := inv_F hI 0 32 rfl e_60_3
  have ct27 : ∀ (k27 : Nat) (sc27 : GS) (y27_4 : Int32) (y27_5 : Int32) (y27_6 : Int32) (y27_7 : Int32) (y27_8 : Int32), Inv sc27 → Fr fm_47_60_9 s sc27 → (In y27_4 0 31) → (In y27_7 0 1) → (In y27_8 0 32) → 32 - (y27_8).toInt < (k27 : Int) → GG Z (d - 1) 47 post (gx xp) (1 + k27 * 900) 27 (fun j => xlook j [(0, .ref (A 60)), (1, .ref (A 9)), (2, .int x2), (3, .int x3), (4, .int y27_4), (5, .int y27_5), (6, .int y27_6), (7, .int y27_7), (8, .int y27_8)]) [] (WW Z A sc27 ++ ex) 0 0 := by
    intro k27
    induction k27 with
    | zero => intro sc27 y27_4 y27_5 y27_6 y27_7 y27_8 hIc27 hFc27 j27_4 j27_7 j27_8 mm27; exact m_no mm27 j27_8 rfl
    | succ k27 ih27 =>
      intro sc27 y27_4 y27_5 y27_6 y27_7 y27_8 hIc27 hFc27 j27_4 j27_7 j27_8 mm27
      refine gg_w (M := 1 + k27 * 900 + 900) (by omega) (g_iload 29 (gd rfl) rfl rfl (g_aload_n 30 (gd rfl) rfl rfl (g_getIv (y := u_60_3) 33 (gd rfl) rfl rfl rfl (fr_F e_60_3 hFc27 rfl) (g_cmp_ge 36 139 (gd rfl) rfl rfl (fun c33 => ?_) (fun c33 => ?_)))))
      · skip
        exact g_iconst 0 140 (gd rfl) rfl rfl (g_ireturn (gd rfl) rfl (nb01 (in_w 0 1 (in_c 0 rfl) rfl)) (hP _ _ ⟨sc27, hIc27, hFc27, (Int32.ofInt 0), rfl, rfl, in_w 0 1 (in_c 0 rfl) rfl⟩))
      · skip
        have i33 := r_lt1 0 31 c33 j27_8 ro_60_3 rfl
        have i33a := r_lt2 1 32 c33 j27_8 ro_60_3 rfl
        refine g_aload_n 37 (gd rfl) rfl rfl (g_getA (q2 := 61) 40 (gd rfl) rfl rfl rfl rfl (g_iload 42 (gd rfl) rfl rfl (g_iaload 43 (gd rfl) rfl (n := 32) rfl (in_ix i33 rfl) (fun z42 e42 => g_iload 45 (gd rfl) rfl rfl (g_iand 46 (gd rfl) rfl (fun z45 e45 => g_if_ne 49 53 (gd rfl) rfl rfl (fun c46 => ?_) (fun c46 => ?_)))))))
        · skip
          refine g_iconst 0 54 (gd rfl) rfl rfl (g_istore 56 (gd rfl) rfl (Nat.le_of_ble_eq_true rfl) (g_aload_n 57 (gd rfl) rfl rfl (g_getA (q2 := 61) 60 (gd rfl) rfl rfl rfl rfl (g_iload 62 (gd rfl) rfl rfl (g_ialoadv (y := z42) 63 (gd rfl) rfl (n := 32) rfl (in_ix i33 rfl) (e42) (g_aload_n 64 (gd rfl) rfl rfl (g_iload 66 (gd rfl) rfl rfl (g_iaload 67 (gd rfl) rfl (n := 32) rfl (in_ix j27_4 rfl) (fun z66 e66 => g_iand 68 (gd rfl) rfl (fun z67 e67 => g_if_ne 71 133 (gd rfl) rfl rfl (fun c68 => ?_) (fun c68 => ?_)))))))))))
          · skip
            exact g_iinc 136 (gd rfl) rfl rfl (Nat.le_of_ble_eq_true rfl) (fun z133 e133 => have i133 := in_add 1 32 e133 i33 (in_c 1 rfl) rfl rfl; g_goto 27 (gd rfl) rfl (gg_w (by omega) (gg_f (gf_cons rfl (gf_cons rfl (gf_cons rfl (gf_cons rfl (gf_cons rfl (gf_cons rfl (gf_cons rfl (gf_cons rfl (gf_cons rfl gf_nil))))))))) (ih27 sc27 y27_4 y27_5 y27_6 y27_7 z133 hIc27 hFc27 (in_w 0 31 j27_4 rfl) (in_w 0 1 j27_7 rfl) (in_w 0 32 i133 rfl) (m_up mm27 (t_add e133 i33 (in_c 1 rfl) rfl) (in_w 1 1 (in_c 1 rfl) rfl))))))
          · skip
            have i68 := z_eq 0 0 c68 (i_rng z67) rfl
            refine g_iload 73 (gd rfl) rfl rfl (g_if_eq 76 81 (gd rfl) rfl rfl (fun c73 => ?_) (fun c73 => ?_))
            · skip
              refine g_iload 83 (gd rfl) rfl rfl (g_iload 85 (gd rfl) rfl rfl (g_ior 86 (gd rfl) rfl (fun z85 e85 => have i85 := in_or 1 e85 (in_w 0 1 j27_7 rfl) (in_w 0 1 (in_c 0 rfl) rfl) rfl; g_istore 88 (gd rfl) rfl (Nat.le_of_ble_eq_true rfl) (g_aload_n 89 (gd rfl) rfl rfl (g_getA (q2 := 61) 92 (gd rfl) rfl rfl rfl rfl (g_iload 94 (gd rfl) rfl rfl (g_dup2 95 (gd rfl) rfl rfl rfl (g_ialoadv (y := z42) 96 (gd rfl) rfl (n := 32) rfl (in_ix i33 rfl) (e42) (g_iload 98 (gd rfl) rfl rfl (g_ior 99 (gd rfl) rfl (fun z98 e98 => g_iastore 100 (gd rfl) rfl (n := 32) rfl (in_ix i33 rfl) (have hI99 := inv_sI (q := 61) (j := y27_8.toNatClampNeg) hIc27 rfl (in_w (-2147483648) 2147483647 (i_rng z98) rfl); g_aload_n 101 (gd rfl) rfl rfl (g_aload_n 102 (gd rfl) rfl rfl (g_iload_n 103 (gd rfl) rfl rfl (g_iload 105 (gd rfl) rfl rfl (g_iconst (-1) 106 (gd rfl) rfl rfl (g_ixor 107 (gd rfl) rfl (fun z106 e106 => g_iand 108 (gd rfl) rfl (fun z107 e107 => g_iload_n 109 (gd rfl) rfl rfl (g_iconst 1 110 (gd rfl) rfl rfl (g_iadd 111 (gd rfl) rfl (fun z110 e110 => ?_))))))))))))))))))))))
              have i110 := in_add 1 33 e110 h3 (in_c 1 rfl) rfl rfl
              have n111 : 33 - (z110).toInt < ((kk : Nat) : Int) := by exact (have a0 := in_u h3; have a1 := in_u i33a; have a2 := in_u i33; have a3 := in_u j27_7; have a4 := in_u j27_4; have a5 := in_u ((in_c 0 rfl)); have a6 := in_u i85; have a7 := in_u i110; have a8 := t_add e110 h3 (in_c 1 rfl) rfl; have a9 := in_u ((in_c 1 rfl)); by omega)
              refine g_callv (X := _) (As := [.ref (A 9), .int z107, .int z110]) (r := []) (b := A 60) (q := 60) 114 (gd rfl) rfl rfl rfl rfl rfl (ww_o rfl) (Nat.le_of_ble_eq_true rfl) (Nat.zero_le _) (Nat.zero_le _) (ihF (by omega) hI99 (in_w 0 33 i110 rfl) n111) (fun e u h => h) (fun v u h => ?_)
              obtain ⟨s111, hI111, hF111, z111, rfl, rfl, i111⟩ := h
              show GG _ _ _ _ _ _ _ _ [.int z111] _ _ _
              refine g_if_eq 117 119 (gd rfl) rfl rfl (fun c114 => ?_) (fun c114 => ?_)
              · skip
                have i114 := z_eq 0 0 c114 i111 rfl
                exact g_aload_n 120 (gd rfl) rfl rfl (g_getA (q2 := 61) 123 (gd rfl) rfl rfl rfl rfl (g_iload 125 (gd rfl) rfl rfl (g_dup2 126 (gd rfl) rfl rfl rfl (g_iaload 127 (gd rfl) rfl (n := 32) rfl (in_ix i33 rfl) (fun z126 e126 => g_iload 129 (gd rfl) rfl rfl (g_iconst (-1) 130 (gd rfl) rfl rfl (g_ixor 131 (gd rfl) rfl (fun z130 e130 => g_iand 132 (gd rfl) rfl (fun z131 e131 => g_iastore 133 (gd rfl) rfl (n := 32) rfl (in_ix i33 rfl) (have hI132 := inv_sI (q := 61) (j := y27_8.toNatClampNeg) hI111 rfl (in_w (-2147483648) 2147483647 (i_rng z131) rfl); g_iinc 136 (gd rfl) rfl rfl (Nat.le_of_ble_eq_true rfl) (fun z133 e133 => have i133 := in_add 1 32 e133 i33 (in_c 1 rfl) rfl rfl; g_goto 27 (gd rfl) rfl (gg_w (by omega) (gg_f (gf_cons rfl (gf_cons rfl (gf_cons rfl (gf_cons rfl (gf_cons rfl (gf_cons rfl (gf_cons rfl (gf_cons rfl (gf_cons rfl gf_nil))))))))) (ih27 (sI s111 61 y27_8.toNatClampNeg z131) y27_4 y27_5 y27_6 z85 z133 hI132 (fr_sI rfl (fr_tr rfl (fr_sI rfl hFc27) hF111)) (in_w 0 31 j27_4 rfl) (in_w 0 1 i85 rfl) (in_w 0 32 i133 rfl) (m_up mm27 (t_add e133 i33 (in_c 1 rfl) rfl) (in_w 1 1 (in_c 1 rfl) rfl))))))))))))))))
              · skip
                have i114 := z_ne 1 1 c114 i111 rfl
                exact g_iconst 1 118 (gd rfl) rfl rfl (g_ireturn (gd rfl) rfl (nb01 (in_w 0 1 (in_c 1 rfl) rfl)) (hP _ _ ⟨s111, hI111, (fr_tr rfl (fr_sI rfl hFc27) hF111), (Int32.ofInt 1), rfl, rfl, in_w 0 1 (in_c 1 rfl) rfl⟩))
            · skip
              exact zn_ne c73 (in_c 0 rfl) rfl
        · skip
          have i46 := z_eq 0 0 c46 (i_rng z45) rfl
          refine g_iconst 1 50 (gd rfl) rfl rfl (g_goto 54 (gd rfl) rfl (g_istore 56 (gd rfl) rfl (Nat.le_of_ble_eq_true rfl) (g_aload_n 57 (gd rfl) rfl rfl (g_getA (q2 := 61) 60 (gd rfl) rfl rfl rfl rfl (g_iload 62 (gd rfl) rfl rfl (g_ialoadv (y := z42) 63 (gd rfl) rfl (n := 32) rfl (in_ix i33 rfl) (e42) (g_aload_n 64 (gd rfl) rfl rfl (g_iload 66 (gd rfl) rfl rfl (g_iaload 67 (gd rfl) rfl (n := 32) rfl (in_ix j27_4 rfl) (fun z66 e66 => g_iand 68 (gd rfl) rfl (fun z67 e67 => g_if_ne 71 133 (gd rfl) rfl rfl (fun c68 => ?_) (fun c68 => ?_))))))))))))
          · skip
            exact g_iinc 136 (gd rfl) rfl rfl (Nat.le_of_ble_eq_true rfl) (fun z133 e133 => have i133 := in_add 1 32 e133 i33 (in_c 1 rfl) rfl rfl; g_goto 27 (gd rfl) rfl (gg_w (by omega) (gg_f (gf_cons rfl (gf_cons rfl (gf_cons rfl (gf_cons rfl (gf_cons rfl (gf_cons rfl (gf_cons rfl (gf_cons rfl (gf_cons rfl gf_nil))))))))) (ih27 sc27 y27_4 y27_5 y27_6 y27_7 z133 hIc27 hFc27 (in_w 0 31 j27_4 rfl) (in_w 0 1 j27_7 rfl) (in_w 0 32 i133 rfl) (m_up mm27 (t_add e133 i33 (in_c 1 rfl) rfl) (in_w 1 1 (in_c 1 rfl) rfl))))))
          · skip
            have i68 := z_eq 0 0 c68 (i_rng z67) rfl
            refine g_iload 73 (gd rfl) rfl rfl (g_if_eq 76 81 (gd rfl) rfl rfl (fun c73 => ?_) (fun c73 => ?_))
            · skip
              exact zn_eq c73 (in_c 1 rfl) rfl
            · skip
              refine g_iload 78 (gd rfl) rfl rfl (g_if_ne 81 133 (gd rfl) rfl rfl (fun c78 => ?_) (fun c78 => ?_))
              · skip
                have i78 := z_ne 1 1 c78 j27_7 rfl
                exact g_iinc 136 (gd rfl) rfl rfl (Nat.le_of_ble_eq_true rfl) (fun z133 e133 => have i133 := in_add 1 32 e133 i33 (in_c 1 rfl) rfl rfl; g_goto 27 (gd rfl) rfl (gg_w (by omega) (gg_f (gf_cons rfl (gf_cons rfl (gf_cons rfl (gf_cons rfl (gf_cons rfl (gf_cons rfl (gf_cons rfl (gf_cons rfl (gf_cons rfl gf_nil))))))))) (ih27 sc27 y27_4 y27_5 y27_6 y27_7 z133 hIc27 hFc27 (in_w 0 31 j27_4 rfl) (in_w 0 1 i78 rfl) (in_w 0 32 i133 rfl) (m_up mm27 (t_add e133 i33 (in_c 1 rfl) rfl) (in_w 1 1 (in_c 1 rfl) rfl))))))
              · skip
                have i78 := z_eq 0 0 c78 j27_7 rfl
                refine g_iload 83 (gd rfl) rfl rfl (g_iload 85 (gd rfl) rfl rfl (g_ior 86 (gd rfl) rfl (fun z85 e85 => have i85 := in_or 1 e85 (in_w 0 1 i78 rfl) (in_w 0 1 (in_c 1 rfl) rfl) rfl; g_istore 88 (gd rfl) rfl (Nat.le_of_ble_eq_true rfl) (g_aload_n 89 (gd rfl) rfl rfl (g_getA (q2 := 61) 92 (gd rfl) rfl rfl rfl rfl (g_iload 94 (gd rfl) rfl rfl (g_dup2 95 (gd rfl) rfl rfl rfl (g_ialoadv (y := z42) 96 (gd rfl) rfl (n := 32) rfl (in_ix i33 rfl) (e42) (g_iload 98 (gd rfl) rfl rfl (g_ior 99 (gd rfl) rfl (fun z98 e98 => g_iastore 100 (gd rfl) rfl (n := 32) rfl (in_ix i33 rfl) (have hI99 := inv_sI (q := 61) (j := y27_8.toNatClampNeg) hIc27 rfl (in_w (-2147483648) 2147483647 (i_rng z98) rfl); g_aload_n 101 (gd rfl) rfl rfl (g_aload_n 102 (gd rfl) rfl rfl (g_iload_n 103 (gd rfl) rfl rfl (g_iload 105 (gd rfl) rfl rfl (g_iconst (-1) 106 (gd rfl) rfl rfl (g_ixor 107 (gd rfl) rfl (fun z106 e106 => g_iand 108 (gd rfl) rfl (fun z107 e107 => g_iload_n 109 (gd rfl) rfl rfl (g_iconst 1 110 (gd rfl) rfl rfl (g_iadd 111 (gd rfl) rfl (fun z110 e110 => ?_))))))))))))))))))))))
                have i110 := in_add 1 33 e110 h3 (in_c 1 rfl) rfl rfl
                have n111 : 33 - (z110).toInt < ((kk : Nat) : Int) := by exact (have a0 := in_u h3; have a1 := in_u i33a; have a2 := in_u i33; have a3 := in_u i78; have a4 := in_u j27_4; have a5 := in_u ((in_c 1 rfl)); have a6 := in_u i85; have a7 := in_u i110; have a8 := t_add e110 h3 (in_c 1 rfl) rfl; by omega)
                refine g_callv (X := _) (As := [.ref (A 9), .int z107, .int z110]) (r := []) (b := A 60) (q := 60) 114 (gd rfl) rfl rfl rfl rfl rfl (ww_o rfl) (Nat.le_of_ble_eq_true rfl) (Nat.zero_le _) (Nat.zero_le _) (ihF (by omega) hI99 (in_w 0 33 i110 rfl) n111) (fun e u h => h) (fun v u h => ?_)
                obtain ⟨s111, hI111, hF111, z111, rfl, rfl, i111⟩ := h
                show GG _ _ _ _ _ _ _ _ [.int z111] _ _ _
                refine g_if_eq 117 119 (gd rfl) rfl rfl (fun c114 => ?_) (fun c114 => ?_)
                · skip
                  have i114 := z_eq 0 0 c114 i111 rfl
                  exact g_aload_n 120 (gd rfl) rfl rfl (g_getA (q2 := 61) 123 (gd rfl) rfl rfl rfl rfl (g_iload 125 (gd rfl) rfl rfl (g_dup2 126 (gd rfl) rfl rfl rfl (g_iaload 127 (gd rfl) rfl (n := 32) rfl (in_ix i33 rfl) (fun z126 e126 => g_iload 129 (gd rfl) rfl rfl (g_iconst (-1) 130 (gd rfl) rfl rfl (g_ixor 131 (gd rfl) rfl (fun z130 e130 => g_iand 132 (gd rfl) rfl (fun z131 e131 => g_iastore 133 (gd rfl) rfl (n := 32) rfl (in_ix i33 rfl) (have hI132 := inv_sI (q := 61) (j := y27_8.toNatClampNeg) hI111 rfl (in_w (-2147483648) 2147483647 (i_rng z131) rfl); g_iinc 136 (gd rfl) rfl rfl (Nat.le_of_ble_eq_true rfl) (fun z133 e133 => have i133 := in_add 1 32 e133 i33 (in_c 1 rfl) rfl rfl; g_goto 27 (gd rfl) rfl (gg_w (by omega) (gg_f (gf_cons rfl (gf_cons rfl (gf_cons rfl (gf_cons rfl (gf_cons rfl (gf_cons rfl (gf_cons rfl (gf_cons rfl (gf_cons rfl gf_nil))))))))) (ih27 (sI s111 61 y27_8.toNatClampNeg z131) y27_4 y27_5 y27_6 z85 z133 hI132 (fr_sI rfl (fr_tr rfl (fr_sI rfl hFc27) hF111)) (in_w 0 31 j27_4 rfl) (in_w 0 1 i85 rfl) (in_w 0 32 i133 rfl) (m_up mm27 (t_add e133 i33 (in_c 1 rfl) rfl) (in_w 1 1 (in_c 1 rfl) rfl))))))))))))))))
                · skip
                  have i114 := z_ne 1 1 c114 i111 rfl
                  exact g_iconst 1 118 (gd rfl) rfl rfl (g_ireturn (gd rfl) rfl (nb01 (in_w 0 1 (in_c 1 rfl) rfl)) (hP _ _ ⟨s111, hI111, (fr_tr rfl (fr_sI rfl hFc27) hF111), (Int32.ofInt 1), rfl, rfl, in_w 0 1 (in_c 1 rfl) rfl⟩))
  refine g_enter2 (k := 47) (N := 30601) (by omega) rfl (Nat.le_of_ble_eq_true rfl) (g_aload_n 1 (gd rfl) rfl rfl (g_aload_n 2 (gd rfl) rfl rfl (g_iload_n 3 (gd rfl) rfl rfl (g_callv (X := _) (As := [.ref (A 9), .int x2]) (r := []) (b := A 60) (q := 60) 6 (gd rfl) rfl rfl rfl rfl rfl (ww_o rfl) (Nat.le_of_ble_eq_true rfl) (Nat.zero_le _) (Nat.zero_le _) (k_52_60_9 (by omega) hI nza_2) (fun e u h => h) (fun v u h => ?_)))))
  obtain ⟨z3, rfl, rfl, i3⟩ := h
  show GG _ _ _ _ _ _ _ _ [.int z3] _ _ _
  refine g_istore 8 (gd rfl) rfl (Nat.le_of_ble_eq_true rfl) (g_iconst 1 9 (gd rfl) rfl rfl (g_iload 11 (gd rfl) rfl rfl (g_ishl 12 (gd rfl) rfl (fun z11 e11 => g_istore 14 (gd rfl) rfl (Nat.le_of_ble_eq_true rfl) (g_aload_n 15 (gd rfl) rfl rfl (g_iload_n 16 (gd rfl) rfl rfl (g_calls (As := [.ref (A 9), .int x2]) (r := []) 19 (gd rfl) rfl rfl rfl rfl rfl (Nat.le_of_ble_eq_true rfl) (Nat.zero_le _) (Nat.zero_le _) (k_48_9 (by omega) hI ) (fun v u h => ?_))))))))
  obtain ⟨z16, rfl, rfl, i16⟩ := h
  show GG _ _ _ _ _ _ _ _ [.int z16] _ _ _
  exact g_istore 21 (gd rfl) rfl (Nat.le_of_ble_eq_true rfl) (g_iconst 0 22 (gd rfl) rfl rfl (g_istore 24 (gd rfl) rfl (Nat.le_of_ble_eq_true rfl) (g_iconst 0 25 (gd rfl) rfl rfl (g_istore 27 (gd rfl) rfl (Nat.le_of_ble_eq_true rfl) (gg_w (by omega) (gg_f (gf_cons rfl (gf_cons rfl (gf_cons rfl (gf_cons rfl (gf_cons rfl (gf_cons rfl (gf_cons rfl (gf_cons rfl (gf_cons rfl gf_nil))))))))) (ct27 33 s z3 z11 z16 (Int32.ofInt 0) (Int32.ofInt 0) hI fr_rf (in_w 0 31 i3 rfl) (in_w 0 1 (in_c 0 rfl) rfl) (in_w 0 32 (in_c 0 rfl) rfl) (m_in 33 (in_w 0 32 (in_c 0 rfl) rfl) rfl))))))))
theorem k_46_60_9_r {Z : AmZ} {A : Nat → Nat} {ex : va_W} (kk : Nat) : ∀ {s : GS} {d : Nat} {X : AmX} {x2 : Int32} {x3 : Int32}, 40 + kk * 10 ≤ d → Inv s → (In x3 0 33) → 33 - (x3).toInt < ((kk : Nat) : Int) → GC Z d 46 [.ref (A 60), .ref (A 9), .int x2, .int x3] (WW Z A s ++ ex) 0 0 (fun v u => ∃ t : GS, Inv t ∧ Fr fm_46_60_9 s t ∧ ∃ z : Int32, v = some (.int z) ∧ u = WW Z A t ++ ex ∧ In z 0 1) X := by
  induction kk with
  | zero => intro s d X x2 x3 hd hI h3 hm; exact m_no hm h3 rfl
  | succ kk ih =>
    have ihP : ∀ {s : GS} {d : Nat} {X : AmX} {x2 : Int32} {x3 : Int32}, 45 + kk * 10 ≤ d → Inv s → (In x3 0 32) → (x2.toInt ≠ 0) → 33 - (x3).toInt < ((kk + 1 : Nat) : Int) → GC Z d 47 [.ref (A 60), .ref (A 9), .int x2, .int x3] (WW Z A s ++ ex) 0 0 (fun v u => ∃ t : GS, Inv t ∧ Fr fm_47_60_9 s t ∧ ∃ z : Int32, v = some (.int z) ∧ u = WW Z A t ++ ex ∧ In z 0 1) X := k_47_60_9_r kk ih
    intro s d X x2 x3 hd hI h3 hm
    intro post xp hP hX
    obtain ⟨u_60_3, e_60_3⟩ : ∃ w, w = s.2.2.1 60 3 := ⟨_, rfl⟩
    have ro_60_3 := inv_F hI 0 32 rfl e_60_3
    have ct65 : ∀ (k65 : Nat) (sc65 : GS) (y65_4 : Int32) (y65_5 : Int32) (y65_6 : Int32) (y65_7 : Int32) (y65_8 : Int32), Inv sc65 → Fr fm_46_60_9 s sc65 → (In x3 0 32) → (In y65_4 0 32) → (In y65_6 0 31) → (In y65_8 0 32) → ((y65_5).toInt ≠ 0) → 32 - (y65_8).toInt < (k65 : Int) → GG Z (d - 1) 46 post (gx xp) (1 + k65 * 900) 65 (fun j => xlook j [(0, .ref (A 60)), (1, .ref (A 9)), (2, .int x2), (3, .int x3), (4, .int y65_4), (5, .int y65_5), (6, .int y65_6), (7, .int y65_7), (8, .int y65_8)]) [] (WW Z A sc65 ++ ex) 0 0 := by
      intro k65
      induction k65 with
      | zero => intro sc65 y65_4 y65_5 y65_6 y65_7 y65_8 hIc65 hFc65 j65_3 j65_4 j65_6 j65_8 nz65_5 mm65; exact m_no mm65 j65_8 rfl
      | succ k65 ih65 =>
        intro sc65 y65_4 y65_5 y65_6 y65_7 y65_8 hIc65 hFc65 j65_3 j65_4 j65_6 j65_8 nz65_5 mm65
        refine gg_w (M := 1 + k65 * 900 + 900) (by omega) (g_iload 67 (gd rfl) rfl rfl (g_aload_n 68 (gd rfl) rfl rfl (g_getIv (y := u_60_3) 71 (gd rfl) rfl rfl rfl (fr_F e_60_3 hFc65 rfl) (g_cmp_ge 74 93 (gd rfl) rfl rfl (fun c71 => ?_) (fun c71 => ?_)))))
        · skip
          exact g_aload_n 94 (gd rfl) rfl rfl (g_iload 96 (gd rfl) rfl rfl (g_putI 99 (gd rfl) rfl rfl rfl rfl (have hI96 := inv_sF (q := 60) (j := 7) hIc65 rfl (in_w 0 32 j65_4 rfl); g_iconst 0 100 (gd rfl) rfl rfl (g_ireturn (gd rfl) rfl (nb01 (in_w 0 1 (in_c 0 rfl) rfl)) (hP _ _ ⟨(sF sc65 60 7 y65_4), hI96, (fr_sF rfl hFc65), (Int32.ofInt 0), rfl, rfl, in_w 0 1 (in_c 0 rfl) rfl⟩)))))
        · skip
          have i71 := r_lt1 0 31 c71 j65_8 ro_60_3 rfl
          have i71a := r_lt2 1 32 c71 j65_8 ro_60_3 rfl
          exact g_aload_n 75 (gd rfl) rfl rfl (g_getA (q2 := 61) 78 (gd rfl) rfl rfl rfl rfl (g_iload 80 (gd rfl) rfl rfl (g_dup2 81 (gd rfl) rfl rfl rfl (g_iaload 82 (gd rfl) rfl (n := 32) rfl (in_ix i71 rfl) (fun z81 e81 => g_iload_n 83 (gd rfl) rfl rfl (g_iconst (-1) 84 (gd rfl) rfl rfl (g_ixor 85 (gd rfl) rfl (fun z84 e84 => g_iand 86 (gd rfl) rfl (fun z85 e85 => g_iastore 87 (gd rfl) rfl (n := 32) rfl (in_ix i71 rfl) (have hI86 := inv_sI (q := 61) (j := y65_8.toNatClampNeg) hIc65 rfl (in_w (-2147483648) 2147483647 (i_rng z85) rfl); g_iinc 90 (gd rfl) rfl rfl (Nat.le_of_ble_eq_true rfl) (fun z87 e87 => have i87 := in_add 1 32 e87 i71 (in_c 1 rfl) rfl rfl; g_goto 65 (gd rfl) rfl (gg_w (by omega) (gg_f (gf_cons rfl (gf_cons rfl (gf_cons rfl (gf_cons rfl (gf_cons rfl (gf_cons rfl (gf_cons rfl (gf_cons rfl (gf_cons rfl gf_nil))))))))) (ih65 (sI sc65 61 y65_8.toNatClampNeg z85) y65_4 y65_5 y65_6 y65_7 z87 hI86 (fr_sI rfl hFc65) (in_w 0 32 j65_3 rfl) (in_w 0 32 j65_4 rfl) (in_w 0 31 j65_6 rfl) (in_w 0 32 i87 rfl) nz65_5 (m_up mm65 (t_add e87 i71 (in_c 1 rfl) rfl) (in_w 1 1 (in_c 1 rfl) rfl))))))))))))))))
    have ct25 : ∀ (k25 : Nat) (sc25 : GS) (y25_4 : Int32) (y25_5 : Int32) (y25_6 : Int32), Inv sc25 → Fr fm_46_60_9 s sc25 → (In x3 0 32) → (In y25_4 0 32) → (In y25_6 0 32) → 32 - (y25_6).toInt < (k25 : Int) → GG Z (d - 1) 46 post (gx xp) (29702 + k25 * 900) 25 (fun j => xlook j [(0, .ref (A 60)), (1, .ref (A 9)), (2, .int x2), (3, .int x3), (4, .int y25_4), (5, .int y25_5), (6, .int y25_6)]) [] (WW Z A sc25 ++ ex) 0 0 := by
      intro k25
      induction k25 with
      | zero => intro sc25 y25_4 y25_5 y25_6 hIc25 hFc25 j25_3 j25_4 j25_6 mm25; exact m_no mm25 j25_6 rfl
      | succ k25 ih25 =>
        intro sc25 y25_4 y25_5 y25_6 hIc25 hFc25 j25_3 j25_4 j25_6 mm25
        refine gg_w (M := 29702 + k25 * 900 + 900) (by omega) (g_iload 27 (gd rfl) rfl rfl (g_bipush 32 29 (gd rfl) rfl rfl (g_cmp_ge 32 116 (gd rfl) rfl rfl (fun c29 => ?_) (fun c29 => ?_))))
        · skip
          have i29 := r_le2 32 32 c29 (in_c 32 rfl) j25_6 rfl
          refine g_aload_n 117 (gd rfl) rfl rfl (g_aload_n 118 (gd rfl) rfl rfl (g_iload 120 (gd rfl) rfl rfl (g_callv (X := _) (As := [.ref (A 9), .int y25_4]) (r := []) (b := A 60) (q := 60) 123 (gd rfl) rfl rfl rfl rfl rfl (ww_o rfl) (Nat.le_of_ble_eq_true rfl) (Nat.zero_le _) (Nat.zero_le _) (k_50_60_9 (by omega) hIc25 (in_w 0 32 j25_4 rfl)) (fun e u h => h) (fun v u h => ?_))))
          obtain ⟨s120, hI120, hF120, rfl, rfl⟩ := h
          show GG _ _ _ _ _ _ _ _ [] _ _ _
          exact g_iconst 1 124 (gd rfl) rfl rfl (g_ireturn (gd rfl) rfl (nb01 (in_w 0 1 (in_c 1 rfl) rfl)) (hP _ _ ⟨s120, hI120, (fr_tr rfl hFc25 hF120), (Int32.ofInt 1), rfl, rfl, in_w 0 1 (in_c 1 rfl) rfl⟩))
        · skip
          have i29 := r_lt1 0 31 c29 j25_6 (in_c 32 rfl) rfl
          refine g_iload 34 (gd rfl) rfl rfl (g_if_eq 37 116 (gd rfl) rfl rfl (fun c34 => ?_) (fun c34 => ?_))
          · skip
            have i34 := z_eq 0 0 c34 (i_rng y25_5) rfl
            refine g_aload_n 117 (gd rfl) rfl rfl (g_aload_n 118 (gd rfl) rfl rfl (g_iload 120 (gd rfl) rfl rfl (g_callv (X := _) (As := [.ref (A 9), .int y25_4]) (r := []) (b := A 60) (q := 60) 123 (gd rfl) rfl rfl rfl rfl rfl (ww_o rfl) (Nat.le_of_ble_eq_true rfl) (Nat.zero_le _) (Nat.zero_le _) (k_50_60_9 (by omega) hIc25 (in_w 0 32 j25_4 rfl)) (fun e u h => h) (fun v u h => ?_))))
            obtain ⟨s120, hI120, hF120, rfl, rfl⟩ := h
            show GG _ _ _ _ _ _ _ _ [] _ _ _
            exact g_iconst 1 124 (gd rfl) rfl rfl (g_ireturn (gd rfl) rfl (nb01 (in_w 0 1 (in_c 1 rfl) rfl)) (hP _ _ ⟨s120, hI120, (fr_tr rfl hFc25 hF120), (Int32.ofInt 1), rfl, rfl, in_w 0 1 (in_c 1 rfl) rfl⟩))
          · skip
            refine g_aload_n 38 (gd rfl) rfl rfl (g_iload 40 (gd rfl) rfl rfl (g_iload 42 (gd rfl) rfl rfl (g_ineg 43 (gd rfl) rfl (fun z42 e42 => g_iand 44 (gd rfl) rfl (fun z43 e43 => g_iload 46 (gd rfl) rfl rfl (g_calls (As := [.ref (A 9), .int z43, .int y25_5]) (r := []) 49 (gd rfl) rfl rfl rfl rfl rfl (Nat.le_of_ble_eq_true rfl) (Nat.zero_le _) (Nat.zero_le _) (k_266_9 (by omega) hIc25 ) (fun v u h => ?_)))))))
            obtain ⟨z46, rfl, rfl, i46, p46⟩ := h
            show GG _ _ _ _ _ _ _ _ [.int z46] _ _ _
            refine g_istore 51 (gd rfl) rfl (Nat.le_of_ble_eq_true rfl) (g_aload_n 52 (gd rfl) rfl rfl (g_aload_n 53 (gd rfl) rfl rfl (g_iload 55 (gd rfl) rfl rfl (g_iload_n 56 (gd rfl) rfl rfl ?_))))
            have nz56 : (z46).toInt ≠ 0 := by obtain ⟨k, hk⟩ := lsb_bit c34 e42 e43; exact bt_nz (p46 k hk)
            have n56 : 33 - (x3).toInt < ((kk + 1 : Nat) : Int) := by exact (have a0 := in_u j25_3; have a1 := in_u ro_60_3; have a2 := in_u i29; have a3 := in_u j25_4; by omega)
            refine g_callv (X := _) (As := [.ref (A 9), .int z46, .int x3]) (r := []) (b := A 60) (q := 60) 59 (gd rfl) rfl rfl rfl rfl rfl (ww_o rfl) (Nat.le_of_ble_eq_true rfl) (Nat.zero_le _) (Nat.zero_le _) (ihP (by omega) hIc25 (in_w 0 32 j25_3 rfl) nz56 n56) (fun e u h => h) (fun v u h => ?_)
            obtain ⟨s56, hI56, hF56, z56, rfl, rfl, i56⟩ := h
            show GG _ _ _ _ _ _ _ _ [.int z56] _ _ _
            refine g_if_ne 62 101 (gd rfl) rfl rfl (fun c59 => ?_) (fun c59 => ?_)
            · skip
              have i59 := z_ne 1 1 c59 i56 rfl
              exact g_iload 103 (gd rfl) rfl rfl (g_iload 105 (gd rfl) rfl rfl (g_iconst (-1) 106 (gd rfl) rfl rfl (g_ixor 107 (gd rfl) rfl (fun z106 e106 => g_iand 108 (gd rfl) rfl (fun z107 e107 => g_istore 110 (gd rfl) rfl (Nat.le_of_ble_eq_true rfl) (g_iinc 113 (gd rfl) rfl rfl (Nat.le_of_ble_eq_true rfl) (fun z110 e110 => have i110 := in_add 1 32 e110 i29 (in_c 1 rfl) rfl rfl; g_goto 25 (gd rfl) rfl (gg_w (by omega) (gg_f (gf_cons rfl (gf_cons rfl (gf_cons rfl (gf_cons rfl (gf_cons rfl (gf_cons rfl (gf_cons rfl gf_nil))))))) (ih25 s56 y25_4 z107 z110 hI56 (fr_tr rfl hFc25 hF56) (in_w 0 32 j25_3 rfl) (in_w 0 32 j25_4 rfl) (in_w 0 32 i110 rfl) (m_up mm25 (t_add e110 i29 (in_c 1 rfl) rfl) (in_w 1 1 (in_c 1 rfl) rfl))))))))))))
            · skip
              have i59 := z_eq 0 0 c59 i56 rfl
              exact g_iconst 0 63 (gd rfl) rfl rfl (g_istore 65 (gd rfl) rfl (Nat.le_of_ble_eq_true rfl) (gg_w (by omega) (gg_f (gf_cons rfl (gf_cons rfl (gf_cons rfl (gf_cons rfl (gf_cons rfl (gf_cons rfl (gf_cons rfl (gf_cons rfl (gf_cons rfl gf_nil))))))))) (ct65 33 s56 y25_4 y25_5 y25_6 z46 (Int32.ofInt 0) hI56 (fr_tr rfl hFc25 hF56) (in_w 0 32 j25_3 rfl) (in_w 0 32 j25_4 rfl) (in_w 0 31 i29 rfl) (in_w 0 32 (in_c 0 rfl) rfl) c34 (m_in 33 (in_w 0 32 (in_c 0 rfl) rfl) rfl)))))
    refine g_enter2 (k := 46) (N := 60302) (by omega) rfl (Nat.le_of_ble_eq_true rfl) (g_iload_n 1 (gd rfl) rfl rfl (g_bipush 32 3 (gd rfl) rfl rfl (g_cmp_le 6 8 (gd rfl) rfl rfl (fun c3 => ?_) (fun c3 => ?_))))
    · skip
      have i3 := r_le1 0 32 c3 h3 (in_c 32 rfl) rfl
      refine g_aload_n 9 (gd rfl) rfl rfl (g_getI 12 (gd rfl) rfl rfl rfl (fun z9 e9 => have i9 := inv_F hI 0 32 rfl e9; g_istore 14 (gd rfl) rfl (Nat.le_of_ble_eq_true rfl) (g_aload_n 15 (gd rfl) rfl rfl (g_aload_n 16 (gd rfl) rfl rfl (g_iload_n 17 (gd rfl) rfl rfl (g_callv (X := _) (As := [.ref (A 9), .int x2]) (r := []) (b := A 60) (q := 60) 20 (gd rfl) rfl rfl rfl rfl rfl (ww_o rfl) (Nat.le_of_ble_eq_true rfl) (Nat.zero_le _) (Nat.zero_le _) (k_49_60_9 (by omega) hI ) (fun e u h => h) (fun v u h => ?_)))))))
      obtain ⟨s17, hI17, hF17, z17, rfl, rfl, i17⟩ := h
      show GG _ _ _ _ _ _ _ _ [.int z17] _ _ _
      exact g_istore 22 (gd rfl) rfl (Nat.le_of_ble_eq_true rfl) (g_iconst 0 23 (gd rfl) rfl rfl (g_istore 25 (gd rfl) rfl (Nat.le_of_ble_eq_true rfl) (gg_w (by omega) (gg_f (gf_cons rfl (gf_cons rfl (gf_cons rfl (gf_cons rfl (gf_cons rfl (gf_cons rfl (gf_cons rfl gf_nil))))))) (ct25 33 s17 z9 z17 (Int32.ofInt 0) hI17 (fr_tr rfl fr_rf hF17) (in_w 0 32 i3 rfl) (in_w 0 32 i9 rfl) (in_w 0 32 (in_c 0 rfl) rfl) (m_in 33 (in_w 0 32 (in_c 0 rfl) rfl) rfl))))))
    · skip
      have i3 := r_lt2 33 33 c3 (in_c 32 rfl) h3 rfl
      exact g_iconst 0 7 (gd rfl) rfl rfl (g_ireturn (gd rfl) rfl (nb01 (in_w 0 1 (in_c 0 rfl) rfl)) (hP _ _ ⟨s, hI, fr_rf, (Int32.ofInt 0), rfl, rfl, in_w 0 1 (in_c 0 rfl) rfl⟩))
theorem k_46_60_9 {Z : AmZ} {A : Nat → Nat} {s : GS} {ex : va_W} {d : Nat} {X : AmX} {x2 : Int32} {x3 : Int32} (hd : 380 ≤ d) (hI : Inv s) (h3 : (In x3 0 33)) : GC Z d 46 [.ref (A 60), .ref (A 9), .int x2, .int x3] (WW Z A s ++ ex) 0 0 (fun v u => ∃ t : GS, Inv t ∧ Fr fm_46_60_9 s t ∧ ∃ z : Int32, v = some (.int z) ∧ u = WW Z A t ++ ex ∧ In z 0 1) X := k_46_60_9_r 34 (by omega) hI h3 (m_in 34 h3 rfl)

def fm_46_60_39 : FM := ([61, 63], [], [(60, 7)], [])
def fm_47_60_39 : FM := ([61, 63], [], [(60, 7)], [])
theorem k_47_60_39_r {Z : AmZ} {A : Nat → Nat} {ex : va_W} (kk : Nat) (ihF : ∀ {s : GS} {d : Nat} {X : AmX} {x2 : Int32} {x3 : Int32}, 40 + kk * 10 ≤ d → Inv s → (In x3 0 33) → 33 - (x3).toInt < ((kk : Nat) : Int) → GC Z d 46 [.ref (A 60), .ref (A 39), .int x2, .int x3] (WW Z A s ++ ex) 0 0 (fun v u => ∃ t : GS, Inv t ∧ Fr fm_46_60_39 s t ∧ ∃ z : Int32, v = some (.int z) ∧ u = WW Z A t ++ ex ∧ In z 0 1) X) : ∀ {s : GS} {d : Nat} {X : AmX} {x2 : Int32} {x3 : Int32}, 45 + kk * 10 ≤ d → Inv s → (In x3 0 32) → (x2.toInt ≠ 0) → 33 - (x3).toInt < ((kk + 1 : Nat) : Int) → GC Z d 47 [.ref (A 60), .ref (A 39), .int x2, .int x3] (WW Z A s ++ ex) 0 0 (fun v u => ∃ t : GS, Inv t ∧ Fr fm_47_60_39 s t ∧ ∃ z : Int32, v = some (.int z) ∧ u = WW Z A t ++ ex ∧ In z 0 1) X := by
  intro s d X x2 x3 hd hI h3 nza_2 hm
  intro post xp hP hX
  obtain ⟨u_60_3, e_60_3⟩ : ∃ w, w = s.2.2.1 60 3 := ⟨_, rfl⟩
  have ro_60_3 := inv_F hI 0 32 rfl e_60_3
  have ct27 : ∀ (k27 : Nat) (sc27 : GS) (y27_4 : Int32) (y27_5 : Int32) (y27_6 : Int32) (y27_7 : Int32) (y27_8 : Int32), Inv sc27 → Fr fm_47_60_39 s sc27 → (In y27_4 0 31) → (In y27_7 0 1) → (In y27_8 0 32) → 32 - (y27_8).toInt < (k27 : Int) → GG Z (d - 1) 47 post (gx xp) (1 + k27 * 900) 27 (fun j => xlook j [(0, .ref (A 60)), (1, .ref (A 39)), (2, .int x2), (3, .int x3), (4, .int y27_4), (5, .int y27_5), (6, .int y27_6), (7, .int y27_7), (8, .int y27_8)]) [] (WW Z A sc27 ++ ex) 0 0 := by
    intro k27
    induction k27 with
    | zero => intro sc27 y27_4 y27_5 y27_6 y27_7 y27_8 hIc27 hFc27 j27_4 j27_7 j27_8 mm27; exact m_no mm27 j27_8 rfl
    | succ k27 ih27 =>
      intro sc27 y27_4 y27_5 y27_6 y27_7 y27_8 hIc27 hFc27 j27_4 j27_7 j27_8 mm27
      refine gg_w (M := 1 + k27 * 900 + 900) (by omega) (g_iload 29 (gd rfl) rfl rfl (g_aload_n 30 (gd rfl) rfl rfl (g_getIv (y := u_60_3) 33 (gd rfl) rfl rfl rfl (fr_F e_60_3 hFc27 rfl) (g_cmp_ge 36 139 (gd rfl) rfl rfl (fun c33 => ?_) (fun c33 => ?_)))))
      · skip
        exact g_iconst 0 140 (gd rfl) rfl rfl (g_ireturn (gd rfl) rfl (nb01 (in_w 0 1 (in_c 0 rfl) rfl)) (hP _ _ ⟨sc27, hIc27, hFc27, (Int32.ofInt 0), rfl, rfl, in_w 0 1 (in_c 0 rfl) rfl⟩))
      · skip
        have i33 := r_lt1 0 31 c33 j27_8 ro_60_3 rfl
        have i33a := r_lt2 1 32 c33 j27_8 ro_60_3 rfl
        refine g_aload_n 37 (gd rfl) rfl rfl (g_getA (q2 := 61) 40 (gd rfl) rfl rfl rfl rfl (g_iload 42 (gd rfl) rfl rfl (g_iaload 43 (gd rfl) rfl (n := 32) rfl (in_ix i33 rfl) (fun z42 e42 => g_iload 45 (gd rfl) rfl rfl (g_iand 46 (gd rfl) rfl (fun z45 e45 => g_if_ne 49 53 (gd rfl) rfl rfl (fun c46 => ?_) (fun c46 => ?_)))))))
        · skip
          refine g_iconst 0 54 (gd rfl) rfl rfl (g_istore 56 (gd rfl) rfl (Nat.le_of_ble_eq_true rfl) (g_aload_n 57 (gd rfl) rfl rfl (g_getA (q2 := 61) 60 (gd rfl) rfl rfl rfl rfl (g_iload 62 (gd rfl) rfl rfl (g_ialoadv (y := z42) 63 (gd rfl) rfl (n := 32) rfl (in_ix i33 rfl) (e42) (g_aload_n 64 (gd rfl) rfl rfl (g_iload 66 (gd rfl) rfl rfl (g_iaload 67 (gd rfl) rfl (n := 32) rfl (in_ix j27_4 rfl) (fun z66 e66 => g_iand 68 (gd rfl) rfl (fun z67 e67 => g_if_ne 71 133 (gd rfl) rfl rfl (fun c68 => ?_) (fun c68 => ?_)))))))))))
          · skip
            exact g_iinc 136 (gd rfl) rfl rfl (Nat.le_of_ble_eq_true rfl) (fun z133 e133 => have i133 := in_add 1 32 e133 i33 (in_c 1 rfl) rfl rfl; g_goto 27 (gd rfl) rfl (gg_w (by omega) (gg_f (gf_cons rfl (gf_cons rfl (gf_cons rfl (gf_cons rfl (gf_cons rfl (gf_cons rfl (gf_cons rfl (gf_cons rfl (gf_cons rfl gf_nil))))))))) (ih27 sc27 y27_4 y27_5 y27_6 y27_7 z133 hIc27 hFc27 (in_w 0 31 j27_4 rfl) (in_w 0 1 j27_7 rfl) (in_w 0 32 i133 rfl) (m_up mm27 (t_add e133 i33 (in_c 1 rfl) rfl) (in_w 1 1 (in_c 1 rfl) rfl))))))
          · skip
            have i68 := z_eq 0 0 c68 (i_rng z67) rfl
            refine g_iload 73 (gd rfl) rfl rfl (g_if_eq 76 81 (gd rfl) rfl rfl (fun c73 => ?_) (fun c73 => ?_))
            · skip
              refine g_iload 83 (gd rfl) rfl rfl (g_iload 85 (gd rfl) rfl rfl (g_ior 86 (gd rfl) rfl (fun z85 e85 => have i85 := in_or 1 e85 (in_w 0 1 j27_7 rfl) (in_w 0 1 (in_c 0 rfl) rfl) rfl; g_istore 88 (gd rfl) rfl (Nat.le_of_ble_eq_true rfl) (g_aload_n 89 (gd rfl) rfl rfl (g_getA (q2 := 61) 92 (gd rfl) rfl rfl rfl rfl (g_iload 94 (gd rfl) rfl rfl (g_dup2 95 (gd rfl) rfl rfl rfl (g_ialoadv (y := z42) 96 (gd rfl) rfl (n := 32) rfl (in_ix i33 rfl) (e42) (g_iload 98 (gd rfl) rfl rfl (g_ior 99 (gd rfl) rfl (fun z98 e98 => g_iastore 100 (gd rfl) rfl (n := 32) rfl (in_ix i33 rfl) (have hI99 := inv_sI (q := 61) (j := y27_8.toNatClampNeg) hIc27 rfl (in_w (-2147483648) 2147483647 (i_rng z98) rfl); g_aload_n 101 (gd rfl) rfl rfl (g_aload_n 102 (gd rfl) rfl rfl (g_iload_n 103 (gd rfl) rfl rfl (g_iload 105 (gd rfl) rfl rfl (g_iconst (-1) 106 (gd rfl) rfl rfl (g_ixor 107 (gd rfl) rfl (fun z106 e106 => g_iand 108 (gd rfl) rfl (fun z107 e107 => g_iload_n 109 (gd rfl) rfl rfl (g_iconst 1 110 (gd rfl) rfl rfl (g_iadd 111 (gd rfl) rfl (fun z110 e110 => ?_))))))))))))))))))))))
              have i110 := in_add 1 33 e110 h3 (in_c 1 rfl) rfl rfl
              have n111 : 33 - (z110).toInt < ((kk : Nat) : Int) := by exact (have a0 := in_u h3; have a1 := in_u i33a; have a2 := in_u i33; have a3 := in_u j27_7; have a4 := in_u j27_4; have a5 := in_u ((in_c 0 rfl)); have a6 := in_u i85; have a7 := in_u i110; have a8 := t_add e110 h3 (in_c 1 rfl) rfl; have a9 := in_u ((in_c 1 rfl)); by omega)
              refine g_callv (X := _) (As := [.ref (A 39), .int z107, .int z110]) (r := []) (b := A 60) (q := 60) 114 (gd rfl) rfl rfl rfl rfl rfl (ww_o rfl) (Nat.le_of_ble_eq_true rfl) (Nat.zero_le _) (Nat.zero_le _) (ihF (by omega) hI99 (in_w 0 33 i110 rfl) n111) (fun e u h => h) (fun v u h => ?_)
              obtain ⟨s111, hI111, hF111, z111, rfl, rfl, i111⟩ := h
              show GG _ _ _ _ _ _ _ _ [.int z111] _ _ _
              refine g_if_eq 117 119 (gd rfl) rfl rfl (fun c114 => ?_) (fun c114 => ?_)
              · skip
                have i114 := z_eq 0 0 c114 i111 rfl
                exact g_aload_n 120 (gd rfl) rfl rfl (g_getA (q2 := 61) 123 (gd rfl) rfl rfl rfl rfl (g_iload 125 (gd rfl) rfl rfl (g_dup2 126 (gd rfl) rfl rfl rfl (g_iaload 127 (gd rfl) rfl (n := 32) rfl (in_ix i33 rfl) (fun z126 e126 => g_iload 129 (gd rfl) rfl rfl (g_iconst (-1) 130 (gd rfl) rfl rfl (g_ixor 131 (gd rfl) rfl (fun z130 e130 => g_iand 132 (gd rfl) rfl (fun z131 e131 => g_iastore 133 (gd rfl) rfl (n := 32) rfl (in_ix i33 rfl) (have hI132 := inv_sI (q := 61) (j := y27_8.toNatClampNeg) hI111 rfl (in_w (-2147483648) 2147483647 (i_rng z131) rfl); g_iinc 136 (gd rfl) rfl rfl (Nat.le_of_ble_eq_true rfl) (fun z133 e133 => have i133 := in_add 1 32 e133 i33 (in_c 1 rfl) rfl rfl; g_goto 27 (gd rfl) rfl (gg_w (by omega) (gg_f (gf_cons rfl (gf_cons rfl (gf_cons rfl (gf_cons rfl (gf_cons rfl (gf_cons rfl (gf_cons rfl (gf_cons rfl (gf_cons rfl gf_nil))))))))) (ih27 (sI s111 61 y27_8.toNatClampNeg z131) y27_4 y27_5 y27_6 z85 z133 hI132 (fr_sI rfl (fr_tr rfl (fr_sI rfl hFc27) hF111)) (in_w 0 31 j27_4 rfl) (in_w 0 1 i85 rfl) (in_w 0 32 i133 rfl) (m_up mm27 (t_add e133 i33 (in_c 1 rfl) rfl) (in_w 1 1 (in_c 1 rfl) rfl))))))))))))))))
              · skip
                have i114 := z_ne 1 1 c114 i111 rfl
                exact g_iconst 1 118 (gd rfl) rfl rfl (g_ireturn (gd rfl) rfl (nb01 (in_w 0 1 (in_c 1 rfl) rfl)) (hP _ _ ⟨s111, hI111, (fr_tr rfl (fr_sI rfl hFc27) hF111), (Int32.ofInt 1), rfl, rfl, in_w 0 1 (in_c 1 rfl) rfl⟩))
            · skip
              exact zn_ne c73 (in_c 0 rfl) rfl
        · skip
          have i46 := z_eq 0 0 c46 (i_rng z45) rfl
          refine g_iconst 1 50 (gd rfl) rfl rfl (g_goto 54 (gd rfl) rfl (g_istore 56 (gd rfl) rfl (Nat.le_of_ble_eq_true rfl) (g_aload_n 57 (gd rfl) rfl rfl (g_getA (q2 := 61) 60 (gd rfl) rfl rfl rfl rfl (g_iload 62 (gd rfl) rfl rfl (g_ialoadv (y := z42) 63 (gd rfl) rfl (n := 32) rfl (in_ix i33 rfl) (e42) (g_aload_n 64 (gd rfl) rfl rfl (g_iload 66 (gd rfl) rfl rfl (g_iaload 67 (gd rfl) rfl (n := 32) rfl (in_ix j27_4 rfl) (fun z66 e66 => g_iand 68 (gd rfl) rfl (fun z67 e67 => g_if_ne 71 133 (gd rfl) rfl rfl (fun c68 => ?_) (fun c68 => ?_))))))))))))
          · skip
            exact g_iinc 136 (gd rfl) rfl rfl (Nat.le_of_ble_eq_true rfl) (fun z133 e133 => have i133 := in_add 1 32 e133 i33 (in_c 1 rfl) rfl rfl; g_goto 27 (gd rfl) rfl (gg_w (by omega) (gg_f (gf_cons rfl (gf_cons rfl (gf_cons rfl (gf_cons rfl (gf_cons rfl (gf_cons rfl (gf_cons rfl (gf_cons rfl (gf_cons rfl gf_nil))))))))) (ih27 sc27 y27_4 y27_5 y27_6 y27_7 z133 hIc27 hFc27 (in_w 0 31 j27_4 rfl) (in_w 0 1 j27_7 rfl) (in_w 0 32 i133 rfl) (m_up mm27 (t_add e133 i33 (in_c 1 rfl) rfl) (in_w 1 1 (in_c 1 rfl) rfl))))))
          · skip
            have i68 := z_eq 0 0 c68 (i_rng z67) rfl
            refine g_iload 73 (gd rfl) rfl rfl (g_if_eq 76 81 (gd rfl) rfl rfl (fun c73 => ?_) (fun c73 => ?_))
            · skip
              exact zn_eq c73 (in_c 1 rfl) rfl
            · skip
              refine g_iload 78 (gd rfl) rfl rfl (g_if_ne 81 133 (gd rfl) rfl rfl (fun c78 => ?_) (fun c78 => ?_))
              · skip
                have i78 := z_ne 1 1 c78 j27_7 rfl
                exact g_iinc 136 (gd rfl) rfl rfl (Nat.le_of_ble_eq_true rfl) (fun z133 e133 => have i133 := in_add 1 32 e133 i33 (in_c 1 rfl) rfl rfl; g_goto 27 (gd rfl) rfl (gg_w (by omega) (gg_f (gf_cons rfl (gf_cons rfl (gf_cons rfl (gf_cons rfl (gf_cons rfl (gf_cons rfl (gf_cons rfl (gf_cons rfl (gf_cons rfl gf_nil))))))))) (ih27 sc27 y27_4 y27_5 y27_6 y27_7 z133 hIc27 hFc27 (in_w 0 31 j27_4 rfl) (in_w 0 1 i78 rfl) (in_w 0 32 i133 rfl) (m_up mm27 (t_add e133 i33 (in_c 1 rfl) rfl) (in_w 1 1 (in_c 1 rfl) rfl))))))
              · skip
                have i78 := z_eq 0 0 c78 j27_7 rfl
                refine g_iload 83 (gd rfl) rfl rfl (g_iload 85 (gd rfl) rfl rfl (g_ior 86 (gd rfl) rfl (fun z85 e85 => have i85 := in_or 1 e85 (in_w 0 1 i78 rfl) (in_w 0 1 (in_c 1 rfl) rfl) rfl; g_istore 88 (gd rfl) rfl (Nat.le_of_ble_eq_true rfl) (g_aload_n 89 (gd rfl) rfl rfl (g_getA (q2 := 61) 92 (gd rfl) rfl rfl rfl rfl (g_iload 94 (gd rfl) rfl rfl (g_dup2 95 (gd rfl) rfl rfl rfl (g_ialoadv (y := z42) 96 (gd rfl) rfl (n := 32) rfl (in_ix i33 rfl) (e42) (g_iload 98 (gd rfl) rfl rfl (g_ior 99 (gd rfl) rfl (fun z98 e98 => g_iastore 100 (gd rfl) rfl (n := 32) rfl (in_ix i33 rfl) (have hI99 := inv_sI (q := 61) (j := y27_8.toNatClampNeg) hIc27 rfl (in_w (-2147483648) 2147483647 (i_rng z98) rfl); g_aload_n 101 (gd rfl) rfl rfl (g_aload_n 102 (gd rfl) rfl rfl (g_iload_n 103 (gd rfl) rfl rfl (g_iload 105 (gd rfl) rfl rfl (g_iconst (-1) 106 (gd rfl) rfl rfl (g_ixor 107 (gd rfl) rfl (fun z106 e106 => g_iand 108 (gd rfl) rfl (fun z107 e107 => g_iload_n 109 (gd rfl) rfl rfl (g_iconst 1 110 (gd rfl) rfl rfl (g_iadd 111 (gd rfl) rfl (fun z110 e110 => ?_))))))))))))))))))))))
                have i110 := in_add 1 33 e110 h3 (in_c 1 rfl) rfl rfl
                have n111 : 33 - (z110).toInt < ((kk : Nat) : Int) := by exact (have a0 := in_u h3; have a1 := in_u i33a; have a2 := in_u i33; have a3 := in_u i78; have a4 := in_u j27_4; have a5 := in_u ((in_c 1 rfl)); have a6 := in_u i85; have a7 := in_u i110; have a8 := t_add e110 h3 (in_c 1 rfl) rfl; by omega)
                refine g_callv (X := _) (As := [.ref (A 39), .int z107, .int z110]) (r := []) (b := A 60) (q := 60) 114 (gd rfl) rfl rfl rfl rfl rfl (ww_o rfl) (Nat.le_of_ble_eq_true rfl) (Nat.zero_le _) (Nat.zero_le _) (ihF (by omega) hI99 (in_w 0 33 i110 rfl) n111) (fun e u h => h) (fun v u h => ?_)
                obtain ⟨s111, hI111, hF111, z111, rfl, rfl, i111⟩ := h
                show GG _ _ _ _ _ _ _ _ [.int z111] _ _ _
                refine g_if_eq 117 119 (gd rfl) rfl rfl (fun c114 => ?_) (fun c114 => ?_)
                · skip
                  have i114 := z_eq 0 0 c114 i111 rfl
                  exact g_aload_n 120 (gd rfl) rfl rfl (g_getA (q2 := 61) 123 (gd rfl) rfl rfl rfl rfl (g_iload 125 (gd rfl) rfl rfl (g_dup2 126 (gd rfl) rfl rfl rfl (g_iaload 127 (gd rfl) rfl (n := 32) rfl (in_ix i33 rfl) (fun z126 e126 => g_iload 129 (gd rfl) rfl rfl (g_iconst (-1) 130 (gd rfl) rfl rfl (g_ixor 131 (gd rfl) rfl (fun z130 e130 => g_iand 132 (gd rfl) rfl (fun z131 e131 => g_iastore 133 (gd rfl) rfl (n := 32) rfl (in_ix i33 rfl) (have hI132 := inv_sI (q := 61) (j := y27_8.toNatClampNeg) hI111 rfl (in_w (-2147483648) 2147483647 (i_rng z131) rfl); g_iinc 136 (gd rfl) rfl rfl (Nat.le_of_ble_eq_true rfl) (fun z133 e133 => have i133 := in_add 1 32 e133 i33 (in_c 1 rfl) rfl rfl; g_goto 27 (gd rfl) rfl (gg_w (by omega) (gg_f (gf_cons rfl (gf_cons rfl (gf_cons rfl (gf_cons rfl (gf_cons rfl (gf_cons rfl (gf_cons rfl (gf_cons rfl (gf_cons rfl gf_nil))))))))) (ih27 (sI s111 61 y27_8.toNatClampNeg z131) y27_4 y27_5 y27_6 z85 z133 hI132 (fr_sI rfl (fr_tr rfl (fr_sI rfl hFc27) hF111)) (in_w 0 31 j27_4 rfl) (in_w 0 1 i85 rfl) (in_w 0 32 i133 rfl) (m_up mm27 (t_add e133 i33 (in_c 1 rfl) rfl) (in_w 1 1 (in_c 1 rfl) rfl))))))))))))))))
                · skip
                  have i114 := z_ne 1 1 c114 i111 rfl
                  exact g_iconst 1 118 (gd rfl) rfl rfl (g_ireturn (gd rfl) rfl (nb01 (in_w 0 1 (in_c 1 rfl) rfl)) (hP _ _ ⟨s111, hI111, (fr_tr rfl (fr_sI rfl hFc27) hF111), (Int32.ofInt 1), rfl, rfl, in_w 0 1 (in_c 1 rfl) rfl⟩))
  refine g_enter2 (k := 47) (N := 30601) (by omega) rfl (Nat.le_of_ble_eq_true rfl) (g_aload_n 1 (gd rfl) rfl rfl (g_aload_n 2 (gd rfl) rfl rfl (g_iload_n 3 (gd rfl) rfl rfl (g_callv (X := _) (As := [.ref (A 39), .int x2]) (r := []) (b := A 60) (q := 60) 6 (gd rfl) rfl rfl rfl rfl rfl (ww_o rfl) (Nat.le_of_ble_eq_true rfl) (Nat.zero_le _) (Nat.zero_le _) (k_52_60_39 (by omega) hI nza_2) (fun e u h => h) (fun v u h => ?_)))))
  obtain ⟨z3, rfl, rfl, i3⟩ := h
  show GG _ _ _ _ _ _ _ _ [.int z3] _ _ _
  refine g_istore 8 (gd rfl) rfl (Nat.le_of_ble_eq_true rfl) (g_iconst 1 9 (gd rfl) rfl rfl (g_iload 11 (gd rfl) rfl rfl (g_ishl 12 (gd rfl) rfl (fun z11 e11 => g_istore 14 (gd rfl) rfl (Nat.le_of_ble_eq_true rfl) (g_aload_n 15 (gd rfl) rfl rfl (g_iload_n 16 (gd rfl) rfl rfl (g_calls (As := [.ref (A 39), .int x2]) (r := []) 19 (gd rfl) rfl rfl rfl rfl rfl (Nat.le_of_ble_eq_true rfl) (Nat.zero_le _) (Nat.zero_le _) (k_48_39 (by omega) hI ) (fun v u h => ?_))))))))
  obtain ⟨z16, rfl, rfl, i16⟩ := h
  show GG _ _ _ _ _ _ _ _ [.int z16] _ _ _
  exact g_istore 21 (gd rfl) rfl (Nat.le_of_ble_eq_true rfl) (g_iconst 0 22 (gd rfl) rfl rfl (g_istore 24 (gd rfl) rfl (Nat.le_of_ble_eq_true rfl) (g_iconst 0 25 (gd rfl) rfl rfl (g_istore 27 (gd rfl) rfl (Nat.le_of_ble_eq_true rfl) (gg_w (by omega) (gg_f (gf_cons rfl (gf_cons rfl (gf_cons rfl (gf_cons rfl (gf_cons rfl (gf_cons rfl (gf_cons rfl (gf_cons rfl (gf_cons rfl gf_nil))))))))) (ct27 33 s z3 z11 z16 (Int32.ofInt 0) (Int32.ofInt 0) hI fr_rf (in_w 0 31 i3 rfl) (in_w 0 1 (in_c 0 rfl) rfl) (in_w 0 32 (in_c 0 rfl) rfl) (m_in 33 (in_w 0 32 (in_c 0 rfl) rfl) rfl))))))))
theorem k_46_60_39_r {Z : AmZ} {A : Nat → Nat} {ex : va_W} (kk : Nat) : ∀ {s : GS} {d : Nat} {X : AmX} {x2 : Int32} {x3 : Int32}, 40 + kk * 10 ≤ d → Inv s → (In x3 0 33) → 33 - (x3).toInt < ((kk : Nat) : Int) → GC Z d 46 [.ref (A 60), .ref (A 39), .int x2, .int x3] (WW Z A s ++ ex) 0 0 (fun v u => ∃ t : GS, Inv t ∧ Fr fm_46_60_39 s t ∧ ∃ z : Int32, v = some (.int z) ∧ u = WW Z A t ++ ex ∧ In z 0 1) X := by
  induction kk with
  | zero => intro s d X x2 x3 hd hI h3 hm; exact m_no hm h3 rfl
  | succ kk ih =>
    have ihP : ∀ {s : GS} {d : Nat} {X : AmX} {x2 : Int32} {x3 : Int32}, 45 + kk * 10 ≤ d → Inv s → (In x3 0 32) → (x2.toInt ≠ 0) → 33 - (x3).toInt < ((kk + 1 : Nat) : Int) → GC Z d 47 [.ref (A 60), .ref (A 39), .int x2, .int x3] (WW Z A s ++ ex) 0 0 (fun v u => ∃ t : GS, Inv t ∧ Fr fm_47_60_39 s t ∧ ∃ z : Int32, v = some (.int z) ∧ u = WW Z A t ++ ex ∧ In z 0 1) X := k_47_60_39_r kk ih
    intro s d X x2 x3 hd hI h3 hm
    intro post xp hP hX
    obtain ⟨u_60_3, e_60_3⟩ : ∃ w, w = s.2.2.1 60 3 := ⟨_, rfl⟩
    have ro_60_3 := inv_F hI 0 32 rfl e_60_3
    have ct65 : ∀ (k65 : Nat) (sc65 : GS) (y65_4 : Int32) (y65_5 : Int32) (y65_6 : Int32) (y65_7 : Int32) (y65_8 : Int32), Inv sc65 → Fr fm_46_60_39 s sc65 → (In x3 0 32) → (In y65_4 0 32) → (In y65_6 0 31) → (In y65_8 0 32) → ((y65_5).toInt ≠ 0) → 32 - (y65_8).toInt < (k65 : Int) → GG Z (d - 1) 46 post (gx xp) (1 + k65 * 900) 65 (fun j => xlook j [(0, .ref (A 60)), (1, .ref (A 39)), (2, .int x2), (3, .int x3), (4, .int y65_4), (5, .int y65_5), (6, .int y65_6), (7, .int y65_7), (8, .int y65_8)]) [] (WW Z A sc65 ++ ex) 0 0 := by
      intro k65
      induction k65 with
      | zero => intro sc65 y65_4 y65_5 y65_6 y65_7 y65_8 hIc65 hFc65 j65_3 j65_4 j65_6 j65_8 nz65_5 mm65; exact m_no mm65 j65_8 rfl
      | succ k65 ih65 =>
        intro sc65 y65_4 y65_5 y65_6 y65_7 y65_8 hIc65 hFc65 j65_3 j65_4 j65_6 j65_8 nz65_5 mm65
        refine gg_w (M := 1 + k65 * 900 + 900) (by omega) (g_iload 67 (gd rfl) rfl rfl (g_aload_n 68 (gd rfl) rfl rfl (g_getIv (y := u_60_3) 71 (gd rfl) rfl rfl rfl (fr_F e_60_3 hFc65 rfl) (g_cmp_ge 74 93 (gd rfl) rfl rfl (fun c71 => ?_) (fun c71 => ?_)))))
        · skip
          exact g_aload_n 94 (gd rfl) rfl rfl (g_iload 96 (gd rfl) rfl rfl (g_putI 99 (gd rfl) rfl rfl rfl rfl (have hI96 := inv_sF (q := 60) (j := 7) hIc65 rfl (in_w 0 32 j65_4 rfl); g_iconst 0 100 (gd rfl) rfl rfl (g_ireturn (gd rfl) rfl (nb01 (in_w 0 1 (in_c 0 rfl) rfl)) (hP _ _ ⟨(sF sc65 60 7 y65_4), hI96, (fr_sF rfl hFc65), (Int32.ofInt 0), rfl, rfl, in_w 0 1 (in_c 0 rfl) rfl⟩)))))
        · skip
          have i71 := r_lt1 0 31 c71 j65_8 ro_60_3 rfl
          have i71a := r_lt2 1 32 c71 j65_8 ro_60_3 rfl
          exact g_aload_n 75 (gd rfl) rfl rfl (g_getA (q2 := 61) 78 (gd rfl) rfl rfl rfl rfl (g_iload 80 (gd rfl) rfl rfl (g_dup2 81 (gd rfl) rfl rfl rfl (g_iaload 82 (gd rfl) rfl (n := 32) rfl (in_ix i71 rfl) (fun z81 e81 => g_iload_n 83 (gd rfl) rfl rfl (g_iconst (-1) 84 (gd rfl) rfl rfl (g_ixor 85 (gd rfl) rfl (fun z84 e84 => g_iand 86 (gd rfl) rfl (fun z85 e85 => g_iastore 87 (gd rfl) rfl (n := 32) rfl (in_ix i71 rfl) (have hI86 := inv_sI (q := 61) (j := y65_8.toNatClampNeg) hIc65 rfl (in_w (-2147483648) 2147483647 (i_rng z85) rfl); g_iinc 90 (gd rfl) rfl rfl (Nat.le_of_ble_eq_true rfl) (fun z87 e87 => have i87 := in_add 1 32 e87 i71 (in_c 1 rfl) rfl rfl; g_goto 65 (gd rfl) rfl (gg_w (by omega) (gg_f (gf_cons rfl (gf_cons rfl (gf_cons rfl (gf_cons rfl (gf_cons rfl (gf_cons rfl (gf_cons rfl (gf_cons rfl (gf_cons rfl gf_nil))))))))) (ih65 (sI sc65 61 y65_8.toNatClampNeg z85) y65_4 y65_5 y65_6 y65_7 z87 hI86 (fr_sI rfl hFc65) (in_w 0 32 j65_3 rfl) (in_w 0 32 j65_4 rfl) (in_w 0 31 j65_6 rfl) (in_w 0 32 i87 rfl) nz65_5 (m_up mm65 (t_add e87 i71 (in_c 1 rfl) rfl) (in_w 1 1 (in_c 1 rfl) rfl))))))))))))))))
    have ct25 : ∀ (k25 : Nat) (sc25 : GS) (y25_4 : Int32) (y25_5 : Int32) (y25_6 : Int32), Inv sc25 → Fr fm_46_60_39 s sc25 → (In x3 0 32) → (In y25_4 0 32) → (In y25_6 0 32) → 32 - (y25_6).toInt < (k25 : Int) → GG Z (d - 1) 46 post (gx xp) (29702 + k25 * 900) 25 (fun j => xlook j [(0, .ref (A 60)), (1, .ref (A 39)), (2, .int x2), (3, .int x3), (4, .int y25_4), (5, .int y25_5), (6, .int y25_6)]) [] (WW Z A sc25 ++ ex) 0 0 := by
      intro k25
      induction k25 with
      | zero => intro sc25 y25_4 y25_5 y25_6 hIc25 hFc25 j25_3 j25_4 j25_6 mm25; exact m_no mm25 j25_6 rfl
      | succ k25 ih25 =>
        intro sc25 y25_4 y25_5 y25_6 hIc25 hFc25 j25_3 j25_4 j25_6 mm25
        refine gg_w (M := 29702 + k25 * 900 + 900) (by omega) (g_iload 27 (gd rfl) rfl rfl (g_bipush 32 29 (gd rfl) rfl rfl (g_cmp_ge 32 116 (gd rfl) rfl rfl (fun c29 => ?_) (fun c29 => ?_))))
        · skip
          have i29 := r_le2 32 32 c29 (in_c 32 rfl) j25_6 rfl
          refine g_aload_n 117 (gd rfl) rfl rfl (g_aload_n 118 (gd rfl) rfl rfl (g_iload 120 (gd rfl) rfl rfl (g_callv (X := _) (As := [.ref (A 39), .int y25_4]) (r := []) (b := A 60) (q := 60) 123 (gd rfl) rfl rfl rfl rfl rfl (ww_o rfl) (Nat.le_of_ble_eq_true rfl) (Nat.zero_le _) (Nat.zero_le _) (k_50_60_39 (by omega) hIc25 (in_w 0 32 j25_4 rfl)) (fun e u h => h) (fun v u h => ?_))))
          obtain ⟨s120, hI120, hF120, rfl, rfl⟩ := h
          show GG _ _ _ _ _ _ _ _ [] _ _ _
          exact g_iconst 1 124 (gd rfl) rfl rfl (g_ireturn (gd rfl) rfl (nb01 (in_w 0 1 (in_c 1 rfl) rfl)) (hP _ _ ⟨s120, hI120, (fr_tr rfl hFc25 hF120), (Int32.ofInt 1), rfl, rfl, in_w 0 1 (in_c 1 rfl) rfl⟩))
        · skip
          have i29 := r_lt1 0 31 c29 j25_6 (in_c 32 rfl) rfl
          refine g_iload 34 (gd rfl) rfl rfl (g_if_eq 37 116 (gd rfl) rfl rfl (fun c34 => ?_) (fun c34 => ?_))
          · skip
            have i34 := z_eq 0 0 c34 (i_rng y25_5) rfl
            refine g_aload_n 117 (gd rfl) rfl rfl (g_aload_n 118 (gd rfl) rfl rfl (g_iload 120 (gd rfl) rfl rfl (g_callv (X := _) (As := [.ref (A 39), .int y25_4]) (r := []) (b := A 60) (q := 60) 123 (gd rfl) rfl rfl rfl rfl rfl (ww_o rfl) (Nat.le_of_ble_eq_true rfl) (Nat.zero_le _) (Nat.zero_le _) (k_50_60_39 (by omega) hIc25 (in_w 0 32 j25_4 rfl)) (fun e u h => h) (fun v u h => ?_))))
            obtain ⟨s120, hI120, hF120, rfl, rfl⟩ := h
            show GG _ _ _ _ _ _ _ _ [] _ _ _
            exact g_iconst 1 124 (gd rfl) rfl rfl (g_ireturn (gd rfl) rfl (nb01 (in_w 0 1 (in_c 1 rfl) rfl)) (hP _ _ ⟨s120, hI120, (fr_tr rfl hFc25 hF120), (Int32.ofInt 1), rfl, rfl, in_w 0 1 (in_c 1 rfl) rfl⟩))
          · skip
            refine g_aload_n 38 (gd rfl) rfl rfl (g_iload 40 (gd rfl) rfl rfl (g_iload 42 (gd rfl) rfl rfl (g_ineg 43 (gd rfl) rfl (fun z42 e42 => g_iand 44 (gd rfl) rfl (fun z43 e43 => g_iload 46 (gd rfl) rfl rfl (g_calls (As := [.ref (A 39), .int z43, .int y25_5]) (r := []) 49 (gd rfl) rfl rfl rfl rfl rfl (Nat.le_of_ble_eq_true rfl) (Nat.zero_le _) (Nat.zero_le _) (k_266_39 (by omega) hIc25 ) (fun v u h => ?_)))))))
            obtain ⟨z46, rfl, rfl, i46, p46⟩ := h
            show GG _ _ _ _ _ _ _ _ [.int z46] _ _ _
            refine g_istore 51 (gd rfl) rfl (Nat.le_of_ble_eq_true rfl) (g_aload_n 52 (gd rfl) rfl rfl (g_aload_n 53 (gd rfl) rfl rfl (g_iload 55 (gd rfl) rfl rfl (g_iload_n 56 (gd rfl) rfl rfl ?_))))
            have nz56 : (z46).toInt ≠ 0 := by obtain ⟨k, hk⟩ := lsb_bit c34 e42 e43; exact bt_nz (p46 k hk)
            have n56 : 33 - (x3).toInt < ((kk + 1 : Nat) : Int) := by exact (have a0 := in_u j25_3; have a1 := in_u ro_60_3; have a2 := in_u i29; have a3 := in_u j25_4; by omega)
            refine g_callv (X := _) (As := [.ref (A 39), .int z46, .int x3]) (r := []) (b := A 60) (q := 60) 59 (gd rfl) rfl rfl rfl rfl rfl (ww_o rfl) (Nat.le_of_ble_eq_true rfl) (Nat.zero_le _) (Nat.zero_le _) (ihP (by omega) hIc25 (in_w 0 32 j25_3 rfl) nz56 n56) (fun e u h => h) (fun v u h => ?_)
            obtain ⟨s56, hI56, hF56, z56, rfl, rfl, i56⟩ := h
            show GG _ _ _ _ _ _ _ _ [.int z56] _ _ _
            refine g_if_ne 62 101 (gd rfl) rfl rfl (fun c59 => ?_) (fun c59 => ?_)
            · skip
              have i59 := z_ne 1 1 c59 i56 rfl
              exact g_iload 103 (gd rfl) rfl rfl (g_iload 105 (gd rfl) rfl rfl (g_iconst (-1) 106 (gd rfl) rfl rfl (g_ixor 107 (gd rfl) rfl (fun z106 e106 => g_iand 108 (gd rfl) rfl (fun z107 e107 => g_istore 110 (gd rfl) rfl (Nat.le_of_ble_eq_true rfl) (g_iinc 113 (gd rfl) rfl rfl (Nat.le_of_ble_eq_true rfl) (fun z110 e110 => have i110 := in_add 1 32 e110 i29 (in_c 1 rfl) rfl rfl; g_goto 25 (gd rfl) rfl (gg_w (by omega) (gg_f (gf_cons rfl (gf_cons rfl (gf_cons rfl (gf_cons rfl (gf_cons rfl (gf_cons rfl (gf_cons rfl gf_nil))))))) (ih25 s56 y25_4 z107 z110 hI56 (fr_tr rfl hFc25 hF56) (in_w 0 32 j25_3 rfl) (in_w 0 32 j25_4 rfl) (in_w 0 32 i110 rfl) (m_up mm25 (t_add e110 i29 (in_c 1 rfl) rfl) (in_w 1 1 (in_c 1 rfl) rfl))))))))))))
            · skip
              have i59 := z_eq 0 0 c59 i56 rfl
              exact g_iconst 0 63 (gd rfl) rfl rfl (g_istore 65 (gd rfl) rfl (Nat.le_of_ble_eq_true rfl) (gg_w (by omega) (gg_f (gf_cons rfl (gf_cons rfl (gf_cons rfl (gf_cons rfl (gf_cons rfl (gf_cons rfl (gf_cons rfl (gf_cons rfl (gf_cons rfl gf_nil))))))))) (ct65 33 s56 y25_4 y25_5 y25_6 z46 (Int32.ofInt 0) hI56 (fr_tr rfl hFc25 hF56) (in_w 0 32 j25_3 rfl) (in_w 0 32 j25_4 rfl) (in_w 0 31 i29 rfl) (in_w 0 32 (in_c 0 rfl) rfl) c34 (m_in 33 (in_w 0 32 (in_c 0 rfl) rfl) rfl)))))
    refine g_enter2 (k := 46) (N := 60302) (by omega) rfl (Nat.le_of_ble_eq_true rfl) (g_iload_n 1 (gd rfl) rfl rfl (g_bipush 32 3 (gd rfl) rfl rfl (g_cmp_le 6 8 (gd rfl) rfl rfl (fun c3 => ?_) (fun c3 => ?_))))
    · skip
      have i3 := r_le1 0 32 c3 h3 (in_c 32 rfl) rfl
      refine g_aload_n 9 (gd rfl) rfl rfl (g_getI 12 (gd rfl) rfl rfl rfl (fun z9 e9 => have i9 := inv_F hI 0 32 rfl e9; g_istore 14 (gd rfl) rfl (Nat.le_of_ble_eq_true rfl) (g_aload_n 15 (gd rfl) rfl rfl (g_aload_n 16 (gd rfl) rfl rfl (g_iload_n 17 (gd rfl) rfl rfl (g_callv (X := _) (As := [.ref (A 39), .int x2]) (r := []) (b := A 60) (q := 60) 20 (gd rfl) rfl rfl rfl rfl rfl (ww_o rfl) (Nat.le_of_ble_eq_true rfl) (Nat.zero_le _) (Nat.zero_le _) (k_49_60_39 (by omega) hI ) (fun e u h => h) (fun v u h => ?_)))))))
      obtain ⟨s17, hI17, hF17, z17, rfl, rfl, i17⟩ := h
      show GG _ _ _ _ _ _ _ _ [.int z17] _ _ _
      exact g_istore 22 (gd rfl) rfl (Nat.le_of_ble_eq_true rfl) (g_iconst 0 23 (gd rfl) rfl rfl (g_istore 25 (gd rfl) rfl (Nat.le_of_ble_eq_true rfl) (gg_w (by omega) (gg_f (gf_cons rfl (gf_cons rfl (gf_cons rfl (gf_cons rfl (gf_cons rfl (gf_cons rfl (gf_cons rfl gf_nil))))))) (ct25 33 s17 z9 z17 (Int32.ofInt 0) hI17 (fr_tr rfl fr_rf hF17) (in_w 0 32 i3 rfl) (in_w 0 32 i9 rfl) (in_w 0 32 (in_c 0 rfl) rfl) (m_in 33 (in_w 0 32 (in_c 0 rfl) rfl) rfl))))))
    · skip
      have i3 := r_lt2 33 33 c3 (in_c 32 rfl) h3 rfl
      exact g_iconst 0 7 (gd rfl) rfl rfl (g_ireturn (gd rfl) rfl (nb01 (in_w 0 1 (in_c 0 rfl) rfl)) (hP _ _ ⟨s, hI, fr_rf, (Int32.ofInt 0), rfl, rfl, in_w 0 1 (in_c 0 rfl) rfl⟩))
theorem k_46_60_39 {Z : AmZ} {A : Nat → Nat} {s : GS} {ex : va_W} {d : Nat} {X : AmX} {x2 : Int32} {x3 : Int32} (hd : 380 ≤ d) (hI : Inv s) (h3 : (In x3 0 33)) : GC Z d 46 [.ref (A 60), .ref (A 39), .int x2, .int x3] (WW Z A s ++ ex) 0 0 (fun v u => ∃ t : GS, Inv t ∧ Fr fm_46_60_39 s t ∧ ∃ z : Int32, v = some (.int z) ∧ u = WW Z A t ++ ex ∧ In z 0 1) X := k_46_60_39_r 34 (by omega) hI h3 (m_in 34 h3 rfl)

def fm_54_60_2 : FM := ([61, 62, 63], [], [(60, 7)], [])
/-- GraphHouse$Colours.canLower -/
theorem k_54_60_2 {Z : AmZ} {A : Nat → Nat} {s : GS} {ex : va_W} {d : Nat} {X : AmX} {x2 : Int32} {x3 : Int32} {x4 : Int32} (hd : 381 ≤ d) (hI : Inv s) (h2 : In x2 0 31) (h3 : In x3 0 31) (h4 : In x4 0 31) : GC Z d 54 [.ref (A 60), .ref (A 2), .int x2, .int x3, .int x4] (WW Z A s ++ ex) 0 0 (fun v u => ∃ t : GS, Inv t ∧ Fr fm_54_60_2 s t ∧ ∃ z : Int32, v = some (.int z) ∧ u = WW Z A t ++ ex ∧ In z 0 1) X := by
  intro post xp hP hX
  obtain ⟨u_2_1, e_2_1⟩ : ∃ w, w = s.2.2.1 2 1 := ⟨_, rfl⟩
  have ro_2_1 := inv_F hI 0 32 rfl e_2_1
  obtain ⟨u_60_3, e_60_3⟩ : ∃ w, w = s.2.2.1 60 3 := ⟨_, rfl⟩
  have ro_60_3 := inv_F hI 0 32 rfl e_60_3
  have ct108 : ∀ (k108 : Nat) (sc108 : GS) (y108_5 : Int32) (y108_6 : Int32) (y108_7 : Int32) (y108_8 : Int32), Inv sc108 → Fr fm_54_60_2 s sc108 → (In y108_8 0 32) → 32 - (y108_8).toInt < (k108 : Int) → GG Z (d - 1) 54 post (gx xp) (1 + k108 * 900) 108 (fun j => xlook j [(0, .ref (A 60)), (1, .ref (A 2)), (2, .int x2), (3, .int x3), (4, .int x4), (5, .int y108_5), (6, .int y108_6), (7, .int y108_7), (8, .int y108_8)]) [] (WW Z A sc108 ++ ex) 0 0 := by
    intro k108
    induction k108 with
    | zero => intro sc108 y108_5 y108_6 y108_7 y108_8 hIc108 hFc108 j108_8 mm108; exact m_no mm108 j108_8 rfl
    | succ k108 ih108 =>
      intro sc108 y108_5 y108_6 y108_7 y108_8 hIc108 hFc108 j108_8 mm108
      refine gg_w (M := 1 + k108 * 900 + 900) (by omega) (g_iload 110 (gd rfl) rfl rfl (g_aload_n 111 (gd rfl) rfl rfl (g_getIv (y := u_60_3) 114 (gd rfl) rfl rfl rfl (fr_F e_60_3 hFc108 rfl) (g_cmp_ge 117 135 (gd rfl) rfl rfl (fun c114 => ?_) (fun c114 => ?_)))))
      · skip
        refine g_aload_n 136 (gd rfl) rfl rfl (g_getA (q2 := 61) 139 (gd rfl) rfl rfl rfl rfl (g_iload_n 140 (gd rfl) rfl rfl (g_dup2 141 (gd rfl) rfl rfl rfl (g_iaload 142 (gd rfl) rfl (n := 32) rfl (in_ix h3 rfl) (fun z141 e141 => g_iload 144 (gd rfl) rfl rfl (g_ior 145 (gd rfl) rfl (fun z144 e144 => g_iastore 146 (gd rfl) rfl (n := 32) rfl (in_ix h3 rfl) (have hI145 := inv_sI (q := 61) (j := x3.toNatClampNeg) hIc108 rfl (in_w (-2147483648) 2147483647 (i_rng z144) rfl); g_aload_n 147 (gd rfl) rfl rfl (g_aload_n 148 (gd rfl) rfl rfl (g_getA (q2 := 9) 151 (gd rfl) rfl rfl rfl rfl (g_aload_n 152 (gd rfl) rfl rfl ?_)))))))))))
        refine g_callv (X := _) (As := []) (r := [.ref (A 9), .ref (A 60)]) (b := A 2) (q := 2) 155 (gd rfl) rfl rfl rfl rfl rfl (ww_o rfl) (Nat.le_of_ble_eq_true rfl) (mc := 0) (ms := 0) (Nat.zero_le _) (Nat.zero_le _) (P := fun v u => _) ?_ (fun e u h => h) (fun v u h => h)
        intro po152 xx152 hp152 hx152
        refine g_enter2 (k := 102) (N := 300) (by omega) rfl (Nat.le_of_ble_eq_true rfl) (g_aload_n 1 (gd rfl) rfl rfl (g_getIv (y := u_2_1) 4 (gd rfl) rfl rfl rfl (sI_F (fr_F e_2_1 hFc108 rfl)) (g_bipush 32 6 (gd rfl) rfl rfl (g_cmp_lt 9 13 (gd rfl) rfl rfl (fun c152x6 => ?_) (fun c152x6 => ?_)))))
        · skip
          have i152x6 := r_lt1 0 31 c152x6 ro_2_1 (in_c 32 rfl) rfl
          refine g_iconst 1 14 (gd rfl) rfl rfl (g_aload_n 15 (gd rfl) rfl rfl (g_getIv (y := u_2_1) 18 (gd rfl) rfl rfl rfl (sI_F (fr_F e_2_1 hFc108 rfl)) (g_ishl 19 (gd rfl) rfl (fun z152x18 e152x18 => g_iconst 1 20 (gd rfl) rfl rfl (g_isub 21 (gd rfl) rfl (fun z152x20 e152x20 => ?_))))))
          refine g_ireturn (gd rfl) rfl rfl (hp152 _ _ ?_)
          show GG _ _ _ _ _ _ _ _ [.int z152x20, .ref (A 9), .ref (A 60)] _ _ _
          refine g_iload 157 (gd rfl) rfl rfl (g_iconst (-1) 158 (gd rfl) rfl rfl (g_ixor 159 (gd rfl) rfl (fun z158 e158 => g_iand 160 (gd rfl) rfl (fun z159 e159 => g_iload 162 (gd rfl) rfl rfl (g_iconst (-1) 163 (gd rfl) rfl rfl (g_ixor 164 (gd rfl) rfl (fun z163 e163 => g_iand 165 (gd rfl) rfl (fun z164 e164 => g_iconst 0 166 (gd rfl) rfl rfl (g_callv (X := _) (As := [.ref (A 9), .int z164, .int (Int32.ofInt 0)]) (r := []) (b := A 60) (q := 60) 169 (gd rfl) rfl rfl rfl rfl rfl (ww_o rfl) (Nat.le_of_ble_eq_true rfl) (Nat.zero_le _) (Nat.zero_le _) (k_46_60_9 (by omega) hI145 (in_w 0 33 (in_c 0 rfl) rfl)) (fun e u h => h) (fun v u h => ?_))))))))))
          obtain ⟨s166, hI166, hF166, z166, rfl, rfl, i166⟩ := h
          show GG _ _ _ _ _ _ _ _ [.int z166] _ _ _
          refine g_if_eq 172 174 (gd rfl) rfl rfl (fun c169 => ?_) (fun c169 => ?_)
          · skip
            have i169 := z_eq 0 0 c169 i166 rfl
            exact g_aload_n 175 (gd rfl) rfl rfl (g_getA (q2 := 62) 178 (gd rfl) rfl rfl rfl rfl (g_iconst 0 179 (gd rfl) rfl rfl (g_aload_n 180 (gd rfl) rfl rfl (g_getA (q2 := 61) 183 (gd rfl) rfl rfl rfl rfl (g_iconst 0 184 (gd rfl) rfl rfl (g_bipush 32 186 (gd rfl) rfl rfl (g_cpI (q2 := 62) (q := 61) (n0 := 32) (n1 := 32) 189 (gd rfl) rfl rfl rfl rfl (Nat.le_of_ble_eq_true rfl) (cp_0 (in_c 0 rfl) rfl) (cp_0 (in_c 0 rfl) rfl) (cp_0 (in_c 32 rfl) rfl) (cp_1 (in_c 0 rfl) (in_c 32 rfl) rfl) (cp_1 (in_c 0 rfl) (in_c 32 rfl) rfl) hI166 rfl rfl rfl rfl (fun s186 hI186 hF186 cp186 => g_iconst 0 190 (gd rfl) rfl rfl (g_ireturn (gd rfl) rfl (nb01 (in_w 0 1 (in_c 0 rfl) rfl)) (hP _ _ ⟨s186, hI186, (fr_tr rfl (fr_tr rfl (fr_sI rfl hFc108) hF166) hF186), (Int32.ofInt 0), rfl, rfl, in_w 0 1 (in_c 0 rfl) rfl⟩))))))))))
          · skip
            have i169 := z_ne 1 1 c169 i166 rfl
            exact g_iconst 1 173 (gd rfl) rfl rfl (g_ireturn (gd rfl) rfl (nb01 (in_w 0 1 (in_c 1 rfl) rfl)) (hP _ _ ⟨s166, hI166, (fr_tr rfl (fr_sI rfl hFc108) hF166), (Int32.ofInt 1), rfl, rfl, in_w 0 1 (in_c 1 rfl) rfl⟩))
        · skip
          have i152x6 := r_le2 32 32 c152x6 (in_c 32 rfl) ro_2_1 rfl
          refine g_iconst (-1) 10 (gd rfl) rfl rfl (g_goto 21 (gd rfl) rfl ?_)
          refine g_ireturn (gd rfl) rfl rfl (hp152 _ _ ?_)
          show GG _ _ _ _ _ _ _ _ [.int (Int32.ofInt (-1)), .ref (A 9), .ref (A 60)] _ _ _
          refine g_iload 157 (gd rfl) rfl rfl (g_iconst (-1) 158 (gd rfl) rfl rfl (g_ixor 159 (gd rfl) rfl (fun z158 e158 => g_iand 160 (gd rfl) rfl (fun z159 e159 => g_iload 162 (gd rfl) rfl rfl (g_iconst (-1) 163 (gd rfl) rfl rfl (g_ixor 164 (gd rfl) rfl (fun z163 e163 => g_iand 165 (gd rfl) rfl (fun z164 e164 => g_iconst 0 166 (gd rfl) rfl rfl (g_callv (X := _) (As := [.ref (A 9), .int z164, .int (Int32.ofInt 0)]) (r := []) (b := A 60) (q := 60) 169 (gd rfl) rfl rfl rfl rfl rfl (ww_o rfl) (Nat.le_of_ble_eq_true rfl) (Nat.zero_le _) (Nat.zero_le _) (k_46_60_9 (by omega) hI145 (in_w 0 33 (in_c 0 rfl) rfl)) (fun e u h => h) (fun v u h => ?_))))))))))
          obtain ⟨s166, hI166, hF166, z166, rfl, rfl, i166⟩ := h
          show GG _ _ _ _ _ _ _ _ [.int z166] _ _ _
          refine g_if_eq 172 174 (gd rfl) rfl rfl (fun c169 => ?_) (fun c169 => ?_)
          · skip
            have i169 := z_eq 0 0 c169 i166 rfl
            exact g_aload_n 175 (gd rfl) rfl rfl (g_getA (q2 := 62) 178 (gd rfl) rfl rfl rfl rfl (g_iconst 0 179 (gd rfl) rfl rfl (g_aload_n 180 (gd rfl) rfl rfl (g_getA (q2 := 61) 183 (gd rfl) rfl rfl rfl rfl (g_iconst 0 184 (gd rfl) rfl rfl (g_bipush 32 186 (gd rfl) rfl rfl (g_cpI (q2 := 62) (q := 61) (n0 := 32) (n1 := 32) 189 (gd rfl) rfl rfl rfl rfl (Nat.le_of_ble_eq_true rfl) (cp_0 (in_c 0 rfl) rfl) (cp_0 (in_c 0 rfl) rfl) (cp_0 (in_c 32 rfl) rfl) (cp_1 (in_c 0 rfl) (in_c 32 rfl) rfl) (cp_1 (in_c 0 rfl) (in_c 32 rfl) rfl) hI166 rfl rfl rfl rfl (fun s186 hI186 hF186 cp186 => g_iconst 0 190 (gd rfl) rfl rfl (g_ireturn (gd rfl) rfl (nb01 (in_w 0 1 (in_c 0 rfl) rfl)) (hP _ _ ⟨s186, hI186, (fr_tr rfl (fr_tr rfl (fr_sI rfl hFc108) hF166) hF186), (Int32.ofInt 0), rfl, rfl, in_w 0 1 (in_c 0 rfl) rfl⟩))))))))))
          · skip
            have i169 := z_ne 1 1 c169 i166 rfl
            exact g_iconst 1 173 (gd rfl) rfl rfl (g_ireturn (gd rfl) rfl (nb01 (in_w 0 1 (in_c 1 rfl) rfl)) (hP _ _ ⟨s166, hI166, (fr_tr rfl (fr_sI rfl hFc108) hF166), (Int32.ofInt 1), rfl, rfl, in_w 0 1 (in_c 1 rfl) rfl⟩))
      · skip
        have i114 := r_lt1 0 31 c114 j108_8 ro_60_3 rfl
        have i114a := r_lt2 1 32 c114 j108_8 ro_60_3 rfl
        exact g_aload_n 118 (gd rfl) rfl rfl (g_getA (q2 := 61) 121 (gd rfl) rfl rfl rfl rfl (g_iload 123 (gd rfl) rfl rfl (g_dup2 124 (gd rfl) rfl rfl rfl (g_iaload 125 (gd rfl) rfl (n := 32) rfl (in_ix i114 rfl) (fun z124 e124 => g_iload 127 (gd rfl) rfl rfl (g_iand 128 (gd rfl) rfl (fun z127 e127 => g_iastore 129 (gd rfl) rfl (n := 32) rfl (in_ix i114 rfl) (have hI128 := inv_sI (q := 61) (j := y108_8.toNatClampNeg) hIc108 rfl (in_w (-2147483648) 2147483647 (i_rng z127) rfl); g_iinc 132 (gd rfl) rfl rfl (Nat.le_of_ble_eq_true rfl) (fun z129 e129 => have i129 := in_add 1 32 e129 i114 (in_c 1 rfl) rfl rfl; g_goto 108 (gd rfl) rfl (gg_w (by omega) (gg_f (gf_cons rfl (gf_cons rfl (gf_cons rfl (gf_cons rfl (gf_cons rfl (gf_cons rfl (gf_cons rfl (gf_cons rfl (gf_cons rfl gf_nil))))))))) (ih108 (sI sc108 61 y108_8.toNatClampNeg z127) y108_5 y108_6 y108_7 z129 hI128 (fr_sI rfl hFc108) (in_w 0 32 i129 rfl) (m_up mm108 (t_add e129 i114 (in_c 1 rfl) rfl) (in_w 1 1 (in_c 1 rfl) rfl))))))))))))))
  refine g_enter2 (k := 54) (N := 30601) (by omega) rfl (Nat.le_of_ble_eq_true rfl) (g_iconst 1 1 (gd rfl) rfl rfl (g_iload_n 2 (gd rfl) rfl rfl (g_ishl 3 (gd rfl) rfl (fun z2 e2 => g_istore 5 (gd rfl) rfl (Nat.le_of_ble_eq_true rfl) (g_iload 7 (gd rfl) rfl rfl (g_iconst 1 8 (gd rfl) rfl rfl (g_isub 9 (gd rfl) rfl (fun z8 e8 => g_istore 11 (gd rfl) rfl (Nat.le_of_ble_eq_true rfl) (g_aload_n 12 (gd rfl) rfl rfl (g_getA (q2 := 61) 15 (gd rfl) rfl rfl rfl rfl (g_iload_n 16 (gd rfl) rfl rfl (g_iaload 17 (gd rfl) rfl (n := 32) rfl (in_ix h3 rfl) (fun z16 e16 => g_aload_n 18 (gd rfl) rfl rfl (g_getA (q2 := 9) 21 (gd rfl) rfl rfl rfl rfl (g_iload_n 22 (gd rfl) rfl rfl (g_iaload 23 (gd rfl) rfl (n := 32) rfl (in_ix h2 rfl) (fun z22 e22 => g_iand 24 (gd rfl) rfl (fun z23 e23 => g_iload 26 (gd rfl) rfl rfl (g_iand 27 (gd rfl) rfl (fun z26 e26 => g_if_eq 30 32 (gd rfl) rfl rfl (fun c27 => ?_) (fun c27 => ?_)))))))))))))))))))))
  · skip
    have i27 := z_eq 0 0 c27 (i_rng z26) rfl
    refine g_aload_n 33 (gd rfl) rfl rfl (g_getA (q2 := 9) 36 (gd rfl) rfl rfl rfl rfl (g_iload 38 (gd rfl) rfl rfl (g_aload_n 39 (gd rfl) rfl rfl (g_getA (q2 := 61) 42 (gd rfl) rfl rfl rfl rfl (g_iload_n 43 (gd rfl) rfl rfl (g_ialoadv (y := z16) 44 (gd rfl) rfl (n := 32) rfl (in_ix h3 rfl) (e16) (g_aload_n 45 (gd rfl) rfl rfl (g_getA (q2 := 61) 48 (gd rfl) rfl rfl rfl rfl (g_iload 50 (gd rfl) rfl rfl (g_iaload 51 (gd rfl) rfl (n := 32) rfl (in_ix h4 rfl) (fun z50 e50 => g_ior 52 (gd rfl) rfl (fun z51 e51 => g_calls (As := [.ref (A 9), .int z2, .int z51]) (r := []) 55 (gd rfl) rfl rfl rfl rfl rfl (Nat.le_of_ble_eq_true rfl) (Nat.zero_le _) (Nat.zero_le _) (k_266_9 (by omega) hI ) (fun v u h => ?_)))))))))))))
    obtain ⟨z52, rfl, rfl, i52, p52⟩ := h
    show GG _ _ _ _ _ _ _ _ [.int z52] _ _ _
    refine g_istore 57 (gd rfl) rfl (Nat.le_of_ble_eq_true rfl) (g_iload 59 (gd rfl) rfl rfl (g_iload 61 (gd rfl) rfl rfl (g_iand 62 (gd rfl) rfl (fun z61 e61 => g_if_ne 65 90 (gd rfl) rfl rfl (fun c62 => ?_) (fun c62 => ?_)))))
    · skip
      exact g_aload_n 91 (gd rfl) rfl rfl (g_getA (q2 := 61) 94 (gd rfl) rfl rfl rfl rfl (g_iconst 0 95 (gd rfl) rfl rfl (g_aload_n 96 (gd rfl) rfl rfl (g_getA (q2 := 62) 99 (gd rfl) rfl rfl rfl rfl (g_iconst 0 100 (gd rfl) rfl rfl (g_bipush 32 102 (gd rfl) rfl rfl (g_cpI (q2 := 61) (q := 62) (n0 := 32) (n1 := 32) 105 (gd rfl) rfl rfl rfl rfl (Nat.le_of_ble_eq_true rfl) (cp_0 (in_c 0 rfl) rfl) (cp_0 (in_c 0 rfl) rfl) (cp_0 (in_c 32 rfl) rfl) (cp_1 (in_c 0 rfl) (in_c 32 rfl) rfl) (cp_1 (in_c 0 rfl) (in_c 32 rfl) rfl) hI rfl rfl rfl rfl (fun s102 hI102 hF102 cp102 => g_iconst 0 106 (gd rfl) rfl rfl (g_istore 108 (gd rfl) rfl (Nat.le_of_ble_eq_true rfl) (gg_w (by omega) (gg_f (gf_cons rfl (gf_cons rfl (gf_cons rfl (gf_cons rfl (gf_cons rfl (gf_cons rfl (gf_cons rfl (gf_cons rfl (gf_cons rfl gf_nil))))))))) (ct108 33 s102 z2 z8 z52 (Int32.ofInt 0) hI102 (fr_tr rfl fr_rf hF102) (in_w 0 32 (in_c 0 rfl) rfl) (m_in 33 (in_w 0 32 (in_c 0 rfl) rfl) rfl)))))))))))))
    · skip
      have i62 := z_eq 0 0 c62 (i_rng z61) rfl
      exact g_aload_n 66 (gd rfl) rfl rfl (g_getA (q2 := 61) 69 (gd rfl) rfl rfl rfl rfl (g_iload_n 70 (gd rfl) rfl rfl (g_dup2 71 (gd rfl) rfl rfl rfl (g_ialoadv (y := z16) 72 (gd rfl) rfl (n := 32) rfl (in_ix h3 rfl) (e16) (g_iload 74 (gd rfl) rfl rfl (g_ixor 75 (gd rfl) rfl (fun z74 e74 => g_iastore 76 (gd rfl) rfl (n := 32) rfl (in_ix h3 rfl) (have hI75 := inv_sI (q := 61) (j := x3.toNatClampNeg) hI rfl (in_w (-2147483648) 2147483647 (i_rng z74) rfl); g_aload_n 77 (gd rfl) rfl rfl (g_getA (q2 := 61) 80 (gd rfl) rfl rfl rfl rfl (g_iload 82 (gd rfl) rfl rfl (g_dup2 83 (gd rfl) rfl rfl rfl (g_iaload 84 (gd rfl) rfl (n := 32) rfl (in_ix h4 rfl) (fun z83 e83 => g_iload 86 (gd rfl) rfl rfl (g_ixor 87 (gd rfl) rfl (fun z86 e86 => g_iastore 88 (gd rfl) rfl (n := 32) rfl (in_ix h4 rfl) (have hI87 := inv_sI (q := 61) (j := x4.toNatClampNeg) hI75 rfl (in_w (-2147483648) 2147483647 (i_rng z86) rfl); g_iconst 1 89 (gd rfl) rfl rfl (g_ireturn (gd rfl) rfl (nb01 (in_w 0 1 (in_c 1 rfl) rfl)) (hP _ _ ⟨(sI (sI s 61 x3.toNatClampNeg z74) 61 x4.toNatClampNeg z86), hI87, (fr_sI rfl (fr_sI rfl fr_rf)), (Int32.ofInt 1), rfl, rfl, in_w 0 1 (in_c 1 rfl) rfl⟩))))))))))))))))))
  · skip
    exact g_iconst 0 31 (gd rfl) rfl rfl (g_ireturn (gd rfl) rfl (nb01 (in_w 0 1 (in_c 0 rfl) rfl)) (hP _ _ ⟨s, hI, fr_rf, (Int32.ofInt 0), rfl, rfl, in_w 0 1 (in_c 0 rfl) rfl⟩))
