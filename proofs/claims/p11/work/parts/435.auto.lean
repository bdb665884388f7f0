/-! methods, by vc.py -/
def fm_62_102_46 : FM := ([104], [], [(46, 2), (46, 3), (46, 4), (46, 5), (46, 6), (46, 7), (102, 4)], [])
/-- GraphHouse$Engine.readAtom -/
theorem k_62_102_46 {Z : AmZ} {A : Nat → Nat} {s : GS} {ex : va_W} {d : Nat} {X : AmX} {u_46_2 : Int32} {u_46_1 : Int32} {u_46_4 : Int32} {u_46_3 : Int32} {u_46_5 : Int32} {u_102_4 : Int32} (hd : 8 ≤ d) (hI : Inv s) (e_46_2 : u_46_2 = s.2.2.1 46 2) (e_46_1 : u_46_1 = s.2.2.1 46 1) (e_46_4 : u_46_4 = s.2.2.1 46 4) (e_46_3 : u_46_3 = s.2.2.1 46 3) (e_46_5 : u_46_5 = s.2.2.1 46 5) (e_102_4 : u_102_4 = s.2.2.1 102 4) (r_46_1 : In u_46_1 0 120) (p_0 : (u_46_2).toInt ≤ (u_46_1).toInt) (p_1 : (u_46_4).toInt ≤ (u_46_2).toInt) (p_2 : (u_102_4).toInt ≤ (u_46_4).toInt) (p_3 : 1 ≤ (u_46_3).toInt) (p_4 : (u_46_3).toInt ≤ 2) (q_0 : TK s) : GC Z d 62 [.ref (A 102), .ref (A 46)] (WW Z A s ++ ex) 0 0 (fun v u => ∃ t : GS, Inv t ∧ Fr fm_62_102_46 s t ∧ ((t.2.2.1 46 2).toInt ≤ (t.2.2.1 46 1).toInt) ∧ ((t.2.2.1 46 4).toInt ≤ (t.2.2.1 46 2).toInt) ∧ ((t.2.2.1 102 4).toInt ≤ (t.2.2.1 46 4).toInt) ∧ ((s.2.2.1 46 4).toInt - (s.2.2.1 102 4).toInt ≤ (t.2.2.1 46 4).toInt - (t.2.2.1 102 4).toInt) ∧ ∃ z : Int32, v = some (.int z) ∧ u = WW Z A t ++ ex ∧ In z 0 1 ∧ (TK t) ∧ ((z).toInt ≠ 0 → PCV s t 1)) X := by
  intro post xp hP hX
  refine g_enter2 (k := 62) (N := 900) (by omega) rfl (Nat.le_of_ble_eq_true rfl) ?_
  refine g_aload_n 1 (gd rfl) rfl rfl ?_
  refine g_getI 4 (gd rfl) rfl rfl rfl (fun z1 e1 => ?_)
  have q1 : u_46_5 = z1 := (e_46_5).trans e1.symm
  subst q1
  refine g_istore_n 5 (gd rfl) rfl (Nat.le_of_ble_eq_true rfl) ?_
  have hk := tka_1 q_0 (show u_46_3 = s.2.2.1 46 3 from e_46_3) (show u_46_4 = s.2.2.1 46 4 from e_46_4) (show u_46_2 = s.2.2.1 46 2 from e_46_2) (by have a0 := (inv_F hI 0 120 rfl e_102_4); unfold In at a0; have a1 := (inv_F hI 0 5 rfl e_46_3); unfold In at a1; have a2 := (inv_F hI 0 1000 rfl e_46_4); unfold In at a2; have a3 := r_46_1; unfold In at a3; have a4 := (inv_F hI 0 1000 rfl e_46_2); unfold In at a4; omega)
  refine g_aload_n 6 (gd rfl) rfl rfl ?_
  refine g_getI 9 (gd rfl) rfl rfl rfl (fun z6 e6 => ?_)
  have q6 : u_46_3 = z6 := (e_46_3).trans e6.symm
  subst q6
  refine g_iconst 1 10 (gd rfl) rfl rfl ?_
  refine g_cmp_ne 13 46 (gd rfl) rfl rfl (fun c10 => ?_) (fun c10 => ?_)
  · skip
    refine g_aload_n 47 (gd rfl) rfl rfl ?_
    refine g_iload_n 48 (gd rfl) rfl rfl ?_
    have hDe : _ = s.2.2.1 102 4 := (show u_102_4 = s.2.2.1 102 4 from e_102_4)
    have n48 : (u_102_4).toInt ≤ 119 := by have a0 := (inv_F hI 0 120 rfl e_102_4); unfold In at a0; have a1 := (inv_F hI 0 5 rfl e_46_3); unfold In at a1; have a2 := (inv_F hI 0 1000 rfl e_46_4); unfold In at a2; have a3 := r_46_1; unfold In at a3; have a4 := (inv_F hI 0 1000 rfl e_46_2); unfold In at a4; omega
    refine g_callv (X := _) (As := [.int u_46_5]) (r := []) (b := A 102) (q := 102) 51 (gd rfl) rfl rfl rfl rfl rfl (ww_o rfl) (Nat.le_of_ble_eq_true rfl) (Nat.zero_le _) (Nat.zero_le _) (k_57_102 (by omega) hI e_102_4 n48) (fun e u h => h) (fun v u h => ?_)
    obtain ⟨s48, hI48, hF48, n48a, z48, rfl, rfl, i48, p48⟩ := h
    obtain ⟨z48a, e48⟩ : ∃ w, w = s48.2.2.1 102 4 := ⟨_, rfl⟩
    have i48a := inv_F hI48 0 120 rfl e48
    rw [← (show u_102_4 = s.2.2.1 102 4 from e_102_4)] at n48a
    rw [← (show z48a = s48.2.2.1 102 4 from e48)] at n48a
    show GG _ _ _ _ _ _ _ _ [.int z48] _ _ _
    refine g_pop 52 (gd rfl) rfl rfl ?_
    refine g_aload_n 53 (gd rfl) rfl rfl ?_
    refine g_bipush 6 55 (gd rfl) rfl rfl ?_
    refine g_iconst 0 56 (gd rfl) rfl rfl ?_
    have v56 : u_46_2 = s48.2.2.1 46 2 := fr_F (e_46_2) hF48 rfl
    have v56a : u_46_1 = s48.2.2.1 46 1 := fr_F (e_46_1) hF48 rfl
    have n56 : (u_46_2).toInt ≤ (u_46_1).toInt := by have a0 := (inv_F hI 0 120 rfl e_102_4); unfold In at a0; have a1 := (inv_F hI 0 5 rfl e_46_3); unfold In at a1; have a2 := (inv_F hI 0 1000 rfl e_46_4); unfold In at a2; have a3 := r_46_1; unfold In at a3; have a4 := (inv_F hI 0 1000 rfl e_46_2); unfold In at a4; have a5 := i48a; unfold In at a5; omega
    refine g_callv (X := _) (As := [.int (Int32.ofInt 6), .int (Int32.ofInt 0)]) (r := []) (b := A 46) (q := 46) 59 (gd rfl) rfl rfl rfl rfl rfl (ww_o rfl) (Nat.le_of_ble_eq_true rfl) (Nat.zero_le _) (Nat.zero_le _) (k_171_46 (by omega) hI48 (in_w 6 7 (in_c 6 rfl) rfl) (in_w 0 1 (in_c 0 rfl) rfl) v56 v56a n56) (fun e u h => h) (fun v u h => ?_)
    obtain ⟨s56, hI56, hF56, n56a, n56b, n56c, rfl, rfl, p56, p56a⟩ := h
    obtain ⟨z56a, e56⟩ : ∃ w, w = s56.2.2.1 46 2 := ⟨_, rfl⟩
    have i56a := inv_F hI56 0 1000 rfl e56
    obtain ⟨z56b, e56a⟩ : ∃ w, w = s56.2.2.1 46 4 := ⟨_, rfl⟩
    have i56b := inv_F hI56 0 1000 rfl e56a
    rw [← (show z56a = s56.2.2.1 46 2 from e56)] at n56a
    rw [← (show u_46_1 = s56.2.2.1 46 1 from fr_F (fr_F (e_46_1) hF48 rfl) hF56 rfl)] at n56a
    rw [← (show z56a = s56.2.2.1 46 2 from e56)] at n56b
    rw [← (show z56b = s56.2.2.1 46 4 from e56a)] at n56b
    rw [← (show u_46_2 = s48.2.2.1 46 2 from fr_F (e_46_2) hF48 rfl)] at n56c
    rw [← (show z56b = s56.2.2.1 46 4 from e56a)] at n56c
    show GG _ _ _ _ _ _ _ _ [] _ _ _
    refine g_iconst 1 60 (gd rfl) rfl rfl ?_
    have n60 : TK s56 := by exact p56 (by decide)
    have n60a : ((Int32.ofInt 1)).toInt ≠ 0 → PCV s s56 1 := by intro _; exact pv_tr (j := 1) (k := 0) (pv_st (j := 0) (k := 1) pv_rf (inv_F hI 0 120 rfl rfl).1 p48 (by rw [← e48, ← hDe]; have a0 := (inv_F hI 0 120 rfl e_102_4); unfold In at a0; have a1 := (inv_F hI 0 5 rfl e_46_3); unfold In at a1; have a2 := (inv_F hI 0 1000 rfl e_46_4); unfold In at a2; have a3 := r_46_1; unfold In at a3; have a4 := (inv_F hI 0 1000 rfl e_46_2); unfold In at a4; have a5 := i56b; unfold In at a5; have a6 := i56a; unfold In at a6; have a7 := i48a; unfold In at a7; omega) (fun e => hc_a (by first | (have a0 := (inv_F hI 0 120 rfl e_102_4); unfold In at a0; have a1 := (inv_F hI 0 5 rfl e_46_3); unfold In at a1; have a2 := (inv_F hI 0 1000 rfl e_46_4); unfold In at a2; have a3 := r_46_1; unfold In at a3; have a4 := (inv_F hI 0 1000 rfl e_46_2); unfold In at a4; have a5 := i56b; unfold In at a5; have a6 := i56a; unfold In at a6; have a7 := i48a; unfold In at a7; omega) | (have c1 : (Int32.ofInt 1).toInt = 1 := (by decide); have hv := tkv_1 q_0 e_46_3 e_46_5 (by have a0 := (inv_F hI 0 120 rfl e_102_4); unfold In at a0; have a1 := (inv_F hI 0 5 rfl e_46_3); unfold In at a1; have a2 := (inv_F hI 0 1000 rfl e_46_4); unfold In at a2; have a3 := r_46_1; unfold In at a3; have a4 := (inv_F hI 0 1000 rfl e_46_2); unfold In at a4; have a5 := i56b; unfold In at a5; have a6 := i56a; unfold In at a6; have a7 := i48a; unfold In at a7; omega); have a0 := (inv_F hI 0 120 rfl e_102_4); unfold In at a0; have a1 := (inv_F hI 0 5 rfl e_46_3); unfold In at a1; have a2 := (inv_F hI 0 1000 rfl e_46_4); unfold In at a2; have a3 := r_46_1; unfold In at a3; have a4 := (inv_F hI 0 1000 rfl e_46_2); unfold In at a4; have a5 := i56b; unfold In at a5; have a6 := i56a; unfold In at a6; have a7 := i48a; unfold In at a7; omega)) e)) (pv_sm (hF56.1 104 rfl) (hF56.2.2.1 102 4 rfl))
    have n60b : (z56a).toInt ≤ (u_46_1).toInt := by have a0 := (inv_F hI 0 120 rfl e_102_4); unfold In at a0; have a1 := (inv_F hI 0 5 rfl e_46_3); unfold In at a1; have a2 := (inv_F hI 0 1000 rfl e_46_4); unfold In at a2; have a3 := r_46_1; unfold In at a3; have a4 := (inv_F hI 0 1000 rfl e_46_2); unfold In at a4; have a5 := i56b; unfold In at a5; have a6 := i56a; unfold In at a6; have a7 := i48a; unfold In at a7; omega
    have n60c : (s56.2.2.1 46 2).toInt ≤ (s56.2.2.1 46 1).toInt := by have b0 : z56a = s56.2.2.1 46 2 := e56; have b1 : u_46_1 = s56.2.2.1 46 1 := fr_F (fr_F (e_46_1) hF48 rfl) hF56 rfl; rw [← b0, ← b1]; exact n60b
    have n60d : (z56b).toInt ≤ (z56a).toInt := by have a0 := (inv_F hI 0 120 rfl e_102_4); unfold In at a0; have a1 := (inv_F hI 0 5 rfl e_46_3); unfold In at a1; have a2 := (inv_F hI 0 1000 rfl e_46_4); unfold In at a2; have a3 := r_46_1; unfold In at a3; have a4 := (inv_F hI 0 1000 rfl e_46_2); unfold In at a4; have a5 := i56b; unfold In at a5; have a6 := i56a; unfold In at a6; have a7 := i48a; unfold In at a7; omega
    have n60e : (s56.2.2.1 46 4).toInt ≤ (s56.2.2.1 46 2).toInt := by have b0 : z56b = s56.2.2.1 46 4 := e56a; have b1 : z56a = s56.2.2.1 46 2 := e56; rw [← b0, ← b1]; exact n60d
    have n60f : (z48a).toInt ≤ (z56b).toInt := by have a0 := (inv_F hI 0 120 rfl e_102_4); unfold In at a0; have a1 := (inv_F hI 0 5 rfl e_46_3); unfold In at a1; have a2 := (inv_F hI 0 1000 rfl e_46_4); unfold In at a2; have a3 := r_46_1; unfold In at a3; have a4 := (inv_F hI 0 1000 rfl e_46_2); unfold In at a4; have a5 := i56b; unfold In at a5; have a6 := i56a; unfold In at a6; have a7 := i48a; unfold In at a7; omega
    have n60g : (s56.2.2.1 102 4).toInt ≤ (s56.2.2.1 46 4).toInt := by have b0 : z48a = s56.2.2.1 102 4 := fr_F (e48) hF56 rfl; have b1 : z56b = s56.2.2.1 46 4 := e56a; rw [← b0, ← b1]; exact n60f
    have n60h : (u_46_4).toInt - (u_102_4).toInt ≤ (z56b).toInt - (z48a).toInt := by have a0 := (inv_F hI 0 120 rfl e_102_4); unfold In at a0; have a1 := (inv_F hI 0 5 rfl e_46_3); unfold In at a1; have a2 := (inv_F hI 0 1000 rfl e_46_4); unfold In at a2; have a3 := r_46_1; unfold In at a3; have a4 := (inv_F hI 0 1000 rfl e_46_2); unfold In at a4; have a5 := i56b; unfold In at a5; have a6 := i56a; unfold In at a6; have a7 := i48a; unfold In at a7; omega
    have n60i : (s.2.2.1 46 4).toInt - (s.2.2.1 102 4).toInt ≤ (s56.2.2.1 46 4).toInt - (s56.2.2.1 102 4).toInt := by have b0 : z56b = s56.2.2.1 46 4 := e56a; have b1 : z48a = s56.2.2.1 102 4 := fr_F (e48) hF56 rfl; first | (rw [← b0, ← b1, ← e_46_4, ← e_102_4]; exact n60h) | (rw [← b0, ← b1]; exact n60h)
    exact g_ireturn (gd rfl) rfl (nb01 (in_w 0 1 (in_c 1 rfl) rfl)) (hP _ _ ⟨s56, hI56, (fr_tr rfl (fr_tr rfl fr_rf hF48) hF56), n60c, n60e, n60g, n60i, (Int32.ofInt 1), rfl, rfl, in_w 0 1 (in_c 1 rfl) rfl, n60, n60a⟩)
  · skip
    have i10 := r_eq1 1 1 c10 (inv_F hI 0 5 rfl e_46_3) (in_c 1 rfl) rfl
    refine g_ldcs 6 15 (gd rfl) rfl rfl ?_
    refine g_bipush 97 17 (gd rfl) rfl rfl ?_
    refine g_aload_n 18 (gd rfl) rfl rfl ?_
    refine g_getI 21 (gd rfl) rfl rfl rfl (fun z18 e18 => ?_)
    have q18 : u_46_5 = z18 := (e_46_5).trans e18.symm
    subst q18
    refine g_iadd 22 (gd rfl) rfl (fun z21 e21 => ?_)
    refine g_i2c 23 (gd rfl) rfl (fun z22 e22 => ?_)
    have i22 := in_i2c e22
    have i23 : In (Int32.ofInt 6) 0 6 := in_w 0 6 (in_c 6 rfl) rfl
    refine g_callS (X := _) (As := [.int z22]) (r := []) (x := (Int32.ofInt 6)) 26 (gd rfl) rfl rfl rfl zm_430 rfl rfl rfl i23 (Nat.le_of_ble_eq_true rfl) (k_430 i23 (by omega)) (fun e u h => h) (fun v u h => ?_)
    obtain ⟨z23, rfl, rfl, p23⟩ := h
    have i23a : In z23 (-1) 8 := by have a := zn_9 i23; unfold In at p23; exact ⟨by omega, by omega⟩
    show GG _ _ _ _ _ _ _ _ [.int z23] _ _ _
    refine g_istore_n 27 (gd rfl) rfl (Nat.le_of_ble_eq_true rfl) ?_
    refine g_iload_n 28 (gd rfl) rfl rfl ?_
    refine g_if_ge 31 41 (gd rfl) rfl rfl (fun c28 => ?_) (fun c28 => ?_)
    · skip
      have i28 := z_ge 0 8 c28 i23a rfl
      refine g_ldc 1000000 43 (gd rfl) rfl rfl ?_
      refine g_iload_n 44 (gd rfl) rfl rfl ?_
      refine g_iadd 45 (gd rfl) rfl (fun z44 e44 => ?_)
      have i44 := in_add 1000000 1000008 e44 (in_c 1000000 rfl) i28 rfl rfl
      refine g_istore_n 46 (gd rfl) rfl (Nat.le_of_ble_eq_true rfl) ?_
      refine g_aload_n 47 (gd rfl) rfl rfl ?_
      refine g_iload_n 48 (gd rfl) rfl rfl ?_
      have hDe : _ = s.2.2.1 102 4 := (show u_102_4 = s.2.2.1 102 4 from e_102_4)
      have n48 : (u_102_4).toInt ≤ 119 := by have a0 := (inv_F hI 0 120 rfl e_102_4); unfold In at a0; have a1 := i10; unfold In at a1; have a2 := (inv_F hI 0 1000 rfl e_46_4); unfold In at a2; have a3 := r_46_1; unfold In at a3; have a4 := (inv_F hI 0 1000 rfl e_46_2); unfold In at a4; have a5 := i28; unfold In at a5; have a6 := i44; unfold In at a6; have a7 := t_add e44 (in_c 1000000 rfl) i28 rfl; have a8 := (in_c 1000000 rfl); unfold In at a8; omega
      refine g_callv (X := _) (As := [.int z44]) (r := []) (b := A 102) (q := 102) 51 (gd rfl) rfl rfl rfl rfl rfl (ww_o rfl) (Nat.le_of_ble_eq_true rfl) (Nat.zero_le _) (Nat.zero_le _) (k_57_102 (by omega) hI e_102_4 n48) (fun e u h => h) (fun v u h => ?_)
      obtain ⟨s48, hI48, hF48, n48a, z48, rfl, rfl, i48, p48⟩ := h
      obtain ⟨z48a, e48⟩ : ∃ w, w = s48.2.2.1 102 4 := ⟨_, rfl⟩
      have i48a := inv_F hI48 0 120 rfl e48
      rw [← (show u_102_4 = s.2.2.1 102 4 from e_102_4)] at n48a
      rw [← (show z48a = s48.2.2.1 102 4 from e48)] at n48a
      show GG _ _ _ _ _ _ _ _ [.int z48] _ _ _
      refine g_pop 52 (gd rfl) rfl rfl ?_
      refine g_aload_n 53 (gd rfl) rfl rfl ?_
      refine g_bipush 6 55 (gd rfl) rfl rfl ?_
      refine g_iconst 0 56 (gd rfl) rfl rfl ?_
      have v56 : u_46_2 = s48.2.2.1 46 2 := fr_F (e_46_2) hF48 rfl
      have v56a : u_46_1 = s48.2.2.1 46 1 := fr_F (e_46_1) hF48 rfl
      have n56 : (u_46_2).toInt ≤ (u_46_1).toInt := by have a0 := (inv_F hI 0 120 rfl e_102_4); unfold In at a0; have a1 := i10; unfold In at a1; have a2 := (inv_F hI 0 1000 rfl e_46_4); unfold In at a2; have a3 := r_46_1; unfold In at a3; have a4 := (inv_F hI 0 1000 rfl e_46_2); unfold In at a4; have a5 := i28; unfold In at a5; have a6 := i44; unfold In at a6; have a7 := t_add e44 (in_c 1000000 rfl) i28 rfl; have a8 := (in_c 1000000 rfl); unfold In at a8; have a9 := i48a; unfold In at a9; omega
      refine g_callv (X := _) (As := [.int (Int32.ofInt 6), .int (Int32.ofInt 0)]) (r := []) (b := A 46) (q := 46) 59 (gd rfl) rfl rfl rfl rfl rfl (ww_o rfl) (Nat.le_of_ble_eq_true rfl) (Nat.zero_le _) (Nat.zero_le _) (k_171_46 (by omega) hI48 (in_w 6 7 (in_c 6 rfl) rfl) (in_w 0 1 (in_c 0 rfl) rfl) v56 v56a n56) (fun e u h => h) (fun v u h => ?_)
      obtain ⟨s56, hI56, hF56, n56a, n56b, n56c, rfl, rfl, p56, p56a⟩ := h
      obtain ⟨z56a, e56⟩ : ∃ w, w = s56.2.2.1 46 2 := ⟨_, rfl⟩
      have i56a := inv_F hI56 0 1000 rfl e56
      obtain ⟨z56b, e56a⟩ : ∃ w, w = s56.2.2.1 46 4 := ⟨_, rfl⟩
      have i56b := inv_F hI56 0 1000 rfl e56a
      rw [← (show z56a = s56.2.2.1 46 2 from e56)] at n56a
      rw [← (show u_46_1 = s56.2.2.1 46 1 from fr_F (fr_F (e_46_1) hF48 rfl) hF56 rfl)] at n56a
      rw [← (show z56a = s56.2.2.1 46 2 from e56)] at n56b
      rw [← (show z56b = s56.2.2.1 46 4 from e56a)] at n56b
      rw [← (show u_46_2 = s48.2.2.1 46 2 from fr_F (e_46_2) hF48 rfl)] at n56c
      rw [← (show z56b = s56.2.2.1 46 4 from e56a)] at n56c
      show GG _ _ _ _ _ _ _ _ [] _ _ _
      refine g_iconst 1 60 (gd rfl) rfl rfl ?_
      have n60 : TK s56 := by exact p56 (by decide)
      have n60a : ((Int32.ofInt 1)).toInt ≠ 0 → PCV s s56 1 := by intro _; exact pv_tr (j := 1) (k := 0) (pv_st (j := 0) (k := 1) pv_rf (inv_F hI 0 120 rfl rfl).1 p48 (by rw [← e48, ← hDe]; have a0 := (inv_F hI 0 120 rfl e_102_4); unfold In at a0; have a1 := i10; unfold In at a1; have a2 := (inv_F hI 0 1000 rfl e_46_4); unfold In at a2; have a3 := r_46_1; unfold In at a3; have a4 := (inv_F hI 0 1000 rfl e_46_2); unfold In at a4; have a5 := i28; unfold In at a5; have a6 := i44; unfold In at a6; have a7 := t_add e44 (in_c 1000000 rfl) i28 rfl; have a8 := (in_c 1000000 rfl); unfold In at a8; have a9 := i56b; unfold In at a9; have a10 := i56a; unfold In at a10; have a11 := i48a; unfold In at a11; omega) (fun e => hc_a (by first | (have a0 := (inv_F hI 0 120 rfl e_102_4); unfold In at a0; have a1 := i10; unfold In at a1; have a2 := (inv_F hI 0 1000 rfl e_46_4); unfold In at a2; have a3 := r_46_1; unfold In at a3; have a4 := (inv_F hI 0 1000 rfl e_46_2); unfold In at a4; have a5 := i28; unfold In at a5; have a6 := i44; unfold In at a6; have a7 := t_add e44 (in_c 1000000 rfl) i28 rfl; have a8 := (in_c 1000000 rfl); unfold In at a8; have a9 := i56b; unfold In at a9; have a10 := i56a; unfold In at a10; have a11 := i48a; unfold In at a11; omega) | (have c1 : (Int32.ofInt 1).toInt = 1 := (by decide); have hv := tkv_1 q_0 e_46_3 e_46_5 (by have a0 := (inv_F hI 0 120 rfl e_102_4); unfold In at a0; have a1 := i10; unfold In at a1; have a2 := (inv_F hI 0 1000 rfl e_46_4); unfold In at a2; have a3 := r_46_1; unfold In at a3; have a4 := (inv_F hI 0 1000 rfl e_46_2); unfold In at a4; have a5 := i28; unfold In at a5; have a6 := i44; unfold In at a6; have a7 := t_add e44 (in_c 1000000 rfl) i28 rfl; have a8 := (in_c 1000000 rfl); unfold In at a8; have a9 := i56b; unfold In at a9; have a10 := i56a; unfold In at a10; have a11 := i48a; unfold In at a11; omega); have a0 := (inv_F hI 0 120 rfl e_102_4); unfold In at a0; have a1 := i10; unfold In at a1; have a2 := (inv_F hI 0 1000 rfl e_46_4); unfold In at a2; have a3 := r_46_1; unfold In at a3; have a4 := (inv_F hI 0 1000 rfl e_46_2); unfold In at a4; have a5 := i28; unfold In at a5; have a6 := i44; unfold In at a6; have a7 := t_add e44 (in_c 1000000 rfl) i28 rfl; have a8 := (in_c 1000000 rfl); unfold In at a8; have a9 := i56b; unfold In at a9; have a10 := i56a; unfold In at a10; have a11 := i48a; unfold In at a11; omega)) e)) (pv_sm (hF56.1 104 rfl) (hF56.2.2.1 102 4 rfl))
      have n60b : (z56a).toInt ≤ (u_46_1).toInt := by have a0 := (inv_F hI 0 120 rfl e_102_4); unfold In at a0; have a1 := i10; unfold In at a1; have a2 := (inv_F hI 0 1000 rfl e_46_4); unfold In at a2; have a3 := r_46_1; unfold In at a3; have a4 := (inv_F hI 0 1000 rfl e_46_2); unfold In at a4; have a5 := i28; unfold In at a5; have a6 := i44; unfold In at a6; have a7 := t_add e44 (in_c 1000000 rfl) i28 rfl; have a8 := (in_c 1000000 rfl); unfold In at a8; have a9 := i56b; unfold In at a9; have a10 := i56a; unfold In at a10; have a11 := i48a; unfold In at a11; omega
      have n60c : (s56.2.2.1 46 2).toInt ≤ (s56.2.2.1 46 1).toInt := by have b0 : z56a = s56.2.2.1 46 2 := e56; have b1 : u_46_1 = s56.2.2.1 46 1 := fr_F (fr_F (e_46_1) hF48 rfl) hF56 rfl; rw [← b0, ← b1]; exact n60b
      have n60d : (z56b).toInt ≤ (z56a).toInt := by have a0 := (inv_F hI 0 120 rfl e_102_4); unfold In at a0; have a1 := i10; unfold In at a1; have a2 := (inv_F hI 0 1000 rfl e_46_4); unfold In at a2; have a3 := r_46_1; unfold In at a3; have a4 := (inv_F hI 0 1000 rfl e_46_2); unfold In at a4; have a5 := i28; unfold In at a5; have a6 := i44; unfold In at a6; have a7 := t_add e44 (in_c 1000000 rfl) i28 rfl; have a8 := (in_c 1000000 rfl); unfold In at a8; have a9 := i56b; unfold In at a9; have a10 := i56a; unfold In at a10; have a11 := i48a; unfold In at a11; omega
      have n60e : (s56.2.2.1 46 4).toInt ≤ (s56.2.2.1 46 2).toInt := by have b0 : z56b = s56.2.2.1 46 4 := e56a; have b1 : z56a = s56.2.2.1 46 2 := e56; rw [← b0, ← b1]; exact n60d
      have n60f : (z48a).toInt ≤ (z56b).toInt := by have a0 := (inv_F hI 0 120 rfl e_102_4); unfold In at a0; have a1 := i10; unfold In at a1; have a2 := (inv_F hI 0 1000 rfl e_46_4); unfold In at a2; have a3 := r_46_1; unfold In at a3; have a4 := (inv_F hI 0 1000 rfl e_46_2); unfold In at a4; have a5 := i28; unfold In at a5; have a6 := i44; unfold In at a6; have a7 := t_add e44 (in_c 1000000 rfl) i28 rfl; have a8 := (in_c 1000000 rfl); unfold In at a8; have a9 := i56b; unfold In at a9; have a10 := i56a; unfold In at a10; have a11 := i48a; unfold In at a11; omega
      have n60g : (s56.2.2.1 102 4).toInt ≤ (s56.2.2.1 46 4).toInt := by have b0 : z48a = s56.2.2.1 102 4 := fr_F (e48) hF56 rfl; have b1 : z56b = s56.2.2.1 46 4 := e56a; rw [← b0, ← b1]; exact n60f
      have n60h : (u_46_4).toInt - (u_102_4).toInt ≤ (z56b).toInt - (z48a).toInt := by have a0 := (inv_F hI 0 120 rfl e_102_4); unfold In at a0; have a1 := i10; unfold In at a1; have a2 := (inv_F hI 0 1000 rfl e_46_4); unfold In at a2; have a3 := r_46_1; unfold In at a3; have a4 := (inv_F hI 0 1000 rfl e_46_2); unfold In at a4; have a5 := i28; unfold In at a5; have a6 := i44; unfold In at a6; have a7 := t_add e44 (in_c 1000000 rfl) i28 rfl; have a8 := (in_c 1000000 rfl); unfold In at a8; have a9 := i56b; unfold In at a9; have a10 := i56a; unfold In at a10; have a11 := i48a; unfold In at a11; omega
      have n60i : (s.2.2.1 46 4).toInt - (s.2.2.1 102 4).toInt ≤ (s56.2.2.1 46 4).toInt - (s56.2.2.1 102 4).toInt := by have b0 : z56b = s56.2.2.1 46 4 := e56a; have b1 : z48a = s56.2.2.1 102 4 := fr_F (e48) hF56 rfl; first | (rw [← b0, ← b1, ← e_46_4, ← e_102_4]; exact n60h) | (rw [← b0, ← b1]; exact n60h)
      exact g_ireturn (gd rfl) rfl (nb01 (in_w 0 1 (in_c 1 rfl) rfl)) (hP _ _ ⟨s56, hI56, (fr_tr rfl (fr_tr rfl fr_rf hF48) hF56), n60c, n60e, n60g, n60i, (Int32.ofInt 1), rfl, rfl, in_w 0 1 (in_c 1 rfl) rfl, n60, n60a⟩)
    · skip
      have i28 := z_lt (-1) (-1) c28 i23a rfl
      refine g_aload_n 32 (gd rfl) rfl rfl ?_
      refine g_iconst 5 33 (gd rfl) rfl rfl ?_
      refine g_aload_n 34 (gd rfl) rfl rfl ?_
      refine g_getI 37 (gd rfl) rfl rfl rfl (fun z34 e34 => ?_)
      have q34 : u_46_4 = z34 := (e_46_4).trans e34.symm
      subst q34
      refine g_callv (X := _) (As := [.int (Int32.ofInt 5), .int u_46_4]) (r := []) (b := A 46) (q := 46) 40 (gd rfl) rfl rfl rfl rfl rfl (ww_o rfl) (Nat.le_of_ble_eq_true rfl) (Nat.zero_le _) (Nat.zero_le _) (k_168_46 (by omega) hI (in_w 1 5 (in_c 5 rfl) rfl) (in_w 0 1000 (inv_F hI 0 1000 rfl e_46_4) rfl)) (fun e u h => h) (fun v u h => ?_)
      obtain ⟨s37, hI37, hF37, z37, rfl, rfl, i37⟩ := h
      show GG _ _ _ _ _ _ _ _ [.int z37] _ _ _
      have n40 : TK s37 := by exact tk_fr hF37 rfl q_0
      have n40a : (z37).toInt ≠ 0 → PCV s s37 1 := by intro h; unfold In at i37; omega
      have n40b : (u_46_2).toInt ≤ (u_46_1).toInt := by have a0 := (inv_F hI 0 120 rfl e_102_4); unfold In at a0; have a1 := i10; unfold In at a1; have a2 := (inv_F hI 0 1000 rfl e_46_4); unfold In at a2; have a3 := r_46_1; unfold In at a3; have a4 := (inv_F hI 0 1000 rfl e_46_2); unfold In at a4; have a5 := i28; unfold In at a5; omega
      have n40c : (s37.2.2.1 46 2).toInt ≤ (s37.2.2.1 46 1).toInt := by have b0 : u_46_2 = s37.2.2.1 46 2 := fr_F (e_46_2) hF37 rfl; have b1 : u_46_1 = s37.2.2.1 46 1 := fr_F (e_46_1) hF37 rfl; rw [← b0, ← b1]; exact n40b
      have n40d : (u_46_4).toInt ≤ (u_46_2).toInt := by have a0 := (inv_F hI 0 120 rfl e_102_4); unfold In at a0; have a1 := i10; unfold In at a1; have a2 := (inv_F hI 0 1000 rfl e_46_4); unfold In at a2; have a3 := r_46_1; unfold In at a3; have a4 := (inv_F hI 0 1000 rfl e_46_2); unfold In at a4; have a5 := i28; unfold In at a5; omega
      have n40e : (s37.2.2.1 46 4).toInt ≤ (s37.2.2.1 46 2).toInt := by have b0 : u_46_4 = s37.2.2.1 46 4 := fr_F (e_46_4) hF37 rfl; have b1 : u_46_2 = s37.2.2.1 46 2 := fr_F (e_46_2) hF37 rfl; rw [← b0, ← b1]; exact n40d
      have n40f : (u_102_4).toInt ≤ (u_46_4).toInt := by have a0 := (inv_F hI 0 120 rfl e_102_4); unfold In at a0; have a1 := i10; unfold In at a1; have a2 := (inv_F hI 0 1000 rfl e_46_4); unfold In at a2; have a3 := r_46_1; unfold In at a3; have a4 := (inv_F hI 0 1000 rfl e_46_2); unfold In at a4; have a5 := i28; unfold In at a5; omega
      have n40g : (s37.2.2.1 102 4).toInt ≤ (s37.2.2.1 46 4).toInt := by have b0 : u_102_4 = s37.2.2.1 102 4 := fr_F (e_102_4) hF37 rfl; have b1 : u_46_4 = s37.2.2.1 46 4 := fr_F (e_46_4) hF37 rfl; rw [← b0, ← b1]; exact n40f
      have n40h : (u_46_4).toInt - (u_102_4).toInt ≤ (u_46_4).toInt - (u_102_4).toInt := by have a0 := (inv_F hI 0 120 rfl e_102_4); unfold In at a0; have a1 := i10; unfold In at a1; have a2 := (inv_F hI 0 1000 rfl e_46_4); unfold In at a2; have a3 := r_46_1; unfold In at a3; have a4 := (inv_F hI 0 1000 rfl e_46_2); unfold In at a4; have a5 := i28; unfold In at a5; omega
      have n40i : (s.2.2.1 46 4).toInt - (s.2.2.1 102 4).toInt ≤ (s37.2.2.1 46 4).toInt - (s37.2.2.1 102 4).toInt := by have b0 : u_46_4 = s37.2.2.1 46 4 := fr_F (e_46_4) hF37 rfl; have b1 : u_102_4 = s37.2.2.1 102 4 := fr_F (e_102_4) hF37 rfl; first | (rw [← b0, ← b1, ← e_46_4, ← e_102_4]; exact n40h) | (rw [← b0, ← b1]; exact n40h)
      exact g_ireturn (gd rfl) rfl (nb01 (in_w 0 1 i37 rfl)) (hP _ _ ⟨s37, hI37, (fr_tr rfl fr_rf hF37), n40c, n40e, n40g, n40i, z37, rfl, rfl, in_w 0 1 i37 rfl, n40, n40a⟩)

def fm_136_1_46 : FM := ([3, 4, 5, 6, 7, 8, 30, 31], [], [(2, 0), (2, 1), (2, 2), (2, 3), (30, 0), (46, 2), (46, 3), (46, 4), (46, 5), (46, 6), (46, 7)], [])
/-- GraphHouse$Ledger.readCommand -/
theorem k_136_1_46 {Z : AmZ} {A : Nat → Nat} {s : GS} {ex : va_W} {d : Nat} {X : AmX} {u_2_0 : Int32} {u_2_1 : Int32} {u_30_0 : Int32} {u_46_2 : Int32} {u_46_1 : Int32} (hd : 9 ≤ d) (hI : Inv s) (e_2_0 : u_2_0 = s.2.2.1 2 0) (e_2_1 : u_2_1 = s.2.2.1 2 1) (e_30_0 : u_30_0 = s.2.2.1 30 0) (e_46_2 : u_46_2 = s.2.2.1 46 2) (e_46_1 : u_46_1 = s.2.2.1 46 1) (p_0 : (u_46_2).toInt ≤ (u_46_1).toInt) (q_0 : KL s) (q_1 : (s.2.2.1 46 3).toInt = 1 → In (s.2.2.1 46 5) 0 25) : GC Z d 136 [.ref (A 1), .ref (A 46)] (WW Z A s ++ ex) (lc s) (lsl s) (fun v u => ∃ a : Nat, ∃ t : GS, Inv t ∧ Fr fm_136_1_46 s t ∧ ((t.2.2.1 46 2).toInt ≤ (t.2.2.1 46 1).toInt) ∧ ((s.2.2.1 2 0).toInt ≤ (t.2.2.1 2 0).toInt) ∧ ∃ z : Int32, v = some (.int z) ∧ u = WW Z (ax A 30 a) t ++ ex ∧ In z 0 1 ∧ (KL t) ∧ ((z).toInt ≠ 0 → (t.2.2.1 30 0).toInt = nln s) ∧ ((z).toInt ≠ 0 → (s.2.2.1 2 0).toInt ≤ 3999) ∧ (∀ k : Nat, (k : Int) < 7 * (s.2.2.1 2 0).toInt → t.1 30 k = s.1 30 k)) X := by
  intro post xp hP hX
  have ro_46_1 := inv_F hI 0 1000 rfl e_46_1
  have ct46 : ∀ (k46 : Nat) (sc46 : GS) (y46_2 : Int32) (y46_3 : Int32) (y46_4 : Int32) (y46_5 : Int32) (w46_46_2 : Int32) (w46_2_0 : Int32) (w46_2_1 : Int32) (w46_30_0 : Int32), Inv sc46 → Fr fm_136_1_46 s sc46 → (In y46_2 0 1000) → (In y46_3 (-1) 25) → (In y46_4 1 5) → (In y46_5 0 5) → (w46_46_2 = sc46.2.2.1 46 2) → (w46_2_0 = sc46.2.2.1 2 0) → (w46_2_1 = sc46.2.2.1 2 1) → (w46_30_0 = sc46.2.2.1 30 0) → ((w46_46_2).toInt ≤ (u_46_1).toInt) → ((u_2_0).toInt ≤ (w46_2_0).toInt) → ((y46_3).toInt = 13 → (y46_4).toInt = 1) → ((y46_4).toInt = 1 → 1 ≤ (y46_5).toInt → In (sc46.1 31 0) 0 25) → (Fr ([31], [], [(46, 2), (46, 3), (46, 4), (46, 5), (46, 6), (46, 7)], []) s sc46) → 5 - (y46_5).toInt < (k46 : Int) → GG Z (d - 1) 136 post (gx xp) (1 + k46 * 900) 46 (fun j => xlook j [(0, .ref (A 1)), (1, .ref (A 46)), (2, .int y46_2), (3, .int y46_3), (4, .ref (zq Z y46_4)), (5, .int y46_5)]) [] (WW Z A sc46 ++ ex) (lc s) (lsl s) := by
    intro k46
    induction k46 with
    | zero => intro sc46 y46_2 y46_3 y46_4 y46_5 w46_46_2 w46_2_0 w46_2_1 w46_30_0 hIc46 hFc46 j46_2 j46_3 j46_4 j46_5 v46_46_2 v46_2_0 v46_2_1 v46_30_0 n46_0 n46_1 g46_0 g46_1 g46_2 mm46; exact m_no mm46 j46_5 rfl
    | succ k46 ih46 =>
      intro sc46 y46_2 y46_3 y46_4 y46_5 w46_46_2 w46_2_0 w46_2_1 w46_30_0 hIc46 hFc46 j46_2 j46_3 j46_4 j46_5 v46_46_2 v46_2_0 v46_2_1 v46_30_0 n46_0 n46_1 g46_0 g46_1 g46_2 mm46
      refine gg_w (M := 1 + k46 * 900 + 900) (by omega) ?_
      refine g_iload 48 (gd rfl) rfl rfl ?_
      refine g_aload 50 (gd rfl) rfl rfl ?_
      have i50 : In y46_4 0 6 := in_w 0 6 j46_4 rfl
      refine g_callS (X := _) (As := []) (r := [.int y46_5]) (x := y46_4) 53 (gd rfl) rfl rfl rfl zm_427 rfl rfl rfl i50 (Nat.le_of_ble_eq_true rfl) (k_427 i50 (by omega)) (fun e u h => h) (fun v u h => ?_)
      obtain ⟨z50, rfl, rfl, p50⟩ := h
      have i50a : In z50 0 9 := by have a := zn_9 i50; exact ⟨by omega, by omega⟩
      show GG _ _ _ _ _ _ _ _ [.int z50, .int y46_5] _ _ _
      refine g_cmp_ge 56 125 (gd rfl) rfl rfl (fun c53 => ?_) (fun c53 => ?_)
      · skip
        have i53 := r_le1 0 5 c53 i50a j46_5 rfl
        refine g_aload_n 126 (gd rfl) rfl rfl ?_
        refine g_bipush 7 128 (gd rfl) rfl rfl ?_
        refine g_iconst 1 129 (gd rfl) rfl rfl ?_
        have v129 : u_46_1 = sc46.2.2.1 46 1 := fr_F e_46_1 hFc46 rfl
        have n129 : (w46_46_2).toInt ≤ (u_46_1).toInt := by have a0 := ro_46_1; unfold In at a0; have a1 := (inv_F hIc46 448 28000 rfl v46_30_0); unfold In at a1; have a2 := (inv_F hIc46 0 32 rfl v46_2_1); unfold In at a2; have a3 := (inv_F hIc46 0 4000 rfl v46_2_0); unfold In at a3; have a4 := (inv_F hIc46 0 1000 rfl v46_46_2); unfold In at a4; have a5 := j46_5; unfold In at a5; have a6 := j46_4; unfold In at a6; have a7 := j46_3; unfold In at a7; have a8 := j46_2; unfold In at a8; omega
        refine g_callv (X := _) (As := [.int (Int32.ofInt 7), .int (Int32.ofInt 1)]) (r := []) (b := A 46) (q := 46) 132 (gd rfl) rfl rfl rfl rfl rfl (ww_o rfl) (Nat.le_of_ble_eq_true rfl) (Nat.zero_le _) (Nat.zero_le _) (k_171_46 (by omega) hIc46 (in_w 6 7 (in_c 7 rfl) rfl) (in_w 0 1 (in_c 1 rfl) rfl) v46_46_2 v129 n129) (fun e u h => h) (fun v u h => ?_)
        obtain ⟨s129, hI129, hF129, n129a, n129b, n129c, rfl, rfl, p129, p129a⟩ := h
        obtain ⟨z129a, e129⟩ : ∃ w, w = s129.2.2.1 46 2 := ⟨_, rfl⟩
        have i129a := inv_F hI129 0 1000 rfl e129
        obtain ⟨z129b, e129a⟩ : ∃ w, w = s129.2.2.1 46 4 := ⟨_, rfl⟩
        have i129b := inv_F hI129 0 1000 rfl e129a
        rw [← (show z129a = s129.2.2.1 46 2 from e129)] at n129a
        rw [← (show u_46_1 = s129.2.2.1 46 1 from fr_F (fr_F e_46_1 hFc46 rfl) hF129 rfl)] at n129a
        rw [← (show z129a = s129.2.2.1 46 2 from e129)] at n129b
        rw [← (show z129b = s129.2.2.1 46 4 from e129a)] at n129b
        rw [← (show w46_46_2 = sc46.2.2.1 46 2 from v46_46_2)] at n129c
        rw [← (show z129b = s129.2.2.1 46 4 from e129a)] at n129c
        show GG _ _ _ _ _ _ _ _ [] _ _ _
        refine g_aload_n 133 (gd rfl) rfl rfl ?_
        refine g_bipush 59 135 (gd rfl) rfl rfl ?_
        refine g_callv (X := _) (As := [.int (Int32.ofInt 59)]) (r := []) (b := A 46) (q := 46) 138 (gd rfl) rfl rfl rfl rfl rfl (ww_o rfl) (Nat.le_of_ble_eq_true rfl) (Nat.zero_le _) (Nat.zero_le _) (k_170_46 (by omega) hI129 (in_w 42 61 (in_c 59 rfl) rfl)) (fun e u h => h) (fun v u h => ?_)
        obtain ⟨z135, rfl, rfl, i135⟩ := h
        show GG _ _ _ _ _ _ _ _ [.int z135] _ _ _
        refine g_if_ne 141 148 (gd rfl) rfl rfl (fun c138 => ?_) (fun c138 => ?_)
        · skip
          have i138 := z_ne 1 1 c138 i135 rfl
          refine g_aload_n 149 (gd rfl) rfl rfl ?_
          refine g_iload_n 150 (gd rfl) rfl rfl ?_
          have hL : Fr ([31], [], [(46, 2), (46, 3), (46, 4), (46, 5), (46, 6), (46, 7)], []) s s129 := (fr_tr rfl g46_2 hF129)
          have v150 : w46_2_0 = s129.2.2.1 2 0 := fr_F (v46_2_0) hF129 rfl
          have v150a : w46_2_1 = s129.2.2.1 2 1 := fr_F (v46_2_1) hF129 rfl
          have v150b : w46_30_0 = s129.2.2.1 30 0 := fr_F (v46_30_0) hF129 rfl
          have p150 : KL s129 := by exact kl_fr q_0 hL rfl
          have p150a : (y46_3).toInt = 13 → In (s129.1 31 0) 0 25 := by intro h13; rw [hF129.1 31 rfl]; exact g46_1 (g46_0 h13) (by have hz1 := zn_1 (g46_0 h13); have h9 := p50; have a0 := ro_46_1; unfold In at a0; have a1 := (inv_F hIc46 448 28000 rfl v46_30_0); unfold In at a1; have a2 := (inv_F hIc46 0 32 rfl v46_2_1); unfold In at a2; have a3 := (inv_F hIc46 0 4000 rfl v46_2_0); unfold In at a3; have a4 := (inv_F hIc46 0 1000 rfl v46_46_2); unfold In at a4; have a5 := j46_5; unfold In at a5; have a6 := j46_4; unfold In at a6; have a7 := j46_3; unfold In at a7; have a8 := j46_2; unfold In at a8; have a9 := i129b; unfold In at a9; have a10 := i129a; unfold In at a10; omega)
          refine g_callv (X := _) (As := [.int y46_3]) (r := []) (b := A 1) (q := 1) 153 (gd rfl) rfl rfl rfl rfl rfl (ww_o rfl) (Nat.le_of_ble_eq_true rfl) (Nat.le_of_eq (lc_cg ((show Fr ([31], [], [(46, 2), (46, 3), (46, 4), (46, 5), (46, 6), (46, 7)], []) s s129 from (fr_tr rfl g46_2 hF129)).2.2.1 30 0 rfl) ((show Fr ([31], [], [(46, 2), (46, 3), (46, 4), (46, 5), (46, 6), (46, 7)], []) s s129 from (fr_tr rfl g46_2 hF129)).2.2.1 2 0 rfl)).1) (Nat.le_of_eq (lc_cg ((show Fr ([31], [], [(46, 2), (46, 3), (46, 4), (46, 5), (46, 6), (46, 7)], []) s s129 from (fr_tr rfl g46_2 hF129)).2.2.1 30 0 rfl) ((show Fr ([31], [], [(46, 2), (46, 3), (46, 4), (46, 5), (46, 6), (46, 7)], []) s s129 from (fr_tr rfl g46_2 hF129)).2.2.1 2 0 rfl)).2.1) (k_138_1 (by omega) hI129 (in_w (-1) 25 j46_3 rfl) v150 v150a v150b p150 p150a) (fun e u h => h) (fun v u h => ?_)
          obtain ⟨a150, s150, hI150, hF150, n150, z150, rfl, rfl, i150, p150b, p150c, p150d, p150e⟩ := h
          obtain ⟨z150a, e150⟩ : ∃ w, w = s150.2.2.1 2 0 := ⟨_, rfl⟩
          have i150a := inv_F hI150 0 4000 rfl e150
          rw [← (show w46_2_0 = s129.2.2.1 2 0 from fr_F (v46_2_0) hF129 rfl)] at n150
          rw [← (show z150a = s150.2.2.1 2 0 from e150)] at n150
          show GG _ _ _ _ _ _ _ _ [.int z150] _ _ _
          refine g_if_ne 156 165 (gd rfl) rfl rfl (fun c153 => ?_) (fun c153 => ?_)
          · skip
            have i153 := z_ne 1 1 c153 i150 rfl
            refine g_iconst 1 166 (gd rfl) rfl rfl ?_
            refine g_goto 170 (gd rfl) rfl ?_
            have n170 : KL s150 := by exact p150b
            have n170a : ((Int32.ofInt 1)).toInt ≠ 0 → (s150.2.2.1 30 0).toInt = nln s := by first | (intro h; exact absurd rfl h) | (intro _; rw [← (lc_cg (s := s) (hL.2.2.1 30 0 rfl) (hL.2.2.1 2 0 rfl)).2.2]; exact p150c c153)
            have n170b : ((Int32.ofInt 1)).toInt ≠ 0 → (s.2.2.1 2 0).toInt ≤ 3999 := by first | (intro h; exact absurd rfl h) | (intro _; rw [← hL.2.2.1 2 0 rfl]; exact p150d c153)
            have n170c : ∀ k : Nat, (k : Int) < 7 * (s.2.2.1 2 0).toInt → s150.1 30 k = s.1 30 k := by exact fun k hk => by rw [p150e k (by rw [hL.2.2.1 2 0 rfl]; exact hk), hL.1 30 rfl]
            have n170d : (z129a).toInt ≤ (u_46_1).toInt := by have a0 := ro_46_1; unfold In at a0; have a1 := (inv_F hIc46 448 28000 rfl v46_30_0); unfold In at a1; have a2 := (inv_F hIc46 0 32 rfl v46_2_1); unfold In at a2; have a3 := (inv_F hIc46 0 4000 rfl v46_2_0); unfold In at a3; have a4 := (inv_F hIc46 0 1000 rfl v46_46_2); unfold In at a4; have a5 := j46_5; unfold In at a5; have a6 := j46_4; unfold In at a6; have a7 := j46_3; unfold In at a7; have a8 := j46_2; unfold In at a8; have a9 := i150a; unfold In at a9; have a10 := i129b; unfold In at a10; have a11 := i129a; unfold In at a11; omega
            have n170e : (s150.2.2.1 46 2).toInt ≤ (s150.2.2.1 46 1).toInt := by have b0 : z129a = s150.2.2.1 46 2 := fr_F (e129) hF150 rfl; have b1 : u_46_1 = s150.2.2.1 46 1 := fr_F (fr_F (fr_F e_46_1 hFc46 rfl) hF129 rfl) hF150 rfl; rw [← b0, ← b1]; exact n170d
            have n170f : (u_2_0).toInt ≤ (z150a).toInt := by have a0 := ro_46_1; unfold In at a0; have a1 := (inv_F hIc46 448 28000 rfl v46_30_0); unfold In at a1; have a2 := (inv_F hIc46 0 32 rfl v46_2_1); unfold In at a2; have a3 := (inv_F hIc46 0 4000 rfl v46_2_0); unfold In at a3; have a4 := (inv_F hIc46 0 1000 rfl v46_46_2); unfold In at a4; have a5 := j46_5; unfold In at a5; have a6 := j46_4; unfold In at a6; have a7 := j46_3; unfold In at a7; have a8 := j46_2; unfold In at a8; have a9 := i150a; unfold In at a9; have a10 := i129b; unfold In at a10; have a11 := i129a; unfold In at a11; omega
            have n170g : (s.2.2.1 2 0).toInt ≤ (s150.2.2.1 2 0).toInt := by have b0 : z150a = s150.2.2.1 2 0 := e150; first | (rw [← b0, ← e_2_0]; exact n170f) | (rw [← b0]; exact n170f)
            exact g_ireturn (gd rfl) rfl (nb01 (in_w 0 1 (in_c 1 rfl) rfl)) (hP _ _ ⟨a150, s150, hI150, (fr_tr rfl (fr_tr rfl hFc46 hF129) hF150), n170e, n170g, (Int32.ofInt 1), rfl, rfl, in_w 0 1 (in_c 1 rfl) rfl, n170, n170a, n170b, n170c⟩)
          · skip
            have i153 := z_eq 0 0 c153 i150 rfl
            refine g_aload_n 157 (gd rfl) rfl rfl ?_
            refine g_iconst 4 158 (gd rfl) rfl rfl ?_
            refine g_iload_n 159 (gd rfl) rfl rfl ?_
            refine g_callv (X := _) (As := [.int (Int32.ofInt 4), .int y46_2]) (r := []) (b := A 46) (q := 46) 162 (gd rfl) rfl rfl rfl rfl rfl (ww_o rfl) (Nat.le_of_ble_eq_true rfl) (Nat.zero_le _) (Nat.zero_le _) (k_168_46 (A := (ax A 30 a150)) (by omega) hI150 (in_w 1 5 (in_c 4 rfl) rfl) (in_w 0 1000 j46_2 rfl)) (fun e u h => h) (fun v u h => ?_)
            obtain ⟨s159, hI159, hF159, z159, rfl, rfl, i159⟩ := h
            show GG _ _ _ _ _ _ _ _ [.int z159] _ _ _
            refine g_if_eq 165 169 (gd rfl) rfl rfl (fun c162 => ?_) (fun c162 => ?_)
            · skip
              refine g_iconst 0 170 (gd rfl) rfl rfl ?_
              have n170 : KL s159 := by exact kl_fr p150b hF159 rfl
              have n170a : ((Int32.ofInt 0)).toInt ≠ 0 → (s159.2.2.1 30 0).toInt = nln s := by intro h; exact absurd rfl h
              have n170b : ((Int32.ofInt 0)).toInt ≠ 0 → (s.2.2.1 2 0).toInt ≤ 3999 := by intro h; exact absurd rfl h
              have n170c : ∀ k : Nat, (k : Int) < 7 * (s.2.2.1 2 0).toInt → s159.1 30 k = s.1 30 k := by exact fun k hk => by rw [hF159.1 30 rfl, p150e k (by rw [hL.2.2.1 2 0 rfl]; exact hk), hL.1 30 rfl]
              have n170d : (z129a).toInt ≤ (u_46_1).toInt := by have a0 := ro_46_1; unfold In at a0; have a1 := (inv_F hIc46 448 28000 rfl v46_30_0); unfold In at a1; have a2 := (inv_F hIc46 0 32 rfl v46_2_1); unfold In at a2; have a3 := (inv_F hIc46 0 4000 rfl v46_2_0); unfold In at a3; have a4 := (inv_F hIc46 0 1000 rfl v46_46_2); unfold In at a4; have a5 := j46_5; unfold In at a5; have a6 := j46_4; unfold In at a6; have a7 := j46_3; unfold In at a7; have a8 := j46_2; unfold In at a8; have a9 := i150a; unfold In at a9; have a10 := i129b; unfold In at a10; have a11 := i129a; unfold In at a11; omega
              have n170e : (s159.2.2.1 46 2).toInt ≤ (s159.2.2.1 46 1).toInt := by have b0 : z129a = s159.2.2.1 46 2 := fr_F (fr_F (e129) hF150 rfl) hF159 rfl; have b1 : u_46_1 = s159.2.2.1 46 1 := fr_F (fr_F (fr_F (fr_F e_46_1 hFc46 rfl) hF129 rfl) hF150 rfl) hF159 rfl; rw [← b0, ← b1]; exact n170d
              have n170f : (u_2_0).toInt ≤ (z150a).toInt := by have a0 := ro_46_1; unfold In at a0; have a1 := (inv_F hIc46 448 28000 rfl v46_30_0); unfold In at a1; have a2 := (inv_F hIc46 0 32 rfl v46_2_1); unfold In at a2; have a3 := (inv_F hIc46 0 4000 rfl v46_2_0); unfold In at a3; have a4 := (inv_F hIc46 0 1000 rfl v46_46_2); unfold In at a4; have a5 := j46_5; unfold In at a5; have a6 := j46_4; unfold In at a6; have a7 := j46_3; unfold In at a7; have a8 := j46_2; unfold In at a8; have a9 := i150a; unfold In at a9; have a10 := i129b; unfold In at a10; have a11 := i129a; unfold In at a11; omega
              have n170g : (s.2.2.1 2 0).toInt ≤ (s159.2.2.1 2 0).toInt := by have b0 : z150a = s159.2.2.1 2 0 := fr_F (e150) hF159 rfl; first | (rw [← b0, ← e_2_0]; exact n170f) | (rw [← b0]; exact n170f)
              exact g_ireturn (gd rfl) rfl (nb01 (in_w 0 1 (in_c 0 rfl) rfl)) (hP _ _ ⟨a150, s159, hI159, (fr_tr rfl (fr_tr rfl (fr_tr rfl hFc46 hF129) hF150) hF159), n170e, n170g, (Int32.ofInt 0), rfl, rfl, in_w 0 1 (in_c 0 rfl) rfl, n170, n170a, n170b, n170c⟩)
            · skip
              exact zn_ne c162 i159 rfl
        · skip
          have i138 := z_eq 0 0 c138 i135 rfl
          refine g_aload_n 142 (gd rfl) rfl rfl ?_
          refine g_iconst 2 143 (gd rfl) rfl rfl ?_
          refine g_iconst 3 144 (gd rfl) rfl rfl ?_
          refine g_callv (X := _) (As := [.int (Int32.ofInt 2), .int (Int32.ofInt 3)]) (r := []) (b := A 46) (q := 46) 147 (gd rfl) rfl rfl rfl rfl rfl (ww_o rfl) (Nat.le_of_ble_eq_true rfl) (Nat.zero_le _) (Nat.zero_le _) (k_169_46 (by omega) hI129 (in_w 2 2 (in_c 2 rfl) rfl) (in_w 3 4 (in_c 3 rfl) rfl)) (fun e u h => h) (fun v u h => ?_)
          obtain ⟨s144, hI144, hF144, z144, rfl, rfl, i144⟩ := h
          show GG _ _ _ _ _ _ _ _ [.int z144] _ _ _
          have n147 : KL s144 := by have hL9 : Fr ([31], [], [(46, 2), (46, 3), (46, 4), (46, 5), (46, 6), (46, 7)], []) s s144 := (fr_tr rfl (fr_tr rfl g46_2 hF129) hF144); exact kl_fr q_0 hL9 rfl
          have n147a : (z144).toInt ≠ 0 → (s144.2.2.1 30 0).toInt = nln s := by first | (intro h; exact absurd rfl h) | (intro h; exfalso; revert h; first | (unfold In at i39; omega) | (unfold In at i104; omega) | (unfold In at i144; omega))
          have n147b : (z144).toInt ≠ 0 → (s.2.2.1 2 0).toInt ≤ 3999 := by first | (intro h; exact absurd rfl h) | (intro h; exfalso; revert h; first | (unfold In at i39; omega) | (unfold In at i104; omega) | (unfold In at i144; omega))
          have n147c : ∀ k : Nat, (k : Int) < 7 * (s.2.2.1 2 0).toInt → s144.1 30 k = s.1 30 k := by have hL9 : Fr ([31], [], [(46, 2), (46, 3), (46, 4), (46, 5), (46, 6), (46, 7)], []) s s144 := (fr_tr rfl (fr_tr rfl g46_2 hF129) hF144); exact fun k _ => by rw [hL9.1 30 rfl]
          have n147d : (z129a).toInt ≤ (u_46_1).toInt := by have a0 := ro_46_1; unfold In at a0; have a1 := (inv_F hIc46 448 28000 rfl v46_30_0); unfold In at a1; have a2 := (inv_F hIc46 0 32 rfl v46_2_1); unfold In at a2; have a3 := (inv_F hIc46 0 4000 rfl v46_2_0); unfold In at a3; have a4 := (inv_F hIc46 0 1000 rfl v46_46_2); unfold In at a4; have a5 := j46_5; unfold In at a5; have a6 := j46_4; unfold In at a6; have a7 := j46_3; unfold In at a7; have a8 := j46_2; unfold In at a8; have a9 := i129b; unfold In at a9; have a10 := i129a; unfold In at a10; omega
          have n147e : (s144.2.2.1 46 2).toInt ≤ (s144.2.2.1 46 1).toInt := by have b0 : z129a = s144.2.2.1 46 2 := fr_F (e129) hF144 rfl; have b1 : u_46_1 = s144.2.2.1 46 1 := fr_F (fr_F (fr_F e_46_1 hFc46 rfl) hF129 rfl) hF144 rfl; rw [← b0, ← b1]; exact n147d
          have n147f : (u_2_0).toInt ≤ (w46_2_0).toInt := by have a0 := ro_46_1; unfold In at a0; have a1 := (inv_F hIc46 448 28000 rfl v46_30_0); unfold In at a1; have a2 := (inv_F hIc46 0 32 rfl v46_2_1); unfold In at a2; have a3 := (inv_F hIc46 0 4000 rfl v46_2_0); unfold In at a3; have a4 := (inv_F hIc46 0 1000 rfl v46_46_2); unfold In at a4; have a5 := j46_5; unfold In at a5; have a6 := j46_4; unfold In at a6; have a7 := j46_3; unfold In at a7; have a8 := j46_2; unfold In at a8; have a9 := i129b; unfold In at a9; have a10 := i129a; unfold In at a10; omega
          have n147g : (s.2.2.1 2 0).toInt ≤ (s144.2.2.1 2 0).toInt := by have b0 : w46_2_0 = s144.2.2.1 2 0 := fr_F (fr_F (v46_2_0) hF129 rfl) hF144 rfl; first | (rw [← b0, ← e_2_0]; exact n147f) | (rw [← b0]; exact n147f)
          exact g_ireturn (gd rfl) rfl (nb01 (in_w 0 1 i144 rfl)) (hP _ _ ⟨(A 30), s144, hI144, (fr_tr rfl (fr_tr rfl hFc46 hF129) hF144), n147e, n147g, z144, rfl, (by rw [ax_id]), in_w 0 1 i144 rfl, n147, n147a, n147b, n147c⟩)
      · skip
        have i53 := r_lt2 1 9 c53 j46_5 i50a rfl
        refine g_iload 58 (gd rfl) rfl rfl ?_
        refine g_aload_n 59 (gd rfl) rfl rfl ?_
        refine g_getA (q2 := 31) 62 (gd rfl) rfl rfl rfl rfl ?_
        refine g_alen (n := 5) (t := 0) 5 63 (gd rfl) rfl rfl (Nat.le_of_ble_eq_true rfl) rfl ?_
        refine g_cmp_ge 66 125 (gd rfl) rfl rfl (fun c63 => ?_) (fun c63 => ?_)
        · skip
          have i63 := r_le2 5 5 c63 (in_c 5 rfl) j46_5 rfl
          refine g_aload_n 126 (gd rfl) rfl rfl ?_
          refine g_bipush 7 128 (gd rfl) rfl rfl ?_
          refine g_iconst 1 129 (gd rfl) rfl rfl ?_
          have v129 : u_46_1 = sc46.2.2.1 46 1 := fr_F e_46_1 hFc46 rfl
          have n129 : (w46_46_2).toInt ≤ (u_46_1).toInt := by have a0 := ro_46_1; unfold In at a0; have a1 := (inv_F hIc46 448 28000 rfl v46_30_0); unfold In at a1; have a2 := (inv_F hIc46 0 32 rfl v46_2_1); unfold In at a2; have a3 := (inv_F hIc46 0 4000 rfl v46_2_0); unfold In at a3; have a4 := (inv_F hIc46 0 1000 rfl v46_46_2); unfold In at a4; have a5 := i63; unfold In at a5; have a6 := j46_4; unfold In at a6; have a7 := j46_3; unfold In at a7; have a8 := j46_2; unfold In at a8; omega
          refine g_callv (X := _) (As := [.int (Int32.ofInt 7), .int (Int32.ofInt 1)]) (r := []) (b := A 46) (q := 46) 132 (gd rfl) rfl rfl rfl rfl rfl (ww_o rfl) (Nat.le_of_ble_eq_true rfl) (Nat.zero_le _) (Nat.zero_le _) (k_171_46 (by omega) hIc46 (in_w 6 7 (in_c 7 rfl) rfl) (in_w 0 1 (in_c 1 rfl) rfl) v46_46_2 v129 n129) (fun e u h => h) (fun v u h => ?_)
          obtain ⟨s129, hI129, hF129, n129a, n129b, n129c, rfl, rfl, p129, p129a⟩ := h
          obtain ⟨z129a, e129⟩ : ∃ w, w = s129.2.2.1 46 2 := ⟨_, rfl⟩
          have i129a := inv_F hI129 0 1000 rfl e129
          obtain ⟨z129b, e129a⟩ : ∃ w, w = s129.2.2.1 46 4 := ⟨_, rfl⟩
          have i129b := inv_F hI129 0 1000 rfl e129a
          rw [← (show z129a = s129.2.2.1 46 2 from e129)] at n129a
          rw [← (show u_46_1 = s129.2.2.1 46 1 from fr_F (fr_F e_46_1 hFc46 rfl) hF129 rfl)] at n129a
          rw [← (show z129a = s129.2.2.1 46 2 from e129)] at n129b
          rw [← (show z129b = s129.2.2.1 46 4 from e129a)] at n129b
          rw [← (show w46_46_2 = sc46.2.2.1 46 2 from v46_46_2)] at n129c
          rw [← (show z129b = s129.2.2.1 46 4 from e129a)] at n129c
          show GG _ _ _ _ _ _ _ _ [] _ _ _
          refine g_aload_n 133 (gd rfl) rfl rfl ?_
          refine g_bipush 59 135 (gd rfl) rfl rfl ?_
          refine g_callv (X := _) (As := [.int (Int32.ofInt 59)]) (r := []) (b := A 46) (q := 46) 138 (gd rfl) rfl rfl rfl rfl rfl (ww_o rfl) (Nat.le_of_ble_eq_true rfl) (Nat.zero_le _) (Nat.zero_le _) (k_170_46 (by omega) hI129 (in_w 42 61 (in_c 59 rfl) rfl)) (fun e u h => h) (fun v u h => ?_)
          obtain ⟨z135, rfl, rfl, i135⟩ := h
          show GG _ _ _ _ _ _ _ _ [.int z135] _ _ _
          refine g_if_ne 141 148 (gd rfl) rfl rfl (fun c138 => ?_) (fun c138 => ?_)
          · skip
            have i138 := z_ne 1 1 c138 i135 rfl
            refine g_aload_n 149 (gd rfl) rfl rfl ?_
            refine g_iload_n 150 (gd rfl) rfl rfl ?_
            have hL : Fr ([31], [], [(46, 2), (46, 3), (46, 4), (46, 5), (46, 6), (46, 7)], []) s s129 := (fr_tr rfl g46_2 hF129)
            have v150 : w46_2_0 = s129.2.2.1 2 0 := fr_F (v46_2_0) hF129 rfl
            have v150a : w46_2_1 = s129.2.2.1 2 1 := fr_F (v46_2_1) hF129 rfl
            have v150b : w46_30_0 = s129.2.2.1 30 0 := fr_F (v46_30_0) hF129 rfl
            have p150 : KL s129 := by exact kl_fr q_0 hL rfl
            have p150a : (y46_3).toInt = 13 → In (s129.1 31 0) 0 25 := by intro h13; rw [hF129.1 31 rfl]; exact g46_1 (g46_0 h13) (by have hz1 := zn_1 (g46_0 h13); have h9 := p50; have a0 := ro_46_1; unfold In at a0; have a1 := (inv_F hIc46 448 28000 rfl v46_30_0); unfold In at a1; have a2 := (inv_F hIc46 0 32 rfl v46_2_1); unfold In at a2; have a3 := (inv_F hIc46 0 4000 rfl v46_2_0); unfold In at a3; have a4 := (inv_F hIc46 0 1000 rfl v46_46_2); unfold In at a4; have a5 := i63; unfold In at a5; have a6 := j46_4; unfold In at a6; have a7 := j46_3; unfold In at a7; have a8 := j46_2; unfold In at a8; have a9 := i129b; unfold In at a9; have a10 := i129a; unfold In at a10; omega)
            refine g_callv (X := _) (As := [.int y46_3]) (r := []) (b := A 1) (q := 1) 153 (gd rfl) rfl rfl rfl rfl rfl (ww_o rfl) (Nat.le_of_ble_eq_true rfl) (Nat.le_of_eq (lc_cg ((show Fr ([31], [], [(46, 2), (46, 3), (46, 4), (46, 5), (46, 6), (46, 7)], []) s s129 from (fr_tr rfl g46_2 hF129)).2.2.1 30 0 rfl) ((show Fr ([31], [], [(46, 2), (46, 3), (46, 4), (46, 5), (46, 6), (46, 7)], []) s s129 from (fr_tr rfl g46_2 hF129)).2.2.1 2 0 rfl)).1) (Nat.le_of_eq (lc_cg ((show Fr ([31], [], [(46, 2), (46, 3), (46, 4), (46, 5), (46, 6), (46, 7)], []) s s129 from (fr_tr rfl g46_2 hF129)).2.2.1 30 0 rfl) ((show Fr ([31], [], [(46, 2), (46, 3), (46, 4), (46, 5), (46, 6), (46, 7)], []) s s129 from (fr_tr rfl g46_2 hF129)).2.2.1 2 0 rfl)).2.1) (k_138_1 (by omega) hI129 (in_w (-1) 25 j46_3 rfl) v150 v150a v150b p150 p150a) (fun e u h => h) (fun v u h => ?_)
            obtain ⟨a150, s150, hI150, hF150, n150, z150, rfl, rfl, i150, p150b, p150c, p150d, p150e⟩ := h
            obtain ⟨z150a, e150⟩ : ∃ w, w = s150.2.2.1 2 0 := ⟨_, rfl⟩
            have i150a := inv_F hI150 0 4000 rfl e150
            rw [← (show w46_2_0 = s129.2.2.1 2 0 from fr_F (v46_2_0) hF129 rfl)] at n150
            rw [← (show z150a = s150.2.2.1 2 0 from e150)] at n150
            show GG _ _ _ _ _ _ _ _ [.int z150] _ _ _
            refine g_if_ne 156 165 (gd rfl) rfl rfl (fun c153 => ?_) (fun c153 => ?_)
            · skip
              have i153 := z_ne 1 1 c153 i150 rfl
              refine g_iconst 1 166 (gd rfl) rfl rfl ?_
              refine g_goto 170 (gd rfl) rfl ?_
              have n170 : KL s150 := by exact p150b
              have n170a : ((Int32.ofInt 1)).toInt ≠ 0 → (s150.2.2.1 30 0).toInt = nln s := by first | (intro h; exact absurd rfl h) | (intro _; rw [← (lc_cg (s := s) (hL.2.2.1 30 0 rfl) (hL.2.2.1 2 0 rfl)).2.2]; exact p150c c153)
              have n170b : ((Int32.ofInt 1)).toInt ≠ 0 → (s.2.2.1 2 0).toInt ≤ 3999 := by first | (intro h; exact absurd rfl h) | (intro _; rw [← hL.2.2.1 2 0 rfl]; exact p150d c153)
              have n170c : ∀ k : Nat, (k : Int) < 7 * (s.2.2.1 2 0).toInt → s150.1 30 k = s.1 30 k := by exact fun k hk => by rw [p150e k (by rw [hL.2.2.1 2 0 rfl]; exact hk), hL.1 30 rfl]
              have n170d : (z129a).toInt ≤ (u_46_1).toInt := by have a0 := ro_46_1; unfold In at a0; have a1 := (inv_F hIc46 448 28000 rfl v46_30_0); unfold In at a1; have a2 := (inv_F hIc46 0 32 rfl v46_2_1); unfold In at a2; have a3 := (inv_F hIc46 0 4000 rfl v46_2_0); unfold In at a3; have a4 := (inv_F hIc46 0 1000 rfl v46_46_2); unfold In at a4; have a5 := i63; unfold In at a5; have a6 := j46_4; unfold In at a6; have a7 := j46_3; unfold In at a7; have a8 := j46_2; unfold In at a8; have a9 := i150a; unfold In at a9; have a10 := i129b; unfold In at a10; have a11 := i129a; unfold In at a11; omega
              have n170e : (s150.2.2.1 46 2).toInt ≤ (s150.2.2.1 46 1).toInt := by have b0 : z129a = s150.2.2.1 46 2 := fr_F (e129) hF150 rfl; have b1 : u_46_1 = s150.2.2.1 46 1 := fr_F (fr_F (fr_F e_46_1 hFc46 rfl) hF129 rfl) hF150 rfl; rw [← b0, ← b1]; exact n170d
              have n170f : (u_2_0).toInt ≤ (z150a).toInt := by have a0 := ro_46_1; unfold In at a0; have a1 := (inv_F hIc46 448 28000 rfl v46_30_0); unfold In at a1; have a2 := (inv_F hIc46 0 32 rfl v46_2_1); unfold In at a2; have a3 := (inv_F hIc46 0 4000 rfl v46_2_0); unfold In at a3; have a4 := (inv_F hIc46 0 1000 rfl v46_46_2); unfold In at a4; have a5 := i63; unfold In at a5; have a6 := j46_4; unfold In at a6; have a7 := j46_3; unfold In at a7; have a8 := j46_2; unfold In at a8; have a9 := i150a; unfold In at a9; have a10 := i129b; unfold In at a10; have a11 := i129a; unfold In at a11; omega
              have n170g : (s.2.2.1 2 0).toInt ≤ (s150.2.2.1 2 0).toInt := by have b0 : z150a = s150.2.2.1 2 0 := e150; first | (rw [← b0, ← e_2_0]; exact n170f) | (rw [← b0]; exact n170f)
              exact g_ireturn (gd rfl) rfl (nb01 (in_w 0 1 (in_c 1 rfl) rfl)) (hP _ _ ⟨a150, s150, hI150, (fr_tr rfl (fr_tr rfl hFc46 hF129) hF150), n170e, n170g, (Int32.ofInt 1), rfl, rfl, in_w 0 1 (in_c 1 rfl) rfl, n170, n170a, n170b, n170c⟩)
            · skip
              have i153 := z_eq 0 0 c153 i150 rfl
              refine g_aload_n 157 (gd rfl) rfl rfl ?_
              refine g_iconst 4 158 (gd rfl) rfl rfl ?_
              refine g_iload_n 159 (gd rfl) rfl rfl ?_
              refine g_callv (X := _) (As := [.int (Int32.ofInt 4), .int y46_2]) (r := []) (b := A 46) (q := 46) 162 (gd rfl) rfl rfl rfl rfl rfl (ww_o rfl) (Nat.le_of_ble_eq_true rfl) (Nat.zero_le _) (Nat.zero_le _) (k_168_46 (A := (ax A 30 a150)) (by omega) hI150 (in_w 1 5 (in_c 4 rfl) rfl) (in_w 0 1000 j46_2 rfl)) (fun e u h => h) (fun v u h => ?_)
              obtain ⟨s159, hI159, hF159, z159, rfl, rfl, i159⟩ := h
              show GG _ _ _ _ _ _ _ _ [.int z159] _ _ _
              refine g_if_eq 165 169 (gd rfl) rfl rfl (fun c162 => ?_) (fun c162 => ?_)
              · skip
                refine g_iconst 0 170 (gd rfl) rfl rfl ?_
                have n170 : KL s159 := by exact kl_fr p150b hF159 rfl
                have n170a : ((Int32.ofInt 0)).toInt ≠ 0 → (s159.2.2.1 30 0).toInt = nln s := by intro h; exact absurd rfl h
                have n170b : ((Int32.ofInt 0)).toInt ≠ 0 → (s.2.2.1 2 0).toInt ≤ 3999 := by intro h; exact absurd rfl h
                have n170c : ∀ k : Nat, (k : Int) < 7 * (s.2.2.1 2 0).toInt → s159.1 30 k = s.1 30 k := by exact fun k hk => by rw [hF159.1 30 rfl, p150e k (by rw [hL.2.2.1 2 0 rfl]; exact hk), hL.1 30 rfl]
                have n170d : (z129a).toInt ≤ (u_46_1).toInt := by have a0 := ro_46_1; unfold In at a0; have a1 := (inv_F hIc46 448 28000 rfl v46_30_0); unfold In at a1; have a2 := (inv_F hIc46 0 32 rfl v46_2_1); unfold In at a2; have a3 := (inv_F hIc46 0 4000 rfl v46_2_0); unfold In at a3; have a4 := (inv_F hIc46 0 1000 rfl v46_46_2); unfold In at a4; have a5 := i63; unfold In at a5; have a6 := j46_4; unfold In at a6; have a7 := j46_3; unfold In at a7; have a8 := j46_2; unfold In at a8; have a9 := i150a; unfold In at a9; have a10 := i129b; unfold In at a10; have a11 := i129a; unfold In at a11; omega
                have n170e : (s159.2.2.1 46 2).toInt ≤ (s159.2.2.1 46 1).toInt := by have b0 : z129a = s159.2.2.1 46 2 := fr_F (fr_F (e129) hF150 rfl) hF159 rfl; have b1 : u_46_1 = s159.2.2.1 46 1 := fr_F (fr_F (fr_F (fr_F e_46_1 hFc46 rfl) hF129 rfl) hF150 rfl) hF159 rfl; rw [← b0, ← b1]; exact n170d
                have n170f : (u_2_0).toInt ≤ (z150a).toInt := by have a0 := ro_46_1; unfold In at a0; have a1 := (inv_F hIc46 448 28000 rfl v46_30_0); unfold In at a1; have a2 := (inv_F hIc46 0 32 rfl v46_2_1); unfold In at a2; have a3 := (inv_F hIc46 0 4000 rfl v46_2_0); unfold In at a3; have a4 := (inv_F hIc46 0 1000 rfl v46_46_2); unfold In at a4; have a5 := i63; unfold In at a5; have a6 := j46_4; unfold In at a6; have a7 := j46_3; unfold In at a7; have a8 := j46_2; unfold In at a8; have a9 := i150a; unfold In at a9; have a10 := i129b; unfold In at a10; have a11 := i129a; unfold In at a11; omega
                have n170g : (s.2.2.1 2 0).toInt ≤ (s159.2.2.1 2 0).toInt := by have b0 : z150a = s159.2.2.1 2 0 := fr_F (e150) hF159 rfl; first | (rw [← b0, ← e_2_0]; exact n170f) | (rw [← b0]; exact n170f)
                exact g_ireturn (gd rfl) rfl (nb01 (in_w 0 1 (in_c 0 rfl) rfl)) (hP _ _ ⟨a150, s159, hI159, (fr_tr rfl (fr_tr rfl (fr_tr rfl hFc46 hF129) hF150) hF159), n170e, n170g, (Int32.ofInt 0), rfl, rfl, in_w 0 1 (in_c 0 rfl) rfl, n170, n170a, n170b, n170c⟩)
              · skip
                exact zn_ne c162 i159 rfl
          · skip
            have i138 := z_eq 0 0 c138 i135 rfl
            refine g_aload_n 142 (gd rfl) rfl rfl ?_
            refine g_iconst 2 143 (gd rfl) rfl rfl ?_
            refine g_iconst 3 144 (gd rfl) rfl rfl ?_
            refine g_callv (X := _) (As := [.int (Int32.ofInt 2), .int (Int32.ofInt 3)]) (r := []) (b := A 46) (q := 46) 147 (gd rfl) rfl rfl rfl rfl rfl (ww_o rfl) (Nat.le_of_ble_eq_true rfl) (Nat.zero_le _) (Nat.zero_le _) (k_169_46 (by omega) hI129 (in_w 2 2 (in_c 2 rfl) rfl) (in_w 3 4 (in_c 3 rfl) rfl)) (fun e u h => h) (fun v u h => ?_)
            obtain ⟨s144, hI144, hF144, z144, rfl, rfl, i144⟩ := h
            show GG _ _ _ _ _ _ _ _ [.int z144] _ _ _
            have n147 : KL s144 := by have hL9 : Fr ([31], [], [(46, 2), (46, 3), (46, 4), (46, 5), (46, 6), (46, 7)], []) s s144 := (fr_tr rfl (fr_tr rfl g46_2 hF129) hF144); exact kl_fr q_0 hL9 rfl
            have n147a : (z144).toInt ≠ 0 → (s144.2.2.1 30 0).toInt = nln s := by first | (intro h; exact absurd rfl h) | (intro h; exfalso; revert h; first | (unfold In at i39; omega) | (unfold In at i104; omega) | (unfold In at i144; omega))
            have n147b : (z144).toInt ≠ 0 → (s.2.2.1 2 0).toInt ≤ 3999 := by first | (intro h; exact absurd rfl h) | (intro h; exfalso; revert h; first | (unfold In at i39; omega) | (unfold In at i104; omega) | (unfold In at i144; omega))
            have n147c : ∀ k : Nat, (k : Int) < 7 * (s.2.2.1 2 0).toInt → s144.1 30 k = s.1 30 k := by have hL9 : Fr ([31], [], [(46, 2), (46, 3), (46, 4), (46, 5), (46, 6), (46, 7)], []) s s144 := (fr_tr rfl (fr_tr rfl g46_2 hF129) hF144); exact fun k _ => by rw [hL9.1 30 rfl]
            have n147d : (z129a).toInt ≤ (u_46_1).toInt := by have a0 := ro_46_1; unfold In at a0; have a1 := (inv_F hIc46 448 28000 rfl v46_30_0); unfold In at a1; have a2 := (inv_F hIc46 0 32 rfl v46_2_1); unfold In at a2; have a3 := (inv_F hIc46 0 4000 rfl v46_2_0); unfold In at a3; have a4 := (inv_F hIc46 0 1000 rfl v46_46_2); unfold In at a4; have a5 := i63; unfold In at a5; have a6 := j46_4; unfold In at a6; have a7 := j46_3; unfold In at a7; have a8 := j46_2; unfold In at a8; have a9 := i129b; unfold In at a9; have a10 := i129a; unfold In at a10; omega
            have n147e : (s144.2.2.1 46 2).toInt ≤ (s144.2.2.1 46 1).toInt := by have b0 : z129a = s144.2.2.1 46 2 := fr_F (e129) hF144 rfl; have b1 : u_46_1 = s144.2.2.1 46 1 := fr_F (fr_F (fr_F e_46_1 hFc46 rfl) hF129 rfl) hF144 rfl; rw [← b0, ← b1]; exact n147d
            have n147f : (u_2_0).toInt ≤ (w46_2_0).toInt := by have a0 := ro_46_1; unfold In at a0; have a1 := (inv_F hIc46 448 28000 rfl v46_30_0); unfold In at a1; have a2 := (inv_F hIc46 0 32 rfl v46_2_1); unfold In at a2; have a3 := (inv_F hIc46 0 4000 rfl v46_2_0); unfold In at a3; have a4 := (inv_F hIc46 0 1000 rfl v46_46_2); unfold In at a4; have a5 := i63; unfold In at a5; have a6 := j46_4; unfold In at a6; have a7 := j46_3; unfold In at a7; have a8 := j46_2; unfold In at a8; have a9 := i129b; unfold In at a9; have a10 := i129a; unfold In at a10; omega
            have n147g : (s.2.2.1 2 0).toInt ≤ (s144.2.2.1 2 0).toInt := by have b0 : w46_2_0 = s144.2.2.1 2 0 := fr_F (fr_F (v46_2_0) hF129 rfl) hF144 rfl; first | (rw [← b0, ← e_2_0]; exact n147f) | (rw [← b0]; exact n147f)
            exact g_ireturn (gd rfl) rfl (nb01 (in_w 0 1 i144 rfl)) (hP _ _ ⟨(A 30), s144, hI144, (fr_tr rfl (fr_tr rfl hFc46 hF129) hF144), n147e, n147g, z144, rfl, (by rw [ax_id]), in_w 0 1 i144 rfl, n147, n147a, n147b, n147c⟩)
        · skip
          have i63 := r_lt1 0 4 c63 j46_5 (in_c 5 rfl) rfl
          refine g_aload_n 67 (gd rfl) rfl rfl ?_
          refine g_bipush 7 69 (gd rfl) rfl rfl ?_
          refine g_iconst 1 70 (gd rfl) rfl rfl ?_
          have v70 : u_46_1 = sc46.2.2.1 46 1 := fr_F e_46_1 hFc46 rfl
          have n70 : (w46_46_2).toInt ≤ (u_46_1).toInt := by have a0 := ro_46_1; unfold In at a0; have a1 := (inv_F hIc46 448 28000 rfl v46_30_0); unfold In at a1; have a2 := (inv_F hIc46 0 32 rfl v46_2_1); unfold In at a2; have a3 := (inv_F hIc46 0 4000 rfl v46_2_0); unfold In at a3; have a4 := (inv_F hIc46 0 1000 rfl v46_46_2); unfold In at a4; have a5 := i63; unfold In at a5; have a6 := j46_4; unfold In at a6; have a7 := j46_3; unfold In at a7; have a8 := j46_2; unfold In at a8; omega
          refine g_callv (X := _) (As := [.int (Int32.ofInt 7), .int (Int32.ofInt 1)]) (r := []) (b := A 46) (q := 46) 73 (gd rfl) rfl rfl rfl rfl rfl (ww_o rfl) (Nat.le_of_ble_eq_true rfl) (Nat.zero_le _) (Nat.zero_le _) (k_171_46 (by omega) hIc46 (in_w 6 7 (in_c 7 rfl) rfl) (in_w 0 1 (in_c 1 rfl) rfl) v46_46_2 v70 n70) (fun e u h => h) (fun v u h => ?_)
          obtain ⟨s70, hI70, hF70, n70a, n70b, n70c, rfl, rfl, p70, p70a⟩ := h
          obtain ⟨z70a, e70⟩ : ∃ w, w = s70.2.2.1 46 2 := ⟨_, rfl⟩
          have i70a := inv_F hI70 0 1000 rfl e70
          obtain ⟨z70b, e70a⟩ : ∃ w, w = s70.2.2.1 46 4 := ⟨_, rfl⟩
          have i70b := inv_F hI70 0 1000 rfl e70a
          rw [← (show z70a = s70.2.2.1 46 2 from e70)] at n70a
          rw [← (show u_46_1 = s70.2.2.1 46 1 from fr_F (fr_F e_46_1 hFc46 rfl) hF70 rfl)] at n70a
          rw [← (show z70a = s70.2.2.1 46 2 from e70)] at n70b
          rw [← (show z70b = s70.2.2.1 46 4 from e70a)] at n70b
          rw [← (show w46_46_2 = sc46.2.2.1 46 2 from v46_46_2)] at n70c
          rw [← (show z70b = s70.2.2.1 46 4 from e70a)] at n70c
          show GG _ _ _ _ _ _ _ _ [] _ _ _
          refine g_aload 75 (gd rfl) rfl rfl ?_
          refine g_iload 77 (gd rfl) rfl rfl ?_
          have i77 : In y46_4 0 6 := in_w 0 6 j46_4 rfl
          have n77 : 0 ≤ (y46_5).toInt := by have a := i63; unfold In at a; omega
          have n77a : (y46_5).toInt < (zn y46_4 : Int) := by have h9 := p50; have a0 := ro_46_1; unfold In at a0; have a1 := (inv_F hIc46 448 28000 rfl v46_30_0); unfold In at a1; have a2 := (inv_F hIc46 0 32 rfl v46_2_1); unfold In at a2; have a3 := (inv_F hIc46 0 4000 rfl v46_2_0); unfold In at a3; have a4 := (inv_F hIc46 0 1000 rfl v46_46_2); unfold In at a4; have a5 := i63; unfold In at a5; have a6 := j46_4; unfold In at a6; have a7 := j46_3; unfold In at a7; have a8 := j46_2; unfold In at a8; have a9 := i70b; unfold In at a9; have a10 := i70a; unfold In at a10; omega
          refine g_callS (X := _) (As := [.int y46_5]) (r := []) (x := y46_4) 80 (gd rfl) rfl rfl rfl zm_429 rfl rfl rfl i77 (Nat.le_of_ble_eq_true rfl) (k_429 i77 n77 n77a (by omega)) (fun e u h => h) (fun v u h => ?_)
          obtain ⟨z77, rfl, rfl, i77a, p77⟩ := h
          show GG _ _ _ _ _ _ _ _ [.int z77] _ _ _
          refine g_bipush 108 82 (gd rfl) rfl rfl ?_
          refine g_cmp_ne 85 89 (gd rfl) rfl rfl (fun c82 => ?_) (fun c82 => ?_)
          · skip
            refine g_iconst 2 90 (gd rfl) rfl rfl ?_
            refine g_istore 92 (gd rfl) rfl (Nat.le_of_ble_eq_true rfl) ?_
            refine g_aload_n 93 (gd rfl) rfl rfl ?_
            refine g_getI 96 (gd rfl) rfl rfl rfl (fun z93 e93 => ?_)
            have i93 := inv_F hI70 0 5 rfl e93
            refine g_iload 98 (gd rfl) rfl rfl ?_
            refine g_cmp_eq 101 108 (gd rfl) rfl rfl (fun c98 => ?_) (fun c98 => ?_)
            · skip
              have i98 := r_eq1 2 2 c98 i93 (in_c 2 rfl) rfl
              refine g_aload_n 109 (gd rfl) rfl rfl ?_
              refine g_getA (q2 := 31) 112 (gd rfl) rfl rfl rfl rfl ?_
              refine g_iload 114 (gd rfl) rfl rfl ?_
              refine g_aload_n 115 (gd rfl) rfl rfl ?_
              refine g_getI 118 (gd rfl) rfl rfl rfl (fun z115 e115 => ?_)
              refine g_iastore 119 (gd rfl) rfl (n := 5) rfl (in_ix i63 rfl) ?_
              have hI118 := inv_sI (q := 31) (j := y46_5.toNatClampNeg) hI70 rfl (in_w (-2147483648) 2147483647 (i_rng z115) rfl)
              refine g_iinc 122 (gd rfl) rfl rfl (Nat.le_of_ble_eq_true rfl) (fun z119 e119 => ?_)
              have i119 := in_add 1 5 e119 i63 (in_c 1 rfl) rfl rfl
              refine g_goto 46 (gd rfl) rfl ?_
              have v46 : z70a = (sI s70 31 y46_5.toNatClampNeg z115).2.2.1 46 2 := sI_F (e70)
              have v46a : w46_2_0 = (sI s70 31 y46_5.toNatClampNeg z115).2.2.1 2 0 := sI_F (fr_F (v46_2_0) hF70 rfl)
              have v46b : w46_2_1 = (sI s70 31 y46_5.toNatClampNeg z115).2.2.1 2 1 := sI_F (fr_F (v46_2_1) hF70 rfl)
              have v46c : w46_30_0 = (sI s70 31 y46_5.toNatClampNeg z115).2.2.1 30 0 := sI_F (fr_F (v46_30_0) hF70 rfl)
              have n46 : (z70a).toInt ≤ (u_46_1).toInt := by have a0 := ro_46_1; unfold In at a0; have a1 := (inv_F hIc46 448 28000 rfl v46_30_0); unfold In at a1; have a2 := (inv_F hIc46 0 32 rfl v46_2_1); unfold In at a2; have a3 := (inv_F hIc46 0 4000 rfl v46_2_0); unfold In at a3; have a4 := (inv_F hIc46 0 1000 rfl v46_46_2); unfold In at a4; have a5 := i63; unfold In at a5; have a6 := j46_4; unfold In at a6; have a7 := j46_3; unfold In at a7; have a8 := j46_2; unfold In at a8; have a9 := (in_c 2 rfl); unfold In at a9; have a10 := i119; unfold In at a10; have a11 := t_add e119 i63 (in_c 1 rfl) rfl; have a12 := (in_c 1 rfl); unfold In at a12; have a13 := i98; unfold In at a13; have a14 := i70b; unfold In at a14; have a15 := i70a; unfold In at a15; omega
              have n46a : (u_2_0).toInt ≤ (w46_2_0).toInt := by have a0 := ro_46_1; unfold In at a0; have a1 := (inv_F hIc46 448 28000 rfl v46_30_0); unfold In at a1; have a2 := (inv_F hIc46 0 32 rfl v46_2_1); unfold In at a2; have a3 := (inv_F hIc46 0 4000 rfl v46_2_0); unfold In at a3; have a4 := (inv_F hIc46 0 1000 rfl v46_46_2); unfold In at a4; have a5 := i63; unfold In at a5; have a6 := j46_4; unfold In at a6; have a7 := j46_3; unfold In at a7; have a8 := j46_2; unfold In at a8; have a9 := (in_c 2 rfl); unfold In at a9; have a10 := i119; unfold In at a10; have a11 := t_add e119 i63 (in_c 1 rfl) rfl; have a12 := (in_c 1 rfl); unfold In at a12; have a13 := i98; unfold In at a13; have a14 := i70b; unfold In at a14; have a15 := i70a; unfold In at a15; omega
              have n46b : (y46_3).toInt = 13 → (y46_4).toInt = 1 := by exact g46_0
              have n46c : (y46_4).toInt = 1 → 1 ≤ (z119).toInt → In ((sI s70 31 y46_5.toNatClampNeg z115).1 31 0) 0 25 := by intro h4 _; first | (exfalso; have h9 := p77 h4; have c8 : (Int32.ofInt 108).toInt = 108 := (by decide); omega) | (have hz1 := zn_1 h4; have hi0 : y46_5.toInt = 0 := (by have h9 := p50; have a0 := ro_46_1; unfold In at a0; have a1 := (inv_F hIc46 448 28000 rfl v46_30_0); unfold In at a1; have a2 := (inv_F hIc46 0 32 rfl v46_2_1); unfold In at a2; have a3 := (inv_F hIc46 0 4000 rfl v46_2_0); unfold In at a3; have a4 := (inv_F hIc46 0 1000 rfl v46_46_2); unfold In at a4; have a5 := i63; unfold In at a5; have a6 := j46_4; unfold In at a6; have a7 := j46_3; unfold In at a7; have a8 := j46_2; unfold In at a8; have a9 := (in_c 2 rfl); unfold In at a9; have a10 := i119; unfold In at a10; have a11 := t_add e119 i63 (in_c 1 rfl) rfl; have a12 := (in_c 1 rfl); unfold In at a12; have a13 := i98; unfold In at a13; have a14 := i70b; unfold In at a14; have a15 := i70a; unfold In at a15; omega); rw [sI_q, show y46_5.toNatClampNeg = 0 from (by show y46_5.toInt.toNat = 0; omega), ug_at, e115]; exact p70a (by rw [← e93]; exact c98.trans (by decide)))
              have n46d : Fr ([31], [], [(46, 2), (46, 3), (46, 4), (46, 5), (46, 6), (46, 7)], []) s (sI s70 31 y46_5.toNatClampNeg z115) := by exact fr_sI rfl (fr_tr rfl g46_2 hF70)
              exact gg_w (by omega) (gg_f (gf_cons rfl (gf_cons rfl (gf_cons rfl (gf_cons rfl (gf_cons rfl (gf_cons rfl gf_nil)))))) (ih46 (sI s70 31 y46_5.toNatClampNeg z115) y46_2 y46_3 y46_4 z119 z70a w46_2_0 w46_2_1 w46_30_0 hI118 (fr_sI rfl (fr_tr rfl hFc46 hF70)) (in_w 0 1000 j46_2 rfl) (in_w (-1) 25 j46_3 rfl) (in_w 1 5 j46_4 rfl) (in_w 0 5 i119 rfl) v46 v46a v46b v46c n46 n46a n46b n46c n46d (m_up mm46 (t_add e119 i63 (in_c 1 rfl) rfl) (in_w 1 1 (in_c 1 rfl) rfl))))
            · skip
              refine g_aload_n 102 (gd rfl) rfl rfl ?_
              refine g_iconst 2 103 (gd rfl) rfl rfl ?_
              refine g_iconst 3 104 (gd rfl) rfl rfl ?_
              refine g_callv (X := _) (As := [.int (Int32.ofInt 2), .int (Int32.ofInt 3)]) (r := []) (b := A 46) (q := 46) 107 (gd rfl) rfl rfl rfl rfl rfl (ww_o rfl) (Nat.le_of_ble_eq_true rfl) (Nat.zero_le _) (Nat.zero_le _) (k_169_46 (by omega) hI70 (in_w 2 2 (in_c 2 rfl) rfl) (in_w 3 4 (in_c 3 rfl) rfl)) (fun e u h => h) (fun v u h => ?_)
              obtain ⟨s104, hI104, hF104, z104, rfl, rfl, i104⟩ := h
              show GG _ _ _ _ _ _ _ _ [.int z104] _ _ _
              have n107 : KL s104 := by have hL9 : Fr ([31], [], [(46, 2), (46, 3), (46, 4), (46, 5), (46, 6), (46, 7)], []) s s104 := (fr_tr rfl (fr_tr rfl g46_2 hF70) hF104); exact kl_fr q_0 hL9 rfl
              have n107a : (z104).toInt ≠ 0 → (s104.2.2.1 30 0).toInt = nln s := by first | (intro h; exact absurd rfl h) | (intro h; exfalso; revert h; first | (unfold In at i39; omega) | (unfold In at i104; omega) | (unfold In at i144; omega))
              have n107b : (z104).toInt ≠ 0 → (s.2.2.1 2 0).toInt ≤ 3999 := by first | (intro h; exact absurd rfl h) | (intro h; exfalso; revert h; first | (unfold In at i39; omega) | (unfold In at i104; omega) | (unfold In at i144; omega))
              have n107c : ∀ k : Nat, (k : Int) < 7 * (s.2.2.1 2 0).toInt → s104.1 30 k = s.1 30 k := by have hL9 : Fr ([31], [], [(46, 2), (46, 3), (46, 4), (46, 5), (46, 6), (46, 7)], []) s s104 := (fr_tr rfl (fr_tr rfl g46_2 hF70) hF104); exact fun k _ => by rw [hL9.1 30 rfl]
              have n107d : (z70a).toInt ≤ (u_46_1).toInt := by have a0 := ro_46_1; unfold In at a0; have a1 := (inv_F hIc46 448 28000 rfl v46_30_0); unfold In at a1; have a2 := (inv_F hIc46 0 32 rfl v46_2_1); unfold In at a2; have a3 := (inv_F hIc46 0 4000 rfl v46_2_0); unfold In at a3; have a4 := (inv_F hIc46 0 1000 rfl v46_46_2); unfold In at a4; have a5 := i63; unfold In at a5; have a6 := j46_4; unfold In at a6; have a7 := j46_3; unfold In at a7; have a8 := j46_2; unfold In at a8; have a9 := (in_c 2 rfl); unfold In at a9; have a10 := i93; unfold In at a10; have a11 := i70b; unfold In at a11; have a12 := i70a; unfold In at a12; omega
              have n107e : (s104.2.2.1 46 2).toInt ≤ (s104.2.2.1 46 1).toInt := by have b0 : z70a = s104.2.2.1 46 2 := fr_F (e70) hF104 rfl; have b1 : u_46_1 = s104.2.2.1 46 1 := fr_F (fr_F (fr_F e_46_1 hFc46 rfl) hF70 rfl) hF104 rfl; rw [← b0, ← b1]; exact n107d
              have n107f : (u_2_0).toInt ≤ (w46_2_0).toInt := by have a0 := ro_46_1; unfold In at a0; have a1 := (inv_F hIc46 448 28000 rfl v46_30_0); unfold In at a1; have a2 := (inv_F hIc46 0 32 rfl v46_2_1); unfold In at a2; have a3 := (inv_F hIc46 0 4000 rfl v46_2_0); unfold In at a3; have a4 := (inv_F hIc46 0 1000 rfl v46_46_2); unfold In at a4; have a5 := i63; unfold In at a5; have a6 := j46_4; unfold In at a6; have a7 := j46_3; unfold In at a7; have a8 := j46_2; unfold In at a8; have a9 := (in_c 2 rfl); unfold In at a9; have a10 := i93; unfold In at a10; have a11 := i70b; unfold In at a11; have a12 := i70a; unfold In at a12; omega
              have n107g : (s.2.2.1 2 0).toInt ≤ (s104.2.2.1 2 0).toInt := by have b0 : w46_2_0 = s104.2.2.1 2 0 := fr_F (fr_F (v46_2_0) hF70 rfl) hF104 rfl; first | (rw [← b0, ← e_2_0]; exact n107f) | (rw [← b0]; exact n107f)
              exact g_ireturn (gd rfl) rfl (nb01 (in_w 0 1 i104 rfl)) (hP _ _ ⟨(A 30), s104, hI104, (fr_tr rfl (fr_tr rfl hFc46 hF70) hF104), n107e, n107g, z104, rfl, (by rw [ax_id]), in_w 0 1 i104 rfl, n107, n107a, n107b, n107c⟩)
          · skip
            have i82 := r_eq1 108 108 c82 i77a (in_c 108 rfl) rfl
            refine g_iconst 1 86 (gd rfl) rfl rfl ?_
            refine g_goto 90 (gd rfl) rfl ?_
            refine g_istore 92 (gd rfl) rfl (Nat.le_of_ble_eq_true rfl) ?_
            refine g_aload_n 93 (gd rfl) rfl rfl ?_
            refine g_getI 96 (gd rfl) rfl rfl rfl (fun z93 e93 => ?_)
            have i93 := inv_F hI70 0 5 rfl e93
            refine g_iload 98 (gd rfl) rfl rfl ?_
            refine g_cmp_eq 101 108 (gd rfl) rfl rfl (fun c98 => ?_) (fun c98 => ?_)
            · skip
              have i98 := r_eq1 1 1 c98 i93 (in_c 1 rfl) rfl
              refine g_aload_n 109 (gd rfl) rfl rfl ?_
              refine g_getA (q2 := 31) 112 (gd rfl) rfl rfl rfl rfl ?_
              refine g_iload 114 (gd rfl) rfl rfl ?_
              refine g_aload_n 115 (gd rfl) rfl rfl ?_
              refine g_getI 118 (gd rfl) rfl rfl rfl (fun z115 e115 => ?_)
              refine g_iastore 119 (gd rfl) rfl (n := 5) rfl (in_ix i63 rfl) ?_
              have hI118 := inv_sI (q := 31) (j := y46_5.toNatClampNeg) hI70 rfl (in_w (-2147483648) 2147483647 (i_rng z115) rfl)
              refine g_iinc 122 (gd rfl) rfl rfl (Nat.le_of_ble_eq_true rfl) (fun z119 e119 => ?_)
              have i119 := in_add 1 5 e119 i63 (in_c 1 rfl) rfl rfl
              refine g_goto 46 (gd rfl) rfl ?_
              have v46 : z70a = (sI s70 31 y46_5.toNatClampNeg z115).2.2.1 46 2 := sI_F (e70)
              have v46a : w46_2_0 = (sI s70 31 y46_5.toNatClampNeg z115).2.2.1 2 0 := sI_F (fr_F (v46_2_0) hF70 rfl)
              have v46b : w46_2_1 = (sI s70 31 y46_5.toNatClampNeg z115).2.2.1 2 1 := sI_F (fr_F (v46_2_1) hF70 rfl)
              have v46c : w46_30_0 = (sI s70 31 y46_5.toNatClampNeg z115).2.2.1 30 0 := sI_F (fr_F (v46_30_0) hF70 rfl)
              have n46 : (z70a).toInt ≤ (u_46_1).toInt := by have a0 := ro_46_1; unfold In at a0; have a1 := (inv_F hIc46 448 28000 rfl v46_30_0); unfold In at a1; have a2 := (inv_F hIc46 0 32 rfl v46_2_1); unfold In at a2; have a3 := (inv_F hIc46 0 4000 rfl v46_2_0); unfold In at a3; have a4 := (inv_F hIc46 0 1000 rfl v46_46_2); unfold In at a4; have a5 := i63; unfold In at a5; have a6 := j46_4; unfold In at a6; have a7 := j46_3; unfold In at a7; have a8 := j46_2; unfold In at a8; have a9 := (in_c 1 rfl); unfold In at a9; have a10 := i119; unfold In at a10; have a11 := t_add e119 i63 (in_c 1 rfl) rfl; have a12 := i98; unfold In at a12; have a13 := i70b; unfold In at a13; have a14 := i70a; unfold In at a14; omega
              have n46a : (u_2_0).toInt ≤ (w46_2_0).toInt := by have a0 := ro_46_1; unfold In at a0; have a1 := (inv_F hIc46 448 28000 rfl v46_30_0); unfold In at a1; have a2 := (inv_F hIc46 0 32 rfl v46_2_1); unfold In at a2; have a3 := (inv_F hIc46 0 4000 rfl v46_2_0); unfold In at a3; have a4 := (inv_F hIc46 0 1000 rfl v46_46_2); unfold In at a4; have a5 := i63; unfold In at a5; have a6 := j46_4; unfold In at a6; have a7 := j46_3; unfold In at a7; have a8 := j46_2; unfold In at a8; have a9 := (in_c 1 rfl); unfold In at a9; have a10 := i119; unfold In at a10; have a11 := t_add e119 i63 (in_c 1 rfl) rfl; have a12 := i98; unfold In at a12; have a13 := i70b; unfold In at a13; have a14 := i70a; unfold In at a14; omega
              have n46b : (y46_3).toInt = 13 → (y46_4).toInt = 1 := by exact g46_0
              have n46c : (y46_4).toInt = 1 → 1 ≤ (z119).toInt → In ((sI s70 31 y46_5.toNatClampNeg z115).1 31 0) 0 25 := by intro h4 _; first | (exfalso; have h9 := p77 h4; have c8 : (Int32.ofInt 108).toInt = 108 := (by decide); omega) | (have hz1 := zn_1 h4; have hi0 : y46_5.toInt = 0 := (by have h9 := p50; have a0 := ro_46_1; unfold In at a0; have a1 := (inv_F hIc46 448 28000 rfl v46_30_0); unfold In at a1; have a2 := (inv_F hIc46 0 32 rfl v46_2_1); unfold In at a2; have a3 := (inv_F hIc46 0 4000 rfl v46_2_0); unfold In at a3; have a4 := (inv_F hIc46 0 1000 rfl v46_46_2); unfold In at a4; have a5 := i63; unfold In at a5; have a6 := j46_4; unfold In at a6; have a7 := j46_3; unfold In at a7; have a8 := j46_2; unfold In at a8; have a9 := (in_c 1 rfl); unfold In at a9; have a10 := i119; unfold In at a10; have a11 := t_add e119 i63 (in_c 1 rfl) rfl; have a12 := i98; unfold In at a12; have a13 := i70b; unfold In at a13; have a14 := i70a; unfold In at a14; omega); rw [sI_q, show y46_5.toNatClampNeg = 0 from (by show y46_5.toInt.toNat = 0; omega), ug_at, e115]; exact p70a (by rw [← e93]; exact c98.trans (by decide)))
              have n46d : Fr ([31], [], [(46, 2), (46, 3), (46, 4), (46, 5), (46, 6), (46, 7)], []) s (sI s70 31 y46_5.toNatClampNeg z115) := by exact fr_sI rfl (fr_tr rfl g46_2 hF70)
              exact gg_w (by omega) (gg_f (gf_cons rfl (gf_cons rfl (gf_cons rfl (gf_cons rfl (gf_cons rfl (gf_cons rfl gf_nil)))))) (ih46 (sI s70 31 y46_5.toNatClampNeg z115) y46_2 y46_3 y46_4 z119 z70a w46_2_0 w46_2_1 w46_30_0 hI118 (fr_sI rfl (fr_tr rfl hFc46 hF70)) (in_w 0 1000 j46_2 rfl) (in_w (-1) 25 j46_3 rfl) (in_w 1 5 j46_4 rfl) (in_w 0 5 i119 rfl) v46 v46a v46b v46c n46 n46a n46b n46c n46d (m_up mm46 (t_add e119 i63 (in_c 1 rfl) rfl) (in_w 1 1 (in_c 1 rfl) rfl))))
            · skip
              refine g_aload_n 102 (gd rfl) rfl rfl ?_
              refine g_iconst 2 103 (gd rfl) rfl rfl ?_
              refine g_iconst 3 104 (gd rfl) rfl rfl ?_
              refine g_callv (X := _) (As := [.int (Int32.ofInt 2), .int (Int32.ofInt 3)]) (r := []) (b := A 46) (q := 46) 107 (gd rfl) rfl rfl rfl rfl rfl (ww_o rfl) (Nat.le_of_ble_eq_true rfl) (Nat.zero_le _) (Nat.zero_le _) (k_169_46 (by omega) hI70 (in_w 2 2 (in_c 2 rfl) rfl) (in_w 3 4 (in_c 3 rfl) rfl)) (fun e u h => h) (fun v u h => ?_)
              obtain ⟨s104, hI104, hF104, z104, rfl, rfl, i104⟩ := h
              show GG _ _ _ _ _ _ _ _ [.int z104] _ _ _
              have n107 : KL s104 := by have hL9 : Fr ([31], [], [(46, 2), (46, 3), (46, 4), (46, 5), (46, 6), (46, 7)], []) s s104 := (fr_tr rfl (fr_tr rfl g46_2 hF70) hF104); exact kl_fr q_0 hL9 rfl
              have n107a : (z104).toInt ≠ 0 → (s104.2.2.1 30 0).toInt = nln s := by first | (intro h; exact absurd rfl h) | (intro h; exfalso; revert h; first | (unfold In at i39; omega) | (unfold In at i104; omega) | (unfold In at i144; omega))
              have n107b : (z104).toInt ≠ 0 → (s.2.2.1 2 0).toInt ≤ 3999 := by first | (intro h; exact absurd rfl h) | (intro h; exfalso; revert h; first | (unfold In at i39; omega) | (unfold In at i104; omega) | (unfold In at i144; omega))
              have n107c : ∀ k : Nat, (k : Int) < 7 * (s.2.2.1 2 0).toInt → s104.1 30 k = s.1 30 k := by have hL9 : Fr ([31], [], [(46, 2), (46, 3), (46, 4), (46, 5), (46, 6), (46, 7)], []) s s104 := (fr_tr rfl (fr_tr rfl g46_2 hF70) hF104); exact fun k _ => by rw [hL9.1 30 rfl]
              have n107d : (z70a).toInt ≤ (u_46_1).toInt := by have a0 := ro_46_1; unfold In at a0; have a1 := (inv_F hIc46 448 28000 rfl v46_30_0); unfold In at a1; have a2 := (inv_F hIc46 0 32 rfl v46_2_1); unfold In at a2; have a3 := (inv_F hIc46 0 4000 rfl v46_2_0); unfold In at a3; have a4 := (inv_F hIc46 0 1000 rfl v46_46_2); unfold In at a4; have a5 := i63; unfold In at a5; have a6 := j46_4; unfold In at a6; have a7 := j46_3; unfold In at a7; have a8 := j46_2; unfold In at a8; have a9 := (in_c 1 rfl); unfold In at a9; have a10 := i93; unfold In at a10; have a11 := i70b; unfold In at a11; have a12 := i70a; unfold In at a12; omega
              have n107e : (s104.2.2.1 46 2).toInt ≤ (s104.2.2.1 46 1).toInt := by have b0 : z70a = s104.2.2.1 46 2 := fr_F (e70) hF104 rfl; have b1 : u_46_1 = s104.2.2.1 46 1 := fr_F (fr_F (fr_F e_46_1 hFc46 rfl) hF70 rfl) hF104 rfl; rw [← b0, ← b1]; exact n107d
              have n107f : (u_2_0).toInt ≤ (w46_2_0).toInt := by have a0 := ro_46_1; unfold In at a0; have a1 := (inv_F hIc46 448 28000 rfl v46_30_0); unfold In at a1; have a2 := (inv_F hIc46 0 32 rfl v46_2_1); unfold In at a2; have a3 := (inv_F hIc46 0 4000 rfl v46_2_0); unfold In at a3; have a4 := (inv_F hIc46 0 1000 rfl v46_46_2); unfold In at a4; have a5 := i63; unfold In at a5; have a6 := j46_4; unfold In at a6; have a7 := j46_3; unfold In at a7; have a8 := j46_2; unfold In at a8; have a9 := (in_c 1 rfl); unfold In at a9; have a10 := i93; unfold In at a10; have a11 := i70b; unfold In at a11; have a12 := i70a; unfold In at a12; omega
              have n107g : (s.2.2.1 2 0).toInt ≤ (s104.2.2.1 2 0).toInt := by have b0 : w46_2_0 = s104.2.2.1 2 0 := fr_F (fr_F (v46_2_0) hF70 rfl) hF104 rfl; first | (rw [← b0, ← e_2_0]; exact n107f) | (rw [← b0]; exact n107f)
              exact g_ireturn (gd rfl) rfl (nb01 (in_w 0 1 i104 rfl)) (hP _ _ ⟨(A 30), s104, hI104, (fr_tr rfl (fr_tr rfl hFc46 hF70) hF104), n107e, n107g, z104, rfl, (by rw [ax_id]), in_w 0 1 i104 rfl, n107, n107a, n107b, n107c⟩)
  refine g_enter2 (k := 136) (N := 6301) (by omega) rfl (Nat.le_of_ble_eq_true rfl) ?_
  refine g_aload_n 1 (gd rfl) rfl rfl ?_
  refine g_getI 4 (gd rfl) rfl rfl rfl (fun z1 e1 => ?_)
  have i1 := inv_F hI 0 1000 rfl e1
  refine g_istore_n 5 (gd rfl) rfl (Nat.le_of_ble_eq_true rfl) ?_
  refine g_aload_n 6 (gd rfl) rfl rfl ?_
  refine g_getI 9 (gd rfl) rfl rfl rfl (fun z6 e6 => ?_)
  have i6 := inv_F hI 0 5 rfl e6
  refine g_iconst 1 10 (gd rfl) rfl rfl ?_
  refine g_cmp_ne 13 20 (gd rfl) rfl rfl (fun c10 => ?_) (fun c10 => ?_)
  · skip
    refine g_iconst (-1) 21 (gd rfl) rfl rfl ?_
    refine g_istore_n 22 (gd rfl) rfl (Nat.le_of_ble_eq_true rfl) ?_
    refine g_iload_n 23 (gd rfl) rfl rfl ?_
    refine g_calls (As := [.int (Int32.ofInt (-1))]) (r := []) 26 (gd rfl) rfl rfl rfl rfl rfl (Nat.le_of_ble_eq_true rfl) (mc := 0) (ms := 0) (Nat.zero_le _) (Nat.zero_le _) (P := fun v u => _) ?_ (fun v u h => h)
    intro po23 xx23 hp23 hx23
    refine g_enter2 (k := 137) (N := 300) (by omega) rfl (Nat.le_of_ble_eq_true rfl) ?_
    refine g_iload_n 1 (gd rfl) rfl rfl ?_
    refine g_lsw [(0, 47), (13, 44), (19, 50), (22, 53)] 56 (gd rfl) rfl rfl rfl ⟨fun c23x1 => ?_, fun c23x1_0 => ⟨fun c23x1 => ?_, fun c23x1_1 => ⟨fun c23x1 => ?_, fun c23x1_2 => ⟨fun c23x1 => ?_, fun c23x1_3 => ?_⟩⟩⟩⟩
    · skip
      exact sw_ne c23x1 (in_c (-1) rfl) rfl
    · skip
      exact sw_ne c23x1 (in_c (-1) rfl) rfl
    · skip
      exact sw_ne c23x1 (in_c (-1) rfl) rfl
    · skip
      exact sw_ne c23x1 (in_c (-1) rfl) rfl
    · skip
      refine g_ldcs 5 58 (gd rfl) rfl rfl ?_
      refine g_areturn (gd rfl) rfl (hp23 _ _ ?_)
      show GG _ _ _ _ _ _ _ _ [.ref (zq Z (Int32.ofInt 5))] _ _ _
      refine g_astore 28 (gd rfl) rfl (Nat.le_of_ble_eq_true rfl) ?_
      refine g_aload 30 (gd rfl) rfl rfl ?_
      have i30 : In (Int32.ofInt 5) 0 6 := in_w 0 6 (in_c 5 rfl) rfl
      refine g_callS (X := _) (As := []) (r := []) (x := (Int32.ofInt 5)) 33 (gd rfl) rfl rfl rfl zm_428 rfl rfl rfl i30 (Nat.le_of_ble_eq_true rfl) (k_428 i30 (by omega)) (fun e u h => h) (fun v u h => ?_)
      obtain ⟨z30, rfl, rfl, i30a, p30⟩ := h
      show GG _ _ _ _ _ _ _ _ [.int z30] _ _ _
      refine g_if_eq 36 43 (gd rfl) rfl rfl (fun c33 => ?_) (fun c33 => ?_)
      · skip
        have i33 := z_eq 0 0 c33 i30a rfl
        refine g_iconst 0 44 (gd rfl) rfl rfl ?_
        refine g_istore 46 (gd rfl) rfl (Nat.le_of_ble_eq_true rfl) ?_
        have n46 : (u_46_2).toInt ≤ (u_46_1).toInt := by have a0 := (inv_F hI 0 1000 rfl e_46_1); unfold In at a0; have a1 := (inv_F hI 0 1000 rfl e_46_2); unfold In at a1; have a2 := (inv_F hI 448 28000 rfl e_30_0); unfold In at a2; have a3 := (inv_F hI 0 32 rfl e_2_1); unfold In at a3; have a4 := (inv_F hI 0 4000 rfl e_2_0); unfold In at a4; have a5 := (in_c 0 rfl); unfold In at a5; have a6 := (in_c (-1) rfl); unfold In at a6; have a7 := i1; unfold In at a7; have a8 := i6; unfold In at a8; omega
        have n46a : (u_2_0).toInt ≤ (u_2_0).toInt := by have a0 := (inv_F hI 0 1000 rfl e_46_1); unfold In at a0; have a1 := (inv_F hI 0 1000 rfl e_46_2); unfold In at a1; have a2 := (inv_F hI 448 28000 rfl e_30_0); unfold In at a2; have a3 := (inv_F hI 0 32 rfl e_2_1); unfold In at a3; have a4 := (inv_F hI 0 4000 rfl e_2_0); unfold In at a4; have a5 := (in_c 0 rfl); unfold In at a5; have a6 := (in_c (-1) rfl); unfold In at a6; have a7 := i1; unfold In at a7; have a8 := i6; unfold In at a8; omega
        have n46b : ((Int32.ofInt (-1))).toInt = 13 → ((Int32.ofInt 5)).toInt = 1 := by intro h; first | decide | (exfalso; have a0 := (inv_F hI 0 1000 rfl e_46_1); unfold In at a0; have a1 := (inv_F hI 0 1000 rfl e_46_2); unfold In at a1; have a2 := (inv_F hI 448 28000 rfl e_30_0); unfold In at a2; have a3 := (inv_F hI 0 32 rfl e_2_1); unfold In at a3; have a4 := (inv_F hI 0 4000 rfl e_2_0); unfold In at a4; have a5 := (in_c 0 rfl); unfold In at a5; have a6 := (in_c (-1) rfl); unfold In at a6; have a7 := i1; unfold In at a7; have a8 := i6; unfold In at a8; omega)
        have n46c : ((Int32.ofInt 5)).toInt = 1 → 1 ≤ ((Int32.ofInt 0)).toInt → In (s.1 31 0) 0 25 := by intro _ h; exfalso; revert h; decide
        have n46d : Fr ([31], [], [(46, 2), (46, 3), (46, 4), (46, 5), (46, 6), (46, 7)], []) s s := by exact fr_rf
        exact gg_w (by omega) (gg_f (gf_cons rfl (gf_cons rfl (gf_cons rfl (gf_cons rfl (gf_cons rfl (gf_cons rfl gf_nil)))))) (ct46 6 s z1 (Int32.ofInt (-1)) (Int32.ofInt 5) (Int32.ofInt 0) u_46_2 u_2_0 u_2_1 u_30_0 hI fr_rf (in_w 0 1000 i1 rfl) (in_w (-1) 25 (in_c (-1) rfl) rfl) (in_w 1 5 (in_c 5 rfl) rfl) (in_w 0 5 (in_c 0 rfl) rfl) e_46_2 e_2_0 e_2_1 e_30_0 n46 n46a n46b n46c n46d (m_in 6 (in_w 0 5 (in_c 0 rfl) rfl) rfl)))
      · skip
        have i33 := z_ne 1 1 c33 i30a rfl
        refine g_aload_n 37 (gd rfl) rfl rfl ?_
        refine g_iconst 2 38 (gd rfl) rfl rfl ?_
        refine g_iconst 3 39 (gd rfl) rfl rfl ?_
        refine g_callv (X := _) (As := [.int (Int32.ofInt 2), .int (Int32.ofInt 3)]) (r := []) (b := A 46) (q := 46) 42 (gd rfl) rfl rfl rfl rfl rfl (ww_o rfl) (Nat.le_of_ble_eq_true rfl) (Nat.zero_le _) (Nat.zero_le _) (k_169_46 (by omega) hI (in_w 2 2 (in_c 2 rfl) rfl) (in_w 3 4 (in_c 3 rfl) rfl)) (fun e u h => h) (fun v u h => ?_)
        obtain ⟨s39, hI39, hF39, z39, rfl, rfl, i39⟩ := h
        show GG _ _ _ _ _ _ _ _ [.int z39] _ _ _
        have n42 : KL s39 := by have hL9 : Fr ([31], [], [(46, 2), (46, 3), (46, 4), (46, 5), (46, 6), (46, 7)], []) s s39 := (fr_tr rfl fr_rf hF39); exact kl_fr q_0 hL9 rfl
        have n42a : (z39).toInt ≠ 0 → (s39.2.2.1 30 0).toInt = nln s := by first | (intro h; exact absurd rfl h) | (intro h; exfalso; revert h; first | (unfold In at i39; omega) | (unfold In at i104; omega) | (unfold In at i144; omega))
        have n42b : (z39).toInt ≠ 0 → (s.2.2.1 2 0).toInt ≤ 3999 := by first | (intro h; exact absurd rfl h) | (intro h; exfalso; revert h; first | (unfold In at i39; omega) | (unfold In at i104; omega) | (unfold In at i144; omega))
        have n42c : ∀ k : Nat, (k : Int) < 7 * (s.2.2.1 2 0).toInt → s39.1 30 k = s.1 30 k := by have hL9 : Fr ([31], [], [(46, 2), (46, 3), (46, 4), (46, 5), (46, 6), (46, 7)], []) s s39 := (fr_tr rfl fr_rf hF39); exact fun k _ => by rw [hL9.1 30 rfl]
        have n42d : (u_46_2).toInt ≤ (u_46_1).toInt := by have a0 := (inv_F hI 0 1000 rfl e_46_1); unfold In at a0; have a1 := (inv_F hI 0 1000 rfl e_46_2); unfold In at a1; have a2 := (inv_F hI 448 28000 rfl e_30_0); unfold In at a2; have a3 := (inv_F hI 0 32 rfl e_2_1); unfold In at a3; have a4 := (inv_F hI 0 4000 rfl e_2_0); unfold In at a4; have a5 := (in_c (-1) rfl); unfold In at a5; have a6 := i1; unfold In at a6; have a7 := i6; unfold In at a7; omega
        have n42e : (s39.2.2.1 46 2).toInt ≤ (s39.2.2.1 46 1).toInt := by have b0 : u_46_2 = s39.2.2.1 46 2 := fr_F (e_46_2) hF39 rfl; have b1 : u_46_1 = s39.2.2.1 46 1 := fr_F (e_46_1) hF39 rfl; rw [← b0, ← b1]; exact n42d
        have n42f : (u_2_0).toInt ≤ (u_2_0).toInt := by have a0 := (inv_F hI 0 1000 rfl e_46_1); unfold In at a0; have a1 := (inv_F hI 0 1000 rfl e_46_2); unfold In at a1; have a2 := (inv_F hI 448 28000 rfl e_30_0); unfold In at a2; have a3 := (inv_F hI 0 32 rfl e_2_1); unfold In at a3; have a4 := (inv_F hI 0 4000 rfl e_2_0); unfold In at a4; have a5 := (in_c (-1) rfl); unfold In at a5; have a6 := i1; unfold In at a6; have a7 := i6; unfold In at a7; omega
        have n42g : (s.2.2.1 2 0).toInt ≤ (s39.2.2.1 2 0).toInt := by have b0 : u_2_0 = s39.2.2.1 2 0 := fr_F (e_2_0) hF39 rfl; first | (rw [← b0, ← e_2_0]; exact n42f) | (rw [← b0]; exact n42f)
        exact g_ireturn (gd rfl) rfl (nb01 (in_w 0 1 i39 rfl)) (hP _ _ ⟨(A 30), s39, hI39, (fr_tr rfl fr_rf hF39), n42e, n42g, z39, rfl, (by rw [ax_id]), in_w 0 1 i39 rfl, n42, n42a, n42b, n42c⟩)
  · skip
    have i10 := r_eq1 1 1 c10 i6 (in_c 1 rfl) rfl
    refine g_aload_n 14 (gd rfl) rfl rfl ?_
    refine g_getI 17 (gd rfl) rfl rfl rfl (fun z14 e14 => ?_)
    have i17 : In z14 0 25 := by rw [e14]; exact q_1 (by rw [← e6]; exact c10.trans (by decide))
    refine g_goto 21 (gd rfl) rfl ?_
    refine g_istore_n 22 (gd rfl) rfl (Nat.le_of_ble_eq_true rfl) ?_
    refine g_iload_n 23 (gd rfl) rfl rfl ?_
    refine g_calls (As := [.int z14]) (r := []) 26 (gd rfl) rfl rfl rfl rfl rfl (Nat.le_of_ble_eq_true rfl) (mc := 0) (ms := 0) (Nat.zero_le _) (Nat.zero_le _) (P := fun v u => _) ?_ (fun v u h => h)
    intro po23 xx23 hp23 hx23
    refine g_enter2 (k := 137) (N := 300) (by omega) rfl (Nat.le_of_ble_eq_true rfl) ?_
    refine g_iload_n 1 (gd rfl) rfl rfl ?_
    refine g_lsw [(0, 47), (13, 44), (19, 50), (22, 53)] 56 (gd rfl) rfl rfl rfl ⟨fun c23x1 => ?_, fun c23x1_0 => ⟨fun c23x1 => ?_, fun c23x1_1 => ⟨fun c23x1 => ?_, fun c23x1_2 => ⟨fun c23x1 => ?_, fun c23x1_3 => ?_⟩⟩⟩⟩
    · skip
      have i23x1 := sw_eq c23x1
      refine g_ldcs 2 49 (gd rfl) rfl rfl ?_
      refine g_areturn (gd rfl) rfl (hp23 _ _ ?_)
      show GG _ _ _ _ _ _ _ _ [.ref (zq Z (Int32.ofInt 2))] _ _ _
      refine g_astore 28 (gd rfl) rfl (Nat.le_of_ble_eq_true rfl) ?_
      refine g_aload 30 (gd rfl) rfl rfl ?_
      have i30 : In (Int32.ofInt 2) 0 6 := in_w 0 6 (in_c 2 rfl) rfl
      refine g_callS (X := _) (As := []) (r := []) (x := (Int32.ofInt 2)) 33 (gd rfl) rfl rfl rfl zm_428 rfl rfl rfl i30 (Nat.le_of_ble_eq_true rfl) (k_428 i30 (by omega)) (fun e u h => h) (fun v u h => ?_)
      obtain ⟨z30, rfl, rfl, i30a, p30⟩ := h
      show GG _ _ _ _ _ _ _ _ [.int z30] _ _ _
      refine g_if_eq 36 43 (gd rfl) rfl rfl (fun c33 => ?_) (fun c33 => ?_)
      · skip
        have i33 := z_eq 0 0 c33 i30a rfl
        refine g_iconst 0 44 (gd rfl) rfl rfl ?_
        refine g_istore 46 (gd rfl) rfl (Nat.le_of_ble_eq_true rfl) ?_
        have n46 : (u_46_2).toInt ≤ (u_46_1).toInt := by have a0 := (inv_F hI 0 1000 rfl e_46_1); unfold In at a0; have a1 := (inv_F hI 0 1000 rfl e_46_2); unfold In at a1; have a2 := (inv_F hI 448 28000 rfl e_30_0); unfold In at a2; have a3 := (inv_F hI 0 32 rfl e_2_1); unfold In at a3; have a4 := (inv_F hI 0 4000 rfl e_2_0); unfold In at a4; have a5 := (in_c 0 rfl); unfold In at a5; have a6 := i23x1; unfold In at a6; have a7 := i1; unfold In at a7; have a8 := i10; unfold In at a8; omega
        have n46a : (u_2_0).toInt ≤ (u_2_0).toInt := by have a0 := (inv_F hI 0 1000 rfl e_46_1); unfold In at a0; have a1 := (inv_F hI 0 1000 rfl e_46_2); unfold In at a1; have a2 := (inv_F hI 448 28000 rfl e_30_0); unfold In at a2; have a3 := (inv_F hI 0 32 rfl e_2_1); unfold In at a3; have a4 := (inv_F hI 0 4000 rfl e_2_0); unfold In at a4; have a5 := (in_c 0 rfl); unfold In at a5; have a6 := i23x1; unfold In at a6; have a7 := i1; unfold In at a7; have a8 := i10; unfold In at a8; omega
        have n46b : (z14).toInt = 13 → ((Int32.ofInt 2)).toInt = 1 := by intro h; first | decide | (exfalso; have a0 := (inv_F hI 0 1000 rfl e_46_1); unfold In at a0; have a1 := (inv_F hI 0 1000 rfl e_46_2); unfold In at a1; have a2 := (inv_F hI 448 28000 rfl e_30_0); unfold In at a2; have a3 := (inv_F hI 0 32 rfl e_2_1); unfold In at a3; have a4 := (inv_F hI 0 4000 rfl e_2_0); unfold In at a4; have a5 := (in_c 0 rfl); unfold In at a5; have a6 := i23x1; unfold In at a6; have a7 := i1; unfold In at a7; have a8 := i10; unfold In at a8; omega)
        have n46c : ((Int32.ofInt 2)).toInt = 1 → 1 ≤ ((Int32.ofInt 0)).toInt → In (s.1 31 0) 0 25 := by intro _ h; exfalso; revert h; decide
        have n46d : Fr ([31], [], [(46, 2), (46, 3), (46, 4), (46, 5), (46, 6), (46, 7)], []) s s := by exact fr_rf
        exact gg_w (by omega) (gg_f (gf_cons rfl (gf_cons rfl (gf_cons rfl (gf_cons rfl (gf_cons rfl (gf_cons rfl gf_nil)))))) (ct46 6 s z1 z14 (Int32.ofInt 2) (Int32.ofInt 0) u_46_2 u_2_0 u_2_1 u_30_0 hI fr_rf (in_w 0 1000 i1 rfl) (in_w (-1) 25 i23x1 rfl) (in_w 1 5 (in_c 2 rfl) rfl) (in_w 0 5 (in_c 0 rfl) rfl) e_46_2 e_2_0 e_2_1 e_30_0 n46 n46a n46b n46c n46d (m_in 6 (in_w 0 5 (in_c 0 rfl) rfl) rfl)))
      · skip
        have i33 := z_ne 1 1 c33 i30a rfl
        refine g_aload_n 37 (gd rfl) rfl rfl ?_
        refine g_iconst 2 38 (gd rfl) rfl rfl ?_
        refine g_iconst 3 39 (gd rfl) rfl rfl ?_
        refine g_callv (X := _) (As := [.int (Int32.ofInt 2), .int (Int32.ofInt 3)]) (r := []) (b := A 46) (q := 46) 42 (gd rfl) rfl rfl rfl rfl rfl (ww_o rfl) (Nat.le_of_ble_eq_true rfl) (Nat.zero_le _) (Nat.zero_le _) (k_169_46 (by omega) hI (in_w 2 2 (in_c 2 rfl) rfl) (in_w 3 4 (in_c 3 rfl) rfl)) (fun e u h => h) (fun v u h => ?_)
        obtain ⟨s39, hI39, hF39, z39, rfl, rfl, i39⟩ := h
        show GG _ _ _ _ _ _ _ _ [.int z39] _ _ _
        have n42 : KL s39 := by have hL9 : Fr ([31], [], [(46, 2), (46, 3), (46, 4), (46, 5), (46, 6), (46, 7)], []) s s39 := (fr_tr rfl fr_rf hF39); exact kl_fr q_0 hL9 rfl
        have n42a : (z39).toInt ≠ 0 → (s39.2.2.1 30 0).toInt = nln s := by first | (intro h; exact absurd rfl h) | (intro h; exfalso; revert h; first | (unfold In at i39; omega) | (unfold In at i104; omega) | (unfold In at i144; omega))
        have n42b : (z39).toInt ≠ 0 → (s.2.2.1 2 0).toInt ≤ 3999 := by first | (intro h; exact absurd rfl h) | (intro h; exfalso; revert h; first | (unfold In at i39; omega) | (unfold In at i104; omega) | (unfold In at i144; omega))
        have n42c : ∀ k : Nat, (k : Int) < 7 * (s.2.2.1 2 0).toInt → s39.1 30 k = s.1 30 k := by have hL9 : Fr ([31], [], [(46, 2), (46, 3), (46, 4), (46, 5), (46, 6), (46, 7)], []) s s39 := (fr_tr rfl fr_rf hF39); exact fun k _ => by rw [hL9.1 30 rfl]
        have n42d : (u_46_2).toInt ≤ (u_46_1).toInt := by have a0 := (inv_F hI 0 1000 rfl e_46_1); unfold In at a0; have a1 := (inv_F hI 0 1000 rfl e_46_2); unfold In at a1; have a2 := (inv_F hI 448 28000 rfl e_30_0); unfold In at a2; have a3 := (inv_F hI 0 32 rfl e_2_1); unfold In at a3; have a4 := (inv_F hI 0 4000 rfl e_2_0); unfold In at a4; have a5 := i23x1; unfold In at a5; have a6 := i1; unfold In at a6; have a7 := i10; unfold In at a7; omega
        have n42e : (s39.2.2.1 46 2).toInt ≤ (s39.2.2.1 46 1).toInt := by have b0 : u_46_2 = s39.2.2.1 46 2 := fr_F (e_46_2) hF39 rfl; have b1 : u_46_1 = s39.2.2.1 46 1 := fr_F (e_46_1) hF39 rfl; rw [← b0, ← b1]; exact n42d
        have n42f : (u_2_0).toInt ≤ (u_2_0).toInt := by have a0 := (inv_F hI 0 1000 rfl e_46_1); unfold In at a0; have a1 := (inv_F hI 0 1000 rfl e_46_2); unfold In at a1; have a2 := (inv_F hI 448 28000 rfl e_30_0); unfold In at a2; have a3 := (inv_F hI 0 32 rfl e_2_1); unfold In at a3; have a4 := (inv_F hI 0 4000 rfl e_2_0); unfold In at a4; have a5 := i23x1; unfold In at a5; have a6 := i1; unfold In at a6; have a7 := i10; unfold In at a7; omega
        have n42g : (s.2.2.1 2 0).toInt ≤ (s39.2.2.1 2 0).toInt := by have b0 : u_2_0 = s39.2.2.1 2 0 := fr_F (e_2_0) hF39 rfl; first | (rw [← b0, ← e_2_0]; exact n42f) | (rw [← b0]; exact n42f)
        exact g_ireturn (gd rfl) rfl (nb01 (in_w 0 1 i39 rfl)) (hP _ _ ⟨(A 30), s39, hI39, (fr_tr rfl fr_rf hF39), n42e, n42g, z39, rfl, (by rw [ax_id]), in_w 0 1 i39 rfl, n42, n42a, n42b, n42c⟩)
    · skip
      have i23x1 := sw_eq c23x1
      refine g_ldcs 1 46 (gd rfl) rfl rfl ?_
      refine g_areturn (gd rfl) rfl (hp23 _ _ ?_)
      show GG _ _ _ _ _ _ _ _ [.ref (zq Z (Int32.ofInt 1))] _ _ _
      refine g_astore 28 (gd rfl) rfl (Nat.le_of_ble_eq_true rfl) ?_
      refine g_aload 30 (gd rfl) rfl rfl ?_
      have i30 : In (Int32.ofInt 1) 0 6 := in_w 0 6 (in_c 1 rfl) rfl
      refine g_callS (X := _) (As := []) (r := []) (x := (Int32.ofInt 1)) 33 (gd rfl) rfl rfl rfl zm_428 rfl rfl rfl i30 (Nat.le_of_ble_eq_true rfl) (k_428 i30 (by omega)) (fun e u h => h) (fun v u h => ?_)
      obtain ⟨z30, rfl, rfl, i30a, p30⟩ := h
      show GG _ _ _ _ _ _ _ _ [.int z30] _ _ _
      refine g_if_eq 36 43 (gd rfl) rfl rfl (fun c33 => ?_) (fun c33 => ?_)
      · skip
        have i33 := z_eq 0 0 c33 i30a rfl
        refine g_iconst 0 44 (gd rfl) rfl rfl ?_
        refine g_istore 46 (gd rfl) rfl (Nat.le_of_ble_eq_true rfl) ?_
        have n46 : (u_46_2).toInt ≤ (u_46_1).toInt := by have a0 := (inv_F hI 0 1000 rfl e_46_1); unfold In at a0; have a1 := (inv_F hI 0 1000 rfl e_46_2); unfold In at a1; have a2 := (inv_F hI 448 28000 rfl e_30_0); unfold In at a2; have a3 := (inv_F hI 0 32 rfl e_2_1); unfold In at a3; have a4 := (inv_F hI 0 4000 rfl e_2_0); unfold In at a4; have a5 := (in_c 0 rfl); unfold In at a5; have a6 := i23x1; unfold In at a6; have a7 := i1; unfold In at a7; have a8 := i10; unfold In at a8; omega
        have n46a : (u_2_0).toInt ≤ (u_2_0).toInt := by have a0 := (inv_F hI 0 1000 rfl e_46_1); unfold In at a0; have a1 := (inv_F hI 0 1000 rfl e_46_2); unfold In at a1; have a2 := (inv_F hI 448 28000 rfl e_30_0); unfold In at a2; have a3 := (inv_F hI 0 32 rfl e_2_1); unfold In at a3; have a4 := (inv_F hI 0 4000 rfl e_2_0); unfold In at a4; have a5 := (in_c 0 rfl); unfold In at a5; have a6 := i23x1; unfold In at a6; have a7 := i1; unfold In at a7; have a8 := i10; unfold In at a8; omega
        have n46b : (z14).toInt = 13 → ((Int32.ofInt 1)).toInt = 1 := by intro h; first | decide | (exfalso; have a0 := (inv_F hI 0 1000 rfl e_46_1); unfold In at a0; have a1 := (inv_F hI 0 1000 rfl e_46_2); unfold In at a1; have a2 := (inv_F hI 448 28000 rfl e_30_0); unfold In at a2; have a3 := (inv_F hI 0 32 rfl e_2_1); unfold In at a3; have a4 := (inv_F hI 0 4000 rfl e_2_0); unfold In at a4; have a5 := (in_c 0 rfl); unfold In at a5; have a6 := i23x1; unfold In at a6; have a7 := i1; unfold In at a7; have a8 := i10; unfold In at a8; omega)
        have n46c : ((Int32.ofInt 1)).toInt = 1 → 1 ≤ ((Int32.ofInt 0)).toInt → In (s.1 31 0) 0 25 := by intro _ h; exfalso; revert h; decide
        have n46d : Fr ([31], [], [(46, 2), (46, 3), (46, 4), (46, 5), (46, 6), (46, 7)], []) s s := by exact fr_rf
        exact gg_w (by omega) (gg_f (gf_cons rfl (gf_cons rfl (gf_cons rfl (gf_cons rfl (gf_cons rfl (gf_cons rfl gf_nil)))))) (ct46 6 s z1 z14 (Int32.ofInt 1) (Int32.ofInt 0) u_46_2 u_2_0 u_2_1 u_30_0 hI fr_rf (in_w 0 1000 i1 rfl) (in_w (-1) 25 i23x1 rfl) (in_w 1 5 (in_c 1 rfl) rfl) (in_w 0 5 (in_c 0 rfl) rfl) e_46_2 e_2_0 e_2_1 e_30_0 n46 n46a n46b n46c n46d (m_in 6 (in_w 0 5 (in_c 0 rfl) rfl) rfl)))
      · skip
        have i33 := z_ne 1 1 c33 i30a rfl
        refine g_aload_n 37 (gd rfl) rfl rfl ?_
        refine g_iconst 2 38 (gd rfl) rfl rfl ?_
        refine g_iconst 3 39 (gd rfl) rfl rfl ?_
        refine g_callv (X := _) (As := [.int (Int32.ofInt 2), .int (Int32.ofInt 3)]) (r := []) (b := A 46) (q := 46) 42 (gd rfl) rfl rfl rfl rfl rfl (ww_o rfl) (Nat.le_of_ble_eq_true rfl) (Nat.zero_le _) (Nat.zero_le _) (k_169_46 (by omega) hI (in_w 2 2 (in_c 2 rfl) rfl) (in_w 3 4 (in_c 3 rfl) rfl)) (fun e u h => h) (fun v u h => ?_)
        obtain ⟨s39, hI39, hF39, z39, rfl, rfl, i39⟩ := h
        show GG _ _ _ _ _ _ _ _ [.int z39] _ _ _
        have n42 : KL s39 := by have hL9 : Fr ([31], [], [(46, 2), (46, 3), (46, 4), (46, 5), (46, 6), (46, 7)], []) s s39 := (fr_tr rfl fr_rf hF39); exact kl_fr q_0 hL9 rfl
        have n42a : (z39).toInt ≠ 0 → (s39.2.2.1 30 0).toInt = nln s := by first | (intro h; exact absurd rfl h) | (intro h; exfalso; revert h; first | (unfold In at i39; omega) | (unfold In at i104; omega) | (unfold In at i144; omega))
        have n42b : (z39).toInt ≠ 0 → (s.2.2.1 2 0).toInt ≤ 3999 := by first | (intro h; exact absurd rfl h) | (intro h; exfalso; revert h; first | (unfold In at i39; omega) | (unfold In at i104; omega) | (unfold In at i144; omega))
        have n42c : ∀ k : Nat, (k : Int) < 7 * (s.2.2.1 2 0).toInt → s39.1 30 k = s.1 30 k := by have hL9 : Fr ([31], [], [(46, 2), (46, 3), (46, 4), (46, 5), (46, 6), (46, 7)], []) s s39 := (fr_tr rfl fr_rf hF39); exact fun k _ => by rw [hL9.1 30 rfl]
        have n42d : (u_46_2).toInt ≤ (u_46_1).toInt := by have a0 := (inv_F hI 0 1000 rfl e_46_1); unfold In at a0; have a1 := (inv_F hI 0 1000 rfl e_46_2); unfold In at a1; have a2 := (inv_F hI 448 28000 rfl e_30_0); unfold In at a2; have a3 := (inv_F hI 0 32 rfl e_2_1); unfold In at a3; have a4 := (inv_F hI 0 4000 rfl e_2_0); unfold In at a4; have a5 := i23x1; unfold In at a5; have a6 := i1; unfold In at a6; have a7 := i10; unfold In at a7; omega
        have n42e : (s39.2.2.1 46 2).toInt ≤ (s39.2.2.1 46 1).toInt := by have b0 : u_46_2 = s39.2.2.1 46 2 := fr_F (e_46_2) hF39 rfl; have b1 : u_46_1 = s39.2.2.1 46 1 := fr_F (e_46_1) hF39 rfl; rw [← b0, ← b1]; exact n42d
        have n42f : (u_2_0).toInt ≤ (u_2_0).toInt := by have a0 := (inv_F hI 0 1000 rfl e_46_1); unfold In at a0; have a1 := (inv_F hI 0 1000 rfl e_46_2); unfold In at a1; have a2 := (inv_F hI 448 28000 rfl e_30_0); unfold In at a2; have a3 := (inv_F hI 0 32 rfl e_2_1); unfold In at a3; have a4 := (inv_F hI 0 4000 rfl e_2_0); unfold In at a4; have a5 := i23x1; unfold In at a5; have a6 := i1; unfold In at a6; have a7 := i10; unfold In at a7; omega
        have n42g : (s.2.2.1 2 0).toInt ≤ (s39.2.2.1 2 0).toInt := by have b0 : u_2_0 = s39.2.2.1 2 0 := fr_F (e_2_0) hF39 rfl; first | (rw [← b0, ← e_2_0]; exact n42f) | (rw [← b0]; exact n42f)
        exact g_ireturn (gd rfl) rfl (nb01 (in_w 0 1 i39 rfl)) (hP _ _ ⟨(A 30), s39, hI39, (fr_tr rfl fr_rf hF39), n42e, n42g, z39, rfl, (by rw [ax_id]), in_w 0 1 i39 rfl, n42, n42a, n42b, n42c⟩)
    · skip
      have i23x1 := sw_eq c23x1
      refine g_ldcs 3 52 (gd rfl) rfl rfl ?_
      refine g_areturn (gd rfl) rfl (hp23 _ _ ?_)
      show GG _ _ _ _ _ _ _ _ [.ref (zq Z (Int32.ofInt 3))] _ _ _
      refine g_astore 28 (gd rfl) rfl (Nat.le_of_ble_eq_true rfl) ?_
      refine g_aload 30 (gd rfl) rfl rfl ?_
      have i30 : In (Int32.ofInt 3) 0 6 := in_w 0 6 (in_c 3 rfl) rfl
      refine g_callS (X := _) (As := []) (r := []) (x := (Int32.ofInt 3)) 33 (gd rfl) rfl rfl rfl zm_428 rfl rfl rfl i30 (Nat.le_of_ble_eq_true rfl) (k_428 i30 (by omega)) (fun e u h => h) (fun v u h => ?_)
      obtain ⟨z30, rfl, rfl, i30a, p30⟩ := h
      show GG _ _ _ _ _ _ _ _ [.int z30] _ _ _
      refine g_if_eq 36 43 (gd rfl) rfl rfl (fun c33 => ?_) (fun c33 => ?_)
      · skip
        have i33 := z_eq 0 0 c33 i30a rfl
        refine g_iconst 0 44 (gd rfl) rfl rfl ?_
        refine g_istore 46 (gd rfl) rfl (Nat.le_of_ble_eq_true rfl) ?_
        have n46 : (u_46_2).toInt ≤ (u_46_1).toInt := by have a0 := (inv_F hI 0 1000 rfl e_46_1); unfold In at a0; have a1 := (inv_F hI 0 1000 rfl e_46_2); unfold In at a1; have a2 := (inv_F hI 448 28000 rfl e_30_0); unfold In at a2; have a3 := (inv_F hI 0 32 rfl e_2_1); unfold In at a3; have a4 := (inv_F hI 0 4000 rfl e_2_0); unfold In at a4; have a5 := (in_c 0 rfl); unfold In at a5; have a6 := i23x1; unfold In at a6; have a7 := i1; unfold In at a7; have a8 := i10; unfold In at a8; omega
        have n46a : (u_2_0).toInt ≤ (u_2_0).toInt := by have a0 := (inv_F hI 0 1000 rfl e_46_1); unfold In at a0; have a1 := (inv_F hI 0 1000 rfl e_46_2); unfold In at a1; have a2 := (inv_F hI 448 28000 rfl e_30_0); unfold In at a2; have a3 := (inv_F hI 0 32 rfl e_2_1); unfold In at a3; have a4 := (inv_F hI 0 4000 rfl e_2_0); unfold In at a4; have a5 := (in_c 0 rfl); unfold In at a5; have a6 := i23x1; unfold In at a6; have a7 := i1; unfold In at a7; have a8 := i10; unfold In at a8; omega
        have n46b : (z14).toInt = 13 → ((Int32.ofInt 3)).toInt = 1 := by intro h; first | decide | (exfalso; have a0 := (inv_F hI 0 1000 rfl e_46_1); unfold In at a0; have a1 := (inv_F hI 0 1000 rfl e_46_2); unfold In at a1; have a2 := (inv_F hI 448 28000 rfl e_30_0); unfold In at a2; have a3 := (inv_F hI 0 32 rfl e_2_1); unfold In at a3; have a4 := (inv_F hI 0 4000 rfl e_2_0); unfold In at a4; have a5 := (in_c 0 rfl); unfold In at a5; have a6 := i23x1; unfold In at a6; have a7 := i1; unfold In at a7; have a8 := i10; unfold In at a8; omega)
        have n46c : ((Int32.ofInt 3)).toInt = 1 → 1 ≤ ((Int32.ofInt 0)).toInt → In (s.1 31 0) 0 25 := by intro _ h; exfalso; revert h; decide
        have n46d : Fr ([31], [], [(46, 2), (46, 3), (46, 4), (46, 5), (46, 6), (46, 7)], []) s s := by exact fr_rf
        exact gg_w (by omega) (gg_f (gf_cons rfl (gf_cons rfl (gf_cons rfl (gf_cons rfl (gf_cons rfl (gf_cons rfl gf_nil)))))) (ct46 6 s z1 z14 (Int32.ofInt 3) (Int32.ofInt 0) u_46_2 u_2_0 u_2_1 u_30_0 hI fr_rf (in_w 0 1000 i1 rfl) (in_w (-1) 25 i23x1 rfl) (in_w 1 5 (in_c 3 rfl) rfl) (in_w 0 5 (in_c 0 rfl) rfl) e_46_2 e_2_0 e_2_1 e_30_0 n46 n46a n46b n46c n46d (m_in 6 (in_w 0 5 (in_c 0 rfl) rfl) rfl)))
      · skip
        have i33 := z_ne 1 1 c33 i30a rfl
        refine g_aload_n 37 (gd rfl) rfl rfl ?_
        refine g_iconst 2 38 (gd rfl) rfl rfl ?_
        refine g_iconst 3 39 (gd rfl) rfl rfl ?_
        refine g_callv (X := _) (As := [.int (Int32.ofInt 2), .int (Int32.ofInt 3)]) (r := []) (b := A 46) (q := 46) 42 (gd rfl) rfl rfl rfl rfl rfl (ww_o rfl) (Nat.le_of_ble_eq_true rfl) (Nat.zero_le _) (Nat.zero_le _) (k_169_46 (by omega) hI (in_w 2 2 (in_c 2 rfl) rfl) (in_w 3 4 (in_c 3 rfl) rfl)) (fun e u h => h) (fun v u h => ?_)
        obtain ⟨s39, hI39, hF39, z39, rfl, rfl, i39⟩ := h
        show GG _ _ _ _ _ _ _ _ [.int z39] _ _ _
        have n42 : KL s39 := by have hL9 : Fr ([31], [], [(46, 2), (46, 3), (46, 4), (46, 5), (46, 6), (46, 7)], []) s s39 := (fr_tr rfl fr_rf hF39); exact kl_fr q_0 hL9 rfl
        have n42a : (z39).toInt ≠ 0 → (s39.2.2.1 30 0).toInt = nln s := by first | (intro h; exact absurd rfl h) | (intro h; exfalso; revert h; first | (unfold In at i39; omega) | (unfold In at i104; omega) | (unfold In at i144; omega))
        have n42b : (z39).toInt ≠ 0 → (s.2.2.1 2 0).toInt ≤ 3999 := by first | (intro h; exact absurd rfl h) | (intro h; exfalso; revert h; first | (unfold In at i39; omega) | (unfold In at i104; omega) | (unfold In at i144; omega))
        have n42c : ∀ k : Nat, (k : Int) < 7 * (s.2.2.1 2 0).toInt → s39.1 30 k = s.1 30 k := by have hL9 : Fr ([31], [], [(46, 2), (46, 3), (46, 4), (46, 5), (46, 6), (46, 7)], []) s s39 := (fr_tr rfl fr_rf hF39); exact fun k _ => by rw [hL9.1 30 rfl]
        have n42d : (u_46_2).toInt ≤ (u_46_1).toInt := by have a0 := (inv_F hI 0 1000 rfl e_46_1); unfold In at a0; have a1 := (inv_F hI 0 1000 rfl e_46_2); unfold In at a1; have a2 := (inv_F hI 448 28000 rfl e_30_0); unfold In at a2; have a3 := (inv_F hI 0 32 rfl e_2_1); unfold In at a3; have a4 := (inv_F hI 0 4000 rfl e_2_0); unfold In at a4; have a5 := i23x1; unfold In at a5; have a6 := i1; unfold In at a6; have a7 := i10; unfold In at a7; omega
        have n42e : (s39.2.2.1 46 2).toInt ≤ (s39.2.2.1 46 1).toInt := by have b0 : u_46_2 = s39.2.2.1 46 2 := fr_F (e_46_2) hF39 rfl; have b1 : u_46_1 = s39.2.2.1 46 1 := fr_F (e_46_1) hF39 rfl; rw [← b0, ← b1]; exact n42d
        have n42f : (u_2_0).toInt ≤ (u_2_0).toInt := by have a0 := (inv_F hI 0 1000 rfl e_46_1); unfold In at a0; have a1 := (inv_F hI 0 1000 rfl e_46_2); unfold In at a1; have a2 := (inv_F hI 448 28000 rfl e_30_0); unfold In at a2; have a3 := (inv_F hI 0 32 rfl e_2_1); unfold In at a3; have a4 := (inv_F hI 0 4000 rfl e_2_0); unfold In at a4; have a5 := i23x1; unfold In at a5; have a6 := i1; unfold In at a6; have a7 := i10; unfold In at a7; omega
        have n42g : (s.2.2.1 2 0).toInt ≤ (s39.2.2.1 2 0).toInt := by have b0 : u_2_0 = s39.2.2.1 2 0 := fr_F (e_2_0) hF39 rfl; first | (rw [← b0, ← e_2_0]; exact n42f) | (rw [← b0]; exact n42f)
        exact g_ireturn (gd rfl) rfl (nb01 (in_w 0 1 i39 rfl)) (hP _ _ ⟨(A 30), s39, hI39, (fr_tr rfl fr_rf hF39), n42e, n42g, z39, rfl, (by rw [ax_id]), in_w 0 1 i39 rfl, n42, n42a, n42b, n42c⟩)
    · skip
      have i23x1 := sw_eq c23x1
      refine g_ldcs 4 55 (gd rfl) rfl rfl ?_
      refine g_areturn (gd rfl) rfl (hp23 _ _ ?_)
      show GG _ _ _ _ _ _ _ _ [.ref (zq Z (Int32.ofInt 4))] _ _ _
      refine g_astore 28 (gd rfl) rfl (Nat.le_of_ble_eq_true rfl) ?_
      refine g_aload 30 (gd rfl) rfl rfl ?_
      have i30 : In (Int32.ofInt 4) 0 6 := in_w 0 6 (in_c 4 rfl) rfl
      refine g_callS (X := _) (As := []) (r := []) (x := (Int32.ofInt 4)) 33 (gd rfl) rfl rfl rfl zm_428 rfl rfl rfl i30 (Nat.le_of_ble_eq_true rfl) (k_428 i30 (by omega)) (fun e u h => h) (fun v u h => ?_)
      obtain ⟨z30, rfl, rfl, i30a, p30⟩ := h
      show GG _ _ _ _ _ _ _ _ [.int z30] _ _ _
      refine g_if_eq 36 43 (gd rfl) rfl rfl (fun c33 => ?_) (fun c33 => ?_)
      · skip
        have i33 := z_eq 0 0 c33 i30a rfl
        refine g_iconst 0 44 (gd rfl) rfl rfl ?_
        refine g_istore 46 (gd rfl) rfl (Nat.le_of_ble_eq_true rfl) ?_
        have n46 : (u_46_2).toInt ≤ (u_46_1).toInt := by have a0 := (inv_F hI 0 1000 rfl e_46_1); unfold In at a0; have a1 := (inv_F hI 0 1000 rfl e_46_2); unfold In at a1; have a2 := (inv_F hI 448 28000 rfl e_30_0); unfold In at a2; have a3 := (inv_F hI 0 32 rfl e_2_1); unfold In at a3; have a4 := (inv_F hI 0 4000 rfl e_2_0); unfold In at a4; have a5 := (in_c 0 rfl); unfold In at a5; have a6 := i23x1; unfold In at a6; have a7 := i1; unfold In at a7; have a8 := i10; unfold In at a8; omega
        have n46a : (u_2_0).toInt ≤ (u_2_0).toInt := by have a0 := (inv_F hI 0 1000 rfl e_46_1); unfold In at a0; have a1 := (inv_F hI 0 1000 rfl e_46_2); unfold In at a1; have a2 := (inv_F hI 448 28000 rfl e_30_0); unfold In at a2; have a3 := (inv_F hI 0 32 rfl e_2_1); unfold In at a3; have a4 := (inv_F hI 0 4000 rfl e_2_0); unfold In at a4; have a5 := (in_c 0 rfl); unfold In at a5; have a6 := i23x1; unfold In at a6; have a7 := i1; unfold In at a7; have a8 := i10; unfold In at a8; omega
        have n46b : (z14).toInt = 13 → ((Int32.ofInt 4)).toInt = 1 := by intro h; first | decide | (exfalso; have a0 := (inv_F hI 0 1000 rfl e_46_1); unfold In at a0; have a1 := (inv_F hI 0 1000 rfl e_46_2); unfold In at a1; have a2 := (inv_F hI 448 28000 rfl e_30_0); unfold In at a2; have a3 := (inv_F hI 0 32 rfl e_2_1); unfold In at a3; have a4 := (inv_F hI 0 4000 rfl e_2_0); unfold In at a4; have a5 := (in_c 0 rfl); unfold In at a5; have a6 := i23x1; unfold In at a6; have a7 := i1; unfold In at a7; have a8 := i10; unfold In at a8; omega)
        have n46c : ((Int32.ofInt 4)).toInt = 1 → 1 ≤ ((Int32.ofInt 0)).toInt → In (s.1 31 0) 0 25 := by intro _ h; exfalso; revert h; decide
        have n46d : Fr ([31], [], [(46, 2), (46, 3), (46, 4), (46, 5), (46, 6), (46, 7)], []) s s := by exact fr_rf
        exact gg_w (by omega) (gg_f (gf_cons rfl (gf_cons rfl (gf_cons rfl (gf_cons rfl (gf_cons rfl (gf_cons rfl gf_nil)))))) (ct46 6 s z1 z14 (Int32.ofInt 4) (Int32.ofInt 0) u_46_2 u_2_0 u_2_1 u_30_0 hI fr_rf (in_w 0 1000 i1 rfl) (in_w (-1) 25 i23x1 rfl) (in_w 1 5 (in_c 4 rfl) rfl) (in_w 0 5 (in_c 0 rfl) rfl) e_46_2 e_2_0 e_2_1 e_30_0 n46 n46a n46b n46c n46d (m_in 6 (in_w 0 5 (in_c 0 rfl) rfl) rfl)))
      · skip
        have i33 := z_ne 1 1 c33 i30a rfl
        refine g_aload_n 37 (gd rfl) rfl rfl ?_
        refine g_iconst 2 38 (gd rfl) rfl rfl ?_
        refine g_iconst 3 39 (gd rfl) rfl rfl ?_
        refine g_callv (X := _) (As := [.int (Int32.ofInt 2), .int (Int32.ofInt 3)]) (r := []) (b := A 46) (q := 46) 42 (gd rfl) rfl rfl rfl rfl rfl (ww_o rfl) (Nat.le_of_ble_eq_true rfl) (Nat.zero_le _) (Nat.zero_le _) (k_169_46 (by omega) hI (in_w 2 2 (in_c 2 rfl) rfl) (in_w 3 4 (in_c 3 rfl) rfl)) (fun e u h => h) (fun v u h => ?_)
        obtain ⟨s39, hI39, hF39, z39, rfl, rfl, i39⟩ := h
        show GG _ _ _ _ _ _ _ _ [.int z39] _ _ _
        have n42 : KL s39 := by have hL9 : Fr ([31], [], [(46, 2), (46, 3), (46, 4), (46, 5), (46, 6), (46, 7)], []) s s39 := (fr_tr rfl fr_rf hF39); exact kl_fr q_0 hL9 rfl
        have n42a : (z39).toInt ≠ 0 → (s39.2.2.1 30 0).toInt = nln s := by first | (intro h; exact absurd rfl h) | (intro h; exfalso; revert h; first | (unfold In at i39; omega) | (unfold In at i104; omega) | (unfold In at i144; omega))
        have n42b : (z39).toInt ≠ 0 → (s.2.2.1 2 0).toInt ≤ 3999 := by first | (intro h; exact absurd rfl h) | (intro h; exfalso; revert h; first | (unfold In at i39; omega) | (unfold In at i104; omega) | (unfold In at i144; omega))
        have n42c : ∀ k : Nat, (k : Int) < 7 * (s.2.2.1 2 0).toInt → s39.1 30 k = s.1 30 k := by have hL9 : Fr ([31], [], [(46, 2), (46, 3), (46, 4), (46, 5), (46, 6), (46, 7)], []) s s39 := (fr_tr rfl fr_rf hF39); exact fun k _ => by rw [hL9.1 30 rfl]
        have n42d : (u_46_2).toInt ≤ (u_46_1).toInt := by have a0 := (inv_F hI 0 1000 rfl e_46_1); unfold In at a0; have a1 := (inv_F hI 0 1000 rfl e_46_2); unfold In at a1; have a2 := (inv_F hI 448 28000 rfl e_30_0); unfold In at a2; have a3 := (inv_F hI 0 32 rfl e_2_1); unfold In at a3; have a4 := (inv_F hI 0 4000 rfl e_2_0); unfold In at a4; have a5 := i23x1; unfold In at a5; have a6 := i1; unfold In at a6; have a7 := i10; unfold In at a7; omega
        have n42e : (s39.2.2.1 46 2).toInt ≤ (s39.2.2.1 46 1).toInt := by have b0 : u_46_2 = s39.2.2.1 46 2 := fr_F (e_46_2) hF39 rfl; have b1 : u_46_1 = s39.2.2.1 46 1 := fr_F (e_46_1) hF39 rfl; rw [← b0, ← b1]; exact n42d
        have n42f : (u_2_0).toInt ≤ (u_2_0).toInt := by have a0 := (inv_F hI 0 1000 rfl e_46_1); unfold In at a0; have a1 := (inv_F hI 0 1000 rfl e_46_2); unfold In at a1; have a2 := (inv_F hI 448 28000 rfl e_30_0); unfold In at a2; have a3 := (inv_F hI 0 32 rfl e_2_1); unfold In at a3; have a4 := (inv_F hI 0 4000 rfl e_2_0); unfold In at a4; have a5 := i23x1; unfold In at a5; have a6 := i1; unfold In at a6; have a7 := i10; unfold In at a7; omega
        have n42g : (s.2.2.1 2 0).toInt ≤ (s39.2.2.1 2 0).toInt := by have b0 : u_2_0 = s39.2.2.1 2 0 := fr_F (e_2_0) hF39 rfl; first | (rw [← b0, ← e_2_0]; exact n42f) | (rw [← b0]; exact n42f)
        exact g_ireturn (gd rfl) rfl (nb01 (in_w 0 1 i39 rfl)) (hP _ _ ⟨(A 30), s39, hI39, (fr_tr rfl fr_rf hF39), n42e, n42g, z39, rfl, (by rw [ax_id]), in_w 0 1 i39 rfl, n42, n42a, n42b, n42c⟩)
    · skip
      refine g_ldcs 5 58 (gd rfl) rfl rfl ?_
      refine g_areturn (gd rfl) rfl (hp23 _ _ ?_)
      show GG _ _ _ _ _ _ _ _ [.ref (zq Z (Int32.ofInt 5))] _ _ _
      refine g_astore 28 (gd rfl) rfl (Nat.le_of_ble_eq_true rfl) ?_
      refine g_aload 30 (gd rfl) rfl rfl ?_
      have i30 : In (Int32.ofInt 5) 0 6 := in_w 0 6 (in_c 5 rfl) rfl
      refine g_callS (X := _) (As := []) (r := []) (x := (Int32.ofInt 5)) 33 (gd rfl) rfl rfl rfl zm_428 rfl rfl rfl i30 (Nat.le_of_ble_eq_true rfl) (k_428 i30 (by omega)) (fun e u h => h) (fun v u h => ?_)
      obtain ⟨z30, rfl, rfl, i30a, p30⟩ := h
      show GG _ _ _ _ _ _ _ _ [.int z30] _ _ _
      refine g_if_eq 36 43 (gd rfl) rfl rfl (fun c33 => ?_) (fun c33 => ?_)
      · skip
        have i33 := z_eq 0 0 c33 i30a rfl
        refine g_iconst 0 44 (gd rfl) rfl rfl ?_
        refine g_istore 46 (gd rfl) rfl (Nat.le_of_ble_eq_true rfl) ?_
        have n46 : (u_46_2).toInt ≤ (u_46_1).toInt := by have a0 := (inv_F hI 0 1000 rfl e_46_1); unfold In at a0; have a1 := (inv_F hI 0 1000 rfl e_46_2); unfold In at a1; have a2 := (inv_F hI 448 28000 rfl e_30_0); unfold In at a2; have a3 := (inv_F hI 0 32 rfl e_2_1); unfold In at a3; have a4 := (inv_F hI 0 4000 rfl e_2_0); unfold In at a4; have a5 := (in_c 0 rfl); unfold In at a5; have a6 := i17; unfold In at a6; have a7 := i1; unfold In at a7; have a8 := i10; unfold In at a8; omega
        have n46a : (u_2_0).toInt ≤ (u_2_0).toInt := by have a0 := (inv_F hI 0 1000 rfl e_46_1); unfold In at a0; have a1 := (inv_F hI 0 1000 rfl e_46_2); unfold In at a1; have a2 := (inv_F hI 448 28000 rfl e_30_0); unfold In at a2; have a3 := (inv_F hI 0 32 rfl e_2_1); unfold In at a3; have a4 := (inv_F hI 0 4000 rfl e_2_0); unfold In at a4; have a5 := (in_c 0 rfl); unfold In at a5; have a6 := i17; unfold In at a6; have a7 := i1; unfold In at a7; have a8 := i10; unfold In at a8; omega
        have n46b : (z14).toInt = 13 → ((Int32.ofInt 5)).toInt = 1 := by intro h; first | decide | (exfalso; have a0 := (inv_F hI 0 1000 rfl e_46_1); unfold In at a0; have a1 := (inv_F hI 0 1000 rfl e_46_2); unfold In at a1; have a2 := (inv_F hI 448 28000 rfl e_30_0); unfold In at a2; have a3 := (inv_F hI 0 32 rfl e_2_1); unfold In at a3; have a4 := (inv_F hI 0 4000 rfl e_2_0); unfold In at a4; have a5 := (in_c 0 rfl); unfold In at a5; have a6 := i17; unfold In at a6; have a7 := i1; unfold In at a7; have a8 := i10; unfold In at a8; omega)
        have n46c : ((Int32.ofInt 5)).toInt = 1 → 1 ≤ ((Int32.ofInt 0)).toInt → In (s.1 31 0) 0 25 := by intro _ h; exfalso; revert h; decide
        have n46d : Fr ([31], [], [(46, 2), (46, 3), (46, 4), (46, 5), (46, 6), (46, 7)], []) s s := by exact fr_rf
        exact gg_w (by omega) (gg_f (gf_cons rfl (gf_cons rfl (gf_cons rfl (gf_cons rfl (gf_cons rfl (gf_cons rfl gf_nil)))))) (ct46 6 s z1 z14 (Int32.ofInt 5) (Int32.ofInt 0) u_46_2 u_2_0 u_2_1 u_30_0 hI fr_rf (in_w 0 1000 i1 rfl) (in_w (-1) 25 i17 rfl) (in_w 1 5 (in_c 5 rfl) rfl) (in_w 0 5 (in_c 0 rfl) rfl) e_46_2 e_2_0 e_2_1 e_30_0 n46 n46a n46b n46c n46d (m_in 6 (in_w 0 5 (in_c 0 rfl) rfl) rfl)))
      · skip
        have i33 := z_ne 1 1 c33 i30a rfl
        refine g_aload_n 37 (gd rfl) rfl rfl ?_
        refine g_iconst 2 38 (gd rfl) rfl rfl ?_
        refine g_iconst 3 39 (gd rfl) rfl rfl ?_
        refine g_callv (X := _) (As := [.int (Int32.ofInt 2), .int (Int32.ofInt 3)]) (r := []) (b := A 46) (q := 46) 42 (gd rfl) rfl rfl rfl rfl rfl (ww_o rfl) (Nat.le_of_ble_eq_true rfl) (Nat.zero_le _) (Nat.zero_le _) (k_169_46 (by omega) hI (in_w 2 2 (in_c 2 rfl) rfl) (in_w 3 4 (in_c 3 rfl) rfl)) (fun e u h => h) (fun v u h => ?_)
        obtain ⟨s39, hI39, hF39, z39, rfl, rfl, i39⟩ := h
        show GG _ _ _ _ _ _ _ _ [.int z39] _ _ _
        have n42 : KL s39 := by have hL9 : Fr ([31], [], [(46, 2), (46, 3), (46, 4), (46, 5), (46, 6), (46, 7)], []) s s39 := (fr_tr rfl fr_rf hF39); exact kl_fr q_0 hL9 rfl
        have n42a : (z39).toInt ≠ 0 → (s39.2.2.1 30 0).toInt = nln s := by first | (intro h; exact absurd rfl h) | (intro h; exfalso; revert h; first | (unfold In at i39; omega) | (unfold In at i104; omega) | (unfold In at i144; omega))
        have n42b : (z39).toInt ≠ 0 → (s.2.2.1 2 0).toInt ≤ 3999 := by first | (intro h; exact absurd rfl h) | (intro h; exfalso; revert h; first | (unfold In at i39; omega) | (unfold In at i104; omega) | (unfold In at i144; omega))
        have n42c : ∀ k : Nat, (k : Int) < 7 * (s.2.2.1 2 0).toInt → s39.1 30 k = s.1 30 k := by have hL9 : Fr ([31], [], [(46, 2), (46, 3), (46, 4), (46, 5), (46, 6), (46, 7)], []) s s39 := (fr_tr rfl fr_rf hF39); exact fun k _ => by rw [hL9.1 30 rfl]
        have n42d : (u_46_2).toInt ≤ (u_46_1).toInt := by have a0 := (inv_F hI 0 1000 rfl e_46_1); unfold In at a0; have a1 := (inv_F hI 0 1000 rfl e_46_2); unfold In at a1; have a2 := (inv_F hI 448 28000 rfl e_30_0); unfold In at a2; have a3 := (inv_F hI 0 32 rfl e_2_1); unfold In at a3; have a4 := (inv_F hI 0 4000 rfl e_2_0); unfold In at a4; have a5 := i17; unfold In at a5; have a6 := i1; unfold In at a6; have a7 := i10; unfold In at a7; omega
        have n42e : (s39.2.2.1 46 2).toInt ≤ (s39.2.2.1 46 1).toInt := by have b0 : u_46_2 = s39.2.2.1 46 2 := fr_F (e_46_2) hF39 rfl; have b1 : u_46_1 = s39.2.2.1 46 1 := fr_F (e_46_1) hF39 rfl; rw [← b0, ← b1]; exact n42d
        have n42f : (u_2_0).toInt ≤ (u_2_0).toInt := by have a0 := (inv_F hI 0 1000 rfl e_46_1); unfold In at a0; have a1 := (inv_F hI 0 1000 rfl e_46_2); unfold In at a1; have a2 := (inv_F hI 448 28000 rfl e_30_0); unfold In at a2; have a3 := (inv_F hI 0 32 rfl e_2_1); unfold In at a3; have a4 := (inv_F hI 0 4000 rfl e_2_0); unfold In at a4; have a5 := i17; unfold In at a5; have a6 := i1; unfold In at a6; have a7 := i10; unfold In at a7; omega
        have n42g : (s.2.2.1 2 0).toInt ≤ (s39.2.2.1 2 0).toInt := by have b0 : u_2_0 = s39.2.2.1 2 0 := fr_F (e_2_0) hF39 rfl; first | (rw [← b0, ← e_2_0]; exact n42f) | (rw [← b0]; exact n42f)
        exact g_ireturn (gd rfl) rfl (nb01 (in_w 0 1 i39 rfl)) (hP _ _ ⟨(A 30), s39, hI39, (fr_tr rfl fr_rf hF39), n42e, n42g, z39, rfl, (by rw [ax_id]), in_w 0 1 i39 rfl, n42, n42a, n42b, n42c⟩)

def fm_134_1_32 : FM := ([33, 34, 35, 36, 37, 38], [], [(32, 0), (32, 1), (32, 2), (32, 3), (32, 4)], [])
/-- GraphHouse$Ledger.replay -/
theorem k_134_1_32 {Z : AmZ} {A : Nat → Nat} {s : GS} {ex : va_W} {d : Nat} {X : AmX} {x2 : Int32} {u_32_0 : Int32} {u_32_1 : Int32} {u_2_0 : Int32} {u_30_0 : Int32} (hd : 5 ≤ d) (hI : Inv s) (h2 : In x2 0 4000) (e_32_0 : u_32_0 = s.2.2.1 32 0) (e_32_1 : u_32_1 = s.2.2.1 32 1) (e_2_0 : u_2_0 = s.2.2.1 2 0) (e_30_0 : u_30_0 = s.2.2.1 30 0) (p_0 : (x2).toInt ≤ (u_2_0).toInt) (p_1 : 7 * (u_2_0).toInt ≤ (u_30_0).toInt) (q_0 : KL s) : GC Z d 134 [.ref (A 1), .ref (A 32), .int x2] (WW Z A s ++ ex) 0 0 (fun v u => ∃ t : GS, Inv t ∧ Fr fm_134_1_32 s t ∧ v = none ∧ u = WW Z A t ++ ex ∧ (KL t)) X := by
  intro post xp hP hX
  have ro_2_0 := inv_F hI 0 4000 rfl e_2_0
  have ro_30_0 := inv_F hI 448 28000 rfl e_30_0
  have ct17 : ∀ (k17 : Nat) (sc17 : GS) (y17_3 : Int32) (w17_32_0 : Int32) (w17_32_1 : Int32), Inv sc17 → Fr fm_134_1_32 s sc17 → (In y17_3 0 4000) → (w17_32_0 = sc17.2.2.1 32 0) → (w17_32_1 = sc17.2.2.1 32 1) → ((w17_32_0).toInt = (y17_3).toInt) → ((y17_3).toInt ≤ (x2).toInt) → (KV sc17 32) → 4000 - (y17_3).toInt < (k17 : Int) → GG Z (d - 1) 134 post (gx xp) (1 + k17 * 900) 17 (fun j => xlook j [(0, .ref (A 1)), (1, .ref (A 32)), (2, .int x2), (3, .int y17_3)]) [] (WW Z A sc17 ++ ex) 0 0 := by
    intro k17
    induction k17 with
    | zero => intro sc17 y17_3 w17_32_0 w17_32_1 hIc17 hFc17 j17_3 v17_32_0 v17_32_1 n17_0 n17_1 g17_0 mm17; exact m_no mm17 j17_3 rfl
    | succ k17 ih17 =>
      intro sc17 y17_3 w17_32_0 w17_32_1 hIc17 hFc17 j17_3 v17_32_0 v17_32_1 n17_0 n17_1 g17_0 mm17
      refine gg_w (M := 1 + k17 * 900 + 900) (by omega) ?_
      refine g_iload_n 18 (gd rfl) rfl rfl ?_
      refine g_iload_n 19 (gd rfl) rfl rfl ?_
      refine g_cmp_ge 22 33 (gd rfl) rfl rfl (fun c19 => ?_) (fun c19 => ?_)
      · skip
        have n33 : KL sc17 := by have hFF : Fr fm_134_1_32 s sc17 := hFc17; exact kl_sh q_0 hFF rfl (by rw [← v17_32_0, ← e_2_0]; have a0 := h2; unfold In at a0; have a1 := ro_30_0; unfold In at a1; have a2 := ro_2_0; unfold In at a2; have a3 := (inv_F hIc17 0 32 rfl v17_32_1); unfold In at a3; have a4 := (inv_F hIc17 0 4000 rfl v17_32_0); unfold In at a4; have a5 := j17_3; unfold In at a5; omega) g17_0
        exact g_return (gd rfl) rfl (hP _ _ ⟨sc17, hIc17, hFc17, rfl, rfl, n33⟩)
      · skip
        have i19 := r_lt1 0 3999 c19 j17_3 h2 rfl
        have i19a := r_lt2 1 4000 c19 j17_3 h2 rfl
        refine g_aload_n 23 (gd rfl) rfl rfl ?_
        refine g_aload_n 24 (gd rfl) rfl rfl ?_
        have i24 : In w17_32_0 0 3999 := by exact ⟨by have a0 := i19a; unfold In at a0; have a1 := ro_30_0; unfold In at a1; have a2 := ro_2_0; unfold In at a2; have a3 := (inv_F hIc17 0 32 rfl v17_32_1); unfold In at a3; have a4 := (inv_F hIc17 0 4000 rfl v17_32_0); unfold In at a4; have a5 := i19; unfold In at a5; omega, by have a0 := i19a; unfold In at a0; have a1 := ro_30_0; unfold In at a1; have a2 := ro_2_0; unfold In at a2; have a3 := (inv_F hIc17 0 32 rfl v17_32_1); unfold In at a3; have a4 := (inv_F hIc17 0 4000 rfl v17_32_0); unfold In at a4; have a5 := i19; unfold In at a5; omega⟩
        have v24 : u_30_0 = sc17.2.2.1 30 0 := fr_F e_30_0 hFc17 rfl
        have n24 : 7 * (w17_32_0).toInt + 7 ≤ (u_30_0).toInt := by have a0 := i19a; unfold In at a0; have a1 := ro_30_0; unfold In at a1; have a2 := ro_2_0; unfold In at a2; have a3 := (inv_F hIc17 0 32 rfl v17_32_1); unfold In at a3; have a4 := i24; unfold In at a4; have a5 := i19; unfold In at a5; omega
        have p24 : RW7 (sc17.1 30) (sc17.2.2.1 32 0).toInt.toNat := by rw [hFc17.1 30 rfl]; exact q_0.1 _ (by rw [← v17_32_0, ← e_2_0]; have a0 := i19a; unfold In at a0; have a1 := ro_30_0; unfold In at a1; have a2 := ro_2_0; unfold In at a2; have a3 := (inv_F hIc17 0 32 rfl v17_32_1); unfold In at a3; have a4 := i24; unfold In at a4; have a5 := i19; unfold In at a5; omega)
        have p24a : KV sc17 32 := by exact g17_0
        refine g_callv (X := _) (As := [.ref (A 32)]) (r := []) (b := A 1) (q := 1) 27 (gd rfl) rfl rfl rfl rfl rfl (ww_o rfl) (Nat.le_of_ble_eq_true rfl) (Nat.zero_le _) (Nat.zero_le _) (k_131_1_32 (by omega) hIc17 v17_32_0 v17_32_1 v24 (in_w 0 3999 i24 rfl) n24 p24 p24a) (fun e u h => h) (fun v u h => ?_)
        obtain ⟨s24, hI24, hF24, n24a, rfl, rfl, p24b⟩ := h
        obtain ⟨z24a, e24⟩ : ∃ w, w = s24.2.2.1 32 0 := ⟨_, rfl⟩
        have i24b := inv_F hI24 0 4000 rfl e24
        rw [← (show w17_32_0 = sc17.2.2.1 32 0 from v17_32_0)] at n24a
        rw [← (show z24a = s24.2.2.1 32 0 from e24)] at n24a
        show GG _ _ _ _ _ _ _ _ [] _ _ _
        refine g_iinc 30 (gd rfl) rfl rfl (Nat.le_of_ble_eq_true rfl) (fun z27 e27 => ?_)
        have i27 := in_add 1 4000 e27 i19 (in_c 1 rfl) rfl rfl
        refine g_goto 17 (gd rfl) rfl ?_
        have n17 : (z24a).toInt = (z27).toInt := by have a0 := i19a; unfold In at a0; have a1 := ro_30_0; unfold In at a1; have a2 := ro_2_0; unfold In at a2; have a3 := (inv_F hIc17 0 32 rfl v17_32_1); unfold In at a3; have a4 := i24; unfold In at a4; have a5 := i19; unfold In at a5; have a6 := i27; unfold In at a6; have a7 := t_add e27 i19 (in_c 1 rfl) rfl; have a8 := (in_c 1 rfl); unfold In at a8; have a9 := i24b; unfold In at a9; omega
        have n17a : (z27).toInt ≤ (x2).toInt := by have a0 := i19a; unfold In at a0; have a1 := ro_30_0; unfold In at a1; have a2 := ro_2_0; unfold In at a2; have a3 := (inv_F hIc17 0 32 rfl v17_32_1); unfold In at a3; have a4 := i24; unfold In at a4; have a5 := i19; unfold In at a5; have a6 := i27; unfold In at a6; have a7 := t_add e27 i19 (in_c 1 rfl) rfl; have a8 := (in_c 1 rfl); unfold In at a8; have a9 := i24b; unfold In at a9; omega
        have n17b : KV s24 32 := by exact p24b
        exact gg_w (by omega) (gg_f (gf_cons rfl (gf_cons rfl (gf_cons rfl (gf_cons rfl gf_nil)))) (ih17 s24 z27 z24a _ hI24 (fr_tr rfl hFc17 hF24) (in_w 0 4000 i27 rfl) e24 rfl n17 n17a n17b (m_up mm17 (t_add e27 i19 (in_c 1 rfl) rfl) (in_w 1 1 (in_c 1 rfl) rfl))))
  refine g_enter2 (k := 134) (N := 3601801) (by omega) rfl (Nat.le_of_ble_eq_true rfl) ?_
  refine g_iload_n 1 (gd rfl) rfl rfl ?_
  refine g_aload_n 2 (gd rfl) rfl rfl ?_
  refine g_getI 5 (gd rfl) rfl rfl rfl (fun z2 e2 => ?_)
  have q2 : u_32_0 = z2 := (e_32_0).trans e2.symm
  subst q2
  refine g_cmp_ge 8 12 (gd rfl) rfl rfl (fun c5 => ?_) (fun c5 => ?_)
  · skip
    refine g_aload_n 13 (gd rfl) rfl rfl ?_
    refine g_getI 16 (gd rfl) rfl rfl rfl (fun z13 e13 => ?_)
    have q13 : u_32_0 = z13 := (e_32_0).trans e13.symm
    subst q13
    refine g_istore_n 17 (gd rfl) rfl (Nat.le_of_ble_eq_true rfl) ?_
    have n17 : (u_32_0).toInt = (u_32_0).toInt := by have a0 := (inv_F hI 448 28000 rfl e_30_0); unfold In at a0; have a1 := (inv_F hI 0 4000 rfl e_2_0); unfold In at a1; have a2 := (inv_F hI 0 32 rfl e_32_1); unfold In at a2; have a3 := (inv_F hI 0 4000 rfl e_32_0); unfold In at a3; have a4 := h2; unfold In at a4; omega
    have n17a : (u_32_0).toInt ≤ (x2).toInt := by have a0 := (inv_F hI 448 28000 rfl e_30_0); unfold In at a0; have a1 := (inv_F hI 0 4000 rfl e_2_0); unfold In at a1; have a2 := (inv_F hI 0 32 rfl e_32_1); unfold In at a2; have a3 := (inv_F hI 0 4000 rfl e_32_0); unfold In at a3; have a4 := h2; unfold In at a4; omega
    have n17b : KV s 32 := by exact q_0.2.2.2.2
    exact gg_w (by omega) (gg_f (gf_cons rfl (gf_cons rfl (gf_cons rfl (gf_cons rfl gf_nil)))) (ct17 4001 s u_32_0 u_32_0 u_32_1 hI fr_rf (in_w 0 4000 (inv_F hI 0 4000 rfl e_32_0) rfl) e_32_0 e_32_1 n17 n17a n17b (m_in 4001 (in_w 0 4000 (inv_F hI 0 4000 rfl e_32_0) rfl) rfl)))
  · skip
    have i5 := r_lt1 0 3999 c5 h2 (inv_F hI 0 4000 rfl e_32_0) rfl
    have i5a := r_lt2 1 4000 c5 h2 (inv_F hI 0 4000 rfl e_32_0) rfl
    refine g_aload_n 9 (gd rfl) rfl rfl ?_
    refine g_callv (X := _) (As := []) (r := []) (b := A 32) (q := 32) 12 (gd rfl) rfl rfl rfl rfl rfl (ww_o rfl) (Nat.le_of_ble_eq_true rfl) (Nat.zero_le _) (Nat.zero_le _) (k_92_32 (by omega) hI ) (fun e u h => h) (fun v u h => ?_)
    obtain ⟨s9, hI9, hF9, n9, rfl, rfl, p9⟩ := h
    obtain ⟨z9a, e9⟩ : ∃ w, w = s9.2.2.1 32 0 := ⟨_, rfl⟩
    have i9a := inv_F hI9 0 4000 rfl e9
    rw [← (show z9a = s9.2.2.1 32 0 from e9)] at n9
    show GG _ _ _ _ _ _ _ _ [] _ _ _
    refine g_aload_n 13 (gd rfl) rfl rfl ?_
    refine g_getI 16 (gd rfl) rfl rfl rfl (fun z13 e13 => ?_)
    have q13 : z9a = z13 := (e9).trans e13.symm
    subst q13
    refine g_istore_n 17 (gd rfl) rfl (Nat.le_of_ble_eq_true rfl) ?_
    have n17 : (z9a).toInt = (z9a).toInt := by have a0 := (inv_F hI 448 28000 rfl e_30_0); unfold In at a0; have a1 := (inv_F hI 0 4000 rfl e_2_0); unfold In at a1; have a2 := (inv_F hI 0 32 rfl e_32_1); unfold In at a2; have a3 := i5a; unfold In at a3; have a4 := i5; unfold In at a4; have a5 := i9a; unfold In at a5; omega
    have n17a : (z9a).toInt ≤ (x2).toInt := by have a0 := (inv_F hI 448 28000 rfl e_30_0); unfold In at a0; have a1 := (inv_F hI 0 4000 rfl e_2_0); unfold In at a1; have a2 := (inv_F hI 0 32 rfl e_32_1); unfold In at a2; have a3 := i5a; unfold In at a3; have a4 := i5; unfold In at a4; have a5 := i9a; unfold In at a5; omega
    have n17b : KV s9 32 := by exact p9
    exact gg_w (by omega) (gg_f (gf_cons rfl (gf_cons rfl (gf_cons rfl (gf_cons rfl gf_nil)))) (ct17 4001 s9 z9a z9a _ hI9 (fr_tr rfl fr_rf hF9) (in_w 0 4000 i9a rfl) e9 rfl n17 n17a n17b (m_in 4001 (in_w 0 4000 i9a rfl) rfl)))

def fm_217_0 : FM := ([33, 34, 35, 36, 37, 38], [], [(0, 2), (32, 0), (32, 1), (32, 2), (32, 3), (32, 4)], [])
/-- GraphHouse.view -/
theorem k_217_0 {Z : AmZ} {A : Nat → Nat} {s : GS} {ex : va_W} {d : Nat} {x1 : Int32} {u_2_0 : Int32} {u_32_0 : Int32} {u_32_1 : Int32} {u_30_0 : Int32} (hd : 7 ≤ d) (hI : Inv s) (e_2_0 : u_2_0 = s.2.2.1 2 0) (e_32_0 : u_32_0 = s.2.2.1 32 0) (e_32_1 : u_32_1 = s.2.2.1 32 1) (e_30_0 : u_30_0 = s.2.2.1 30 0) (p_0 : 7 * (u_2_0).toInt ≤ (u_30_0).toInt) (q_0 : KL s) : GC Z d 217 [.ref (A 0), .int x1] (WW Z A s ++ ex) 3 18 (fun v u => ∃ t : GS, Inv t ∧ Fr fm_217_0 s t ∧ ∃ z : Int32, v = some (.int z) ∧ u = WW Z A t ++ ex ∧ In z 0 4000 ∧ (KL t)) (gE1 Z A ex ([], [], [], []) s) := by
  intro post xp hP hX
  have ro_2_0 := inv_F hI 0 4000 rfl e_2_0
  have ro_30_0 := inv_F hI 448 28000 rfl e_30_0
  refine g_enter2 (k := 217) (N := 900) (by omega) rfl (Nat.le_of_ble_eq_true rfl) ?_
  refine g_iload_n 1 (gd rfl) rfl rfl ?_
  refine g_iconst (-1) 2 (gd rfl) rfl rfl ?_
  refine g_cmp_lt 5 23 (gd rfl) rfl rfl (fun c2 => ?_) (fun c2 => ?_)
  · skip
    have i2 := r_lt1 (-2147483648) (-2) c2 (i_rng x1) (in_c (-1) rfl) rfl
    refine g_iconst 0 24 (gd rfl) rfl rfl ?_
    refine g_thr (E := am_IA) (y := yX11_allow) 27 (gd rfl) rfl rfl (Or.inl ⟨rfl, rfl, rfl⟩) (by omega) (Nat.le_of_ble_eq_true rfl) (Nat.le_of_ble_eq_true rfl) (Nat.le_of_ble_eq_true rfl) (fun c24 => ?_) (fun c24 => ?_)
    · skip
      exact zn_ne c24 (in_c 0 rfl) rfl
    · skip
      exact (hX _ _ ⟨rfl, s, hI, fr_rf, rfl⟩)
  · skip
    have i2 := r_le2 (-1) 2147483647 c2 (in_c (-1) rfl) (i_rng x1) rfl
    refine g_iload_n 6 (gd rfl) rfl rfl ?_
    refine g_aload_n 7 (gd rfl) rfl rfl ?_
    refine g_getA (q2 := 1) 10 (gd rfl) rfl rfl rfl rfl ?_
    refine g_getA (q2 := 2) 13 (gd rfl) rfl rfl rfl rfl ?_
    refine g_getI 16 (gd rfl) rfl rfl rfl (fun z13 e13 => ?_)
    have q13 : u_2_0 = z13 := (e_2_0).trans e13.symm
    subst q13
    refine g_cmp_gt 19 23 (gd rfl) rfl rfl (fun c16 => ?_) (fun c16 => ?_)
    · skip
      have i16 := r_lt2 1 2147483647 c16 (inv_F hI 0 4000 rfl e_2_0) i2 rfl
      refine g_iconst 0 24 (gd rfl) rfl rfl ?_
      refine g_thr (E := am_IA) (y := yX11_allow) 27 (gd rfl) rfl rfl (Or.inl ⟨rfl, rfl, rfl⟩) (by omega) (Nat.le_of_ble_eq_true rfl) (Nat.le_of_ble_eq_true rfl) (Nat.le_of_ble_eq_true rfl) (fun c24 => ?_) (fun c24 => ?_)
      · skip
        exact zn_ne c24 (in_c 0 rfl) rfl
      · skip
        exact (hX _ _ ⟨rfl, s, hI, fr_rf, rfl⟩)
    · skip
      have i16 := r_le1 (-1) 4000 c16 i2 (inv_F hI 0 4000 rfl e_2_0) rfl
      refine g_iconst 1 20 (gd rfl) rfl rfl ?_
      refine g_goto 24 (gd rfl) rfl ?_
      refine g_thr (E := am_IA) (y := yX11_allow) 27 (gd rfl) rfl rfl (Or.inl ⟨rfl, rfl, rfl⟩) (by omega) (Nat.le_of_ble_eq_true rfl) (Nat.le_of_ble_eq_true rfl) (Nat.le_of_ble_eq_true rfl) (fun c24 => ?_) (fun c24 => ?_)
      · skip
        refine g_aload_n 28 (gd rfl) rfl rfl ?_
        refine g_iload_n 29 (gd rfl) rfl rfl ?_
        refine g_putI 32 (gd rfl) rfl rfl rfl rfl ?_
        have hI29 := inv_sF (q := 0) (j := 2) hI rfl (in_w (-1) 4000 i16 rfl)
        refine g_iload_n 33 (gd rfl) rfl rfl ?_
        refine g_iconst (-1) 34 (gd rfl) rfl rfl ?_
        refine g_cmp_eq 37 49 (gd rfl) rfl rfl (fun c34 => ?_) (fun c34 => ?_)
        · skip
          have i34 := r_eq1 (-1) (-1) c34 i16 (in_c (-1) rfl) rfl
          refine g_aload_n 50 (gd rfl) rfl rfl ?_
          refine g_callv (X := _) (As := []) (r := []) (b := A 0) (q := 0) 53 (gd rfl) rfl rfl rfl rfl rfl (ww_o rfl) (Nat.le_of_ble_eq_true rfl) (mc := 0) (ms := 0) (Nat.zero_le _) (Nat.zero_le _) (P := fun v u => _) ?_ (fun e u h => h) (fun v u h => h)
          intro po50 xx50 hp50 hx50
          refine g_enter2 (k := 259) (N := 300) (by omega) rfl (Nat.le_of_ble_eq_true rfl) ?_
          refine g_aload_n 1 (gd rfl) rfl rfl ?_
          refine g_getI 4 (gd rfl) rfl rfl rfl (fun z50x1 e50x1 => ?_)
          have q50x1 : x1 = z50x1 := (sF_get).trans e50x1.symm
          subst q50x1
          refine g_iconst (-1) 5 (gd rfl) rfl rfl ?_
          refine g_cmp_ne 8 18 (gd rfl) rfl rfl (fun c50x5 => ?_) (fun c50x5 => ?_)
          · skip
            exact n_ne c50x5 i34 (in_c (-1) rfl) rfl
          · skip
            refine g_aload_n 9 (gd rfl) rfl rfl ?_
            refine g_getA (q2 := 1) 12 (gd rfl) rfl rfl rfl rfl ?_
            refine g_getA (q2 := 2) 15 (gd rfl) rfl rfl rfl rfl ?_
            refine g_goto 22 (gd rfl) rfl ?_
            refine g_areturn (gd rfl) rfl (hp50 _ _ ?_)
            show GG _ _ _ _ _ _ _ _ [.ref (A 2)] _ _ _
            refine g_getI 56 (gd rfl) rfl rfl rfl (fun z53 e53 => ?_)
            have q53 : u_2_0 = z53 := (sF_ne rfl (e_2_0)).trans e53.symm
            subst q53
            have n56 : KL (sF s 0 2 x1) := by exact kl_fr q_0 (show Fr ([], [], [(0, 2)], []) s (sF s 0 2 x1) from (fr_sF rfl fr_rf)) rfl
            exact g_ireturn (gd rfl) rfl rfl (hP _ _ ⟨(sF s 0 2 x1), hI29, (fr_sF rfl fr_rf), u_2_0, rfl, rfl, in_w 0 4000 (inv_F hI 0 4000 rfl e_2_0) rfl, n56⟩)
        · skip
          have i34 := r_ne1 0 4000 c34 i16 (in_c (-1) rfl) rfl
          refine g_aload_n 38 (gd rfl) rfl rfl ?_
          refine g_getA (q2 := 1) 41 (gd rfl) rfl rfl rfl rfl ?_
          refine g_aload_n 42 (gd rfl) rfl rfl ?_
          refine g_getA (q2 := 32) 45 (gd rfl) rfl rfl rfl rfl ?_
          refine g_iload_n 46 (gd rfl) rfl rfl ?_
          have v46 : u_32_0 = (sF s 0 2 x1).2.2.1 32 0 := sF_ne rfl (e_32_0)
          have v46a : u_32_1 = (sF s 0 2 x1).2.2.1 32 1 := sF_ne rfl (e_32_1)
          have v46b : u_2_0 = (sF s 0 2 x1).2.2.1 2 0 := sF_ne rfl (e_2_0)
          have v46c : u_30_0 = (sF s 0 2 x1).2.2.1 30 0 := sF_ne rfl (e_30_0)
          have n46 : (x1).toInt ≤ (u_2_0).toInt := by have a0 := i34; unfold In at a0; have a1 := (inv_F hI 448 28000 rfl e_30_0); unfold In at a1; have a2 := (inv_F hI 0 32 rfl e_32_1); unfold In at a2; have a3 := (inv_F hI 0 4000 rfl e_32_0); unfold In at a3; have a4 := (inv_F hI 0 4000 rfl e_2_0); unfold In at a4; omega
          have n46a : 7 * (u_2_0).toInt ≤ (u_30_0).toInt := by have a0 := i34; unfold In at a0; have a1 := (inv_F hI 448 28000 rfl e_30_0); unfold In at a1; have a2 := (inv_F hI 0 32 rfl e_32_1); unfold In at a2; have a3 := (inv_F hI 0 4000 rfl e_32_0); unfold In at a3; have a4 := (inv_F hI 0 4000 rfl e_2_0); unfold In at a4; omega
          have p46 : KL (sF s 0 2 x1) := by exact kl_fr q_0 (show Fr ([], [], [(0, 2)], []) s (sF s 0 2 x1) from (fr_sF rfl fr_rf)) rfl
          refine g_callv (X := _) (As := [.ref (A 32), .int x1]) (r := []) (b := A 1) (q := 1) 49 (gd rfl) rfl rfl rfl rfl rfl (ww_o rfl) (Nat.le_of_ble_eq_true rfl) (Nat.zero_le _) (Nat.zero_le _) (k_134_1_32 (by omega) hI29 (in_w 0 4000 i34 rfl) v46 v46a v46b v46c n46 n46a p46) (fun e u h => h) (fun v u h => ?_)
          obtain ⟨s46, hI46, hF46, rfl, rfl, p46a⟩ := h
          show GG _ _ _ _ _ _ _ _ [] _ _ _
          refine g_aload_n 50 (gd rfl) rfl rfl ?_
          refine g_callv (X := _) (As := []) (r := []) (b := A 0) (q := 0) 53 (gd rfl) rfl rfl rfl rfl rfl (ww_o rfl) (Nat.le_of_ble_eq_true rfl) (mc := 0) (ms := 0) (Nat.zero_le _) (Nat.zero_le _) (P := fun v u => _) ?_ (fun e u h => h) (fun v u h => h)
          intro po50 xx50 hp50 hx50
          refine g_enter2 (k := 259) (N := 300) (by omega) rfl (Nat.le_of_ble_eq_true rfl) ?_
          refine g_aload_n 1 (gd rfl) rfl rfl ?_
          refine g_getI 4 (gd rfl) rfl rfl rfl (fun z50x1 e50x1 => ?_)
          have q50x1 : x1 = z50x1 := (fr_F (s := (sF s 0 2 x1)) (sF_get) hF46 rfl).trans e50x1.symm
          subst q50x1
          refine g_iconst (-1) 5 (gd rfl) rfl rfl ?_
          refine g_cmp_ne 8 18 (gd rfl) rfl rfl (fun c50x5 => ?_) (fun c50x5 => ?_)
          · skip
            refine g_aload_n 19 (gd rfl) rfl rfl ?_
            refine g_getA (q2 := 32) 22 (gd rfl) rfl rfl rfl rfl ?_
            refine g_areturn (gd rfl) rfl (hp50 _ _ ?_)
            show GG _ _ _ _ _ _ _ _ [.ref (A 32)] _ _ _
            refine g_getI 56 (gd rfl) rfl rfl rfl (fun z53 e53 => ?_)
            have i53 := inv_F hI46 0 4000 rfl e53
            have n56 : KL s46 := by exact p46a
            exact g_ireturn (gd rfl) rfl rfl (hP _ _ ⟨s46, hI46, (fr_tr rfl (fr_sF rfl fr_rf) hF46), z53, rfl, rfl, in_w 0 4000 i53 rfl, n56⟩)
          · skip
            exact absurd c50x5 c34
      · skip
        exact zn_eq c24 (in_c 1 rfl) rfl

def fm_135_1_46 : FM := ([3, 4, 5, 6, 7, 8, 17, 18, 19, 20, 21, 22, 30, 31], [], [(2, 0), (2, 1), (2, 2), (2, 3), (2, 4), (16, 0), (16, 1), (16, 2), (16, 3), (16, 4), (30, 0), (46, 2), (46, 3), (46, 4), (46, 5), (46, 6), (46, 7)], [])
/-- GraphHouse$Ledger.carryOut -/
theorem k_135_1_46 {Z : AmZ} {A : Nat → Nat} {s : GS} {ex : va_W} {d : Nat} {X : AmX} {u_2_0 : Int32} {u_2_1 : Int32} {u_30_0 : Int32} {u_46_1 : Int32} (hd : 10 ≤ d) (hI : Inv s) (e_2_0 : u_2_0 = s.2.2.1 2 0) (e_2_1 : u_2_1 = s.2.2.1 2 1) (e_30_0 : u_30_0 = s.2.2.1 30 0) (e_46_1 : u_46_1 = s.2.2.1 46 1) (q_0 : KL s) : GC Z d 135 [.ref (A 1), .ref (A 46)] (WW Z A s ++ ex) (lgC s) (lgS s) (fun v u => ∃ a : Nat, ∃ t : GS, Inv t ∧ Fr fm_135_1_46 s t ∧ ∃ z : Int32, v = some (.int z) ∧ u = WW Z (ax A 30 a) t ++ ex ∧ In z (-4) 1000 ∧ (KL t)) X := by
  intro post xp hP hX
  have ro_46_1 := inv_F hI 0 1000 rfl e_46_1
  have ct17 : ∀ (k17 : Nat) (sc17 : GS) (ac17 : Nat) (cc17 : Nat) (cs17 : Nat) (y17_2 : Int32) (w17_46_2 : Int32) (w17_2_0 : Int32) (w17_2_1 : Int32) (w17_30_0 : Int32), Inv sc17 → Fr fm_135_1_46 s sc17 → (lgC sc17 ≤ cc17) → (lgS sc17 ≤ cs17) → (In y17_2 0 2001) → (w17_46_2 = sc17.2.2.1 46 2) → (w17_2_0 = sc17.2.2.1 2 0) → (w17_2_1 = sc17.2.2.1 2 1) → (w17_30_0 = sc17.2.2.1 30 0) → ((w17_46_2).toInt ≤ (u_46_1).toInt) → ((u_2_0).toInt ≤ (w17_2_0).toInt) → (KL sc17) → ((∀ p : Nat, p < 160 → sc17.1 18 p = s.1 4 p ∧ sc17.1 19 p = s.1 5 p) ∧ sc17.2.2.1 16 0 = s.2.2.1 2 0 ∧ sc17.2.2.1 16 1 = s.2.2.1 2 1) → (∀ k : Nat, (k : Int) < 7 * (s.2.2.1 2 0).toInt → sc17.1 30 k = s.1 30 k) → 2001 - (y17_2).toInt < (k17 : Int) → GG Z (d - 1) 135 post (gx xp) (1 + k17 * 900) 17 (fun j => xlook j [(0, .ref (A 1)), (1, .ref (A 46)), (2, .int y17_2)]) [] (WW Z (ax A 30 ac17) sc17 ++ ex) cc17 cs17 := by
    intro k17
    induction k17 with
    | zero => intro sc17 ac17 cc17 cs17 y17_2 w17_46_2 w17_2_0 w17_2_1 w17_30_0 hIc17 hFc17 hcc17 hcs17 j17_2 v17_46_2 v17_2_0 v17_2_1 v17_30_0 n17_0 n17_1 g17_0 g17_1 g17_2 mm17; exact m_no mm17 j17_2 rfl
    | succ k17 ih17 =>
      intro sc17 ac17 cc17 cs17 y17_2 w17_46_2 w17_2_0 w17_2_1 w17_30_0 hIc17 hFc17 hcc17 hcs17 j17_2 v17_46_2 v17_2_0 v17_2_1 v17_30_0 n17_0 n17_1 g17_0 g17_1 g17_2 mm17
      refine gg_w (M := 1 + k17 * 900 + 900) (by omega) ?_
      refine g_iload_n 18 (gd rfl) rfl rfl ?_
      refine g_sipush 1000 21 (gd rfl) rfl rfl ?_
      refine g_cmp_gt 24 68 (gd rfl) rfl rfl (fun c21 => ?_) (fun c21 => ?_)
      · skip
        have i21 := r_lt2 1001 2001 c21 (in_c 1000 rfl) j17_2 rfl
        refine g_bipush (-4) 70 (gd rfl) rfl rfl ?_
        have n70 : KL sc17 := by exact g17_0
        exact g_ireturn (gd rfl) rfl rfl (hP _ _ ⟨ac17, sc17, hIc17, hFc17, (Int32.ofInt (-4)), rfl, rfl, in_w (-4) 1000 (in_c (-4) rfl) rfl, n70⟩)
      · skip
        have i21 := r_le1 0 1000 c21 j17_2 (in_c 1000 rfl) rfl
        refine g_aload_n 25 (gd rfl) rfl rfl ?_
        refine g_bipush 7 27 (gd rfl) rfl rfl ?_
        refine g_iconst 1 28 (gd rfl) rfl rfl ?_
        have v28 : u_46_1 = sc17.2.2.1 46 1 := fr_F e_46_1 hFc17 rfl
        have n28 : (w17_46_2).toInt ≤ (u_46_1).toInt := by have a0 := ro_46_1; unfold In at a0; have a1 := (inv_F hIc17 448 28000 rfl v17_30_0); unfold In at a1; have a2 := (inv_F hIc17 0 32 rfl v17_2_1); unfold In at a2; have a3 := (inv_F hIc17 0 4000 rfl v17_2_0); unfold In at a3; have a4 := (inv_F hIc17 0 1000 rfl v17_46_2); unfold In at a4; have a5 := i21; unfold In at a5; omega
        refine g_callv (X := _) (As := [.int (Int32.ofInt 7), .int (Int32.ofInt 1)]) (r := []) (b := A 46) (q := 46) 31 (gd rfl) rfl rfl rfl rfl rfl (ww_o rfl) (Nat.le_of_ble_eq_true rfl) (Nat.zero_le _) (Nat.zero_le _) (k_171_46 (A := (ax A 30 ac17)) (by omega) hIc17 (in_w 6 7 (in_c 7 rfl) rfl) (in_w 0 1 (in_c 1 rfl) rfl) v17_46_2 v28 n28) (fun e u h => h) (fun v u h => ?_)
        obtain ⟨s28, hI28, hF28, n28a, n28b, n28c, rfl, rfl, p28, p28a⟩ := h
        obtain ⟨z28a, e28⟩ : ∃ w, w = s28.2.2.1 46 2 := ⟨_, rfl⟩
        have i28a := inv_F hI28 0 1000 rfl e28
        obtain ⟨z28b, e28a⟩ : ∃ w, w = s28.2.2.1 46 4 := ⟨_, rfl⟩
        have i28b := inv_F hI28 0 1000 rfl e28a
        rw [← (show z28a = s28.2.2.1 46 2 from e28)] at n28a
        rw [← (show u_46_1 = s28.2.2.1 46 1 from fr_F (fr_F e_46_1 hFc17 rfl) hF28 rfl)] at n28a
        rw [← (show z28a = s28.2.2.1 46 2 from e28)] at n28b
        rw [← (show z28b = s28.2.2.1 46 4 from e28a)] at n28b
        rw [← (show w17_46_2 = sc17.2.2.1 46 2 from v17_46_2)] at n28c
        rw [← (show z28b = s28.2.2.1 46 4 from e28a)] at n28c
        show GG _ _ _ _ _ _ _ _ [] _ _ _
        refine g_aload_n 32 (gd rfl) rfl rfl ?_
        refine g_getI (A := (ax A 30 ac17)) (q := 46) 35 (gd rfl) rfl rfl rfl (fun z32 e32 => ?_)
        have i32 := inv_F hI28 0 5 rfl e32
        refine g_if_ne 38 40 (gd rfl) rfl rfl (fun c35 => ?_) (fun c35 => ?_)
        · skip
          have i35 := z_ne 1 5 c35 i32 rfl
          refine g_aload_n 41 (gd rfl) rfl rfl ?_
          refine g_aload_n 42 (gd rfl) rfl rfl ?_
          have v42 : w17_2_0 = s28.2.2.1 2 0 := fr_F (v17_2_0) hF28 rfl
          have v42a : w17_2_1 = s28.2.2.1 2 1 := fr_F (v17_2_1) hF28 rfl
          have v42b : w17_30_0 = s28.2.2.1 30 0 := fr_F (v17_30_0) hF28 rfl
          have v42c : u_46_1 = s28.2.2.1 46 1 := fr_F (fr_F e_46_1 hFc17 rfl) hF28 rfl
          have n42 : (z28a).toInt ≤ (u_46_1).toInt := by have a0 := ro_46_1; unfold In at a0; have a1 := (inv_F hIc17 448 28000 rfl v17_30_0); unfold In at a1; have a2 := (inv_F hIc17 0 32 rfl v17_2_1); unfold In at a2; have a3 := (inv_F hIc17 0 4000 rfl v17_2_0); unfold In at a3; have a4 := (inv_F hIc17 0 1000 rfl v17_46_2); unfold In at a4; have a5 := i21; unfold In at a5; have a6 := i35; unfold In at a6; have a7 := i28b; unfold In at a7; have a8 := i28a; unfold In at a8; omega
          have p42 : KL s28 := by exact kl_fr g17_0 hF28 rfl
          have p42a : (s28.2.2.1 46 3).toInt = 1 → In (s28.2.2.1 46 5) 0 25 := by exact p28a
          refine g_callv (X := _) (As := [.ref (A 46)]) (r := []) (b := A 1) (q := 1) 45 (gd rfl) rfl rfl rfl rfl rfl (ww_o rfl) (Nat.le_of_ble_eq_true rfl) (Nat.le_trans (lg_lc (inv_F hI28 448 28000 (q := 30) (j := 0) rfl rfl)).1 (by have h2 := (lg_cg (hF28.2.2.1 30 0 rfl)).1; omega)) (Nat.le_trans (lg_lc (inv_F hI28 448 28000 (q := 30) (j := 0) rfl rfl)).2 (by have h2 := (lg_cg (hF28.2.2.1 30 0 rfl)).2; omega)) (k_136_1_46 (A := (ax A 30 ac17)) (by omega) hI28 v42 v42a v42b e28 v42c n42 p42 p42a) (fun e u h => h) (fun v u h => ?_)
          obtain ⟨a42, s42, hI42, hF42, n42a, n42b, z42, rfl, rfl, i42, p42b, p42c, p42d, p42e⟩ := h
          rw [ax_ax]
          obtain ⟨z42a, e42⟩ : ∃ w, w = s42.2.2.1 46 2 := ⟨_, rfl⟩
          have i42a := inv_F hI42 0 1000 rfl e42
          obtain ⟨z42b, e42a⟩ : ∃ w, w = s42.2.2.1 2 0 := ⟨_, rfl⟩
          have i42b := inv_F hI42 0 4000 rfl e42a
          rw [← (show z42a = s42.2.2.1 46 2 from e42)] at n42a
          rw [← (show u_46_1 = s42.2.2.1 46 1 from fr_F (fr_F (fr_F e_46_1 hFc17 rfl) hF28 rfl) hF42 rfl)] at n42a
          rw [← (show w17_2_0 = s28.2.2.1 2 0 from fr_F (v17_2_0) hF28 rfl)] at n42b
          rw [← (show z42b = s42.2.2.1 2 0 from e42a)] at n42b
          show GG _ _ _ _ _ _ _ _ [.int z42] _ _ _
          have hv42 : _ = s42.2.2.1 2 0 := (show z42b = s42.2.2.1 2 0 from e42a)
          refine g_if_ne 48 62 (gd rfl) rfl rfl (fun c45 => ?_) (fun c45 => ?_)
          · skip
            have i45 := z_ne 1 1 c45 i42 rfl
            refine g_iinc 65 (gd rfl) rfl rfl (Nat.le_of_ble_eq_true rfl) (fun z62 e62 => ?_)
            have i62 := in_add 1 1001 e62 i21 (in_c 1 rfl) rfl rfl
            refine g_goto 17 (gd rfl) rfl ?_
            have hr17 : lgC s42 ≤ (cc17 - lc s28) := by have h := (lgt_st (s := s28) (t := s42) (inv_F hI28 448 28000 (q := 30) (j := 0) rfl rfl) (p42d c45) (kl_fr g17_0 hF28 rfl).2.1 (p42c c45)).1; have h2 := (lg_cg (hF28.2.2.1 30 0 rfl)).1; omega
            have hr17a : lgS s42 ≤ (cs17 - lsl s28) := by have h := (lgt_st (s := s28) (t := s42) (inv_F hI28 448 28000 (q := 30) (j := 0) rfl rfl) (p42d c45) (kl_fr g17_0 hF28 rfl).2.1 (p42c c45)).2; have h2 := (lg_cg (hF28.2.2.1 30 0 rfl)).2; omega
            have n17 : (z42a).toInt ≤ (u_46_1).toInt := by have a0 := ro_46_1; unfold In at a0; have a1 := (inv_F hIc17 448 28000 rfl v17_30_0); unfold In at a1; have a2 := (inv_F hIc17 0 32 rfl v17_2_1); unfold In at a2; have a3 := (inv_F hIc17 0 4000 rfl v17_2_0); unfold In at a3; have a4 := (inv_F hIc17 0 1000 rfl v17_46_2); unfold In at a4; have a5 := i21; unfold In at a5; have a6 := i62; unfold In at a6; have a7 := t_add e62 i21 (in_c 1 rfl) rfl; have a8 := (in_c 1 rfl); unfold In at a8; have a9 := i42b; unfold In at a9; have a10 := i42a; unfold In at a10; omega
            have n17a : (u_2_0).toInt ≤ (z42b).toInt := by have a0 := ro_46_1; unfold In at a0; have a1 := (inv_F hIc17 448 28000 rfl v17_30_0); unfold In at a1; have a2 := (inv_F hIc17 0 32 rfl v17_2_1); unfold In at a2; have a3 := (inv_F hIc17 0 4000 rfl v17_2_0); unfold In at a3; have a4 := (inv_F hIc17 0 1000 rfl v17_46_2); unfold In at a4; have a5 := i21; unfold In at a5; have a6 := i62; unfold In at a6; have a7 := t_add e62 i21 (in_c 1 rfl) rfl; have a8 := (in_c 1 rfl); unfold In at a8; have a9 := i42b; unfold In at a9; have a10 := i42a; unfold In at a10; omega
            have n17b : KL s42 := by exact p42b
            have n17c : (∀ p : Nat, p < 160 → s42.1 18 p = s.1 4 p ∧ s42.1 19 p = s.1 5 p) ∧ s42.2.2.1 16 0 = s.2.2.1 2 0 ∧ s42.2.2.1 16 1 = s.2.2.1 2 1 := by exact ⟨fun p hp => by rw [hF42.1 18 rfl, hF42.1 19 rfl, hF28.1 18 rfl, hF28.1 19 rfl]; exact g17_1.1 p hp, by rw [hF42.2.2.1 16 0 rfl, hF28.2.2.1 16 0 rfl]; exact g17_1.2.1, by rw [hF42.2.2.1 16 1 rfl, hF28.2.2.1 16 1 rfl]; exact g17_1.2.2⟩
            have n17d : ∀ k : Nat, (k : Int) < 7 * (s.2.2.1 2 0).toInt → s42.1 30 k = s.1 30 k := by exact fun k hk => by rw [p42e k (by rw [hF28.2.2.1 2 0 rfl, ← v17_2_0]; rw [← e_2_0] at hk; have a0 := ro_46_1; unfold In at a0; have a1 := (inv_F hIc17 448 28000 rfl v17_30_0); unfold In at a1; have a2 := (inv_F hIc17 0 32 rfl v17_2_1); unfold In at a2; have a3 := (inv_F hIc17 0 4000 rfl v17_2_0); unfold In at a3; have a4 := (inv_F hIc17 0 1000 rfl v17_46_2); unfold In at a4; have a5 := i21; unfold In at a5; have a6 := i62; unfold In at a6; have a7 := t_add e62 i21 (in_c 1 rfl) rfl; have a8 := (in_c 1 rfl); unfold In at a8; have a9 := i42b; unfold In at a9; have a10 := i42a; unfold In at a10; omega), hF28.1 30 rfl]; exact g17_2 k hk
            exact gg_w (by omega) (gg_f (gf_cons rfl (gf_cons rfl (gf_cons rfl gf_nil))) (ih17 s42 a42 (cc17 - lc s28) (cs17 - lsl s28) z62 z42a z42b _ _ hI42 (fr_tr rfl (fr_tr rfl hFc17 hF28) hF42) hr17 hr17a (in_w 0 2001 i62 rfl) e42 e42a rfl rfl n17 n17a n17b n17c n17d (m_up mm17 (t_add e62 i21 (in_c 1 rfl) rfl) (in_w 1 1 (in_c 1 rfl) rfl))))
          · skip
            have i45 := z_eq 0 0 c45 i42 rfl
            refine g_aload_n 49 (gd rfl) rfl rfl ?_
            refine g_getA (A := (ax A 30 a42)) (q := 1) (q2 := 2) 52 (gd rfl) rfl rfl rfl rfl ?_
            refine g_aload_n 53 (gd rfl) rfl rfl ?_
            refine g_getA (A := (ax A 30 a42)) (q := 1) (q2 := 16) 56 (gd rfl) rfl rfl rfl rfl ?_
            refine g_callv (X := _) (As := [.ref (A 16)]) (r := []) (b := A 2) (q := 2) 59 (gd rfl) rfl rfl rfl rfl rfl (ww_o rfl) (Nat.le_of_ble_eq_true rfl) (Nat.zero_le _) (Nat.zero_le _) (k_93_2_16 (A := (ax A 30 a42)) (by omega) hI42 ) (fun e u h => h) (fun v u h => ?_)
            obtain ⟨s56, hI56, hF56, rfl, rfl, p56, p56a, p56b, p56c⟩ := h
            show GG _ _ _ _ _ _ _ _ [] _ _ _
            refine g_bipush (-4) 61 (gd rfl) rfl rfl ?_
            have n61 : KL s56 := by have hFF : Fr fm_135_1_46 s s56 := (fr_tr rfl (fr_tr rfl (fr_tr rfl hFc17 hF28) hF42) hF56); exact kl_bk q_0 (fun k hk => by rw [hF56.1 30 rfl, p42e k (by rw [hF28.2.2.1 2 0 rfl, ← v17_2_0]; rw [← e_2_0] at hk; have a0 := ro_46_1; unfold In at a0; have a1 := (inv_F hIc17 448 28000 rfl v17_30_0); unfold In at a1; have a2 := (inv_F hIc17 0 32 rfl v17_2_1); unfold In at a2; have a3 := (inv_F hIc17 0 4000 rfl v17_2_0); unfold In at a3; have a4 := (inv_F hIc17 0 1000 rfl v17_46_2); unfold In at a4; have a5 := i21; unfold In at a5; have a6 := i42a; unfold In at a6; omega), hF28.1 30 rfl]; exact g17_2 k hk) (by have h9 := p42b.2.1; rw [hF56.2.2.1 30 0 rfl]; rw [← hv42] at h9; rw [← e_2_0]; have a0 := ro_46_1; unfold In at a0; have a1 := (inv_F hIc17 448 28000 rfl v17_30_0); unfold In at a1; have a2 := (inv_F hIc17 0 32 rfl v17_2_1); unfold In at a2; have a3 := (inv_F hIc17 0 4000 rfl v17_2_0); unfold In at a3; have a4 := (inv_F hIc17 0 1000 rfl v17_46_2); unfold In at a4; have a5 := i21; unfold In at a5; have a6 := i42a; unfold In at a6; omega) (by rw [p56b, hF42.2.2.1 16 0 rfl, hF28.2.2.1 16 0 rfl]; exact g17_1.2.1) (by rw [p56c, hF42.2.2.1 16 1 rfl, hF28.2.2.1 16 1 rfl]; exact g17_1.2.2) (kn_cp q_0.2.2.2.1.2 (fun p hp => by rw [p56 p hp, hF42.1 18 rfl, hF28.1 18 rfl]; exact (g17_1.1 p hp).1) (fun p hp => by rw [p56a p hp, hF42.1 19 rfl, hF28.1 19 rfl]; exact (g17_1.1 p hp).2)) (hFF.2.2.1 32 0 rfl) (hFF.2.2.1 32 1 rfl) (hFF.1 34 rfl) (hFF.1 35 rfl)
            exact g_ireturn (gd rfl) rfl rfl (hP _ _ ⟨a42, s56, hI56, (fr_tr rfl (fr_tr rfl (fr_tr rfl hFc17 hF28) hF42) hF56), (Int32.ofInt (-4)), rfl, rfl, in_w (-4) 1000 (in_c (-4) rfl) rfl, n61⟩)
        · skip
          have i35 := z_eq 0 0 c35 i32 rfl
          refine g_iload_n 39 (gd rfl) rfl rfl ?_
          have n39 : KL s28 := by exact kl_fr g17_0 hF28 rfl
          exact g_ireturn (gd rfl) rfl rfl (hP _ _ ⟨ac17, s28, hI28, (fr_tr rfl hFc17 hF28), y17_2, rfl, rfl, in_w (-4) 1000 i21 rfl, n39⟩)
  refine g_enter2 (k := 135) (N := 1802701) (by omega) rfl (Nat.le_of_ble_eq_true rfl) ?_
  refine g_aload_n 1 (gd rfl) rfl rfl ?_
  refine g_getA (q2 := 16) 4 (gd rfl) rfl rfl rfl rfl ?_
  refine g_aload_n 5 (gd rfl) rfl rfl ?_
  refine g_getA (q2 := 2) 8 (gd rfl) rfl rfl rfl rfl ?_
  refine g_callv (X := _) (As := [.ref (A 2)]) (r := []) (b := A 16) (q := 16) 11 (gd rfl) rfl rfl rfl rfl rfl (ww_o rfl) (Nat.le_of_ble_eq_true rfl) (Nat.zero_le _) (Nat.zero_le _) (k_93_16_2 (by omega) hI ) (fun e u h => h) (fun v u h => ?_)
  obtain ⟨s8, hI8, hF8, rfl, rfl, p8, p8a, p8b, p8c⟩ := h
  show GG _ _ _ _ _ _ _ _ [] _ _ _
  refine g_aload_n 12 (gd rfl) rfl rfl ?_
  refine g_callv (X := _) (As := []) (r := []) (b := A 46) (q := 46) 15 (gd rfl) rfl rfl rfl rfl rfl (ww_o rfl) (Nat.le_of_ble_eq_true rfl) (mc := 0) (ms := 0) (Nat.zero_le _) (Nat.zero_le _) (P := fun v u => _) ?_ (fun e u h => h) (fun v u h => h)
  intro po12 xx12 hp12 hx12
  refine g_enter2 (k := 167) (N := 300) (by omega) rfl (Nat.le_of_ble_eq_true rfl) ?_
  refine g_aload_n 1 (gd rfl) rfl rfl ?_
  refine g_iconst 0 2 (gd rfl) rfl rfl ?_
  refine g_putI 5 (gd rfl) rfl rfl rfl rfl ?_
  have hI12x2 := inv_sF (q := 46) (j := 2) hI8 rfl (in_w 0 1000 (in_c 0 rfl) rfl)
  refine g_aload_n 6 (gd rfl) rfl rfl ?_
  refine g_iconst (-1) 7 (gd rfl) rfl rfl ?_
  refine g_putI 10 (gd rfl) rfl rfl rfl rfl ?_
  have hI12x7 := inv_sF (q := 46) (j := 6) hI12x2 rfl (in_w (-1) 5 (in_c (-1) rfl) rfl)
  refine g_aload_n 11 (gd rfl) rfl rfl ?_
  refine g_iconst (-1) 12 (gd rfl) rfl rfl ?_
  refine g_putI 15 (gd rfl) rfl rfl rfl rfl ?_
  have hI12x12 := inv_sF (q := 46) (j := 7) hI12x7 rfl (in_w (-1) 1000 (in_c (-1) rfl) rfl)
  refine g_return (gd rfl) rfl (hp12 _ _ ?_)
  show GG _ _ _ _ _ _ _ _ [] _ _ _
  refine g_iconst 0 16 (gd rfl) rfl rfl ?_
  refine g_istore_n 17 (gd rfl) rfl (Nat.le_of_ble_eq_true rfl) ?_
  have hr17 : lgC (sF (sF (sF s8 46 2 (Int32.ofInt 0)) 46 6 (Int32.ofInt (-1))) 46 7 (Int32.ofInt (-1))) ≤ (lgC s) := by exact Nat.le_of_eq (lg_cg ((show Fr ([17, 18, 19, 20, 21, 22], [], [(16, 0), (16, 1), (16, 2), (16, 3), (16, 4), (46, 2), (46, 6), (46, 7)], []) s (sF (sF (sF s8 46 2 (Int32.ofInt 0)) 46 6 (Int32.ofInt (-1))) 46 7 (Int32.ofInt (-1))) from (fr_sF rfl (fr_sF rfl (fr_sF rfl (fr_tr rfl fr_rf hF8))))).2.2.1 30 0 rfl)).1
  have hr17a : lgS (sF (sF (sF s8 46 2 (Int32.ofInt 0)) 46 6 (Int32.ofInt (-1))) 46 7 (Int32.ofInt (-1))) ≤ (lgS s) := by exact Nat.le_of_eq (lg_cg ((show Fr ([17, 18, 19, 20, 21, 22], [], [(16, 0), (16, 1), (16, 2), (16, 3), (16, 4), (46, 2), (46, 6), (46, 7)], []) s (sF (sF (sF s8 46 2 (Int32.ofInt 0)) 46 6 (Int32.ofInt (-1))) 46 7 (Int32.ofInt (-1))) from (fr_sF rfl (fr_sF rfl (fr_sF rfl (fr_tr rfl fr_rf hF8))))).2.2.1 30 0 rfl)).2
  rw [show WW Z A (sF (sF (sF s8 46 2 (Int32.ofInt 0)) 46 6 (Int32.ofInt (-1))) 46 7 (Int32.ofInt (-1))) ++ ex = WW Z (ax A 30 (A 30)) (sF (sF (sF s8 46 2 (Int32.ofInt 0)) 46 6 (Int32.ofInt (-1))) 46 7 (Int32.ofInt (-1))) ++ ex from by rw [ax_id]]
  have v17 : (Int32.ofInt 0) = (sF (sF (sF s8 46 2 (Int32.ofInt 0)) 46 6 (Int32.ofInt (-1))) 46 7 (Int32.ofInt (-1))).2.2.1 46 2 := sF_ne rfl (sF_ne rfl (sF_get))
  have v17a : u_2_0 = (sF (sF (sF s8 46 2 (Int32.ofInt 0)) 46 6 (Int32.ofInt (-1))) 46 7 (Int32.ofInt (-1))).2.2.1 2 0 := sF_ne rfl (sF_ne rfl (sF_ne rfl (fr_F (e_2_0) hF8 rfl)))
  have v17b : u_2_1 = (sF (sF (sF s8 46 2 (Int32.ofInt 0)) 46 6 (Int32.ofInt (-1))) 46 7 (Int32.ofInt (-1))).2.2.1 2 1 := sF_ne rfl (sF_ne rfl (sF_ne rfl (fr_F (e_2_1) hF8 rfl)))
  have v17c : u_30_0 = (sF (sF (sF s8 46 2 (Int32.ofInt 0)) 46 6 (Int32.ofInt (-1))) 46 7 (Int32.ofInt (-1))).2.2.1 30 0 := sF_ne rfl (sF_ne rfl (sF_ne rfl (fr_F (e_30_0) hF8 rfl)))
  have n17 : ((Int32.ofInt 0)).toInt ≤ (u_46_1).toInt := by have a0 := (inv_F hI 0 1000 rfl e_46_1); unfold In at a0; have a1 := (inv_F hI 448 28000 rfl e_30_0); unfold In at a1; have a2 := (inv_F hI 0 32 rfl e_2_1); unfold In at a2; have a3 := (inv_F hI 0 4000 rfl e_2_0); unfold In at a3; have a4 := (in_c 0 rfl); unfold In at a4; have a5 := (in_c (-1) rfl); unfold In at a5; omega
  have n17a : (u_2_0).toInt ≤ (u_2_0).toInt := by have a0 := (inv_F hI 0 1000 rfl e_46_1); unfold In at a0; have a1 := (inv_F hI 448 28000 rfl e_30_0); unfold In at a1; have a2 := (inv_F hI 0 32 rfl e_2_1); unfold In at a2; have a3 := (inv_F hI 0 4000 rfl e_2_0); unfold In at a3; have a4 := (in_c 0 rfl); unfold In at a4; have a5 := (in_c (-1) rfl); unfold In at a5; omega
  have n17b : KL (sF (sF (sF s8 46 2 (Int32.ofInt 0)) 46 6 (Int32.ofInt (-1))) 46 7 (Int32.ofInt (-1))) := by exact kl_fr q_0 (show Fr ([17, 18, 19, 20, 21, 22], [], [(16, 0), (16, 1), (16, 2), (16, 3), (16, 4), (46, 2), (46, 6), (46, 7)], []) s (sF (sF (sF s8 46 2 (Int32.ofInt 0)) 46 6 (Int32.ofInt (-1))) 46 7 (Int32.ofInt (-1))) from (fr_sF rfl (fr_sF rfl (fr_sF rfl (fr_tr rfl fr_rf hF8))))) rfl
  have n17c : (∀ p : Nat, p < 160 → (sF (sF (sF s8 46 2 (Int32.ofInt 0)) 46 6 (Int32.ofInt (-1))) 46 7 (Int32.ofInt (-1))).1 18 p = s.1 4 p ∧ (sF (sF (sF s8 46 2 (Int32.ofInt 0)) 46 6 (Int32.ofInt (-1))) 46 7 (Int32.ofInt (-1))).1 19 p = s.1 5 p) ∧ (sF (sF (sF s8 46 2 (Int32.ofInt 0)) 46 6 (Int32.ofInt (-1))) 46 7 (Int32.ofInt (-1))).2.2.1 16 0 = s.2.2.1 2 0 ∧ (sF (sF (sF s8 46 2 (Int32.ofInt 0)) 46 6 (Int32.ofInt (-1))) 46 7 (Int32.ofInt (-1))).2.2.1 16 1 = s.2.2.1 2 1 := by exact ⟨fun p hp => ⟨p8 p hp, p8a p hp⟩, p8b, p8c⟩
  have n17d : ∀ k : Nat, (k : Int) < 7 * (s.2.2.1 2 0).toInt → (sF (sF (sF s8 46 2 (Int32.ofInt 0)) 46 6 (Int32.ofInt (-1))) 46 7 (Int32.ofInt (-1))).1 30 k = s.1 30 k := by exact fun k _ => by rw [(show Fr ([17, 18, 19, 20, 21, 22], [], [(16, 0), (16, 1), (16, 2), (16, 3), (16, 4), (46, 2), (46, 6), (46, 7)], []) s (sF (sF (sF s8 46 2 (Int32.ofInt 0)) 46 6 (Int32.ofInt (-1))) 46 7 (Int32.ofInt (-1))) from (fr_sF rfl (fr_sF rfl (fr_sF rfl (fr_tr rfl fr_rf hF8))))).1 30 rfl]
  exact gg_w (by omega) (gg_f (gf_cons rfl (gf_cons rfl (gf_cons rfl gf_nil))) (ct17 2002 (sF (sF (sF s8 46 2 (Int32.ofInt 0)) 46 6 (Int32.ofInt (-1))) 46 7 (Int32.ofInt (-1))) (A 30) (lgC s) (lgS s) (Int32.ofInt 0) (Int32.ofInt 0) u_2_0 u_2_1 u_30_0 hI12x12 (fr_sF rfl (fr_sF rfl (fr_sF rfl (fr_tr rfl fr_rf hF8)))) hr17 hr17a (in_w 0 2001 (in_c 0 rfl) rfl) v17 v17a v17b v17c n17 n17a n17b n17c n17d (m_in 2002 (in_w 0 2001 (in_c 0 rfl) rfl) rfl)))

def fm_225_0 : FM := ([3, 4, 5, 6, 7, 8, 17, 18, 19, 20, 21, 22, 30, 31], [], [(2, 0), (2, 1), (2, 2), (2, 3), (2, 4), (16, 0), (16, 1), (16, 2), (16, 3), (16, 4), (30, 0), (46, 2), (46, 3), (46, 4), (46, 5), (46, 6), (46, 7)], [])
/-- GraphHouse.load -/
theorem k_225_0 {Z : AmZ} {A : Nat → Nat} {s : GS} {ex : va_W} {d : Nat} {X : AmX} {u_2_0 : Int32} {u_2_1 : Int32} {u_30_0 : Int32} (hd : 11 ≤ d) (hI : Inv s) (e_2_0 : u_2_0 = s.2.2.1 2 0) (e_2_1 : u_2_1 = s.2.2.1 2 1) (e_30_0 : u_30_0 = s.2.2.1 30 0) (q_0 : KL s) : GC Z d 225 [.ref (A 0)] (WW Z A s ++ ex) 3943 83130 (fun v u => ∃ a : Nat, ∃ t : GS, Inv t ∧ Fr fm_225_0 s t ∧ ∃ z : Int32, v = some (.int z) ∧ u = WW Z (ax A 30 a) t ++ ex ∧ In z (-4) 1000 ∧ (KL t)) X := by
  intro post xp hP hX
  refine g_enter2 (k := 225) (N := 900) (by omega) rfl (Nat.le_of_ble_eq_true rfl) ?_
  refine g_aload_n 1 (gd rfl) rfl rfl ?_
  refine g_getA (q2 := 1) 4 (gd rfl) rfl rfl rfl rfl ?_
  refine g_aload_n 5 (gd rfl) rfl rfl ?_
  refine g_getA (q2 := 46) 8 (gd rfl) rfl rfl rfl rfl ?_
  have p8 : KL s := by exact q_0
  refine g_callv (X := _) (As := [.ref (A 46)]) (r := []) (b := A 1) (q := 1) 11 (gd rfl) rfl rfl rfl rfl rfl (ww_o rfl) (Nat.le_of_ble_eq_true rfl) (Nat.le_trans (lgC_le (inv_F hI 448 28000 (q := 30) (j := 0) rfl rfl)) (Nat.le_of_ble_eq_true rfl)) (Nat.le_trans (lgS_le (inv_F hI 448 28000 (q := 30) (j := 0) rfl rfl)) (Nat.le_of_ble_eq_true rfl)) (k_135_1_46 (by omega) hI e_2_0 e_2_1 e_30_0 rfl p8) (fun e u h => h) (fun v u h => ?_)
  obtain ⟨a8, s8, hI8, hF8, z8, rfl, rfl, i8, p8a⟩ := h
  show GG _ _ _ _ _ _ _ _ [.int z8] _ _ _
  have n11 : KL s8 := by exact p8a
  exact g_ireturn (gd rfl) rfl rfl (hP _ _ ⟨a8, s8, hI8, (fr_tr rfl fr_rf hF8), z8, rfl, rfl, in_w (-4) 1000 i8 rfl, n11⟩)

def fm_46_60_9 : FM := ([61, 63], [], [(60, 7)], [])
def fm_47_60_9 : FM := ([61, 63], [], [(60, 7)], [])
theorem k_47_60_9_r {Z : AmZ} {A : Nat → Nat} {ex : va_W} (kk : Nat) (ihF : ∀ {s : GS} {d : Nat} {X : AmX} {x2 : Int32} {x3 : Int32}, 40 + kk * 10 ≤ d → Inv s → (In x3 0 33) → 33 - (x3).toInt < ((kk : Nat) : Int) → GC Z d 46 [.ref (A 60), .ref (A 9), .int x2, .int x3] (WW Z A s ++ ex) 0 0 (fun v u => ∃ t : GS, Inv t ∧ Fr fm_46_60_9 s t ∧ ∃ z : Int32, v = some (.int z) ∧ u = WW Z A t ++ ex ∧ In z 0 1) X) : ∀ {s : GS} {d : Nat} {X : AmX} {x2 : Int32} {x3 : Int32}, 45 + kk * 10 ≤ d → Inv s → (In x3 0 32) → (x2.toInt ≠ 0) → 33 - (x3).toInt < ((kk + 1 : Nat) : Int) → GC Z d 47 [.ref (A 60), .ref (A 9), .int x2, .int x3] (WW Z A s ++ ex) 0 0 (fun v u => ∃ t : GS, Inv t ∧ Fr fm_47_60_9 s t ∧ ∃ z : Int32, v = some (.int z) ∧ u = WW Z A t ++ ex ∧ In z 0 1) X := by
  intro s d X x2 x3 hd hI h3 nza_2 hm
  intro post xp hP hX
  obtain ⟨u_60_3, e_60_3⟩ : ∃ w, w = s.2.2.1 60 3 := ⟨_, rfl⟩
  have ro_60_3 := inv_F hI 0 32 rfl e_60_3
  have ct27 : ∀ (k27 : Nat) (sc27 : GS) (y27_4 : Int32) (y27_5 : Int32) (y27_6 : Int32) (y27_7 : Int32) (y27_8 : Int32), Inv sc27 → Fr fm_47_60_9 s sc27 → (In y27_4 0 31) → (In y27_7 0 1) → (In y27_8 0 32) → 32 - (y27_8).toInt < (k27 : Int) → GG Z (d - 1) 47 post (gx xp) (1 + k27 * 900) 27 (fun j => xlook j [(0, .ref (A 60)), (1, .ref (A 9)), (2, .int x2), (3, .int x3), (4, .int y27_4), (5, .int y27_5), (6, .int y27_6), (7, .int y27_7), (8, .int y27_8)]) [] (WW Z A sc27 ++ ex) 0 0 := by
    intro k27
    induction k27 with
    | zero => intro sc27 y27_4 y27_5 y27_6 y27_7 y27_8 hIc27 hFc27 j27_4 j27_7 j27_8 mm27; exact m_no mm27 j27_8 rfl
    | succ k27 ih27 =>
      intro sc27 y27_4 y27_5 y27_6 y27_7 y27_8 hIc27 hFc27 j27_4 j27_7 j27_8 mm27
      refine gg_w (M := 1 + k27 * 900 + 900) (by omega) ?_
      refine g_iload 29 (gd rfl) rfl rfl ?_
      refine g_aload_n 30 (gd rfl) rfl rfl ?_
      refine g_getI 33 (gd rfl) rfl rfl rfl (fun z30 e30 => ?_)
      have q30 : u_60_3 = z30 := (fr_F e_60_3 hFc27 rfl).trans e30.symm
      subst q30
      refine g_cmp_ge 36 139 (gd rfl) rfl rfl (fun c33 => ?_) (fun c33 => ?_)
      · skip
        refine g_iconst 0 140 (gd rfl) rfl rfl ?_
        exact g_ireturn (gd rfl) rfl (nb01 (in_w 0 1 (in_c 0 rfl) rfl)) (hP _ _ ⟨sc27, hIc27, hFc27, (Int32.ofInt 0), rfl, rfl, in_w 0 1 (in_c 0 rfl) rfl⟩)
      · skip
        have i33 := r_lt1 0 31 c33 j27_8 ro_60_3 rfl
        have i33a := r_lt2 1 32 c33 j27_8 ro_60_3 rfl
        refine g_aload_n 37 (gd rfl) rfl rfl ?_
        refine g_getA (q2 := 61) 40 (gd rfl) rfl rfl rfl rfl ?_
        refine g_iload 42 (gd rfl) rfl rfl ?_
        refine g_iaload 43 (gd rfl) rfl (n := 32) rfl (in_ix i33 rfl) (fun z42 e42 => ?_)
        refine g_iload 45 (gd rfl) rfl rfl ?_
        refine g_iand 46 (gd rfl) rfl (fun z45 e45 => ?_)
        refine g_if_ne 49 53 (gd rfl) rfl rfl (fun c46 => ?_) (fun c46 => ?_)
        · skip
          refine g_iconst 0 54 (gd rfl) rfl rfl ?_
          refine g_istore 56 (gd rfl) rfl (Nat.le_of_ble_eq_true rfl) ?_
          refine g_aload_n 57 (gd rfl) rfl rfl ?_
          refine g_getA (q2 := 61) 60 (gd rfl) rfl rfl rfl rfl ?_
          refine g_iload 62 (gd rfl) rfl rfl ?_
          refine g_iaload 63 (gd rfl) rfl (n := 32) rfl (in_ix i33 rfl) (fun z62 e62 => ?_)
          have q62 : z42 = z62 := (e42).trans e62.symm
          subst q62
          refine g_aload_n 64 (gd rfl) rfl rfl ?_
          refine g_iload 66 (gd rfl) rfl rfl ?_
          refine g_iaload 67 (gd rfl) rfl (n := 32) rfl (in_ix j27_4 rfl) (fun z66 e66 => ?_)
          refine g_iand 68 (gd rfl) rfl (fun z67 e67 => ?_)
          refine g_if_ne 71 133 (gd rfl) rfl rfl (fun c68 => ?_) (fun c68 => ?_)
          · skip
            refine g_iinc 136 (gd rfl) rfl rfl (Nat.le_of_ble_eq_true rfl) (fun z133 e133 => ?_)
            have i133 := in_add 1 32 e133 i33 (in_c 1 rfl) rfl rfl
            refine g_goto 27 (gd rfl) rfl ?_
            exact gg_w (by omega) (gg_f (gf_cons rfl (gf_cons rfl (gf_cons rfl (gf_cons rfl (gf_cons rfl (gf_cons rfl (gf_cons rfl (gf_cons rfl (gf_cons rfl gf_nil))))))))) (ih27 sc27 y27_4 y27_5 y27_6 y27_7 z133 hIc27 hFc27 (in_w 0 31 j27_4 rfl) (in_w 0 1 j27_7 rfl) (in_w 0 32 i133 rfl) (m_up mm27 (t_add e133 i33 (in_c 1 rfl) rfl) (in_w 1 1 (in_c 1 rfl) rfl))))
          · skip
            have i68 := z_eq 0 0 c68 (i_rng z67) rfl
            refine g_iload 73 (gd rfl) rfl rfl ?_
            refine g_if_eq 76 81 (gd rfl) rfl rfl (fun c73 => ?_) (fun c73 => ?_)
            · skip
              refine g_iload 83 (gd rfl) rfl rfl ?_
              refine g_iload 85 (gd rfl) rfl rfl ?_
              refine g_ior 86 (gd rfl) rfl (fun z85 e85 => ?_)
              have i85 := in_or 1 e85 (in_w 0 1 j27_7 rfl) (in_w 0 1 (in_c 0 rfl) rfl) rfl
              refine g_istore 88 (gd rfl) rfl (Nat.le_of_ble_eq_true rfl) ?_
              refine g_aload_n 89 (gd rfl) rfl rfl ?_
              refine g_getA (q2 := 61) 92 (gd rfl) rfl rfl rfl rfl ?_
              refine g_iload 94 (gd rfl) rfl rfl ?_
              refine g_dup2 95 (gd rfl) rfl rfl rfl ?_
              refine g_iaload 96 (gd rfl) rfl (n := 32) rfl (in_ix i33 rfl) (fun z95 e95 => ?_)
              have q95 : z42 = z95 := (e42).trans e95.symm
              subst q95
              refine g_iload 98 (gd rfl) rfl rfl ?_
              refine g_ior 99 (gd rfl) rfl (fun z98 e98 => ?_)
              refine g_iastore 100 (gd rfl) rfl (n := 32) rfl (in_ix i33 rfl) ?_
              have hI99 := inv_sI (q := 61) (j := y27_8.toNatClampNeg) hIc27 rfl (in_w (-2147483648) 2147483647 (i_rng z98) rfl)
              refine g_aload_n 101 (gd rfl) rfl rfl ?_
              refine g_aload_n 102 (gd rfl) rfl rfl ?_
              refine g_iload_n 103 (gd rfl) rfl rfl ?_
              refine g_iload 105 (gd rfl) rfl rfl ?_
              refine g_iconst (-1) 106 (gd rfl) rfl rfl ?_
              refine g_ixor 107 (gd rfl) rfl (fun z106 e106 => ?_)
              refine g_iand 108 (gd rfl) rfl (fun z107 e107 => ?_)
              refine g_iload_n 109 (gd rfl) rfl rfl ?_
              refine g_iconst 1 110 (gd rfl) rfl rfl ?_
              refine g_iadd 111 (gd rfl) rfl (fun z110 e110 => ?_)
              have i110 := in_add 1 33 e110 h3 (in_c 1 rfl) rfl rfl
              have n111 : 33 - (z110).toInt < ((kk : Nat) : Int) := by have a0 := h3; unfold In at a0; have a1 := i33a; unfold In at a1; have a2 := i33; unfold In at a2; have a3 := j27_7; unfold In at a3; have a4 := j27_4; unfold In at a4; have a5 := (in_c 0 rfl); unfold In at a5; have a6 := i85; unfold In at a6; have a7 := i110; unfold In at a7; have a8 := t_add e110 h3 (in_c 1 rfl) rfl; have a9 := (in_c 1 rfl); unfold In at a9; omega
              refine g_callv (X := _) (As := [.ref (A 9), .int z107, .int z110]) (r := []) (b := A 60) (q := 60) 114 (gd rfl) rfl rfl rfl rfl rfl (ww_o rfl) (Nat.le_of_ble_eq_true rfl) (Nat.zero_le _) (Nat.zero_le _) (ihF (by omega) hI99 (in_w 0 33 i110 rfl) n111) (fun e u h => h) (fun v u h => ?_)
              obtain ⟨s111, hI111, hF111, z111, rfl, rfl, i111⟩ := h
              show GG _ _ _ _ _ _ _ _ [.int z111] _ _ _
              refine g_if_eq 117 119 (gd rfl) rfl rfl (fun c114 => ?_) (fun c114 => ?_)
              · skip
                have i114 := z_eq 0 0 c114 i111 rfl
                refine g_aload_n 120 (gd rfl) rfl rfl ?_
                refine g_getA (q2 := 61) 123 (gd rfl) rfl rfl rfl rfl ?_
                refine g_iload 125 (gd rfl) rfl rfl ?_
                refine g_dup2 126 (gd rfl) rfl rfl rfl ?_
                refine g_iaload 127 (gd rfl) rfl (n := 32) rfl (in_ix i33 rfl) (fun z126 e126 => ?_)
                refine g_iload 129 (gd rfl) rfl rfl ?_
                refine g_iconst (-1) 130 (gd rfl) rfl rfl ?_
                refine g_ixor 131 (gd rfl) rfl (fun z130 e130 => ?_)
                refine g_iand 132 (gd rfl) rfl (fun z131 e131 => ?_)
                refine g_iastore 133 (gd rfl) rfl (n := 32) rfl (in_ix i33 rfl) ?_
                have hI132 := inv_sI (q := 61) (j := y27_8.toNatClampNeg) hI111 rfl (in_w (-2147483648) 2147483647 (i_rng z131) rfl)
                refine g_iinc 136 (gd rfl) rfl rfl (Nat.le_of_ble_eq_true rfl) (fun z133 e133 => ?_)
                have i133 := in_add 1 32 e133 i33 (in_c 1 rfl) rfl rfl
                refine g_goto 27 (gd rfl) rfl ?_
                exact gg_w (by omega) (gg_f (gf_cons rfl (gf_cons rfl (gf_cons rfl (gf_cons rfl (gf_cons rfl (gf_cons rfl (gf_cons rfl (gf_cons rfl (gf_cons rfl gf_nil))))))))) (ih27 (sI s111 61 y27_8.toNatClampNeg z131) y27_4 y27_5 y27_6 z85 z133 hI132 (fr_sI rfl (fr_tr rfl (fr_sI rfl hFc27) hF111)) (in_w 0 31 j27_4 rfl) (in_w 0 1 i85 rfl) (in_w 0 32 i133 rfl) (m_up mm27 (t_add e133 i33 (in_c 1 rfl) rfl) (in_w 1 1 (in_c 1 rfl) rfl))))
              · skip
                have i114 := z_ne 1 1 c114 i111 rfl
                refine g_iconst 1 118 (gd rfl) rfl rfl ?_
                exact g_ireturn (gd rfl) rfl (nb01 (in_w 0 1 (in_c 1 rfl) rfl)) (hP _ _ ⟨s111, hI111, (fr_tr rfl (fr_sI rfl hFc27) hF111), (Int32.ofInt 1), rfl, rfl, in_w 0 1 (in_c 1 rfl) rfl⟩)
            · skip
              exact zn_ne c73 (in_c 0 rfl) rfl
        · skip
          have i46 := z_eq 0 0 c46 (i_rng z45) rfl
          refine g_iconst 1 50 (gd rfl) rfl rfl ?_
          refine g_goto 54 (gd rfl) rfl ?_
          refine g_istore 56 (gd rfl) rfl (Nat.le_of_ble_eq_true rfl) ?_
          refine g_aload_n 57 (gd rfl) rfl rfl ?_
          refine g_getA (q2 := 61) 60 (gd rfl) rfl rfl rfl rfl ?_
          refine g_iload 62 (gd rfl) rfl rfl ?_
          refine g_iaload 63 (gd rfl) rfl (n := 32) rfl (in_ix i33 rfl) (fun z62 e62 => ?_)
          have q62 : z42 = z62 := (e42).trans e62.symm
          subst q62
          refine g_aload_n 64 (gd rfl) rfl rfl ?_
          refine g_iload 66 (gd rfl) rfl rfl ?_
          refine g_iaload 67 (gd rfl) rfl (n := 32) rfl (in_ix j27_4 rfl) (fun z66 e66 => ?_)
          refine g_iand 68 (gd rfl) rfl (fun z67 e67 => ?_)
          refine g_if_ne 71 133 (gd rfl) rfl rfl (fun c68 => ?_) (fun c68 => ?_)
          · skip
            refine g_iinc 136 (gd rfl) rfl rfl (Nat.le_of_ble_eq_true rfl) (fun z133 e133 => ?_)
            have i133 := in_add 1 32 e133 i33 (in_c 1 rfl) rfl rfl
            refine g_goto 27 (gd rfl) rfl ?_
            exact gg_w (by omega) (gg_f (gf_cons rfl (gf_cons rfl (gf_cons rfl (gf_cons rfl (gf_cons rfl (gf_cons rfl (gf_cons rfl (gf_cons rfl (gf_cons rfl gf_nil))))))))) (ih27 sc27 y27_4 y27_5 y27_6 y27_7 z133 hIc27 hFc27 (in_w 0 31 j27_4 rfl) (in_w 0 1 j27_7 rfl) (in_w 0 32 i133 rfl) (m_up mm27 (t_add e133 i33 (in_c 1 rfl) rfl) (in_w 1 1 (in_c 1 rfl) rfl))))
          · skip
            have i68 := z_eq 0 0 c68 (i_rng z67) rfl
            refine g_iload 73 (gd rfl) rfl rfl ?_
            refine g_if_eq 76 81 (gd rfl) rfl rfl (fun c73 => ?_) (fun c73 => ?_)
            · skip
              exact zn_eq c73 (in_c 1 rfl) rfl
            · skip
              refine g_iload 78 (gd rfl) rfl rfl ?_
              refine g_if_ne 81 133 (gd rfl) rfl rfl (fun c78 => ?_) (fun c78 => ?_)
              · skip
                have i78 := z_ne 1 1 c78 j27_7 rfl
                refine g_iinc 136 (gd rfl) rfl rfl (Nat.le_of_ble_eq_true rfl) (fun z133 e133 => ?_)
                have i133 := in_add 1 32 e133 i33 (in_c 1 rfl) rfl rfl
                refine g_goto 27 (gd rfl) rfl ?_
                exact gg_w (by omega) (gg_f (gf_cons rfl (gf_cons rfl (gf_cons rfl (gf_cons rfl (gf_cons rfl (gf_cons rfl (gf_cons rfl (gf_cons rfl (gf_cons rfl gf_nil))))))))) (ih27 sc27 y27_4 y27_5 y27_6 y27_7 z133 hIc27 hFc27 (in_w 0 31 j27_4 rfl) (in_w 0 1 i78 rfl) (in_w 0 32 i133 rfl) (m_up mm27 (t_add e133 i33 (in_c 1 rfl) rfl) (in_w 1 1 (in_c 1 rfl) rfl))))
              · skip
                have i78 := z_eq 0 0 c78 j27_7 rfl
                refine g_iload 83 (gd rfl) rfl rfl ?_
                refine g_iload 85 (gd rfl) rfl rfl ?_
                refine g_ior 86 (gd rfl) rfl (fun z85 e85 => ?_)
                have i85 := in_or 1 e85 (in_w 0 1 i78 rfl) (in_w 0 1 (in_c 1 rfl) rfl) rfl
                refine g_istore 88 (gd rfl) rfl (Nat.le_of_ble_eq_true rfl) ?_
                refine g_aload_n 89 (gd rfl) rfl rfl ?_
                refine g_getA (q2 := 61) 92 (gd rfl) rfl rfl rfl rfl ?_
                refine g_iload 94 (gd rfl) rfl rfl ?_
                refine g_dup2 95 (gd rfl) rfl rfl rfl ?_
                refine g_iaload 96 (gd rfl) rfl (n := 32) rfl (in_ix i33 rfl) (fun z95 e95 => ?_)
                have q95 : z42 = z95 := (e42).trans e95.symm
                subst q95
                refine g_iload 98 (gd rfl) rfl rfl ?_
                refine g_ior 99 (gd rfl) rfl (fun z98 e98 => ?_)
                refine g_iastore 100 (gd rfl) rfl (n := 32) rfl (in_ix i33 rfl) ?_
                have hI99 := inv_sI (q := 61) (j := y27_8.toNatClampNeg) hIc27 rfl (in_w (-2147483648) 2147483647 (i_rng z98) rfl)
                refine g_aload_n 101 (gd rfl) rfl rfl ?_
                refine g_aload_n 102 (gd rfl) rfl rfl ?_
                refine g_iload_n 103 (gd rfl) rfl rfl ?_
                refine g_iload 105 (gd rfl) rfl rfl ?_
                refine g_iconst (-1) 106 (gd rfl) rfl rfl ?_
                refine g_ixor 107 (gd rfl) rfl (fun z106 e106 => ?_)
                refine g_iand 108 (gd rfl) rfl (fun z107 e107 => ?_)
                refine g_iload_n 109 (gd rfl) rfl rfl ?_
                refine g_iconst 1 110 (gd rfl) rfl rfl ?_
                refine g_iadd 111 (gd rfl) rfl (fun z110 e110 => ?_)
                have i110 := in_add 1 33 e110 h3 (in_c 1 rfl) rfl rfl
                have n111 : 33 - (z110).toInt < ((kk : Nat) : Int) := by have a0 := h3; unfold In at a0; have a1 := i33a; unfold In at a1; have a2 := i33; unfold In at a2; have a3 := i78; unfold In at a3; have a4 := j27_4; unfold In at a4; have a5 := (in_c 1 rfl); unfold In at a5; have a6 := i85; unfold In at a6; have a7 := i110; unfold In at a7; have a8 := t_add e110 h3 (in_c 1 rfl) rfl; omega
                refine g_callv (X := _) (As := [.ref (A 9), .int z107, .int z110]) (r := []) (b := A 60) (q := 60) 114 (gd rfl) rfl rfl rfl rfl rfl (ww_o rfl) (Nat.le_of_ble_eq_true rfl) (Nat.zero_le _) (Nat.zero_le _) (ihF (by omega) hI99 (in_w 0 33 i110 rfl) n111) (fun e u h => h) (fun v u h => ?_)
                obtain ⟨s111, hI111, hF111, z111, rfl, rfl, i111⟩ := h
                show GG _ _ _ _ _ _ _ _ [.int z111] _ _ _
                refine g_if_eq 117 119 (gd rfl) rfl rfl (fun c114 => ?_) (fun c114 => ?_)
                · skip
                  have i114 := z_eq 0 0 c114 i111 rfl
                  refine g_aload_n 120 (gd rfl) rfl rfl ?_
                  refine g_getA (q2 := 61) 123 (gd rfl) rfl rfl rfl rfl ?_
                  refine g_iload 125 (gd rfl) rfl rfl ?_
                  refine g_dup2 126 (gd rfl) rfl rfl rfl ?_
                  refine g_iaload 127 (gd rfl) rfl (n := 32) rfl (in_ix i33 rfl) (fun z126 e126 => ?_)
                  refine g_iload 129 (gd rfl) rfl rfl ?_
                  refine g_iconst (-1) 130 (gd rfl) rfl rfl ?_
                  refine g_ixor 131 (gd rfl) rfl (fun z130 e130 => ?_)
                  refine g_iand 132 (gd rfl) rfl (fun z131 e131 => ?_)
                  refine g_iastore 133 (gd rfl) rfl (n := 32) rfl (in_ix i33 rfl) ?_
                  have hI132 := inv_sI (q := 61) (j := y27_8.toNatClampNeg) hI111 rfl (in_w (-2147483648) 2147483647 (i_rng z131) rfl)
                  refine g_iinc 136 (gd rfl) rfl rfl (Nat.le_of_ble_eq_true rfl) (fun z133 e133 => ?_)
                  have i133 := in_add 1 32 e133 i33 (in_c 1 rfl) rfl rfl
                  refine g_goto 27 (gd rfl) rfl ?_
                  exact gg_w (by omega) (gg_f (gf_cons rfl (gf_cons rfl (gf_cons rfl (gf_cons rfl (gf_cons rfl (gf_cons rfl (gf_cons rfl (gf_cons rfl (gf_cons rfl gf_nil))))))))) (ih27 (sI s111 61 y27_8.toNatClampNeg z131) y27_4 y27_5 y27_6 z85 z133 hI132 (fr_sI rfl (fr_tr rfl (fr_sI rfl hFc27) hF111)) (in_w 0 31 j27_4 rfl) (in_w 0 1 i85 rfl) (in_w 0 32 i133 rfl) (m_up mm27 (t_add e133 i33 (in_c 1 rfl) rfl) (in_w 1 1 (in_c 1 rfl) rfl))))
                · skip
                  have i114 := z_ne 1 1 c114 i111 rfl
                  refine g_iconst 1 118 (gd rfl) rfl rfl ?_
                  exact g_ireturn (gd rfl) rfl (nb01 (in_w 0 1 (in_c 1 rfl) rfl)) (hP _ _ ⟨s111, hI111, (fr_tr rfl (fr_sI rfl hFc27) hF111), (Int32.ofInt 1), rfl, rfl, in_w 0 1 (in_c 1 rfl) rfl⟩)
  refine g_enter2 (k := 47) (N := 30601) (by omega) rfl (Nat.le_of_ble_eq_true rfl) ?_
  refine g_aload_n 1 (gd rfl) rfl rfl ?_
  refine g_aload_n 2 (gd rfl) rfl rfl ?_
  refine g_iload_n 3 (gd rfl) rfl rfl ?_
  refine g_callv (X := _) (As := [.ref (A 9), .int x2]) (r := []) (b := A 60) (q := 60) 6 (gd rfl) rfl rfl rfl rfl rfl (ww_o rfl) (Nat.le_of_ble_eq_true rfl) (Nat.zero_le _) (Nat.zero_le _) (k_52_60_9 (by omega) hI nza_2) (fun e u h => h) (fun v u h => ?_)
  obtain ⟨z3, rfl, rfl, i3⟩ := h
  show GG _ _ _ _ _ _ _ _ [.int z3] _ _ _
  refine g_istore 8 (gd rfl) rfl (Nat.le_of_ble_eq_true rfl) ?_
  refine g_iconst 1 9 (gd rfl) rfl rfl ?_
  refine g_iload 11 (gd rfl) rfl rfl ?_
  refine g_ishl 12 (gd rfl) rfl (fun z11 e11 => ?_)
  refine g_istore 14 (gd rfl) rfl (Nat.le_of_ble_eq_true rfl) ?_
  refine g_aload_n 15 (gd rfl) rfl rfl ?_
  refine g_iload_n 16 (gd rfl) rfl rfl ?_
  refine g_calls (As := [.ref (A 9), .int x2]) (r := []) 19 (gd rfl) rfl rfl rfl rfl rfl (Nat.le_of_ble_eq_true rfl) (Nat.zero_le _) (Nat.zero_le _) (k_48_9 (by omega) hI ) (fun v u h => ?_)
  obtain ⟨z16, rfl, rfl, i16⟩ := h
  show GG _ _ _ _ _ _ _ _ [.int z16] _ _ _
  refine g_istore 21 (gd rfl) rfl (Nat.le_of_ble_eq_true rfl) ?_
  refine g_iconst 0 22 (gd rfl) rfl rfl ?_
  refine g_istore 24 (gd rfl) rfl (Nat.le_of_ble_eq_true rfl) ?_
  refine g_iconst 0 25 (gd rfl) rfl rfl ?_
  refine g_istore 27 (gd rfl) rfl (Nat.le_of_ble_eq_true rfl) ?_
  exact gg_w (by omega) (gg_f (gf_cons rfl (gf_cons rfl (gf_cons rfl (gf_cons rfl (gf_cons rfl (gf_cons rfl (gf_cons rfl (gf_cons rfl (gf_cons rfl gf_nil))))))))) (ct27 33 s z3 z11 z16 (Int32.ofInt 0) (Int32.ofInt 0) hI fr_rf (in_w 0 31 i3 rfl) (in_w 0 1 (in_c 0 rfl) rfl) (in_w 0 32 (in_c 0 rfl) rfl) (m_in 33 (in_w 0 32 (in_c 0 rfl) rfl) rfl)))
theorem k_46_60_9_r {Z : AmZ} {A : Nat → Nat} {ex : va_W} (kk : Nat) : ∀ {s : GS} {d : Nat} {X : AmX} {x2 : Int32} {x3 : Int32}, 40 + kk * 10 ≤ d → Inv s → (In x3 0 33) → 33 - (x3).toInt < ((kk : Nat) : Int) → GC Z d 46 [.ref (A 60), .ref (A 9), .int x2, .int x3] (WW Z A s ++ ex) 0 0 (fun v u => ∃ t : GS, Inv t ∧ Fr fm_46_60_9 s t ∧ ∃ z : Int32, v = some (.int z) ∧ u = WW Z A t ++ ex ∧ In z 0 1) X := by
  induction kk with
  | zero => intro s d X x2 x3 hd hI h3 hm; exact m_no hm h3 rfl
  | succ kk ih =>
    have ihP : ∀ {s : GS} {d : Nat} {X : AmX} {x2 : Int32} {x3 : Int32}, 45 + kk * 10 ≤ d → Inv s → (In x3 0 32) → (x2.toInt ≠ 0) → 33 - (x3).toInt < ((kk + 1 : Nat) : Int) → GC Z d 47 [.ref (A 60), .ref (A 9), .int x2, .int x3] (WW Z A s ++ ex) 0 0 (fun v u => ∃ t : GS, Inv t ∧ Fr fm_47_60_9 s t ∧ ∃ z : Int32, v = some (.int z) ∧ u = WW Z A t ++ ex ∧ In z 0 1) X := k_47_60_9_r kk ih
    intro s d X x2 x3 hd hI h3 hm
    intro post xp hP hX
    obtain ⟨u_60_3, e_60_3⟩ : ∃ w, w = s.2.2.1 60 3 := ⟨_, rfl⟩
    have ro_60_3 := inv_F hI 0 32 rfl e_60_3
    have ct65 : ∀ (k65 : Nat) (sc65 : GS) (y65_4 : Int32) (y65_5 : Int32) (y65_6 : Int32) (y65_7 : Int32) (y65_8 : Int32), Inv sc65 → Fr fm_46_60_9 s sc65 → (In x3 0 32) → (In y65_4 0 32) → (In y65_6 0 31) → (In y65_8 0 32) → ((y65_5).toInt ≠ 0) → 32 - (y65_8).toInt < (k65 : Int) → GG Z (d - 1) 46 post (gx xp) (1 + k65 * 900) 65 (fun j => xlook j [(0, .ref (A 60)), (1, .ref (A 9)), (2, .int x2), (3, .int x3), (4, .int y65_4), (5, .int y65_5), (6, .int y65_6), (7, .int y65_7), (8, .int y65_8)]) [] (WW Z A sc65 ++ ex) 0 0 := by
      intro k65
      induction k65 with
      | zero => intro sc65 y65_4 y65_5 y65_6 y65_7 y65_8 hIc65 hFc65 j65_3 j65_4 j65_6 j65_8 nz65_5 mm65; exact m_no mm65 j65_8 rfl
      | succ k65 ih65 =>
        intro sc65 y65_4 y65_5 y65_6 y65_7 y65_8 hIc65 hFc65 j65_3 j65_4 j65_6 j65_8 nz65_5 mm65
        refine gg_w (M := 1 + k65 * 900 + 900) (by omega) ?_
        refine g_iload 67 (gd rfl) rfl rfl ?_
        refine g_aload_n 68 (gd rfl) rfl rfl ?_
        refine g_getI 71 (gd rfl) rfl rfl rfl (fun z68 e68 => ?_)
        have q68 : u_60_3 = z68 := (fr_F e_60_3 hFc65 rfl).trans e68.symm
        subst q68
        refine g_cmp_ge 74 93 (gd rfl) rfl rfl (fun c71 => ?_) (fun c71 => ?_)
        · skip
          refine g_aload_n 94 (gd rfl) rfl rfl ?_
          refine g_iload 96 (gd rfl) rfl rfl ?_
          refine g_putI 99 (gd rfl) rfl rfl rfl rfl ?_
          have hI96 := inv_sF (q := 60) (j := 7) hIc65 rfl (in_w 0 32 j65_4 rfl)
          refine g_iconst 0 100 (gd rfl) rfl rfl ?_
          exact g_ireturn (gd rfl) rfl (nb01 (in_w 0 1 (in_c 0 rfl) rfl)) (hP _ _ ⟨(sF sc65 60 7 y65_4), hI96, (fr_sF rfl hFc65), (Int32.ofInt 0), rfl, rfl, in_w 0 1 (in_c 0 rfl) rfl⟩)
        · skip
          have i71 := r_lt1 0 31 c71 j65_8 ro_60_3 rfl
          have i71a := r_lt2 1 32 c71 j65_8 ro_60_3 rfl
          refine g_aload_n 75 (gd rfl) rfl rfl ?_
          refine g_getA (q2 := 61) 78 (gd rfl) rfl rfl rfl rfl ?_
          refine g_iload 80 (gd rfl) rfl rfl ?_
          refine g_dup2 81 (gd rfl) rfl rfl rfl ?_
          refine g_iaload 82 (gd rfl) rfl (n := 32) rfl (in_ix i71 rfl) (fun z81 e81 => ?_)
          refine g_iload_n 83 (gd rfl) rfl rfl ?_
          refine g_iconst (-1) 84 (gd rfl) rfl rfl ?_
          refine g_ixor 85 (gd rfl) rfl (fun z84 e84 => ?_)
          refine g_iand 86 (gd rfl) rfl (fun z85 e85 => ?_)
          refine g_iastore 87 (gd rfl) rfl (n := 32) rfl (in_ix i71 rfl) ?_
          have hI86 := inv_sI (q := 61) (j := y65_8.toNatClampNeg) hIc65 rfl (in_w (-2147483648) 2147483647 (i_rng z85) rfl)
          refine g_iinc 90 (gd rfl) rfl rfl (Nat.le_of_ble_eq_true rfl) (fun z87 e87 => ?_)
          have i87 := in_add 1 32 e87 i71 (in_c 1 rfl) rfl rfl
          refine g_goto 65 (gd rfl) rfl ?_
          exact gg_w (by omega) (gg_f (gf_cons rfl (gf_cons rfl (gf_cons rfl (gf_cons rfl (gf_cons rfl (gf_cons rfl (gf_cons rfl (gf_cons rfl (gf_cons rfl gf_nil))))))))) (ih65 (sI sc65 61 y65_8.toNatClampNeg z85) y65_4 y65_5 y65_6 y65_7 z87 hI86 (fr_sI rfl hFc65) (in_w 0 32 j65_3 rfl) (in_w 0 32 j65_4 rfl) (in_w 0 31 j65_6 rfl) (in_w 0 32 i87 rfl) nz65_5 (m_up mm65 (t_add e87 i71 (in_c 1 rfl) rfl) (in_w 1 1 (in_c 1 rfl) rfl))))
    have ct25 : ∀ (k25 : Nat) (sc25 : GS) (y25_4 : Int32) (y25_5 : Int32) (y25_6 : Int32), Inv sc25 → Fr fm_46_60_9 s sc25 → (In x3 0 32) → (In y25_4 0 32) → (In y25_6 0 32) → 32 - (y25_6).toInt < (k25 : Int) → GG Z (d - 1) 46 post (gx xp) (29702 + k25 * 900) 25 (fun j => xlook j [(0, .ref (A 60)), (1, .ref (A 9)), (2, .int x2), (3, .int x3), (4, .int y25_4), (5, .int y25_5), (6, .int y25_6)]) [] (WW Z A sc25 ++ ex) 0 0 := by
      intro k25
      induction k25 with
      | zero => intro sc25 y25_4 y25_5 y25_6 hIc25 hFc25 j25_3 j25_4 j25_6 mm25; exact m_no mm25 j25_6 rfl
      | succ k25 ih25 =>
        intro sc25 y25_4 y25_5 y25_6 hIc25 hFc25 j25_3 j25_4 j25_6 mm25
        refine gg_w (M := 29702 + k25 * 900 + 900) (by omega) ?_
        refine g_iload 27 (gd rfl) rfl rfl ?_
        refine g_bipush 32 29 (gd rfl) rfl rfl ?_
        refine g_cmp_ge 32 116 (gd rfl) rfl rfl (fun c29 => ?_) (fun c29 => ?_)
        · skip
          have i29 := r_le2 32 32 c29 (in_c 32 rfl) j25_6 rfl
          refine g_aload_n 117 (gd rfl) rfl rfl ?_
          refine g_aload_n 118 (gd rfl) rfl rfl ?_
          refine g_iload 120 (gd rfl) rfl rfl ?_
          refine g_callv (X := _) (As := [.ref (A 9), .int y25_4]) (r := []) (b := A 60) (q := 60) 123 (gd rfl) rfl rfl rfl rfl rfl (ww_o rfl) (Nat.le_of_ble_eq_true rfl) (Nat.zero_le _) (Nat.zero_le _) (k_50_60_9 (by omega) hIc25 (in_w 0 32 j25_4 rfl)) (fun e u h => h) (fun v u h => ?_)
          obtain ⟨s120, hI120, hF120, rfl, rfl⟩ := h
          show GG _ _ _ _ _ _ _ _ [] _ _ _
          refine g_iconst 1 124 (gd rfl) rfl rfl ?_
          exact g_ireturn (gd rfl) rfl (nb01 (in_w 0 1 (in_c 1 rfl) rfl)) (hP _ _ ⟨s120, hI120, (fr_tr rfl hFc25 hF120), (Int32.ofInt 1), rfl, rfl, in_w 0 1 (in_c 1 rfl) rfl⟩)
        · skip
          have i29 := r_lt1 0 31 c29 j25_6 (in_c 32 rfl) rfl
          refine g_iload 34 (gd rfl) rfl rfl ?_
          refine g_if_eq 37 116 (gd rfl) rfl rfl (fun c34 => ?_) (fun c34 => ?_)
          · skip
            have i34 := z_eq 0 0 c34 (i_rng y25_5) rfl
            refine g_aload_n 117 (gd rfl) rfl rfl ?_
            refine g_aload_n 118 (gd rfl) rfl rfl ?_
            refine g_iload 120 (gd rfl) rfl rfl ?_
            refine g_callv (X := _) (As := [.ref (A 9), .int y25_4]) (r := []) (b := A 60) (q := 60) 123 (gd rfl) rfl rfl rfl rfl rfl (ww_o rfl) (Nat.le_of_ble_eq_true rfl) (Nat.zero_le _) (Nat.zero_le _) (k_50_60_9 (by omega) hIc25 (in_w 0 32 j25_4 rfl)) (fun e u h => h) (fun v u h => ?_)
            obtain ⟨s120, hI120, hF120, rfl, rfl⟩ := h
            show GG _ _ _ _ _ _ _ _ [] _ _ _
            refine g_iconst 1 124 (gd rfl) rfl rfl ?_
            exact g_ireturn (gd rfl) rfl (nb01 (in_w 0 1 (in_c 1 rfl) rfl)) (hP _ _ ⟨s120, hI120, (fr_tr rfl hFc25 hF120), (Int32.ofInt 1), rfl, rfl, in_w 0 1 (in_c 1 rfl) rfl⟩)
          · skip
            refine g_aload_n 38 (gd rfl) rfl rfl ?_
            refine g_iload 40 (gd rfl) rfl rfl ?_
            refine g_iload 42 (gd rfl) rfl rfl ?_
            refine g_ineg 43 (gd rfl) rfl (fun z42 e42 => ?_)
            refine g_iand 44 (gd rfl) rfl (fun z43 e43 => ?_)
            refine g_iload 46 (gd rfl) rfl rfl ?_
            refine g_calls (As := [.ref (A 9), .int z43, .int y25_5]) (r := []) 49 (gd rfl) rfl rfl rfl rfl rfl (Nat.le_of_ble_eq_true rfl) (Nat.zero_le _) (Nat.zero_le _) (k_266_9 (by omega) hIc25 ) (fun v u h => ?_)
            obtain ⟨z46, rfl, rfl, i46, p46⟩ := h
            show GG _ _ _ _ _ _ _ _ [.int z46] _ _ _
            refine g_istore 51 (gd rfl) rfl (Nat.le_of_ble_eq_true rfl) ?_
            refine g_aload_n 52 (gd rfl) rfl rfl ?_
            refine g_aload_n 53 (gd rfl) rfl rfl ?_
            refine g_iload 55 (gd rfl) rfl rfl ?_
            refine g_iload_n 56 (gd rfl) rfl rfl ?_
            have nz56 : (z46).toInt ≠ 0 := by obtain ⟨k, hk⟩ := lsb_bit c34 e42 e43; exact bt_nz (p46 k hk)
            have n56 : 33 - (x3).toInt < ((kk + 1 : Nat) : Int) := by have a0 := j25_3; unfold In at a0; have a1 := ro_60_3; unfold In at a1; have a2 := i29; unfold In at a2; have a3 := j25_4; unfold In at a3; omega
            refine g_callv (X := _) (As := [.ref (A 9), .int z46, .int x3]) (r := []) (b := A 60) (q := 60) 59 (gd rfl) rfl rfl rfl rfl rfl (ww_o rfl) (Nat.le_of_ble_eq_true rfl) (Nat.zero_le _) (Nat.zero_le _) (ihP (by omega) hIc25 (in_w 0 32 j25_3 rfl) nz56 n56) (fun e u h => h) (fun v u h => ?_)
            obtain ⟨s56, hI56, hF56, z56, rfl, rfl, i56⟩ := h
            show GG _ _ _ _ _ _ _ _ [.int z56] _ _ _
            refine g_if_ne 62 101 (gd rfl) rfl rfl (fun c59 => ?_) (fun c59 => ?_)
            · skip
              have i59 := z_ne 1 1 c59 i56 rfl
              refine g_iload 103 (gd rfl) rfl rfl ?_
              refine g_iload 105 (gd rfl) rfl rfl ?_
              refine g_iconst (-1) 106 (gd rfl) rfl rfl ?_
              refine g_ixor 107 (gd rfl) rfl (fun z106 e106 => ?_)
              refine g_iand 108 (gd rfl) rfl (fun z107 e107 => ?_)
              refine g_istore 110 (gd rfl) rfl (Nat.le_of_ble_eq_true rfl) ?_
              refine g_iinc 113 (gd rfl) rfl rfl (Nat.le_of_ble_eq_true rfl) (fun z110 e110 => ?_)
              have i110 := in_add 1 32 e110 i29 (in_c 1 rfl) rfl rfl
              refine g_goto 25 (gd rfl) rfl ?_
              exact gg_w (by omega) (gg_f (gf_cons rfl (gf_cons rfl (gf_cons rfl (gf_cons rfl (gf_cons rfl (gf_cons rfl (gf_cons rfl gf_nil))))))) (ih25 s56 y25_4 z107 z110 hI56 (fr_tr rfl hFc25 hF56) (in_w 0 32 j25_3 rfl) (in_w 0 32 j25_4 rfl) (in_w 0 32 i110 rfl) (m_up mm25 (t_add e110 i29 (in_c 1 rfl) rfl) (in_w 1 1 (in_c 1 rfl) rfl))))
            · skip
              have i59 := z_eq 0 0 c59 i56 rfl
              refine g_iconst 0 63 (gd rfl) rfl rfl ?_
              refine g_istore 65 (gd rfl) rfl (Nat.le_of_ble_eq_true rfl) ?_
              exact gg_w (by omega) (gg_f (gf_cons rfl (gf_cons rfl (gf_cons rfl (gf_cons rfl (gf_cons rfl (gf_cons rfl (gf_cons rfl (gf_cons rfl (gf_cons rfl gf_nil))))))))) (ct65 33 s56 y25_4 y25_5 y25_6 z46 (Int32.ofInt 0) hI56 (fr_tr rfl hFc25 hF56) (in_w 0 32 j25_3 rfl) (in_w 0 32 j25_4 rfl) (in_w 0 31 i29 rfl) (in_w 0 32 (in_c 0 rfl) rfl) c34 (m_in 33 (in_w 0 32 (in_c 0 rfl) rfl) rfl)))
    refine g_enter2 (k := 46) (N := 60302) (by omega) rfl (Nat.le_of_ble_eq_true rfl) ?_
    refine g_iload_n 1 (gd rfl) rfl rfl ?_
    refine g_bipush 32 3 (gd rfl) rfl rfl ?_
    refine g_cmp_le 6 8 (gd rfl) rfl rfl (fun c3 => ?_) (fun c3 => ?_)
    · skip
      have i3 := r_le1 0 32 c3 h3 (in_c 32 rfl) rfl
      refine g_aload_n 9 (gd rfl) rfl rfl ?_
      refine g_getI 12 (gd rfl) rfl rfl rfl (fun z9 e9 => ?_)
      have i9 := inv_F hI 0 32 rfl e9
      refine g_istore 14 (gd rfl) rfl (Nat.le_of_ble_eq_true rfl) ?_
      refine g_aload_n 15 (gd rfl) rfl rfl ?_
      refine g_aload_n 16 (gd rfl) rfl rfl ?_
      refine g_iload_n 17 (gd rfl) rfl rfl ?_
      refine g_callv (X := _) (As := [.ref (A 9), .int x2]) (r := []) (b := A 60) (q := 60) 20 (gd rfl) rfl rfl rfl rfl rfl (ww_o rfl) (Nat.le_of_ble_eq_true rfl) (Nat.zero_le _) (Nat.zero_le _) (k_49_60_9 (by omega) hI ) (fun e u h => h) (fun v u h => ?_)
      obtain ⟨s17, hI17, hF17, z17, rfl, rfl, i17⟩ := h
      show GG _ _ _ _ _ _ _ _ [.int z17] _ _ _
      refine g_istore 22 (gd rfl) rfl (Nat.le_of_ble_eq_true rfl) ?_
      refine g_iconst 0 23 (gd rfl) rfl rfl ?_
      refine g_istore 25 (gd rfl) rfl (Nat.le_of_ble_eq_true rfl) ?_
      exact gg_w (by omega) (gg_f (gf_cons rfl (gf_cons rfl (gf_cons rfl (gf_cons rfl (gf_cons rfl (gf_cons rfl (gf_cons rfl gf_nil))))))) (ct25 33 s17 z9 z17 (Int32.ofInt 0) hI17 (fr_tr rfl fr_rf hF17) (in_w 0 32 i3 rfl) (in_w 0 32 i9 rfl) (in_w 0 32 (in_c 0 rfl) rfl) (m_in 33 (in_w 0 32 (in_c 0 rfl) rfl) rfl)))
    · skip
      have i3 := r_lt2 33 33 c3 (in_c 32 rfl) h3 rfl
      refine g_iconst 0 7 (gd rfl) rfl rfl ?_
      exact g_ireturn (gd rfl) rfl (nb01 (in_w 0 1 (in_c 0 rfl) rfl)) (hP _ _ ⟨s, hI, fr_rf, (Int32.ofInt 0), rfl, rfl, in_w 0 1 (in_c 0 rfl) rfl⟩)
theorem k_46_60_9 {Z : AmZ} {A : Nat → Nat} {s : GS} {ex : va_W} {d : Nat} {X : AmX} {x2 : Int32} {x3 : Int32} (hd : 380 ≤ d) (hI : Inv s) (h3 : (In x3 0 33)) : GC Z d 46 [.ref (A 60), .ref (A 9), .int x2, .int x3] (WW Z A s ++ ex) 0 0 (fun v u => ∃ t : GS, Inv t ∧ Fr fm_46_60_9 s t ∧ ∃ z : Int32, v = some (.int z) ∧ u = WW Z A t ++ ex ∧ In z 0 1) X := k_46_60_9_r 34 (by omega) hI h3 (m_in 34 h3 rfl)

def fm_46_60_39 : FM := ([61, 63], [], [(60, 7)], [])
def fm_47_60_39 : FM := ([61, 63], [], [(60, 7)], [])
theorem k_47_60_39_r {Z : AmZ} {A : Nat → Nat} {ex : va_W} (kk : Nat) (ihF : ∀ {s : GS} {d : Nat} {X : AmX} {x2 : Int32} {x3 : Int32}, 40 + kk * 10 ≤ d → Inv s → (In x3 0 33) → 33 - (x3).toInt < ((kk : Nat) : Int) → GC Z d 46 [.ref (A 60), .ref (A 39), .int x2, .int x3] (WW Z A s ++ ex) 0 0 (fun v u => ∃ t : GS, Inv t ∧ Fr fm_46_60_39 s t ∧ ∃ z : Int32, v = some (.int z) ∧ u = WW Z A t ++ ex ∧ In z 0 1) X) : ∀ {s : GS} {d : Nat} {X : AmX} {x2 : Int32} {x3 : Int32}, 45 + kk * 10 ≤ d → Inv s → (In x3 0 32) → (x2.toInt ≠ 0) → 33 - (x3).toInt < ((kk + 1 : Nat) : Int) → GC Z d 47 [.ref (A 60), .ref (A 39), .int x2, .int x3] (WW Z A s ++ ex) 0 0 (fun v u => ∃ t : GS, Inv t ∧ Fr fm_47_60_39 s t ∧ ∃ z : Int32, v = some (.int z) ∧ u = WW Z A t ++ ex ∧ In z 0 1) X := by
  intro s d X x2 x3 hd hI h3 nza_2 hm
  intro post xp hP hX
  obtain ⟨u_60_3, e_60_3⟩ : ∃ w, w = s.2.2.1 60 3 := ⟨_, rfl⟩
  have ro_60_3 := inv_F hI 0 32 rfl e_60_3
  have ct27 : ∀ (k27 : Nat) (sc27 : GS) (y27_4 : Int32) (y27_5 : Int32) (y27_6 : Int32) (y27_7 : Int32) (y27_8 : Int32), Inv sc27 → Fr fm_47_60_39 s sc27 → (In y27_4 0 31) → (In y27_7 0 1) → (In y27_8 0 32) → 32 - (y27_8).toInt < (k27 : Int) → GG Z (d - 1) 47 post (gx xp) (1 + k27 * 900) 27 (fun j => xlook j [(0, .ref (A 60)), (1, .ref (A 39)), (2, .int x2), (3, .int x3), (4, .int y27_4), (5, .int y27_5), (6, .int y27_6), (7, .int y27_7), (8, .int y27_8)]) [] (WW Z A sc27 ++ ex) 0 0 := by
    intro k27
    induction k27 with
    | zero => intro sc27 y27_4 y27_5 y27_6 y27_7 y27_8 hIc27 hFc27 j27_4 j27_7 j27_8 mm27; exact m_no mm27 j27_8 rfl
    | succ k27 ih27 =>
      intro sc27 y27_4 y27_5 y27_6 y27_7 y27_8 hIc27 hFc27 j27_4 j27_7 j27_8 mm27
      refine gg_w (M := 1 + k27 * 900 + 900) (by omega) ?_
      refine g_iload 29 (gd rfl) rfl rfl ?_
      refine g_aload_n 30 (gd rfl) rfl rfl ?_
      refine g_getI 33 (gd rfl) rfl rfl rfl (fun z30 e30 => ?_)
      have q30 : u_60_3 = z30 := (fr_F e_60_3 hFc27 rfl).trans e30.symm
      subst q30
      refine g_cmp_ge 36 139 (gd rfl) rfl rfl (fun c33 => ?_) (fun c33 => ?_)
      · skip
        refine g_iconst 0 140 (gd rfl) rfl rfl ?_
        exact g_ireturn (gd rfl) rfl (nb01 (in_w 0 1 (in_c 0 rfl) rfl)) (hP _ _ ⟨sc27, hIc27, hFc27, (Int32.ofInt 0), rfl, rfl, in_w 0 1 (in_c 0 rfl) rfl⟩)
      · skip
        have i33 := r_lt1 0 31 c33 j27_8 ro_60_3 rfl
        have i33a := r_lt2 1 32 c33 j27_8 ro_60_3 rfl
        refine g_aload_n 37 (gd rfl) rfl rfl ?_
        refine g_getA (q2 := 61) 40 (gd rfl) rfl rfl rfl rfl ?_
        refine g_iload 42 (gd rfl) rfl rfl ?_
        refine g_iaload 43 (gd rfl) rfl (n := 32) rfl (in_ix i33 rfl) (fun z42 e42 => ?_)
        refine g_iload 45 (gd rfl) rfl rfl ?_
        refine g_iand 46 (gd rfl) rfl (fun z45 e45 => ?_)
        refine g_if_ne 49 53 (gd rfl) rfl rfl (fun c46 => ?_) (fun c46 => ?_)
        · skip
          refine g_iconst 0 54 (gd rfl) rfl rfl ?_
          refine g_istore 56 (gd rfl) rfl (Nat.le_of_ble_eq_true rfl) ?_
          refine g_aload_n 57 (gd rfl) rfl rfl ?_
          refine g_getA (q2 := 61) 60 (gd rfl) rfl rfl rfl rfl ?_
          refine g_iload 62 (gd rfl) rfl rfl ?_
          refine g_iaload 63 (gd rfl) rfl (n := 32) rfl (in_ix i33 rfl) (fun z62 e62 => ?_)
          have q62 : z42 = z62 := (e42).trans e62.symm
          subst q62
          refine g_aload_n 64 (gd rfl) rfl rfl ?_
          refine g_iload 66 (gd rfl) rfl rfl ?_
          refine g_iaload 67 (gd rfl) rfl (n := 32) rfl (in_ix j27_4 rfl) (fun z66 e66 => ?_)
          refine g_iand 68 (gd rfl) rfl (fun z67 e67 => ?_)
          refine g_if_ne 71 133 (gd rfl) rfl rfl (fun c68 => ?_) (fun c68 => ?_)
          · skip
            refine g_iinc 136 (gd rfl) rfl rfl (Nat.le_of_ble_eq_true rfl) (fun z133 e133 => ?_)
            have i133 := in_add 1 32 e133 i33 (in_c 1 rfl) rfl rfl
            refine g_goto 27 (gd rfl) rfl ?_
            exact gg_w (by omega) (gg_f (gf_cons rfl (gf_cons rfl (gf_cons rfl (gf_cons rfl (gf_cons rfl (gf_cons rfl (gf_cons rfl (gf_cons rfl (gf_cons rfl gf_nil))))))))) (ih27 sc27 y27_4 y27_5 y27_6 y27_7 z133 hIc27 hFc27 (in_w 0 31 j27_4 rfl) (in_w 0 1 j27_7 rfl) (in_w 0 32 i133 rfl) (m_up mm27 (t_add e133 i33 (in_c 1 rfl) rfl) (in_w 1 1 (in_c 1 rfl) rfl))))
          · skip
            have i68 := z_eq 0 0 c68 (i_rng z67) rfl
            refine g_iload 73 (gd rfl) rfl rfl ?_
            refine g_if_eq 76 81 (gd rfl) rfl rfl (fun c73 => ?_) (fun c73 => ?_)
            · skip
              refine g_iload 83 (gd rfl) rfl rfl ?_
              refine g_iload 85 (gd rfl) rfl rfl ?_
              refine g_ior 86 (gd rfl) rfl (fun z85 e85 => ?_)
              have i85 := in_or 1 e85 (in_w 0 1 j27_7 rfl) (in_w 0 1 (in_c 0 rfl) rfl) rfl
              refine g_istore 88 (gd rfl) rfl (Nat.le_of_ble_eq_true rfl) ?_
              refine g_aload_n 89 (gd rfl) rfl rfl ?_
              refine g_getA (q2 := 61) 92 (gd rfl) rfl rfl rfl rfl ?_
              refine g_iload 94 (gd rfl) rfl rfl ?_
              refine g_dup2 95 (gd rfl) rfl rfl rfl ?_
              refine g_iaload 96 (gd rfl) rfl (n := 32) rfl (in_ix i33 rfl) (fun z95 e95 => ?_)
              have q95 : z42 = z95 := (e42).trans e95.symm
              subst q95
              refine g_iload 98 (gd rfl) rfl rfl ?_
              refine g_ior 99 (gd rfl) rfl (fun z98 e98 => ?_)
              refine g_iastore 100 (gd rfl) rfl (n := 32) rfl (in_ix i33 rfl) ?_
              have hI99 := inv_sI (q := 61) (j := y27_8.toNatClampNeg) hIc27 rfl (in_w (-2147483648) 2147483647 (i_rng z98) rfl)
              refine g_aload_n 101 (gd rfl) rfl rfl ?_
              refine g_aload_n 102 (gd rfl) rfl rfl ?_
              refine g_iload_n 103 (gd rfl) rfl rfl ?_
              refine g_iload 105 (gd rfl) rfl rfl ?_
              refine g_iconst (-1) 106 (gd rfl) rfl rfl ?_
              refine g_ixor 107 (gd rfl) rfl (fun z106 e106 => ?_)
              refine g_iand 108 (gd rfl) rfl (fun z107 e107 => ?_)
              refine g_iload_n 109 (gd rfl) rfl rfl ?_
              refine g_iconst 1 110 (gd rfl) rfl rfl ?_
              refine g_iadd 111 (gd rfl) rfl (fun z110 e110 => ?_)
              have i110 := in_add 1 33 e110 h3 (in_c 1 rfl) rfl rfl
              have n111 : 33 - (z110).toInt < ((kk : Nat) : Int) := by have a0 := h3; unfold In at a0; have a1 := i33a; unfold In at a1; have a2 := i33; unfold In at a2; have a3 := j27_7; unfold In at a3; have a4 := j27_4; unfold In at a4; have a5 := (in_c 0 rfl); unfold In at a5; have a6 := i85; unfold In at a6; have a7 := i110; unfold In at a7; have a8 := t_add e110 h3 (in_c 1 rfl) rfl; have a9 := (in_c 1 rfl); unfold In at a9; omega
              refine g_callv (X := _) (As := [.ref (A 39), .int z107, .int z110]) (r := []) (b := A 60) (q := 60) 114 (gd rfl) rfl rfl rfl rfl rfl (ww_o rfl) (Nat.le_of_ble_eq_true rfl) (Nat.zero_le _) (Nat.zero_le _) (ihF (by omega) hI99 (in_w 0 33 i110 rfl) n111) (fun e u h => h) (fun v u h => ?_)
              obtain ⟨s111, hI111, hF111, z111, rfl, rfl, i111⟩ := h
              show GG _ _ _ _ _ _ _ _ [.int z111] _ _ _
              refine g_if_eq 117 119 (gd rfl) rfl rfl (fun c114 => ?_) (fun c114 => ?_)
              · skip
                have i114 := z_eq 0 0 c114 i111 rfl
                refine g_aload_n 120 (gd rfl) rfl rfl ?_
                refine g_getA (q2 := 61) 123 (gd rfl) rfl rfl rfl rfl ?_
                refine g_iload 125 (gd rfl) rfl rfl ?_
                refine g_dup2 126 (gd rfl) rfl rfl rfl ?_
                refine g_iaload 127 (gd rfl) rfl (n := 32) rfl (in_ix i33 rfl) (fun z126 e126 => ?_)
                refine g_iload 129 (gd rfl) rfl rfl ?_
                refine g_iconst (-1) 130 (gd rfl) rfl rfl ?_
                refine g_ixor 131 (gd rfl) rfl (fun z130 e130 => ?_)
                refine g_iand 132 (gd rfl) rfl (fun z131 e131 => ?_)
                refine g_iastore 133 (gd rfl) rfl (n := 32) rfl (in_ix i33 rfl) ?_
                have hI132 := inv_sI (q := 61) (j := y27_8.toNatClampNeg) hI111 rfl (in_w (-2147483648) 2147483647 (i_rng z131) rfl)
                refine g_iinc 136 (gd rfl) rfl rfl (Nat.le_of_ble_eq_true rfl) (fun z133 e133 => ?_)
                have i133 := in_add 1 32 e133 i33 (in_c 1 rfl) rfl rfl
                refine g_goto 27 (gd rfl) rfl ?_
                exact gg_w (by omega) (gg_f (gf_cons rfl (gf_cons rfl (gf_cons rfl (gf_cons rfl (gf_cons rfl (gf_cons rfl (gf_cons rfl (gf_cons rfl (gf_cons rfl gf_nil))))))))) (ih27 (sI s111 61 y27_8.toNatClampNeg z131) y27_4 y27_5 y27_6 z85 z133 hI132 (fr_sI rfl (fr_tr rfl (fr_sI rfl hFc27) hF111)) (in_w 0 31 j27_4 rfl) (in_w 0 1 i85 rfl) (in_w 0 32 i133 rfl) (m_up mm27 (t_add e133 i33 (in_c 1 rfl) rfl) (in_w 1 1 (in_c 1 rfl) rfl))))
              · skip
                have i114 := z_ne 1 1 c114 i111 rfl
                refine g_iconst 1 118 (gd rfl) rfl rfl ?_
                exact g_ireturn (gd rfl) rfl (nb01 (in_w 0 1 (in_c 1 rfl) rfl)) (hP _ _ ⟨s111, hI111, (fr_tr rfl (fr_sI rfl hFc27) hF111), (Int32.ofInt 1), rfl, rfl, in_w 0 1 (in_c 1 rfl) rfl⟩)
            · skip
              exact zn_ne c73 (in_c 0 rfl) rfl
        · skip
          have i46 := z_eq 0 0 c46 (i_rng z45) rfl
          refine g_iconst 1 50 (gd rfl) rfl rfl ?_
          refine g_goto 54 (gd rfl) rfl ?_
          refine g_istore 56 (gd rfl) rfl (Nat.le_of_ble_eq_true rfl) ?_
          refine g_aload_n 57 (gd rfl) rfl rfl ?_
          refine g_getA (q2 := 61) 60 (gd rfl) rfl rfl rfl rfl ?_
          refine g_iload 62 (gd rfl) rfl rfl ?_
          refine g_iaload 63 (gd rfl) rfl (n := 32) rfl (in_ix i33 rfl) (fun z62 e62 => ?_)
          have q62 : z42 = z62 := (e42).trans e62.symm
          subst q62
          refine g_aload_n 64 (gd rfl) rfl rfl ?_
          refine g_iload 66 (gd rfl) rfl rfl ?_
          refine g_iaload 67 (gd rfl) rfl (n := 32) rfl (in_ix j27_4 rfl) (fun z66 e66 => ?_)
          refine g_iand 68 (gd rfl) rfl (fun z67 e67 => ?_)
          refine g_if_ne 71 133 (gd rfl) rfl rfl (fun c68 => ?_) (fun c68 => ?_)
          · skip
            refine g_iinc 136 (gd rfl) rfl rfl (Nat.le_of_ble_eq_true rfl) (fun z133 e133 => ?_)
            have i133 := in_add 1 32 e133 i33 (in_c 1 rfl) rfl rfl
            refine g_goto 27 (gd rfl) rfl ?_
            exact gg_w (by omega) (gg_f (gf_cons rfl (gf_cons rfl (gf_cons rfl (gf_cons rfl (gf_cons rfl (gf_cons rfl (gf_cons rfl (gf_cons rfl (gf_cons rfl gf_nil))))))))) (ih27 sc27 y27_4 y27_5 y27_6 y27_7 z133 hIc27 hFc27 (in_w 0 31 j27_4 rfl) (in_w 0 1 j27_7 rfl) (in_w 0 32 i133 rfl) (m_up mm27 (t_add e133 i33 (in_c 1 rfl) rfl) (in_w 1 1 (in_c 1 rfl) rfl))))
          · skip
            have i68 := z_eq 0 0 c68 (i_rng z67) rfl
            refine g_iload 73 (gd rfl) rfl rfl ?_
            refine g_if_eq 76 81 (gd rfl) rfl rfl (fun c73 => ?_) (fun c73 => ?_)
            · skip
              exact zn_eq c73 (in_c 1 rfl) rfl
            · skip
              refine g_iload 78 (gd rfl) rfl rfl ?_
              refine g_if_ne 81 133 (gd rfl) rfl rfl (fun c78 => ?_) (fun c78 => ?_)
              · skip
                have i78 := z_ne 1 1 c78 j27_7 rfl
                refine g_iinc 136 (gd rfl) rfl rfl (Nat.le_of_ble_eq_true rfl) (fun z133 e133 => ?_)
                have i133 := in_add 1 32 e133 i33 (in_c 1 rfl) rfl rfl
                refine g_goto 27 (gd rfl) rfl ?_
                exact gg_w (by omega) (gg_f (gf_cons rfl (gf_cons rfl (gf_cons rfl (gf_cons rfl (gf_cons rfl (gf_cons rfl (gf_cons rfl (gf_cons rfl (gf_cons rfl gf_nil))))))))) (ih27 sc27 y27_4 y27_5 y27_6 y27_7 z133 hIc27 hFc27 (in_w 0 31 j27_4 rfl) (in_w 0 1 i78 rfl) (in_w 0 32 i133 rfl) (m_up mm27 (t_add e133 i33 (in_c 1 rfl) rfl) (in_w 1 1 (in_c 1 rfl) rfl))))
              · skip
                have i78 := z_eq 0 0 c78 j27_7 rfl
                refine g_iload 83 (gd rfl) rfl rfl ?_
                refine g_iload 85 (gd rfl) rfl rfl ?_
                refine g_ior 86 (gd rfl) rfl (fun z85 e85 => ?_)
                have i85 := in_or 1 e85 (in_w 0 1 i78 rfl) (in_w 0 1 (in_c 1 rfl) rfl) rfl
                refine g_istore 88 (gd rfl) rfl (Nat.le_of_ble_eq_true rfl) ?_
                refine g_aload_n 89 (gd rfl) rfl rfl ?_
                refine g_getA (q2 := 61) 92 (gd rfl) rfl rfl rfl rfl ?_
                refine g_iload 94 (gd rfl) rfl rfl ?_
                refine g_dup2 95 (gd rfl) rfl rfl rfl ?_
                refine g_iaload 96 (gd rfl) rfl (n := 32) rfl (in_ix i33 rfl) (fun z95 e95 => ?_)
                have q95 : z42 = z95 := (e42).trans e95.symm
                subst q95
                refine g_iload 98 (gd rfl) rfl rfl ?_
                refine g_ior 99 (gd rfl) rfl (fun z98 e98 => ?_)
                refine g_iastore 100 (gd rfl) rfl (n := 32) rfl (in_ix i33 rfl) ?_
                have hI99 := inv_sI (q := 61) (j := y27_8.toNatClampNeg) hIc27 rfl (in_w (-2147483648) 2147483647 (i_rng z98) rfl)
                refine g_aload_n 101 (gd rfl) rfl rfl ?_
                refine g_aload_n 102 (gd rfl) rfl rfl ?_
                refine g_iload_n 103 (gd rfl) rfl rfl ?_
                refine g_iload 105 (gd rfl) rfl rfl ?_
                refine g_iconst (-1) 106 (gd rfl) rfl rfl ?_
                refine g_ixor 107 (gd rfl) rfl (fun z106 e106 => ?_)
                refine g_iand 108 (gd rfl) rfl (fun z107 e107 => ?_)
                refine g_iload_n 109 (gd rfl) rfl rfl ?_
                refine g_iconst 1 110 (gd rfl) rfl rfl ?_
                refine g_iadd 111 (gd rfl) rfl (fun z110 e110 => ?_)
                have i110 := in_add 1 33 e110 h3 (in_c 1 rfl) rfl rfl
                have n111 : 33 - (z110).toInt < ((kk : Nat) : Int) := by have a0 := h3; unfold In at a0; have a1 := i33a; unfold In at a1; have a2 := i33; unfold In at a2; have a3 := i78; unfold In at a3; have a4 := j27_4; unfold In at a4; have a5 := (in_c 1 rfl); unfold In at a5; have a6 := i85; unfold In at a6; have a7 := i110; unfold In at a7; have a8 := t_add e110 h3 (in_c 1 rfl) rfl; omega
                refine g_callv (X := _) (As := [.ref (A 39), .int z107, .int z110]) (r := []) (b := A 60) (q := 60) 114 (gd rfl) rfl rfl rfl rfl rfl (ww_o rfl) (Nat.le_of_ble_eq_true rfl) (Nat.zero_le _) (Nat.zero_le _) (ihF (by omega) hI99 (in_w 0 33 i110 rfl) n111) (fun e u h => h) (fun v u h => ?_)
                obtain ⟨s111, hI111, hF111, z111, rfl, rfl, i111⟩ := h
                show GG _ _ _ _ _ _ _ _ [.int z111] _ _ _
                refine g_if_eq 117 119 (gd rfl) rfl rfl (fun c114 => ?_) (fun c114 => ?_)
                · skip
                  have i114 := z_eq 0 0 c114 i111 rfl
                  refine g_aload_n 120 (gd rfl) rfl rfl ?_
                  refine g_getA (q2 := 61) 123 (gd rfl) rfl rfl rfl rfl ?_
                  refine g_iload 125 (gd rfl) rfl rfl ?_
                  refine g_dup2 126 (gd rfl) rfl rfl rfl ?_
                  refine g_iaload 127 (gd rfl) rfl (n := 32) rfl (in_ix i33 rfl) (fun z126 e126 => ?_)
                  refine g_iload 129 (gd rfl) rfl rfl ?_
                  refine g_iconst (-1) 130 (gd rfl) rfl rfl ?_
                  refine g_ixor 131 (gd rfl) rfl (fun z130 e130 => ?_)
                  refine g_iand 132 (gd rfl) rfl (fun z131 e131 => ?_)
                  refine g_iastore 133 (gd rfl) rfl (n := 32) rfl (in_ix i33 rfl) ?_
                  have hI132 := inv_sI (q := 61) (j := y27_8.toNatClampNeg) hI111 rfl (in_w (-2147483648) 2147483647 (i_rng z131) rfl)
                  refine g_iinc 136 (gd rfl) rfl rfl (Nat.le_of_ble_eq_true rfl) (fun z133 e133 => ?_)
                  have i133 := in_add 1 32 e133 i33 (in_c 1 rfl) rfl rfl
                  refine g_goto 27 (gd rfl) rfl ?_
                  exact gg_w (by omega) (gg_f (gf_cons rfl (gf_cons rfl (gf_cons rfl (gf_cons rfl (gf_cons rfl (gf_cons rfl (gf_cons rfl (gf_cons rfl (gf_cons rfl gf_nil))))))))) (ih27 (sI s111 61 y27_8.toNatClampNeg z131) y27_4 y27_5 y27_6 z85 z133 hI132 (fr_sI rfl (fr_tr rfl (fr_sI rfl hFc27) hF111)) (in_w 0 31 j27_4 rfl) (in_w 0 1 i85 rfl) (in_w 0 32 i133 rfl) (m_up mm27 (t_add e133 i33 (in_c 1 rfl) rfl) (in_w 1 1 (in_c 1 rfl) rfl))))
                · skip
                  have i114 := z_ne 1 1 c114 i111 rfl
                  refine g_iconst 1 118 (gd rfl) rfl rfl ?_
                  exact g_ireturn (gd rfl) rfl (nb01 (in_w 0 1 (in_c 1 rfl) rfl)) (hP _ _ ⟨s111, hI111, (fr_tr rfl (fr_sI rfl hFc27) hF111), (Int32.ofInt 1), rfl, rfl, in_w 0 1 (in_c 1 rfl) rfl⟩)
  refine g_enter2 (k := 47) (N := 30601) (by omega) rfl (Nat.le_of_ble_eq_true rfl) ?_
  refine g_aload_n 1 (gd rfl) rfl rfl ?_
  refine g_aload_n 2 (gd rfl) rfl rfl ?_
  refine g_iload_n 3 (gd rfl) rfl rfl ?_
  refine g_callv (X := _) (As := [.ref (A 39), .int x2]) (r := []) (b := A 60) (q := 60) 6 (gd rfl) rfl rfl rfl rfl rfl (ww_o rfl) (Nat.le_of_ble_eq_true rfl) (Nat.zero_le _) (Nat.zero_le _) (k_52_60_39 (by omega) hI nza_2) (fun e u h => h) (fun v u h => ?_)
  obtain ⟨z3, rfl, rfl, i3⟩ := h
  show GG _ _ _ _ _ _ _ _ [.int z3] _ _ _
  refine g_istore 8 (gd rfl) rfl (Nat.le_of_ble_eq_true rfl) ?_
  refine g_iconst 1 9 (gd rfl) rfl rfl ?_
  refine g_iload 11 (gd rfl) rfl rfl ?_
  refine g_ishl 12 (gd rfl) rfl (fun z11 e11 => ?_)
  refine g_istore 14 (gd rfl) rfl (Nat.le_of_ble_eq_true rfl) ?_
  refine g_aload_n 15 (gd rfl) rfl rfl ?_
  refine g_iload_n 16 (gd rfl) rfl rfl ?_
  refine g_calls (As := [.ref (A 39), .int x2]) (r := []) 19 (gd rfl) rfl rfl rfl rfl rfl (Nat.le_of_ble_eq_true rfl) (Nat.zero_le _) (Nat.zero_le _) (k_48_39 (by omega) hI ) (fun v u h => ?_)
  obtain ⟨z16, rfl, rfl, i16⟩ := h
  show GG _ _ _ _ _ _ _ _ [.int z16] _ _ _
  refine g_istore 21 (gd rfl) rfl (Nat.le_of_ble_eq_true rfl) ?_
  refine g_iconst 0 22 (gd rfl) rfl rfl ?_
  refine g_istore 24 (gd rfl) rfl (Nat.le_of_ble_eq_true rfl) ?_
  refine g_iconst 0 25 (gd rfl) rfl rfl ?_
  refine g_istore 27 (gd rfl) rfl (Nat.le_of_ble_eq_true rfl) ?_
  exact gg_w (by omega) (gg_f (gf_cons rfl (gf_cons rfl (gf_cons rfl (gf_cons rfl (gf_cons rfl (gf_cons rfl (gf_cons rfl (gf_cons rfl (gf_cons rfl gf_nil))))))))) (ct27 33 s z3 z11 z16 (Int32.ofInt 0) (Int32.ofInt 0) hI fr_rf (in_w 0 31 i3 rfl) (in_w 0 1 (in_c 0 rfl) rfl) (in_w 0 32 (in_c 0 rfl) rfl) (m_in 33 (in_w 0 32 (in_c 0 rfl) rfl) rfl)))
theorem k_46_60_39_r {Z : AmZ} {A : Nat → Nat} {ex : va_W} (kk : Nat) : ∀ {s : GS} {d : Nat} {X : AmX} {x2 : Int32} {x3 : Int32}, 40 + kk * 10 ≤ d → Inv s → (In x3 0 33) → 33 - (x3).toInt < ((kk : Nat) : Int) → GC Z d 46 [.ref (A 60), .ref (A 39), .int x2, .int x3] (WW Z A s ++ ex) 0 0 (fun v u => ∃ t : GS, Inv t ∧ Fr fm_46_60_39 s t ∧ ∃ z : Int32, v = some (.int z) ∧ u = WW Z A t ++ ex ∧ In z 0 1) X := by
  induction kk with
  | zero => intro s d X x2 x3 hd hI h3 hm; exact m_no hm h3 rfl
  | succ kk ih =>
    have ihP : ∀ {s : GS} {d : Nat} {X : AmX} {x2 : Int32} {x3 : Int32}, 45 + kk * 10 ≤ d → Inv s → (In x3 0 32) → (x2.toInt ≠ 0) → 33 - (x3).toInt < ((kk + 1 : Nat) : Int) → GC Z d 47 [.ref (A 60), .ref (A 39), .int x2, .int x3] (WW Z A s ++ ex) 0 0 (fun v u => ∃ t : GS, Inv t ∧ Fr fm_47_60_39 s t ∧ ∃ z : Int32, v = some (.int z) ∧ u = WW Z A t ++ ex ∧ In z 0 1) X := k_47_60_39_r kk ih
    intro s d X x2 x3 hd hI h3 hm
    intro post xp hP hX
    obtain ⟨u_60_3, e_60_3⟩ : ∃ w, w = s.2.2.1 60 3 := ⟨_, rfl⟩
    have ro_60_3 := inv_F hI 0 32 rfl e_60_3
    have ct65 : ∀ (k65 : Nat) (sc65 : GS) (y65_4 : Int32) (y65_5 : Int32) (y65_6 : Int32) (y65_7 : Int32) (y65_8 : Int32), Inv sc65 → Fr fm_46_60_39 s sc65 → (In x3 0 32) → (In y65_4 0 32) → (In y65_6 0 31) → (In y65_8 0 32) → ((y65_5).toInt ≠ 0) → 32 - (y65_8).toInt < (k65 : Int) → GG Z (d - 1) 46 post (gx xp) (1 + k65 * 900) 65 (fun j => xlook j [(0, .ref (A 60)), (1, .ref (A 39)), (2, .int x2), (3, .int x3), (4, .int y65_4), (5, .int y65_5), (6, .int y65_6), (7, .int y65_7), (8, .int y65_8)]) [] (WW Z A sc65 ++ ex) 0 0 := by
      intro k65
      induction k65 with
      | zero => intro sc65 y65_4 y65_5 y65_6 y65_7 y65_8 hIc65 hFc65 j65_3 j65_4 j65_6 j65_8 nz65_5 mm65; exact m_no mm65 j65_8 rfl
      | succ k65 ih65 =>
        intro sc65 y65_4 y65_5 y65_6 y65_7 y65_8 hIc65 hFc65 j65_3 j65_4 j65_6 j65_8 nz65_5 mm65
        refine gg_w (M := 1 + k65 * 900 + 900) (by omega) ?_
        refine g_iload 67 (gd rfl) rfl rfl ?_
        refine g_aload_n 68 (gd rfl) rfl rfl ?_
        refine g_getI 71 (gd rfl) rfl rfl rfl (fun z68 e68 => ?_)
        have q68 : u_60_3 = z68 := (fr_F e_60_3 hFc65 rfl).trans e68.symm
        subst q68
        refine g_cmp_ge 74 93 (gd rfl) rfl rfl (fun c71 => ?_) (fun c71 => ?_)
        · skip
          refine g_aload_n 94 (gd rfl) rfl rfl ?_
          refine g_iload 96 (gd rfl) rfl rfl ?_
          refine g_putI 99 (gd rfl) rfl rfl rfl rfl ?_
          have hI96 := inv_sF (q := 60) (j := 7) hIc65 rfl (in_w 0 32 j65_4 rfl)
          refine g_iconst 0 100 (gd rfl) rfl rfl ?_
          exact g_ireturn (gd rfl) rfl (nb01 (in_w 0 1 (in_c 0 rfl) rfl)) (hP _ _ ⟨(sF sc65 60 7 y65_4), hI96, (fr_sF rfl hFc65), (Int32.ofInt 0), rfl, rfl, in_w 0 1 (in_c 0 rfl) rfl⟩)
        · skip
          have i71 := r_lt1 0 31 c71 j65_8 ro_60_3 rfl
          have i71a := r_lt2 1 32 c71 j65_8 ro_60_3 rfl
          refine g_aload_n 75 (gd rfl) rfl rfl ?_
          refine g_getA (q2 := 61) 78 (gd rfl) rfl rfl rfl rfl ?_
          refine g_iload 80 (gd rfl) rfl rfl ?_
          refine g_dup2 81 (gd rfl) rfl rfl rfl ?_
          refine g_iaload 82 (gd rfl) rfl (n := 32) rfl (in_ix i71 rfl) (fun z81 e81 => ?_)
          refine g_iload_n 83 (gd rfl) rfl rfl ?_
          refine g_iconst (-1) 84 (gd rfl) rfl rfl ?_
          refine g_ixor 85 (gd rfl) rfl (fun z84 e84 => ?_)
          refine g_iand 86 (gd rfl) rfl (fun z85 e85 => ?_)
          refine g_iastore 87 (gd rfl) rfl (n := 32) rfl (in_ix i71 rfl) ?_
          have hI86 := inv_sI (q := 61) (j := y65_8.toNatClampNeg) hIc65 rfl (in_w (-2147483648) 2147483647 (i_rng z85) rfl)
          refine g_iinc 90 (gd rfl) rfl rfl (Nat.le_of_ble_eq_true rfl) (fun z87 e87 => ?_)
          have i87 := in_add 1 32 e87 i71 (in_c 1 rfl) rfl rfl
          refine g_goto 65 (gd rfl) rfl ?_
          exact gg_w (by omega) (gg_f (gf_cons rfl (gf_cons rfl (gf_cons rfl (gf_cons rfl (gf_cons rfl (gf_cons rfl (gf_cons rfl (gf_cons rfl (gf_cons rfl gf_nil))))))))) (ih65 (sI sc65 61 y65_8.toNatClampNeg z85) y65_4 y65_5 y65_6 y65_7 z87 hI86 (fr_sI rfl hFc65) (in_w 0 32 j65_3 rfl) (in_w 0 32 j65_4 rfl) (in_w 0 31 j65_6 rfl) (in_w 0 32 i87 rfl) nz65_5 (m_up mm65 (t_add e87 i71 (in_c 1 rfl) rfl) (in_w 1 1 (in_c 1 rfl) rfl))))
    have ct25 : ∀ (k25 : Nat) (sc25 : GS) (y25_4 : Int32) (y25_5 : Int32) (y25_6 : Int32), Inv sc25 → Fr fm_46_60_39 s sc25 → (In x3 0 32) → (In y25_4 0 32) → (In y25_6 0 32) → 32 - (y25_6).toInt < (k25 : Int) → GG Z (d - 1) 46 post (gx xp) (29702 + k25 * 900) 25 (fun j => xlook j [(0, .ref (A 60)), (1, .ref (A 39)), (2, .int x2), (3, .int x3), (4, .int y25_4), (5, .int y25_5), (6, .int y25_6)]) [] (WW Z A sc25 ++ ex) 0 0 := by
      intro k25
      induction k25 with
      | zero => intro sc25 y25_4 y25_5 y25_6 hIc25 hFc25 j25_3 j25_4 j25_6 mm25; exact m_no mm25 j25_6 rfl
      | succ k25 ih25 =>
        intro sc25 y25_4 y25_5 y25_6 hIc25 hFc25 j25_3 j25_4 j25_6 mm25
        refine gg_w (M := 29702 + k25 * 900 + 900) (by omega) ?_
        refine g_iload 27 (gd rfl) rfl rfl ?_
        refine g_bipush 32 29 (gd rfl) rfl rfl ?_
        refine g_cmp_ge 32 116 (gd rfl) rfl rfl (fun c29 => ?_) (fun c29 => ?_)
        · skip
          have i29 := r_le2 32 32 c29 (in_c 32 rfl) j25_6 rfl
          refine g_aload_n 117 (gd rfl) rfl rfl ?_
          refine g_aload_n 118 (gd rfl) rfl rfl ?_
          refine g_iload 120 (gd rfl) rfl rfl ?_
          refine g_callv (X := _) (As := [.ref (A 39), .int y25_4]) (r := []) (b := A 60) (q := 60) 123 (gd rfl) rfl rfl rfl rfl rfl (ww_o rfl) (Nat.le_of_ble_eq_true rfl) (Nat.zero_le _) (Nat.zero_le _) (k_50_60_39 (by omega) hIc25 (in_w 0 32 j25_4 rfl)) (fun e u h => h) (fun v u h => ?_)
          obtain ⟨s120, hI120, hF120, rfl, rfl⟩ := h
          show GG _ _ _ _ _ _ _ _ [] _ _ _
          refine g_iconst 1 124 (gd rfl) rfl rfl ?_
          exact g_ireturn (gd rfl) rfl (nb01 (in_w 0 1 (in_c 1 rfl) rfl)) (hP _ _ ⟨s120, hI120, (fr_tr rfl hFc25 hF120), (Int32.ofInt 1), rfl, rfl, in_w 0 1 (in_c 1 rfl) rfl⟩)
        · skip
          have i29 := r_lt1 0 31 c29 j25_6 (in_c 32 rfl) rfl
          refine g_iload 34 (gd rfl) rfl rfl ?_
          refine g_if_eq 37 116 (gd rfl) rfl rfl (fun c34 => ?_) (fun c34 => ?_)
          · skip
            have i34 := z_eq 0 0 c34 (i_rng y25_5) rfl
            refine g_aload_n 117 (gd rfl) rfl rfl ?_
            refine g_aload_n 118 (gd rfl) rfl rfl ?_
            refine g_iload 120 (gd rfl) rfl rfl ?_
            refine g_callv (X := _) (As := [.ref (A 39), .int y25_4]) (r := []) (b := A 60) (q := 60) 123 (gd rfl) rfl rfl rfl rfl rfl (ww_o rfl) (Nat.le_of_ble_eq_true rfl) (Nat.zero_le _) (Nat.zero_le _) (k_50_60_39 (by omega) hIc25 (in_w 0 32 j25_4 rfl)) (fun e u h => h) (fun v u h => ?_)
            obtain ⟨s120, hI120, hF120, rfl, rfl⟩ := h
            show GG _ _ _ _ _ _ _ _ [] _ _ _
            refine g_iconst 1 124 (gd rfl) rfl rfl ?_
            exact g_ireturn (gd rfl) rfl (nb01 (in_w 0 1 (in_c 1 rfl) rfl)) (hP _ _ ⟨s120, hI120, (fr_tr rfl hFc25 hF120), (Int32.ofInt 1), rfl, rfl, in_w 0 1 (in_c 1 rfl) rfl⟩)
          · skip
            refine g_aload_n 38 (gd rfl) rfl rfl ?_
            refine g_iload 40 (gd rfl) rfl rfl ?_
            refine g_iload 42 (gd rfl) rfl rfl ?_
            refine g_ineg 43 (gd rfl) rfl (fun z42 e42 => ?_)
            refine g_iand 44 (gd rfl) rfl (fun z43 e43 => ?_)
            refine g_iload 46 (gd rfl) rfl rfl ?_
            refine g_calls (As := [.ref (A 39), .int z43, .int y25_5]) (r := []) 49 (gd rfl) rfl rfl rfl rfl rfl (Nat.le_of_ble_eq_true rfl) (Nat.zero_le _) (Nat.zero_le _) (k_266_39 (by omega) hIc25 ) (fun v u h => ?_)
            obtain ⟨z46, rfl, rfl, i46, p46⟩ := h
            show GG _ _ _ _ _ _ _ _ [.int z46] _ _ _
            refine g_istore 51 (gd rfl) rfl (Nat.le_of_ble_eq_true rfl) ?_
            refine g_aload_n 52 (gd rfl) rfl rfl ?_
            refine g_aload_n 53 (gd rfl) rfl rfl ?_
            refine g_iload 55 (gd rfl) rfl rfl ?_
            refine g_iload_n 56 (gd rfl) rfl rfl ?_
            have nz56 : (z46).toInt ≠ 0 := by obtain ⟨k, hk⟩ := lsb_bit c34 e42 e43; exact bt_nz (p46 k hk)
            have n56 : 33 - (x3).toInt < ((kk + 1 : Nat) : Int) := by have a0 := j25_3; unfold In at a0; have a1 := ro_60_3; unfold In at a1; have a2 := i29; unfold In at a2; have a3 := j25_4; unfold In at a3; omega
            refine g_callv (X := _) (As := [.ref (A 39), .int z46, .int x3]) (r := []) (b := A 60) (q := 60) 59 (gd rfl) rfl rfl rfl rfl rfl (ww_o rfl) (Nat.le_of_ble_eq_true rfl) (Nat.zero_le _) (Nat.zero_le _) (ihP (by omega) hIc25 (in_w 0 32 j25_3 rfl) nz56 n56) (fun e u h => h) (fun v u h => ?_)
            obtain ⟨s56, hI56, hF56, z56, rfl, rfl, i56⟩ := h
            show GG _ _ _ _ _ _ _ _ [.int z56] _ _ _
            refine g_if_ne 62 101 (gd rfl) rfl rfl (fun c59 => ?_) (fun c59 => ?_)
            · skip
              have i59 := z_ne 1 1 c59 i56 rfl
              refine g_iload 103 (gd rfl) rfl rfl ?_
              refine g_iload 105 (gd rfl) rfl rfl ?_
              refine g_iconst (-1) 106 (gd rfl) rfl rfl ?_
              refine g_ixor 107 (gd rfl) rfl (fun z106 e106 => ?_)
              refine g_iand 108 (gd rfl) rfl (fun z107 e107 => ?_)
              refine g_istore 110 (gd rfl) rfl (Nat.le_of_ble_eq_true rfl) ?_
              refine g_iinc 113 (gd rfl) rfl rfl (Nat.le_of_ble_eq_true rfl) (fun z110 e110 => ?_)
              have i110 := in_add 1 32 e110 i29 (in_c 1 rfl) rfl rfl
              refine g_goto 25 (gd rfl) rfl ?_
              exact gg_w (by omega) (gg_f (gf_cons rfl (gf_cons rfl (gf_cons rfl (gf_cons rfl (gf_cons rfl (gf_cons rfl (gf_cons rfl gf_nil))))))) (ih25 s56 y25_4 z107 z110 hI56 (fr_tr rfl hFc25 hF56) (in_w 0 32 j25_3 rfl) (in_w 0 32 j25_4 rfl) (in_w 0 32 i110 rfl) (m_up mm25 (t_add e110 i29 (in_c 1 rfl) rfl) (in_w 1 1 (in_c 1 rfl) rfl))))
            · skip
              have i59 := z_eq 0 0 c59 i56 rfl
              refine g_iconst 0 63 (gd rfl) rfl rfl ?_
              refine g_istore 65 (gd rfl) rfl (Nat.le_of_ble_eq_true rfl) ?_
              exact gg_w (by omega) (gg_f (gf_cons rfl (gf_cons rfl (gf_cons rfl (gf_cons rfl (gf_cons rfl (gf_cons rfl (gf_cons rfl (gf_cons rfl (gf_cons rfl gf_nil))))))))) (ct65 33 s56 y25_4 y25_5 y25_6 z46 (Int32.ofInt 0) hI56 (fr_tr rfl hFc25 hF56) (in_w 0 32 j25_3 rfl) (in_w 0 32 j25_4 rfl) (in_w 0 31 i29 rfl) (in_w 0 32 (in_c 0 rfl) rfl) c34 (m_in 33 (in_w 0 32 (in_c 0 rfl) rfl) rfl)))
    refine g_enter2 (k := 46) (N := 60302) (by omega) rfl (Nat.le_of_ble_eq_true rfl) ?_
    refine g_iload_n 1 (gd rfl) rfl rfl ?_
    refine g_bipush 32 3 (gd rfl) rfl rfl ?_
    refine g_cmp_le 6 8 (gd rfl) rfl rfl (fun c3 => ?_) (fun c3 => ?_)
    · skip
      have i3 := r_le1 0 32 c3 h3 (in_c 32 rfl) rfl
      refine g_aload_n 9 (gd rfl) rfl rfl ?_
      refine g_getI 12 (gd rfl) rfl rfl rfl (fun z9 e9 => ?_)
      have i9 := inv_F hI 0 32 rfl e9
      refine g_istore 14 (gd rfl) rfl (Nat.le_of_ble_eq_true rfl) ?_
      refine g_aload_n 15 (gd rfl) rfl rfl ?_
      refine g_aload_n 16 (gd rfl) rfl rfl ?_
      refine g_iload_n 17 (gd rfl) rfl rfl ?_
      refine g_callv (X := _) (As := [.ref (A 39), .int x2]) (r := []) (b := A 60) (q := 60) 20 (gd rfl) rfl rfl rfl rfl rfl (ww_o rfl) (Nat.le_of_ble_eq_true rfl) (Nat.zero_le _) (Nat.zero_le _) (k_49_60_39 (by omega) hI ) (fun e u h => h) (fun v u h => ?_)
      obtain ⟨s17, hI17, hF17, z17, rfl, rfl, i17⟩ := h
      show GG _ _ _ _ _ _ _ _ [.int z17] _ _ _
      refine g_istore 22 (gd rfl) rfl (Nat.le_of_ble_eq_true rfl) ?_
      refine g_iconst 0 23 (gd rfl) rfl rfl ?_
      refine g_istore 25 (gd rfl) rfl (Nat.le_of_ble_eq_true rfl) ?_
      exact gg_w (by omega) (gg_f (gf_cons rfl (gf_cons rfl (gf_cons rfl (gf_cons rfl (gf_cons rfl (gf_cons rfl (gf_cons rfl gf_nil))))))) (ct25 33 s17 z9 z17 (Int32.ofInt 0) hI17 (fr_tr rfl fr_rf hF17) (in_w 0 32 i3 rfl) (in_w 0 32 i9 rfl) (in_w 0 32 (in_c 0 rfl) rfl) (m_in 33 (in_w 0 32 (in_c 0 rfl) rfl) rfl)))
    · skip
      have i3 := r_lt2 33 33 c3 (in_c 32 rfl) h3 rfl
      refine g_iconst 0 7 (gd rfl) rfl rfl ?_
      exact g_ireturn (gd rfl) rfl (nb01 (in_w 0 1 (in_c 0 rfl) rfl)) (hP _ _ ⟨s, hI, fr_rf, (Int32.ofInt 0), rfl, rfl, in_w 0 1 (in_c 0 rfl) rfl⟩)
theorem k_46_60_39 {Z : AmZ} {A : Nat → Nat} {s : GS} {ex : va_W} {d : Nat} {X : AmX} {x2 : Int32} {x3 : Int32} (hd : 380 ≤ d) (hI : Inv s) (h3 : (In x3 0 33)) : GC Z d 46 [.ref (A 60), .ref (A 39), .int x2, .int x3] (WW Z A s ++ ex) 0 0 (fun v u => ∃ t : GS, Inv t ∧ Fr fm_46_60_39 s t ∧ ∃ z : Int32, v = some (.int z) ∧ u = WW Z A t ++ ex ∧ In z 0 1) X := k_46_60_39_r 34 (by omega) hI h3 (m_in 34 h3 rfl)

def fm_54_60_2 : FM := ([61, 62, 63], [], [(60, 7)], [])
/-- GraphHouse$Colours.canLower -/
theorem k_54_60_2 {Z : AmZ} {A : Nat → Nat} {s : GS} {ex : va_W} {d : Nat} {X : AmX} {x2 : Int32} {x3 : Int32} {x4 : Int32} (hd : 381 ≤ d) (hI : Inv s) (h2 : In x2 0 31) (h3 : In x3 0 31) (h4 : In x4 0 31) : GC Z d 54 [.ref (A 60), .ref (A 2), .int x2, .int x3, .int x4] (WW Z A s ++ ex) 0 0 (fun v u => ∃ t : GS, Inv t ∧ Fr fm_54_60_2 s t ∧ ∃ z : Int32, v = some (.int z) ∧ u = WW Z A t ++ ex ∧ In z 0 1) X := by
  intro post xp hP hX
  obtain ⟨u_2_1, e_2_1⟩ : ∃ w, w = s.2.2.1 2 1 := ⟨_, rfl⟩
  have ro_2_1 := inv_F hI 0 32 rfl e_2_1
  obtain ⟨u_60_3, e_60_3⟩ : ∃ w, w = s.2.2.1 60 3 := ⟨_, rfl⟩
  have ro_60_3 := inv_F hI 0 32 rfl e_60_3
  have ct108 : ∀ (k108 : Nat) (sc108 : GS) (y108_5 : Int32) (y108_6 : Int32) (y108_7 : Int32) (y108_8 : Int32), Inv sc108 → Fr fm_54_60_2 s sc108 → (In y108_8 0 32) → 32 - (y108_8).toInt < (k108 : Int) → GG Z (d - 1) 54 post (gx xp) (1 + k108 * 900) 108 (fun j => xlook j [(0, .ref (A 60)), (1, .ref (A 2)), (2, .int x2), (3, .int x3), (4, .int x4), (5, .int y108_5), (6, .int y108_6), (7, .int y108_7), (8, .int y108_8)]) [] (WW Z A sc108 ++ ex) 0 0 := by
    intro k108
    induction k108 with
    | zero => intro sc108 y108_5 y108_6 y108_7 y108_8 hIc108 hFc108 j108_8 mm108; exact m_no mm108 j108_8 rfl
    | succ k108 ih108 =>
      intro sc108 y108_5 y108_6 y108_7 y108_8 hIc108 hFc108 j108_8 mm108
      refine gg_w (M := 1 + k108 * 900 + 900) (by omega) ?_
      refine g_iload 110 (gd rfl) rfl rfl ?_
      refine g_aload_n 111 (gd rfl) rfl rfl ?_
      refine g_getI 114 (gd rfl) rfl rfl rfl (fun z111 e111 => ?_)
      have q111 : u_60_3 = z111 := (fr_F e_60_3 hFc108 rfl).trans e111.symm
      subst q111
      refine g_cmp_ge 117 135 (gd rfl) rfl rfl (fun c114 => ?_) (fun c114 => ?_)
      · skip
        refine g_aload_n 136 (gd rfl) rfl rfl ?_
        refine g_getA (q2 := 61) 139 (gd rfl) rfl rfl rfl rfl ?_
        refine g_iload_n 140 (gd rfl) rfl rfl ?_
        refine g_dup2 141 (gd rfl) rfl rfl rfl ?_
        refine g_iaload 142 (gd rfl) rfl (n := 32) rfl (in_ix h3 rfl) (fun z141 e141 => ?_)
        refine g_iload 144 (gd rfl) rfl rfl ?_
        refine g_ior 145 (gd rfl) rfl (fun z144 e144 => ?_)
        refine g_iastore 146 (gd rfl) rfl (n := 32) rfl (in_ix h3 rfl) ?_
        have hI145 := inv_sI (q := 61) (j := x3.toNatClampNeg) hIc108 rfl (in_w (-2147483648) 2147483647 (i_rng z144) rfl)
        refine g_aload_n 147 (gd rfl) rfl rfl ?_
        refine g_aload_n 148 (gd rfl) rfl rfl ?_
        refine g_getA (q2 := 9) 151 (gd rfl) rfl rfl rfl rfl ?_
        refine g_aload_n 152 (gd rfl) rfl rfl ?_
        refine g_callv (X := _) (As := []) (r := [.ref (A 9), .ref (A 60)]) (b := A 2) (q := 2) 155 (gd rfl) rfl rfl rfl rfl rfl (ww_o rfl) (Nat.le_of_ble_eq_true rfl) (mc := 0) (ms := 0) (Nat.zero_le _) (Nat.zero_le _) (P := fun v u => _) ?_ (fun e u h => h) (fun v u h => h)
        intro po152 xx152 hp152 hx152
        refine g_enter2 (k := 102) (N := 300) (by omega) rfl (Nat.le_of_ble_eq_true rfl) ?_
        refine g_aload_n 1 (gd rfl) rfl rfl ?_
        refine g_getI 4 (gd rfl) rfl rfl rfl (fun z152x1 e152x1 => ?_)
        have q152x1 : u_2_1 = z152x1 := (sI_F (fr_F e_2_1 hFc108 rfl)).trans e152x1.symm
        subst q152x1
        refine g_bipush 32 6 (gd rfl) rfl rfl ?_
        refine g_cmp_lt 9 13 (gd rfl) rfl rfl (fun c152x6 => ?_) (fun c152x6 => ?_)
        · skip
          have i152x6 := r_lt1 0 31 c152x6 ro_2_1 (in_c 32 rfl) rfl
          refine g_iconst 1 14 (gd rfl) rfl rfl ?_
          refine g_aload_n 15 (gd rfl) rfl rfl ?_
          refine g_getI 18 (gd rfl) rfl rfl rfl (fun z152x15 e152x15 => ?_)
          have q152x15 : u_2_1 = z152x15 := (sI_F (fr_F e_2_1 hFc108 rfl)).trans e152x15.symm
          subst q152x15
          refine g_ishl 19 (gd rfl) rfl (fun z152x18 e152x18 => ?_)
          refine g_iconst 1 20 (gd rfl) rfl rfl ?_
          refine g_isub 21 (gd rfl) rfl (fun z152x20 e152x20 => ?_)
          refine g_ireturn (gd rfl) rfl rfl (hp152 _ _ ?_)
          show GG _ _ _ _ _ _ _ _ [.int z152x20, .ref (A 9), .ref (A 60)] _ _ _
          refine g_iload 157 (gd rfl) rfl rfl ?_
          refine g_iconst (-1) 158 (gd rfl) rfl rfl ?_
          refine g_ixor 159 (gd rfl) rfl (fun z158 e158 => ?_)
          refine g_iand 160 (gd rfl) rfl (fun z159 e159 => ?_)
          refine g_iload 162 (gd rfl) rfl rfl ?_
          refine g_iconst (-1) 163 (gd rfl) rfl rfl ?_
          refine g_ixor 164 (gd rfl) rfl (fun z163 e163 => ?_)
          refine g_iand 165 (gd rfl) rfl (fun z164 e164 => ?_)
          refine g_iconst 0 166 (gd rfl) rfl rfl ?_
          refine g_callv (X := _) (As := [.ref (A 9), .int z164, .int (Int32.ofInt 0)]) (r := []) (b := A 60) (q := 60) 169 (gd rfl) rfl rfl rfl rfl rfl (ww_o rfl) (Nat.le_of_ble_eq_true rfl) (Nat.zero_le _) (Nat.zero_le _) (k_46_60_9 (by omega) hI145 (in_w 0 33 (in_c 0 rfl) rfl)) (fun e u h => h) (fun v u h => ?_)
          obtain ⟨s166, hI166, hF166, z166, rfl, rfl, i166⟩ := h
          show GG _ _ _ _ _ _ _ _ [.int z166] _ _ _
          refine g_if_eq 172 174 (gd rfl) rfl rfl (fun c169 => ?_) (fun c169 => ?_)
          · skip
            have i169 := z_eq 0 0 c169 i166 rfl
            refine g_aload_n 175 (gd rfl) rfl rfl ?_
            refine g_getA (q2 := 62) 178 (gd rfl) rfl rfl rfl rfl ?_
            refine g_iconst 0 179 (gd rfl) rfl rfl ?_
            refine g_aload_n 180 (gd rfl) rfl rfl ?_
            refine g_getA (q2 := 61) 183 (gd rfl) rfl rfl rfl rfl ?_
            refine g_iconst 0 184 (gd rfl) rfl rfl ?_
            refine g_bipush 32 186 (gd rfl) rfl rfl ?_
            refine g_cpI (q2 := 62) (q := 61) (n0 := 32) (n1 := 32) 189 (gd rfl) rfl rfl rfl rfl (Nat.le_of_ble_eq_true rfl) (cp_0 (in_c 0 rfl) rfl) (cp_0 (in_c 0 rfl) rfl) (cp_0 (in_c 32 rfl) rfl) (cp_1 (in_c 0 rfl) (in_c 32 rfl) rfl) (cp_1 (in_c 0 rfl) (in_c 32 rfl) rfl) hI166 rfl rfl rfl rfl (fun s186 hI186 hF186 cp186 => ?_)
            refine g_iconst 0 190 (gd rfl) rfl rfl ?_
            exact g_ireturn (gd rfl) rfl (nb01 (in_w 0 1 (in_c 0 rfl) rfl)) (hP _ _ ⟨s186, hI186, (fr_tr rfl (fr_tr rfl (fr_sI rfl hFc108) hF166) hF186), (Int32.ofInt 0), rfl, rfl, in_w 0 1 (in_c 0 rfl) rfl⟩)
          · skip
            have i169 := z_ne 1 1 c169 i166 rfl
            refine g_iconst 1 173 (gd rfl) rfl rfl ?_
            exact g_ireturn (gd rfl) rfl (nb01 (in_w 0 1 (in_c 1 rfl) rfl)) (hP _ _ ⟨s166, hI166, (fr_tr rfl (fr_sI rfl hFc108) hF166), (Int32.ofInt 1), rfl, rfl, in_w 0 1 (in_c 1 rfl) rfl⟩)
        · skip
          have i152x6 := r_le2 32 32 c152x6 (in_c 32 rfl) ro_2_1 rfl
          refine g_iconst (-1) 10 (gd rfl) rfl rfl ?_
          refine g_goto 21 (gd rfl) rfl ?_
          refine g_ireturn (gd rfl) rfl rfl (hp152 _ _ ?_)
          show GG _ _ _ _ _ _ _ _ [.int (Int32.ofInt (-1)), .ref (A 9), .ref (A 60)] _ _ _
          refine g_iload 157 (gd rfl) rfl rfl ?_
          refine g_iconst (-1) 158 (gd rfl) rfl rfl ?_
          refine g_ixor 159 (gd rfl) rfl (fun z158 e158 => ?_)
          refine g_iand 160 (gd rfl) rfl (fun z159 e159 => ?_)
          refine g_iload 162 (gd rfl) rfl rfl ?_
          refine g_iconst (-1) 163 (gd rfl) rfl rfl ?_
          refine g_ixor 164 (gd rfl) rfl (fun z163 e163 => ?_)
          refine g_iand 165 (gd rfl) rfl (fun z164 e164 => ?_)
          refine g_iconst 0 166 (gd rfl) rfl rfl ?_
          refine g_callv (X := _) (As := [.ref (A 9), .int z164, .int (Int32.ofInt 0)]) (r := []) (b := A 60) (q := 60) 169 (gd rfl) rfl rfl rfl rfl rfl (ww_o rfl) (Nat.le_of_ble_eq_true rfl) (Nat.zero_le _) (Nat.zero_le _) (k_46_60_9 (by omega) hI145 (in_w 0 33 (in_c 0 rfl) rfl)) (fun e u h => h) (fun v u h => ?_)
          obtain ⟨s166, hI166, hF166, z166, rfl, rfl, i166⟩ := h
          show GG _ _ _ _ _ _ _ _ [.int z166] _ _ _
          refine g_if_eq 172 174 (gd rfl) rfl rfl (fun c169 => ?_) (fun c169 => ?_)
          · skip
            have i169 := z_eq 0 0 c169 i166 rfl
            refine g_aload_n 175 (gd rfl) rfl rfl ?_
            refine g_getA (q2 := 62) 178 (gd rfl) rfl rfl rfl rfl ?_
            refine g_iconst 0 179 (gd rfl) rfl rfl ?_
            refine g_aload_n 180 (gd rfl) rfl rfl ?_
            refine g_getA (q2 := 61) 183 (gd rfl) rfl rfl rfl rfl ?_
            refine g_iconst 0 184 (gd rfl) rfl rfl ?_
            refine g_bipush 32 186 (gd rfl) rfl rfl ?_
            refine g_cpI (q2 := 62) (q := 61) (n0 := 32) (n1 := 32) 189 (gd rfl) rfl rfl rfl rfl (Nat.le_of_ble_eq_true rfl) (cp_0 (in_c 0 rfl) rfl) (cp_0 (in_c 0 rfl) rfl) (cp_0 (in_c 32 rfl) rfl) (cp_1 (in_c 0 rfl) (in_c 32 rfl) rfl) (cp_1 (in_c 0 rfl) (in_c 32 rfl) rfl) hI166 rfl rfl rfl rfl (fun s186 hI186 hF186 cp186 => ?_)
            refine g_iconst 0 190 (gd rfl) rfl rfl ?_
            exact g_ireturn (gd rfl) rfl (nb01 (in_w 0 1 (in_c 0 rfl) rfl)) (hP _ _ ⟨s186, hI186, (fr_tr rfl (fr_tr rfl (fr_sI rfl hFc108) hF166) hF186), (Int32.ofInt 0), rfl, rfl, in_w 0 1 (in_c 0 rfl) rfl⟩)
          · skip
            have i169 := z_ne 1 1 c169 i166 rfl
            refine g_iconst 1 173 (gd rfl) rfl rfl ?_
            exact g_ireturn (gd rfl) rfl (nb01 (in_w 0 1 (in_c 1 rfl) rfl)) (hP _ _ ⟨s166, hI166, (fr_tr rfl (fr_sI rfl hFc108) hF166), (Int32.ofInt 1), rfl, rfl, in_w 0 1 (in_c 1 rfl) rfl⟩)
      · skip
        have i114 := r_lt1 0 31 c114 j108_8 ro_60_3 rfl
        have i114a := r_lt2 1 32 c114 j108_8 ro_60_3 rfl
        refine g_aload_n 118 (gd rfl) rfl rfl ?_
        refine g_getA (q2 := 61) 121 (gd rfl) rfl rfl rfl rfl ?_
        refine g_iload 123 (gd rfl) rfl rfl ?_
        refine g_dup2 124 (gd rfl) rfl rfl rfl ?_
        refine g_iaload 125 (gd rfl) rfl (n := 32) rfl (in_ix i114 rfl) (fun z124 e124 => ?_)
        refine g_iload 127 (gd rfl) rfl rfl ?_
        refine g_iand 128 (gd rfl) rfl (fun z127 e127 => ?_)
        refine g_iastore 129 (gd rfl) rfl (n := 32) rfl (in_ix i114 rfl) ?_
        have hI128 := inv_sI (q := 61) (j := y108_8.toNatClampNeg) hIc108 rfl (in_w (-2147483648) 2147483647 (i_rng z127) rfl)
        refine g_iinc 132 (gd rfl) rfl rfl (Nat.le_of_ble_eq_true rfl) (fun z129 e129 => ?_)
        have i129 := in_add 1 32 e129 i114 (in_c 1 rfl) rfl rfl
        refine g_goto 108 (gd rfl) rfl ?_
        exact gg_w (by omega) (gg_f (gf_cons rfl (gf_cons rfl (gf_cons rfl (gf_cons rfl (gf_cons rfl (gf_cons rfl (gf_cons rfl (gf_cons rfl (gf_cons rfl gf_nil))))))))) (ih108 (sI sc108 61 y108_8.toNatClampNeg z127) y108_5 y108_6 y108_7 z129 hI128 (fr_sI rfl hFc108) (in_w 0 32 i129 rfl) (m_up mm108 (t_add e129 i114 (in_c 1 rfl) rfl) (in_w 1 1 (in_c 1 rfl) rfl))))
  refine g_enter2 (k := 54) (N := 30601) (by omega) rfl (Nat.le_of_ble_eq_true rfl) ?_
  refine g_iconst 1 1 (gd rfl) rfl rfl ?_
  refine g_iload_n 2 (gd rfl) rfl rfl ?_
  refine g_ishl 3 (gd rfl) rfl (fun z2 e2 => ?_)
  refine g_istore 5 (gd rfl) rfl (Nat.le_of_ble_eq_true rfl) ?_
  refine g_iload 7 (gd rfl) rfl rfl ?_
  refine g_iconst 1 8 (gd rfl) rfl rfl ?_
  refine g_isub 9 (gd rfl) rfl (fun z8 e8 => ?_)
  refine g_istore 11 (gd rfl) rfl (Nat.le_of_ble_eq_true rfl) ?_
  refine g_aload_n 12 (gd rfl) rfl rfl ?_
  refine g_getA (q2 := 61) 15 (gd rfl) rfl rfl rfl rfl ?_
  refine g_iload_n 16 (gd rfl) rfl rfl ?_
  refine g_iaload 17 (gd rfl) rfl (n := 32) rfl (in_ix h3 rfl) (fun z16 e16 => ?_)
  refine g_aload_n 18 (gd rfl) rfl rfl ?_
  refine g_getA (q2 := 9) 21 (gd rfl) rfl rfl rfl rfl ?_
  refine g_iload_n 22 (gd rfl) rfl rfl ?_
  refine g_iaload 23 (gd rfl) rfl (n := 32) rfl (in_ix h2 rfl) (fun z22 e22 => ?_)
  refine g_iand 24 (gd rfl) rfl (fun z23 e23 => ?_)
  refine g_iload 26 (gd rfl) rfl rfl ?_
  refine g_iand 27 (gd rfl) rfl (fun z26 e26 => ?_)
  refine g_if_eq 30 32 (gd rfl) rfl rfl (fun c27 => ?_) (fun c27 => ?_)
  · skip
    have i27 := z_eq 0 0 c27 (i_rng z26) rfl
    refine g_aload_n 33 (gd rfl) rfl rfl ?_
    refine g_getA (q2 := 9) 36 (gd rfl) rfl rfl rfl rfl ?_
    refine g_iload 38 (gd rfl) rfl rfl ?_
    refine g_aload_n 39 (gd rfl) rfl rfl ?_
    refine g_getA (q2 := 61) 42 (gd rfl) rfl rfl rfl rfl ?_
    refine g_iload_n 43 (gd rfl) rfl rfl ?_
    refine g_iaload 44 (gd rfl) rfl (n := 32) rfl (in_ix h3 rfl) (fun z43 e43 => ?_)
    have q43 : z16 = z43 := (e16).trans e43.symm
    subst q43
    refine g_aload_n 45 (gd rfl) rfl rfl ?_
    refine g_getA (q2 := 61) 48 (gd rfl) rfl rfl rfl rfl ?_
    refine g_iload 50 (gd rfl) rfl rfl ?_
    refine g_iaload 51 (gd rfl) rfl (n := 32) rfl (in_ix h4 rfl) (fun z50 e50 => ?_)
    refine g_ior 52 (gd rfl) rfl (fun z51 e51 => ?_)
    refine g_calls (As := [.ref (A 9), .int z2, .int z51]) (r := []) 55 (gd rfl) rfl rfl rfl rfl rfl (Nat.le_of_ble_eq_true rfl) (Nat.zero_le _) (Nat.zero_le _) (k_266_9 (by omega) hI ) (fun v u h => ?_)
    obtain ⟨z52, rfl, rfl, i52, p52⟩ := h
    show GG _ _ _ _ _ _ _ _ [.int z52] _ _ _
    refine g_istore 57 (gd rfl) rfl (Nat.le_of_ble_eq_true rfl) ?_
    refine g_iload 59 (gd rfl) rfl rfl ?_
    refine g_iload 61 (gd rfl) rfl rfl ?_
    refine g_iand 62 (gd rfl) rfl (fun z61 e61 => ?_)
    refine g_if_ne 65 90 (gd rfl) rfl rfl (fun c62 => ?_) (fun c62 => ?_)
    · skip
      refine g_aload_n 91 (gd rfl) rfl rfl ?_
      refine g_getA (q2 := 61) 94 (gd rfl) rfl rfl rfl rfl ?_
      refine g_iconst 0 95 (gd rfl) rfl rfl ?_
      refine g_aload_n 96 (gd rfl) rfl rfl ?_
      refine g_getA (q2 := 62) 99 (gd rfl) rfl rfl rfl rfl ?_
      refine g_iconst 0 100 (gd rfl) rfl rfl ?_
      refine g_bipush 32 102 (gd rfl) rfl rfl ?_
      refine g_cpI (q2 := 61) (q := 62) (n0 := 32) (n1 := 32) 105 (gd rfl) rfl rfl rfl rfl (Nat.le_of_ble_eq_true rfl) (cp_0 (in_c 0 rfl) rfl) (cp_0 (in_c 0 rfl) rfl) (cp_0 (in_c 32 rfl) rfl) (cp_1 (in_c 0 rfl) (in_c 32 rfl) rfl) (cp_1 (in_c 0 rfl) (in_c 32 rfl) rfl) hI rfl rfl rfl rfl (fun s102 hI102 hF102 cp102 => ?_)
      refine g_iconst 0 106 (gd rfl) rfl rfl ?_
      refine g_istore 108 (gd rfl) rfl (Nat.le_of_ble_eq_true rfl) ?_
      exact gg_w (by omega) (gg_f (gf_cons rfl (gf_cons rfl (gf_cons rfl (gf_cons rfl (gf_cons rfl (gf_cons rfl (gf_cons rfl (gf_cons rfl (gf_cons rfl gf_nil))))))))) (ct108 33 s102 z2 z8 z52 (Int32.ofInt 0) hI102 (fr_tr rfl fr_rf hF102) (in_w 0 32 (in_c 0 rfl) rfl) (m_in 33 (in_w 0 32 (in_c 0 rfl) rfl) rfl)))
    · skip
      have i62 := z_eq 0 0 c62 (i_rng z61) rfl
      refine g_aload_n 66 (gd rfl) rfl rfl ?_
      refine g_getA (q2 := 61) 69 (gd rfl) rfl rfl rfl rfl ?_
      refine g_iload_n 70 (gd rfl) rfl rfl ?_
      refine g_dup2 71 (gd rfl) rfl rfl rfl ?_
      refine g_iaload 72 (gd rfl) rfl (n := 32) rfl (in_ix h3 rfl) (fun z71 e71 => ?_)
      have q71 : z16 = z71 := (e16).trans e71.symm
      subst q71
      refine g_iload 74 (gd rfl) rfl rfl ?_
      refine g_ixor 75 (gd rfl) rfl (fun z74 e74 => ?_)
      refine g_iastore 76 (gd rfl) rfl (n := 32) rfl (in_ix h3 rfl) ?_
      have hI75 := inv_sI (q := 61) (j := x3.toNatClampNeg) hI rfl (in_w (-2147483648) 2147483647 (i_rng z74) rfl)
      refine g_aload_n 77 (gd rfl) rfl rfl ?_
      refine g_getA (q2 := 61) 80 (gd rfl) rfl rfl rfl rfl ?_
      refine g_iload 82 (gd rfl) rfl rfl ?_
      refine g_dup2 83 (gd rfl) rfl rfl rfl ?_
      refine g_iaload 84 (gd rfl) rfl (n := 32) rfl (in_ix h4 rfl) (fun z83 e83 => ?_)
      refine g_iload 86 (gd rfl) rfl rfl ?_
      refine g_ixor 87 (gd rfl) rfl (fun z86 e86 => ?_)
      refine g_iastore 88 (gd rfl) rfl (n := 32) rfl (in_ix h4 rfl) ?_
      have hI87 := inv_sI (q := 61) (j := x4.toNatClampNeg) hI75 rfl (in_w (-2147483648) 2147483647 (i_rng z86) rfl)
      refine g_iconst 1 89 (gd rfl) rfl rfl ?_
      exact g_ireturn (gd rfl) rfl (nb01 (in_w 0 1 (in_c 1 rfl) rfl)) (hP _ _ ⟨(sI (sI s 61 x3.toNatClampNeg z74) 61 x4.toNatClampNeg z86), hI87, (fr_sI rfl (fr_sI rfl fr_rf)), (Int32.ofInt 1), rfl, rfl, in_w 0 1 (in_c 1 rfl) rfl⟩)
  · skip
    refine g_iconst 0 31 (gd rfl) rfl rfl ?_
    exact g_ireturn (gd rfl) rfl (nb01 (in_w 0 1 (in_c 0 rfl) rfl)) (hP _ _ ⟨s, hI, fr_rf, (Int32.ofInt 0), rfl, rfl, in_w 0 1 (in_c 0 rfl) rfl⟩)
