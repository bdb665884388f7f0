/-! methods, by vc.py -/
def fm_125_1 : FM := ([3, 4, 5, 6, 7, 8, 30], [], [(2, 0), (2, 1), (2, 2), (2, 3), (30, 0)], [])
/-- GraphHouse$Ledger.addArc -/
theorem k_125_1 {Z : AmZ} {A : Nat → Nat} {s : GS} {ex : va_W} {d : Nat} {X : AmX} {x1 : Int32} {x2 : Int32} {x3 : Int32} {x4 : Int32} {x5 : Int32} {u_2_0 : Int32} {u_2_1 : Int32} {u_30_0 : Int32} (hd : 6 ≤ d) (hI : Inv s) (h1 : In x1 0 31) (h2 : In x2 0 31) (h3 : In x3 (-1000000) 1000000) (h4 : In x4 0 1000000) (h5 : In x5 0 25) (e_2_0 : u_2_0 = s.2.2.1 2 0) (e_2_1 : u_2_1 = s.2.2.1 2 1) (e_30_0 : u_30_0 = s.2.2.1 30 0) (r_2_0 : In u_2_0 0 3999) (p_0 : (x1).toInt < (u_2_1).toInt) (p_1 : (x2).toInt < (u_2_1).toInt) (q_0 : KL s) : GC Z d 125 [.ref (A 1), .int x1, .int x2, .int x3, .int x4, .int x5] (WW Z A s ++ ex) (lc s) (lsl s) (fun v u => ∃ a : Nat, ∃ t : GS, Inv t ∧ Fr fm_125_1 s t ∧ ((s.2.2.1 2 0).toInt ≤ (t.2.2.1 2 0).toInt) ∧ ∃ z : Int32, v = some (.int z) ∧ u = WW Z (ax A 30 a) t ++ ex ∧ In z (-3) 159 ∧ (KL t) ∧ ((z).toInt ≠ -3 → (t.2.2.1 30 0).toInt = nln s) ∧ ((z).toInt ≠ -3 → (t.2.2.1 2 0).toInt = (s.2.2.1 2 0).toInt + 1) ∧ (∀ k : Nat, (k : Int) < 7 * (s.2.2.1 2 0).toInt → t.1 30 k = s.1 30 k)) X := by
  intro post xp hP hX
  refine g_enter2 (k := 125) (N := 900) (by omega) rfl (Nat.le_of_ble_eq_true rfl) ?_
  refine g_aload_n 1 (gd rfl) rfl rfl ?_
  refine g_getA (q2 := 2) 4 (gd rfl) rfl rfl rfl rfl ?_
  refine g_callv (X := _) (As := []) (r := []) (b := A 2) (q := 2) 7 (gd rfl) rfl rfl rfl rfl rfl (ww_o rfl) (Nat.le_of_ble_eq_true rfl) (Nat.zero_le _) (Nat.zero_le _) (k_101_2 (by omega) hI ) (fun e u h => h) (fun v u h => ?_)
  obtain ⟨z4, rfl, rfl, i4⟩ := h
  show GG _ _ _ _ _ _ _ _ [.int z4] _ _ _
  refine g_istore 9 (gd rfl) rfl (Nat.le_of_ble_eq_true rfl) ?_
  refine g_iload 11 (gd rfl) rfl rfl ?_
  refine g_iconst (-1) 12 (gd rfl) rfl rfl ?_
  refine g_cmp_ne 15 18 (gd rfl) rfl rfl (fun c12 => ?_) (fun c12 => ?_)
  · skip
    have i12 := r_ne1 0 159 c12 i4 (in_c (-1) rfl) rfl
    refine g_aload_n 19 (gd rfl) rfl rfl ?_
    refine g_callv (X := _) (As := []) (r := []) (b := A 1) (q := 1) 22 (gd rfl) rfl rfl rfl rfl rfl (ww_o rfl) (Nat.le_of_ble_eq_true rfl) (Nat.le_of_eq (lc_cg ((show Fr ([], [], [], []) s s from fr_rf).2.2.1 30 0 rfl) ((show Fr ([], [], [], []) s s from fr_rf).2.2.1 2 0 rfl)).1) (Nat.le_of_eq (lc_cg ((show Fr ([], [], [], []) s s from fr_rf).2.2.1 30 0 rfl) ((show Fr ([], [], [], []) s s from fr_rf).2.2.1 2 0 rfl)).2.1) (k_130_1p (by omega) hI e_2_0 (in_w 0 3999 r_2_0 rfl)) (fun e u h => h) (fun v u h => ?_)
    obtain ⟨a19, s19, hI19, hF19, n19, z19, rfl, rfl, i19, p19, p19a, p19b⟩ := h
    obtain ⟨z19a, e19⟩ : ∃ w, w = s19.2.2.1 30 0 := ⟨_, rfl⟩
    have i19a := inv_F hI19 448 28000 rfl e19
    rw [← (show u_2_0 = s.2.2.1 2 0 from e_2_0)] at n19
    rw [← (show z19a = s19.2.2.1 30 0 from e19)] at n19
    show GG _ _ _ _ _ _ _ _ [.int z19] _ _ _
    have hz19 := p19; rw [← e_2_0] at hz19
    refine g_istore 24 (gd rfl) rfl (Nat.le_of_ble_eq_true rfl) ?_
    refine g_aload_n 25 (gd rfl) rfl rfl ?_
    refine g_getA (A := (ax A 30 a19)) (q := 1) (q2 := 30) 28 (gd rfl) rfl rfl rfl rfl ?_
    refine g_iload 30 (gd rfl) rfl rfl ?_
    refine g_iconst 1 31 (gd rfl) rfl rfl ?_
    have hx31 : vp_in z19 (s19.2.2.1 30 0).toNatClampNeg := lg_in (by have a0 := (inv_F hI 448 28000 rfl e_30_0); unfold In at a0; have a1 := (inv_F hI 0 32 rfl e_2_1); unfold In at a1; have a2 := r_2_0; unfold In at a2; have a3 := h5; unfold In at a3; have a4 := h4; unfold In at a4; have a5 := h3; unfold In at a5; have a6 := h2; unfold In at a6; have a7 := h1; unfold In at a7; have a8 := i19; unfold In at a8; have a9 := i12; unfold In at a9; have a10 := i19a; unfold In at a10; omega) (by rw [← (show z19a = s19.2.2.1 30 0 from e19)]; have a0 := (inv_F hI 448 28000 rfl e_30_0); unfold In at a0; have a1 := (inv_F hI 0 32 rfl e_2_1); unfold In at a1; have a2 := r_2_0; unfold In at a2; have a3 := h5; unfold In at a3; have a4 := h4; unfold In at a4; have a5 := h3; unfold In at a5; have a6 := h2; unfold In at a6; have a7 := h1; unfold In at a7; have a8 := i19; unfold In at a8; have a9 := i12; unfold In at a9; have a10 := i19a; unfold In at a10; omega)
    refine g_lgstore (A := (ax A 30 a19)) 32 (gd rfl) rfl hx31 ?_
    have hI31 := inv_sI (q := 30) (j := z19.toNatClampNeg) (x := (Int32.ofInt 1)) hI19 rfl (i_rng (Int32.ofInt 1))
    refine g_aload_n 33 (gd rfl) rfl rfl ?_
    refine g_getA (A := (ax A 30 a19)) (q := 1) (q2 := 30) 36 (gd rfl) rfl rfl rfl rfl ?_
    refine g_iload 38 (gd rfl) rfl rfl ?_
    refine g_iconst 1 39 (gd rfl) rfl rfl ?_
    refine g_iadd 40 (gd rfl) rfl (fun z39 e39 => ?_)
    have i39 := in_add 1 27994 e39 i19 (in_c 1 rfl) rfl rfl
    refine g_iload 42 (gd rfl) rfl rfl ?_
    have hx42 : vp_in z39 ((sI s19 30 z19.toNatClampNeg (Int32.ofInt 1)).2.2.1 30 0).toNatClampNeg := lg_in (by have a0 := (inv_F hI 448 28000 rfl e_30_0); unfold In at a0; have a1 := (inv_F hI 0 32 rfl e_2_1); unfold In at a1; have a2 := r_2_0; unfold In at a2; have a3 := h5; unfold In at a3; have a4 := h4; unfold In at a4; have a5 := h3; unfold In at a5; have a6 := h2; unfold In at a6; have a7 := h1; unfold In at a7; have a8 := i19; unfold In at a8; have a9 := i12; unfold In at a9; have a10 := i19a; unfold In at a10; have a11 := i39; unfold In at a11; have a12 := t_add e39 i19 (in_c 1 rfl) rfl; have a13 := (in_c 1 rfl); unfold In at a13; omega) (by rw [← (show z19a = (sI s19 30 z19.toNatClampNeg (Int32.ofInt 1)).2.2.1 30 0 from sI_F (e19))]; have a0 := (inv_F hI 448 28000 rfl e_30_0); unfold In at a0; have a1 := (inv_F hI 0 32 rfl e_2_1); unfold In at a1; have a2 := r_2_0; unfold In at a2; have a3 := h5; unfold In at a3; have a4 := h4; unfold In at a4; have a5 := h3; unfold In at a5; have a6 := h2; unfold In at a6; have a7 := h1; unfold In at a7; have a8 := i19; unfold In at a8; have a9 := i12; unfold In at a9; have a10 := i19a; unfold In at a10; have a11 := i39; unfold In at a11; have a12 := t_add e39 i19 (in_c 1 rfl) rfl; have a13 := (in_c 1 rfl); unfold In at a13; omega)
    refine g_lgstore (A := (ax A 30 a19)) 43 (gd rfl) rfl hx42 ?_
    have hI42 := inv_sI (q := 30) (j := z39.toNatClampNeg) (x := z4) hI31 rfl (i_rng z4)
    refine g_aload_n 44 (gd rfl) rfl rfl ?_
    refine g_getA (A := (ax A 30 a19)) (q := 1) (q2 := 30) 47 (gd rfl) rfl rfl rfl rfl ?_
    refine g_iload 49 (gd rfl) rfl rfl ?_
    refine g_iconst 2 50 (gd rfl) rfl rfl ?_
    refine g_iadd 51 (gd rfl) rfl (fun z50 e50 => ?_)
    have i50 := in_add 2 27995 e50 i19 (in_c 2 rfl) rfl rfl
    refine g_iload_n 52 (gd rfl) rfl rfl ?_
    have hx52 : vp_in z50 ((sI (sI s19 30 z19.toNatClampNeg (Int32.ofInt 1)) 30 z39.toNatClampNeg z4).2.2.1 30 0).toNatClampNeg := lg_in (by have a0 := (inv_F hI 448 28000 rfl e_30_0); unfold In at a0; have a1 := (inv_F hI 0 32 rfl e_2_1); unfold In at a1; have a2 := r_2_0; unfold In at a2; have a3 := h5; unfold In at a3; have a4 := h4; unfold In at a4; have a5 := h3; unfold In at a5; have a6 := h2; unfold In at a6; have a7 := h1; unfold In at a7; have a8 := i19; unfold In at a8; have a9 := i12; unfold In at a9; have a10 := i19a; unfold In at a10; have a11 := i50; unfold In at a11; have a12 := t_add e50 i19 (in_c 2 rfl) rfl; have a13 := (in_c 2 rfl); unfold In at a13; have a14 := i39; unfold In at a14; have a15 := t_add e39 i19 (in_c 1 rfl) rfl; have a16 := (in_c 1 rfl); unfold In at a16; omega) (by rw [← (show z19a = (sI (sI s19 30 z19.toNatClampNeg (Int32.ofInt 1)) 30 z39.toNatClampNeg z4).2.2.1 30 0 from sI_F (sI_F (e19)))]; have a0 := (inv_F hI 448 28000 rfl e_30_0); unfold In at a0; have a1 := (inv_F hI 0 32 rfl e_2_1); unfold In at a1; have a2 := r_2_0; unfold In at a2; have a3 := h5; unfold In at a3; have a4 := h4; unfold In at a4; have a5 := h3; unfold In at a5; have a6 := h2; unfold In at a6; have a7 := h1; unfold In at a7; have a8 := i19; unfold In at a8; have a9 := i12; unfold In at a9; have a10 := i19a; unfold In at a10; have a11 := i50; unfold In at a11; have a12 := t_add e50 i19 (in_c 2 rfl) rfl; have a13 := (in_c 2 rfl); unfold In at a13; have a14 := i39; unfold In at a14; have a15 := t_add e39 i19 (in_c 1 rfl) rfl; have a16 := (in_c 1 rfl); unfold In at a16; omega)
    refine g_lgstore (A := (ax A 30 a19)) 53 (gd rfl) rfl hx52 ?_
    have hI52 := inv_sI (q := 30) (j := z50.toNatClampNeg) (x := x1) hI42 rfl (i_rng x1)
    refine g_aload_n 54 (gd rfl) rfl rfl ?_
    refine g_getA (A := (ax A 30 a19)) (q := 1) (q2 := 30) 57 (gd rfl) rfl rfl rfl rfl ?_
    refine g_iload 59 (gd rfl) rfl rfl ?_
    refine g_iconst 3 60 (gd rfl) rfl rfl ?_
    refine g_iadd 61 (gd rfl) rfl (fun z60 e60 => ?_)
    have i60 := in_add 3 27996 e60 i19 (in_c 3 rfl) rfl rfl
    refine g_iload_n 62 (gd rfl) rfl rfl ?_
    have hx62 : vp_in z60 ((sI (sI (sI s19 30 z19.toNatClampNeg (Int32.ofInt 1)) 30 z39.toNatClampNeg z4) 30 z50.toNatClampNeg x1).2.2.1 30 0).toNatClampNeg := lg_in (by have a0 := (inv_F hI 448 28000 rfl e_30_0); unfold In at a0; have a1 := (inv_F hI 0 32 rfl e_2_1); unfold In at a1; have a2 := r_2_0; unfold In at a2; have a3 := h5; unfold In at a3; have a4 := h4; unfold In at a4; have a5 := h3; unfold In at a5; have a6 := h2; unfold In at a6; have a7 := h1; unfold In at a7; have a8 := i19; unfold In at a8; have a9 := i12; unfold In at a9; have a10 := i19a; unfold In at a10; have a11 := i60; unfold In at a11; have a12 := t_add e60 i19 (in_c 3 rfl) rfl; have a13 := (in_c 3 rfl); unfold In at a13; have a14 := i50; unfold In at a14; have a15 := t_add e50 i19 (in_c 2 rfl) rfl; have a16 := (in_c 2 rfl); unfold In at a16; have a17 := i39; unfold In at a17; have a18 := t_add e39 i19 (in_c 1 rfl) rfl; have a19 := (in_c 1 rfl); unfold In at a19; omega) (by rw [← (show z19a = (sI (sI (sI s19 30 z19.toNatClampNeg (Int32.ofInt 1)) 30 z39.toNatClampNeg z4) 30 z50.toNatClampNeg x1).2.2.1 30 0 from sI_F (sI_F (sI_F (e19))))]; have a0 := (inv_F hI 448 28000 rfl e_30_0); unfold In at a0; have a1 := (inv_F hI 0 32 rfl e_2_1); unfold In at a1; have a2 := r_2_0; unfold In at a2; have a3 := h5; unfold In at a3; have a4 := h4; unfold In at a4; have a5 := h3; unfold In at a5; have a6 := h2; unfold In at a6; have a7 := h1; unfold In at a7; have a8 := i19; unfold In at a8; have a9 := i12; unfold In at a9; have a10 := i19a; unfold In at a10; have a11 := i60; unfold In at a11; have a12 := t_add e60 i19 (in_c 3 rfl) rfl; have a13 := (in_c 3 rfl); unfold In at a13; have a14 := i50; unfold In at a14; have a15 := t_add e50 i19 (in_c 2 rfl) rfl; have a16 := (in_c 2 rfl); unfold In at a16; have a17 := i39; unfold In at a17; have a18 := t_add e39 i19 (in_c 1 rfl) rfl; have a19 := (in_c 1 rfl); unfold In at a19; omega)
    refine g_lgstore (A := (ax A 30 a19)) 63 (gd rfl) rfl hx62 ?_
    have hI62 := inv_sI (q := 30) (j := z60.toNatClampNeg) (x := x2) hI52 rfl (i_rng x2)
    refine g_aload_n 64 (gd rfl) rfl rfl ?_
    refine g_getA (A := (ax A 30 a19)) (q := 1) (q2 := 30) 67 (gd rfl) rfl rfl rfl rfl ?_
    refine g_iload 69 (gd rfl) rfl rfl ?_
    refine g_iconst 4 70 (gd rfl) rfl rfl ?_
    refine g_iadd 71 (gd rfl) rfl (fun z70 e70 => ?_)
    have i70 := in_add 4 27997 e70 i19 (in_c 4 rfl) rfl rfl
    refine g_iload_n 72 (gd rfl) rfl rfl ?_
    have hx72 : vp_in z70 ((sI (sI (sI (sI s19 30 z19.toNatClampNeg (Int32.ofInt 1)) 30 z39.toNatClampNeg z4) 30 z50.toNatClampNeg x1) 30 z60.toNatClampNeg x2).2.2.1 30 0).toNatClampNeg := lg_in (by have a0 := (inv_F hI 448 28000 rfl e_30_0); unfold In at a0; have a1 := (inv_F hI 0 32 rfl e_2_1); unfold In at a1; have a2 := r_2_0; unfold In at a2; have a3 := h5; unfold In at a3; have a4 := h4; unfold In at a4; have a5 := h3; unfold In at a5; have a6 := h2; unfold In at a6; have a7 := h1; unfold In at a7; have a8 := i19; unfold In at a8; have a9 := i12; unfold In at a9; have a10 := i19a; unfold In at a10; have a11 := i70; unfold In at a11; have a12 := t_add e70 i19 (in_c 4 rfl) rfl; have a13 := (in_c 4 rfl); unfold In at a13; have a14 := i60; unfold In at a14; have a15 := t_add e60 i19 (in_c 3 rfl) rfl; have a16 := (in_c 3 rfl); unfold In at a16; have a17 := i50; unfold In at a17; have a18 := t_add e50 i19 (in_c 2 rfl) rfl; have a19 := (in_c 2 rfl); unfold In at a19; have a20 := i39; unfold In at a20; have a21 := t_add e39 i19 (in_c 1 rfl) rfl; have a22 := (in_c 1 rfl); unfold In at a22; omega) (by rw [← (show z19a = (sI (sI (sI (sI s19 30 z19.toNatClampNeg (Int32.ofInt 1)) 30 z39.toNatClampNeg z4) 30 z50.toNatClampNeg x1) 30 z60.toNatClampNeg x2).2.2.1 30 0 from sI_F (sI_F (sI_F (sI_F (e19)))))]; have a0 := (inv_F hI 448 28000 rfl e_30_0); unfold In at a0; have a1 := (inv_F hI 0 32 rfl e_2_1); unfold In at a1; have a2 := r_2_0; unfold In at a2; have a3 := h5; unfold In at a3; have a4 := h4; unfold In at a4; have a5 := h3; unfold In at a5; have a6 := h2; unfold In at a6; have a7 := h1; unfold In at a7; have a8 := i19; unfold In at a8; have a9 := i12; unfold In at a9; have a10 := i19a; unfold In at a10; have a11 := i70; unfold In at a11; have a12 := t_add e70 i19 (in_c 4 rfl) rfl; have a13 := (in_c 4 rfl); unfold In at a13; have a14 := i60; unfold In at a14; have a15 := t_add e60 i19 (in_c 3 rfl) rfl; have a16 := (in_c 3 rfl); unfold In at a16; have a17 := i50; unfold In at a17; have a18 := t_add e50 i19 (in_c 2 rfl) rfl; have a19 := (in_c 2 rfl); unfold In at a19; have a20 := i39; unfold In at a20; have a21 := t_add e39 i19 (in_c 1 rfl) rfl; have a22 := (in_c 1 rfl); unfold In at a22; omega)
    refine g_lgstore (A := (ax A 30 a19)) 73 (gd rfl) rfl hx72 ?_
    have hI72 := inv_sI (q := 30) (j := z70.toNatClampNeg) (x := x3) hI62 rfl (i_rng x3)
    refine g_aload_n 74 (gd rfl) rfl rfl ?_
    refine g_getA (A := (ax A 30 a19)) (q := 1) (q2 := 30) 77 (gd rfl) rfl rfl rfl rfl ?_
    refine g_iload 79 (gd rfl) rfl rfl ?_
    refine g_iconst 5 80 (gd rfl) rfl rfl ?_
    refine g_iadd 81 (gd rfl) rfl (fun z80 e80 => ?_)
    have i80 := in_add 5 27998 e80 i19 (in_c 5 rfl) rfl rfl
    refine g_iload 83 (gd rfl) rfl rfl ?_
    have hx83 : vp_in z80 ((sI (sI (sI (sI (sI s19 30 z19.toNatClampNeg (Int32.ofInt 1)) 30 z39.toNatClampNeg z4) 30 z50.toNatClampNeg x1) 30 z60.toNatClampNeg x2) 30 z70.toNatClampNeg x3).2.2.1 30 0).toNatClampNeg := lg_in (by have a0 := (inv_F hI 448 28000 rfl e_30_0); unfold In at a0; have a1 := (inv_F hI 0 32 rfl e_2_1); unfold In at a1; have a2 := r_2_0; unfold In at a2; have a3 := h5; unfold In at a3; have a4 := h4; unfold In at a4; have a5 := h3; unfold In at a5; have a6 := h2; unfold In at a6; have a7 := h1; unfold In at a7; have a8 := i19; unfold In at a8; have a9 := i12; unfold In at a9; have a10 := i19a; unfold In at a10; have a11 := i80; unfold In at a11; have a12 := t_add e80 i19 (in_c 5 rfl) rfl; have a13 := (in_c 5 rfl); unfold In at a13; have a14 := i70; unfold In at a14; have a15 := t_add e70 i19 (in_c 4 rfl) rfl; have a16 := (in_c 4 rfl); unfold In at a16; have a17 := i60; unfold In at a17; have a18 := t_add e60 i19 (in_c 3 rfl) rfl; have a19 := (in_c 3 rfl); unfold In at a19; have a20 := i50; unfold In at a20; have a21 := t_add e50 i19 (in_c 2 rfl) rfl; have a22 := (in_c 2 rfl); unfold In at a22; have a23 := i39; unfold In at a23; have a24 := t_add e39 i19 (in_c 1 rfl) rfl; have a25 := (in_c 1 rfl); unfold In at a25; omega) (by rw [← (show z19a = (sI (sI (sI (sI (sI s19 30 z19.toNatClampNeg (Int32.ofInt 1)) 30 z39.toNatClampNeg z4) 30 z50.toNatClampNeg x1) 30 z60.toNatClampNeg x2) 30 z70.toNatClampNeg x3).2.2.1 30 0 from sI_F (sI_F (sI_F (sI_F (sI_F (e19))))))]; have a0 := (inv_F hI 448 28000 rfl e_30_0); unfold In at a0; have a1 := (inv_F hI 0 32 rfl e_2_1); unfold In at a1; have a2 := r_2_0; unfold In at a2; have a3 := h5; unfold In at a3; have a4 := h4; unfold In at a4; have a5 := h3; unfold In at a5; have a6 := h2; unfold In at a6; have a7 := h1; unfold In at a7; have a8 := i19; unfold In at a8; have a9 := i12; unfold In at a9; have a10 := i19a; unfold In at a10; have a11 := i80; unfold In at a11; have a12 := t_add e80 i19 (in_c 5 rfl) rfl; have a13 := (in_c 5 rfl); unfold In at a13; have a14 := i70; unfold In at a14; have a15 := t_add e70 i19 (in_c 4 rfl) rfl; have a16 := (in_c 4 rfl); unfold In at a16; have a17 := i60; unfold In at a17; have a18 := t_add e60 i19 (in_c 3 rfl) rfl; have a19 := (in_c 3 rfl); unfold In at a19; have a20 := i50; unfold In at a20; have a21 := t_add e50 i19 (in_c 2 rfl) rfl; have a22 := (in_c 2 rfl); unfold In at a22; have a23 := i39; unfold In at a23; have a24 := t_add e39 i19 (in_c 1 rfl) rfl; have a25 := (in_c 1 rfl); unfold In at a25; omega)
    refine g_lgstore (A := (ax A 30 a19)) 84 (gd rfl) rfl hx83 ?_
    have hI83 := inv_sI (q := 30) (j := z80.toNatClampNeg) (x := x4) hI72 rfl (i_rng x4)
    refine g_aload_n 85 (gd rfl) rfl rfl ?_
    refine g_getA (A := (ax A 30 a19)) (q := 1) (q2 := 30) 88 (gd rfl) rfl rfl rfl rfl ?_
    refine g_iload 90 (gd rfl) rfl rfl ?_
    refine g_bipush 6 92 (gd rfl) rfl rfl ?_
    refine g_iadd 93 (gd rfl) rfl (fun z92 e92 => ?_)
    have i92 := in_add 6 27999 e92 i19 (in_c 6 rfl) rfl rfl
    refine g_iload 95 (gd rfl) rfl rfl ?_
    have hx95 : vp_in z92 ((sI (sI (sI (sI (sI (sI s19 30 z19.toNatClampNeg (Int32.ofInt 1)) 30 z39.toNatClampNeg z4) 30 z50.toNatClampNeg x1) 30 z60.toNatClampNeg x2) 30 z70.toNatClampNeg x3) 30 z80.toNatClampNeg x4).2.2.1 30 0).toNatClampNeg := lg_in (by have a0 := (inv_F hI 448 28000 rfl e_30_0); unfold In at a0; have a1 := (inv_F hI 0 32 rfl e_2_1); unfold In at a1; have a2 := r_2_0; unfold In at a2; have a3 := h5; unfold In at a3; have a4 := h4; unfold In at a4; have a5 := h3; unfold In at a5; have a6 := h2; unfold In at a6; have a7 := h1; unfold In at a7; have a8 := i19; unfold In at a8; have a9 := i12; unfold In at a9; have a10 := i19a; unfold In at a10; have a11 := i92; unfold In at a11; have a12 := t_add e92 i19 (in_c 6 rfl) rfl; have a13 := (in_c 6 rfl); unfold In at a13; have a14 := i80; unfold In at a14; have a15 := t_add e80 i19 (in_c 5 rfl) rfl; have a16 := (in_c 5 rfl); unfold In at a16; have a17 := i70; unfold In at a17; have a18 := t_add e70 i19 (in_c 4 rfl) rfl; have a19 := (in_c 4 rfl); unfold In at a19; have a20 := i60; unfold In at a20; have a21 := t_add e60 i19 (in_c 3 rfl) rfl; have a22 := (in_c 3 rfl); unfold In at a22; have a23 := i50; unfold In at a23; have a24 := t_add e50 i19 (in_c 2 rfl) rfl; have a25 := (in_c 2 rfl); unfold In at a25; have a26 := i39; unfold In at a26; have a27 := t_add e39 i19 (in_c 1 rfl) rfl; have a28 := (in_c 1 rfl); unfold In at a28; omega) (by rw [← (show z19a = (sI (sI (sI (sI (sI (sI s19 30 z19.toNatClampNeg (Int32.ofInt 1)) 30 z39.toNatClampNeg z4) 30 z50.toNatClampNeg x1) 30 z60.toNatClampNeg x2) 30 z70.toNatClampNeg x3) 30 z80.toNatClampNeg x4).2.2.1 30 0 from sI_F (sI_F (sI_F (sI_F (sI_F (sI_F (e19)))))))]; have a0 := (inv_F hI 448 28000 rfl e_30_0); unfold In at a0; have a1 := (inv_F hI 0 32 rfl e_2_1); unfold In at a1; have a2 := r_2_0; unfold In at a2; have a3 := h5; unfold In at a3; have a4 := h4; unfold In at a4; have a5 := h3; unfold In at a5; have a6 := h2; unfold In at a6; have a7 := h1; unfold In at a7; have a8 := i19; unfold In at a8; have a9 := i12; unfold In at a9; have a10 := i19a; unfold In at a10; have a11 := i92; unfold In at a11; have a12 := t_add e92 i19 (in_c 6 rfl) rfl; have a13 := (in_c 6 rfl); unfold In at a13; have a14 := i80; unfold In at a14; have a15 := t_add e80 i19 (in_c 5 rfl) rfl; have a16 := (in_c 5 rfl); unfold In at a16; have a17 := i70; unfold In at a17; have a18 := t_add e70 i19 (in_c 4 rfl) rfl; have a19 := (in_c 4 rfl); unfold In at a19; have a20 := i60; unfold In at a20; have a21 := t_add e60 i19 (in_c 3 rfl) rfl; have a22 := (in_c 3 rfl); unfold In at a22; have a23 := i50; unfold In at a23; have a24 := t_add e50 i19 (in_c 2 rfl) rfl; have a25 := (in_c 2 rfl); unfold In at a25; have a26 := i39; unfold In at a26; have a27 := t_add e39 i19 (in_c 1 rfl) rfl; have a28 := (in_c 1 rfl); unfold In at a28; omega)
    refine g_lgstore (A := (ax A 30 a19)) 96 (gd rfl) rfl hx95 ?_
    have hI95 := inv_sI (q := 30) (j := z92.toNatClampNeg) (x := x5) hI83 rfl (i_rng x5)
    refine g_aload_n 97 (gd rfl) rfl rfl ?_
    refine g_aload_n 98 (gd rfl) rfl rfl ?_
    refine g_getA (A := (ax A 30 a19)) (q := 1) (q2 := 2) 101 (gd rfl) rfl rfl rfl rfl ?_
    have hcz := q_0.2.2.2.1.1; rw [← e_2_1] at hcz
    have hpf : ∀ i, i < 7 * (s.2.2.1 2 0).toInt.toNat → s19.1 30 i = s.1 30 i := (fun i hi => p19a i (by have h8 := q_0.2.1; omega))
    have hrw : RW7 ((sI (sI (sI (sI (sI (sI (sI s19 30 z19.toNatClampNeg (Int32.ofInt 1)) 30 z39.toNatClampNeg z4) 30 z50.toNatClampNeg x1) 30 z60.toNatClampNeg x2) 30 z70.toNatClampNeg x3) 30 z80.toNatClampNeg x4) 30 z92.toNatClampNeg x5).1 30) (s.2.2.1 2 0).toInt.toNat := (by rw [sI_q, sI_q, sI_q, sI_q, sI_q, sI_q, sI_q, (show (z19).toNatClampNeg = 7 * (s.2.2.1 2 0).toInt.toNat from (by show (z19).toInt.toNat = _; rw [← e_2_0]; have a0 := (inv_F hI 448 28000 rfl e_30_0); unfold In at a0; have a1 := (inv_F hI 0 32 rfl e_2_1); unfold In at a1; have a2 := r_2_0; unfold In at a2; have a3 := h5; unfold In at a3; have a4 := h4; unfold In at a4; have a5 := h3; unfold In at a5; have a6 := h2; unfold In at a6; have a7 := h1; unfold In at a7; have a8 := i19; unfold In at a8; have a9 := i12; unfold In at a9; have a10 := i19a; unfold In at a10; have a11 := i92; unfold In at a11; have a12 := t_add e92 i19 (in_c 6 rfl) rfl; have a13 := (in_c 6 rfl); unfold In at a13; have a14 := i80; unfold In at a14; have a15 := t_add e80 i19 (in_c 5 rfl) rfl; have a16 := (in_c 5 rfl); unfold In at a16; have a17 := i70; unfold In at a17; have a18 := t_add e70 i19 (in_c 4 rfl) rfl; have a19 := (in_c 4 rfl); unfold In at a19; have a20 := i60; unfold In at a20; have a21 := t_add e60 i19 (in_c 3 rfl) rfl; have a22 := (in_c 3 rfl); unfold In at a22; have a23 := i50; unfold In at a23; have a24 := t_add e50 i19 (in_c 2 rfl) rfl; have a25 := (in_c 2 rfl); unfold In at a25; have a26 := i39; unfold In at a26; have a27 := t_add e39 i19 (in_c 1 rfl) rfl; have a28 := (in_c 1 rfl); unfold In at a28; omega)), (show (z39).toNatClampNeg = 7 * (s.2.2.1 2 0).toInt.toNat + 1 from (by show (z39).toInt.toNat = _; rw [← e_2_0]; have a0 := (inv_F hI 448 28000 rfl e_30_0); unfold In at a0; have a1 := (inv_F hI 0 32 rfl e_2_1); unfold In at a1; have a2 := r_2_0; unfold In at a2; have a3 := h5; unfold In at a3; have a4 := h4; unfold In at a4; have a5 := h3; unfold In at a5; have a6 := h2; unfold In at a6; have a7 := h1; unfold In at a7; have a8 := i19; unfold In at a8; have a9 := i12; unfold In at a9; have a10 := i19a; unfold In at a10; have a11 := i92; unfold In at a11; have a12 := t_add e92 i19 (in_c 6 rfl) rfl; have a13 := (in_c 6 rfl); unfold In at a13; have a14 := i80; unfold In at a14; have a15 := t_add e80 i19 (in_c 5 rfl) rfl; have a16 := (in_c 5 rfl); unfold In at a16; have a17 := i70; unfold In at a17; have a18 := t_add e70 i19 (in_c 4 rfl) rfl; have a19 := (in_c 4 rfl); unfold In at a19; have a20 := i60; unfold In at a20; have a21 := t_add e60 i19 (in_c 3 rfl) rfl; have a22 := (in_c 3 rfl); unfold In at a22; have a23 := i50; unfold In at a23; have a24 := t_add e50 i19 (in_c 2 rfl) rfl; have a25 := (in_c 2 rfl); unfold In at a25; have a26 := i39; unfold In at a26; have a27 := t_add e39 i19 (in_c 1 rfl) rfl; have a28 := (in_c 1 rfl); unfold In at a28; omega)), (show (z50).toNatClampNeg = 7 * (s.2.2.1 2 0).toInt.toNat + 2 from (by show (z50).toInt.toNat = _; rw [← e_2_0]; have a0 := (inv_F hI 448 28000 rfl e_30_0); unfold In at a0; have a1 := (inv_F hI 0 32 rfl e_2_1); unfold In at a1; have a2 := r_2_0; unfold In at a2; have a3 := h5; unfold In at a3; have a4 := h4; unfold In at a4; have a5 := h3; unfold In at a5; have a6 := h2; unfold In at a6; have a7 := h1; unfold In at a7; have a8 := i19; unfold In at a8; have a9 := i12; unfold In at a9; have a10 := i19a; unfold In at a10; have a11 := i92; unfold In at a11; have a12 := t_add e92 i19 (in_c 6 rfl) rfl; have a13 := (in_c 6 rfl); unfold In at a13; have a14 := i80; unfold In at a14; have a15 := t_add e80 i19 (in_c 5 rfl) rfl; have a16 := (in_c 5 rfl); unfold In at a16; have a17 := i70; unfold In at a17; have a18 := t_add e70 i19 (in_c 4 rfl) rfl; have a19 := (in_c 4 rfl); unfold In at a19; have a20 := i60; unfold In at a20; have a21 := t_add e60 i19 (in_c 3 rfl) rfl; have a22 := (in_c 3 rfl); unfold In at a22; have a23 := i50; unfold In at a23; have a24 := t_add e50 i19 (in_c 2 rfl) rfl; have a25 := (in_c 2 rfl); unfold In at a25; have a26 := i39; unfold In at a26; have a27 := t_add e39 i19 (in_c 1 rfl) rfl; have a28 := (in_c 1 rfl); unfold In at a28; omega)), (show (z60).toNatClampNeg = 7 * (s.2.2.1 2 0).toInt.toNat + 3 from (by show (z60).toInt.toNat = _; rw [← e_2_0]; have a0 := (inv_F hI 448 28000 rfl e_30_0); unfold In at a0; have a1 := (inv_F hI 0 32 rfl e_2_1); unfold In at a1; have a2 := r_2_0; unfold In at a2; have a3 := h5; unfold In at a3; have a4 := h4; unfold In at a4; have a5 := h3; unfold In at a5; have a6 := h2; unfold In at a6; have a7 := h1; unfold In at a7; have a8 := i19; unfold In at a8; have a9 := i12; unfold In at a9; have a10 := i19a; unfold In at a10; have a11 := i92; unfold In at a11; have a12 := t_add e92 i19 (in_c 6 rfl) rfl; have a13 := (in_c 6 rfl); unfold In at a13; have a14 := i80; unfold In at a14; have a15 := t_add e80 i19 (in_c 5 rfl) rfl; have a16 := (in_c 5 rfl); unfold In at a16; have a17 := i70; unfold In at a17; have a18 := t_add e70 i19 (in_c 4 rfl) rfl; have a19 := (in_c 4 rfl); unfold In at a19; have a20 := i60; unfold In at a20; have a21 := t_add e60 i19 (in_c 3 rfl) rfl; have a22 := (in_c 3 rfl); unfold In at a22; have a23 := i50; unfold In at a23; have a24 := t_add e50 i19 (in_c 2 rfl) rfl; have a25 := (in_c 2 rfl); unfold In at a25; have a26 := i39; unfold In at a26; have a27 := t_add e39 i19 (in_c 1 rfl) rfl; have a28 := (in_c 1 rfl); unfold In at a28; omega)), (show (z70).toNatClampNeg = 7 * (s.2.2.1 2 0).toInt.toNat + 4 from (by show (z70).toInt.toNat = _; rw [← e_2_0]; have a0 := (inv_F hI 448 28000 rfl e_30_0); unfold In at a0; have a1 := (inv_F hI 0 32 rfl e_2_1); unfold In at a1; have a2 := r_2_0; unfold In at a2; have a3 := h5; unfold In at a3; have a4 := h4; unfold In at a4; have a5 := h3; unfold In at a5; have a6 := h2; unfold In at a6; have a7 := h1; unfold In at a7; have a8 := i19; unfold In at a8; have a9 := i12; unfold In at a9; have a10 := i19a; unfold In at a10; have a11 := i92; unfold In at a11; have a12 := t_add e92 i19 (in_c 6 rfl) rfl; have a13 := (in_c 6 rfl); unfold In at a13; have a14 := i80; unfold In at a14; have a15 := t_add e80 i19 (in_c 5 rfl) rfl; have a16 := (in_c 5 rfl); unfold In at a16; have a17 := i70; unfold In at a17; have a18 := t_add e70 i19 (in_c 4 rfl) rfl; have a19 := (in_c 4 rfl); unfold In at a19; have a20 := i60; unfold In at a20; have a21 := t_add e60 i19 (in_c 3 rfl) rfl; have a22 := (in_c 3 rfl); unfold In at a22; have a23 := i50; unfold In at a23; have a24 := t_add e50 i19 (in_c 2 rfl) rfl; have a25 := (in_c 2 rfl); unfold In at a25; have a26 := i39; unfold In at a26; have a27 := t_add e39 i19 (in_c 1 rfl) rfl; have a28 := (in_c 1 rfl); unfold In at a28; omega)), (show (z80).toNatClampNeg = 7 * (s.2.2.1 2 0).toInt.toNat + 5 from (by show (z80).toInt.toNat = _; rw [← e_2_0]; have a0 := (inv_F hI 448 28000 rfl e_30_0); unfold In at a0; have a1 := (inv_F hI 0 32 rfl e_2_1); unfold In at a1; have a2 := r_2_0; unfold In at a2; have a3 := h5; unfold In at a3; have a4 := h4; unfold In at a4; have a5 := h3; unfold In at a5; have a6 := h2; unfold In at a6; have a7 := h1; unfold In at a7; have a8 := i19; unfold In at a8; have a9 := i12; unfold In at a9; have a10 := i19a; unfold In at a10; have a11 := i92; unfold In at a11; have a12 := t_add e92 i19 (in_c 6 rfl) rfl; have a13 := (in_c 6 rfl); unfold In at a13; have a14 := i80; unfold In at a14; have a15 := t_add e80 i19 (in_c 5 rfl) rfl; have a16 := (in_c 5 rfl); unfold In at a16; have a17 := i70; unfold In at a17; have a18 := t_add e70 i19 (in_c 4 rfl) rfl; have a19 := (in_c 4 rfl); unfold In at a19; have a20 := i60; unfold In at a20; have a21 := t_add e60 i19 (in_c 3 rfl) rfl; have a22 := (in_c 3 rfl); unfold In at a22; have a23 := i50; unfold In at a23; have a24 := t_add e50 i19 (in_c 2 rfl) rfl; have a25 := (in_c 2 rfl); unfold In at a25; have a26 := i39; unfold In at a26; have a27 := t_add e39 i19 (in_c 1 rfl) rfl; have a28 := (in_c 1 rfl); unfold In at a28; omega)), (show (z92).toNatClampNeg = 7 * (s.2.2.1 2 0).toInt.toNat + 6 from (by show (z92).toInt.toNat = _; rw [← e_2_0]; have a0 := (inv_F hI 448 28000 rfl e_30_0); unfold In at a0; have a1 := (inv_F hI 0 32 rfl e_2_1); unfold In at a1; have a2 := r_2_0; unfold In at a2; have a3 := h5; unfold In at a3; have a4 := h4; unfold In at a4; have a5 := h3; unfold In at a5; have a6 := h2; unfold In at a6; have a7 := h1; unfold In at a7; have a8 := i19; unfold In at a8; have a9 := i12; unfold In at a9; have a10 := i19a; unfold In at a10; have a11 := i92; unfold In at a11; have a12 := t_add e92 i19 (in_c 6 rfl) rfl; have a13 := (in_c 6 rfl); unfold In at a13; have a14 := i80; unfold In at a14; have a15 := t_add e80 i19 (in_c 5 rfl) rfl; have a16 := (in_c 5 rfl); unfold In at a16; have a17 := i70; unfold In at a17; have a18 := t_add e70 i19 (in_c 4 rfl) rfl; have a19 := (in_c 4 rfl); unfold In at a19; have a20 := i60; unfold In at a20; have a21 := t_add e60 i19 (in_c 3 rfl) rfl; have a22 := (in_c 3 rfl); unfold In at a22; have a23 := i50; unfold In at a23; have a24 := t_add e50 i19 (in_c 2 rfl) rfl; have a25 := (in_c 2 rfl); unfold In at a25; have a26 := i39; unfold In at a26; have a27 := t_add e39 i19 (in_c 1 rfl) rfl; have a28 := (in_c 1 rfl); unfold In at a28; omega))]; exact ar_rw i12 (by rw [cz7_cg (w := s.1 30) hpf, ← hcz]; exact ⟨h1.1, by have a0 := (inv_F hI 448 28000 rfl e_30_0); unfold In at a0; have a1 := (inv_F hI 0 32 rfl e_2_1); unfold In at a1; have a2 := r_2_0; unfold In at a2; have a3 := h5; unfold In at a3; have a4 := h4; unfold In at a4; have a5 := h3; unfold In at a5; have a6 := h2; unfold In at a6; have a7 := h1; unfold In at a7; have a8 := i19; unfold In at a8; have a9 := i12; unfold In at a9; have a10 := i19a; unfold In at a10; have a11 := i92; unfold In at a11; have a12 := t_add e92 i19 (in_c 6 rfl) rfl; have a13 := (in_c 6 rfl); unfold In at a13; have a14 := i80; unfold In at a14; have a15 := t_add e80 i19 (in_c 5 rfl) rfl; have a16 := (in_c 5 rfl); unfold In at a16; have a17 := i70; unfold In at a17; have a18 := t_add e70 i19 (in_c 4 rfl) rfl; have a19 := (in_c 4 rfl); unfold In at a19; have a20 := i60; unfold In at a20; have a21 := t_add e60 i19 (in_c 3 rfl) rfl; have a22 := (in_c 3 rfl); unfold In at a22; have a23 := i50; unfold In at a23; have a24 := t_add e50 i19 (in_c 2 rfl) rfl; have a25 := (in_c 2 rfl); unfold In at a25; have a26 := i39; unfold In at a26; have a27 := t_add e39 i19 (in_c 1 rfl) rfl; have a28 := (in_c 1 rfl); unfold In at a28; omega⟩) (by rw [cz7_cg (w := s.1 30) hpf, ← hcz]; exact ⟨h2.1, by have a0 := (inv_F hI 448 28000 rfl e_30_0); unfold In at a0; have a1 := (inv_F hI 0 32 rfl e_2_1); unfold In at a1; have a2 := r_2_0; unfold In at a2; have a3 := h5; unfold In at a3; have a4 := h4; unfold In at a4; have a5 := h3; unfold In at a5; have a6 := h2; unfold In at a6; have a7 := h1; unfold In at a7; have a8 := i19; unfold In at a8; have a9 := i12; unfold In at a9; have a10 := i19a; unfold In at a10; have a11 := i92; unfold In at a11; have a12 := t_add e92 i19 (in_c 6 rfl) rfl; have a13 := (in_c 6 rfl); unfold In at a13; have a14 := i80; unfold In at a14; have a15 := t_add e80 i19 (in_c 5 rfl) rfl; have a16 := (in_c 5 rfl); unfold In at a16; have a17 := i70; unfold In at a17; have a18 := t_add e70 i19 (in_c 4 rfl) rfl; have a19 := (in_c 4 rfl); unfold In at a19; have a20 := i60; unfold In at a20; have a21 := t_add e60 i19 (in_c 3 rfl) rfl; have a22 := (in_c 3 rfl); unfold In at a22; have a23 := i50; unfold In at a23; have a24 := t_add e50 i19 (in_c 2 rfl) rfl; have a25 := (in_c 2 rfl); unfold In at a25; have a26 := i39; unfold In at a26; have a27 := t_add e39 i19 (in_c 1 rfl) rfl; have a28 := (in_c 1 rfl); unfold In at a28; omega⟩) h3 h4 h5)
    have hpre : ∀ k : Nat, (k : Int) < 7 * (s.2.2.1 2 0).toInt → (sI (sI (sI (sI (sI (sI (sI s19 30 z19.toNatClampNeg (Int32.ofInt 1)) 30 z39.toNatClampNeg z4) 30 z50.toNatClampNeg x1) 30 z60.toNatClampNeg x2) 30 z70.toNatClampNeg x3) 30 z80.toNatClampNeg x4) 30 z92.toNatClampNeg x5).1 30 k = s.1 30 k := (fun k hk => by rw [sI_q, sI_q, sI_q, sI_q, sI_q, sI_q, sI_q, (show (z19).toNatClampNeg = 7 * (s.2.2.1 2 0).toInt.toNat from (by show (z19).toInt.toNat = _; rw [← e_2_0]; have a0 := (inv_F hI 448 28000 rfl e_30_0); unfold In at a0; have a1 := (inv_F hI 0 32 rfl e_2_1); unfold In at a1; have a2 := r_2_0; unfold In at a2; have a3 := h5; unfold In at a3; have a4 := h4; unfold In at a4; have a5 := h3; unfold In at a5; have a6 := h2; unfold In at a6; have a7 := h1; unfold In at a7; have a8 := i19; unfold In at a8; have a9 := i12; unfold In at a9; have a10 := i19a; unfold In at a10; have a11 := i92; unfold In at a11; have a12 := t_add e92 i19 (in_c 6 rfl) rfl; have a13 := (in_c 6 rfl); unfold In at a13; have a14 := i80; unfold In at a14; have a15 := t_add e80 i19 (in_c 5 rfl) rfl; have a16 := (in_c 5 rfl); unfold In at a16; have a17 := i70; unfold In at a17; have a18 := t_add e70 i19 (in_c 4 rfl) rfl; have a19 := (in_c 4 rfl); unfold In at a19; have a20 := i60; unfold In at a20; have a21 := t_add e60 i19 (in_c 3 rfl) rfl; have a22 := (in_c 3 rfl); unfold In at a22; have a23 := i50; unfold In at a23; have a24 := t_add e50 i19 (in_c 2 rfl) rfl; have a25 := (in_c 2 rfl); unfold In at a25; have a26 := i39; unfold In at a26; have a27 := t_add e39 i19 (in_c 1 rfl) rfl; have a28 := (in_c 1 rfl); unfold In at a28; omega)), (show (z39).toNatClampNeg = 7 * (s.2.2.1 2 0).toInt.toNat + 1 from (by show (z39).toInt.toNat = _; rw [← e_2_0]; have a0 := (inv_F hI 448 28000 rfl e_30_0); unfold In at a0; have a1 := (inv_F hI 0 32 rfl e_2_1); unfold In at a1; have a2 := r_2_0; unfold In at a2; have a3 := h5; unfold In at a3; have a4 := h4; unfold In at a4; have a5 := h3; unfold In at a5; have a6 := h2; unfold In at a6; have a7 := h1; unfold In at a7; have a8 := i19; unfold In at a8; have a9 := i12; unfold In at a9; have a10 := i19a; unfold In at a10; have a11 := i92; unfold In at a11; have a12 := t_add e92 i19 (in_c 6 rfl) rfl; have a13 := (in_c 6 rfl); unfold In at a13; have a14 := i80; unfold In at a14; have a15 := t_add e80 i19 (in_c 5 rfl) rfl; have a16 := (in_c 5 rfl); unfold In at a16; have a17 := i70; unfold In at a17; have a18 := t_add e70 i19 (in_c 4 rfl) rfl; have a19 := (in_c 4 rfl); unfold In at a19; have a20 := i60; unfold In at a20; have a21 := t_add e60 i19 (in_c 3 rfl) rfl; have a22 := (in_c 3 rfl); unfold In at a22; have a23 := i50; unfold In at a23; have a24 := t_add e50 i19 (in_c 2 rfl) rfl; have a25 := (in_c 2 rfl); unfold In at a25; have a26 := i39; unfold In at a26; have a27 := t_add e39 i19 (in_c 1 rfl) rfl; have a28 := (in_c 1 rfl); unfold In at a28; omega)), (show (z50).toNatClampNeg = 7 * (s.2.2.1 2 0).toInt.toNat + 2 from (by show (z50).toInt.toNat = _; rw [← e_2_0]; have a0 := (inv_F hI 448 28000 rfl e_30_0); unfold In at a0; have a1 := (inv_F hI 0 32 rfl e_2_1); unfold In at a1; have a2 := r_2_0; unfold In at a2; have a3 := h5; unfold In at a3; have a4 := h4; unfold In at a4; have a5 := h3; unfold In at a5; have a6 := h2; unfold In at a6; have a7 := h1; unfold In at a7; have a8 := i19; unfold In at a8; have a9 := i12; unfold In at a9; have a10 := i19a; unfold In at a10; have a11 := i92; unfold In at a11; have a12 := t_add e92 i19 (in_c 6 rfl) rfl; have a13 := (in_c 6 rfl); unfold In at a13; have a14 := i80; unfold In at a14; have a15 := t_add e80 i19 (in_c 5 rfl) rfl; have a16 := (in_c 5 rfl); unfold In at a16; have a17 := i70; unfold In at a17; have a18 := t_add e70 i19 (in_c 4 rfl) rfl; have a19 := (in_c 4 rfl); unfold In at a19; have a20 := i60; unfold In at a20; have a21 := t_add e60 i19 (in_c 3 rfl) rfl; have a22 := (in_c 3 rfl); unfold In at a22; have a23 := i50; unfold In at a23; have a24 := t_add e50 i19 (in_c 2 rfl) rfl; have a25 := (in_c 2 rfl); unfold In at a25; have a26 := i39; unfold In at a26; have a27 := t_add e39 i19 (in_c 1 rfl) rfl; have a28 := (in_c 1 rfl); unfold In at a28; omega)), (show (z60).toNatClampNeg = 7 * (s.2.2.1 2 0).toInt.toNat + 3 from (by show (z60).toInt.toNat = _; rw [← e_2_0]; have a0 := (inv_F hI 448 28000 rfl e_30_0); unfold In at a0; have a1 := (inv_F hI 0 32 rfl e_2_1); unfold In at a1; have a2 := r_2_0; unfold In at a2; have a3 := h5; unfold In at a3; have a4 := h4; unfold In at a4; have a5 := h3; unfold In at a5; have a6 := h2; unfold In at a6; have a7 := h1; unfold In at a7; have a8 := i19; unfold In at a8; have a9 := i12; unfold In at a9; have a10 := i19a; unfold In at a10; have a11 := i92; unfold In at a11; have a12 := t_add e92 i19 (in_c 6 rfl) rfl; have a13 := (in_c 6 rfl); unfold In at a13; have a14 := i80; unfold In at a14; have a15 := t_add e80 i19 (in_c 5 rfl) rfl; have a16 := (in_c 5 rfl); unfold In at a16; have a17 := i70; unfold In at a17; have a18 := t_add e70 i19 (in_c 4 rfl) rfl; have a19 := (in_c 4 rfl); unfold In at a19; have a20 := i60; unfold In at a20; have a21 := t_add e60 i19 (in_c 3 rfl) rfl; have a22 := (in_c 3 rfl); unfold In at a22; have a23 := i50; unfold In at a23; have a24 := t_add e50 i19 (in_c 2 rfl) rfl; have a25 := (in_c 2 rfl); unfold In at a25; have a26 := i39; unfold In at a26; have a27 := t_add e39 i19 (in_c 1 rfl) rfl; have a28 := (in_c 1 rfl); unfold In at a28; omega)), (show (z70).toNatClampNeg = 7 * (s.2.2.1 2 0).toInt.toNat + 4 from (by show (z70).toInt.toNat = _; rw [← e_2_0]; have a0 := (inv_F hI 448 28000 rfl e_30_0); unfold In at a0; have a1 := (inv_F hI 0 32 rfl e_2_1); unfold In at a1; have a2 := r_2_0; unfold In at a2; have a3 := h5; unfold In at a3; have a4 := h4; unfold In at a4; have a5 := h3; unfold In at a5; have a6 := h2; unfold In at a6; have a7 := h1; unfold In at a7; have a8 := i19; unfold In at a8; have a9 := i12; unfold In at a9; have a10 := i19a; unfold In at a10; have a11 := i92; unfold In at a11; have a12 := t_add e92 i19 (in_c 6 rfl) rfl; have a13 := (in_c 6 rfl); unfold In at a13; have a14 := i80; unfold In at a14; have a15 := t_add e80 i19 (in_c 5 rfl) rfl; have a16 := (in_c 5 rfl); unfold In at a16; have a17 := i70; unfold In at a17; have a18 := t_add e70 i19 (in_c 4 rfl) rfl; have a19 := (in_c 4 rfl); unfold In at a19; have a20 := i60; unfold In at a20; have a21 := t_add e60 i19 (in_c 3 rfl) rfl; have a22 := (in_c 3 rfl); unfold In at a22; have a23 := i50; unfold In at a23; have a24 := t_add e50 i19 (in_c 2 rfl) rfl; have a25 := (in_c 2 rfl); unfold In at a25; have a26 := i39; unfold In at a26; have a27 := t_add e39 i19 (in_c 1 rfl) rfl; have a28 := (in_c 1 rfl); unfold In at a28; omega)), (show (z80).toNatClampNeg = 7 * (s.2.2.1 2 0).toInt.toNat + 5 from (by show (z80).toInt.toNat = _; rw [← e_2_0]; have a0 := (inv_F hI 448 28000 rfl e_30_0); unfold In at a0; have a1 := (inv_F hI 0 32 rfl e_2_1); unfold In at a1; have a2 := r_2_0; unfold In at a2; have a3 := h5; unfold In at a3; have a4 := h4; unfold In at a4; have a5 := h3; unfold In at a5; have a6 := h2; unfold In at a6; have a7 := h1; unfold In at a7; have a8 := i19; unfold In at a8; have a9 := i12; unfold In at a9; have a10 := i19a; unfold In at a10; have a11 := i92; unfold In at a11; have a12 := t_add e92 i19 (in_c 6 rfl) rfl; have a13 := (in_c 6 rfl); unfold In at a13; have a14 := i80; unfold In at a14; have a15 := t_add e80 i19 (in_c 5 rfl) rfl; have a16 := (in_c 5 rfl); unfold In at a16; have a17 := i70; unfold In at a17; have a18 := t_add e70 i19 (in_c 4 rfl) rfl; have a19 := (in_c 4 rfl); unfold In at a19; have a20 := i60; unfold In at a20; have a21 := t_add e60 i19 (in_c 3 rfl) rfl; have a22 := (in_c 3 rfl); unfold In at a22; have a23 := i50; unfold In at a23; have a24 := t_add e50 i19 (in_c 2 rfl) rfl; have a25 := (in_c 2 rfl); unfold In at a25; have a26 := i39; unfold In at a26; have a27 := t_add e39 i19 (in_c 1 rfl) rfl; have a28 := (in_c 1 rfl); unfold In at a28; omega)), (show (z92).toNatClampNeg = 7 * (s.2.2.1 2 0).toInt.toNat + 6 from (by show (z92).toInt.toNat = _; rw [← e_2_0]; have a0 := (inv_F hI 448 28000 rfl e_30_0); unfold In at a0; have a1 := (inv_F hI 0 32 rfl e_2_1); unfold In at a1; have a2 := r_2_0; unfold In at a2; have a3 := h5; unfold In at a3; have a4 := h4; unfold In at a4; have a5 := h3; unfold In at a5; have a6 := h2; unfold In at a6; have a7 := h1; unfold In at a7; have a8 := i19; unfold In at a8; have a9 := i12; unfold In at a9; have a10 := i19a; unfold In at a10; have a11 := i92; unfold In at a11; have a12 := t_add e92 i19 (in_c 6 rfl) rfl; have a13 := (in_c 6 rfl); unfold In at a13; have a14 := i80; unfold In at a14; have a15 := t_add e80 i19 (in_c 5 rfl) rfl; have a16 := (in_c 5 rfl); unfold In at a16; have a17 := i70; unfold In at a17; have a18 := t_add e70 i19 (in_c 4 rfl) rfl; have a19 := (in_c 4 rfl); unfold In at a19; have a20 := i60; unfold In at a20; have a21 := t_add e60 i19 (in_c 3 rfl) rfl; have a22 := (in_c 3 rfl); unfold In at a22; have a23 := i50; unfold In at a23; have a24 := t_add e50 i19 (in_c 2 rfl) rfl; have a25 := (in_c 2 rfl); unfold In at a25; have a26 := i39; unfold In at a26; have a27 := t_add e39 i19 (in_c 1 rfl) rfl; have a28 := (in_c 1 rfl); unfold In at a28; omega)), ar_pre (by omega)]; exact hpf k (by omega))
    have hlen : 7 * (s.2.2.1 2 0).toInt + 7 ≤ ((sI (sI (sI (sI (sI (sI (sI s19 30 z19.toNatClampNeg (Int32.ofInt 1)) 30 z39.toNatClampNeg z4) 30 z50.toNatClampNeg x1) 30 z60.toNatClampNeg x2) 30 z70.toNatClampNeg x3) 30 z80.toNatClampNeg x4) 30 z92.toNatClampNeg x5).2.2.1 30 0).toInt := (by rw [← (show z19a = (sI (sI (sI (sI (sI (sI (sI s19 30 z19.toNatClampNeg (Int32.ofInt 1)) 30 z39.toNatClampNeg z4) 30 z50.toNatClampNeg x1) 30 z60.toNatClampNeg x2) 30 z70.toNatClampNeg x3) 30 z80.toNatClampNeg x4) 30 z92.toNatClampNeg x5).2.2.1 30 0 from sI_F (sI_F (sI_F (sI_F (sI_F (sI_F (sI_F (e19)))))))), ← e_2_0]; have a0 := (inv_F hI 448 28000 rfl e_30_0); unfold In at a0; have a1 := (inv_F hI 0 32 rfl e_2_1); unfold In at a1; have a2 := r_2_0; unfold In at a2; have a3 := h5; unfold In at a3; have a4 := h4; unfold In at a4; have a5 := h3; unfold In at a5; have a6 := h2; unfold In at a6; have a7 := h1; unfold In at a7; have a8 := i19; unfold In at a8; have a9 := i12; unfold In at a9; have a10 := i19a; unfold In at a10; have a11 := i92; unfold In at a11; have a12 := t_add e92 i19 (in_c 6 rfl) rfl; have a13 := (in_c 6 rfl); unfold In at a13; have a14 := i80; unfold In at a14; have a15 := t_add e80 i19 (in_c 5 rfl) rfl; have a16 := (in_c 5 rfl); unfold In at a16; have a17 := i70; unfold In at a17; have a18 := t_add e70 i19 (in_c 4 rfl) rfl; have a19 := (in_c 4 rfl); unfold In at a19; have a20 := i60; unfold In at a20; have a21 := t_add e60 i19 (in_c 3 rfl) rfl; have a22 := (in_c 3 rfl); unfold In at a22; have a23 := i50; unfold In at a23; have a24 := t_add e50 i19 (in_c 2 rfl) rfl; have a25 := (in_c 2 rfl); unfold In at a25; have a26 := i39; unfold In at a26; have a27 := t_add e39 i19 (in_c 1 rfl) rfl; have a28 := (in_c 1 rfl); unfold In at a28; omega)
    have hF3 : Fr ([30], [], [(30, 0)], []) s (sI (sI (sI (sI (sI (sI (sI s19 30 z19.toNatClampNeg (Int32.ofInt 1)) 30 z39.toNatClampNeg z4) 30 z50.toNatClampNeg x1) 30 z60.toNatClampNeg x2) 30 z70.toNatClampNeg x3) 30 z80.toNatClampNeg x4) 30 z92.toNatClampNeg x5) := (fr_sI rfl (fr_sI rfl (fr_sI rfl (fr_sI rfl (fr_sI rfl (fr_sI rfl (fr_sI rfl (fr_tr rfl fr_rf hF19))))))))
    have v101 : u_2_0 = (sI (sI (sI (sI (sI (sI (sI s19 30 z19.toNatClampNeg (Int32.ofInt 1)) 30 z39.toNatClampNeg z4) 30 z50.toNatClampNeg x1) 30 z60.toNatClampNeg x2) 30 z70.toNatClampNeg x3) 30 z80.toNatClampNeg x4) 30 z92.toNatClampNeg x5).2.2.1 2 0 := sI_F (sI_F (sI_F (sI_F (sI_F (sI_F (sI_F (fr_F (e_2_0) hF19 rfl)))))))
    have v101a : u_2_1 = (sI (sI (sI (sI (sI (sI (sI s19 30 z19.toNatClampNeg (Int32.ofInt 1)) 30 z39.toNatClampNeg z4) 30 z50.toNatClampNeg x1) 30 z60.toNatClampNeg x2) 30 z70.toNatClampNeg x3) 30 z80.toNatClampNeg x4) 30 z92.toNatClampNeg x5).2.2.1 2 1 := sI_F (sI_F (sI_F (sI_F (sI_F (sI_F (sI_F (fr_F (e_2_1) hF19 rfl)))))))
    have v101b : z19a = (sI (sI (sI (sI (sI (sI (sI s19 30 z19.toNatClampNeg (Int32.ofInt 1)) 30 z39.toNatClampNeg z4) 30 z50.toNatClampNeg x1) 30 z60.toNatClampNeg x2) 30 z70.toNatClampNeg x3) 30 z80.toNatClampNeg x4) 30 z92.toNatClampNeg x5).2.2.1 30 0 := sI_F (sI_F (sI_F (sI_F (sI_F (sI_F (sI_F (e19)))))))
    have n101 : 7 * (u_2_0).toInt + 7 ≤ (z19a).toInt := by have a0 := (inv_F hI 448 28000 rfl e_30_0); unfold In at a0; have a1 := (inv_F hI 0 32 rfl e_2_1); unfold In at a1; have a2 := r_2_0; unfold In at a2; have a3 := h5; unfold In at a3; have a4 := h4; unfold In at a4; have a5 := h3; unfold In at a5; have a6 := h2; unfold In at a6; have a7 := h1; unfold In at a7; have a8 := i19; unfold In at a8; have a9 := i12; unfold In at a9; have a10 := i19a; unfold In at a10; have a11 := i92; unfold In at a11; have a12 := t_add e92 i19 (in_c 6 rfl) rfl; have a13 := (in_c 6 rfl); unfold In at a13; have a14 := i80; unfold In at a14; have a15 := t_add e80 i19 (in_c 5 rfl) rfl; have a16 := (in_c 5 rfl); unfold In at a16; have a17 := i70; unfold In at a17; have a18 := t_add e70 i19 (in_c 4 rfl) rfl; have a19 := (in_c 4 rfl); unfold In at a19; have a20 := i60; unfold In at a20; have a21 := t_add e60 i19 (in_c 3 rfl) rfl; have a22 := (in_c 3 rfl); unfold In at a22; have a23 := i50; unfold In at a23; have a24 := t_add e50 i19 (in_c 2 rfl) rfl; have a25 := (in_c 2 rfl); unfold In at a25; have a26 := i39; unfold In at a26; have a27 := t_add e39 i19 (in_c 1 rfl) rfl; have a28 := (in_c 1 rfl); unfold In at a28; omega
    have p101 : RW7 ((sI (sI (sI (sI (sI (sI (sI s19 30 z19.toNatClampNeg (Int32.ofInt 1)) 30 z39.toNatClampNeg z4) 30 z50.toNatClampNeg x1) 30 z60.toNatClampNeg x2) 30 z70.toNatClampNeg x3) 30 z80.toNatClampNeg x4) 30 z92.toNatClampNeg x5).1 30) ((sI (sI (sI (sI (sI (sI (sI s19 30 z19.toNatClampNeg (Int32.ofInt 1)) 30 z39.toNatClampNeg z4) 30 z50.toNatClampNeg x1) 30 z60.toNatClampNeg x2) 30 z70.toNatClampNeg x3) 30 z80.toNatClampNeg x4) 30 z92.toNatClampNeg x5).2.2.1 2 0).toInt.toNat := by rw [show ((sI (sI (sI (sI (sI (sI (sI s19 30 z19.toNatClampNeg (Int32.ofInt 1)) 30 z39.toNatClampNeg z4) 30 z50.toNatClampNeg x1) 30 z60.toNatClampNeg x2) 30 z70.toNatClampNeg x3) 30 z80.toNatClampNeg x4) 30 z92.toNatClampNeg x5).2.2.1 2 0) = s.2.2.1 2 0 from hF3.2.2.1 2 0 rfl]; exact hrw
    have p101a : KV (sI (sI (sI (sI (sI (sI (sI s19 30 z19.toNatClampNeg (Int32.ofInt 1)) 30 z39.toNatClampNeg z4) 30 z50.toNatClampNeg x1) 30 z60.toNatClampNeg x2) 30 z70.toNatClampNeg x3) 30 z80.toNatClampNeg x4) 30 z92.toNatClampNeg x5) 2 := by exact kv_cg q_0.2.2.2.1 (hF3.2.2.1 2 0 rfl) (hF3.2.2.1 2 1 rfl) (hF3.1 4 rfl) (hF3.1 5 rfl) hpre
    refine g_callv (X := _) (As := [.ref (A 2)]) (r := []) (b := A 1) (q := 1) 104 (gd rfl) rfl rfl rfl rfl rfl (ww_o rfl) (Nat.le_of_ble_eq_true rfl) (Nat.zero_le _) (Nat.zero_le _) (k_131_1_2 (A := (ax A 30 a19)) (by omega) hI95 v101 v101a v101b (in_w 0 3999 r_2_0 rfl) n101 p101 p101a) (fun e u h => h) (fun v u h => ?_)
    obtain ⟨s101, hI101, hF101, n101a, rfl, rfl, p101b⟩ := h
    obtain ⟨z101a, e101⟩ : ∃ w, w = s101.2.2.1 2 0 := ⟨_, rfl⟩
    have i101a := inv_F hI101 0 4000 rfl e101
    rw [← (show u_2_0 = (sI (sI (sI (sI (sI (sI (sI s19 30 z19.toNatClampNeg (Int32.ofInt 1)) 30 z39.toNatClampNeg z4) 30 z50.toNatClampNeg x1) 30 z60.toNatClampNeg x2) 30 z70.toNatClampNeg x3) 30 z80.toNatClampNeg x4) 30 z92.toNatClampNeg x5).2.2.1 2 0 from sI_F (sI_F (sI_F (sI_F (sI_F (sI_F (sI_F (fr_F (e_2_0) hF19 rfl))))))))] at n101a
    rw [← (show z101a = s101.2.2.1 2 0 from e101)] at n101a
    show GG _ _ _ _ _ _ _ _ [] _ _ _
    refine g_iload 106 (gd rfl) rfl rfl ?_
    have n106 : KL s101 := by have hFF : Fr fm_125_1 s s101 := (fr_tr rfl (fr_sI rfl (fr_sI rfl (fr_sI rfl (fr_sI rfl (fr_sI rfl (fr_sI rfl (fr_sI rfl (fr_tr rfl fr_rf hF19)))))))) hF101); exact kl_row q_0 (by rw [← e_2_0]; exact r_2_0) hpre hrw hlen (hF101.1 30 rfl) (hF101.2.2.1 30 0 rfl) (by rw [← (show z101a = s101.2.2.1 2 0 from e101), ← e_2_0]; have a0 := (inv_F hI 448 28000 rfl e_30_0); unfold In at a0; have a1 := (inv_F hI 0 32 rfl e_2_1); unfold In at a1; have a2 := r_2_0; unfold In at a2; have a3 := h5; unfold In at a3; have a4 := h4; unfold In at a4; have a5 := h3; unfold In at a5; have a6 := h2; unfold In at a6; have a7 := h1; unfold In at a7; have a8 := i19; unfold In at a8; have a9 := i12; unfold In at a9; have a10 := i101a; unfold In at a10; have a11 := i19a; unfold In at a11; have a12 := i92; unfold In at a12; have a13 := t_add e92 i19 (in_c 6 rfl) rfl; have a14 := (in_c 6 rfl); unfold In at a14; have a15 := i80; unfold In at a15; have a16 := t_add e80 i19 (in_c 5 rfl) rfl; have a17 := (in_c 5 rfl); unfold In at a17; have a18 := i70; unfold In at a18; have a19 := t_add e70 i19 (in_c 4 rfl) rfl; have a20 := (in_c 4 rfl); unfold In at a20; have a21 := i60; unfold In at a21; have a22 := t_add e60 i19 (in_c 3 rfl) rfl; have a23 := (in_c 3 rfl); unfold In at a23; have a24 := i50; unfold In at a24; have a25 := t_add e50 i19 (in_c 2 rfl) rfl; have a26 := (in_c 2 rfl); unfold In at a26; have a27 := i39; unfold In at a27; have a28 := t_add e39 i19 (in_c 1 rfl) rfl; have a29 := (in_c 1 rfl); unfold In at a29; omega) (hFF.2.2.1 32 0 rfl) (hFF.2.2.1 32 1 rfl) (hFF.1 34 rfl) (hFF.1 35 rfl) p101b
    have n106a : (z4).toInt ≠ -3 → (s101.2.2.1 30 0).toInt = nln s := by intro _; rw [hF101.2.2.1 30 0 rfl]; exact p19b
    have n106b : (z4).toInt ≠ -3 → (s101.2.2.1 2 0).toInt = (s.2.2.1 2 0).toInt + 1 := by intro _; rw [← (show z101a = s101.2.2.1 2 0 from e101), ← e_2_0]; have a0 := (inv_F hI 448 28000 rfl e_30_0); unfold In at a0; have a1 := (inv_F hI 0 32 rfl e_2_1); unfold In at a1; have a2 := r_2_0; unfold In at a2; have a3 := h5; unfold In at a3; have a4 := h4; unfold In at a4; have a5 := h3; unfold In at a5; have a6 := h2; unfold In at a6; have a7 := h1; unfold In at a7; have a8 := i19; unfold In at a8; have a9 := i12; unfold In at a9; have a10 := i101a; unfold In at a10; have a11 := i19a; unfold In at a11; have a12 := i92; unfold In at a12; have a13 := t_add e92 i19 (in_c 6 rfl) rfl; have a14 := (in_c 6 rfl); unfold In at a14; have a15 := i80; unfold In at a15; have a16 := t_add e80 i19 (in_c 5 rfl) rfl; have a17 := (in_c 5 rfl); unfold In at a17; have a18 := i70; unfold In at a18; have a19 := t_add e70 i19 (in_c 4 rfl) rfl; have a20 := (in_c 4 rfl); unfold In at a20; have a21 := i60; unfold In at a21; have a22 := t_add e60 i19 (in_c 3 rfl) rfl; have a23 := (in_c 3 rfl); unfold In at a23; have a24 := i50; unfold In at a24; have a25 := t_add e50 i19 (in_c 2 rfl) rfl; have a26 := (in_c 2 rfl); unfold In at a26; have a27 := i39; unfold In at a27; have a28 := t_add e39 i19 (in_c 1 rfl) rfl; have a29 := (in_c 1 rfl); unfold In at a29; omega
    have n106c : ∀ k : Nat, (k : Int) < 7 * (s.2.2.1 2 0).toInt → s101.1 30 k = s.1 30 k := by exact fun k hk => by rw [hF101.1 30 rfl]; exact hpre k hk
    have n106d : (u_2_0).toInt ≤ (z101a).toInt := by have a0 := (inv_F hI 448 28000 rfl e_30_0); unfold In at a0; have a1 := (inv_F hI 0 32 rfl e_2_1); unfold In at a1; have a2 := r_2_0; unfold In at a2; have a3 := h5; unfold In at a3; have a4 := h4; unfold In at a4; have a5 := h3; unfold In at a5; have a6 := h2; unfold In at a6; have a7 := h1; unfold In at a7; have a8 := i19; unfold In at a8; have a9 := i12; unfold In at a9; have a10 := i101a; unfold In at a10; have a11 := i19a; unfold In at a11; have a12 := i92; unfold In at a12; have a13 := t_add e92 i19 (in_c 6 rfl) rfl; have a14 := (in_c 6 rfl); unfold In at a14; have a15 := i80; unfold In at a15; have a16 := t_add e80 i19 (in_c 5 rfl) rfl; have a17 := (in_c 5 rfl); unfold In at a17; have a18 := i70; unfold In at a18; have a19 := t_add e70 i19 (in_c 4 rfl) rfl; have a20 := (in_c 4 rfl); unfold In at a20; have a21 := i60; unfold In at a21; have a22 := t_add e60 i19 (in_c 3 rfl) rfl; have a23 := (in_c 3 rfl); unfold In at a23; have a24 := i50; unfold In at a24; have a25 := t_add e50 i19 (in_c 2 rfl) rfl; have a26 := (in_c 2 rfl); unfold In at a26; have a27 := i39; unfold In at a27; have a28 := t_add e39 i19 (in_c 1 rfl) rfl; have a29 := (in_c 1 rfl); unfold In at a29; omega
    have n106e : (s.2.2.1 2 0).toInt ≤ (s101.2.2.1 2 0).toInt := by have b0 : z101a = s101.2.2.1 2 0 := e101; first | (rw [← b0, ← e_2_0]; exact n106d) | (rw [← b0]; exact n106d)
    exact g_ireturn (gd rfl) rfl rfl (hP _ _ ⟨a19, s101, hI101, (fr_tr rfl (fr_sI rfl (fr_sI rfl (fr_sI rfl (fr_sI rfl (fr_sI rfl (fr_sI rfl (fr_sI rfl (fr_tr rfl fr_rf hF19)))))))) hF101), n106e, z4, rfl, rfl, in_w (-3) 159 i12 rfl, n106, n106a, n106b, n106c⟩)
  · skip
    have i12 := r_eq1 (-1) (-1) c12 i4 (in_c (-1) rfl) rfl
    refine g_bipush (-3) 17 (gd rfl) rfl rfl ?_
    have n17 : KL s := by exact q_0
    have n17a : ((Int32.ofInt (-3))).toInt ≠ -3 → (s.2.2.1 30 0).toInt = nln s := by intro h; exact absurd rfl h
    have n17b : ((Int32.ofInt (-3))).toInt ≠ -3 → (s.2.2.1 2 0).toInt = (s.2.2.1 2 0).toInt + 1 := by intro h; exact absurd rfl h
    have n17c : ∀ k : Nat, (k : Int) < 7 * (s.2.2.1 2 0).toInt → s.1 30 k = s.1 30 k := by exact fun k _ => rfl
    have n17d : (u_2_0).toInt ≤ (u_2_0).toInt := by have a0 := (inv_F hI 448 28000 rfl e_30_0); unfold In at a0; have a1 := (inv_F hI 0 32 rfl e_2_1); unfold In at a1; have a2 := r_2_0; unfold In at a2; have a3 := h5; unfold In at a3; have a4 := h4; unfold In at a4; have a5 := h3; unfold In at a5; have a6 := h2; unfold In at a6; have a7 := h1; unfold In at a7; have a8 := i12; unfold In at a8; omega
    have n17e : (s.2.2.1 2 0).toInt ≤ (s.2.2.1 2 0).toInt := by have b0 : u_2_0 = s.2.2.1 2 0 := e_2_0; first | (rw [← b0, ← e_2_0]; exact n17d) | (rw [← b0]; exact n17d)
    exact g_ireturn (gd rfl) rfl rfl (hP _ _ ⟨(A 30), s, hI, fr_rf, n17e, (Int32.ofInt (-3)), rfl, (by rw [ax_id]), in_w (-3) 159 (in_c (-3) rfl) rfl, n17, n17a, n17b, n17c⟩)

def fm_124_1 : FM := ([3, 4, 5, 6, 7, 8, 30], [], [(2, 0), (2, 1), (2, 2), (2, 3), (30, 0)], [])
/-- GraphHouse$Ledger.addNode -/
theorem k_124_1 {Z : AmZ} {A : Nat → Nat} {s : GS} {ex : va_W} {d : Nat} {X : AmX} {x1 : Int32} {u_2_0 : Int32} {u_2_1 : Int32} {u_30_0 : Int32} (hd : 7 ≤ d) (hI : Inv s) (h1 : In x1 0 25) (e_2_0 : u_2_0 = s.2.2.1 2 0) (e_2_1 : u_2_1 = s.2.2.1 2 1) (e_30_0 : u_30_0 = s.2.2.1 30 0) (r_2_0 : In u_2_0 0 3999) (r_2_1 : In u_2_1 0 31) (q_0 : KL s) : GC Z d 124 [.ref (A 1), .int x1] (WW Z A s ++ ex) (lc s) (lsl s) (fun v u => ∃ a : Nat, ∃ t : GS, Inv t ∧ Fr fm_124_1 s t ∧ ((t.2.2.1 2 0).toInt = (s.2.2.1 2 0).toInt + 1) ∧ ∃ z : Int32, v = some (.int z) ∧ u = WW Z (ax A 30 a) t ++ ex ∧ In z (-1) 31 ∧ (KL t) ∧ ((t.2.2.1 30 0).toInt = nln s) ∧ ((z).toInt = (t.2.2.1 2 1).toInt - 1) ∧ (∀ k : Nat, (k : Int) < 7 * (s.2.2.1 2 0).toInt → t.1 30 k = s.1 30 k)) X := by
  intro post xp hP hX
  refine g_enter2 (k := 124) (N := 900) (by omega) rfl (Nat.le_of_ble_eq_true rfl) ?_
  refine g_aload_n 1 (gd rfl) rfl rfl ?_
  refine g_iconst 0 2 (gd rfl) rfl rfl ?_
  refine g_aload_n 3 (gd rfl) rfl rfl ?_
  refine g_getA (q2 := 2) 6 (gd rfl) rfl rfl rfl rfl ?_
  refine g_getI 9 (gd rfl) rfl rfl rfl (fun z6 e6 => ?_)
  have q6 : u_2_1 = z6 := (e_2_1).trans e6.symm
  subst q6
  refine g_iload_n 10 (gd rfl) rfl rfl ?_
  refine g_iconst 0 11 (gd rfl) rfl rfl ?_
  have p11 : KL s := by exact q_0
  have p11a : RWN (cz7 (s.1 30) (s.2.2.1 2 0).toInt.toNat) (Int32.ofInt 0) u_2_1 x1 (Int32.ofInt 0) := by have hcz := q_0.2.2.2.1.1; rw [← e_2_1] at hcz; unfold RWN; rw [if_pos (by decide)]; exact ⟨hcz, by have a0 := (inv_F hI 448 28000 rfl e_30_0); unfold In at a0; have a1 := r_2_1; unfold In at a1; have a2 := r_2_0; unfold In at a2; have a3 := h1; unfold In at a3; omega, h1⟩
  refine g_callv (X := _) (As := [.int (Int32.ofInt 0), .int u_2_1, .int x1, .int (Int32.ofInt 0)]) (r := []) (b := A 1) (q := 1) 14 (gd rfl) rfl rfl rfl rfl rfl (ww_o rfl) (Nat.le_of_ble_eq_true rfl) (Nat.le_of_eq (lc_cg ((show Fr ([], [], [], []) s s from fr_rf).2.2.1 30 0 rfl) ((show Fr ([], [], [], []) s s from fr_rf).2.2.1 2 0 rfl)).1) (Nat.le_of_eq (lc_cg ((show Fr ([], [], [], []) s s from fr_rf).2.2.1 30 0 rfl) ((show Fr ([], [], [], []) s s from fr_rf).2.2.1 2 0 rfl)).2.1) (k_129_1 (by omega) hI e_2_0 e_2_1 e_30_0 (in_w 0 3999 r_2_0 rfl) p11 p11a) (fun e u h => h) (fun v u h => ?_)
  obtain ⟨a11, s11, hI11, hF11, n11, rfl, rfl, p11b, p11c, p11d⟩ := h
  obtain ⟨z11a, e11⟩ : ∃ w, w = s11.2.2.1 2 0 := ⟨_, rfl⟩
  have i11a := inv_F hI11 0 4000 rfl e11
  rw [← (show u_2_0 = s.2.2.1 2 0 from e_2_0)] at n11
  rw [← (show z11a = s11.2.2.1 2 0 from e11)] at n11
  show GG _ _ _ _ _ _ _ _ [] _ _ _
  refine g_aload_n 15 (gd rfl) rfl rfl ?_
  refine g_getA (A := (ax A 30 a11)) (q := 1) (q2 := 2) 18 (gd rfl) rfl rfl rfl rfl ?_
  refine g_getI (A := (ax A 30 a11)) (q := 2) 21 (gd rfl) rfl rfl rfl (fun z18 e18 => ?_)
  have i18 := inv_F hI11 0 32 rfl e18
  refine g_iconst 1 22 (gd rfl) rfl rfl ?_
  refine g_isub 23 (gd rfl) rfl (fun z22 e22 => ?_)
  have i22 := in_sub (-1) 31 e22 i18 (in_c 1 rfl) rfl rfl
  have n23 : KL s11 := by exact p11b
  have n23a : (s11.2.2.1 30 0).toInt = nln s := by exact p11c
  have n23b : (z22).toInt = (s11.2.2.1 2 1).toInt - 1 := by rw [← (show z18 = s11.2.2.1 2 1 from e18)]; have a0 := (inv_F hI 448 28000 rfl e_30_0); unfold In at a0; have a1 := r_2_1; unfold In at a1; have a2 := r_2_0; unfold In at a2; have a3 := h1; unfold In at a3; have a4 := i18; unfold In at a4; have a5 := i11a; unfold In at a5; have a6 := i22; unfold In at a6; have a7 := t_sub e22 i18 (in_c 1 rfl) rfl; have a8 := (in_c 1 rfl); unfold In at a8; omega
  have n23c : ∀ k : Nat, (k : Int) < 7 * (s.2.2.1 2 0).toInt → s11.1 30 k = s.1 30 k := by exact p11d
  have n23d : (z11a).toInt = (u_2_0).toInt + 1 := by have a0 := (inv_F hI 448 28000 rfl e_30_0); unfold In at a0; have a1 := r_2_1; unfold In at a1; have a2 := r_2_0; unfold In at a2; have a3 := h1; unfold In at a3; have a4 := i18; unfold In at a4; have a5 := i11a; unfold In at a5; have a6 := i22; unfold In at a6; have a7 := t_sub e22 i18 (in_c 1 rfl) rfl; have a8 := (in_c 1 rfl); unfold In at a8; omega
  have n23e : (s11.2.2.1 2 0).toInt = (s.2.2.1 2 0).toInt + 1 := by have b0 : z11a = s11.2.2.1 2 0 := e11; first | (rw [← b0, ← e_2_0]; exact n23d) | (rw [← b0]; exact n23d)
  exact g_ireturn (gd rfl) rfl rfl (hP _ _ ⟨a11, s11, hI11, (fr_tr rfl fr_rf hF11), n23e, z22, rfl, rfl, in_w (-1) 31 i22 rfl, n23, n23a, n23b, n23c⟩)

def fm_126_1 : FM := ([3, 4, 5, 6, 7, 8, 30], [], [(2, 0), (2, 1), (2, 2), (2, 3), (30, 0)], [])
/-- GraphHouse$Ledger.dropArc -/
theorem k_126_1 {Z : AmZ} {A : Nat → Nat} {s : GS} {ex : va_W} {d : Nat} {X : AmX} {x1 : Int32} {u_2_0 : Int32} {u_2_1 : Int32} {u_30_0 : Int32} (hd : 7 ≤ d) (hI : Inv s) (h1 : In x1 0 159) (e_2_0 : u_2_0 = s.2.2.1 2 0) (e_2_1 : u_2_1 = s.2.2.1 2 1) (e_30_0 : u_30_0 = s.2.2.1 30 0) (r_2_0 : In u_2_0 0 3999) (q_0 : KL s) : GC Z d 126 [.ref (A 1), .int x1] (WW Z A s ++ ex) (lc s) (lsl s) (fun v u => ∃ a : Nat, ∃ t : GS, Inv t ∧ Fr fm_126_1 s t ∧ ((t.2.2.1 2 0).toInt = (s.2.2.1 2 0).toInt + 1) ∧ v = none ∧ u = WW Z (ax A 30 a) t ++ ex ∧ (KL t) ∧ ((t.2.2.1 30 0).toInt = nln s) ∧ (∀ k : Nat, (k : Int) < 7 * (s.2.2.1 2 0).toInt → t.1 30 k = s.1 30 k)) X := by
  intro post xp hP hX
  refine g_enter2 (k := 126) (N := 900) (by omega) rfl (Nat.le_of_ble_eq_true rfl) ?_
  refine g_aload_n 1 (gd rfl) rfl rfl ?_
  refine g_iconst 2 2 (gd rfl) rfl rfl ?_
  refine g_iload_n 3 (gd rfl) rfl rfl ?_
  refine g_iconst 0 4 (gd rfl) rfl rfl ?_
  refine g_iconst 0 5 (gd rfl) rfl rfl ?_
  have p5 : KL s := by exact q_0
  have p5a : RWN (cz7 (s.1 30) (s.2.2.1 2 0).toInt.toNat) (Int32.ofInt 2) x1 (Int32.ofInt 0) (Int32.ofInt 0) := by unfold RWN; rw [if_neg (by decide), if_neg (by decide), if_pos (by decide)]; exact h1
  refine g_callv (X := _) (As := [.int (Int32.ofInt 2), .int x1, .int (Int32.ofInt 0), .int (Int32.ofInt 0)]) (r := []) (b := A 1) (q := 1) 8 (gd rfl) rfl rfl rfl rfl rfl (ww_o rfl) (Nat.le_of_ble_eq_true rfl) (Nat.le_of_eq (lc_cg ((show Fr ([], [], [], []) s s from fr_rf).2.2.1 30 0 rfl) ((show Fr ([], [], [], []) s s from fr_rf).2.2.1 2 0 rfl)).1) (Nat.le_of_eq (lc_cg ((show Fr ([], [], [], []) s s from fr_rf).2.2.1 30 0 rfl) ((show Fr ([], [], [], []) s s from fr_rf).2.2.1 2 0 rfl)).2.1) (k_129_1 (by omega) hI e_2_0 e_2_1 e_30_0 (in_w 0 3999 r_2_0 rfl) p5 p5a) (fun e u h => h) (fun v u h => ?_)
  obtain ⟨a5, s5, hI5, hF5, n5, rfl, rfl, p5b, p5c, p5d⟩ := h
  obtain ⟨z5a, e5⟩ : ∃ w, w = s5.2.2.1 2 0 := ⟨_, rfl⟩
  have i5a := inv_F hI5 0 4000 rfl e5
  rw [← (show u_2_0 = s.2.2.1 2 0 from e_2_0)] at n5
  rw [← (show z5a = s5.2.2.1 2 0 from e5)] at n5
  show GG _ _ _ _ _ _ _ _ [] _ _ _
  have n8 : KL s5 := by exact p5b
  have n8a : (s5.2.2.1 30 0).toInt = nln s := by exact p5c
  have n8b : ∀ k : Nat, (k : Int) < 7 * (s.2.2.1 2 0).toInt → s5.1 30 k = s.1 30 k := by exact p5d
  have n8c : (z5a).toInt = (u_2_0).toInt + 1 := by have a0 := (inv_F hI 448 28000 rfl e_30_0); unfold In at a0; have a1 := (inv_F hI 0 32 rfl e_2_1); unfold In at a1; have a2 := r_2_0; unfold In at a2; have a3 := h1; unfold In at a3; have a4 := i5a; unfold In at a4; omega
  have n8d : (s5.2.2.1 2 0).toInt = (s.2.2.1 2 0).toInt + 1 := by have b0 : z5a = s5.2.2.1 2 0 := e5; first | (rw [← b0, ← e_2_0]; exact n8c) | (rw [← b0]; exact n8c)
  exact g_return (gd rfl) rfl (hP _ _ ⟨a5, s5, hI5, (fr_tr rfl fr_rf hF5), n8d, rfl, rfl, n8, n8a, n8b⟩)

def fm_127_1 : FM := ([3, 4, 5, 6, 7, 8, 30], [], [(2, 0), (2, 1), (2, 2), (2, 3), (30, 0)], [])
/-- GraphHouse$Ledger.changeArc -/
theorem k_127_1 {Z : AmZ} {A : Nat → Nat} {s : GS} {ex : va_W} {d : Nat} {X : AmX} {x1 : Int32} {x2 : Int32} {x3 : Int32} {u_2_0 : Int32} {u_2_1 : Int32} {u_30_0 : Int32} (hd : 7 ≤ d) (hI : Inv s) (h1 : In x1 0 159) (e_2_0 : u_2_0 = s.2.2.1 2 0) (e_2_1 : u_2_1 = s.2.2.1 2 1) (e_30_0 : u_30_0 = s.2.2.1 30 0) (r_2_0 : In u_2_0 0 3999) (q_0 : KL s) (q_1 : (x2).toInt = 0 → In x3 (-1000000) 1000000) (q_2 : (x2).toInt = 1 → In x3 0 1000000) (q_3 : (x2).toInt ≠ 0 → (x2).toInt ≠ 1 → In x3 0 25) : GC Z d 127 [.ref (A 1), .int x1, .int x2, .int x3] (WW Z A s ++ ex) (lc s) (lsl s) (fun v u => ∃ a : Nat, ∃ t : GS, Inv t ∧ Fr fm_127_1 s t ∧ ((t.2.2.1 2 0).toInt = (s.2.2.1 2 0).toInt + 1) ∧ v = none ∧ u = WW Z (ax A 30 a) t ++ ex ∧ (KL t) ∧ ((t.2.2.1 30 0).toInt = nln s) ∧ (∀ k : Nat, (k : Int) < 7 * (s.2.2.1 2 0).toInt → t.1 30 k = s.1 30 k)) X := by
  intro post xp hP hX
  refine g_enter2 (k := 127) (N := 900) (by omega) rfl (Nat.le_of_ble_eq_true rfl) ?_
  refine g_aload_n 1 (gd rfl) rfl rfl ?_
  refine g_iconst 3 2 (gd rfl) rfl rfl ?_
  refine g_iload_n 3 (gd rfl) rfl rfl ?_
  refine g_iload_n 4 (gd rfl) rfl rfl ?_
  refine g_iload_n 5 (gd rfl) rfl rfl ?_
  have p5 : KL s := by exact q_0
  have p5a : RWN (cz7 (s.1 30) (s.2.2.1 2 0).toInt.toNat) (Int32.ofInt 3) x1 x2 x3 := by unfold RWN; rw [if_neg (by decide), if_neg (by decide), if_neg (by decide), if_pos (by decide)]; exact ⟨h1, q_1, q_2, q_3⟩
  refine g_callv (X := _) (As := [.int (Int32.ofInt 3), .int x1, .int x2, .int x3]) (r := []) (b := A 1) (q := 1) 8 (gd rfl) rfl rfl rfl rfl rfl (ww_o rfl) (Nat.le_of_ble_eq_true rfl) (Nat.le_of_eq (lc_cg ((show Fr ([], [], [], []) s s from fr_rf).2.2.1 30 0 rfl) ((show Fr ([], [], [], []) s s from fr_rf).2.2.1 2 0 rfl)).1) (Nat.le_of_eq (lc_cg ((show Fr ([], [], [], []) s s from fr_rf).2.2.1 30 0 rfl) ((show Fr ([], [], [], []) s s from fr_rf).2.2.1 2 0 rfl)).2.1) (k_129_1 (by omega) hI e_2_0 e_2_1 e_30_0 (in_w 0 3999 r_2_0 rfl) p5 p5a) (fun e u h => h) (fun v u h => ?_)
  obtain ⟨a5, s5, hI5, hF5, n5, rfl, rfl, p5b, p5c, p5d⟩ := h
  obtain ⟨z5a, e5⟩ : ∃ w, w = s5.2.2.1 2 0 := ⟨_, rfl⟩
  have i5a := inv_F hI5 0 4000 rfl e5
  rw [← (show u_2_0 = s.2.2.1 2 0 from e_2_0)] at n5
  rw [← (show z5a = s5.2.2.1 2 0 from e5)] at n5
  show GG _ _ _ _ _ _ _ _ [] _ _ _
  have n8 : KL s5 := by exact p5b
  have n8a : (s5.2.2.1 30 0).toInt = nln s := by exact p5c
  have n8b : ∀ k : Nat, (k : Int) < 7 * (s.2.2.1 2 0).toInt → s5.1 30 k = s.1 30 k := by exact p5d
  have n8c : (z5a).toInt = (u_2_0).toInt + 1 := by have a0 := (inv_F hI 448 28000 rfl e_30_0); unfold In at a0; have a1 := (inv_F hI 0 32 rfl e_2_1); unfold In at a1; have a2 := r_2_0; unfold In at a2; have a3 := h1; unfold In at a3; have a4 := i5a; unfold In at a4; omega
  have n8d : (s5.2.2.1 2 0).toInt = (s.2.2.1 2 0).toInt + 1 := by have b0 : z5a = s5.2.2.1 2 0 := e5; first | (rw [← b0, ← e_2_0]; exact n8c) | (rw [← b0]; exact n8c)
  exact g_return (gd rfl) rfl (hP _ _ ⟨a5, s5, hI5, (fr_tr rfl fr_rf hF5), n8d, rfl, rfl, n8, n8a, n8b⟩)

def fm_128_1 : FM := ([3, 4, 5, 6, 7, 8, 30], [], [(2, 0), (2, 1), (2, 2), (2, 3), (30, 0)], [])
/-- GraphHouse$Ledger.relabel -/
theorem k_128_1 {Z : AmZ} {A : Nat → Nat} {s : GS} {ex : va_W} {d : Nat} {X : AmX} {x1 : Int32} {x2 : Int32} {u_2_0 : Int32} {u_2_1 : Int32} {u_30_0 : Int32} (hd : 7 ≤ d) (hI : Inv s) (h1 : In x1 0 31) (h2 : In x2 0 25) (e_2_0 : u_2_0 = s.2.2.1 2 0) (e_2_1 : u_2_1 = s.2.2.1 2 1) (e_30_0 : u_30_0 = s.2.2.1 30 0) (r_2_0 : In u_2_0 0 3999) (q_0 : KL s) : GC Z d 128 [.ref (A 1), .int x1, .int x2] (WW Z A s ++ ex) (lc s) (lsl s) (fun v u => ∃ a : Nat, ∃ t : GS, Inv t ∧ Fr fm_128_1 s t ∧ ((t.2.2.1 2 0).toInt = (s.2.2.1 2 0).toInt + 1) ∧ v = none ∧ u = WW Z (ax A 30 a) t ++ ex ∧ (KL t) ∧ ((t.2.2.1 30 0).toInt = nln s) ∧ (∀ k : Nat, (k : Int) < 7 * (s.2.2.1 2 0).toInt → t.1 30 k = s.1 30 k)) X := by
  intro post xp hP hX
  refine g_enter2 (k := 128) (N := 900) (by omega) rfl (Nat.le_of_ble_eq_true rfl) ?_
  refine g_aload_n 1 (gd rfl) rfl rfl ?_
  refine g_iconst 4 2 (gd rfl) rfl rfl ?_
  refine g_iload_n 3 (gd rfl) rfl rfl ?_
  refine g_iload_n 4 (gd rfl) rfl rfl ?_
  refine g_iconst 0 5 (gd rfl) rfl rfl ?_
  have p5 : KL s := by exact q_0
  have p5a : RWN (cz7 (s.1 30) (s.2.2.1 2 0).toInt.toNat) (Int32.ofInt 4) x1 x2 (Int32.ofInt 0) := by unfold RWN; rw [if_neg (by decide), if_neg (by decide), if_neg (by decide), if_neg (by decide)]; exact ⟨h1, h2⟩
  refine g_callv (X := _) (As := [.int (Int32.ofInt 4), .int x1, .int x2, .int (Int32.ofInt 0)]) (r := []) (b := A 1) (q := 1) 8 (gd rfl) rfl rfl rfl rfl rfl (ww_o rfl) (Nat.le_of_ble_eq_true rfl) (Nat.le_of_eq (lc_cg ((show Fr ([], [], [], []) s s from fr_rf).2.2.1 30 0 rfl) ((show Fr ([], [], [], []) s s from fr_rf).2.2.1 2 0 rfl)).1) (Nat.le_of_eq (lc_cg ((show Fr ([], [], [], []) s s from fr_rf).2.2.1 30 0 rfl) ((show Fr ([], [], [], []) s s from fr_rf).2.2.1 2 0 rfl)).2.1) (k_129_1 (by omega) hI e_2_0 e_2_1 e_30_0 (in_w 0 3999 r_2_0 rfl) p5 p5a) (fun e u h => h) (fun v u h => ?_)
  obtain ⟨a5, s5, hI5, hF5, n5, rfl, rfl, p5b, p5c, p5d⟩ := h
  obtain ⟨z5a, e5⟩ : ∃ w, w = s5.2.2.1 2 0 := ⟨_, rfl⟩
  have i5a := inv_F hI5 0 4000 rfl e5
  rw [← (show u_2_0 = s.2.2.1 2 0 from e_2_0)] at n5
  rw [← (show z5a = s5.2.2.1 2 0 from e5)] at n5
  show GG _ _ _ _ _ _ _ _ [] _ _ _
  have n8 : KL s5 := by exact p5b
  have n8a : (s5.2.2.1 30 0).toInt = nln s := by exact p5c
  have n8b : ∀ k : Nat, (k : Int) < 7 * (s.2.2.1 2 0).toInt → s5.1 30 k = s.1 30 k := by exact p5d
  have n8c : (z5a).toInt = (u_2_0).toInt + 1 := by have a0 := (inv_F hI 448 28000 rfl e_30_0); unfold In at a0; have a1 := (inv_F hI 0 32 rfl e_2_1); unfold In at a1; have a2 := r_2_0; unfold In at a2; have a3 := h2; unfold In at a3; have a4 := h1; unfold In at a4; have a5 := i5a; unfold In at a5; omega
  have n8d : (s5.2.2.1 2 0).toInt = (s.2.2.1 2 0).toInt + 1 := by have b0 : z5a = s5.2.2.1 2 0 := e5; first | (rw [← b0, ← e_2_0]; exact n8c) | (rw [← b0]; exact n8c)
  exact g_return (gd rfl) rfl (hP _ _ ⟨a5, s5, hI5, (fr_tr rfl fr_rf hF5), n8d, rfl, rfl, n8, n8a, n8b⟩)

def fm_138_1 : FM := ([3, 4, 5, 6, 7, 8, 30], [], [(2, 0), (2, 1), (2, 2), (2, 3), (30, 0)], [])
/-- GraphHouse$Ledger.doCommand -/
theorem k_138_1 {Z : AmZ} {A : Nat → Nat} {s : GS} {ex : va_W} {d : Nat} {X : AmX} {x1 : Int32} {u_2_0 : Int32} {u_2_1 : Int32} {u_30_0 : Int32} (hd : 8 ≤ d) (hI : Inv s) (h1 : In x1 (-1) 25) (e_2_0 : u_2_0 = s.2.2.1 2 0) (e_2_1 : u_2_1 = s.2.2.1 2 1) (e_30_0 : u_30_0 = s.2.2.1 30 0) (q_0 : KL s) (q_1 : (x1).toInt = 13 → In (s.1 31 0) 0 25) : GC Z d 138 [.ref (A 1), .int x1] (WW Z A s ++ ex) (lc s) (lsl s) (fun v u => ∃ a : Nat, ∃ t : GS, Inv t ∧ Fr fm_138_1 s t ∧ ((s.2.2.1 2 0).toInt ≤ (t.2.2.1 2 0).toInt) ∧ ∃ z : Int32, v = some (.int z) ∧ u = WW Z (ax A 30 a) t ++ ex ∧ In z 0 1 ∧ (KL t) ∧ ((z).toInt ≠ 0 → (t.2.2.1 30 0).toInt = nln s) ∧ ((z).toInt ≠ 0 → (s.2.2.1 2 0).toInt ≤ 3999) ∧ (∀ k : Nat, (k : Int) < 7 * (s.2.2.1 2 0).toInt → t.1 30 k = s.1 30 k)) X := by
  intro post xp hP hX
  refine g_enter2 (k := 138) (N := 900) (by omega) rfl (Nat.le_of_ble_eq_true rfl) ?_
  refine g_aload_n 1 (gd rfl) rfl rfl ?_
  refine g_callv (X := _) (As := []) (r := []) (b := A 1) (q := 1) 4 (gd rfl) rfl rfl rfl rfl rfl (ww_o rfl) (Nat.le_of_ble_eq_true rfl) (mc := 0) (ms := 0) (Nat.zero_le _) (Nat.zero_le _) (P := fun v u => _) ?_ (fun e u h => h) (fun v u h => h)
  intro po1 xx1 hp1 hx1
  refine g_enter2 (k := 122) (N := 300) (by omega) rfl (Nat.le_of_ble_eq_true rfl) ?_
  refine g_aload_n 1 (gd rfl) rfl rfl ?_
  refine g_getA (q2 := 2) 4 (gd rfl) rfl rfl rfl rfl ?_
  refine g_getI 7 (gd rfl) rfl rfl rfl (fun z1x4 e1x4 => ?_)
  have q1x4 : u_2_0 = z1x4 := (e_2_0).trans e1x4.symm
  subst q1x4
  refine g_sipush 4000 10 (gd rfl) rfl rfl ?_
  refine g_cmp_lt 13 17 (gd rfl) rfl rfl (fun c1x10 => ?_) (fun c1x10 => ?_)
  · skip
    have i1x10 := r_lt1 0 3999 c1x10 (inv_F hI 0 4000 rfl e_2_0) (in_c 4000 rfl) rfl
    refine g_iconst 0 18 (gd rfl) rfl rfl ?_
    refine g_ireturn (gd rfl) rfl (nb01 (in_w 0 1 (in_c 0 rfl) rfl)) (hp1 _ _ ?_)
    show GG _ _ _ _ _ _ _ _ [.int (Int32.ofInt 0)] _ _ _
    refine g_if_eq 7 9 (gd rfl) rfl rfl (fun c4 => ?_) (fun c4 => ?_)
    · skip
      refine g_iload_n 10 (gd rfl) rfl rfl ?_
      refine g_bipush 13 12 (gd rfl) rfl rfl ?_
      refine g_cmp_ne 15 46 (gd rfl) rfl rfl (fun c12 => ?_) (fun c12 => ?_)
      · skip
        refine g_iload_n 47 (gd rfl) rfl rfl ?_
        refine g_if_ne 50 132 (gd rfl) rfl rfl (fun c47 => ?_) (fun c47 => ?_)
        · skip
          refine g_aload_n 133 (gd rfl) rfl rfl ?_
          refine g_getA (q2 := 2) 136 (gd rfl) rfl rfl rfl rfl ?_
          refine g_aload_n 137 (gd rfl) rfl rfl ?_
          refine g_getA (q2 := 31) 140 (gd rfl) rfl rfl rfl rfl ?_
          refine g_iconst 0 141 (gd rfl) rfl rfl ?_
          refine g_iaload 142 (gd rfl) rfl (n := 5) rfl (in_ix (in_c 0 rfl) rfl) (fun z141 e141 => ?_)
          refine g_callv (X := _) (As := [.int z141]) (r := []) (b := A 2) (q := 2) 145 (gd rfl) rfl rfl rfl rfl rfl (ww_o rfl) (Nat.le_of_ble_eq_true rfl) (mc := 0) (ms := 0) (Nat.zero_le _) (Nat.zero_le _) (P := fun v u => _) ?_ (fun e u h => h) (fun v u h => h)
          intro po142 xx142 hp142 hx142
          refine g_enter2 (k := 96) (N := 300) (by omega) rfl (Nat.le_of_ble_eq_true rfl) ?_
          refine g_iload_n 1 (gd rfl) rfl rfl ?_
          refine g_if_lt 4 26 (gd rfl) rfl rfl (fun c142x1 => ?_) (fun c142x1 => ?_)
          · skip
            have i142x1 := z_lt (-2147483648) (-1) c142x1 (i_rng z141) rfl
            refine g_iconst 0 27 (gd rfl) rfl rfl ?_
            refine g_ireturn (gd rfl) rfl (nb01 (in_w 0 1 (in_c 0 rfl) rfl)) (hp142 _ _ ?_)
            show GG _ _ _ _ _ _ _ _ [.int (Int32.ofInt 0)] _ _ _
            refine g_if_ne 148 150 (gd rfl) rfl rfl (fun c145 => ?_) (fun c145 => ?_)
            · skip
              exact zn_ne c145 (in_c 0 rfl) rfl
            · skip
              refine g_iconst 0 149 (gd rfl) rfl rfl ?_
              have n149 : KL s := by exact q_0
              have n149a : ((Int32.ofInt 0)).toInt ≠ 0 → (s.2.2.1 30 0).toInt = nln s := by intro h; exact absurd rfl h
              have n149b : ((Int32.ofInt 0)).toInt ≠ 0 → (s.2.2.1 2 0).toInt ≤ 3999 := by first | (intro h; exact absurd rfl h) | (intro _; rw [← e_2_0]; have a0 := (inv_F hI 448 28000 rfl e_30_0); unfold In at a0; have a1 := (inv_F hI 0 32 rfl e_2_1); unfold In at a1; have a2 := i1x10; unfold In at a2; have a3 := h1; unfold In at a3; omega)
              have n149c : ∀ k : Nat, (k : Int) < 7 * (s.2.2.1 2 0).toInt → s.1 30 k = s.1 30 k := by exact fun k _ => rfl
              have n149d : (u_2_0).toInt ≤ (u_2_0).toInt := by have a0 := (inv_F hI 448 28000 rfl e_30_0); unfold In at a0; have a1 := (inv_F hI 0 32 rfl e_2_1); unfold In at a1; have a2 := i1x10; unfold In at a2; have a3 := h1; unfold In at a3; omega
              have n149e : (s.2.2.1 2 0).toInt ≤ (s.2.2.1 2 0).toInt := by have b0 : u_2_0 = s.2.2.1 2 0 := e_2_0; first | (rw [← b0, ← e_2_0]; exact n149d) | (rw [← b0]; exact n149d)
              exact g_ireturn (gd rfl) rfl (nb01 (in_w 0 1 (in_c 0 rfl) rfl)) (hP _ _ ⟨(A 30), s, hI, fr_rf, n149e, (Int32.ofInt 0), rfl, (by rw [ax_id]), in_w 0 1 (in_c 0 rfl) rfl, n149, n149a, n149b, n149c⟩)
          · skip
            have i142x1 := z_ge 0 2147483647 c142x1 (i_rng z141) rfl
            refine g_iload_n 5 (gd rfl) rfl rfl ?_
            refine g_aload_n 6 (gd rfl) rfl rfl ?_
            refine g_getI 9 (gd rfl) rfl rfl rfl (fun z142x6 e142x6 => ?_)
            have i142x6 := inv_F hI 0 160 rfl e142x6
            refine g_cmp_ge 12 26 (gd rfl) rfl rfl (fun c142x9 => ?_) (fun c142x9 => ?_)
            · skip
              refine g_iconst 0 27 (gd rfl) rfl rfl ?_
              refine g_ireturn (gd rfl) rfl (nb01 (in_w 0 1 (in_c 0 rfl) rfl)) (hp142 _ _ ?_)
              show GG _ _ _ _ _ _ _ _ [.int (Int32.ofInt 0)] _ _ _
              refine g_if_ne 148 150 (gd rfl) rfl rfl (fun c145 => ?_) (fun c145 => ?_)
              · skip
                exact zn_ne c145 (in_c 0 rfl) rfl
              · skip
                refine g_iconst 0 149 (gd rfl) rfl rfl ?_
                have n149 : KL s := by exact q_0
                have n149a : ((Int32.ofInt 0)).toInt ≠ 0 → (s.2.2.1 30 0).toInt = nln s := by intro h; exact absurd rfl h
                have n149b : ((Int32.ofInt 0)).toInt ≠ 0 → (s.2.2.1 2 0).toInt ≤ 3999 := by first | (intro h; exact absurd rfl h) | (intro _; rw [← e_2_0]; have a0 := (inv_F hI 448 28000 rfl e_30_0); unfold In at a0; have a1 := (inv_F hI 0 32 rfl e_2_1); unfold In at a1; have a2 := i1x10; unfold In at a2; have a3 := h1; unfold In at a3; have a4 := i142x6; unfold In at a4; omega)
                have n149c : ∀ k : Nat, (k : Int) < 7 * (s.2.2.1 2 0).toInt → s.1 30 k = s.1 30 k := by exact fun k _ => rfl
                have n149d : (u_2_0).toInt ≤ (u_2_0).toInt := by have a0 := (inv_F hI 448 28000 rfl e_30_0); unfold In at a0; have a1 := (inv_F hI 0 32 rfl e_2_1); unfold In at a1; have a2 := i1x10; unfold In at a2; have a3 := h1; unfold In at a3; have a4 := i142x6; unfold In at a4; omega
                have n149e : (s.2.2.1 2 0).toInt ≤ (s.2.2.1 2 0).toInt := by have b0 : u_2_0 = s.2.2.1 2 0 := e_2_0; first | (rw [← b0, ← e_2_0]; exact n149d) | (rw [← b0]; exact n149d)
                exact g_ireturn (gd rfl) rfl (nb01 (in_w 0 1 (in_c 0 rfl) rfl)) (hP _ _ ⟨(A 30), s, hI, fr_rf, n149e, (Int32.ofInt 0), rfl, (by rw [ax_id]), in_w 0 1 (in_c 0 rfl) rfl, n149, n149a, n149b, n149c⟩)
            · skip
              have i142x9 := r_lt1 0 159 c142x9 i142x1 i142x6 rfl
              have i142x9a := r_lt2 1 160 c142x9 i142x1 i142x6 rfl
              refine g_aload_n 13 (gd rfl) rfl rfl ?_
              refine g_getA (q2 := 4) 16 (gd rfl) rfl rfl rfl rfl ?_
              refine g_iload_n 17 (gd rfl) rfl rfl ?_
              refine g_iaload 18 (gd rfl) rfl (n := 160) rfl (in_ix i142x9 rfl) (fun z142x17 e142x17 => ?_)
              have i142x17 := inv_I hI (n := 160) (t := 0) (-1) 31 rfl (in_ix i142x9 rfl) rfl e142x17
              refine g_iconst (-1) 19 (gd rfl) rfl rfl ?_
              refine g_cmp_eq 22 26 (gd rfl) rfl rfl (fun c142x19 => ?_) (fun c142x19 => ?_)
              · skip
                have i142x19 := r_eq1 (-1) (-1) c142x19 i142x17 (in_c (-1) rfl) rfl
                refine g_iconst 0 27 (gd rfl) rfl rfl ?_
                refine g_ireturn (gd rfl) rfl (nb01 (in_w 0 1 (in_c 0 rfl) rfl)) (hp142 _ _ ?_)
                show GG _ _ _ _ _ _ _ _ [.int (Int32.ofInt 0)] _ _ _
                refine g_if_ne 148 150 (gd rfl) rfl rfl (fun c145 => ?_) (fun c145 => ?_)
                · skip
                  exact zn_ne c145 (in_c 0 rfl) rfl
                · skip
                  refine g_iconst 0 149 (gd rfl) rfl rfl ?_
                  have n149 : KL s := by exact q_0
                  have n149a : ((Int32.ofInt 0)).toInt ≠ 0 → (s.2.2.1 30 0).toInt = nln s := by intro h; exact absurd rfl h
                  have n149b : ((Int32.ofInt 0)).toInt ≠ 0 → (s.2.2.1 2 0).toInt ≤ 3999 := by first | (intro h; exact absurd rfl h) | (intro _; rw [← e_2_0]; have a0 := (inv_F hI 448 28000 rfl e_30_0); unfold In at a0; have a1 := (inv_F hI 0 32 rfl e_2_1); unfold In at a1; have a2 := i1x10; unfold In at a2; have a3 := h1; unfold In at a3; have a4 := i142x9a; unfold In at a4; omega)
                  have n149c : ∀ k : Nat, (k : Int) < 7 * (s.2.2.1 2 0).toInt → s.1 30 k = s.1 30 k := by exact fun k _ => rfl
                  have n149d : (u_2_0).toInt ≤ (u_2_0).toInt := by have a0 := (inv_F hI 448 28000 rfl e_30_0); unfold In at a0; have a1 := (inv_F hI 0 32 rfl e_2_1); unfold In at a1; have a2 := i1x10; unfold In at a2; have a3 := h1; unfold In at a3; have a4 := i142x9a; unfold In at a4; omega
                  have n149e : (s.2.2.1 2 0).toInt ≤ (s.2.2.1 2 0).toInt := by have b0 : u_2_0 = s.2.2.1 2 0 := e_2_0; first | (rw [← b0, ← e_2_0]; exact n149d) | (rw [← b0]; exact n149d)
                  exact g_ireturn (gd rfl) rfl (nb01 (in_w 0 1 (in_c 0 rfl) rfl)) (hP _ _ ⟨(A 30), s, hI, fr_rf, n149e, (Int32.ofInt 0), rfl, (by rw [ax_id]), in_w 0 1 (in_c 0 rfl) rfl, n149, n149a, n149b, n149c⟩)
              · skip
                have i142x19 := r_ne1 0 31 c142x19 i142x17 (in_c (-1) rfl) rfl
                refine g_iconst 1 23 (gd rfl) rfl rfl ?_
                refine g_goto 27 (gd rfl) rfl ?_
                refine g_ireturn (gd rfl) rfl (nb01 (in_w 0 1 (in_c 1 rfl) rfl)) (hp142 _ _ ?_)
                show GG _ _ _ _ _ _ _ _ [.int (Int32.ofInt 1)] _ _ _
                refine g_if_ne 148 150 (gd rfl) rfl rfl (fun c145 => ?_) (fun c145 => ?_)
                · skip
                  refine g_iload_n 151 (gd rfl) rfl rfl ?_
                  refine g_bipush 19 153 (gd rfl) rfl rfl ?_
                  refine g_cmp_ne 156 168 (gd rfl) rfl rfl (fun c153 => ?_) (fun c153 => ?_)
                  · skip
                    refine g_aload_n 169 (gd rfl) rfl rfl ?_
                    refine g_getA (q2 := 31) 172 (gd rfl) rfl rfl rfl rfl ?_
                    refine g_iconst 1 173 (gd rfl) rfl rfl ?_
                    refine g_iaload 174 (gd rfl) rfl (n := 5) rfl (in_ix (in_c 1 rfl) rfl) (fun z173 e173 => ?_)
                    refine g_calls (As := [.int z173]) (r := []) 177 (gd rfl) rfl rfl rfl rfl rfl (Nat.le_of_ble_eq_true rfl) (mc := 0) (ms := 0) (Nat.zero_le _) (Nat.zero_le _) (P := fun v u => _) ?_ (fun v u h => h)
                    intro po174 xx174 hp174 hx174
                    refine g_enter2 (k := 261) (N := 300) (by omega) rfl (Nat.le_of_ble_eq_true rfl) ?_
                    refine g_iload_n 1 (gd rfl) rfl rfl ?_
                    refine g_ldc_w (-1000000) 4 (gd rfl) rfl rfl ?_
                    refine g_cmp_lt 7 18 (gd rfl) rfl rfl (fun c174x4 => ?_) (fun c174x4 => ?_)
                    · skip
                      have i174x4 := r_lt1 (-2147483648) (-1000001) c174x4 (i_rng z173) (in_c (-1000000) rfl) rfl
                      refine g_iconst 0 19 (gd rfl) rfl rfl ?_
                      refine g_ireturn (gd rfl) rfl (nb01 (in_w 0 1 (in_c 0 rfl) rfl)) (hp174 _ _ ?_)
                      show GG _ _ _ _ _ _ _ _ [.int (Int32.ofInt 0)] _ _ _
                      refine g_if_ne 180 182 (gd rfl) rfl rfl (fun c177 => ?_) (fun c177 => ?_)
                      · skip
                        exact zn_ne c177 (in_c 0 rfl) rfl
                      · skip
                        refine g_iconst 0 181 (gd rfl) rfl rfl ?_
                        have n181 : KL s := by exact q_0
                        have n181a : ((Int32.ofInt 0)).toInt ≠ 0 → (s.2.2.1 30 0).toInt = nln s := by intro h; exact absurd rfl h
                        have n181b : ((Int32.ofInt 0)).toInt ≠ 0 → (s.2.2.1 2 0).toInt ≤ 3999 := by first | (intro h; exact absurd rfl h) | (intro _; rw [← e_2_0]; have a0 := (inv_F hI 448 28000 rfl e_30_0); unfold In at a0; have a1 := (inv_F hI 0 32 rfl e_2_1); unfold In at a1; have a2 := i1x10; unfold In at a2; have a3 := h1; unfold In at a3; have a4 := i142x9a; unfold In at a4; omega)
                        have n181c : ∀ k : Nat, (k : Int) < 7 * (s.2.2.1 2 0).toInt → s.1 30 k = s.1 30 k := by exact fun k _ => rfl
                        have n181d : (u_2_0).toInt ≤ (u_2_0).toInt := by have a0 := (inv_F hI 448 28000 rfl e_30_0); unfold In at a0; have a1 := (inv_F hI 0 32 rfl e_2_1); unfold In at a1; have a2 := i1x10; unfold In at a2; have a3 := h1; unfold In at a3; have a4 := i142x9a; unfold In at a4; omega
                        have n181e : (s.2.2.1 2 0).toInt ≤ (s.2.2.1 2 0).toInt := by have b0 : u_2_0 = s.2.2.1 2 0 := e_2_0; first | (rw [← b0, ← e_2_0]; exact n181d) | (rw [← b0]; exact n181d)
                        exact g_ireturn (gd rfl) rfl (nb01 (in_w 0 1 (in_c 0 rfl) rfl)) (hP _ _ ⟨(A 30), s, hI, fr_rf, n181e, (Int32.ofInt 0), rfl, (by rw [ax_id]), in_w 0 1 (in_c 0 rfl) rfl, n181, n181a, n181b, n181c⟩)
                    · skip
                      have i174x4 := r_le2 (-1000000) 2147483647 c174x4 (in_c (-1000000) rfl) (i_rng z173) rfl
                      refine g_iload_n 8 (gd rfl) rfl rfl ?_
                      refine g_ldc_w 1000000 11 (gd rfl) rfl rfl ?_
                      refine g_cmp_gt 14 18 (gd rfl) rfl rfl (fun c174x11 => ?_) (fun c174x11 => ?_)
                      · skip
                        have i174x11 := r_lt2 1000001 2147483647 c174x11 (in_c 1000000 rfl) i174x4 rfl
                        refine g_iconst 0 19 (gd rfl) rfl rfl ?_
                        refine g_ireturn (gd rfl) rfl (nb01 (in_w 0 1 (in_c 0 rfl) rfl)) (hp174 _ _ ?_)
                        show GG _ _ _ _ _ _ _ _ [.int (Int32.ofInt 0)] _ _ _
                        refine g_if_ne 180 182 (gd rfl) rfl rfl (fun c177 => ?_) (fun c177 => ?_)
                        · skip
                          exact zn_ne c177 (in_c 0 rfl) rfl
                        · skip
                          refine g_iconst 0 181 (gd rfl) rfl rfl ?_
                          have n181 : KL s := by exact q_0
                          have n181a : ((Int32.ofInt 0)).toInt ≠ 0 → (s.2.2.1 30 0).toInt = nln s := by intro h; exact absurd rfl h
                          have n181b : ((Int32.ofInt 0)).toInt ≠ 0 → (s.2.2.1 2 0).toInt ≤ 3999 := by first | (intro h; exact absurd rfl h) | (intro _; rw [← e_2_0]; have a0 := (inv_F hI 448 28000 rfl e_30_0); unfold In at a0; have a1 := (inv_F hI 0 32 rfl e_2_1); unfold In at a1; have a2 := i1x10; unfold In at a2; have a3 := h1; unfold In at a3; have a4 := i142x9a; unfold In at a4; omega)
                          have n181c : ∀ k : Nat, (k : Int) < 7 * (s.2.2.1 2 0).toInt → s.1 30 k = s.1 30 k := by exact fun k _ => rfl
                          have n181d : (u_2_0).toInt ≤ (u_2_0).toInt := by have a0 := (inv_F hI 448 28000 rfl e_30_0); unfold In at a0; have a1 := (inv_F hI 0 32 rfl e_2_1); unfold In at a1; have a2 := i1x10; unfold In at a2; have a3 := h1; unfold In at a3; have a4 := i142x9a; unfold In at a4; omega
                          have n181e : (s.2.2.1 2 0).toInt ≤ (s.2.2.1 2 0).toInt := by have b0 : u_2_0 = s.2.2.1 2 0 := e_2_0; first | (rw [← b0, ← e_2_0]; exact n181d) | (rw [← b0]; exact n181d)
                          exact g_ireturn (gd rfl) rfl (nb01 (in_w 0 1 (in_c 0 rfl) rfl)) (hP _ _ ⟨(A 30), s, hI, fr_rf, n181e, (Int32.ofInt 0), rfl, (by rw [ax_id]), in_w 0 1 (in_c 0 rfl) rfl, n181, n181a, n181b, n181c⟩)
                      · skip
                        have i174x11 := r_le1 (-1000000) 1000000 c174x11 i174x4 (in_c 1000000 rfl) rfl
                        refine g_iconst 1 15 (gd rfl) rfl rfl ?_
                        refine g_goto 19 (gd rfl) rfl ?_
                        refine g_ireturn (gd rfl) rfl (nb01 (in_w 0 1 (in_c 1 rfl) rfl)) (hp174 _ _ ?_)
                        show GG _ _ _ _ _ _ _ _ [.int (Int32.ofInt 1)] _ _ _
                        refine g_if_ne 180 182 (gd rfl) rfl rfl (fun c177 => ?_) (fun c177 => ?_)
                        · skip
                          refine g_aload_n 183 (gd rfl) rfl rfl ?_
                          refine g_aload_n 184 (gd rfl) rfl rfl ?_
                          refine g_getA (q2 := 31) 187 (gd rfl) rfl rfl rfl rfl ?_
                          refine g_iconst 0 188 (gd rfl) rfl rfl ?_
                          refine g_iaload 189 (gd rfl) rfl (n := 5) rfl (in_ix (in_c 0 rfl) rfl) (fun z188 e188 => ?_)
                          have q188 : z141 = z188 := (e141).trans e188.symm
                          subst q188
                          refine g_iconst 0 190 (gd rfl) rfl rfl ?_
                          refine g_aload_n 191 (gd rfl) rfl rfl ?_
                          refine g_getA (q2 := 31) 194 (gd rfl) rfl rfl rfl rfl ?_
                          refine g_iconst 1 195 (gd rfl) rfl rfl ?_
                          refine g_iaload 196 (gd rfl) rfl (n := 5) rfl (in_ix (in_c 1 rfl) rfl) (fun z195 e195 => ?_)
                          have q195 : z173 = z195 := (e173).trans e195.symm
                          subst q195
                          have p196 : KL s := by exact q_0
                          have p196a : ((Int32.ofInt 0)).toInt = 0 → In z173 (-1000000) 1000000 := by intro _; exact in_w (-1000000) 1000000 i174x11 rfl
                          have p196b : ((Int32.ofInt 0)).toInt = 1 → In z173 0 1000000 := by intro h; exact absurd h (by decide)
                          have p196c : ((Int32.ofInt 0)).toInt ≠ 0 → ((Int32.ofInt 0)).toInt ≠ 1 → In z173 0 25 := by intro h; exact absurd rfl h
                          refine g_callv (X := _) (As := [.int z141, .int (Int32.ofInt 0), .int z173]) (r := []) (b := A 1) (q := 1) 199 (gd rfl) rfl rfl rfl rfl rfl (ww_o rfl) (Nat.le_of_ble_eq_true rfl) (Nat.le_of_eq (lc_cg ((show Fr ([], [], [], []) s s from fr_rf).2.2.1 30 0 rfl) ((show Fr ([], [], [], []) s s from fr_rf).2.2.1 2 0 rfl)).1) (Nat.le_of_eq (lc_cg ((show Fr ([], [], [], []) s s from fr_rf).2.2.1 30 0 rfl) ((show Fr ([], [], [], []) s s from fr_rf).2.2.1 2 0 rfl)).2.1) (k_127_1 (by omega) hI (in_w 0 159 i142x9 rfl) e_2_0 e_2_1 e_30_0 (in_w 0 3999 i1x10 rfl) p196 p196a p196b p196c) (fun e u h => h) (fun v u h => ?_)
                          obtain ⟨a196, s196, hI196, hF196, n196, rfl, rfl, p196d, p196e, p196f⟩ := h
                          obtain ⟨z196a, e196⟩ : ∃ w, w = s196.2.2.1 2 0 := ⟨_, rfl⟩
                          have i196a := inv_F hI196 0 4000 rfl e196
                          rw [← (show u_2_0 = s.2.2.1 2 0 from e_2_0)] at n196
                          rw [← (show z196a = s196.2.2.1 2 0 from e196)] at n196
                          show GG _ _ _ _ _ _ _ _ [] _ _ _
                          refine g_iconst 1 200 (gd rfl) rfl rfl ?_
                          have n200 : KL s196 := by exact p196d
                          have n200a : ((Int32.ofInt 1)).toInt ≠ 0 → (s196.2.2.1 30 0).toInt = nln s := by intro _; exact p196e
                          have n200b : ((Int32.ofInt 1)).toInt ≠ 0 → (s.2.2.1 2 0).toInt ≤ 3999 := by first | (intro h; exact absurd rfl h) | (intro _; rw [← e_2_0]; have a0 := (inv_F hI 448 28000 rfl e_30_0); unfold In at a0; have a1 := (inv_F hI 0 32 rfl e_2_1); unfold In at a1; have a2 := i1x10; unfold In at a2; have a3 := h1; unfold In at a3; have a4 := i196a; unfold In at a4; omega)
                          have n200c : ∀ k : Nat, (k : Int) < 7 * (s.2.2.1 2 0).toInt → s196.1 30 k = s.1 30 k := by exact p196f
                          have n200d : (u_2_0).toInt ≤ (z196a).toInt := by have a0 := (inv_F hI 448 28000 rfl e_30_0); unfold In at a0; have a1 := (inv_F hI 0 32 rfl e_2_1); unfold In at a1; have a2 := i1x10; unfold In at a2; have a3 := h1; unfold In at a3; have a4 := i196a; unfold In at a4; omega
                          have n200e : (s.2.2.1 2 0).toInt ≤ (s196.2.2.1 2 0).toInt := by have b0 : z196a = s196.2.2.1 2 0 := e196; first | (rw [← b0, ← e_2_0]; exact n200d) | (rw [← b0]; exact n200d)
                          exact g_ireturn (gd rfl) rfl (nb01 (in_w 0 1 (in_c 1 rfl) rfl)) (hP _ _ ⟨a196, s196, hI196, (fr_tr rfl fr_rf hF196), n200e, (Int32.ofInt 1), rfl, rfl, in_w 0 1 (in_c 1 rfl) rfl, n200, n200a, n200b, n200c⟩)
                        · skip
                          exact zn_eq c177 (in_c 1 rfl) rfl
                  · skip
                    have i153 := r_eq1 19 19 c153 h1 (in_c 19 rfl) rfl
                    refine g_aload_n 157 (gd rfl) rfl rfl ?_
                    refine g_aload_n 158 (gd rfl) rfl rfl ?_
                    refine g_getA (q2 := 31) 161 (gd rfl) rfl rfl rfl rfl ?_
                    refine g_iconst 0 162 (gd rfl) rfl rfl ?_
                    refine g_iaload 163 (gd rfl) rfl (n := 5) rfl (in_ix (in_c 0 rfl) rfl) (fun z162 e162 => ?_)
                    have q162 : z141 = z162 := (e141).trans e162.symm
                    subst q162
                    have p163 : KL s := by exact q_0
                    refine g_callv (X := _) (As := [.int z141]) (r := []) (b := A 1) (q := 1) 166 (gd rfl) rfl rfl rfl rfl rfl (ww_o rfl) (Nat.le_of_ble_eq_true rfl) (Nat.le_of_eq (lc_cg ((show Fr ([], [], [], []) s s from fr_rf).2.2.1 30 0 rfl) ((show Fr ([], [], [], []) s s from fr_rf).2.2.1 2 0 rfl)).1) (Nat.le_of_eq (lc_cg ((show Fr ([], [], [], []) s s from fr_rf).2.2.1 30 0 rfl) ((show Fr ([], [], [], []) s s from fr_rf).2.2.1 2 0 rfl)).2.1) (k_126_1 (by omega) hI (in_w 0 159 i142x9 rfl) e_2_0 e_2_1 e_30_0 (in_w 0 3999 i1x10 rfl) p163) (fun e u h => h) (fun v u h => ?_)
                    obtain ⟨a163, s163, hI163, hF163, n163, rfl, rfl, p163a, p163b, p163c⟩ := h
                    obtain ⟨z163a, e163⟩ : ∃ w, w = s163.2.2.1 2 0 := ⟨_, rfl⟩
                    have i163a := inv_F hI163 0 4000 rfl e163
                    rw [← (show u_2_0 = s.2.2.1 2 0 from e_2_0)] at n163
                    rw [← (show z163a = s163.2.2.1 2 0 from e163)] at n163
                    show GG _ _ _ _ _ _ _ _ [] _ _ _
                    refine g_iconst 1 167 (gd rfl) rfl rfl ?_
                    have n167 : KL s163 := by exact p163a
                    have n167a : ((Int32.ofInt 1)).toInt ≠ 0 → (s163.2.2.1 30 0).toInt = nln s := by intro _; exact p163b
                    have n167b : ((Int32.ofInt 1)).toInt ≠ 0 → (s.2.2.1 2 0).toInt ≤ 3999 := by first | (intro h; exact absurd rfl h) | (intro _; rw [← e_2_0]; have a0 := (inv_F hI 448 28000 rfl e_30_0); unfold In at a0; have a1 := (inv_F hI 0 32 rfl e_2_1); unfold In at a1; have a2 := i1x10; unfold In at a2; have a3 := i153; unfold In at a3; have a4 := i163a; unfold In at a4; omega)
                    have n167c : ∀ k : Nat, (k : Int) < 7 * (s.2.2.1 2 0).toInt → s163.1 30 k = s.1 30 k := by exact p163c
                    have n167d : (u_2_0).toInt ≤ (z163a).toInt := by have a0 := (inv_F hI 448 28000 rfl e_30_0); unfold In at a0; have a1 := (inv_F hI 0 32 rfl e_2_1); unfold In at a1; have a2 := i1x10; unfold In at a2; have a3 := i153; unfold In at a3; have a4 := i163a; unfold In at a4; omega
                    have n167e : (s.2.2.1 2 0).toInt ≤ (s163.2.2.1 2 0).toInt := by have b0 : z163a = s163.2.2.1 2 0 := e163; first | (rw [← b0, ← e_2_0]; exact n167d) | (rw [← b0]; exact n167d)
                    exact g_ireturn (gd rfl) rfl (nb01 (in_w 0 1 (in_c 1 rfl) rfl)) (hP _ _ ⟨a163, s163, hI163, (fr_tr rfl fr_rf hF163), n167e, (Int32.ofInt 1), rfl, rfl, in_w 0 1 (in_c 1 rfl) rfl, n167, n167a, n167b, n167c⟩)
                · skip
                  exact zn_eq c145 (in_c 1 rfl) rfl
        · skip
          have i47 := z_eq 0 0 c47 h1 rfl
          refine g_aload_n 51 (gd rfl) rfl rfl ?_
          refine g_aload_n 52 (gd rfl) rfl rfl ?_
          refine g_getA (q2 := 31) 55 (gd rfl) rfl rfl rfl rfl ?_
          refine g_iconst 0 56 (gd rfl) rfl rfl ?_
          refine g_iaload 57 (gd rfl) rfl (n := 5) rfl (in_ix (in_c 0 rfl) rfl) (fun z56 e56 => ?_)
          refine g_aload_n 58 (gd rfl) rfl rfl ?_
          refine g_getA (q2 := 31) 61 (gd rfl) rfl rfl rfl rfl ?_
          refine g_iconst 1 62 (gd rfl) rfl rfl ?_
          refine g_iaload 63 (gd rfl) rfl (n := 5) rfl (in_ix (in_c 1 rfl) rfl) (fun z62 e62 => ?_)
          refine g_aload_n 64 (gd rfl) rfl rfl ?_
          refine g_getA (q2 := 31) 67 (gd rfl) rfl rfl rfl rfl ?_
          refine g_iconst 2 68 (gd rfl) rfl rfl ?_
          refine g_iaload 69 (gd rfl) rfl (n := 5) rfl (in_ix (in_c 2 rfl) rfl) (fun z68 e68 => ?_)
          refine g_aload_n 70 (gd rfl) rfl rfl ?_
          refine g_getA (q2 := 31) 73 (gd rfl) rfl rfl rfl rfl ?_
          refine g_iconst 3 74 (gd rfl) rfl rfl ?_
          refine g_iaload 75 (gd rfl) rfl (n := 5) rfl (in_ix (in_c 3 rfl) rfl) (fun z74 e74 => ?_)
          refine g_aload_n 76 (gd rfl) rfl rfl ?_
          refine g_getA (q2 := 31) 79 (gd rfl) rfl rfl rfl rfl ?_
          refine g_iconst 4 80 (gd rfl) rfl rfl ?_
          refine g_iaload 81 (gd rfl) rfl (n := 5) rfl (in_ix (in_c 4 rfl) rfl) (fun z80 e80 => ?_)
          refine g_callv (X := _) (As := [.int z56, .int z62, .int z68, .int z74, .int z80]) (r := []) (b := A 1) (q := 1) 84 (gd rfl) rfl rfl rfl rfl rfl (ww_o rfl) (Nat.le_of_ble_eq_true rfl) (mc := 0) (ms := 0) (Nat.zero_le _) (Nat.zero_le _) (P := fun v u => _) ?_ (fun e u h => h) (fun v u h => h)
          intro po81 xx81 hp81 hx81
          refine g_enter2 (k := 123) (N := 300) (by omega) rfl (Nat.le_of_ble_eq_true rfl) ?_
          refine g_aload_n 1 (gd rfl) rfl rfl ?_
          refine g_getA (q2 := 2) 4 (gd rfl) rfl rfl rfl rfl ?_
          refine g_iload_n 5 (gd rfl) rfl rfl ?_
          refine g_callv (X := _) (As := [.int z56]) (r := []) (b := A 2) (q := 2) 8 (gd rfl) rfl rfl rfl rfl rfl (ww_o rfl) (Nat.le_of_ble_eq_true rfl) (mc := 0) (ms := 0) (Nat.zero_le _) (Nat.zero_le _) (P := fun v u => _) ?_ (fun e u h => h) (fun v u h => h)
          intro po81x5 xx81x5 hp81x5 hx81x5
          refine g_enter2 (k := 94) (N := 300) (by omega) rfl (Nat.le_of_ble_eq_true rfl) ?_
          refine g_iload_n 1 (gd rfl) rfl rfl ?_
          refine g_if_lt 4 16 (gd rfl) rfl rfl (fun c81x5x1 => ?_) (fun c81x5x1 => ?_)
          · skip
            have i81x5x1 := z_lt (-2147483648) (-1) c81x5x1 (i_rng z56) rfl
            refine g_iconst 0 17 (gd rfl) rfl rfl ?_
            refine g_ireturn (gd rfl) rfl (nb01 (in_w 0 1 (in_c 0 rfl) rfl)) (hp81x5 _ _ ?_)
            show GG _ _ _ _ _ _ _ _ [.int (Int32.ofInt 0)] _ _ _
            refine g_if_eq 11 49 (gd rfl) rfl rfl (fun c81x8 => ?_) (fun c81x8 => ?_)
            · skip
              refine g_iconst 0 50 (gd rfl) rfl rfl ?_
              refine g_ireturn (gd rfl) rfl (nb01 (in_w 0 1 (in_c 0 rfl) rfl)) (hp81 _ _ ?_)
              show GG _ _ _ _ _ _ _ _ [.int (Int32.ofInt 0)] _ _ _
              refine g_if_eq 87 130 (gd rfl) rfl rfl (fun c84 => ?_) (fun c84 => ?_)
              · skip
                refine g_iconst 0 131 (gd rfl) rfl rfl ?_
                have n131 : KL s := by exact q_0
                have n131a : ((Int32.ofInt 0)).toInt ≠ 0 → (s.2.2.1 30 0).toInt = nln s := by intro h; exact absurd rfl h
                have n131b : ((Int32.ofInt 0)).toInt ≠ 0 → (s.2.2.1 2 0).toInt ≤ 3999 := by first | (intro h; exact absurd rfl h) | (intro _; rw [← e_2_0]; have a0 := (inv_F hI 448 28000 rfl e_30_0); unfold In at a0; have a1 := (inv_F hI 0 32 rfl e_2_1); unfold In at a1; have a2 := i1x10; unfold In at a2; have a3 := i47; unfold In at a3; omega)
                have n131c : ∀ k : Nat, (k : Int) < 7 * (s.2.2.1 2 0).toInt → s.1 30 k = s.1 30 k := by exact fun k _ => rfl
                have n131d : (u_2_0).toInt ≤ (u_2_0).toInt := by have a0 := (inv_F hI 448 28000 rfl e_30_0); unfold In at a0; have a1 := (inv_F hI 0 32 rfl e_2_1); unfold In at a1; have a2 := i1x10; unfold In at a2; have a3 := i47; unfold In at a3; omega
                have n131e : (s.2.2.1 2 0).toInt ≤ (s.2.2.1 2 0).toInt := by have b0 : u_2_0 = s.2.2.1 2 0 := e_2_0; first | (rw [← b0, ← e_2_0]; exact n131d) | (rw [← b0]; exact n131d)
                exact g_ireturn (gd rfl) rfl (nb01 (in_w 0 1 (in_c 0 rfl) rfl)) (hP _ _ ⟨(A 30), s, hI, fr_rf, n131e, (Int32.ofInt 0), rfl, (by rw [ax_id]), in_w 0 1 (in_c 0 rfl) rfl, n131, n131a, n131b, n131c⟩)
              · skip
                exact zn_ne c84 (in_c 0 rfl) rfl
            · skip
              exact zn_ne c81x8 (in_c 0 rfl) rfl
          · skip
            have i81x5x1 := z_ge 0 2147483647 c81x5x1 (i_rng z56) rfl
            refine g_iload_n 5 (gd rfl) rfl rfl ?_
            refine g_aload_n 6 (gd rfl) rfl rfl ?_
            refine g_getI 9 (gd rfl) rfl rfl rfl (fun z81x5x6 e81x5x6 => ?_)
            have q81x5x6 : u_2_1 = z81x5x6 := (e_2_1).trans e81x5x6.symm
            subst q81x5x6
            refine g_cmp_ge 12 16 (gd rfl) rfl rfl (fun c81x5x9 => ?_) (fun c81x5x9 => ?_)
            · skip
              refine g_iconst 0 17 (gd rfl) rfl rfl ?_
              refine g_ireturn (gd rfl) rfl (nb01 (in_w 0 1 (in_c 0 rfl) rfl)) (hp81x5 _ _ ?_)
              show GG _ _ _ _ _ _ _ _ [.int (Int32.ofInt 0)] _ _ _
              refine g_if_eq 11 49 (gd rfl) rfl rfl (fun c81x8 => ?_) (fun c81x8 => ?_)
              · skip
                refine g_iconst 0 50 (gd rfl) rfl rfl ?_
                refine g_ireturn (gd rfl) rfl (nb01 (in_w 0 1 (in_c 0 rfl) rfl)) (hp81 _ _ ?_)
                show GG _ _ _ _ _ _ _ _ [.int (Int32.ofInt 0)] _ _ _
                refine g_if_eq 87 130 (gd rfl) rfl rfl (fun c84 => ?_) (fun c84 => ?_)
                · skip
                  refine g_iconst 0 131 (gd rfl) rfl rfl ?_
                  have n131 : KL s := by exact q_0
                  have n131a : ((Int32.ofInt 0)).toInt ≠ 0 → (s.2.2.1 30 0).toInt = nln s := by intro h; exact absurd rfl h
                  have n131b : ((Int32.ofInt 0)).toInt ≠ 0 → (s.2.2.1 2 0).toInt ≤ 3999 := by first | (intro h; exact absurd rfl h) | (intro _; rw [← e_2_0]; have a0 := (inv_F hI 448 28000 rfl e_30_0); unfold In at a0; have a1 := (inv_F hI 0 32 rfl e_2_1); unfold In at a1; have a2 := i1x10; unfold In at a2; have a3 := i47; unfold In at a3; omega)
                  have n131c : ∀ k : Nat, (k : Int) < 7 * (s.2.2.1 2 0).toInt → s.1 30 k = s.1 30 k := by exact fun k _ => rfl
                  have n131d : (u_2_0).toInt ≤ (u_2_0).toInt := by have a0 := (inv_F hI 448 28000 rfl e_30_0); unfold In at a0; have a1 := (inv_F hI 0 32 rfl e_2_1); unfold In at a1; have a2 := i1x10; unfold In at a2; have a3 := i47; unfold In at a3; omega
                  have n131e : (s.2.2.1 2 0).toInt ≤ (s.2.2.1 2 0).toInt := by have b0 : u_2_0 = s.2.2.1 2 0 := e_2_0; first | (rw [← b0, ← e_2_0]; exact n131d) | (rw [← b0]; exact n131d)
                  exact g_ireturn (gd rfl) rfl (nb01 (in_w 0 1 (in_c 0 rfl) rfl)) (hP _ _ ⟨(A 30), s, hI, fr_rf, n131e, (Int32.ofInt 0), rfl, (by rw [ax_id]), in_w 0 1 (in_c 0 rfl) rfl, n131, n131a, n131b, n131c⟩)
                · skip
                  exact zn_ne c84 (in_c 0 rfl) rfl
              · skip
                exact zn_ne c81x8 (in_c 0 rfl) rfl
            · skip
              have i81x5x9 := r_lt1 0 31 c81x5x9 i81x5x1 (inv_F hI 0 32 rfl e_2_1) rfl
              have i81x5x9a := r_lt2 1 32 c81x5x9 i81x5x1 (inv_F hI 0 32 rfl e_2_1) rfl
              refine g_iconst 1 13 (gd rfl) rfl rfl ?_
              refine g_goto 17 (gd rfl) rfl ?_
              refine g_ireturn (gd rfl) rfl (nb01 (in_w 0 1 (in_c 1 rfl) rfl)) (hp81x5 _ _ ?_)
              show GG _ _ _ _ _ _ _ _ [.int (Int32.ofInt 1)] _ _ _
              refine g_if_eq 11 49 (gd rfl) rfl rfl (fun c81x8 => ?_) (fun c81x8 => ?_)
              · skip
                exact zn_eq c81x8 (in_c 1 rfl) rfl
              · skip
                refine g_aload_n 12 (gd rfl) rfl rfl ?_
                refine g_getA (q2 := 2) 15 (gd rfl) rfl rfl rfl rfl ?_
                refine g_iload_n 16 (gd rfl) rfl rfl ?_
                refine g_callv (X := _) (As := [.int z62]) (r := []) (b := A 2) (q := 2) 19 (gd rfl) rfl rfl rfl rfl rfl (ww_o rfl) (Nat.le_of_ble_eq_true rfl) (mc := 0) (ms := 0) (Nat.zero_le _) (Nat.zero_le _) (P := fun v u => _) ?_ (fun e u h => h) (fun v u h => h)
                intro po81x16 xx81x16 hp81x16 hx81x16
                refine g_enter2 (k := 94) (N := 300) (by omega) rfl (Nat.le_of_ble_eq_true rfl) ?_
                refine g_iload_n 1 (gd rfl) rfl rfl ?_
                refine g_if_lt 4 16 (gd rfl) rfl rfl (fun c81x16x1 => ?_) (fun c81x16x1 => ?_)
                · skip
                  have i81x16x1 := z_lt (-2147483648) (-1) c81x16x1 (i_rng z62) rfl
                  refine g_iconst 0 17 (gd rfl) rfl rfl ?_
                  refine g_ireturn (gd rfl) rfl (nb01 (in_w 0 1 (in_c 0 rfl) rfl)) (hp81x16 _ _ ?_)
                  show GG _ _ _ _ _ _ _ _ [.int (Int32.ofInt 0)] _ _ _
                  refine g_if_eq 22 49 (gd rfl) rfl rfl (fun c81x19 => ?_) (fun c81x19 => ?_)
                  · skip
                    refine g_iconst 0 50 (gd rfl) rfl rfl ?_
                    refine g_ireturn (gd rfl) rfl (nb01 (in_w 0 1 (in_c 0 rfl) rfl)) (hp81 _ _ ?_)
                    show GG _ _ _ _ _ _ _ _ [.int (Int32.ofInt 0)] _ _ _
                    refine g_if_eq 87 130 (gd rfl) rfl rfl (fun c84 => ?_) (fun c84 => ?_)
                    · skip
                      refine g_iconst 0 131 (gd rfl) rfl rfl ?_
                      have n131 : KL s := by exact q_0
                      have n131a : ((Int32.ofInt 0)).toInt ≠ 0 → (s.2.2.1 30 0).toInt = nln s := by intro h; exact absurd rfl h
                      have n131b : ((Int32.ofInt 0)).toInt ≠ 0 → (s.2.2.1 2 0).toInt ≤ 3999 := by first | (intro h; exact absurd rfl h) | (intro _; rw [← e_2_0]; have a0 := (inv_F hI 448 28000 rfl e_30_0); unfold In at a0; have a1 := i81x5x9a; unfold In at a1; have a2 := i1x10; unfold In at a2; have a3 := i47; unfold In at a3; omega)
                      have n131c : ∀ k : Nat, (k : Int) < 7 * (s.2.2.1 2 0).toInt → s.1 30 k = s.1 30 k := by exact fun k _ => rfl
                      have n131d : (u_2_0).toInt ≤ (u_2_0).toInt := by have a0 := (inv_F hI 448 28000 rfl e_30_0); unfold In at a0; have a1 := i81x5x9a; unfold In at a1; have a2 := i1x10; unfold In at a2; have a3 := i47; unfold In at a3; omega
                      have n131e : (s.2.2.1 2 0).toInt ≤ (s.2.2.1 2 0).toInt := by have b0 : u_2_0 = s.2.2.1 2 0 := e_2_0; first | (rw [← b0, ← e_2_0]; exact n131d) | (rw [← b0]; exact n131d)
                      exact g_ireturn (gd rfl) rfl (nb01 (in_w 0 1 (in_c 0 rfl) rfl)) (hP _ _ ⟨(A 30), s, hI, fr_rf, n131e, (Int32.ofInt 0), rfl, (by rw [ax_id]), in_w 0 1 (in_c 0 rfl) rfl, n131, n131a, n131b, n131c⟩)
                    · skip
                      exact zn_ne c84 (in_c 0 rfl) rfl
                  · skip
                    exact zn_ne c81x19 (in_c 0 rfl) rfl
                · skip
                  have i81x16x1 := z_ge 0 2147483647 c81x16x1 (i_rng z62) rfl
                  refine g_iload_n 5 (gd rfl) rfl rfl ?_
                  refine g_aload_n 6 (gd rfl) rfl rfl ?_
                  refine g_getI 9 (gd rfl) rfl rfl rfl (fun z81x16x6 e81x16x6 => ?_)
                  have q81x16x6 : u_2_1 = z81x16x6 := (e_2_1).trans e81x16x6.symm
                  subst q81x16x6
                  refine g_cmp_ge 12 16 (gd rfl) rfl rfl (fun c81x16x9 => ?_) (fun c81x16x9 => ?_)
                  · skip
                    have i81x16x9 := r_le2 1 2147483647 c81x16x9 i81x5x9a i81x16x1 rfl
                    refine g_iconst 0 17 (gd rfl) rfl rfl ?_
                    refine g_ireturn (gd rfl) rfl (nb01 (in_w 0 1 (in_c 0 rfl) rfl)) (hp81x16 _ _ ?_)
                    show GG _ _ _ _ _ _ _ _ [.int (Int32.ofInt 0)] _ _ _
                    refine g_if_eq 22 49 (gd rfl) rfl rfl (fun c81x19 => ?_) (fun c81x19 => ?_)
                    · skip
                      refine g_iconst 0 50 (gd rfl) rfl rfl ?_
                      refine g_ireturn (gd rfl) rfl (nb01 (in_w 0 1 (in_c 0 rfl) rfl)) (hp81 _ _ ?_)
                      show GG _ _ _ _ _ _ _ _ [.int (Int32.ofInt 0)] _ _ _
                      refine g_if_eq 87 130 (gd rfl) rfl rfl (fun c84 => ?_) (fun c84 => ?_)
                      · skip
                        refine g_iconst 0 131 (gd rfl) rfl rfl ?_
                        have n131 : KL s := by exact q_0
                        have n131a : ((Int32.ofInt 0)).toInt ≠ 0 → (s.2.2.1 30 0).toInt = nln s := by intro h; exact absurd rfl h
                        have n131b : ((Int32.ofInt 0)).toInt ≠ 0 → (s.2.2.1 2 0).toInt ≤ 3999 := by first | (intro h; exact absurd rfl h) | (intro _; rw [← e_2_0]; have a0 := (inv_F hI 448 28000 rfl e_30_0); unfold In at a0; have a1 := i81x5x9a; unfold In at a1; have a2 := i1x10; unfold In at a2; have a3 := i47; unfold In at a3; omega)
                        have n131c : ∀ k : Nat, (k : Int) < 7 * (s.2.2.1 2 0).toInt → s.1 30 k = s.1 30 k := by exact fun k _ => rfl
                        have n131d : (u_2_0).toInt ≤ (u_2_0).toInt := by have a0 := (inv_F hI 448 28000 rfl e_30_0); unfold In at a0; have a1 := i81x5x9a; unfold In at a1; have a2 := i1x10; unfold In at a2; have a3 := i47; unfold In at a3; omega
                        have n131e : (s.2.2.1 2 0).toInt ≤ (s.2.2.1 2 0).toInt := by have b0 : u_2_0 = s.2.2.1 2 0 := e_2_0; first | (rw [← b0, ← e_2_0]; exact n131d) | (rw [← b0]; exact n131d)
                        exact g_ireturn (gd rfl) rfl (nb01 (in_w 0 1 (in_c 0 rfl) rfl)) (hP _ _ ⟨(A 30), s, hI, fr_rf, n131e, (Int32.ofInt 0), rfl, (by rw [ax_id]), in_w 0 1 (in_c 0 rfl) rfl, n131, n131a, n131b, n131c⟩)
                      · skip
                        exact zn_ne c84 (in_c 0 rfl) rfl
                    · skip
                      exact zn_ne c81x19 (in_c 0 rfl) rfl
                  · skip
                    have i81x16x9 := r_lt1 0 31 c81x16x9 i81x16x1 i81x5x9a rfl
                    refine g_iconst 1 13 (gd rfl) rfl rfl ?_
                    refine g_goto 17 (gd rfl) rfl ?_
                    refine g_ireturn (gd rfl) rfl (nb01 (in_w 0 1 (in_c 1 rfl) rfl)) (hp81x16 _ _ ?_)
                    show GG _ _ _ _ _ _ _ _ [.int (Int32.ofInt 1)] _ _ _
                    refine g_if_eq 22 49 (gd rfl) rfl rfl (fun c81x19 => ?_) (fun c81x19 => ?_)
                    · skip
                      exact zn_eq c81x19 (in_c 1 rfl) rfl
                    · skip
                      refine g_iload_n 23 (gd rfl) rfl rfl ?_
                      refine g_calls (As := [.int z68]) (r := []) 26 (gd rfl) rfl rfl rfl rfl rfl (Nat.le_of_ble_eq_true rfl) (mc := 0) (ms := 0) (Nat.zero_le _) (Nat.zero_le _) (P := fun v u => _) ?_ (fun v u h => h)
                      intro po81x23 xx81x23 hp81x23 hx81x23
                      refine g_enter2 (k := 261) (N := 300) (by omega) rfl (Nat.le_of_ble_eq_true rfl) ?_
                      refine g_iload_n 1 (gd rfl) rfl rfl ?_
                      refine g_ldc_w (-1000000) 4 (gd rfl) rfl rfl ?_
                      refine g_cmp_lt 7 18 (gd rfl) rfl rfl (fun c81x23x4 => ?_) (fun c81x23x4 => ?_)
                      · skip
                        have i81x23x4 := r_lt1 (-2147483648) (-1000001) c81x23x4 (i_rng z68) (in_c (-1000000) rfl) rfl
                        refine g_iconst 0 19 (gd rfl) rfl rfl ?_
                        refine g_ireturn (gd rfl) rfl (nb01 (in_w 0 1 (in_c 0 rfl) rfl)) (hp81x23 _ _ ?_)
                        show GG _ _ _ _ _ _ _ _ [.int (Int32.ofInt 0)] _ _ _
                        refine g_if_eq 29 49 (gd rfl) rfl rfl (fun c81x26 => ?_) (fun c81x26 => ?_)
                        · skip
                          refine g_iconst 0 50 (gd rfl) rfl rfl ?_
                          refine g_ireturn (gd rfl) rfl (nb01 (in_w 0 1 (in_c 0 rfl) rfl)) (hp81 _ _ ?_)
                          show GG _ _ _ _ _ _ _ _ [.int (Int32.ofInt 0)] _ _ _
                          refine g_if_eq 87 130 (gd rfl) rfl rfl (fun c84 => ?_) (fun c84 => ?_)
                          · skip
                            refine g_iconst 0 131 (gd rfl) rfl rfl ?_
                            have n131 : KL s := by exact q_0
                            have n131a : ((Int32.ofInt 0)).toInt ≠ 0 → (s.2.2.1 30 0).toInt = nln s := by intro h; exact absurd rfl h
                            have n131b : ((Int32.ofInt 0)).toInt ≠ 0 → (s.2.2.1 2 0).toInt ≤ 3999 := by first | (intro h; exact absurd rfl h) | (intro _; rw [← e_2_0]; have a0 := (inv_F hI 448 28000 rfl e_30_0); unfold In at a0; have a1 := i81x5x9a; unfold In at a1; have a2 := i1x10; unfold In at a2; have a3 := i47; unfold In at a3; omega)
                            have n131c : ∀ k : Nat, (k : Int) < 7 * (s.2.2.1 2 0).toInt → s.1 30 k = s.1 30 k := by exact fun k _ => rfl
                            have n131d : (u_2_0).toInt ≤ (u_2_0).toInt := by have a0 := (inv_F hI 448 28000 rfl e_30_0); unfold In at a0; have a1 := i81x5x9a; unfold In at a1; have a2 := i1x10; unfold In at a2; have a3 := i47; unfold In at a3; omega
                            have n131e : (s.2.2.1 2 0).toInt ≤ (s.2.2.1 2 0).toInt := by have b0 : u_2_0 = s.2.2.1 2 0 := e_2_0; first | (rw [← b0, ← e_2_0]; exact n131d) | (rw [← b0]; exact n131d)
                            exact g_ireturn (gd rfl) rfl (nb01 (in_w 0 1 (in_c 0 rfl) rfl)) (hP _ _ ⟨(A 30), s, hI, fr_rf, n131e, (Int32.ofInt 0), rfl, (by rw [ax_id]), in_w 0 1 (in_c 0 rfl) rfl, n131, n131a, n131b, n131c⟩)
                          · skip
                            exact zn_ne c84 (in_c 0 rfl) rfl
                        · skip
                          exact zn_ne c81x26 (in_c 0 rfl) rfl
                      · skip
                        have i81x23x4 := r_le2 (-1000000) 2147483647 c81x23x4 (in_c (-1000000) rfl) (i_rng z68) rfl
                        refine g_iload_n 8 (gd rfl) rfl rfl ?_
                        refine g_ldc_w 1000000 11 (gd rfl) rfl rfl ?_
                        refine g_cmp_gt 14 18 (gd rfl) rfl rfl (fun c81x23x11 => ?_) (fun c81x23x11 => ?_)
                        · skip
                          have i81x23x11 := r_lt2 1000001 2147483647 c81x23x11 (in_c 1000000 rfl) i81x23x4 rfl
                          refine g_iconst 0 19 (gd rfl) rfl rfl ?_
                          refine g_ireturn (gd rfl) rfl (nb01 (in_w 0 1 (in_c 0 rfl) rfl)) (hp81x23 _ _ ?_)
                          show GG _ _ _ _ _ _ _ _ [.int (Int32.ofInt 0)] _ _ _
                          refine g_if_eq 29 49 (gd rfl) rfl rfl (fun c81x26 => ?_) (fun c81x26 => ?_)
                          · skip
                            refine g_iconst 0 50 (gd rfl) rfl rfl ?_
                            refine g_ireturn (gd rfl) rfl (nb01 (in_w 0 1 (in_c 0 rfl) rfl)) (hp81 _ _ ?_)
                            show GG _ _ _ _ _ _ _ _ [.int (Int32.ofInt 0)] _ _ _
                            refine g_if_eq 87 130 (gd rfl) rfl rfl (fun c84 => ?_) (fun c84 => ?_)
                            · skip
                              refine g_iconst 0 131 (gd rfl) rfl rfl ?_
                              have n131 : KL s := by exact q_0
                              have n131a : ((Int32.ofInt 0)).toInt ≠ 0 → (s.2.2.1 30 0).toInt = nln s := by intro h; exact absurd rfl h
                              have n131b : ((Int32.ofInt 0)).toInt ≠ 0 → (s.2.2.1 2 0).toInt ≤ 3999 := by first | (intro h; exact absurd rfl h) | (intro _; rw [← e_2_0]; have a0 := (inv_F hI 448 28000 rfl e_30_0); unfold In at a0; have a1 := i81x5x9a; unfold In at a1; have a2 := i1x10; unfold In at a2; have a3 := i47; unfold In at a3; omega)
                              have n131c : ∀ k : Nat, (k : Int) < 7 * (s.2.2.1 2 0).toInt → s.1 30 k = s.1 30 k := by exact fun k _ => rfl
                              have n131d : (u_2_0).toInt ≤ (u_2_0).toInt := by have a0 := (inv_F hI 448 28000 rfl e_30_0); unfold In at a0; have a1 := i81x5x9a; unfold In at a1; have a2 := i1x10; unfold In at a2; have a3 := i47; unfold In at a3; omega
                              have n131e : (s.2.2.1 2 0).toInt ≤ (s.2.2.1 2 0).toInt := by have b0 : u_2_0 = s.2.2.1 2 0 := e_2_0; first | (rw [← b0, ← e_2_0]; exact n131d) | (rw [← b0]; exact n131d)
                              exact g_ireturn (gd rfl) rfl (nb01 (in_w 0 1 (in_c 0 rfl) rfl)) (hP _ _ ⟨(A 30), s, hI, fr_rf, n131e, (Int32.ofInt 0), rfl, (by rw [ax_id]), in_w 0 1 (in_c 0 rfl) rfl, n131, n131a, n131b, n131c⟩)
                            · skip
                              exact zn_ne c84 (in_c 0 rfl) rfl
                          · skip
                            exact zn_ne c81x26 (in_c 0 rfl) rfl
                        · skip
                          have i81x23x11 := r_le1 (-1000000) 1000000 c81x23x11 i81x23x4 (in_c 1000000 rfl) rfl
                          refine g_iconst 1 15 (gd rfl) rfl rfl ?_
                          refine g_goto 19 (gd rfl) rfl ?_
                          refine g_ireturn (gd rfl) rfl (nb01 (in_w 0 1 (in_c 1 rfl) rfl)) (hp81x23 _ _ ?_)
                          show GG _ _ _ _ _ _ _ _ [.int (Int32.ofInt 1)] _ _ _
                          refine g_if_eq 29 49 (gd rfl) rfl rfl (fun c81x26 => ?_) (fun c81x26 => ?_)
                          · skip
                            exact zn_eq c81x26 (in_c 1 rfl) rfl
                          · skip
                            refine g_iload 31 (gd rfl) rfl rfl ?_
                            refine g_calls (As := [.int z74]) (r := []) 34 (gd rfl) rfl rfl rfl rfl rfl (Nat.le_of_ble_eq_true rfl) (mc := 0) (ms := 0) (Nat.zero_le _) (Nat.zero_le _) (P := fun v u => _) ?_ (fun v u h => h)
                            intro po81x31 xx81x31 hp81x31 hx81x31
                            refine g_enter2 (k := 262) (N := 300) (by omega) rfl (Nat.le_of_ble_eq_true rfl) ?_
                            refine g_iload_n 1 (gd rfl) rfl rfl ?_
                            refine g_if_lt 4 15 (gd rfl) rfl rfl (fun c81x31x1 => ?_) (fun c81x31x1 => ?_)
                            · skip
                              have i81x31x1 := z_lt (-2147483648) (-1) c81x31x1 (i_rng z74) rfl
                              refine g_iconst 0 16 (gd rfl) rfl rfl ?_
                              refine g_ireturn (gd rfl) rfl (nb01 (in_w 0 1 (in_c 0 rfl) rfl)) (hp81x31 _ _ ?_)
                              show GG _ _ _ _ _ _ _ _ [.int (Int32.ofInt 0)] _ _ _
                              refine g_if_eq 37 49 (gd rfl) rfl rfl (fun c81x34 => ?_) (fun c81x34 => ?_)
                              · skip
                                refine g_iconst 0 50 (gd rfl) rfl rfl ?_
                                refine g_ireturn (gd rfl) rfl (nb01 (in_w 0 1 (in_c 0 rfl) rfl)) (hp81 _ _ ?_)
                                show GG _ _ _ _ _ _ _ _ [.int (Int32.ofInt 0)] _ _ _
                                refine g_if_eq 87 130 (gd rfl) rfl rfl (fun c84 => ?_) (fun c84 => ?_)
                                · skip
                                  refine g_iconst 0 131 (gd rfl) rfl rfl ?_
                                  have n131 : KL s := by exact q_0
                                  have n131a : ((Int32.ofInt 0)).toInt ≠ 0 → (s.2.2.1 30 0).toInt = nln s := by intro h; exact absurd rfl h
                                  have n131b : ((Int32.ofInt 0)).toInt ≠ 0 → (s.2.2.1 2 0).toInt ≤ 3999 := by first | (intro h; exact absurd rfl h) | (intro _; rw [← e_2_0]; have a0 := (inv_F hI 448 28000 rfl e_30_0); unfold In at a0; have a1 := i81x5x9a; unfold In at a1; have a2 := i1x10; unfold In at a2; have a3 := i47; unfold In at a3; omega)
                                  have n131c : ∀ k : Nat, (k : Int) < 7 * (s.2.2.1 2 0).toInt → s.1 30 k = s.1 30 k := by exact fun k _ => rfl
                                  have n131d : (u_2_0).toInt ≤ (u_2_0).toInt := by have a0 := (inv_F hI 448 28000 rfl e_30_0); unfold In at a0; have a1 := i81x5x9a; unfold In at a1; have a2 := i1x10; unfold In at a2; have a3 := i47; unfold In at a3; omega
                                  have n131e : (s.2.2.1 2 0).toInt ≤ (s.2.2.1 2 0).toInt := by have b0 : u_2_0 = s.2.2.1 2 0 := e_2_0; first | (rw [← b0, ← e_2_0]; exact n131d) | (rw [← b0]; exact n131d)
                                  exact g_ireturn (gd rfl) rfl (nb01 (in_w 0 1 (in_c 0 rfl) rfl)) (hP _ _ ⟨(A 30), s, hI, fr_rf, n131e, (Int32.ofInt 0), rfl, (by rw [ax_id]), in_w 0 1 (in_c 0 rfl) rfl, n131, n131a, n131b, n131c⟩)
                                · skip
                                  exact zn_ne c84 (in_c 0 rfl) rfl
                              · skip
                                exact zn_ne c81x34 (in_c 0 rfl) rfl
                            · skip
                              have i81x31x1 := z_ge 0 2147483647 c81x31x1 (i_rng z74) rfl
                              refine g_iload_n 5 (gd rfl) rfl rfl ?_
                              refine g_ldc_w 1000000 8 (gd rfl) rfl rfl ?_
                              refine g_cmp_gt 11 15 (gd rfl) rfl rfl (fun c81x31x8 => ?_) (fun c81x31x8 => ?_)
                              · skip
                                have i81x31x8 := r_lt2 1000001 2147483647 c81x31x8 (in_c 1000000 rfl) i81x31x1 rfl
                                refine g_iconst 0 16 (gd rfl) rfl rfl ?_
                                refine g_ireturn (gd rfl) rfl (nb01 (in_w 0 1 (in_c 0 rfl) rfl)) (hp81x31 _ _ ?_)
                                show GG _ _ _ _ _ _ _ _ [.int (Int32.ofInt 0)] _ _ _
                                refine g_if_eq 37 49 (gd rfl) rfl rfl (fun c81x34 => ?_) (fun c81x34 => ?_)
                                · skip
                                  refine g_iconst 0 50 (gd rfl) rfl rfl ?_
                                  refine g_ireturn (gd rfl) rfl (nb01 (in_w 0 1 (in_c 0 rfl) rfl)) (hp81 _ _ ?_)
                                  show GG _ _ _ _ _ _ _ _ [.int (Int32.ofInt 0)] _ _ _
                                  refine g_if_eq 87 130 (gd rfl) rfl rfl (fun c84 => ?_) (fun c84 => ?_)
                                  · skip
                                    refine g_iconst 0 131 (gd rfl) rfl rfl ?_
                                    have n131 : KL s := by exact q_0
                                    have n131a : ((Int32.ofInt 0)).toInt ≠ 0 → (s.2.2.1 30 0).toInt = nln s := by intro h; exact absurd rfl h
                                    have n131b : ((Int32.ofInt 0)).toInt ≠ 0 → (s.2.2.1 2 0).toInt ≤ 3999 := by first | (intro h; exact absurd rfl h) | (intro _; rw [← e_2_0]; have a0 := (inv_F hI 448 28000 rfl e_30_0); unfold In at a0; have a1 := i81x5x9a; unfold In at a1; have a2 := i1x10; unfold In at a2; have a3 := i47; unfold In at a3; omega)
                                    have n131c : ∀ k : Nat, (k : Int) < 7 * (s.2.2.1 2 0).toInt → s.1 30 k = s.1 30 k := by exact fun k _ => rfl
                                    have n131d : (u_2_0).toInt ≤ (u_2_0).toInt := by have a0 := (inv_F hI 448 28000 rfl e_30_0); unfold In at a0; have a1 := i81x5x9a; unfold In at a1; have a2 := i1x10; unfold In at a2; have a3 := i47; unfold In at a3; omega
                                    have n131e : (s.2.2.1 2 0).toInt ≤ (s.2.2.1 2 0).toInt := by have b0 : u_2_0 = s.2.2.1 2 0 := e_2_0; first | (rw [← b0, ← e_2_0]; exact n131d) | (rw [← b0]; exact n131d)
                                    exact g_ireturn (gd rfl) rfl (nb01 (in_w 0 1 (in_c 0 rfl) rfl)) (hP _ _ ⟨(A 30), s, hI, fr_rf, n131e, (Int32.ofInt 0), rfl, (by rw [ax_id]), in_w 0 1 (in_c 0 rfl) rfl, n131, n131a, n131b, n131c⟩)
                                  · skip
                                    exact zn_ne c84 (in_c 0 rfl) rfl
                                · skip
                                  exact zn_ne c81x34 (in_c 0 rfl) rfl
                              · skip
                                have i81x31x8 := r_le1 0 1000000 c81x31x8 i81x31x1 (in_c 1000000 rfl) rfl
                                refine g_iconst 1 12 (gd rfl) rfl rfl ?_
                                refine g_goto 16 (gd rfl) rfl ?_
                                refine g_ireturn (gd rfl) rfl (nb01 (in_w 0 1 (in_c 1 rfl) rfl)) (hp81x31 _ _ ?_)
                                show GG _ _ _ _ _ _ _ _ [.int (Int32.ofInt 1)] _ _ _
                                refine g_if_eq 37 49 (gd rfl) rfl rfl (fun c81x34 => ?_) (fun c81x34 => ?_)
                                · skip
                                  exact zn_eq c81x34 (in_c 1 rfl) rfl
                                · skip
                                  refine g_iload 39 (gd rfl) rfl rfl ?_
                                  refine g_calls (As := [.int z80]) (r := []) 42 (gd rfl) rfl rfl rfl rfl rfl (Nat.le_of_ble_eq_true rfl) (mc := 0) (ms := 0) (Nat.zero_le _) (Nat.zero_le _) (P := fun v u => _) ?_ (fun v u h => h)
                                  intro po81x39 xx81x39 hp81x39 hx81x39
                                  refine g_enter2 (k := 260) (N := 300) (by omega) rfl (Nat.le_of_ble_eq_true rfl) ?_
                                  refine g_iload_n 1 (gd rfl) rfl rfl ?_
                                  refine g_if_lt 4 14 (gd rfl) rfl rfl (fun c81x39x1 => ?_) (fun c81x39x1 => ?_)
                                  · skip
                                    have i81x39x1 := z_lt (-2147483648) (-1) c81x39x1 (i_rng z80) rfl
                                    refine g_iconst 0 15 (gd rfl) rfl rfl ?_
                                    refine g_ireturn (gd rfl) rfl (nb01 (in_w 0 1 (in_c 0 rfl) rfl)) (hp81x39 _ _ ?_)
                                    show GG _ _ _ _ _ _ _ _ [.int (Int32.ofInt 0)] _ _ _
                                    refine g_if_eq 45 49 (gd rfl) rfl rfl (fun c81x42 => ?_) (fun c81x42 => ?_)
                                    · skip
                                      refine g_iconst 0 50 (gd rfl) rfl rfl ?_
                                      refine g_ireturn (gd rfl) rfl (nb01 (in_w 0 1 (in_c 0 rfl) rfl)) (hp81 _ _ ?_)
                                      show GG _ _ _ _ _ _ _ _ [.int (Int32.ofInt 0)] _ _ _
                                      refine g_if_eq 87 130 (gd rfl) rfl rfl (fun c84 => ?_) (fun c84 => ?_)
                                      · skip
                                        refine g_iconst 0 131 (gd rfl) rfl rfl ?_
                                        have n131 : KL s := by exact q_0
                                        have n131a : ((Int32.ofInt 0)).toInt ≠ 0 → (s.2.2.1 30 0).toInt = nln s := by intro h; exact absurd rfl h
                                        have n131b : ((Int32.ofInt 0)).toInt ≠ 0 → (s.2.2.1 2 0).toInt ≤ 3999 := by first | (intro h; exact absurd rfl h) | (intro _; rw [← e_2_0]; have a0 := (inv_F hI 448 28000 rfl e_30_0); unfold In at a0; have a1 := i81x5x9a; unfold In at a1; have a2 := i1x10; unfold In at a2; have a3 := i47; unfold In at a3; omega)
                                        have n131c : ∀ k : Nat, (k : Int) < 7 * (s.2.2.1 2 0).toInt → s.1 30 k = s.1 30 k := by exact fun k _ => rfl
                                        have n131d : (u_2_0).toInt ≤ (u_2_0).toInt := by have a0 := (inv_F hI 448 28000 rfl e_30_0); unfold In at a0; have a1 := i81x5x9a; unfold In at a1; have a2 := i1x10; unfold In at a2; have a3 := i47; unfold In at a3; omega
                                        have n131e : (s.2.2.1 2 0).toInt ≤ (s.2.2.1 2 0).toInt := by have b0 : u_2_0 = s.2.2.1 2 0 := e_2_0; first | (rw [← b0, ← e_2_0]; exact n131d) | (rw [← b0]; exact n131d)
                                        exact g_ireturn (gd rfl) rfl (nb01 (in_w 0 1 (in_c 0 rfl) rfl)) (hP _ _ ⟨(A 30), s, hI, fr_rf, n131e, (Int32.ofInt 0), rfl, (by rw [ax_id]), in_w 0 1 (in_c 0 rfl) rfl, n131, n131a, n131b, n131c⟩)
                                      · skip
                                        exact zn_ne c84 (in_c 0 rfl) rfl
                                    · skip
                                      exact zn_ne c81x42 (in_c 0 rfl) rfl
                                  · skip
                                    have i81x39x1 := z_ge 0 2147483647 c81x39x1 (i_rng z80) rfl
                                    refine g_iload_n 5 (gd rfl) rfl rfl ?_
                                    refine g_bipush 26 7 (gd rfl) rfl rfl ?_
                                    refine g_cmp_ge 10 14 (gd rfl) rfl rfl (fun c81x39x7 => ?_) (fun c81x39x7 => ?_)
                                    · skip
                                      have i81x39x7 := r_le2 26 2147483647 c81x39x7 (in_c 26 rfl) i81x39x1 rfl
                                      refine g_iconst 0 15 (gd rfl) rfl rfl ?_
                                      refine g_ireturn (gd rfl) rfl (nb01 (in_w 0 1 (in_c 0 rfl) rfl)) (hp81x39 _ _ ?_)
                                      show GG _ _ _ _ _ _ _ _ [.int (Int32.ofInt 0)] _ _ _
                                      refine g_if_eq 45 49 (gd rfl) rfl rfl (fun c81x42 => ?_) (fun c81x42 => ?_)
                                      · skip
                                        refine g_iconst 0 50 (gd rfl) rfl rfl ?_
                                        refine g_ireturn (gd rfl) rfl (nb01 (in_w 0 1 (in_c 0 rfl) rfl)) (hp81 _ _ ?_)
                                        show GG _ _ _ _ _ _ _ _ [.int (Int32.ofInt 0)] _ _ _
                                        refine g_if_eq 87 130 (gd rfl) rfl rfl (fun c84 => ?_) (fun c84 => ?_)
                                        · skip
                                          refine g_iconst 0 131 (gd rfl) rfl rfl ?_
                                          have n131 : KL s := by exact q_0
                                          have n131a : ((Int32.ofInt 0)).toInt ≠ 0 → (s.2.2.1 30 0).toInt = nln s := by intro h; exact absurd rfl h
                                          have n131b : ((Int32.ofInt 0)).toInt ≠ 0 → (s.2.2.1 2 0).toInt ≤ 3999 := by first | (intro h; exact absurd rfl h) | (intro _; rw [← e_2_0]; have a0 := (inv_F hI 448 28000 rfl e_30_0); unfold In at a0; have a1 := i81x5x9a; unfold In at a1; have a2 := i1x10; unfold In at a2; have a3 := i47; unfold In at a3; omega)
                                          have n131c : ∀ k : Nat, (k : Int) < 7 * (s.2.2.1 2 0).toInt → s.1 30 k = s.1 30 k := by exact fun k _ => rfl
                                          have n131d : (u_2_0).toInt ≤ (u_2_0).toInt := by have a0 := (inv_F hI 448 28000 rfl e_30_0); unfold In at a0; have a1 := i81x5x9a; unfold In at a1; have a2 := i1x10; unfold In at a2; have a3 := i47; unfold In at a3; omega
                                          have n131e : (s.2.2.1 2 0).toInt ≤ (s.2.2.1 2 0).toInt := by have b0 : u_2_0 = s.2.2.1 2 0 := e_2_0; first | (rw [← b0, ← e_2_0]; exact n131d) | (rw [← b0]; exact n131d)
                                          exact g_ireturn (gd rfl) rfl (nb01 (in_w 0 1 (in_c 0 rfl) rfl)) (hP _ _ ⟨(A 30), s, hI, fr_rf, n131e, (Int32.ofInt 0), rfl, (by rw [ax_id]), in_w 0 1 (in_c 0 rfl) rfl, n131, n131a, n131b, n131c⟩)
                                        · skip
                                          exact zn_ne c84 (in_c 0 rfl) rfl
                                      · skip
                                        exact zn_ne c81x42 (in_c 0 rfl) rfl
                                    · skip
                                      have i81x39x7 := r_lt1 0 25 c81x39x7 i81x39x1 (in_c 26 rfl) rfl
                                      refine g_iconst 1 11 (gd rfl) rfl rfl ?_
                                      refine g_goto 15 (gd rfl) rfl ?_
                                      refine g_ireturn (gd rfl) rfl (nb01 (in_w 0 1 (in_c 1 rfl) rfl)) (hp81x39 _ _ ?_)
                                      show GG _ _ _ _ _ _ _ _ [.int (Int32.ofInt 1)] _ _ _
                                      refine g_if_eq 45 49 (gd rfl) rfl rfl (fun c81x42 => ?_) (fun c81x42 => ?_)
                                      · skip
                                        exact zn_eq c81x42 (in_c 1 rfl) rfl
                                      · skip
                                        refine g_iconst 1 46 (gd rfl) rfl rfl ?_
                                        refine g_goto 50 (gd rfl) rfl ?_
                                        refine g_ireturn (gd rfl) rfl (nb01 (in_w 0 1 (in_c 1 rfl) rfl)) (hp81 _ _ ?_)
                                        show GG _ _ _ _ _ _ _ _ [.int (Int32.ofInt 1)] _ _ _
                                        refine g_if_eq 87 130 (gd rfl) rfl rfl (fun c84 => ?_) (fun c84 => ?_)
                                        · skip
                                          exact zn_eq c84 (in_c 1 rfl) rfl
                                        · skip
                                          refine g_aload_n 88 (gd rfl) rfl rfl ?_
                                          refine g_aload_n 89 (gd rfl) rfl rfl ?_
                                          refine g_getA (q2 := 31) 92 (gd rfl) rfl rfl rfl rfl ?_
                                          refine g_iconst 0 93 (gd rfl) rfl rfl ?_
                                          refine g_iaload 94 (gd rfl) rfl (n := 5) rfl (in_ix (in_c 0 rfl) rfl) (fun z93 e93 => ?_)
                                          have q93 : z56 = z93 := (e56).trans e93.symm
                                          subst q93
                                          refine g_aload_n 95 (gd rfl) rfl rfl ?_
                                          refine g_getA (q2 := 31) 98 (gd rfl) rfl rfl rfl rfl ?_
                                          refine g_iconst 1 99 (gd rfl) rfl rfl ?_
                                          refine g_iaload 100 (gd rfl) rfl (n := 5) rfl (in_ix (in_c 1 rfl) rfl) (fun z99 e99 => ?_)
                                          have q99 : z62 = z99 := (e62).trans e99.symm
                                          subst q99
                                          refine g_aload_n 101 (gd rfl) rfl rfl ?_
                                          refine g_getA (q2 := 31) 104 (gd rfl) rfl rfl rfl rfl ?_
                                          refine g_iconst 2 105 (gd rfl) rfl rfl ?_
                                          refine g_iaload 106 (gd rfl) rfl (n := 5) rfl (in_ix (in_c 2 rfl) rfl) (fun z105 e105 => ?_)
                                          have q105 : z68 = z105 := (e68).trans e105.symm
                                          subst q105
                                          refine g_aload_n 107 (gd rfl) rfl rfl ?_
                                          refine g_getA (q2 := 31) 110 (gd rfl) rfl rfl rfl rfl ?_
                                          refine g_iconst 3 111 (gd rfl) rfl rfl ?_
                                          refine g_iaload 112 (gd rfl) rfl (n := 5) rfl (in_ix (in_c 3 rfl) rfl) (fun z111 e111 => ?_)
                                          have q111 : z74 = z111 := (e74).trans e111.symm
                                          subst q111
                                          refine g_aload_n 113 (gd rfl) rfl rfl ?_
                                          refine g_getA (q2 := 31) 116 (gd rfl) rfl rfl rfl rfl ?_
                                          refine g_iconst 4 117 (gd rfl) rfl rfl ?_
                                          refine g_iaload 118 (gd rfl) rfl (n := 5) rfl (in_ix (in_c 4 rfl) rfl) (fun z117 e117 => ?_)
                                          have q117 : z80 = z117 := (e80).trans e117.symm
                                          subst q117
                                          have n118 : (z56).toInt < (u_2_1).toInt := by have a0 := (inv_F hI 448 28000 rfl e_30_0); unfold In at a0; have a1 := i81x5x9a; unfold In at a1; have a2 := i1x10; unfold In at a2; have a3 := i47; unfold In at a3; have a4 := i81x5x9; unfold In at a4; omega
                                          have n118a : (z62).toInt < (u_2_1).toInt := by have a0 := (inv_F hI 448 28000 rfl e_30_0); unfold In at a0; have a1 := i81x5x9a; unfold In at a1; have a2 := i1x10; unfold In at a2; have a3 := i47; unfold In at a3; have a4 := i81x16x9; unfold In at a4; omega
                                          have p118 : KL s := by exact q_0
                                          refine g_callv (X := _) (As := [.int z56, .int z62, .int z68, .int z74, .int z80]) (r := []) (b := A 1) (q := 1) 121 (gd rfl) rfl rfl rfl rfl rfl (ww_o rfl) (Nat.le_of_ble_eq_true rfl) (Nat.le_of_eq (lc_cg ((show Fr ([], [], [], []) s s from fr_rf).2.2.1 30 0 rfl) ((show Fr ([], [], [], []) s s from fr_rf).2.2.1 2 0 rfl)).1) (Nat.le_of_eq (lc_cg ((show Fr ([], [], [], []) s s from fr_rf).2.2.1 30 0 rfl) ((show Fr ([], [], [], []) s s from fr_rf).2.2.1 2 0 rfl)).2.1) (k_125_1 (by omega) hI (in_w 0 31 i81x5x9 rfl) (in_w 0 31 i81x16x9 rfl) (in_w (-1000000) 1000000 i81x23x11 rfl) (in_w 0 1000000 i81x31x8 rfl) (in_w 0 25 i81x39x7 rfl) e_2_0 e_2_1 e_30_0 (in_w 0 3999 i1x10 rfl) n118 n118a p118) (fun e u h => h) (fun v u h => ?_)
                                          obtain ⟨a118, s118, hI118, hF118, n118b, z118, rfl, rfl, i118, p118a, p118b, p118c, p118d⟩ := h
                                          obtain ⟨z118a, e118⟩ : ∃ w, w = s118.2.2.1 2 0 := ⟨_, rfl⟩
                                          have i118a := inv_F hI118 0 4000 rfl e118
                                          rw [← (show u_2_0 = s.2.2.1 2 0 from e_2_0)] at n118b
                                          rw [← (show z118a = s118.2.2.1 2 0 from e118)] at n118b
                                          show GG _ _ _ _ _ _ _ _ [.int z118] _ _ _
                                          refine g_bipush (-3) 123 (gd rfl) rfl rfl ?_
                                          refine g_cmp_eq 126 130 (gd rfl) rfl rfl (fun c123 => ?_) (fun c123 => ?_)
                                          · skip
                                            have i123 := r_eq1 (-3) (-3) c123 i118 (in_c (-3) rfl) rfl
                                            refine g_iconst 0 131 (gd rfl) rfl rfl ?_
                                            have n131 : KL s118 := by exact p118a
                                            have n131a : ((Int32.ofInt 0)).toInt ≠ 0 → (s118.2.2.1 30 0).toInt = nln s := by first | (intro h; exact absurd rfl h) | (intro _; exact p118b (by have c3 : (Int32.ofInt (-3)).toInt = -3 := (by decide); omega))
                                            have n131b : ((Int32.ofInt 0)).toInt ≠ 0 → (s.2.2.1 2 0).toInt ≤ 3999 := by first | (intro h; exact absurd rfl h) | (intro _; rw [← e_2_0]; have a0 := (inv_F hI 448 28000 rfl e_30_0); unfold In at a0; have a1 := i81x5x9a; unfold In at a1; have a2 := i1x10; unfold In at a2; have a3 := i47; unfold In at a3; have a4 := i118a; unfold In at a4; omega)
                                            have n131c : ∀ k : Nat, (k : Int) < 7 * (s.2.2.1 2 0).toInt → s118.1 30 k = s.1 30 k := by exact p118d
                                            have n131d : (u_2_0).toInt ≤ (z118a).toInt := by have a0 := (inv_F hI 448 28000 rfl e_30_0); unfold In at a0; have a1 := i81x5x9a; unfold In at a1; have a2 := i1x10; unfold In at a2; have a3 := i47; unfold In at a3; have a4 := i118a; unfold In at a4; omega
                                            have n131e : (s.2.2.1 2 0).toInt ≤ (s118.2.2.1 2 0).toInt := by have b0 : z118a = s118.2.2.1 2 0 := e118; first | (rw [← b0, ← e_2_0]; exact n131d) | (rw [← b0]; exact n131d)
                                            exact g_ireturn (gd rfl) rfl (nb01 (in_w 0 1 (in_c 0 rfl) rfl)) (hP _ _ ⟨a118, s118, hI118, (fr_tr rfl fr_rf hF118), n131e, (Int32.ofInt 0), rfl, rfl, in_w 0 1 (in_c 0 rfl) rfl, n131, n131a, n131b, n131c⟩)
                                          · skip
                                            have i123 := r_ne1 (-2) 159 c123 i118 (in_c (-3) rfl) rfl
                                            refine g_iconst 1 127 (gd rfl) rfl rfl ?_
                                            refine g_goto 131 (gd rfl) rfl ?_
                                            have n131 : KL s118 := by exact p118a
                                            have n131a : ((Int32.ofInt 1)).toInt ≠ 0 → (s118.2.2.1 30 0).toInt = nln s := by first | (intro h; exact absurd rfl h) | (intro _; exact p118b (by have c3 : (Int32.ofInt (-3)).toInt = -3 := (by decide); omega))
                                            have n131b : ((Int32.ofInt 1)).toInt ≠ 0 → (s.2.2.1 2 0).toInt ≤ 3999 := by first | (intro h; exact absurd rfl h) | (intro _; rw [← e_2_0]; have a0 := (inv_F hI 448 28000 rfl e_30_0); unfold In at a0; have a1 := i81x5x9a; unfold In at a1; have a2 := i1x10; unfold In at a2; have a3 := i47; unfold In at a3; have a4 := i118a; unfold In at a4; omega)
                                            have n131c : ∀ k : Nat, (k : Int) < 7 * (s.2.2.1 2 0).toInt → s118.1 30 k = s.1 30 k := by exact p118d
                                            have n131d : (u_2_0).toInt ≤ (z118a).toInt := by have a0 := (inv_F hI 448 28000 rfl e_30_0); unfold In at a0; have a1 := i81x5x9a; unfold In at a1; have a2 := i1x10; unfold In at a2; have a3 := i47; unfold In at a3; have a4 := i118a; unfold In at a4; omega
                                            have n131e : (s.2.2.1 2 0).toInt ≤ (s118.2.2.1 2 0).toInt := by have b0 : z118a = s118.2.2.1 2 0 := e118; first | (rw [← b0, ← e_2_0]; exact n131d) | (rw [← b0]; exact n131d)
                                            exact g_ireturn (gd rfl) rfl (nb01 (in_w 0 1 (in_c 1 rfl) rfl)) (hP _ _ ⟨a118, s118, hI118, (fr_tr rfl fr_rf hF118), n131e, (Int32.ofInt 1), rfl, rfl, in_w 0 1 (in_c 1 rfl) rfl, n131, n131a, n131b, n131c⟩)
      · skip
        have i12 := r_eq1 13 13 c12 h1 (in_c 13 rfl) rfl
        refine g_aload_n 16 (gd rfl) rfl rfl ?_
        refine g_getA (q2 := 2) 19 (gd rfl) rfl rfl rfl rfl ?_
        refine g_getI 22 (gd rfl) rfl rfl rfl (fun z19 e19 => ?_)
        have q19 : u_2_1 = z19 := (e_2_1).trans e19.symm
        subst q19
        refine g_bipush 32 24 (gd rfl) rfl rfl ?_
        refine g_cmp_ge 27 44 (gd rfl) rfl rfl (fun c24 => ?_) (fun c24 => ?_)
        · skip
          have i24 := r_le2 32 32 c24 (in_c 32 rfl) (inv_F hI 0 32 rfl e_2_1) rfl
          refine g_iconst 0 45 (gd rfl) rfl rfl ?_
          have n45 : KL s := by exact q_0
          have n45a : ((Int32.ofInt 0)).toInt ≠ 0 → (s.2.2.1 30 0).toInt = nln s := by intro h; exact absurd rfl h
          have n45b : ((Int32.ofInt 0)).toInt ≠ 0 → (s.2.2.1 2 0).toInt ≤ 3999 := by first | (intro h; exact absurd rfl h) | (intro _; rw [← e_2_0]; have a0 := (inv_F hI 448 28000 rfl e_30_0); unfold In at a0; have a1 := i24; unfold In at a1; have a2 := i1x10; unfold In at a2; have a3 := i12; unfold In at a3; omega)
          have n45c : ∀ k : Nat, (k : Int) < 7 * (s.2.2.1 2 0).toInt → s.1 30 k = s.1 30 k := by exact fun k _ => rfl
          have n45d : (u_2_0).toInt ≤ (u_2_0).toInt := by have a0 := (inv_F hI 448 28000 rfl e_30_0); unfold In at a0; have a1 := i24; unfold In at a1; have a2 := i1x10; unfold In at a2; have a3 := i12; unfold In at a3; omega
          have n45e : (s.2.2.1 2 0).toInt ≤ (s.2.2.1 2 0).toInt := by have b0 : u_2_0 = s.2.2.1 2 0 := e_2_0; first | (rw [← b0, ← e_2_0]; exact n45d) | (rw [← b0]; exact n45d)
          exact g_ireturn (gd rfl) rfl (nb01 (in_w 0 1 (in_c 0 rfl) rfl)) (hP _ _ ⟨(A 30), s, hI, fr_rf, n45e, (Int32.ofInt 0), rfl, (by rw [ax_id]), in_w 0 1 (in_c 0 rfl) rfl, n45, n45a, n45b, n45c⟩)
        · skip
          have i24 := r_lt1 0 31 c24 (inv_F hI 0 32 rfl e_2_1) (in_c 32 rfl) rfl
          refine g_aload_n 28 (gd rfl) rfl rfl ?_
          refine g_aload_n 29 (gd rfl) rfl rfl ?_
          refine g_getA (q2 := 31) 32 (gd rfl) rfl rfl rfl rfl ?_
          refine g_iconst 0 33 (gd rfl) rfl rfl ?_
          refine g_iaload 34 (gd rfl) rfl (n := 5) rfl (in_ix (in_c 0 rfl) rfl) (fun z33 e33 => ?_)
          have i34 : In z33 0 25 := by rw [e33]; exact q_1 (c12.trans (by decide))
          have p34 : KL s := by exact q_0
          refine g_callv (X := _) (As := [.int z33]) (r := []) (b := A 1) (q := 1) 37 (gd rfl) rfl rfl rfl rfl rfl (ww_o rfl) (Nat.le_of_ble_eq_true rfl) (Nat.le_of_eq (lc_cg ((show Fr ([], [], [], []) s s from fr_rf).2.2.1 30 0 rfl) ((show Fr ([], [], [], []) s s from fr_rf).2.2.1 2 0 rfl)).1) (Nat.le_of_eq (lc_cg ((show Fr ([], [], [], []) s s from fr_rf).2.2.1 30 0 rfl) ((show Fr ([], [], [], []) s s from fr_rf).2.2.1 2 0 rfl)).2.1) (k_124_1 (by omega) hI (in_w 0 25 i34 rfl) e_2_0 e_2_1 e_30_0 (in_w 0 3999 i1x10 rfl) (in_w 0 31 i24 rfl) p34) (fun e u h => h) (fun v u h => ?_)
          obtain ⟨a34, s34, hI34, hF34, n34, z34, rfl, rfl, i34a, p34a, p34b, p34c, p34d⟩ := h
          obtain ⟨z34a, e34⟩ : ∃ w, w = s34.2.2.1 2 0 := ⟨_, rfl⟩
          have i34b := inv_F hI34 0 4000 rfl e34
          rw [← (show u_2_0 = s.2.2.1 2 0 from e_2_0)] at n34
          rw [← (show z34a = s34.2.2.1 2 0 from e34)] at n34
          show GG _ _ _ _ _ _ _ _ [.int z34] _ _ _
          refine g_if_lt 40 44 (gd rfl) rfl rfl (fun c37 => ?_) (fun c37 => ?_)
          · skip
            have i37 := z_lt (-1) (-1) c37 i34a rfl
            refine g_iconst 0 45 (gd rfl) rfl rfl ?_
            have n45 : KL s34 := by exact p34a
            have n45a : ((Int32.ofInt 0)).toInt ≠ 0 → (s34.2.2.1 30 0).toInt = nln s := by intro _; exact p34b
            have n45b : ((Int32.ofInt 0)).toInt ≠ 0 → (s.2.2.1 2 0).toInt ≤ 3999 := by first | (intro h; exact absurd rfl h) | (intro _; rw [← e_2_0]; have a0 := (inv_F hI 448 28000 rfl e_30_0); unfold In at a0; have a1 := i24; unfold In at a1; have a2 := i1x10; unfold In at a2; have a3 := i12; unfold In at a3; have a4 := i34b; unfold In at a4; omega)
            have n45c : ∀ k : Nat, (k : Int) < 7 * (s.2.2.1 2 0).toInt → s34.1 30 k = s.1 30 k := by exact p34d
            have n45d : (u_2_0).toInt ≤ (z34a).toInt := by have a0 := (inv_F hI 448 28000 rfl e_30_0); unfold In at a0; have a1 := i24; unfold In at a1; have a2 := i1x10; unfold In at a2; have a3 := i12; unfold In at a3; have a4 := i34b; unfold In at a4; omega
            have n45e : (s.2.2.1 2 0).toInt ≤ (s34.2.2.1 2 0).toInt := by have b0 : z34a = s34.2.2.1 2 0 := e34; first | (rw [← b0, ← e_2_0]; exact n45d) | (rw [← b0]; exact n45d)
            exact g_ireturn (gd rfl) rfl (nb01 (in_w 0 1 (in_c 0 rfl) rfl)) (hP _ _ ⟨a34, s34, hI34, (fr_tr rfl fr_rf hF34), n45e, (Int32.ofInt 0), rfl, rfl, in_w 0 1 (in_c 0 rfl) rfl, n45, n45a, n45b, n45c⟩)
          · skip
            have i37 := z_ge 0 31 c37 i34a rfl
            refine g_iconst 1 41 (gd rfl) rfl rfl ?_
            refine g_goto 45 (gd rfl) rfl ?_
            have n45 : KL s34 := by exact p34a
            have n45a : ((Int32.ofInt 1)).toInt ≠ 0 → (s34.2.2.1 30 0).toInt = nln s := by intro _; exact p34b
            have n45b : ((Int32.ofInt 1)).toInt ≠ 0 → (s.2.2.1 2 0).toInt ≤ 3999 := by first | (intro h; exact absurd rfl h) | (intro _; rw [← e_2_0]; have a0 := (inv_F hI 448 28000 rfl e_30_0); unfold In at a0; have a1 := i24; unfold In at a1; have a2 := i1x10; unfold In at a2; have a3 := i12; unfold In at a3; have a4 := i34b; unfold In at a4; omega)
            have n45c : ∀ k : Nat, (k : Int) < 7 * (s.2.2.1 2 0).toInt → s34.1 30 k = s.1 30 k := by exact p34d
            have n45d : (u_2_0).toInt ≤ (z34a).toInt := by have a0 := (inv_F hI 448 28000 rfl e_30_0); unfold In at a0; have a1 := i24; unfold In at a1; have a2 := i1x10; unfold In at a2; have a3 := i12; unfold In at a3; have a4 := i34b; unfold In at a4; omega
            have n45e : (s.2.2.1 2 0).toInt ≤ (s34.2.2.1 2 0).toInt := by have b0 : z34a = s34.2.2.1 2 0 := e34; first | (rw [← b0, ← e_2_0]; exact n45d) | (rw [← b0]; exact n45d)
            exact g_ireturn (gd rfl) rfl (nb01 (in_w 0 1 (in_c 1 rfl) rfl)) (hP _ _ ⟨a34, s34, hI34, (fr_tr rfl fr_rf hF34), n45e, (Int32.ofInt 1), rfl, rfl, in_w 0 1 (in_c 1 rfl) rfl, n45, n45a, n45b, n45c⟩)
    · skip
      exact zn_ne c4 (in_c 0 rfl) rfl
  · skip
    have i1x10 := r_le2 4000 4000 c1x10 (in_c 4000 rfl) (inv_F hI 0 4000 rfl e_2_0) rfl
    refine g_iconst 1 14 (gd rfl) rfl rfl ?_
    refine g_goto 18 (gd rfl) rfl ?_
    refine g_ireturn (gd rfl) rfl (nb01 (in_w 0 1 (in_c 1 rfl) rfl)) (hp1 _ _ ?_)
    show GG _ _ _ _ _ _ _ _ [.int (Int32.ofInt 1)] _ _ _
    refine g_if_eq 7 9 (gd rfl) rfl rfl (fun c4 => ?_) (fun c4 => ?_)
    · skip
      exact zn_eq c4 (in_c 1 rfl) rfl
    · skip
      refine g_iconst 0 8 (gd rfl) rfl rfl ?_
      have n8 : KL s := by exact q_0
      have n8a : ((Int32.ofInt 0)).toInt ≠ 0 → (s.2.2.1 30 0).toInt = nln s := by intro h; exact absurd rfl h
      have n8b : ((Int32.ofInt 0)).toInt ≠ 0 → (s.2.2.1 2 0).toInt ≤ 3999 := by first | (intro h; exact absurd rfl h) | (intro _; rw [← e_2_0]; have a0 := (inv_F hI 448 28000 rfl e_30_0); unfold In at a0; have a1 := (inv_F hI 0 32 rfl e_2_1); unfold In at a1; have a2 := i1x10; unfold In at a2; have a3 := h1; unfold In at a3; omega)
      have n8c : ∀ k : Nat, (k : Int) < 7 * (s.2.2.1 2 0).toInt → s.1 30 k = s.1 30 k := by exact fun k _ => rfl
      have n8d : (u_2_0).toInt ≤ (u_2_0).toInt := by have a0 := (inv_F hI 448 28000 rfl e_30_0); unfold In at a0; have a1 := (inv_F hI 0 32 rfl e_2_1); unfold In at a1; have a2 := i1x10; unfold In at a2; have a3 := h1; unfold In at a3; omega
      have n8e : (s.2.2.1 2 0).toInt ≤ (s.2.2.1 2 0).toInt := by have b0 : u_2_0 = s.2.2.1 2 0 := e_2_0; first | (rw [← b0, ← e_2_0]; exact n8d) | (rw [← b0]; exact n8d)
      exact g_ireturn (gd rfl) rfl (nb01 (in_w 0 1 (in_c 0 rfl) rfl)) (hP _ _ ⟨(A 30), s, hI, fr_rf, n8e, (Int32.ofInt 0), rfl, (by rw [ax_id]), in_w 0 1 (in_c 0 rfl) rfl, n8, n8a, n8b, n8c⟩)

def fm_212_0 : FM := ([3, 4, 5, 6, 7, 8, 30], [], [(2, 0), (2, 1), (2, 2), (2, 3), (30, 0)], [])
/-- GraphHouse.node -/
theorem k_212_0 {Z : AmZ} {A : Nat → Nat} {s : GS} {ex : va_W} {d : Nat} {x1 : Int32} {u_2_0 : Int32} {u_2_1 : Int32} {u_30_0 : Int32} (hd : 8 ≤ d) (hI : Inv s) (e_2_0 : u_2_0 = s.2.2.1 2 0) (e_2_1 : u_2_1 = s.2.2.1 2 1) (e_30_0 : u_30_0 = s.2.2.1 30 0) (q_0 : KL s) : GC Z d 212 [.ref (A 0), .int x1] (WW Z A s ++ ex) 4 28018 (fun v u => ∃ a : Nat, ∃ t : GS, Inv t ∧ Fr fm_212_0 s t ∧ ∃ z : Int32, v = some (.int z) ∧ u = WW Z (ax A 30 a) t ++ ex ∧ In z (-1) 31 ∧ (KL t)) (gE2 Z A ex ([], [], [], []) s) := by
  intro post xp hP hX
  refine g_enter2 (k := 212) (N := 900) (by omega) rfl (Nat.le_of_ble_eq_true rfl) ?_
  refine g_iload_n 1 (gd rfl) rfl rfl ?_
  refine g_calls (As := [.int x1]) (r := []) 4 (gd rfl) rfl rfl rfl rfl rfl (Nat.le_of_ble_eq_true rfl) (mc := 0) (ms := 0) (Nat.zero_le _) (Nat.zero_le _) (P := fun v u => _) ?_ (fun v u h => h)
  intro po1 xx1 hp1 hx1
  refine g_enter2 (k := 260) (N := 300) (by omega) rfl (Nat.le_of_ble_eq_true rfl) ?_
  refine g_iload_n 1 (gd rfl) rfl rfl ?_
  refine g_if_lt 4 14 (gd rfl) rfl rfl (fun c1x1 => ?_) (fun c1x1 => ?_)
  · skip
    have i1x1 := z_lt (-2147483648) (-1) c1x1 (i_rng x1) rfl
    refine g_iconst 0 15 (gd rfl) rfl rfl ?_
    refine g_ireturn (gd rfl) rfl (nb01 (in_w 0 1 (in_c 0 rfl) rfl)) (hp1 _ _ ?_)
    show GG _ _ _ _ _ _ _ _ [.int (Int32.ofInt 0)] _ _ _
    refine g_thr (E := am_IA) (y := yX11_allow) 7 (gd rfl) rfl rfl (Or.inl ⟨rfl, rfl, rfl⟩) (by omega) (Nat.le_of_ble_eq_true rfl) (Nat.le_of_ble_eq_true rfl) (Nat.le_of_ble_eq_true rfl) (fun c4 => ?_) (fun c4 => ?_)
    · skip
      exact zn_ne c4 (in_c 0 rfl) rfl
    · skip
      exact (hX _ _ ⟨Or.inl rfl, s, hI, fr_rf, rfl⟩)
  · skip
    have i1x1 := z_ge 0 2147483647 c1x1 (i_rng x1) rfl
    refine g_iload_n 5 (gd rfl) rfl rfl ?_
    refine g_bipush 26 7 (gd rfl) rfl rfl ?_
    refine g_cmp_ge 10 14 (gd rfl) rfl rfl (fun c1x7 => ?_) (fun c1x7 => ?_)
    · skip
      have i1x7 := r_le2 26 2147483647 c1x7 (in_c 26 rfl) i1x1 rfl
      refine g_iconst 0 15 (gd rfl) rfl rfl ?_
      refine g_ireturn (gd rfl) rfl (nb01 (in_w 0 1 (in_c 0 rfl) rfl)) (hp1 _ _ ?_)
      show GG _ _ _ _ _ _ _ _ [.int (Int32.ofInt 0)] _ _ _
      refine g_thr (E := am_IA) (y := yX11_allow) 7 (gd rfl) rfl rfl (Or.inl ⟨rfl, rfl, rfl⟩) (by omega) (Nat.le_of_ble_eq_true rfl) (Nat.le_of_ble_eq_true rfl) (Nat.le_of_ble_eq_true rfl) (fun c4 => ?_) (fun c4 => ?_)
      · skip
        exact zn_ne c4 (in_c 0 rfl) rfl
      · skip
        exact (hX _ _ ⟨Or.inl rfl, s, hI, fr_rf, rfl⟩)
    · skip
      have i1x7 := r_lt1 0 25 c1x7 i1x1 (in_c 26 rfl) rfl
      refine g_iconst 1 11 (gd rfl) rfl rfl ?_
      refine g_goto 15 (gd rfl) rfl ?_
      refine g_ireturn (gd rfl) rfl (nb01 (in_w 0 1 (in_c 1 rfl) rfl)) (hp1 _ _ ?_)
      show GG _ _ _ _ _ _ _ _ [.int (Int32.ofInt 1)] _ _ _
      refine g_thr (E := am_IA) (y := yX11_allow) 7 (gd rfl) rfl rfl (Or.inl ⟨rfl, rfl, rfl⟩) (by omega) (Nat.le_of_ble_eq_true rfl) (Nat.le_of_ble_eq_true rfl) (Nat.le_of_ble_eq_true rfl) (fun c4 => ?_) (fun c4 => ?_)
      · skip
        refine g_aload_n 8 (gd rfl) rfl rfl ?_
        refine g_getA (q2 := 1) 11 (gd rfl) rfl rfl rfl rfl ?_
        refine g_getA (q2 := 2) 14 (gd rfl) rfl rfl rfl rfl ?_
        refine g_getI 17 (gd rfl) rfl rfl rfl (fun z14 e14 => ?_)
        have q14 : u_2_1 = z14 := (e_2_1).trans e14.symm
        subst q14
        refine g_bipush 32 19 (gd rfl) rfl rfl ?_
        refine g_cmp_ge 22 36 (gd rfl) rfl rfl (fun c19 => ?_) (fun c19 => ?_)
        · skip
          have i19 := r_le2 32 32 c19 (in_c 32 rfl) (inv_F hI 0 32 rfl e_2_1) rfl
          refine g_iconst 0 37 (gd rfl) rfl rfl ?_
          refine g_thr (E := am_IS) (y := yX11_ready) 40 (gd rfl) rfl rfl (Or.inr ⟨rfl, rfl, rfl⟩) (by omega) (Nat.le_of_ble_eq_true rfl) (Nat.le_of_ble_eq_true rfl) (Nat.le_of_ble_eq_true rfl) (fun c37 => ?_) (fun c37 => ?_)
          · skip
            exact zn_ne c37 (in_c 0 rfl) rfl
          · skip
            exact (hX _ _ ⟨Or.inr rfl, s, hI, fr_rf, rfl⟩)
        · skip
          have i19 := r_lt1 0 31 c19 (inv_F hI 0 32 rfl e_2_1) (in_c 32 rfl) rfl
          refine g_aload_n 23 (gd rfl) rfl rfl ?_
          refine g_getA (q2 := 1) 26 (gd rfl) rfl rfl rfl rfl ?_
          refine g_callv (X := _) (As := []) (r := []) (b := A 1) (q := 1) 29 (gd rfl) rfl rfl rfl rfl rfl (ww_o rfl) (Nat.le_of_ble_eq_true rfl) (mc := 0) (ms := 0) (Nat.zero_le _) (Nat.zero_le _) (P := fun v u => _) ?_ (fun e u h => h) (fun v u h => h)
          intro po26 xx26 hp26 hx26
          refine g_enter2 (k := 122) (N := 300) (by omega) rfl (Nat.le_of_ble_eq_true rfl) ?_
          refine g_aload_n 1 (gd rfl) rfl rfl ?_
          refine g_getA (q2 := 2) 4 (gd rfl) rfl rfl rfl rfl ?_
          refine g_getI 7 (gd rfl) rfl rfl rfl (fun z26x4 e26x4 => ?_)
          have q26x4 : u_2_0 = z26x4 := (e_2_0).trans e26x4.symm
          subst q26x4
          refine g_sipush 4000 10 (gd rfl) rfl rfl ?_
          refine g_cmp_lt 13 17 (gd rfl) rfl rfl (fun c26x10 => ?_) (fun c26x10 => ?_)
          · skip
            have i26x10 := r_lt1 0 3999 c26x10 (inv_F hI 0 4000 rfl e_2_0) (in_c 4000 rfl) rfl
            refine g_iconst 0 18 (gd rfl) rfl rfl ?_
            refine g_ireturn (gd rfl) rfl (nb01 (in_w 0 1 (in_c 0 rfl) rfl)) (hp26 _ _ ?_)
            show GG _ _ _ _ _ _ _ _ [.int (Int32.ofInt 0)] _ _ _
            refine g_if_ne 32 36 (gd rfl) rfl rfl (fun c29 => ?_) (fun c29 => ?_)
            · skip
              exact zn_ne c29 (in_c 0 rfl) rfl
            · skip
              refine g_iconst 1 33 (gd rfl) rfl rfl ?_
              refine g_goto 37 (gd rfl) rfl ?_
              refine g_thr (E := am_IS) (y := yX11_ready) 40 (gd rfl) rfl rfl (Or.inr ⟨rfl, rfl, rfl⟩) (by omega) (Nat.le_of_ble_eq_true rfl) (Nat.le_of_ble_eq_true rfl) (Nat.le_of_ble_eq_true rfl) (fun c37 => ?_) (fun c37 => ?_)
              · skip
                refine g_aload_n 41 (gd rfl) rfl rfl ?_
                refine g_getA (q2 := 1) 44 (gd rfl) rfl rfl rfl rfl ?_
                refine g_iload_n 45 (gd rfl) rfl rfl ?_
                have p45 : KL s := by exact q_0
                refine g_callv (X := _) (As := [.int x1]) (r := []) (b := A 1) (q := 1) 48 (gd rfl) rfl rfl rfl rfl rfl (ww_o rfl) (Nat.le_of_ble_eq_true rfl) (Nat.le_trans lgc_le (Nat.le_of_ble_eq_true rfl)) (Nat.le_trans (lsl_le (inv_F hI 448 28000 (q := 30) (j := 0) rfl rfl) (by rw [← (show u_2_0 = s.2.2.1 2 0 from e_2_0)]; exact in_w 0 3999 i26x10 rfl)) (Nat.le_of_ble_eq_true rfl)) (k_124_1 (by omega) hI (in_w 0 25 i1x7 rfl) e_2_0 e_2_1 e_30_0 (in_w 0 3999 i26x10 rfl) (in_w 0 31 i19 rfl) p45) (fun e u h => h) (fun v u h => ?_)
                obtain ⟨a45, s45, hI45, hF45, n45, z45, rfl, rfl, i45, p45a, p45b, p45c, p45d⟩ := h
                obtain ⟨z45a, e45⟩ : ∃ w, w = s45.2.2.1 2 0 := ⟨_, rfl⟩
                have i45a := inv_F hI45 0 4000 rfl e45
                rw [← (show u_2_0 = s.2.2.1 2 0 from e_2_0)] at n45
                rw [← (show z45a = s45.2.2.1 2 0 from e45)] at n45
                show GG _ _ _ _ _ _ _ _ [.int z45] _ _ _
                have n48 : KL s45 := by exact p45a
                exact g_ireturn (gd rfl) rfl rfl (hP _ _ ⟨a45, s45, hI45, (fr_tr rfl fr_rf hF45), z45, rfl, rfl, in_w (-1) 31 i45 rfl, n48⟩)
              · skip
                exact zn_eq c37 (in_c 1 rfl) rfl
          · skip
            have i26x10 := r_le2 4000 4000 c26x10 (in_c 4000 rfl) (inv_F hI 0 4000 rfl e_2_0) rfl
            refine g_iconst 1 14 (gd rfl) rfl rfl ?_
            refine g_goto 18 (gd rfl) rfl ?_
            refine g_ireturn (gd rfl) rfl (nb01 (in_w 0 1 (in_c 1 rfl) rfl)) (hp26 _ _ ?_)
            show GG _ _ _ _ _ _ _ _ [.int (Int32.ofInt 1)] _ _ _
            refine g_if_ne 32 36 (gd rfl) rfl rfl (fun c29 => ?_) (fun c29 => ?_)
            · skip
              refine g_iconst 0 37 (gd rfl) rfl rfl ?_
              refine g_thr (E := am_IS) (y := yX11_ready) 40 (gd rfl) rfl rfl (Or.inr ⟨rfl, rfl, rfl⟩) (by omega) (Nat.le_of_ble_eq_true rfl) (Nat.le_of_ble_eq_true rfl) (Nat.le_of_ble_eq_true rfl) (fun c37 => ?_) (fun c37 => ?_)
              · skip
                exact zn_ne c37 (in_c 0 rfl) rfl
              · skip
                exact (hX _ _ ⟨Or.inr rfl, s, hI, fr_rf, rfl⟩)
            · skip
              exact zn_eq c29 (in_c 1 rfl) rfl
      · skip
        exact zn_eq c4 (in_c 1 rfl) rfl

def fm_214_0 : FM := ([3, 4, 5, 6, 7, 8, 30], [], [(2, 0), (2, 1), (2, 2), (2, 3), (30, 0)], [])
/-- GraphHouse.take -/
theorem k_214_0 {Z : AmZ} {A : Nat → Nat} {s : GS} {ex : va_W} {d : Nat} {x1 : Int32} {u_2_0 : Int32} {u_2_1 : Int32} {u_30_0 : Int32} (hd : 8 ≤ d) (hI : Inv s) (e_2_0 : u_2_0 = s.2.2.1 2 0) (e_2_1 : u_2_1 = s.2.2.1 2 1) (e_30_0 : u_30_0 = s.2.2.1 30 0) (q_0 : KL s) : GC Z d 214 [.ref (A 0), .int x1] (WW Z A s ++ ex) 4 28018 (fun v u => ∃ a : Nat, ∃ t : GS, Inv t ∧ Fr fm_214_0 s t ∧ ∃ z : Int32, v = some (.int z) ∧ u = WW Z (ax A 30 a) t ++ ex ∧ In z 0 4000 ∧ (KL t)) (gE2 Z A ex ([], [], [], []) s) := by
  intro post xp hP hX
  refine g_enter2 (k := 214) (N := 900) (by omega) rfl (Nat.le_of_ble_eq_true rfl) ?_
  refine g_aload_n 1 (gd rfl) rfl rfl ?_
  refine g_getA (q2 := 1) 4 (gd rfl) rfl rfl rfl rfl ?_
  refine g_getA (q2 := 2) 7 (gd rfl) rfl rfl rfl rfl ?_
  refine g_iload_n 8 (gd rfl) rfl rfl ?_
  refine g_callv (X := _) (As := [.int x1]) (r := []) (b := A 2) (q := 2) 11 (gd rfl) rfl rfl rfl rfl rfl (ww_o rfl) (Nat.le_of_ble_eq_true rfl) (mc := 0) (ms := 0) (Nat.zero_le _) (Nat.zero_le _) (P := fun v u => _) ?_ (fun e u h => h) (fun v u h => h)
  intro po8 xx8 hp8 hx8
  refine g_enter2 (k := 96) (N := 300) (by omega) rfl (Nat.le_of_ble_eq_true rfl) ?_
  refine g_iload_n 1 (gd rfl) rfl rfl ?_
  refine g_if_lt 4 26 (gd rfl) rfl rfl (fun c8x1 => ?_) (fun c8x1 => ?_)
  · skip
    have i8x1 := z_lt (-2147483648) (-1) c8x1 (i_rng x1) rfl
    refine g_iconst 0 27 (gd rfl) rfl rfl ?_
    refine g_ireturn (gd rfl) rfl (nb01 (in_w 0 1 (in_c 0 rfl) rfl)) (hp8 _ _ ?_)
    show GG _ _ _ _ _ _ _ _ [.int (Int32.ofInt 0)] _ _ _
    refine g_thr (E := am_IA) (y := yX11_allow) 14 (gd rfl) rfl rfl (Or.inl ⟨rfl, rfl, rfl⟩) (by omega) (Nat.le_of_ble_eq_true rfl) (Nat.le_of_ble_eq_true rfl) (Nat.le_of_ble_eq_true rfl) (fun c11 => ?_) (fun c11 => ?_)
    · skip
      exact zn_ne c11 (in_c 0 rfl) rfl
    · skip
      exact (hX _ _ ⟨Or.inl rfl, s, hI, fr_rf, rfl⟩)
  · skip
    have i8x1 := z_ge 0 2147483647 c8x1 (i_rng x1) rfl
    refine g_iload_n 5 (gd rfl) rfl rfl ?_
    refine g_aload_n 6 (gd rfl) rfl rfl ?_
    refine g_getI 9 (gd rfl) rfl rfl rfl (fun z8x6 e8x6 => ?_)
    have i8x6 := inv_F hI 0 160 rfl e8x6
    refine g_cmp_ge 12 26 (gd rfl) rfl rfl (fun c8x9 => ?_) (fun c8x9 => ?_)
    · skip
      refine g_iconst 0 27 (gd rfl) rfl rfl ?_
      refine g_ireturn (gd rfl) rfl (nb01 (in_w 0 1 (in_c 0 rfl) rfl)) (hp8 _ _ ?_)
      show GG _ _ _ _ _ _ _ _ [.int (Int32.ofInt 0)] _ _ _
      refine g_thr (E := am_IA) (y := yX11_allow) 14 (gd rfl) rfl rfl (Or.inl ⟨rfl, rfl, rfl⟩) (by omega) (Nat.le_of_ble_eq_true rfl) (Nat.le_of_ble_eq_true rfl) (Nat.le_of_ble_eq_true rfl) (fun c11 => ?_) (fun c11 => ?_)
      · skip
        exact zn_ne c11 (in_c 0 rfl) rfl
      · skip
        exact (hX _ _ ⟨Or.inl rfl, s, hI, fr_rf, rfl⟩)
    · skip
      have i8x9 := r_lt1 0 159 c8x9 i8x1 i8x6 rfl
      have i8x9a := r_lt2 1 160 c8x9 i8x1 i8x6 rfl
      refine g_aload_n 13 (gd rfl) rfl rfl ?_
      refine g_getA (q2 := 4) 16 (gd rfl) rfl rfl rfl rfl ?_
      refine g_iload_n 17 (gd rfl) rfl rfl ?_
      refine g_iaload 18 (gd rfl) rfl (n := 160) rfl (in_ix i8x9 rfl) (fun z8x17 e8x17 => ?_)
      have i8x17 := inv_I hI (n := 160) (t := 0) (-1) 31 rfl (in_ix i8x9 rfl) rfl e8x17
      refine g_iconst (-1) 19 (gd rfl) rfl rfl ?_
      refine g_cmp_eq 22 26 (gd rfl) rfl rfl (fun c8x19 => ?_) (fun c8x19 => ?_)
      · skip
        have i8x19 := r_eq1 (-1) (-1) c8x19 i8x17 (in_c (-1) rfl) rfl
        refine g_iconst 0 27 (gd rfl) rfl rfl ?_
        refine g_ireturn (gd rfl) rfl (nb01 (in_w 0 1 (in_c 0 rfl) rfl)) (hp8 _ _ ?_)
        show GG _ _ _ _ _ _ _ _ [.int (Int32.ofInt 0)] _ _ _
        refine g_thr (E := am_IA) (y := yX11_allow) 14 (gd rfl) rfl rfl (Or.inl ⟨rfl, rfl, rfl⟩) (by omega) (Nat.le_of_ble_eq_true rfl) (Nat.le_of_ble_eq_true rfl) (Nat.le_of_ble_eq_true rfl) (fun c11 => ?_) (fun c11 => ?_)
        · skip
          exact zn_ne c11 (in_c 0 rfl) rfl
        · skip
          exact (hX _ _ ⟨Or.inl rfl, s, hI, fr_rf, rfl⟩)
      · skip
        have i8x19 := r_ne1 0 31 c8x19 i8x17 (in_c (-1) rfl) rfl
        refine g_iconst 1 23 (gd rfl) rfl rfl ?_
        refine g_goto 27 (gd rfl) rfl ?_
        refine g_ireturn (gd rfl) rfl (nb01 (in_w 0 1 (in_c 1 rfl) rfl)) (hp8 _ _ ?_)
        show GG _ _ _ _ _ _ _ _ [.int (Int32.ofInt 1)] _ _ _
        refine g_thr (E := am_IA) (y := yX11_allow) 14 (gd rfl) rfl rfl (Or.inl ⟨rfl, rfl, rfl⟩) (by omega) (Nat.le_of_ble_eq_true rfl) (Nat.le_of_ble_eq_true rfl) (Nat.le_of_ble_eq_true rfl) (fun c11 => ?_) (fun c11 => ?_)
        · skip
          refine g_aload_n 15 (gd rfl) rfl rfl ?_
          refine g_getA (q2 := 1) 18 (gd rfl) rfl rfl rfl rfl ?_
          refine g_callv (X := _) (As := []) (r := []) (b := A 1) (q := 1) 21 (gd rfl) rfl rfl rfl rfl rfl (ww_o rfl) (Nat.le_of_ble_eq_true rfl) (mc := 0) (ms := 0) (Nat.zero_le _) (Nat.zero_le _) (P := fun v u => _) ?_ (fun e u h => h) (fun v u h => h)
          intro po18 xx18 hp18 hx18
          refine g_enter2 (k := 122) (N := 300) (by omega) rfl (Nat.le_of_ble_eq_true rfl) ?_
          refine g_aload_n 1 (gd rfl) rfl rfl ?_
          refine g_getA (q2 := 2) 4 (gd rfl) rfl rfl rfl rfl ?_
          refine g_getI 7 (gd rfl) rfl rfl rfl (fun z18x4 e18x4 => ?_)
          have q18x4 : u_2_0 = z18x4 := (e_2_0).trans e18x4.symm
          subst q18x4
          refine g_sipush 4000 10 (gd rfl) rfl rfl ?_
          refine g_cmp_lt 13 17 (gd rfl) rfl rfl (fun c18x10 => ?_) (fun c18x10 => ?_)
          · skip
            have i18x10 := r_lt1 0 3999 c18x10 (inv_F hI 0 4000 rfl e_2_0) (in_c 4000 rfl) rfl
            refine g_iconst 0 18 (gd rfl) rfl rfl ?_
            refine g_ireturn (gd rfl) rfl (nb01 (in_w 0 1 (in_c 0 rfl) rfl)) (hp18 _ _ ?_)
            show GG _ _ _ _ _ _ _ _ [.int (Int32.ofInt 0)] _ _ _
            refine g_if_ne 24 28 (gd rfl) rfl rfl (fun c21 => ?_) (fun c21 => ?_)
            · skip
              exact zn_ne c21 (in_c 0 rfl) rfl
            · skip
              refine g_iconst 1 25 (gd rfl) rfl rfl ?_
              refine g_goto 29 (gd rfl) rfl ?_
              refine g_thr (E := am_IS) (y := yX11_ready) 32 (gd rfl) rfl rfl (Or.inr ⟨rfl, rfl, rfl⟩) (by omega) (Nat.le_of_ble_eq_true rfl) (Nat.le_of_ble_eq_true rfl) (Nat.le_of_ble_eq_true rfl) (fun c29 => ?_) (fun c29 => ?_)
              · skip
                refine g_aload_n 33 (gd rfl) rfl rfl ?_
                refine g_getA (q2 := 1) 36 (gd rfl) rfl rfl rfl rfl ?_
                refine g_iload_n 37 (gd rfl) rfl rfl ?_
                have p37 : KL s := by exact q_0
                refine g_callv (X := _) (As := [.int x1]) (r := []) (b := A 1) (q := 1) 40 (gd rfl) rfl rfl rfl rfl rfl (ww_o rfl) (Nat.le_of_ble_eq_true rfl) (Nat.le_trans lgc_le (Nat.le_of_ble_eq_true rfl)) (Nat.le_trans (lsl_le (inv_F hI 448 28000 (q := 30) (j := 0) rfl rfl) (by rw [← (show u_2_0 = s.2.2.1 2 0 from e_2_0)]; exact in_w 0 3999 i18x10 rfl)) (Nat.le_of_ble_eq_true rfl)) (k_126_1 (by omega) hI (in_w 0 159 i8x9 rfl) e_2_0 e_2_1 e_30_0 (in_w 0 3999 i18x10 rfl) p37) (fun e u h => h) (fun v u h => ?_)
                obtain ⟨a37, s37, hI37, hF37, n37, rfl, rfl, p37a, p37b, p37c⟩ := h
                obtain ⟨z37a, e37⟩ : ∃ w, w = s37.2.2.1 2 0 := ⟨_, rfl⟩
                have i37a := inv_F hI37 0 4000 rfl e37
                rw [← (show u_2_0 = s.2.2.1 2 0 from e_2_0)] at n37
                rw [← (show z37a = s37.2.2.1 2 0 from e37)] at n37
                show GG _ _ _ _ _ _ _ _ [] _ _ _
                refine g_aload_n 41 (gd rfl) rfl rfl ?_
                refine g_getA (A := (ax A 30 a37)) (q := 0) (q2 := 1) 44 (gd rfl) rfl rfl rfl rfl ?_
                refine g_getA (A := (ax A 30 a37)) (q := 1) (q2 := 2) 47 (gd rfl) rfl rfl rfl rfl ?_
                refine g_getI (A := (ax A 30 a37)) (q := 2) 50 (gd rfl) rfl rfl rfl (fun z47 e47 => ?_)
                have q47 : z37a = z47 := (e37).trans e47.symm
                subst q47
                have n50 : KL s37 := by exact p37a
                exact g_ireturn (gd rfl) rfl rfl (hP _ _ ⟨a37, s37, hI37, (fr_tr rfl fr_rf hF37), z37a, rfl, rfl, in_w 0 4000 i37a rfl, n50⟩)
              · skip
                exact zn_eq c29 (in_c 1 rfl) rfl
          · skip
            have i18x10 := r_le2 4000 4000 c18x10 (in_c 4000 rfl) (inv_F hI 0 4000 rfl e_2_0) rfl
            refine g_iconst 1 14 (gd rfl) rfl rfl ?_
            refine g_goto 18 (gd rfl) rfl ?_
            refine g_ireturn (gd rfl) rfl (nb01 (in_w 0 1 (in_c 1 rfl) rfl)) (hp18 _ _ ?_)
            show GG _ _ _ _ _ _ _ _ [.int (Int32.ofInt 1)] _ _ _
            refine g_if_ne 24 28 (gd rfl) rfl rfl (fun c21 => ?_) (fun c21 => ?_)
            · skip
              refine g_iconst 0 29 (gd rfl) rfl rfl ?_
              refine g_thr (E := am_IS) (y := yX11_ready) 32 (gd rfl) rfl rfl (Or.inr ⟨rfl, rfl, rfl⟩) (by omega) (Nat.le_of_ble_eq_true rfl) (Nat.le_of_ble_eq_true rfl) (Nat.le_of_ble_eq_true rfl) (fun c29 => ?_) (fun c29 => ?_)
              · skip
                exact zn_ne c29 (in_c 0 rfl) rfl
              · skip
                exact (hX _ _ ⟨Or.inr rfl, s, hI, fr_rf, rfl⟩)
            · skip
              exact zn_eq c21 (in_c 1 rfl) rfl
        · skip
          exact zn_eq c11 (in_c 1 rfl) rfl

def fm_213_0 : FM := ([3, 4, 5, 6, 7, 8, 30], [], [(2, 0), (2, 1), (2, 2), (2, 3), (30, 0)], [])
/-- GraphHouse.arc -/
theorem k_213_0 {Z : AmZ} {A : Nat → Nat} {s : GS} {ex : va_W} {d : Nat} {x1 : Int32} {x2 : Int32} {x3 : Int32} {x4 : Int32} {x5 : Int32} {u_2_0 : Int32} {u_2_1 : Int32} {u_30_0 : Int32} (hd : 7 ≤ d) (hI : Inv s) (e_2_0 : u_2_0 = s.2.2.1 2 0) (e_2_1 : u_2_1 = s.2.2.1 2 1) (e_30_0 : u_30_0 = s.2.2.1 30 0) (q_0 : KL s) : GC Z d 213 [.ref (A 0), .int x1, .int x2, .int x3, .int x4, .int x5] (WW Z A s ++ ex) 4 28018 (fun v u => ∃ a : Nat, ∃ t : GS, Inv t ∧ Fr fm_213_0 s t ∧ ∃ z : Int32, v = some (.int z) ∧ u = WW Z (ax A 30 a) t ++ ex ∧ In z (-3) 159 ∧ (KL t)) (gE2 Z A ex ([], [], [], []) s) := by
  intro post xp hP hX
  refine g_enter2 (k := 213) (N := 900) (by omega) rfl (Nat.le_of_ble_eq_true rfl) ?_
  refine g_aload_n 1 (gd rfl) rfl rfl ?_
  refine g_getA (q2 := 1) 4 (gd rfl) rfl rfl rfl rfl ?_
  refine g_iload_n 5 (gd rfl) rfl rfl ?_
  refine g_iload_n 6 (gd rfl) rfl rfl ?_
  refine g_iload_n 7 (gd rfl) rfl rfl ?_
  refine g_iload 9 (gd rfl) rfl rfl ?_
  refine g_iload 11 (gd rfl) rfl rfl ?_
  refine g_callv (X := _) (As := [.int x1, .int x2, .int x3, .int x4, .int x5]) (r := []) (b := A 1) (q := 1) 14 (gd rfl) rfl rfl rfl rfl rfl (ww_o rfl) (Nat.le_of_ble_eq_true rfl) (mc := 0) (ms := 0) (Nat.zero_le _) (Nat.zero_le _) (P := fun v u => _) ?_ (fun e u h => h) (fun v u h => h)
  intro po11 xx11 hp11 hx11
  refine g_enter2 (k := 123) (N := 300) (by omega) rfl (Nat.le_of_ble_eq_true rfl) ?_
  refine g_aload_n 1 (gd rfl) rfl rfl ?_
  refine g_getA (q2 := 2) 4 (gd rfl) rfl rfl rfl rfl ?_
  refine g_iload_n 5 (gd rfl) rfl rfl ?_
  refine g_callv (X := _) (As := [.int x1]) (r := []) (b := A 2) (q := 2) 8 (gd rfl) rfl rfl rfl rfl rfl (ww_o rfl) (Nat.le_of_ble_eq_true rfl) (mc := 0) (ms := 0) (Nat.zero_le _) (Nat.zero_le _) (P := fun v u => _) ?_ (fun e u h => h) (fun v u h => h)
  intro po11x5 xx11x5 hp11x5 hx11x5
  refine g_enter2 (k := 94) (N := 300) (by omega) rfl (Nat.le_of_ble_eq_true rfl) ?_
  refine g_iload_n 1 (gd rfl) rfl rfl ?_
  refine g_if_lt 4 16 (gd rfl) rfl rfl (fun c11x5x1 => ?_) (fun c11x5x1 => ?_)
  · skip
    have i11x5x1 := z_lt (-2147483648) (-1) c11x5x1 (i_rng x1) rfl
    refine g_iconst 0 17 (gd rfl) rfl rfl ?_
    refine g_ireturn (gd rfl) rfl (nb01 (in_w 0 1 (in_c 0 rfl) rfl)) (hp11x5 _ _ ?_)
    show GG _ _ _ _ _ _ _ _ [.int (Int32.ofInt 0)] _ _ _
    refine g_if_eq 11 49 (gd rfl) rfl rfl (fun c11x8 => ?_) (fun c11x8 => ?_)
    · skip
      refine g_iconst 0 50 (gd rfl) rfl rfl ?_
      refine g_ireturn (gd rfl) rfl (nb01 (in_w 0 1 (in_c 0 rfl) rfl)) (hp11 _ _ ?_)
      show GG _ _ _ _ _ _ _ _ [.int (Int32.ofInt 0)] _ _ _
      refine g_thr (E := am_IA) (y := yX11_allow) 17 (gd rfl) rfl rfl (Or.inl ⟨rfl, rfl, rfl⟩) (by omega) (Nat.le_of_ble_eq_true rfl) (Nat.le_of_ble_eq_true rfl) (Nat.le_of_ble_eq_true rfl) (fun c14 => ?_) (fun c14 => ?_)
      · skip
        exact zn_ne c14 (in_c 0 rfl) rfl
      · skip
        exact (hX _ _ ⟨Or.inl rfl, s, hI, fr_rf, rfl⟩)
    · skip
      exact zn_ne c11x8 (in_c 0 rfl) rfl
  · skip
    have i11x5x1 := z_ge 0 2147483647 c11x5x1 (i_rng x1) rfl
    refine g_iload_n 5 (gd rfl) rfl rfl ?_
    refine g_aload_n 6 (gd rfl) rfl rfl ?_
    refine g_getI 9 (gd rfl) rfl rfl rfl (fun z11x5x6 e11x5x6 => ?_)
    have q11x5x6 : u_2_1 = z11x5x6 := (e_2_1).trans e11x5x6.symm
    subst q11x5x6
    refine g_cmp_ge 12 16 (gd rfl) rfl rfl (fun c11x5x9 => ?_) (fun c11x5x9 => ?_)
    · skip
      refine g_iconst 0 17 (gd rfl) rfl rfl ?_
      refine g_ireturn (gd rfl) rfl (nb01 (in_w 0 1 (in_c 0 rfl) rfl)) (hp11x5 _ _ ?_)
      show GG _ _ _ _ _ _ _ _ [.int (Int32.ofInt 0)] _ _ _
      refine g_if_eq 11 49 (gd rfl) rfl rfl (fun c11x8 => ?_) (fun c11x8 => ?_)
      · skip
        refine g_iconst 0 50 (gd rfl) rfl rfl ?_
        refine g_ireturn (gd rfl) rfl (nb01 (in_w 0 1 (in_c 0 rfl) rfl)) (hp11 _ _ ?_)
        show GG _ _ _ _ _ _ _ _ [.int (Int32.ofInt 0)] _ _ _
        refine g_thr (E := am_IA) (y := yX11_allow) 17 (gd rfl) rfl rfl (Or.inl ⟨rfl, rfl, rfl⟩) (by omega) (Nat.le_of_ble_eq_true rfl) (Nat.le_of_ble_eq_true rfl) (Nat.le_of_ble_eq_true rfl) (fun c14 => ?_) (fun c14 => ?_)
        · skip
          exact zn_ne c14 (in_c 0 rfl) rfl
        · skip
          exact (hX _ _ ⟨Or.inl rfl, s, hI, fr_rf, rfl⟩)
      · skip
        exact zn_ne c11x8 (in_c 0 rfl) rfl
    · skip
      have i11x5x9 := r_lt1 0 31 c11x5x9 i11x5x1 (inv_F hI 0 32 rfl e_2_1) rfl
      have i11x5x9a := r_lt2 1 32 c11x5x9 i11x5x1 (inv_F hI 0 32 rfl e_2_1) rfl
      refine g_iconst 1 13 (gd rfl) rfl rfl ?_
      refine g_goto 17 (gd rfl) rfl ?_
      refine g_ireturn (gd rfl) rfl (nb01 (in_w 0 1 (in_c 1 rfl) rfl)) (hp11x5 _ _ ?_)
      show GG _ _ _ _ _ _ _ _ [.int (Int32.ofInt 1)] _ _ _
      refine g_if_eq 11 49 (gd rfl) rfl rfl (fun c11x8 => ?_) (fun c11x8 => ?_)
      · skip
        exact zn_eq c11x8 (in_c 1 rfl) rfl
      · skip
        refine g_aload_n 12 (gd rfl) rfl rfl ?_
        refine g_getA (q2 := 2) 15 (gd rfl) rfl rfl rfl rfl ?_
        refine g_iload_n 16 (gd rfl) rfl rfl ?_
        refine g_callv (X := _) (As := [.int x2]) (r := []) (b := A 2) (q := 2) 19 (gd rfl) rfl rfl rfl rfl rfl (ww_o rfl) (Nat.le_of_ble_eq_true rfl) (mc := 0) (ms := 0) (Nat.zero_le _) (Nat.zero_le _) (P := fun v u => _) ?_ (fun e u h => h) (fun v u h => h)
        intro po11x16 xx11x16 hp11x16 hx11x16
        refine g_enter2 (k := 94) (N := 300) (by omega) rfl (Nat.le_of_ble_eq_true rfl) ?_
        refine g_iload_n 1 (gd rfl) rfl rfl ?_
        refine g_if_lt 4 16 (gd rfl) rfl rfl (fun c11x16x1 => ?_) (fun c11x16x1 => ?_)
        · skip
          have i11x16x1 := z_lt (-2147483648) (-1) c11x16x1 (i_rng x2) rfl
          refine g_iconst 0 17 (gd rfl) rfl rfl ?_
          refine g_ireturn (gd rfl) rfl (nb01 (in_w 0 1 (in_c 0 rfl) rfl)) (hp11x16 _ _ ?_)
          show GG _ _ _ _ _ _ _ _ [.int (Int32.ofInt 0)] _ _ _
          refine g_if_eq 22 49 (gd rfl) rfl rfl (fun c11x19 => ?_) (fun c11x19 => ?_)
          · skip
            refine g_iconst 0 50 (gd rfl) rfl rfl ?_
            refine g_ireturn (gd rfl) rfl (nb01 (in_w 0 1 (in_c 0 rfl) rfl)) (hp11 _ _ ?_)
            show GG _ _ _ _ _ _ _ _ [.int (Int32.ofInt 0)] _ _ _
            refine g_thr (E := am_IA) (y := yX11_allow) 17 (gd rfl) rfl rfl (Or.inl ⟨rfl, rfl, rfl⟩) (by omega) (Nat.le_of_ble_eq_true rfl) (Nat.le_of_ble_eq_true rfl) (Nat.le_of_ble_eq_true rfl) (fun c14 => ?_) (fun c14 => ?_)
            · skip
              exact zn_ne c14 (in_c 0 rfl) rfl
            · skip
              exact (hX _ _ ⟨Or.inl rfl, s, hI, fr_rf, rfl⟩)
          · skip
            exact zn_ne c11x19 (in_c 0 rfl) rfl
        · skip
          have i11x16x1 := z_ge 0 2147483647 c11x16x1 (i_rng x2) rfl
          refine g_iload_n 5 (gd rfl) rfl rfl ?_
          refine g_aload_n 6 (gd rfl) rfl rfl ?_
          refine g_getI 9 (gd rfl) rfl rfl rfl (fun z11x16x6 e11x16x6 => ?_)
          have q11x16x6 : u_2_1 = z11x16x6 := (e_2_1).trans e11x16x6.symm
          subst q11x16x6
          refine g_cmp_ge 12 16 (gd rfl) rfl rfl (fun c11x16x9 => ?_) (fun c11x16x9 => ?_)
          · skip
            have i11x16x9 := r_le2 1 2147483647 c11x16x9 i11x5x9a i11x16x1 rfl
            refine g_iconst 0 17 (gd rfl) rfl rfl ?_
            refine g_ireturn (gd rfl) rfl (nb01 (in_w 0 1 (in_c 0 rfl) rfl)) (hp11x16 _ _ ?_)
            show GG _ _ _ _ _ _ _ _ [.int (Int32.ofInt 0)] _ _ _
            refine g_if_eq 22 49 (gd rfl) rfl rfl (fun c11x19 => ?_) (fun c11x19 => ?_)
            · skip
              refine g_iconst 0 50 (gd rfl) rfl rfl ?_
              refine g_ireturn (gd rfl) rfl (nb01 (in_w 0 1 (in_c 0 rfl) rfl)) (hp11 _ _ ?_)
              show GG _ _ _ _ _ _ _ _ [.int (Int32.ofInt 0)] _ _ _
              refine g_thr (E := am_IA) (y := yX11_allow) 17 (gd rfl) rfl rfl (Or.inl ⟨rfl, rfl, rfl⟩) (by omega) (Nat.le_of_ble_eq_true rfl) (Nat.le_of_ble_eq_true rfl) (Nat.le_of_ble_eq_true rfl) (fun c14 => ?_) (fun c14 => ?_)
              · skip
                exact zn_ne c14 (in_c 0 rfl) rfl
              · skip
                exact (hX _ _ ⟨Or.inl rfl, s, hI, fr_rf, rfl⟩)
            · skip
              exact zn_ne c11x19 (in_c 0 rfl) rfl
          · skip
            have i11x16x9 := r_lt1 0 31 c11x16x9 i11x16x1 i11x5x9a rfl
            refine g_iconst 1 13 (gd rfl) rfl rfl ?_
            refine g_goto 17 (gd rfl) rfl ?_
            refine g_ireturn (gd rfl) rfl (nb01 (in_w 0 1 (in_c 1 rfl) rfl)) (hp11x16 _ _ ?_)
            show GG _ _ _ _ _ _ _ _ [.int (Int32.ofInt 1)] _ _ _
            refine g_if_eq 22 49 (gd rfl) rfl rfl (fun c11x19 => ?_) (fun c11x19 => ?_)
            · skip
              exact zn_eq c11x19 (in_c 1 rfl) rfl
            · skip
              refine g_iload_n 23 (gd rfl) rfl rfl ?_
              refine g_calls (As := [.int x3]) (r := []) 26 (gd rfl) rfl rfl rfl rfl rfl (Nat.le_of_ble_eq_true rfl) (mc := 0) (ms := 0) (Nat.zero_le _) (Nat.zero_le _) (P := fun v u => _) ?_ (fun v u h => h)
              intro po11x23 xx11x23 hp11x23 hx11x23
              refine g_enter2 (k := 261) (N := 300) (by omega) rfl (Nat.le_of_ble_eq_true rfl) ?_
              refine g_iload_n 1 (gd rfl) rfl rfl ?_
              refine g_ldc_w (-1000000) 4 (gd rfl) rfl rfl ?_
              refine g_cmp_lt 7 18 (gd rfl) rfl rfl (fun c11x23x4 => ?_) (fun c11x23x4 => ?_)
              · skip
                have i11x23x4 := r_lt1 (-2147483648) (-1000001) c11x23x4 (i_rng x3) (in_c (-1000000) rfl) rfl
                refine g_iconst 0 19 (gd rfl) rfl rfl ?_
                refine g_ireturn (gd rfl) rfl (nb01 (in_w 0 1 (in_c 0 rfl) rfl)) (hp11x23 _ _ ?_)
                show GG _ _ _ _ _ _ _ _ [.int (Int32.ofInt 0)] _ _ _
                refine g_if_eq 29 49 (gd rfl) rfl rfl (fun c11x26 => ?_) (fun c11x26 => ?_)
                · skip
                  refine g_iconst 0 50 (gd rfl) rfl rfl ?_
                  refine g_ireturn (gd rfl) rfl (nb01 (in_w 0 1 (in_c 0 rfl) rfl)) (hp11 _ _ ?_)
                  show GG _ _ _ _ _ _ _ _ [.int (Int32.ofInt 0)] _ _ _
                  refine g_thr (E := am_IA) (y := yX11_allow) 17 (gd rfl) rfl rfl (Or.inl ⟨rfl, rfl, rfl⟩) (by omega) (Nat.le_of_ble_eq_true rfl) (Nat.le_of_ble_eq_true rfl) (Nat.le_of_ble_eq_true rfl) (fun c14 => ?_) (fun c14 => ?_)
                  · skip
                    exact zn_ne c14 (in_c 0 rfl) rfl
                  · skip
                    exact (hX _ _ ⟨Or.inl rfl, s, hI, fr_rf, rfl⟩)
                · skip
                  exact zn_ne c11x26 (in_c 0 rfl) rfl
              · skip
                have i11x23x4 := r_le2 (-1000000) 2147483647 c11x23x4 (in_c (-1000000) rfl) (i_rng x3) rfl
                refine g_iload_n 8 (gd rfl) rfl rfl ?_
                refine g_ldc_w 1000000 11 (gd rfl) rfl rfl ?_
                refine g_cmp_gt 14 18 (gd rfl) rfl rfl (fun c11x23x11 => ?_) (fun c11x23x11 => ?_)
                · skip
                  have i11x23x11 := r_lt2 1000001 2147483647 c11x23x11 (in_c 1000000 rfl) i11x23x4 rfl
                  refine g_iconst 0 19 (gd rfl) rfl rfl ?_
                  refine g_ireturn (gd rfl) rfl (nb01 (in_w 0 1 (in_c 0 rfl) rfl)) (hp11x23 _ _ ?_)
                  show GG _ _ _ _ _ _ _ _ [.int (Int32.ofInt 0)] _ _ _
                  refine g_if_eq 29 49 (gd rfl) rfl rfl (fun c11x26 => ?_) (fun c11x26 => ?_)
                  · skip
                    refine g_iconst 0 50 (gd rfl) rfl rfl ?_
                    refine g_ireturn (gd rfl) rfl (nb01 (in_w 0 1 (in_c 0 rfl) rfl)) (hp11 _ _ ?_)
                    show GG _ _ _ _ _ _ _ _ [.int (Int32.ofInt 0)] _ _ _
                    refine g_thr (E := am_IA) (y := yX11_allow) 17 (gd rfl) rfl rfl (Or.inl ⟨rfl, rfl, rfl⟩) (by omega) (Nat.le_of_ble_eq_true rfl) (Nat.le_of_ble_eq_true rfl) (Nat.le_of_ble_eq_true rfl) (fun c14 => ?_) (fun c14 => ?_)
                    · skip
                      exact zn_ne c14 (in_c 0 rfl) rfl
                    · skip
                      exact (hX _ _ ⟨Or.inl rfl, s, hI, fr_rf, rfl⟩)
                  · skip
                    exact zn_ne c11x26 (in_c 0 rfl) rfl
                · skip
                  have i11x23x11 := r_le1 (-1000000) 1000000 c11x23x11 i11x23x4 (in_c 1000000 rfl) rfl
                  refine g_iconst 1 15 (gd rfl) rfl rfl ?_
                  refine g_goto 19 (gd rfl) rfl ?_
                  refine g_ireturn (gd rfl) rfl (nb01 (in_w 0 1 (in_c 1 rfl) rfl)) (hp11x23 _ _ ?_)
                  show GG _ _ _ _ _ _ _ _ [.int (Int32.ofInt 1)] _ _ _
                  refine g_if_eq 29 49 (gd rfl) rfl rfl (fun c11x26 => ?_) (fun c11x26 => ?_)
                  · skip
                    exact zn_eq c11x26 (in_c 1 rfl) rfl
                  · skip
                    refine g_iload 31 (gd rfl) rfl rfl ?_
                    refine g_calls (As := [.int x4]) (r := []) 34 (gd rfl) rfl rfl rfl rfl rfl (Nat.le_of_ble_eq_true rfl) (mc := 0) (ms := 0) (Nat.zero_le _) (Nat.zero_le _) (P := fun v u => _) ?_ (fun v u h => h)
                    intro po11x31 xx11x31 hp11x31 hx11x31
                    refine g_enter2 (k := 262) (N := 300) (by omega) rfl (Nat.le_of_ble_eq_true rfl) ?_
                    refine g_iload_n 1 (gd rfl) rfl rfl ?_
                    refine g_if_lt 4 15 (gd rfl) rfl rfl (fun c11x31x1 => ?_) (fun c11x31x1 => ?_)
                    · skip
                      have i11x31x1 := z_lt (-2147483648) (-1) c11x31x1 (i_rng x4) rfl
                      refine g_iconst 0 16 (gd rfl) rfl rfl ?_
                      refine g_ireturn (gd rfl) rfl (nb01 (in_w 0 1 (in_c 0 rfl) rfl)) (hp11x31 _ _ ?_)
                      show GG _ _ _ _ _ _ _ _ [.int (Int32.ofInt 0)] _ _ _
                      refine g_if_eq 37 49 (gd rfl) rfl rfl (fun c11x34 => ?_) (fun c11x34 => ?_)
                      · skip
                        refine g_iconst 0 50 (gd rfl) rfl rfl ?_
                        refine g_ireturn (gd rfl) rfl (nb01 (in_w 0 1 (in_c 0 rfl) rfl)) (hp11 _ _ ?_)
                        show GG _ _ _ _ _ _ _ _ [.int (Int32.ofInt 0)] _ _ _
                        refine g_thr (E := am_IA) (y := yX11_allow) 17 (gd rfl) rfl rfl (Or.inl ⟨rfl, rfl, rfl⟩) (by omega) (Nat.le_of_ble_eq_true rfl) (Nat.le_of_ble_eq_true rfl) (Nat.le_of_ble_eq_true rfl) (fun c14 => ?_) (fun c14 => ?_)
                        · skip
                          exact zn_ne c14 (in_c 0 rfl) rfl
                        · skip
                          exact (hX _ _ ⟨Or.inl rfl, s, hI, fr_rf, rfl⟩)
                      · skip
                        exact zn_ne c11x34 (in_c 0 rfl) rfl
                    · skip
                      have i11x31x1 := z_ge 0 2147483647 c11x31x1 (i_rng x4) rfl
                      refine g_iload_n 5 (gd rfl) rfl rfl ?_
                      refine g_ldc_w 1000000 8 (gd rfl) rfl rfl ?_
                      refine g_cmp_gt 11 15 (gd rfl) rfl rfl (fun c11x31x8 => ?_) (fun c11x31x8 => ?_)
                      · skip
                        have i11x31x8 := r_lt2 1000001 2147483647 c11x31x8 (in_c 1000000 rfl) i11x31x1 rfl
                        refine g_iconst 0 16 (gd rfl) rfl rfl ?_
                        refine g_ireturn (gd rfl) rfl (nb01 (in_w 0 1 (in_c 0 rfl) rfl)) (hp11x31 _ _ ?_)
                        show GG _ _ _ _ _ _ _ _ [.int (Int32.ofInt 0)] _ _ _
                        refine g_if_eq 37 49 (gd rfl) rfl rfl (fun c11x34 => ?_) (fun c11x34 => ?_)
                        · skip
                          refine g_iconst 0 50 (gd rfl) rfl rfl ?_
                          refine g_ireturn (gd rfl) rfl (nb01 (in_w 0 1 (in_c 0 rfl) rfl)) (hp11 _ _ ?_)
                          show GG _ _ _ _ _ _ _ _ [.int (Int32.ofInt 0)] _ _ _
                          refine g_thr (E := am_IA) (y := yX11_allow) 17 (gd rfl) rfl rfl (Or.inl ⟨rfl, rfl, rfl⟩) (by omega) (Nat.le_of_ble_eq_true rfl) (Nat.le_of_ble_eq_true rfl) (Nat.le_of_ble_eq_true rfl) (fun c14 => ?_) (fun c14 => ?_)
                          · skip
                            exact zn_ne c14 (in_c 0 rfl) rfl
                          · skip
                            exact (hX _ _ ⟨Or.inl rfl, s, hI, fr_rf, rfl⟩)
                        · skip
                          exact zn_ne c11x34 (in_c 0 rfl) rfl
                      · skip
                        have i11x31x8 := r_le1 0 1000000 c11x31x8 i11x31x1 (in_c 1000000 rfl) rfl
                        refine g_iconst 1 12 (gd rfl) rfl rfl ?_
                        refine g_goto 16 (gd rfl) rfl ?_
                        refine g_ireturn (gd rfl) rfl (nb01 (in_w 0 1 (in_c 1 rfl) rfl)) (hp11x31 _ _ ?_)
                        show GG _ _ _ _ _ _ _ _ [.int (Int32.ofInt 1)] _ _ _
                        refine g_if_eq 37 49 (gd rfl) rfl rfl (fun c11x34 => ?_) (fun c11x34 => ?_)
                        · skip
                          exact zn_eq c11x34 (in_c 1 rfl) rfl
                        · skip
                          refine g_iload 39 (gd rfl) rfl rfl ?_
                          refine g_calls (As := [.int x5]) (r := []) 42 (gd rfl) rfl rfl rfl rfl rfl (Nat.le_of_ble_eq_true rfl) (mc := 0) (ms := 0) (Nat.zero_le _) (Nat.zero_le _) (P := fun v u => _) ?_ (fun v u h => h)
                          intro po11x39 xx11x39 hp11x39 hx11x39
                          refine g_enter2 (k := 260) (N := 300) (by omega) rfl (Nat.le_of_ble_eq_true rfl) ?_
                          refine g_iload_n 1 (gd rfl) rfl rfl ?_
                          refine g_if_lt 4 14 (gd rfl) rfl rfl (fun c11x39x1 => ?_) (fun c11x39x1 => ?_)
                          · skip
                            have i11x39x1 := z_lt (-2147483648) (-1) c11x39x1 (i_rng x5) rfl
                            refine g_iconst 0 15 (gd rfl) rfl rfl ?_
                            refine g_ireturn (gd rfl) rfl (nb01 (in_w 0 1 (in_c 0 rfl) rfl)) (hp11x39 _ _ ?_)
                            show GG _ _ _ _ _ _ _ _ [.int (Int32.ofInt 0)] _ _ _
                            refine g_if_eq 45 49 (gd rfl) rfl rfl (fun c11x42 => ?_) (fun c11x42 => ?_)
                            · skip
                              refine g_iconst 0 50 (gd rfl) rfl rfl ?_
                              refine g_ireturn (gd rfl) rfl (nb01 (in_w 0 1 (in_c 0 rfl) rfl)) (hp11 _ _ ?_)
                              show GG _ _ _ _ _ _ _ _ [.int (Int32.ofInt 0)] _ _ _
                              refine g_thr (E := am_IA) (y := yX11_allow) 17 (gd rfl) rfl rfl (Or.inl ⟨rfl, rfl, rfl⟩) (by omega) (Nat.le_of_ble_eq_true rfl) (Nat.le_of_ble_eq_true rfl) (Nat.le_of_ble_eq_true rfl) (fun c14 => ?_) (fun c14 => ?_)
                              · skip
                                exact zn_ne c14 (in_c 0 rfl) rfl
                              · skip
                                exact (hX _ _ ⟨Or.inl rfl, s, hI, fr_rf, rfl⟩)
                            · skip
                              exact zn_ne c11x42 (in_c 0 rfl) rfl
                          · skip
                            have i11x39x1 := z_ge 0 2147483647 c11x39x1 (i_rng x5) rfl
                            refine g_iload_n 5 (gd rfl) rfl rfl ?_
                            refine g_bipush 26 7 (gd rfl) rfl rfl ?_
                            refine g_cmp_ge 10 14 (gd rfl) rfl rfl (fun c11x39x7 => ?_) (fun c11x39x7 => ?_)
                            · skip
                              have i11x39x7 := r_le2 26 2147483647 c11x39x7 (in_c 26 rfl) i11x39x1 rfl
                              refine g_iconst 0 15 (gd rfl) rfl rfl ?_
                              refine g_ireturn (gd rfl) rfl (nb01 (in_w 0 1 (in_c 0 rfl) rfl)) (hp11x39 _ _ ?_)
                              show GG _ _ _ _ _ _ _ _ [.int (Int32.ofInt 0)] _ _ _
                              refine g_if_eq 45 49 (gd rfl) rfl rfl (fun c11x42 => ?_) (fun c11x42 => ?_)
                              · skip
                                refine g_iconst 0 50 (gd rfl) rfl rfl ?_
                                refine g_ireturn (gd rfl) rfl (nb01 (in_w 0 1 (in_c 0 rfl) rfl)) (hp11 _ _ ?_)
                                show GG _ _ _ _ _ _ _ _ [.int (Int32.ofInt 0)] _ _ _
                                refine g_thr (E := am_IA) (y := yX11_allow) 17 (gd rfl) rfl rfl (Or.inl ⟨rfl, rfl, rfl⟩) (by omega) (Nat.le_of_ble_eq_true rfl) (Nat.le_of_ble_eq_true rfl) (Nat.le_of_ble_eq_true rfl) (fun c14 => ?_) (fun c14 => ?_)
                                · skip
                                  exact zn_ne c14 (in_c 0 rfl) rfl
                                · skip
                                  exact (hX _ _ ⟨Or.inl rfl, s, hI, fr_rf, rfl⟩)
                              · skip
                                exact zn_ne c11x42 (in_c 0 rfl) rfl
                            · skip
                              have i11x39x7 := r_lt1 0 25 c11x39x7 i11x39x1 (in_c 26 rfl) rfl
                              refine g_iconst 1 11 (gd rfl) rfl rfl ?_
                              refine g_goto 15 (gd rfl) rfl ?_
                              refine g_ireturn (gd rfl) rfl (nb01 (in_w 0 1 (in_c 1 rfl) rfl)) (hp11x39 _ _ ?_)
                              show GG _ _ _ _ _ _ _ _ [.int (Int32.ofInt 1)] _ _ _
                              refine g_if_eq 45 49 (gd rfl) rfl rfl (fun c11x42 => ?_) (fun c11x42 => ?_)
                              · skip
                                exact zn_eq c11x42 (in_c 1 rfl) rfl
                              · skip
                                refine g_iconst 1 46 (gd rfl) rfl rfl ?_
                                refine g_goto 50 (gd rfl) rfl ?_
                                refine g_ireturn (gd rfl) rfl (nb01 (in_w 0 1 (in_c 1 rfl) rfl)) (hp11 _ _ ?_)
                                show GG _ _ _ _ _ _ _ _ [.int (Int32.ofInt 1)] _ _ _
                                refine g_thr (E := am_IA) (y := yX11_allow) 17 (gd rfl) rfl rfl (Or.inl ⟨rfl, rfl, rfl⟩) (by omega) (Nat.le_of_ble_eq_true rfl) (Nat.le_of_ble_eq_true rfl) (Nat.le_of_ble_eq_true rfl) (fun c14 => ?_) (fun c14 => ?_)
                                · skip
                                  refine g_aload_n 18 (gd rfl) rfl rfl ?_
                                  refine g_getA (q2 := 1) 21 (gd rfl) rfl rfl rfl rfl ?_
                                  refine g_callv (X := _) (As := []) (r := []) (b := A 1) (q := 1) 24 (gd rfl) rfl rfl rfl rfl rfl (ww_o rfl) (Nat.le_of_ble_eq_true rfl) (mc := 0) (ms := 0) (Nat.zero_le _) (Nat.zero_le _) (P := fun v u => _) ?_ (fun e u h => h) (fun v u h => h)
                                  intro po21 xx21 hp21 hx21
                                  refine g_enter2 (k := 122) (N := 300) (by omega) rfl (Nat.le_of_ble_eq_true rfl) ?_
                                  refine g_aload_n 1 (gd rfl) rfl rfl ?_
                                  refine g_getA (q2 := 2) 4 (gd rfl) rfl rfl rfl rfl ?_
                                  refine g_getI 7 (gd rfl) rfl rfl rfl (fun z21x4 e21x4 => ?_)
                                  have q21x4 : u_2_0 = z21x4 := (e_2_0).trans e21x4.symm
                                  subst q21x4
                                  refine g_sipush 4000 10 (gd rfl) rfl rfl ?_
                                  refine g_cmp_lt 13 17 (gd rfl) rfl rfl (fun c21x10 => ?_) (fun c21x10 => ?_)
                                  · skip
                                    have i21x10 := r_lt1 0 3999 c21x10 (inv_F hI 0 4000 rfl e_2_0) (in_c 4000 rfl) rfl
                                    refine g_iconst 0 18 (gd rfl) rfl rfl ?_
                                    refine g_ireturn (gd rfl) rfl (nb01 (in_w 0 1 (in_c 0 rfl) rfl)) (hp21 _ _ ?_)
                                    show GG _ _ _ _ _ _ _ _ [.int (Int32.ofInt 0)] _ _ _
                                    refine g_if_ne 27 31 (gd rfl) rfl rfl (fun c24 => ?_) (fun c24 => ?_)
                                    · skip
                                      exact zn_ne c24 (in_c 0 rfl) rfl
                                    · skip
                                      refine g_iconst 1 28 (gd rfl) rfl rfl ?_
                                      refine g_goto 32 (gd rfl) rfl ?_
                                      refine g_thr (E := am_IS) (y := yX11_ready) 35 (gd rfl) rfl rfl (Or.inr ⟨rfl, rfl, rfl⟩) (by omega) (Nat.le_of_ble_eq_true rfl) (Nat.le_of_ble_eq_true rfl) (Nat.le_of_ble_eq_true rfl) (fun c32 => ?_) (fun c32 => ?_)
                                      · skip
                                        refine g_aload_n 36 (gd rfl) rfl rfl ?_
                                        refine g_getA (q2 := 1) 39 (gd rfl) rfl rfl rfl rfl ?_
                                        refine g_iload_n 40 (gd rfl) rfl rfl ?_
                                        refine g_iload_n 41 (gd rfl) rfl rfl ?_
                                        refine g_iload_n 42 (gd rfl) rfl rfl ?_
                                        refine g_iload 44 (gd rfl) rfl rfl ?_
                                        refine g_iload 46 (gd rfl) rfl rfl ?_
                                        have n46 : (x1).toInt < (u_2_1).toInt := by have a0 := i11x39x7; unfold In at a0; have a1 := i11x31x8; unfold In at a1; have a2 := i11x23x11; unfold In at a2; have a3 := i11x16x9; unfold In at a3; have a4 := i11x5x9; unfold In at a4; have a5 := (inv_F hI 448 28000 rfl e_30_0); unfold In at a5; have a6 := i11x5x9a; unfold In at a6; have a7 := i21x10; unfold In at a7; omega
                                        have n46a : (x2).toInt < (u_2_1).toInt := by have a0 := i11x39x7; unfold In at a0; have a1 := i11x31x8; unfold In at a1; have a2 := i11x23x11; unfold In at a2; have a3 := i11x16x9; unfold In at a3; have a4 := i11x5x9; unfold In at a4; have a5 := (inv_F hI 448 28000 rfl e_30_0); unfold In at a5; have a6 := i11x5x9a; unfold In at a6; have a7 := i21x10; unfold In at a7; omega
                                        have p46 : KL s := by exact q_0
                                        refine g_callv (X := _) (As := [.int x1, .int x2, .int x3, .int x4, .int x5]) (r := []) (b := A 1) (q := 1) 49 (gd rfl) rfl rfl rfl rfl rfl (ww_o rfl) (Nat.le_of_ble_eq_true rfl) (Nat.le_trans lgc_le (Nat.le_of_ble_eq_true rfl)) (Nat.le_trans (lsl_le (inv_F hI 448 28000 (q := 30) (j := 0) rfl rfl) (by rw [← (show u_2_0 = s.2.2.1 2 0 from e_2_0)]; exact in_w 0 3999 i21x10 rfl)) (Nat.le_of_ble_eq_true rfl)) (k_125_1 (by omega) hI (in_w 0 31 i11x5x9 rfl) (in_w 0 31 i11x16x9 rfl) (in_w (-1000000) 1000000 i11x23x11 rfl) (in_w 0 1000000 i11x31x8 rfl) (in_w 0 25 i11x39x7 rfl) e_2_0 e_2_1 e_30_0 (in_w 0 3999 i21x10 rfl) n46 n46a p46) (fun e u h => h) (fun v u h => ?_)
                                        obtain ⟨a46, s46, hI46, hF46, n46b, z46, rfl, rfl, i46, p46a, p46b, p46c, p46d⟩ := h
                                        obtain ⟨z46a, e46⟩ : ∃ w, w = s46.2.2.1 2 0 := ⟨_, rfl⟩
                                        have i46a := inv_F hI46 0 4000 rfl e46
                                        rw [← (show u_2_0 = s.2.2.1 2 0 from e_2_0)] at n46b
                                        rw [← (show z46a = s46.2.2.1 2 0 from e46)] at n46b
                                        show GG _ _ _ _ _ _ _ _ [.int z46] _ _ _
                                        have n49 : KL s46 := by exact p46a
                                        exact g_ireturn (gd rfl) rfl rfl (hP _ _ ⟨a46, s46, hI46, (fr_tr rfl fr_rf hF46), z46, rfl, rfl, in_w (-3) 159 i46 rfl, n49⟩)
                                      · skip
                                        exact zn_eq c32 (in_c 1 rfl) rfl
                                  · skip
                                    have i21x10 := r_le2 4000 4000 c21x10 (in_c 4000 rfl) (inv_F hI 0 4000 rfl e_2_0) rfl
                                    refine g_iconst 1 14 (gd rfl) rfl rfl ?_
                                    refine g_goto 18 (gd rfl) rfl ?_
                                    refine g_ireturn (gd rfl) rfl (nb01 (in_w 0 1 (in_c 1 rfl) rfl)) (hp21 _ _ ?_)
                                    show GG _ _ _ _ _ _ _ _ [.int (Int32.ofInt 1)] _ _ _
                                    refine g_if_ne 27 31 (gd rfl) rfl rfl (fun c24 => ?_) (fun c24 => ?_)
                                    · skip
                                      refine g_iconst 0 32 (gd rfl) rfl rfl ?_
                                      refine g_thr (E := am_IS) (y := yX11_ready) 35 (gd rfl) rfl rfl (Or.inr ⟨rfl, rfl, rfl⟩) (by omega) (Nat.le_of_ble_eq_true rfl) (Nat.le_of_ble_eq_true rfl) (Nat.le_of_ble_eq_true rfl) (fun c32 => ?_) (fun c32 => ?_)
                                      · skip
                                        exact zn_ne c32 (in_c 0 rfl) rfl
                                      · skip
                                        exact (hX _ _ ⟨Or.inr rfl, s, hI, fr_rf, rfl⟩)
                                    · skip
                                      exact zn_eq c24 (in_c 1 rfl) rfl
                                · skip
                                  exact zn_eq c14 (in_c 1 rfl) rfl

def fm_215_0 : FM := ([3, 4, 5, 6, 7, 8, 30], [], [(2, 0), (2, 1), (2, 2), (2, 3), (30, 0)], [])
/-- GraphHouse.set -/
theorem k_215_0 {Z : AmZ} {A : Nat → Nat} {s : GS} {ex : va_W} {d : Nat} {x1 : Int32} {x2 : Int32} {x3 : Int32} {u_2_0 : Int32} {u_2_1 : Int32} {u_30_0 : Int32} (hd : 8 ≤ d) (hI : Inv s) (e_2_0 : u_2_0 = s.2.2.1 2 0) (e_2_1 : u_2_1 = s.2.2.1 2 1) (e_30_0 : u_30_0 = s.2.2.1 30 0) (q_0 : KL s) : GC Z d 215 [.ref (A 0), .int x1, .int x2, .int x3] (WW Z A s ++ ex) 4 28018 (fun v u => ∃ a : Nat, ∃ t : GS, Inv t ∧ Fr fm_215_0 s t ∧ ∃ z : Int32, v = some (.int z) ∧ u = WW Z (ax A 30 a) t ++ ex ∧ In z (-1000000) 1000000 ∧ (KL t)) (gE2 Z A ex ([], [], [], []) s) := by
  intro post xp hP hX
  refine g_enter2 (k := 215) (N := 900) (by omega) rfl (Nat.le_of_ble_eq_true rfl) ?_
  refine g_aload_n 1 (gd rfl) rfl rfl ?_
  refine g_getA (q2 := 1) 4 (gd rfl) rfl rfl rfl rfl ?_
  refine g_getA (q2 := 2) 7 (gd rfl) rfl rfl rfl rfl ?_
  refine g_iload_n 8 (gd rfl) rfl rfl ?_
  refine g_callv (X := _) (As := [.int x1]) (r := []) (b := A 2) (q := 2) 11 (gd rfl) rfl rfl rfl rfl rfl (ww_o rfl) (Nat.le_of_ble_eq_true rfl) (mc := 0) (ms := 0) (Nat.zero_le _) (Nat.zero_le _) (P := fun v u => _) ?_ (fun e u h => h) (fun v u h => h)
  intro po8 xx8 hp8 hx8
  refine g_enter2 (k := 96) (N := 300) (by omega) rfl (Nat.le_of_ble_eq_true rfl) ?_
  refine g_iload_n 1 (gd rfl) rfl rfl ?_
  refine g_if_lt 4 26 (gd rfl) rfl rfl (fun c8x1 => ?_) (fun c8x1 => ?_)
  · skip
    have i8x1 := z_lt (-2147483648) (-1) c8x1 (i_rng x1) rfl
    refine g_iconst 0 27 (gd rfl) rfl rfl ?_
    refine g_ireturn (gd rfl) rfl (nb01 (in_w 0 1 (in_c 0 rfl) rfl)) (hp8 _ _ ?_)
    show GG _ _ _ _ _ _ _ _ [.int (Int32.ofInt 0)] _ _ _
    refine g_if_eq 14 26 (gd rfl) rfl rfl (fun c11 => ?_) (fun c11 => ?_)
    · skip
      refine g_iconst 0 27 (gd rfl) rfl rfl ?_
      refine g_thr (E := am_IA) (y := yX11_allow) 30 (gd rfl) rfl rfl (Or.inl ⟨rfl, rfl, rfl⟩) (by omega) (Nat.le_of_ble_eq_true rfl) (Nat.le_of_ble_eq_true rfl) (Nat.le_of_ble_eq_true rfl) (fun c27 => ?_) (fun c27 => ?_)
      · skip
        exact zn_ne c27 (in_c 0 rfl) rfl
      · skip
        exact (hX _ _ ⟨Or.inl rfl, s, hI, fr_rf, rfl⟩)
    · skip
      exact zn_ne c11 (in_c 0 rfl) rfl
  · skip
    have i8x1 := z_ge 0 2147483647 c8x1 (i_rng x1) rfl
    refine g_iload_n 5 (gd rfl) rfl rfl ?_
    refine g_aload_n 6 (gd rfl) rfl rfl ?_
    refine g_getI 9 (gd rfl) rfl rfl rfl (fun z8x6 e8x6 => ?_)
    have i8x6 := inv_F hI 0 160 rfl e8x6
    refine g_cmp_ge 12 26 (gd rfl) rfl rfl (fun c8x9 => ?_) (fun c8x9 => ?_)
    · skip
      refine g_iconst 0 27 (gd rfl) rfl rfl ?_
      refine g_ireturn (gd rfl) rfl (nb01 (in_w 0 1 (in_c 0 rfl) rfl)) (hp8 _ _ ?_)
      show GG _ _ _ _ _ _ _ _ [.int (Int32.ofInt 0)] _ _ _
      refine g_if_eq 14 26 (gd rfl) rfl rfl (fun c11 => ?_) (fun c11 => ?_)
      · skip
        refine g_iconst 0 27 (gd rfl) rfl rfl ?_
        refine g_thr (E := am_IA) (y := yX11_allow) 30 (gd rfl) rfl rfl (Or.inl ⟨rfl, rfl, rfl⟩) (by omega) (Nat.le_of_ble_eq_true rfl) (Nat.le_of_ble_eq_true rfl) (Nat.le_of_ble_eq_true rfl) (fun c27 => ?_) (fun c27 => ?_)
        · skip
          exact zn_ne c27 (in_c 0 rfl) rfl
        · skip
          exact (hX _ _ ⟨Or.inl rfl, s, hI, fr_rf, rfl⟩)
      · skip
        exact zn_ne c11 (in_c 0 rfl) rfl
    · skip
      have i8x9 := r_lt1 0 159 c8x9 i8x1 i8x6 rfl
      have i8x9a := r_lt2 1 160 c8x9 i8x1 i8x6 rfl
      refine g_aload_n 13 (gd rfl) rfl rfl ?_
      refine g_getA (q2 := 4) 16 (gd rfl) rfl rfl rfl rfl ?_
      refine g_iload_n 17 (gd rfl) rfl rfl ?_
      refine g_iaload 18 (gd rfl) rfl (n := 160) rfl (in_ix i8x9 rfl) (fun z8x17 e8x17 => ?_)
      have i8x17 := inv_I hI (n := 160) (t := 0) (-1) 31 rfl (in_ix i8x9 rfl) rfl e8x17
      refine g_iconst (-1) 19 (gd rfl) rfl rfl ?_
      refine g_cmp_eq 22 26 (gd rfl) rfl rfl (fun c8x19 => ?_) (fun c8x19 => ?_)
      · skip
        have i8x19 := r_eq1 (-1) (-1) c8x19 i8x17 (in_c (-1) rfl) rfl
        refine g_iconst 0 27 (gd rfl) rfl rfl ?_
        refine g_ireturn (gd rfl) rfl (nb01 (in_w 0 1 (in_c 0 rfl) rfl)) (hp8 _ _ ?_)
        show GG _ _ _ _ _ _ _ _ [.int (Int32.ofInt 0)] _ _ _
        refine g_if_eq 14 26 (gd rfl) rfl rfl (fun c11 => ?_) (fun c11 => ?_)
        · skip
          refine g_iconst 0 27 (gd rfl) rfl rfl ?_
          refine g_thr (E := am_IA) (y := yX11_allow) 30 (gd rfl) rfl rfl (Or.inl ⟨rfl, rfl, rfl⟩) (by omega) (Nat.le_of_ble_eq_true rfl) (Nat.le_of_ble_eq_true rfl) (Nat.le_of_ble_eq_true rfl) (fun c27 => ?_) (fun c27 => ?_)
          · skip
            exact zn_ne c27 (in_c 0 rfl) rfl
          · skip
            exact (hX _ _ ⟨Or.inl rfl, s, hI, fr_rf, rfl⟩)
        · skip
          exact zn_ne c11 (in_c 0 rfl) rfl
      · skip
        have i8x19 := r_ne1 0 31 c8x19 i8x17 (in_c (-1) rfl) rfl
        refine g_iconst 1 23 (gd rfl) rfl rfl ?_
        refine g_goto 27 (gd rfl) rfl ?_
        refine g_ireturn (gd rfl) rfl (nb01 (in_w 0 1 (in_c 1 rfl) rfl)) (hp8 _ _ ?_)
        show GG _ _ _ _ _ _ _ _ [.int (Int32.ofInt 1)] _ _ _
        refine g_if_eq 14 26 (gd rfl) rfl rfl (fun c11 => ?_) (fun c11 => ?_)
        · skip
          exact zn_eq c11 (in_c 1 rfl) rfl
        · skip
          refine g_iload_n 15 (gd rfl) rfl rfl ?_
          refine g_iload_n 16 (gd rfl) rfl rfl ?_
          refine g_calls (As := [.int x2, .int x3]) (r := []) 19 (gd rfl) rfl rfl rfl rfl rfl (Nat.le_of_ble_eq_true rfl) (mc := 0) (ms := 0) (Nat.zero_le _) (Nat.zero_le _) (P := fun v u => _) ?_ (fun v u h => h)
          intro po16 xx16 hp16 hx16
          refine g_enter2 (k := 263) (N := 300) (by omega) rfl (Nat.le_of_ble_eq_true rfl) ?_
          refine g_iload_n 1 (gd rfl) rfl rfl ?_
          refine g_if_ne 4 9 (gd rfl) rfl rfl (fun c16x1 => ?_) (fun c16x1 => ?_)
          · skip
            refine g_iload_n 10 (gd rfl) rfl rfl ?_
            refine g_iconst 1 11 (gd rfl) rfl rfl ?_
            refine g_cmp_ne 14 19 (gd rfl) rfl rfl (fun c16x11 => ?_) (fun c16x11 => ?_)
            · skip
              refine g_iload_n 20 (gd rfl) rfl rfl ?_
              refine g_iconst 2 21 (gd rfl) rfl rfl ?_
              refine g_cmp_ne 24 35 (gd rfl) rfl rfl (fun c16x21 => ?_) (fun c16x21 => ?_)
              · skip
                refine g_iconst 0 36 (gd rfl) rfl rfl ?_
                refine g_ireturn (gd rfl) rfl (nb01 (in_w 0 1 (in_c 0 rfl) rfl)) (hp16 _ _ ?_)
                show GG _ _ _ _ _ _ _ _ [.int (Int32.ofInt 0)] _ _ _
                refine g_if_eq 22 26 (gd rfl) rfl rfl (fun c19 => ?_) (fun c19 => ?_)
                · skip
                  refine g_iconst 0 27 (gd rfl) rfl rfl ?_
                  refine g_thr (E := am_IA) (y := yX11_allow) 30 (gd rfl) rfl rfl (Or.inl ⟨rfl, rfl, rfl⟩) (by omega) (Nat.le_of_ble_eq_true rfl) (Nat.le_of_ble_eq_true rfl) (Nat.le_of_ble_eq_true rfl) (fun c27 => ?_) (fun c27 => ?_)
                  · skip
                    exact zn_ne c27 (in_c 0 rfl) rfl
                  · skip
                    exact (hX _ _ ⟨Or.inl rfl, s, hI, fr_rf, rfl⟩)
                · skip
                  exact zn_ne c19 (in_c 0 rfl) rfl
              · skip
                have i16x21 := r_eq1 2 2 c16x21 (i_rng x2) (in_c 2 rfl) rfl
                refine g_iload_n 25 (gd rfl) rfl rfl ?_
                refine g_calls (As := [.int x3]) (r := []) 28 (gd rfl) rfl rfl rfl rfl rfl (Nat.le_of_ble_eq_true rfl) (mc := 0) (ms := 0) (Nat.zero_le _) (Nat.zero_le _) (P := fun v u => _) ?_ (fun v u h => h)
                intro po16x25 xx16x25 hp16x25 hx16x25
                refine g_enter2 (k := 260) (N := 300) (by omega) rfl (Nat.le_of_ble_eq_true rfl) ?_
                refine g_iload_n 1 (gd rfl) rfl rfl ?_
                refine g_if_lt 4 14 (gd rfl) rfl rfl (fun c16x25x1 => ?_) (fun c16x25x1 => ?_)
                · skip
                  have i16x25x1 := z_lt (-2147483648) (-1) c16x25x1 (i_rng x3) rfl
                  refine g_iconst 0 15 (gd rfl) rfl rfl ?_
                  refine g_ireturn (gd rfl) rfl (nb01 (in_w 0 1 (in_c 0 rfl) rfl)) (hp16x25 _ _ ?_)
                  show GG _ _ _ _ _ _ _ _ [.int (Int32.ofInt 0)] _ _ _
                  refine g_if_eq 31 35 (gd rfl) rfl rfl (fun c16x28 => ?_) (fun c16x28 => ?_)
                  · skip
                    refine g_iconst 0 36 (gd rfl) rfl rfl ?_
                    refine g_ireturn (gd rfl) rfl (nb01 (in_w 0 1 (in_c 0 rfl) rfl)) (hp16 _ _ ?_)
                    show GG _ _ _ _ _ _ _ _ [.int (Int32.ofInt 0)] _ _ _
                    refine g_if_eq 22 26 (gd rfl) rfl rfl (fun c19 => ?_) (fun c19 => ?_)
                    · skip
                      refine g_iconst 0 27 (gd rfl) rfl rfl ?_
                      refine g_thr (E := am_IA) (y := yX11_allow) 30 (gd rfl) rfl rfl (Or.inl ⟨rfl, rfl, rfl⟩) (by omega) (Nat.le_of_ble_eq_true rfl) (Nat.le_of_ble_eq_true rfl) (Nat.le_of_ble_eq_true rfl) (fun c27 => ?_) (fun c27 => ?_)
                      · skip
                        exact zn_ne c27 (in_c 0 rfl) rfl
                      · skip
                        exact (hX _ _ ⟨Or.inl rfl, s, hI, fr_rf, rfl⟩)
                    · skip
                      exact zn_ne c19 (in_c 0 rfl) rfl
                  · skip
                    exact zn_ne c16x28 (in_c 0 rfl) rfl
                · skip
                  have i16x25x1 := z_ge 0 2147483647 c16x25x1 (i_rng x3) rfl
                  refine g_iload_n 5 (gd rfl) rfl rfl ?_
                  refine g_bipush 26 7 (gd rfl) rfl rfl ?_
                  refine g_cmp_ge 10 14 (gd rfl) rfl rfl (fun c16x25x7 => ?_) (fun c16x25x7 => ?_)
                  · skip
                    have i16x25x7 := r_le2 26 2147483647 c16x25x7 (in_c 26 rfl) i16x25x1 rfl
                    refine g_iconst 0 15 (gd rfl) rfl rfl ?_
                    refine g_ireturn (gd rfl) rfl (nb01 (in_w 0 1 (in_c 0 rfl) rfl)) (hp16x25 _ _ ?_)
                    show GG _ _ _ _ _ _ _ _ [.int (Int32.ofInt 0)] _ _ _
                    refine g_if_eq 31 35 (gd rfl) rfl rfl (fun c16x28 => ?_) (fun c16x28 => ?_)
                    · skip
                      refine g_iconst 0 36 (gd rfl) rfl rfl ?_
                      refine g_ireturn (gd rfl) rfl (nb01 (in_w 0 1 (in_c 0 rfl) rfl)) (hp16 _ _ ?_)
                      show GG _ _ _ _ _ _ _ _ [.int (Int32.ofInt 0)] _ _ _
                      refine g_if_eq 22 26 (gd rfl) rfl rfl (fun c19 => ?_) (fun c19 => ?_)
                      · skip
                        refine g_iconst 0 27 (gd rfl) rfl rfl ?_
                        refine g_thr (E := am_IA) (y := yX11_allow) 30 (gd rfl) rfl rfl (Or.inl ⟨rfl, rfl, rfl⟩) (by omega) (Nat.le_of_ble_eq_true rfl) (Nat.le_of_ble_eq_true rfl) (Nat.le_of_ble_eq_true rfl) (fun c27 => ?_) (fun c27 => ?_)
                        · skip
                          exact zn_ne c27 (in_c 0 rfl) rfl
                        · skip
                          exact (hX _ _ ⟨Or.inl rfl, s, hI, fr_rf, rfl⟩)
                      · skip
                        exact zn_ne c19 (in_c 0 rfl) rfl
                    · skip
                      exact zn_ne c16x28 (in_c 0 rfl) rfl
                  · skip
                    have i16x25x7 := r_lt1 0 25 c16x25x7 i16x25x1 (in_c 26 rfl) rfl
                    refine g_iconst 1 11 (gd rfl) rfl rfl ?_
                    refine g_goto 15 (gd rfl) rfl ?_
                    refine g_ireturn (gd rfl) rfl (nb01 (in_w 0 1 (in_c 1 rfl) rfl)) (hp16x25 _ _ ?_)
                    show GG _ _ _ _ _ _ _ _ [.int (Int32.ofInt 1)] _ _ _
                    refine g_if_eq 31 35 (gd rfl) rfl rfl (fun c16x28 => ?_) (fun c16x28 => ?_)
                    · skip
                      exact zn_eq c16x28 (in_c 1 rfl) rfl
                    · skip
                      refine g_iconst 1 32 (gd rfl) rfl rfl ?_
                      refine g_goto 36 (gd rfl) rfl ?_
                      refine g_ireturn (gd rfl) rfl (nb01 (in_w 0 1 (in_c 1 rfl) rfl)) (hp16 _ _ ?_)
                      show GG _ _ _ _ _ _ _ _ [.int (Int32.ofInt 1)] _ _ _
                      refine g_if_eq 22 26 (gd rfl) rfl rfl (fun c19 => ?_) (fun c19 => ?_)
                      · skip
                        exact zn_eq c19 (in_c 1 rfl) rfl
                      · skip
                        refine g_iconst 1 23 (gd rfl) rfl rfl ?_
                        refine g_goto 27 (gd rfl) rfl ?_
                        refine g_thr (E := am_IA) (y := yX11_allow) 30 (gd rfl) rfl rfl (Or.inl ⟨rfl, rfl, rfl⟩) (by omega) (Nat.le_of_ble_eq_true rfl) (Nat.le_of_ble_eq_true rfl) (Nat.le_of_ble_eq_true rfl) (fun c27 => ?_) (fun c27 => ?_)
                        · skip
                          refine g_aload_n 31 (gd rfl) rfl rfl ?_
                          refine g_getA (q2 := 1) 34 (gd rfl) rfl rfl rfl rfl ?_
                          refine g_callv (X := _) (As := []) (r := []) (b := A 1) (q := 1) 37 (gd rfl) rfl rfl rfl rfl rfl (ww_o rfl) (Nat.le_of_ble_eq_true rfl) (mc := 0) (ms := 0) (Nat.zero_le _) (Nat.zero_le _) (P := fun v u => _) ?_ (fun e u h => h) (fun v u h => h)
                          intro po34 xx34 hp34 hx34
                          refine g_enter2 (k := 122) (N := 300) (by omega) rfl (Nat.le_of_ble_eq_true rfl) ?_
                          refine g_aload_n 1 (gd rfl) rfl rfl ?_
                          refine g_getA (q2 := 2) 4 (gd rfl) rfl rfl rfl rfl ?_
                          refine g_getI 7 (gd rfl) rfl rfl rfl (fun z34x4 e34x4 => ?_)
                          have q34x4 : u_2_0 = z34x4 := (e_2_0).trans e34x4.symm
                          subst q34x4
                          refine g_sipush 4000 10 (gd rfl) rfl rfl ?_
                          refine g_cmp_lt 13 17 (gd rfl) rfl rfl (fun c34x10 => ?_) (fun c34x10 => ?_)
                          · skip
                            have i34x10 := r_lt1 0 3999 c34x10 (inv_F hI 0 4000 rfl e_2_0) (in_c 4000 rfl) rfl
                            refine g_iconst 0 18 (gd rfl) rfl rfl ?_
                            refine g_ireturn (gd rfl) rfl (nb01 (in_w 0 1 (in_c 0 rfl) rfl)) (hp34 _ _ ?_)
                            show GG _ _ _ _ _ _ _ _ [.int (Int32.ofInt 0)] _ _ _
                            refine g_if_ne 40 44 (gd rfl) rfl rfl (fun c37 => ?_) (fun c37 => ?_)
                            · skip
                              exact zn_ne c37 (in_c 0 rfl) rfl
                            · skip
                              refine g_iconst 1 41 (gd rfl) rfl rfl ?_
                              refine g_goto 45 (gd rfl) rfl ?_
                              refine g_thr (E := am_IS) (y := yX11_ready) 48 (gd rfl) rfl rfl (Or.inr ⟨rfl, rfl, rfl⟩) (by omega) (Nat.le_of_ble_eq_true rfl) (Nat.le_of_ble_eq_true rfl) (Nat.le_of_ble_eq_true rfl) (fun c45 => ?_) (fun c45 => ?_)
                              · skip
                                refine g_aload_n 49 (gd rfl) rfl rfl ?_
                                refine g_getA (q2 := 1) 52 (gd rfl) rfl rfl rfl rfl ?_
                                refine g_getA (q2 := 2) 55 (gd rfl) rfl rfl rfl rfl ?_
                                refine g_iload_n 56 (gd rfl) rfl rfl ?_
                                refine g_iload_n 57 (gd rfl) rfl rfl ?_
                                refine g_callv (X := _) (As := [.int x1, .int x2]) (r := []) (b := A 2) (q := 2) 60 (gd rfl) rfl rfl rfl rfl rfl (ww_o rfl) (Nat.le_of_ble_eq_true rfl) (mc := 0) (ms := 0) (Nat.zero_le _) (Nat.zero_le _) (P := fun v u => _) ?_ (fun e u h => h) (fun v u h => h)
                                intro po57 xx57 hp57 hx57
                                refine g_enter2 (k := 100) (N := 300) (by omega) rfl (Nat.le_of_ble_eq_true rfl) ?_
                                refine g_iload_n 1 (gd rfl) rfl rfl ?_
                                refine g_if_ne 4 11 (gd rfl) rfl rfl (fun c57x1 => ?_) (fun c57x1 => ?_)
                                · skip
                                  refine g_iload_n 12 (gd rfl) rfl rfl ?_
                                  refine g_iconst 1 13 (gd rfl) rfl rfl ?_
                                  refine g_cmp_ne 16 25 (gd rfl) rfl rfl (fun c57x13 => ?_) (fun c57x13 => ?_)
                                  · skip
                                    refine g_aload_n 26 (gd rfl) rfl rfl ?_
                                    refine g_getA (q2 := 8) 29 (gd rfl) rfl rfl rfl rfl ?_
                                    refine g_iload_n 30 (gd rfl) rfl rfl ?_
                                    refine g_iaload 31 (gd rfl) rfl (n := 160) rfl (in_ix i8x9 rfl) (fun z57x30 e57x30 => ?_)
                                    have i57x30 := inv_I hI (n := 160) (t := 0) 0 25 rfl (in_ix i8x9 rfl) rfl e57x30
                                    refine g_ireturn (gd rfl) rfl rfl (hp57 _ _ ?_)
                                    show GG _ _ _ _ _ _ _ _ [.int z57x30] _ _ _
                                    refine g_istore 62 (gd rfl) rfl (Nat.le_of_ble_eq_true rfl) ?_
                                    refine g_aload_n 63 (gd rfl) rfl rfl ?_
                                    refine g_getA (q2 := 1) 66 (gd rfl) rfl rfl rfl rfl ?_
                                    refine g_iload_n 67 (gd rfl) rfl rfl ?_
                                    refine g_iload_n 68 (gd rfl) rfl rfl ?_
                                    refine g_iload_n 69 (gd rfl) rfl rfl ?_
                                    have p69 : KL s := by exact q_0
                                    have p69a : (x2).toInt = 0 → In x3 (-1000000) 1000000 := by first | (intro h; exact in_w (-1000000) 1000000 i16x25x7 rfl) | (intro h; exfalso; have a0 := i16x25x7; unfold In at a0; have a1 := i16x21; unfold In at a1; have a2 := i8x9; unfold In at a2; have a3 := (inv_F hI 448 28000 rfl e_30_0); unfold In at a3; have a4 := (inv_F hI 0 32 rfl e_2_1); unfold In at a4; have a5 := i34x10; unfold In at a5; have a6 := i57x30; unfold In at a6; have a7 := i8x9a; unfold In at a7; omega)
                                    have p69b : (x2).toInt = 1 → In x3 0 1000000 := by first | (intro h; exact in_w (0) 1000000 i16x25x7 rfl) | (intro h; exfalso; have a0 := i16x25x7; unfold In at a0; have a1 := i16x21; unfold In at a1; have a2 := i8x9; unfold In at a2; have a3 := (inv_F hI 448 28000 rfl e_30_0); unfold In at a3; have a4 := (inv_F hI 0 32 rfl e_2_1); unfold In at a4; have a5 := i34x10; unfold In at a5; have a6 := i57x30; unfold In at a6; have a7 := i8x9a; unfold In at a7; omega)
                                    have p69c : (x2).toInt ≠ 0 → (x2).toInt ≠ 1 → In x3 0 25 := by first | (intro h h0; exact in_w 0 25 i16x25x7 rfl) | (intro h h0; exfalso; have a0 := i16x25x7; unfold In at a0; have a1 := i16x21; unfold In at a1; have a2 := i8x9; unfold In at a2; have a3 := (inv_F hI 448 28000 rfl e_30_0); unfold In at a3; have a4 := (inv_F hI 0 32 rfl e_2_1); unfold In at a4; have a5 := i34x10; unfold In at a5; have a6 := i57x30; unfold In at a6; have a7 := i8x9a; unfold In at a7; omega)
                                    refine g_callv (X := _) (As := [.int x1, .int x2, .int x3]) (r := []) (b := A 1) (q := 1) 72 (gd rfl) rfl rfl rfl rfl rfl (ww_o rfl) (Nat.le_of_ble_eq_true rfl) (Nat.le_trans lgc_le (Nat.le_of_ble_eq_true rfl)) (Nat.le_trans (lsl_le (inv_F hI 448 28000 (q := 30) (j := 0) rfl rfl) (by rw [← (show u_2_0 = s.2.2.1 2 0 from e_2_0)]; exact in_w 0 3999 i34x10 rfl)) (Nat.le_of_ble_eq_true rfl)) (k_127_1 (by omega) hI (in_w 0 159 i8x9 rfl) e_2_0 e_2_1 e_30_0 (in_w 0 3999 i34x10 rfl) p69 p69a p69b p69c) (fun e u h => h) (fun v u h => ?_)
                                    obtain ⟨a69, s69, hI69, hF69, n69, rfl, rfl, p69d, p69e, p69f⟩ := h
                                    obtain ⟨z69a, e69⟩ : ∃ w, w = s69.2.2.1 2 0 := ⟨_, rfl⟩
                                    have i69a := inv_F hI69 0 4000 rfl e69
                                    rw [← (show u_2_0 = s.2.2.1 2 0 from e_2_0)] at n69
                                    rw [← (show z69a = s69.2.2.1 2 0 from e69)] at n69
                                    show GG _ _ _ _ _ _ _ _ [] _ _ _
                                    refine g_iload 74 (gd rfl) rfl rfl ?_
                                    have n74 : KL s69 := by exact p69d
                                    exact g_ireturn (gd rfl) rfl rfl (hP _ _ ⟨a69, s69, hI69, (fr_tr rfl fr_rf hF69), z57x30, rfl, rfl, in_w (-1000000) 1000000 i57x30 rfl, n74⟩)
                                  · skip
                                    exact absurd c57x13 c16x11
                                · skip
                                  exact zn_eq c57x1 i16x21 rfl
                              · skip
                                exact zn_eq c45 (in_c 1 rfl) rfl
                          · skip
                            have i34x10 := r_le2 4000 4000 c34x10 (in_c 4000 rfl) (inv_F hI 0 4000 rfl e_2_0) rfl
                            refine g_iconst 1 14 (gd rfl) rfl rfl ?_
                            refine g_goto 18 (gd rfl) rfl ?_
                            refine g_ireturn (gd rfl) rfl (nb01 (in_w 0 1 (in_c 1 rfl) rfl)) (hp34 _ _ ?_)
                            show GG _ _ _ _ _ _ _ _ [.int (Int32.ofInt 1)] _ _ _
                            refine g_if_ne 40 44 (gd rfl) rfl rfl (fun c37 => ?_) (fun c37 => ?_)
                            · skip
                              refine g_iconst 0 45 (gd rfl) rfl rfl ?_
                              refine g_thr (E := am_IS) (y := yX11_ready) 48 (gd rfl) rfl rfl (Or.inr ⟨rfl, rfl, rfl⟩) (by omega) (Nat.le_of_ble_eq_true rfl) (Nat.le_of_ble_eq_true rfl) (Nat.le_of_ble_eq_true rfl) (fun c45 => ?_) (fun c45 => ?_)
                              · skip
                                exact zn_ne c45 (in_c 0 rfl) rfl
                              · skip
                                exact (hX _ _ ⟨Or.inr rfl, s, hI, fr_rf, rfl⟩)
                            · skip
                              exact zn_eq c37 (in_c 1 rfl) rfl
                        · skip
                          exact zn_eq c27 (in_c 1 rfl) rfl
            · skip
              have i16x11 := r_eq1 1 1 c16x11 (i_rng x2) (in_c 1 rfl) rfl
              refine g_iload_n 15 (gd rfl) rfl rfl ?_
              refine g_calls (As := [.int x3]) (r := []) 18 (gd rfl) rfl rfl rfl rfl rfl (Nat.le_of_ble_eq_true rfl) (mc := 0) (ms := 0) (Nat.zero_le _) (Nat.zero_le _) (P := fun v u => _) ?_ (fun v u h => h)
              intro po16x15 xx16x15 hp16x15 hx16x15
              refine g_enter2 (k := 262) (N := 300) (by omega) rfl (Nat.le_of_ble_eq_true rfl) ?_
              refine g_iload_n 1 (gd rfl) rfl rfl ?_
              refine g_if_lt 4 15 (gd rfl) rfl rfl (fun c16x15x1 => ?_) (fun c16x15x1 => ?_)
              · skip
                have i16x15x1 := z_lt (-2147483648) (-1) c16x15x1 (i_rng x3) rfl
                refine g_iconst 0 16 (gd rfl) rfl rfl ?_
                refine g_ireturn (gd rfl) rfl (nb01 (in_w 0 1 (in_c 0 rfl) rfl)) (hp16x15 _ _ ?_)
                show GG _ _ _ _ _ _ _ _ [.int (Int32.ofInt 0)] _ _ _
                refine g_ireturn (gd rfl) rfl (nb01 (in_w 0 1 (in_c 0 rfl) rfl)) (hp16 _ _ ?_)
                show GG _ _ _ _ _ _ _ _ [.int (Int32.ofInt 0)] _ _ _
                refine g_if_eq 22 26 (gd rfl) rfl rfl (fun c19 => ?_) (fun c19 => ?_)
                · skip
                  refine g_iconst 0 27 (gd rfl) rfl rfl ?_
                  refine g_thr (E := am_IA) (y := yX11_allow) 30 (gd rfl) rfl rfl (Or.inl ⟨rfl, rfl, rfl⟩) (by omega) (Nat.le_of_ble_eq_true rfl) (Nat.le_of_ble_eq_true rfl) (Nat.le_of_ble_eq_true rfl) (fun c27 => ?_) (fun c27 => ?_)
                  · skip
                    exact zn_ne c27 (in_c 0 rfl) rfl
                  · skip
                    exact (hX _ _ ⟨Or.inl rfl, s, hI, fr_rf, rfl⟩)
                · skip
                  exact zn_ne c19 (in_c 0 rfl) rfl
              · skip
                have i16x15x1 := z_ge 0 2147483647 c16x15x1 (i_rng x3) rfl
                refine g_iload_n 5 (gd rfl) rfl rfl ?_
                refine g_ldc_w 1000000 8 (gd rfl) rfl rfl ?_
                refine g_cmp_gt 11 15 (gd rfl) rfl rfl (fun c16x15x8 => ?_) (fun c16x15x8 => ?_)
                · skip
                  have i16x15x8 := r_lt2 1000001 2147483647 c16x15x8 (in_c 1000000 rfl) i16x15x1 rfl
                  refine g_iconst 0 16 (gd rfl) rfl rfl ?_
                  refine g_ireturn (gd rfl) rfl (nb01 (in_w 0 1 (in_c 0 rfl) rfl)) (hp16x15 _ _ ?_)
                  show GG _ _ _ _ _ _ _ _ [.int (Int32.ofInt 0)] _ _ _
                  refine g_ireturn (gd rfl) rfl (nb01 (in_w 0 1 (in_c 0 rfl) rfl)) (hp16 _ _ ?_)
                  show GG _ _ _ _ _ _ _ _ [.int (Int32.ofInt 0)] _ _ _
                  refine g_if_eq 22 26 (gd rfl) rfl rfl (fun c19 => ?_) (fun c19 => ?_)
                  · skip
                    refine g_iconst 0 27 (gd rfl) rfl rfl ?_
                    refine g_thr (E := am_IA) (y := yX11_allow) 30 (gd rfl) rfl rfl (Or.inl ⟨rfl, rfl, rfl⟩) (by omega) (Nat.le_of_ble_eq_true rfl) (Nat.le_of_ble_eq_true rfl) (Nat.le_of_ble_eq_true rfl) (fun c27 => ?_) (fun c27 => ?_)
                    · skip
                      exact zn_ne c27 (in_c 0 rfl) rfl
                    · skip
                      exact (hX _ _ ⟨Or.inl rfl, s, hI, fr_rf, rfl⟩)
                  · skip
                    exact zn_ne c19 (in_c 0 rfl) rfl
                · skip
                  have i16x15x8 := r_le1 0 1000000 c16x15x8 i16x15x1 (in_c 1000000 rfl) rfl
                  refine g_iconst 1 12 (gd rfl) rfl rfl ?_
                  refine g_goto 16 (gd rfl) rfl ?_
                  refine g_ireturn (gd rfl) rfl (nb01 (in_w 0 1 (in_c 1 rfl) rfl)) (hp16x15 _ _ ?_)
                  show GG _ _ _ _ _ _ _ _ [.int (Int32.ofInt 1)] _ _ _
                  refine g_ireturn (gd rfl) rfl (nb01 (in_w 0 1 (in_c 1 rfl) rfl)) (hp16 _ _ ?_)
                  show GG _ _ _ _ _ _ _ _ [.int (Int32.ofInt 1)] _ _ _
                  refine g_if_eq 22 26 (gd rfl) rfl rfl (fun c19 => ?_) (fun c19 => ?_)
                  · skip
                    exact zn_eq c19 (in_c 1 rfl) rfl
                  · skip
                    refine g_iconst 1 23 (gd rfl) rfl rfl ?_
                    refine g_goto 27 (gd rfl) rfl ?_
                    refine g_thr (E := am_IA) (y := yX11_allow) 30 (gd rfl) rfl rfl (Or.inl ⟨rfl, rfl, rfl⟩) (by omega) (Nat.le_of_ble_eq_true rfl) (Nat.le_of_ble_eq_true rfl) (Nat.le_of_ble_eq_true rfl) (fun c27 => ?_) (fun c27 => ?_)
                    · skip
                      refine g_aload_n 31 (gd rfl) rfl rfl ?_
                      refine g_getA (q2 := 1) 34 (gd rfl) rfl rfl rfl rfl ?_
                      refine g_callv (X := _) (As := []) (r := []) (b := A 1) (q := 1) 37 (gd rfl) rfl rfl rfl rfl rfl (ww_o rfl) (Nat.le_of_ble_eq_true rfl) (mc := 0) (ms := 0) (Nat.zero_le _) (Nat.zero_le _) (P := fun v u => _) ?_ (fun e u h => h) (fun v u h => h)
                      intro po34 xx34 hp34 hx34
                      refine g_enter2 (k := 122) (N := 300) (by omega) rfl (Nat.le_of_ble_eq_true rfl) ?_
                      refine g_aload_n 1 (gd rfl) rfl rfl ?_
                      refine g_getA (q2 := 2) 4 (gd rfl) rfl rfl rfl rfl ?_
                      refine g_getI 7 (gd rfl) rfl rfl rfl (fun z34x4 e34x4 => ?_)
                      have q34x4 : u_2_0 = z34x4 := (e_2_0).trans e34x4.symm
                      subst q34x4
                      refine g_sipush 4000 10 (gd rfl) rfl rfl ?_
                      refine g_cmp_lt 13 17 (gd rfl) rfl rfl (fun c34x10 => ?_) (fun c34x10 => ?_)
                      · skip
                        have i34x10 := r_lt1 0 3999 c34x10 (inv_F hI 0 4000 rfl e_2_0) (in_c 4000 rfl) rfl
                        refine g_iconst 0 18 (gd rfl) rfl rfl ?_
                        refine g_ireturn (gd rfl) rfl (nb01 (in_w 0 1 (in_c 0 rfl) rfl)) (hp34 _ _ ?_)
                        show GG _ _ _ _ _ _ _ _ [.int (Int32.ofInt 0)] _ _ _
                        refine g_if_ne 40 44 (gd rfl) rfl rfl (fun c37 => ?_) (fun c37 => ?_)
                        · skip
                          exact zn_ne c37 (in_c 0 rfl) rfl
                        · skip
                          refine g_iconst 1 41 (gd rfl) rfl rfl ?_
                          refine g_goto 45 (gd rfl) rfl ?_
                          refine g_thr (E := am_IS) (y := yX11_ready) 48 (gd rfl) rfl rfl (Or.inr ⟨rfl, rfl, rfl⟩) (by omega) (Nat.le_of_ble_eq_true rfl) (Nat.le_of_ble_eq_true rfl) (Nat.le_of_ble_eq_true rfl) (fun c45 => ?_) (fun c45 => ?_)
                          · skip
                            refine g_aload_n 49 (gd rfl) rfl rfl ?_
                            refine g_getA (q2 := 1) 52 (gd rfl) rfl rfl rfl rfl ?_
                            refine g_getA (q2 := 2) 55 (gd rfl) rfl rfl rfl rfl ?_
                            refine g_iload_n 56 (gd rfl) rfl rfl ?_
                            refine g_iload_n 57 (gd rfl) rfl rfl ?_
                            refine g_callv (X := _) (As := [.int x1, .int x2]) (r := []) (b := A 2) (q := 2) 60 (gd rfl) rfl rfl rfl rfl rfl (ww_o rfl) (Nat.le_of_ble_eq_true rfl) (mc := 0) (ms := 0) (Nat.zero_le _) (Nat.zero_le _) (P := fun v u => _) ?_ (fun e u h => h) (fun v u h => h)
                            intro po57 xx57 hp57 hx57
                            refine g_enter2 (k := 100) (N := 300) (by omega) rfl (Nat.le_of_ble_eq_true rfl) ?_
                            refine g_iload_n 1 (gd rfl) rfl rfl ?_
                            refine g_if_ne 4 11 (gd rfl) rfl rfl (fun c57x1 => ?_) (fun c57x1 => ?_)
                            · skip
                              refine g_iload_n 12 (gd rfl) rfl rfl ?_
                              refine g_iconst 1 13 (gd rfl) rfl rfl ?_
                              refine g_cmp_ne 16 25 (gd rfl) rfl rfl (fun c57x13 => ?_) (fun c57x13 => ?_)
                              · skip
                                exact n_ne c57x13 i16x11 (in_c 1 rfl) rfl
                              · skip
                                refine g_aload_n 17 (gd rfl) rfl rfl ?_
                                refine g_getA (q2 := 7) 20 (gd rfl) rfl rfl rfl rfl ?_
                                refine g_iload_n 21 (gd rfl) rfl rfl ?_
                                refine g_iaload 22 (gd rfl) rfl (n := 160) rfl (in_ix i8x9 rfl) (fun z57x21 e57x21 => ?_)
                                have i57x21 := inv_I hI (n := 160) (t := 0) 0 1000000 rfl (in_ix i8x9 rfl) rfl e57x21
                                refine g_goto 31 (gd rfl) rfl ?_
                                refine g_ireturn (gd rfl) rfl rfl (hp57 _ _ ?_)
                                show GG _ _ _ _ _ _ _ _ [.int z57x21] _ _ _
                                refine g_istore 62 (gd rfl) rfl (Nat.le_of_ble_eq_true rfl) ?_
                                refine g_aload_n 63 (gd rfl) rfl rfl ?_
                                refine g_getA (q2 := 1) 66 (gd rfl) rfl rfl rfl rfl ?_
                                refine g_iload_n 67 (gd rfl) rfl rfl ?_
                                refine g_iload_n 68 (gd rfl) rfl rfl ?_
                                refine g_iload_n 69 (gd rfl) rfl rfl ?_
                                have p69 : KL s := by exact q_0
                                have p69a : (x2).toInt = 0 → In x3 (-1000000) 1000000 := by first | (intro h; exact in_w (-1000000) 1000000 i16x15x8 rfl) | (intro h; exfalso; have a0 := i16x15x8; unfold In at a0; have a1 := i16x11; unfold In at a1; have a2 := i8x9; unfold In at a2; have a3 := (inv_F hI 448 28000 rfl e_30_0); unfold In at a3; have a4 := (inv_F hI 0 32 rfl e_2_1); unfold In at a4; have a5 := i34x10; unfold In at a5; have a6 := i57x21; unfold In at a6; have a7 := i8x9a; unfold In at a7; omega)
                                have p69b : (x2).toInt = 1 → In x3 0 1000000 := by first | (intro h; exact in_w (0) 1000000 i16x15x8 rfl) | (intro h; exfalso; have a0 := i16x15x8; unfold In at a0; have a1 := i16x11; unfold In at a1; have a2 := i8x9; unfold In at a2; have a3 := (inv_F hI 448 28000 rfl e_30_0); unfold In at a3; have a4 := (inv_F hI 0 32 rfl e_2_1); unfold In at a4; have a5 := i34x10; unfold In at a5; have a6 := i57x21; unfold In at a6; have a7 := i8x9a; unfold In at a7; omega)
                                have p69c : (x2).toInt ≠ 0 → (x2).toInt ≠ 1 → In x3 0 25 := by first | (intro h h0; exact in_w 0 25 i16x15x8 rfl) | (intro h h0; exfalso; have a0 := i16x15x8; unfold In at a0; have a1 := i16x11; unfold In at a1; have a2 := i8x9; unfold In at a2; have a3 := (inv_F hI 448 28000 rfl e_30_0); unfold In at a3; have a4 := (inv_F hI 0 32 rfl e_2_1); unfold In at a4; have a5 := i34x10; unfold In at a5; have a6 := i57x21; unfold In at a6; have a7 := i8x9a; unfold In at a7; omega)
                                refine g_callv (X := _) (As := [.int x1, .int x2, .int x3]) (r := []) (b := A 1) (q := 1) 72 (gd rfl) rfl rfl rfl rfl rfl (ww_o rfl) (Nat.le_of_ble_eq_true rfl) (Nat.le_trans lgc_le (Nat.le_of_ble_eq_true rfl)) (Nat.le_trans (lsl_le (inv_F hI 448 28000 (q := 30) (j := 0) rfl rfl) (by rw [← (show u_2_0 = s.2.2.1 2 0 from e_2_0)]; exact in_w 0 3999 i34x10 rfl)) (Nat.le_of_ble_eq_true rfl)) (k_127_1 (by omega) hI (in_w 0 159 i8x9 rfl) e_2_0 e_2_1 e_30_0 (in_w 0 3999 i34x10 rfl) p69 p69a p69b p69c) (fun e u h => h) (fun v u h => ?_)
                                obtain ⟨a69, s69, hI69, hF69, n69, rfl, rfl, p69d, p69e, p69f⟩ := h
                                obtain ⟨z69a, e69⟩ : ∃ w, w = s69.2.2.1 2 0 := ⟨_, rfl⟩
                                have i69a := inv_F hI69 0 4000 rfl e69
                                rw [← (show u_2_0 = s.2.2.1 2 0 from e_2_0)] at n69
                                rw [← (show z69a = s69.2.2.1 2 0 from e69)] at n69
                                show GG _ _ _ _ _ _ _ _ [] _ _ _
                                refine g_iload 74 (gd rfl) rfl rfl ?_
                                have n74 : KL s69 := by exact p69d
                                exact g_ireturn (gd rfl) rfl rfl (hP _ _ ⟨a69, s69, hI69, (fr_tr rfl fr_rf hF69), z57x21, rfl, rfl, in_w (-1000000) 1000000 i57x21 rfl, n74⟩)
                            · skip
                              exact zn_eq c57x1 i16x11 rfl
                          · skip
                            exact zn_eq c45 (in_c 1 rfl) rfl
                      · skip
                        have i34x10 := r_le2 4000 4000 c34x10 (in_c 4000 rfl) (inv_F hI 0 4000 rfl e_2_0) rfl
                        refine g_iconst 1 14 (gd rfl) rfl rfl ?_
                        refine g_goto 18 (gd rfl) rfl ?_
                        refine g_ireturn (gd rfl) rfl (nb01 (in_w 0 1 (in_c 1 rfl) rfl)) (hp34 _ _ ?_)
                        show GG _ _ _ _ _ _ _ _ [.int (Int32.ofInt 1)] _ _ _
                        refine g_if_ne 40 44 (gd rfl) rfl rfl (fun c37 => ?_) (fun c37 => ?_)
                        · skip
                          refine g_iconst 0 45 (gd rfl) rfl rfl ?_
                          refine g_thr (E := am_IS) (y := yX11_ready) 48 (gd rfl) rfl rfl (Or.inr ⟨rfl, rfl, rfl⟩) (by omega) (Nat.le_of_ble_eq_true rfl) (Nat.le_of_ble_eq_true rfl) (Nat.le_of_ble_eq_true rfl) (fun c45 => ?_) (fun c45 => ?_)
                          · skip
                            exact zn_ne c45 (in_c 0 rfl) rfl
                          · skip
                            exact (hX _ _ ⟨Or.inr rfl, s, hI, fr_rf, rfl⟩)
                        · skip
                          exact zn_eq c37 (in_c 1 rfl) rfl
                    · skip
                      exact zn_eq c27 (in_c 1 rfl) rfl
          · skip
            have i16x1 := z_eq 0 0 c16x1 (i_rng x2) rfl
            refine g_iload_n 5 (gd rfl) rfl rfl ?_
            refine g_calls (As := [.int x3]) (r := []) 8 (gd rfl) rfl rfl rfl rfl rfl (Nat.le_of_ble_eq_true rfl) (mc := 0) (ms := 0) (Nat.zero_le _) (Nat.zero_le _) (P := fun v u => _) ?_ (fun v u h => h)
            intro po16x5 xx16x5 hp16x5 hx16x5
            refine g_enter2 (k := 261) (N := 300) (by omega) rfl (Nat.le_of_ble_eq_true rfl) ?_
            refine g_iload_n 1 (gd rfl) rfl rfl ?_
            refine g_ldc_w (-1000000) 4 (gd rfl) rfl rfl ?_
            refine g_cmp_lt 7 18 (gd rfl) rfl rfl (fun c16x5x4 => ?_) (fun c16x5x4 => ?_)
            · skip
              have i16x5x4 := r_lt1 (-2147483648) (-1000001) c16x5x4 (i_rng x3) (in_c (-1000000) rfl) rfl
              refine g_iconst 0 19 (gd rfl) rfl rfl ?_
              refine g_ireturn (gd rfl) rfl (nb01 (in_w 0 1 (in_c 0 rfl) rfl)) (hp16x5 _ _ ?_)
              show GG _ _ _ _ _ _ _ _ [.int (Int32.ofInt 0)] _ _ _
              refine g_ireturn (gd rfl) rfl (nb01 (in_w 0 1 (in_c 0 rfl) rfl)) (hp16 _ _ ?_)
              show GG _ _ _ _ _ _ _ _ [.int (Int32.ofInt 0)] _ _ _
              refine g_if_eq 22 26 (gd rfl) rfl rfl (fun c19 => ?_) (fun c19 => ?_)
              · skip
                refine g_iconst 0 27 (gd rfl) rfl rfl ?_
                refine g_thr (E := am_IA) (y := yX11_allow) 30 (gd rfl) rfl rfl (Or.inl ⟨rfl, rfl, rfl⟩) (by omega) (Nat.le_of_ble_eq_true rfl) (Nat.le_of_ble_eq_true rfl) (Nat.le_of_ble_eq_true rfl) (fun c27 => ?_) (fun c27 => ?_)
                · skip
                  exact zn_ne c27 (in_c 0 rfl) rfl
                · skip
                  exact (hX _ _ ⟨Or.inl rfl, s, hI, fr_rf, rfl⟩)
              · skip
                exact zn_ne c19 (in_c 0 rfl) rfl
            · skip
              have i16x5x4 := r_le2 (-1000000) 2147483647 c16x5x4 (in_c (-1000000) rfl) (i_rng x3) rfl
              refine g_iload_n 8 (gd rfl) rfl rfl ?_
              refine g_ldc_w 1000000 11 (gd rfl) rfl rfl ?_
              refine g_cmp_gt 14 18 (gd rfl) rfl rfl (fun c16x5x11 => ?_) (fun c16x5x11 => ?_)
              · skip
                have i16x5x11 := r_lt2 1000001 2147483647 c16x5x11 (in_c 1000000 rfl) i16x5x4 rfl
                refine g_iconst 0 19 (gd rfl) rfl rfl ?_
                refine g_ireturn (gd rfl) rfl (nb01 (in_w 0 1 (in_c 0 rfl) rfl)) (hp16x5 _ _ ?_)
                show GG _ _ _ _ _ _ _ _ [.int (Int32.ofInt 0)] _ _ _
                refine g_ireturn (gd rfl) rfl (nb01 (in_w 0 1 (in_c 0 rfl) rfl)) (hp16 _ _ ?_)
                show GG _ _ _ _ _ _ _ _ [.int (Int32.ofInt 0)] _ _ _
                refine g_if_eq 22 26 (gd rfl) rfl rfl (fun c19 => ?_) (fun c19 => ?_)
                · skip
                  refine g_iconst 0 27 (gd rfl) rfl rfl ?_
                  refine g_thr (E := am_IA) (y := yX11_allow) 30 (gd rfl) rfl rfl (Or.inl ⟨rfl, rfl, rfl⟩) (by omega) (Nat.le_of_ble_eq_true rfl) (Nat.le_of_ble_eq_true rfl) (Nat.le_of_ble_eq_true rfl) (fun c27 => ?_) (fun c27 => ?_)
                  · skip
                    exact zn_ne c27 (in_c 0 rfl) rfl
                  · skip
                    exact (hX _ _ ⟨Or.inl rfl, s, hI, fr_rf, rfl⟩)
                · skip
                  exact zn_ne c19 (in_c 0 rfl) rfl
              · skip
                have i16x5x11 := r_le1 (-1000000) 1000000 c16x5x11 i16x5x4 (in_c 1000000 rfl) rfl
                refine g_iconst 1 15 (gd rfl) rfl rfl ?_
                refine g_goto 19 (gd rfl) rfl ?_
                refine g_ireturn (gd rfl) rfl (nb01 (in_w 0 1 (in_c 1 rfl) rfl)) (hp16x5 _ _ ?_)
                show GG _ _ _ _ _ _ _ _ [.int (Int32.ofInt 1)] _ _ _
                refine g_ireturn (gd rfl) rfl (nb01 (in_w 0 1 (in_c 1 rfl) rfl)) (hp16 _ _ ?_)
                show GG _ _ _ _ _ _ _ _ [.int (Int32.ofInt 1)] _ _ _
                refine g_if_eq 22 26 (gd rfl) rfl rfl (fun c19 => ?_) (fun c19 => ?_)
                · skip
                  exact zn_eq c19 (in_c 1 rfl) rfl
                · skip
                  refine g_iconst 1 23 (gd rfl) rfl rfl ?_
                  refine g_goto 27 (gd rfl) rfl ?_
                  refine g_thr (E := am_IA) (y := yX11_allow) 30 (gd rfl) rfl rfl (Or.inl ⟨rfl, rfl, rfl⟩) (by omega) (Nat.le_of_ble_eq_true rfl) (Nat.le_of_ble_eq_true rfl) (Nat.le_of_ble_eq_true rfl) (fun c27 => ?_) (fun c27 => ?_)
                  · skip
                    refine g_aload_n 31 (gd rfl) rfl rfl ?_
                    refine g_getA (q2 := 1) 34 (gd rfl) rfl rfl rfl rfl ?_
                    refine g_callv (X := _) (As := []) (r := []) (b := A 1) (q := 1) 37 (gd rfl) rfl rfl rfl rfl rfl (ww_o rfl) (Nat.le_of_ble_eq_true rfl) (mc := 0) (ms := 0) (Nat.zero_le _) (Nat.zero_le _) (P := fun v u => _) ?_ (fun e u h => h) (fun v u h => h)
                    intro po34 xx34 hp34 hx34
                    refine g_enter2 (k := 122) (N := 300) (by omega) rfl (Nat.le_of_ble_eq_true rfl) ?_
                    refine g_aload_n 1 (gd rfl) rfl rfl ?_
                    refine g_getA (q2 := 2) 4 (gd rfl) rfl rfl rfl rfl ?_
                    refine g_getI 7 (gd rfl) rfl rfl rfl (fun z34x4 e34x4 => ?_)
                    have q34x4 : u_2_0 = z34x4 := (e_2_0).trans e34x4.symm
                    subst q34x4
                    refine g_sipush 4000 10 (gd rfl) rfl rfl ?_
                    refine g_cmp_lt 13 17 (gd rfl) rfl rfl (fun c34x10 => ?_) (fun c34x10 => ?_)
                    · skip
                      have i34x10 := r_lt1 0 3999 c34x10 (inv_F hI 0 4000 rfl e_2_0) (in_c 4000 rfl) rfl
                      refine g_iconst 0 18 (gd rfl) rfl rfl ?_
                      refine g_ireturn (gd rfl) rfl (nb01 (in_w 0 1 (in_c 0 rfl) rfl)) (hp34 _ _ ?_)
                      show GG _ _ _ _ _ _ _ _ [.int (Int32.ofInt 0)] _ _ _
                      refine g_if_ne 40 44 (gd rfl) rfl rfl (fun c37 => ?_) (fun c37 => ?_)
                      · skip
                        exact zn_ne c37 (in_c 0 rfl) rfl
                      · skip
                        refine g_iconst 1 41 (gd rfl) rfl rfl ?_
                        refine g_goto 45 (gd rfl) rfl ?_
                        refine g_thr (E := am_IS) (y := yX11_ready) 48 (gd rfl) rfl rfl (Or.inr ⟨rfl, rfl, rfl⟩) (by omega) (Nat.le_of_ble_eq_true rfl) (Nat.le_of_ble_eq_true rfl) (Nat.le_of_ble_eq_true rfl) (fun c45 => ?_) (fun c45 => ?_)
                        · skip
                          refine g_aload_n 49 (gd rfl) rfl rfl ?_
                          refine g_getA (q2 := 1) 52 (gd rfl) rfl rfl rfl rfl ?_
                          refine g_getA (q2 := 2) 55 (gd rfl) rfl rfl rfl rfl ?_
                          refine g_iload_n 56 (gd rfl) rfl rfl ?_
                          refine g_iload_n 57 (gd rfl) rfl rfl ?_
                          refine g_callv (X := _) (As := [.int x1, .int x2]) (r := []) (b := A 2) (q := 2) 60 (gd rfl) rfl rfl rfl rfl rfl (ww_o rfl) (Nat.le_of_ble_eq_true rfl) (mc := 0) (ms := 0) (Nat.zero_le _) (Nat.zero_le _) (P := fun v u => _) ?_ (fun e u h => h) (fun v u h => h)
                          intro po57 xx57 hp57 hx57
                          refine g_enter2 (k := 100) (N := 300) (by omega) rfl (Nat.le_of_ble_eq_true rfl) ?_
                          refine g_iload_n 1 (gd rfl) rfl rfl ?_
                          refine g_if_ne 4 11 (gd rfl) rfl rfl (fun c57x1 => ?_) (fun c57x1 => ?_)
                          · skip
                            exact zn_ne c57x1 i16x1 rfl
                          · skip
                            refine g_aload_n 5 (gd rfl) rfl rfl ?_
                            refine g_getA (q2 := 6) 8 (gd rfl) rfl rfl rfl rfl ?_
                            refine g_iload_n 9 (gd rfl) rfl rfl ?_
                            refine g_iaload 10 (gd rfl) rfl (n := 160) rfl (in_ix i8x9 rfl) (fun z57x9 e57x9 => ?_)
                            have i57x9 := inv_I hI (n := 160) (t := 0) (-1000000) 1000000 rfl (in_ix i8x9 rfl) rfl e57x9
                            refine g_ireturn (gd rfl) rfl rfl (hp57 _ _ ?_)
                            show GG _ _ _ _ _ _ _ _ [.int z57x9] _ _ _
                            refine g_istore 62 (gd rfl) rfl (Nat.le_of_ble_eq_true rfl) ?_
                            refine g_aload_n 63 (gd rfl) rfl rfl ?_
                            refine g_getA (q2 := 1) 66 (gd rfl) rfl rfl rfl rfl ?_
                            refine g_iload_n 67 (gd rfl) rfl rfl ?_
                            refine g_iload_n 68 (gd rfl) rfl rfl ?_
                            refine g_iload_n 69 (gd rfl) rfl rfl ?_
                            have p69 : KL s := by exact q_0
                            have p69a : (x2).toInt = 0 → In x3 (-1000000) 1000000 := by first | (intro h; exact in_w (-1000000) 1000000 i16x5x11 rfl) | (intro h; exfalso; have a0 := i16x5x11; unfold In at a0; have a1 := i16x1; unfold In at a1; have a2 := i8x9; unfold In at a2; have a3 := (inv_F hI 448 28000 rfl e_30_0); unfold In at a3; have a4 := (inv_F hI 0 32 rfl e_2_1); unfold In at a4; have a5 := i34x10; unfold In at a5; have a6 := i57x9; unfold In at a6; have a7 := i8x9a; unfold In at a7; omega)
                            have p69b : (x2).toInt = 1 → In x3 0 1000000 := by first | (intro h; exact in_w (0) 1000000 i16x5x11 rfl) | (intro h; exfalso; have a0 := i16x5x11; unfold In at a0; have a1 := i16x1; unfold In at a1; have a2 := i8x9; unfold In at a2; have a3 := (inv_F hI 448 28000 rfl e_30_0); unfold In at a3; have a4 := (inv_F hI 0 32 rfl e_2_1); unfold In at a4; have a5 := i34x10; unfold In at a5; have a6 := i57x9; unfold In at a6; have a7 := i8x9a; unfold In at a7; omega)
                            have p69c : (x2).toInt ≠ 0 → (x2).toInt ≠ 1 → In x3 0 25 := by first | (intro h h0; exact in_w 0 25 i16x5x11 rfl) | (intro h h0; exfalso; have a0 := i16x5x11; unfold In at a0; have a1 := i16x1; unfold In at a1; have a2 := i8x9; unfold In at a2; have a3 := (inv_F hI 448 28000 rfl e_30_0); unfold In at a3; have a4 := (inv_F hI 0 32 rfl e_2_1); unfold In at a4; have a5 := i34x10; unfold In at a5; have a6 := i57x9; unfold In at a6; have a7 := i8x9a; unfold In at a7; omega)
                            refine g_callv (X := _) (As := [.int x1, .int x2, .int x3]) (r := []) (b := A 1) (q := 1) 72 (gd rfl) rfl rfl rfl rfl rfl (ww_o rfl) (Nat.le_of_ble_eq_true rfl) (Nat.le_trans lgc_le (Nat.le_of_ble_eq_true rfl)) (Nat.le_trans (lsl_le (inv_F hI 448 28000 (q := 30) (j := 0) rfl rfl) (by rw [← (show u_2_0 = s.2.2.1 2 0 from e_2_0)]; exact in_w 0 3999 i34x10 rfl)) (Nat.le_of_ble_eq_true rfl)) (k_127_1 (by omega) hI (in_w 0 159 i8x9 rfl) e_2_0 e_2_1 e_30_0 (in_w 0 3999 i34x10 rfl) p69 p69a p69b p69c) (fun e u h => h) (fun v u h => ?_)
                            obtain ⟨a69, s69, hI69, hF69, n69, rfl, rfl, p69d, p69e, p69f⟩ := h
                            obtain ⟨z69a, e69⟩ : ∃ w, w = s69.2.2.1 2 0 := ⟨_, rfl⟩
                            have i69a := inv_F hI69 0 4000 rfl e69
                            rw [← (show u_2_0 = s.2.2.1 2 0 from e_2_0)] at n69
                            rw [← (show z69a = s69.2.2.1 2 0 from e69)] at n69
                            show GG _ _ _ _ _ _ _ _ [] _ _ _
                            refine g_iload 74 (gd rfl) rfl rfl ?_
                            have n74 : KL s69 := by exact p69d
                            exact g_ireturn (gd rfl) rfl rfl (hP _ _ ⟨a69, s69, hI69, (fr_tr rfl fr_rf hF69), z57x9, rfl, rfl, in_w (-1000000) 1000000 i57x9 rfl, n74⟩)
                        · skip
                          exact zn_eq c45 (in_c 1 rfl) rfl
                    · skip
                      have i34x10 := r_le2 4000 4000 c34x10 (in_c 4000 rfl) (inv_F hI 0 4000 rfl e_2_0) rfl
                      refine g_iconst 1 14 (gd rfl) rfl rfl ?_
                      refine g_goto 18 (gd rfl) rfl ?_
                      refine g_ireturn (gd rfl) rfl (nb01 (in_w 0 1 (in_c 1 rfl) rfl)) (hp34 _ _ ?_)
                      show GG _ _ _ _ _ _ _ _ [.int (Int32.ofInt 1)] _ _ _
                      refine g_if_ne 40 44 (gd rfl) rfl rfl (fun c37 => ?_) (fun c37 => ?_)
                      · skip
                        refine g_iconst 0 45 (gd rfl) rfl rfl ?_
                        refine g_thr (E := am_IS) (y := yX11_ready) 48 (gd rfl) rfl rfl (Or.inr ⟨rfl, rfl, rfl⟩) (by omega) (Nat.le_of_ble_eq_true rfl) (Nat.le_of_ble_eq_true rfl) (Nat.le_of_ble_eq_true rfl) (fun c45 => ?_) (fun c45 => ?_)
                        · skip
                          exact zn_ne c45 (in_c 0 rfl) rfl
                        · skip
                          exact (hX _ _ ⟨Or.inr rfl, s, hI, fr_rf, rfl⟩)
                      · skip
                        exact zn_eq c37 (in_c 1 rfl) rfl
                  · skip
                    exact zn_eq c27 (in_c 1 rfl) rfl
