/-! methods, by vc.py -/
/-- GraphHouseModel.before -/
theorem k_349 {Z : AmZ} {A : Nat → Nat} {s : GS} {ex : va_W} {d : Nat} {X : AmX} {x1 : Int32} (hd : 1 ≤ d) (hI : Inv s) (h1 : In x1 0 31) (q_0 : BE s (x1).toNatClampNeg) : GC Z d 349 [.ref (A 109), .int x1] (WW Z A s ++ ex) 0 0 (fun v u => ∃ z : Int32, v = some (.int z) ∧ u = WW Z A s ++ ex ∧ In z 0 31 ∧ ((z).toNatClampNeg = bf s (x1).toNatClampNeg)) X := by
  intro post xp hP hX
  obtain ⟨u_109_19, e_109_19⟩ : ∃ w, w = s.2.2.1 109 19 := ⟨_, rfl⟩
  have ro_109_19 := inv_F hI 0 160 rfl e_109_19
  refine g_enter2 (k := 349) (N := 900) (by omega) rfl (Nat.le_of_ble_eq_true rfl) ?_
  refine g_aload_n 1 (gd rfl) rfl rfl ?_
  refine g_getA (q2 := 148) 4 (gd rfl) rfl rfl rfl rfl ?_
  refine g_iload_n 5 (gd rfl) rfl rfl ?_
  refine g_iaload 6 (gd rfl) rfl (n := 34) rfl (in_ix h1 rfl) (fun z5 e5 => ?_)
  have i5 := inv_I hI (n := 34) (t := 0) (-1) 1000 rfl (in_ix h1 rfl) rfl e5
  refine g_istore_n 7 (gd rfl) rfl (Nat.le_of_ble_eq_true rfl) ?_
  refine g_iload_n 8 (gd rfl) rfl rfl ?_
  refine g_sipush 200 11 (gd rfl) rfl rfl ?_
  refine g_cmp_lt 14 32 (gd rfl) rfl rfl (fun c11 => ?_) (fun c11 => ?_)
  · skip
    have i11 := r_lt1 (-1) 199 c11 i5 (in_c 200 rfl) rfl
    have i32 : In z5 0 159 := by have h := q_0; unfold BE at h; rw [← e5] at h; exact ⟨by have a0 := ro_109_19; unfold In at a0; have a1 := h1; unfold In at a1; have a2 := i11; unfold In at a2; omega, by have a0 := ro_109_19; unfold In at a0; have a1 := h1; unfold In at a1; have a2 := i11; unfold In at a2; omega⟩
    refine g_aload_n 33 (gd rfl) rfl rfl ?_
    refine g_getA (q2 := 113) 36 (gd rfl) rfl rfl rfl rfl ?_
    refine g_aload_n 37 (gd rfl) rfl rfl ?_
    refine g_getI 40 (gd rfl) rfl rfl rfl (fun z37 e37 => ?_)
    have q37 : u_109_19 = z37 := (e_109_19).trans e37.symm
    subst q37
    refine g_iload_n 41 (gd rfl) rfl rfl ?_
    refine g_iadd 42 (gd rfl) rfl (fun z41 e41 => ?_)
    have i41 := in_add 0 319 e41 ro_109_19 i32 rfl rfl
    refine g_iaload 43 (gd rfl) rfl (n := 480) rfl (in_ix i41 rfl) (fun z42 e42 => ?_)
    have i42 := inv_I hI (n := 480) (t := 0) 0 31 rfl (in_ix i41 rfl) rfl e42
    have n43 : (z42).toNatClampNeg = bf s (x1).toNatClampNeg := by first | exact bf_1 e5 (show u_109_19 = s.2.2.1 109 19 from e_109_19) (by have a0 := ro_109_19; unfold In at a0; have a1 := h1; unfold In at a1; have a2 := i32; unfold In at a2; have a3 := i41; unfold In at a3; have a4 := t_add e41 ro_109_19 i32 rfl; omega) (by have a0 := ro_109_19; unfold In at a0; have a1 := h1; unfold In at a1; have a2 := i32; unfold In at a2; have a3 := i41; unfold In at a3; have a4 := t_add e41 ro_109_19 i32 rfl; omega) (by have a0 := ro_109_19; unfold In at a0; have a1 := h1; unfold In at a1; have a2 := i32; unfold In at a2; have a3 := i41; unfold In at a3; have a4 := t_add e41 ro_109_19 i32 rfl; omega) e28 | exact bf_2 e5 (show u_109_19 = s.2.2.1 109 19 from e_109_19) (by have a0 := ro_109_19; unfold In at a0; have a1 := h1; unfold In at a1; have a2 := i32; unfold In at a2; have a3 := i41; unfold In at a3; have a4 := t_add e41 ro_109_19 i32 rfl; omega) (by have a0 := ro_109_19; unfold In at a0; have a1 := h1; unfold In at a1; have a2 := i32; unfold In at a2; have a3 := i41; unfold In at a3; have a4 := t_add e41 ro_109_19 i32 rfl; omega) (by have a0 := ro_109_19; unfold In at a0; have a1 := h1; unfold In at a1; have a2 := i32; unfold In at a2; have a3 := i41; unfold In at a3; have a4 := t_add e41 ro_109_19 i32 rfl; omega) (by have a0 := ro_109_19; unfold In at a0; have a1 := h1; unfold In at a1; have a2 := i32; unfold In at a2; have a3 := i41; unfold In at a3; have a4 := t_add e41 ro_109_19 i32 rfl; omega) e42
    exact g_ireturn (gd rfl) rfl rfl (hP _ _ ⟨z42, rfl, rfl, in_w 0 31 i42 rfl, n43⟩)
  · skip
    have i11 := r_le2 200 1000 c11 (in_c 200 rfl) i5 rfl
    have i14 : In z5 200 359 := by have h := q_0; unfold BE at h; rw [← e5] at h; exact ⟨by have a0 := ro_109_19; unfold In at a0; have a1 := h1; unfold In at a1; have a2 := i11; unfold In at a2; omega, by have a0 := ro_109_19; unfold In at a0; have a1 := h1; unfold In at a1; have a2 := i11; unfold In at a2; omega⟩
    refine g_aload_n 15 (gd rfl) rfl rfl ?_
    refine g_getA (q2 := 114) 18 (gd rfl) rfl rfl rfl rfl ?_
    refine g_aload_n 19 (gd rfl) rfl rfl ?_
    refine g_getI 22 (gd rfl) rfl rfl rfl (fun z19 e19 => ?_)
    have q19 : u_109_19 = z19 := (e_109_19).trans e19.symm
    subst q19
    refine g_iload_n 23 (gd rfl) rfl rfl ?_
    refine g_iadd 24 (gd rfl) rfl (fun z23 e23 => ?_)
    have i23 := in_add 200 519 e23 ro_109_19 i14 rfl rfl
    refine g_sipush 200 27 (gd rfl) rfl rfl ?_
    refine g_isub 28 (gd rfl) rfl (fun z27 e27 => ?_)
    have i27 := in_sub 0 319 e27 i23 (in_c 200 rfl) rfl rfl
    refine g_iaload 29 (gd rfl) rfl (n := 480) rfl (in_ix i27 rfl) (fun z28 e28 => ?_)
    have i28 := inv_I hI (n := 480) (t := 0) 0 31 rfl (in_ix i27 rfl) rfl e28
    refine g_goto 43 (gd rfl) rfl ?_
    have n43 : (z28).toNatClampNeg = bf s (x1).toNatClampNeg := by first | exact bf_1 e5 (show u_109_19 = s.2.2.1 109 19 from e_109_19) (by have a0 := ro_109_19; unfold In at a0; have a1 := h1; unfold In at a1; have a2 := i14; unfold In at a2; have a3 := i27; unfold In at a3; have a4 := t_sub e27 i23 (in_c 200 rfl) rfl; have a5 := (in_c 200 rfl); unfold In at a5; have a6 := i23; unfold In at a6; have a7 := t_add e23 ro_109_19 i14 rfl; omega) (by have a0 := ro_109_19; unfold In at a0; have a1 := h1; unfold In at a1; have a2 := i14; unfold In at a2; have a3 := i27; unfold In at a3; have a4 := t_sub e27 i23 (in_c 200 rfl) rfl; have a5 := (in_c 200 rfl); unfold In at a5; have a6 := i23; unfold In at a6; have a7 := t_add e23 ro_109_19 i14 rfl; omega) (by have a0 := ro_109_19; unfold In at a0; have a1 := h1; unfold In at a1; have a2 := i14; unfold In at a2; have a3 := i27; unfold In at a3; have a4 := t_sub e27 i23 (in_c 200 rfl) rfl; have a5 := (in_c 200 rfl); unfold In at a5; have a6 := i23; unfold In at a6; have a7 := t_add e23 ro_109_19 i14 rfl; omega) e28 | exact bf_2 e5 (show u_109_19 = s.2.2.1 109 19 from e_109_19) (by have a0 := ro_109_19; unfold In at a0; have a1 := h1; unfold In at a1; have a2 := i14; unfold In at a2; have a3 := i27; unfold In at a3; have a4 := t_sub e27 i23 (in_c 200 rfl) rfl; have a5 := (in_c 200 rfl); unfold In at a5; have a6 := i23; unfold In at a6; have a7 := t_add e23 ro_109_19 i14 rfl; omega) (by have a0 := ro_109_19; unfold In at a0; have a1 := h1; unfold In at a1; have a2 := i14; unfold In at a2; have a3 := i27; unfold In at a3; have a4 := t_sub e27 i23 (in_c 200 rfl) rfl; have a5 := (in_c 200 rfl); unfold In at a5; have a6 := i23; unfold In at a6; have a7 := t_add e23 ro_109_19 i14 rfl; omega) (by have a0 := ro_109_19; unfold In at a0; have a1 := h1; unfold In at a1; have a2 := i14; unfold In at a2; have a3 := i27; unfold In at a3; have a4 := t_sub e27 i23 (in_c 200 rfl) rfl; have a5 := (in_c 200 rfl); unfold In at a5; have a6 := i23; unfold In at a6; have a7 := t_add e23 ro_109_19 i14 rfl; omega) (by have a0 := ro_109_19; unfold In at a0; have a1 := h1; unfold In at a1; have a2 := i14; unfold In at a2; have a3 := i27; unfold In at a3; have a4 := t_sub e27 i23 (in_c 200 rfl) rfl; have a5 := (in_c 200 rfl); unfold In at a5; have a6 := i23; unfold In at a6; have a7 := t_add e23 ro_109_19 i14 rfl; omega) e42
    exact g_ireturn (gd rfl) rfl rfl (hP _ _ ⟨z28, rfl, rfl, in_w 0 31 i28 rfl, n43⟩)

/-- GraphHouseModel.roomOn -/
theorem k_350 {Z : AmZ} {A : Nat → Nat} {s : GS} {ex : va_W} {d : Nat} {X : AmX} {x1 : Int32} (hd : 1 ≤ d) (hI : Inv s) (h1 : In x1 0 31) (q_0 : BE s (x1).toNatClampNeg) : GC Z d 350 [.ref (A 109), .int x1] (WW Z A s ++ ex) 0 0 (fun v u => ∃ z : Int64, v = some (.long z) ∧ u = WW Z A s ++ ex ∧ (FO s (x1).toNatClampNeg → (z).toInt = rm s (x1).toNatClampNeg)) X := by
  intro post xp hP hX
  obtain ⟨u_109_19, e_109_19⟩ : ∃ w, w = s.2.2.1 109 19 := ⟨_, rfl⟩
  have ro_109_19 := inv_F hI 0 160 rfl e_109_19
  refine g_enter2 (k := 350) (N := 900) (by omega) rfl (Nat.le_of_ble_eq_true rfl) ?_
  refine g_aload_n 1 (gd rfl) rfl rfl ?_
  refine g_getA (q2 := 148) 4 (gd rfl) rfl rfl rfl rfl ?_
  refine g_iload_n 5 (gd rfl) rfl rfl ?_
  refine g_iaload 6 (gd rfl) rfl (n := 34) rfl (in_ix h1 rfl) (fun z5 e5 => ?_)
  have i5 := inv_I hI (n := 34) (t := 0) (-1) 1000 rfl (in_ix h1 rfl) rfl e5
  refine g_istore_n 7 (gd rfl) rfl (Nat.le_of_ble_eq_true rfl) ?_
  refine g_iload_n 8 (gd rfl) rfl rfl ?_
  refine g_sipush 200 11 (gd rfl) rfl rfl ?_
  refine g_cmp_lt 14 27 (gd rfl) rfl rfl (fun c11 => ?_) (fun c11 => ?_)
  · skip
    have i11 := r_lt1 (-1) 199 c11 i5 (in_c 200 rfl) rfl
    have i27 : In z5 0 159 := by have h := q_0; unfold BE at h; rw [← e5] at h; exact ⟨by have a0 := ro_109_19; unfold In at a0; have a1 := h1; unfold In at a1; have a2 := i11; unfold In at a2; omega, by have a0 := ro_109_19; unfold In at a0; have a1 := h1; unfold In at a1; have a2 := i11; unfold In at a2; omega⟩
    refine g_aload_n 28 (gd rfl) rfl rfl ?_
    refine g_getA (q2 := 116) 31 (gd rfl) rfl rfl rfl rfl ?_
    refine g_aload_n 32 (gd rfl) rfl rfl ?_
    refine g_getI 35 (gd rfl) rfl rfl rfl (fun z32 e32 => ?_)
    have q32 : u_109_19 = z32 := (e_109_19).trans e32.symm
    subst q32
    refine g_iload_n 36 (gd rfl) rfl rfl ?_
    refine g_iadd 37 (gd rfl) rfl (fun z36 e36 => ?_)
    have i36 := in_add 0 319 e36 ro_109_19 i27 rfl rfl
    refine g_iaload 38 (gd rfl) rfl (n := 480) rfl (in_ix i36 rfl) (fun z37 e37 => ?_)
    have i37 := inv_I hI (n := 480) (t := 0) 0 1000000 rfl (in_ix i36 rfl) rfl e37
    refine g_i2l 39 (gd rfl) rfl (fun z38 e38 => ?_)
    have i38 := l_i e38 i37
    refine g_aload_n 40 (gd rfl) rfl rfl ?_
    refine g_getA (q2 := 147) 43 (gd rfl) rfl rfl rfl rfl ?_
    refine g_iload_n 44 (gd rfl) rfl rfl ?_
    refine g_laload 45 (gd rfl) rfl (n := 160) rfl (in_ix i27 rfl) (fun z44 e44 => ?_)
    refine g_lsub 46 (gd rfl) rfl (fun z45 e45 => ?_)
    have n46 : FO s (x1).toNatClampNeg → (z45).toInt = rm s (x1).toNatClampNeg := by intro hfo; first | exact rm_1 e5 (by have a0 := ro_109_19; unfold In at a0; have a1 := h1; unfold In at a1; have a2 := i27; unfold In at a2; have a3 := tx_i2l e38; have a4 := i37; unfold In at a4; have a5 := i36; unfold In at a5; have a6 := t_add e36 ro_109_19 i27 rfl; omega) (by have a0 := ro_109_19; unfold In at a0; have a1 := h1; unfold In at a1; have a2 := i27; unfold In at a2; have a3 := tx_i2l e38; have a4 := i37; unfold In at a4; have a5 := i36; unfold In at a5; have a6 := t_add e36 ro_109_19 i27 rfl; omega) e23 | exact rm_2 e5 (by have a0 := ro_109_19; unfold In at a0; have a1 := h1; unfold In at a1; have a2 := i27; unfold In at a2; have a3 := tx_i2l e38; have a4 := i37; unfold In at a4; have a5 := i36; unfold In at a5; have a6 := t_add e36 ro_109_19 i27 rfl; omega) (by have a0 := ro_109_19; unfold In at a0; have a1 := h1; unfold In at a1; have a2 := i27; unfold In at a2; have a3 := tx_i2l e38; have a4 := i37; unfold In at a4; have a5 := i36; unfold In at a5; have a6 := t_add e36 ro_109_19 i27 rfl; omega) (show u_109_19 = s.2.2.1 109 19 from e_109_19) (by have a0 := ro_109_19; unfold In at a0; have a1 := h1; unfold In at a1; have a2 := i27; unfold In at a2; have a3 := tx_i2l e38; have a4 := i37; unfold In at a4; have a5 := i36; unfold In at a5; have a6 := t_add e36 ro_109_19 i27 rfl; omega) (by have a0 := ro_109_19; unfold In at a0; have a1 := h1; unfold In at a1; have a2 := i27; unfold In at a2; have a3 := tx_i2l e38; have a4 := i37; unfold In at a4; have a5 := i36; unfold In at a5; have a6 := t_add e36 ro_109_19 i27 rfl; omega) e37 e44 (tx_i2l e38) i37 e45 hfo
    exact g_lreturn (gd rfl) rfl (hP _ _ ⟨z45, rfl, rfl, n46⟩)
  · skip
    have i11 := r_le2 200 1000 c11 (in_c 200 rfl) i5 rfl
    have i14 : In z5 200 359 := by have h := q_0; unfold BE at h; rw [← e5] at h; exact ⟨by have a0 := ro_109_19; unfold In at a0; have a1 := h1; unfold In at a1; have a2 := i11; unfold In at a2; omega, by have a0 := ro_109_19; unfold In at a0; have a1 := h1; unfold In at a1; have a2 := i11; unfold In at a2; omega⟩
    refine g_aload_n 15 (gd rfl) rfl rfl ?_
    refine g_getA (q2 := 147) 18 (gd rfl) rfl rfl rfl rfl ?_
    refine g_iload_n 19 (gd rfl) rfl rfl ?_
    refine g_sipush 200 22 (gd rfl) rfl rfl ?_
    refine g_isub 23 (gd rfl) rfl (fun z22 e22 => ?_)
    have i22 := in_sub 0 159 e22 i14 (in_c 200 rfl) rfl rfl
    refine g_laload 24 (gd rfl) rfl (n := 160) rfl (in_ix i22 rfl) (fun z23 e23 => ?_)
    refine g_goto 46 (gd rfl) rfl ?_
    have n46 : FO s (x1).toNatClampNeg → (z23).toInt = rm s (x1).toNatClampNeg := by intro hfo; first | exact rm_1 e5 (by have a0 := ro_109_19; unfold In at a0; have a1 := h1; unfold In at a1; have a2 := i14; unfold In at a2; have a3 := i22; unfold In at a3; have a4 := t_sub e22 i14 (in_c 200 rfl) rfl; have a5 := (in_c 200 rfl); unfold In at a5; omega) (by have a0 := ro_109_19; unfold In at a0; have a1 := h1; unfold In at a1; have a2 := i14; unfold In at a2; have a3 := i22; unfold In at a3; have a4 := t_sub e22 i14 (in_c 200 rfl) rfl; have a5 := (in_c 200 rfl); unfold In at a5; omega) e23 | exact rm_2 e5 (by have a0 := ro_109_19; unfold In at a0; have a1 := h1; unfold In at a1; have a2 := i14; unfold In at a2; have a3 := i22; unfold In at a3; have a4 := t_sub e22 i14 (in_c 200 rfl) rfl; have a5 := (in_c 200 rfl); unfold In at a5; omega) (by have a0 := ro_109_19; unfold In at a0; have a1 := h1; unfold In at a1; have a2 := i14; unfold In at a2; have a3 := i22; unfold In at a3; have a4 := t_sub e22 i14 (in_c 200 rfl) rfl; have a5 := (in_c 200 rfl); unfold In at a5; omega) (show u_109_19 = s.2.2.1 109 19 from e_109_19) (by have a0 := ro_109_19; unfold In at a0; have a1 := h1; unfold In at a1; have a2 := i14; unfold In at a2; have a3 := i22; unfold In at a3; have a4 := t_sub e22 i14 (in_c 200 rfl) rfl; have a5 := (in_c 200 rfl); unfold In at a5; omega) (by have a0 := ro_109_19; unfold In at a0; have a1 := h1; unfold In at a1; have a2 := i14; unfold In at a2; have a3 := i22; unfold In at a3; have a4 := t_sub e22 i14 (in_c 200 rfl) rfl; have a5 := (in_c 200 rfl); unfold In at a5; omega) e37 e44 (tx_i2l e38) i37 e45 hfo
    exact g_lreturn (gd rfl) rfl (hP _ _ ⟨z23, rfl, rfl, n46⟩)

def fm_351 : FM := ([], [147], [], [])
/-- GraphHouseModel.push -/
theorem k_351 {Z : AmZ} {A : Nat → Nat} {s : GS} {ex : va_W} {d : Nat} {X : AmX} {x1 : Int32} {x2 : Int64} (hd : 1 ≤ d) (hI : Inv s) (h1 : In x1 0 31) (q_0 : BE s (x1).toNatClampNeg) : GC Z d 351 [.ref (A 109), .int x1, .long x2] (WW Z A s ++ ex) 0 0 (fun v u => ∃ t : GS, Inv t ∧ Fr fm_351 s t ∧ v = none ∧ u = WW Z A t ++ ex ∧ (PU s t (x1).toNatClampNeg (x2).toInt)) X := by
  intro post xp hP hX
  refine g_enter2 (k := 351) (N := 900) (by omega) rfl (Nat.le_of_ble_eq_true rfl) ?_
  refine g_aload_n 1 (gd rfl) rfl rfl ?_
  refine g_getA (q2 := 148) 4 (gd rfl) rfl rfl rfl rfl ?_
  refine g_iload_n 5 (gd rfl) rfl rfl ?_
  refine g_iaload 6 (gd rfl) rfl (n := 34) rfl (in_ix h1 rfl) (fun z5 e5 => ?_)
  have i5 := inv_I hI (n := 34) (t := 0) (-1) 1000 rfl (in_ix h1 rfl) rfl e5
  refine g_istore 8 (gd rfl) rfl (Nat.le_of_ble_eq_true rfl) ?_
  refine g_iload 10 (gd rfl) rfl rfl ?_
  refine g_sipush 200 13 (gd rfl) rfl rfl ?_
  refine g_cmp_lt 16 34 (gd rfl) rfl rfl (fun c13 => ?_) (fun c13 => ?_)
  · skip
    have i13 := r_lt1 (-1) 199 c13 i5 (in_c 200 rfl) rfl
    have i34 : In z5 0 159 := by have h := q_0; unfold BE at h; rw [← e5] at h; exact ⟨by have a0 := h1; unfold In at a0; have a1 := i13; unfold In at a1; omega, by have a0 := h1; unfold In at a0; have a1 := i13; unfold In at a1; omega⟩
    refine g_aload_n 35 (gd rfl) rfl rfl ?_
    refine g_getA (q2 := 147) 38 (gd rfl) rfl rfl rfl rfl ?_
    refine g_iload 40 (gd rfl) rfl rfl ?_
    refine g_dup2 41 (gd rfl) rfl rfl rfl ?_
    refine g_laload 42 (gd rfl) rfl (n := 160) rfl (in_ix i34 rfl) (fun z41 e41 => ?_)
    refine g_lload_n 43 (gd rfl) rfl rfl ?_
    refine g_ladd 44 (gd rfl) rfl (fun z43 e43 => ?_)
    refine g_lastore 45 (gd rfl) rfl (n := 160) rfl (in_ix i34 rfl) ?_
    have hI44 := inv_sL (q := 147) (j := z5.toNatClampNeg) (x := z43) hI rfl (l_rng z43)
    have n45 : PU s (sL s 147 z5.toNatClampNeg z43) (x1).toNatClampNeg (x2).toInt := by first | exact pu_1 e5 (by have a0 := h1; unfold In at a0; have a1 := i34; unfold In at a1; omega) (by have a0 := h1; unfold In at a0; have a1 := i34; unfold In at a1; omega) e27 e29 (by simp [sL]) | exact pu_2 e5 (by have a0 := h1; unfold In at a0; have a1 := i34; unfold In at a1; omega) e41 e43 (by simp [sL])
    exact g_return (gd rfl) rfl (hP _ _ ⟨(sL s 147 z5.toNatClampNeg z43), hI44, (fr_sL rfl fr_rf), rfl, rfl, n45⟩)
  · skip
    have i13 := r_le2 200 1000 c13 (in_c 200 rfl) i5 rfl
    have i16 : In z5 200 359 := by have h := q_0; unfold BE at h; rw [← e5] at h; exact ⟨by have a0 := h1; unfold In at a0; have a1 := i13; unfold In at a1; omega, by have a0 := h1; unfold In at a0; have a1 := i13; unfold In at a1; omega⟩
    refine g_aload_n 17 (gd rfl) rfl rfl ?_
    refine g_getA (q2 := 147) 20 (gd rfl) rfl rfl rfl rfl ?_
    refine g_iload 22 (gd rfl) rfl rfl ?_
    refine g_sipush 200 25 (gd rfl) rfl rfl ?_
    refine g_isub 26 (gd rfl) rfl (fun z25 e25 => ?_)
    have i25 := in_sub 0 159 e25 i16 (in_c 200 rfl) rfl rfl
    refine g_dup2 27 (gd rfl) rfl rfl rfl ?_
    refine g_laload 28 (gd rfl) rfl (n := 160) rfl (in_ix i25 rfl) (fun z27 e27 => ?_)
    refine g_lload_n 29 (gd rfl) rfl rfl ?_
    refine g_lsub 30 (gd rfl) rfl (fun z29 e29 => ?_)
    refine g_lastore 31 (gd rfl) rfl (n := 160) rfl (in_ix i25 rfl) ?_
    have hI30 := inv_sL (q := 147) (j := z25.toNatClampNeg) (x := z29) hI rfl (l_rng z29)
    refine g_goto 45 (gd rfl) rfl ?_
    have n45 : PU s (sL s 147 z25.toNatClampNeg z29) (x1).toNatClampNeg (x2).toInt := by first | exact pu_1 e5 (by have a0 := h1; unfold In at a0; have a1 := i16; unfold In at a1; have a2 := i25; unfold In at a2; have a3 := t_sub e25 i16 (in_c 200 rfl) rfl; have a4 := (in_c 200 rfl); unfold In at a4; omega) (by have a0 := h1; unfold In at a0; have a1 := i16; unfold In at a1; have a2 := i25; unfold In at a2; have a3 := t_sub e25 i16 (in_c 200 rfl) rfl; have a4 := (in_c 200 rfl); unfold In at a4; omega) e27 e29 (by simp [sL]) | exact pu_2 e5 (by have a0 := h1; unfold In at a0; have a1 := i16; unfold In at a1; have a2 := i25; unfold In at a2; have a3 := t_sub e25 i16 (in_c 200 rfl) rfl; have a4 := (in_c 200 rfl); unfold In at a4; omega) e41 e43 (by simp [sL])
    exact g_return (gd rfl) rfl (hP _ _ ⟨(sL s 147 z25.toNatClampNeg z29), hI30, (fr_sL rfl fr_rf), rfl, rfl, n45⟩)

def fm_364 : FM := ([158, 159], [], [], [])
/-- GraphHouseModel.rings -/
theorem k_364 {Z : AmZ} {A : Nat → Nat} {s : GS} {ex : va_W} {d : Nat} {X : AmX} {x1 : Int32} {x2 : Int32} (hd : 1 ≤ d) (hI : Inv s) (h1 : In x1 1 32) (h2 : In x2 0 31) (q_0 : TP s (x1).toInt (x2).toInt) : GC Z d 364 [.ref (A 109), .int x1, .int x2] (WW Z A s ++ ex) 0 0 (fun v u => ∃ t : GS, Inv t ∧ Fr fm_364 s t ∧ ∃ z : Int32, v = some (.int z) ∧ u = WW Z A t ++ ex ∧ In z 0 32 ∧ ((z).toInt ≤ (x1).toInt) ∧ (∀ k : Nat, (k : Int) < (x1).toInt → 0 ≤ (t.1 158 k).toInt ∧ (t.1 158 k).toInt < (z).toInt)) X := by
  intro post xp hP hX
  have ct173 : ∀ (k173 : Nat) (sc173 : GS) (y173_3 : Int32) (y173_4 : Int32), Inv sc173 → Fr fm_364 s sc173 → (In y173_3 0 32) → (In y173_4 0 32) → (0 ≤ (y173_3).toInt) → ((y173_3).toInt + (cM (sc173.1 158) (x1).toNatClampNeg : Int) ≤ (x1).toInt) → (∀ k : Nat, (k : Int) < (x1).toInt → (sc173.1 158 k).toInt < (y173_3).toInt) → (∀ k : Nat, (k : Int) < (y173_4).toInt → 0 ≤ (sc173.1 158 k).toInt) → 32 - (y173_4).toInt < (k173 : Int) → GG Z (d - 1) 364 post (gx xp) (1 + k173 * 900) 173 (fun j => xlook j [(0, .ref (A 109)), (1, .int x1), (2, .int x2), (3, .int y173_3), (4, .int y173_4)]) [] (WW Z A sc173 ++ ex) 0 0 := by
    intro k173
    induction k173 with
    | zero => intro sc173 y173_3 y173_4 hIc173 hFc173 j173_3 j173_4 n173_0 g173_0 g173_1 g173_2 mm173; exact m_no mm173 j173_4 rfl
    | succ k173 ih173 =>
      intro sc173 y173_3 y173_4 hIc173 hFc173 j173_3 j173_4 n173_0 g173_0 g173_1 g173_2 mm173
      refine gg_w (M := 1 + k173 * 900 + 900) (by omega) ?_
      refine g_iload 175 (gd rfl) rfl rfl ?_
      refine g_iload_n 176 (gd rfl) rfl rfl ?_
      refine g_cmp_ge 179 206 (gd rfl) rfl rfl (fun c176 => ?_) (fun c176 => ?_)
      · skip
        have i176 := r_le2 1 32 c176 h1 j173_4 rfl
        refine g_iload_n 207 (gd rfl) rfl rfl ?_
        have n207 : (y173_3).toInt ≤ (x1).toInt := by have hc := g173_0; have a0 := h2; unfold In at a0; have a1 := h1; unfold In at a1; have a2 := i176; unfold In at a2; have a3 := j173_3; unfold In at a3; omega
        have n207a : ∀ k : Nat, (k : Int) < (x1).toInt → 0 ≤ (sc173.1 158 k).toInt ∧ (sc173.1 158 k).toInt < (y173_3).toInt := by exact fun k hk => ⟨g173_2 k (by have a0 := h2; unfold In at a0; have a1 := h1; unfold In at a1; have a2 := i176; unfold In at a2; have a3 := j173_3; unfold In at a3; omega), g173_1 k hk⟩
        exact g_ireturn (gd rfl) rfl rfl (hP _ _ ⟨sc173, hIc173, hFc173, y173_3, rfl, rfl, in_w 0 32 j173_3 rfl, n207, n207a⟩)
      · skip
        have i176 := r_lt1 0 31 c176 j173_4 h1 rfl
        refine g_aload_n 180 (gd rfl) rfl rfl ?_
        refine g_getA (q2 := 158) 183 (gd rfl) rfl rfl rfl rfl ?_
        refine g_iload 185 (gd rfl) rfl rfl ?_
        refine g_iaload 186 (gd rfl) rfl (n := 32) rfl (in_ix i176 rfl) (fun z185 e185 => ?_)
        refine g_if_ge 189 200 (gd rfl) rfl rfl (fun c186 => ?_) (fun c186 => ?_)
        · skip
          have i186 := z_ge 0 2147483647 c186 (i_rng z185) rfl
          first | (have n173q : (y173_3).toInt + (cM (sc173.1 158) (x1).toNatClampNeg : Int) ≤ (x1).toInt := (by rw [sI_q]; have hu := up_cm (f := sc173.1 158) (y := y173_4) (b := y173_3) (n := x1.toNatClampNeg) (by rw [← e185]; exact c186) (by have a0 := h2; unfold In at a0; have a1 := h1; unfold In at a1; have a2 := i176; unfold In at a2; have a3 := j173_3; unfold In at a3; omega) (by show y173_4.toInt.toNat < x1.toInt.toNat; have a0 := h2; unfold In at a0; have a1 := h1; unfold In at a1; have a2 := i176; unfold In at a2; have a3 := j173_3; unfold In at a3; omega); have hc := g173_0; have a0 := h2; unfold In at a0; have a1 := h1; unfold In at a1; have a2 := i176; unfold In at a2; have a3 := j173_3; unfold In at a3; omega)) | skip
          refine g_iinc 203 (gd rfl) rfl rfl (Nat.le_of_ble_eq_true rfl) (fun z200 e200 => ?_)
          have i200 := in_add 1 32 e200 i176 (in_c 1 rfl) rfl rfl
          refine g_goto 173 (gd rfl) rfl ?_
          have n173 : 0 ≤ (y173_3).toInt := by have a0 := h2; unfold In at a0; have a1 := h1; unfold In at a1; have a2 := i176; unfold In at a2; have a3 := j173_3; unfold In at a3; have a4 := i200; unfold In at a4; have a5 := t_add e200 i176 (in_c 1 rfl) rfl; have a6 := (in_c 1 rfl); unfold In at a6; omega
          have n173a : (y173_3).toInt + (cM (sc173.1 158) (x1).toNatClampNeg : Int) ≤ (x1).toInt := by first | exact n173q | exact g173_0 | exact g32_0
          have n173b : ∀ k : Nat, (k : Int) < (x1).toInt → (sc173.1 158 k).toInt < (y173_3).toInt := by first | exact g173_1 | exact g32_1 | (intro k hk; rw [sI_q]; exact up_lt (fun c => by have h := g173_1 k hk; have a0 := h2; unfold In at a0; have a1 := h1; unfold In at a1; have a2 := i176; unfold In at a2; have a3 := j173_3; unfold In at a3; have a4 := i200; unfold In at a4; have a5 := t_add e200 i176 (in_c 1 rfl) rfl; have a6 := (in_c 1 rfl); unfold In at a6; omega) (by have a0 := h2; unfold In at a0; have a1 := h1; unfold In at a1; have a2 := i176; unfold In at a2; have a3 := j173_3; unfold In at a3; have a4 := i200; unfold In at a4; have a5 := t_add e200 i176 (in_c 1 rfl) rfl; have a6 := (in_c 1 rfl); unfold In at a6; omega))
          have n173c : ∀ k : Nat, (k : Int) < (z200).toInt → 0 ≤ (sc173.1 158 k).toInt := by first | (intro k hk; exfalso; have h0 : (Int32.ofInt 0).toInt = 0 := rfl; omega) | (intro k hk; have e4 : y173_4.toNatClampNeg = y173_4.toInt.toNat := rfl; first | (by_cases c : (k : Int) < y173_4.toInt; exact g173_2 k c; (rw [show k = y173_4.toNatClampNeg from (by have a0 := h2; unfold In at a0; have a1 := h1; unfold In at a1; have a2 := i176; unfold In at a2; have a3 := j173_3; unfold In at a3; have a4 := i200; unfold In at a4; have a5 := t_add e200 i176 (in_c 1 rfl) rfl; have a6 := (in_c 1 rfl); unfold In at a6; omega), ← e185]; exact c186)) | (rw [sI_q]; unfold upd; by_cases c : k = y173_4.toNatClampNeg; (rw [if_pos c]; have a0 := h2; unfold In at a0; have a1 := h1; unfold In at a1; have a2 := i176; unfold In at a2; have a3 := j173_3; unfold In at a3; have a4 := i200; unfold In at a4; have a5 := t_add e200 i176 (in_c 1 rfl) rfl; have a6 := (in_c 1 rfl); unfold In at a6; omega); (rw [if_neg c]; exact g173_2 k (by have a0 := h2; unfold In at a0; have a1 := h1; unfold In at a1; have a2 := i176; unfold In at a2; have a3 := j173_3; unfold In at a3; have a4 := i200; unfold In at a4; have a5 := t_add e200 i176 (in_c 1 rfl) rfl; have a6 := (in_c 1 rfl); unfold In at a6; omega))))
          exact gg_w (by omega) (gg_f (gf_cons rfl (gf_cons rfl (gf_cons rfl (gf_cons rfl (gf_cons rfl gf_nil))))) (ih173 sc173 y173_3 z200 hIc173 hFc173 (in_w 0 32 j173_3 rfl) (in_w 0 32 i200 rfl) n173 n173a n173b n173c (m_up mm173 (t_add e200 i176 (in_c 1 rfl) rfl) (in_w 1 1 (in_c 1 rfl) rfl))))
        · skip
          have i186 := z_lt (-2147483648) (-1) c186 (i_rng z185) rfl
          refine g_aload_n 190 (gd rfl) rfl rfl ?_
          refine g_getA (q2 := 158) 193 (gd rfl) rfl rfl rfl rfl ?_
          refine g_iload 195 (gd rfl) rfl rfl ?_
          refine g_iload_n 196 (gd rfl) rfl rfl ?_
          refine g_iastore 197 (gd rfl) rfl (n := 32) rfl (in_ix i176 rfl) ?_
          have hI196 := inv_sI (q := 158) (j := y173_4.toNatClampNeg) hIc173 rfl (in_w (-2147483648) 2147483647 j173_3 rfl)
          refine g_iinc 200 (gd rfl) rfl rfl (Nat.le_of_ble_eq_true rfl) (fun z197 e197 => ?_)
          have i197 := in_add 1 33 e197 j173_3 (in_c 1 rfl) rfl rfl
          first | (have n173q : (z197).toInt + (cM ((sI sc173 158 y173_4.toNatClampNeg y173_3).1 158) (x1).toNatClampNeg : Int) ≤ (x1).toInt := (by rw [sI_q]; have hu := up_cm (f := sc173.1 158) (y := y173_4) (b := y173_3) (n := x1.toNatClampNeg) (by rw [← e185]; exact c186) (by have a0 := h2; unfold In at a0; have a1 := h1; unfold In at a1; have a2 := i176; unfold In at a2; have a3 := j173_3; unfold In at a3; have a4 := i197; unfold In at a4; have a5 := t_add e197 j173_3 (in_c 1 rfl) rfl; have a6 := (in_c 1 rfl); unfold In at a6; omega) (by show y173_4.toInt.toNat < x1.toInt.toNat; have a0 := h2; unfold In at a0; have a1 := h1; unfold In at a1; have a2 := i176; unfold In at a2; have a3 := j173_3; unfold In at a3; have a4 := i197; unfold In at a4; have a5 := t_add e197 j173_3 (in_c 1 rfl) rfl; have a6 := (in_c 1 rfl); unfold In at a6; omega); have hc := g173_0; have a0 := h2; unfold In at a0; have a1 := h1; unfold In at a1; have a2 := i176; unfold In at a2; have a3 := j173_3; unfold In at a3; have a4 := i197; unfold In at a4; have a5 := t_add e197 j173_3 (in_c 1 rfl) rfl; have a6 := (in_c 1 rfl); unfold In at a6; omega)) | skip
          refine g_iinc 203 (gd rfl) rfl rfl (Nat.le_of_ble_eq_true rfl) (fun z200 e200 => ?_)
          have i200 := in_add 1 32 e200 i176 (in_c 1 rfl) rfl rfl
          refine g_goto 173 (gd rfl) rfl ?_
          have i173 : In z197 0 32 := by first | (exact ⟨by have a0 := h2; unfold In at a0; have a1 := h1; unfold In at a1; have a2 := i176; unfold In at a2; have a3 := j173_3; unfold In at a3; have a4 := i200; unfold In at a4; have a5 := t_add e200 i176 (in_c 1 rfl) rfl; have a6 := (in_c 1 rfl); unfold In at a6; have a7 := i197; unfold In at a7; have a8 := t_add e197 j173_3 (in_c 1 rfl) rfl; omega, by have a0 := h2; unfold In at a0; have a1 := h1; unfold In at a1; have a2 := i176; unfold In at a2; have a3 := j173_3; unfold In at a3; have a4 := i200; unfold In at a4; have a5 := t_add e200 i176 (in_c 1 rfl) rfl; have a6 := (in_c 1 rfl); unfold In at a6; have a7 := i197; unfold In at a7; have a8 := t_add e197 j173_3 (in_c 1 rfl) rfl; omega⟩) | (have hc := n173q; exact ⟨by have a0 := h2; unfold In at a0; have a1 := h1; unfold In at a1; have a2 := i176; unfold In at a2; have a3 := j173_3; unfold In at a3; have a4 := i200; unfold In at a4; have a5 := t_add e200 i176 (in_c 1 rfl) rfl; have a6 := (in_c 1 rfl); unfold In at a6; have a7 := i197; unfold In at a7; have a8 := t_add e197 j173_3 (in_c 1 rfl) rfl; omega, by have a0 := h2; unfold In at a0; have a1 := h1; unfold In at a1; have a2 := i176; unfold In at a2; have a3 := j173_3; unfold In at a3; have a4 := i200; unfold In at a4; have a5 := t_add e200 i176 (in_c 1 rfl) rfl; have a6 := (in_c 1 rfl); unfold In at a6; have a7 := i197; unfold In at a7; have a8 := t_add e197 j173_3 (in_c 1 rfl) rfl; omega⟩)
          have n173 : 0 ≤ (z197).toInt := by have a0 := h2; unfold In at a0; have a1 := h1; unfold In at a1; have a2 := i176; unfold In at a2; have a3 := j173_3; unfold In at a3; have a4 := i200; unfold In at a4; have a5 := t_add e200 i176 (in_c 1 rfl) rfl; have a6 := (in_c 1 rfl); unfold In at a6; have a7 := i173; unfold In at a7; have a8 := t_add e197 j173_3 (in_c 1 rfl) rfl; omega
          have n173a : (z197).toInt + (cM ((sI sc173 158 y173_4.toNatClampNeg y173_3).1 158) (x1).toNatClampNeg : Int) ≤ (x1).toInt := by first | exact n173q | exact g173_0 | exact g32_0
          have n173b : ∀ k : Nat, (k : Int) < (x1).toInt → ((sI sc173 158 y173_4.toNatClampNeg y173_3).1 158 k).toInt < (z197).toInt := by first | exact g173_1 | exact g32_1 | (intro k hk; rw [sI_q]; exact up_lt (fun c => by have h := g173_1 k hk; have a0 := h2; unfold In at a0; have a1 := h1; unfold In at a1; have a2 := i176; unfold In at a2; have a3 := j173_3; unfold In at a3; have a4 := i200; unfold In at a4; have a5 := t_add e200 i176 (in_c 1 rfl) rfl; have a6 := (in_c 1 rfl); unfold In at a6; have a7 := i173; unfold In at a7; have a8 := t_add e197 j173_3 (in_c 1 rfl) rfl; omega) (by have a0 := h2; unfold In at a0; have a1 := h1; unfold In at a1; have a2 := i176; unfold In at a2; have a3 := j173_3; unfold In at a3; have a4 := i200; unfold In at a4; have a5 := t_add e200 i176 (in_c 1 rfl) rfl; have a6 := (in_c 1 rfl); unfold In at a6; have a7 := i173; unfold In at a7; have a8 := t_add e197 j173_3 (in_c 1 rfl) rfl; omega))
          have n173c : ∀ k : Nat, (k : Int) < (z200).toInt → 0 ≤ ((sI sc173 158 y173_4.toNatClampNeg y173_3).1 158 k).toInt := by first | (intro k hk; exfalso; have h0 : (Int32.ofInt 0).toInt = 0 := rfl; omega) | (intro k hk; have e4 : y173_4.toNatClampNeg = y173_4.toInt.toNat := rfl; first | (by_cases c : (k : Int) < y173_4.toInt; exact g173_2 k c; (rw [show k = y173_4.toNatClampNeg from (by have a0 := h2; unfold In at a0; have a1 := h1; unfold In at a1; have a2 := i176; unfold In at a2; have a3 := j173_3; unfold In at a3; have a4 := i200; unfold In at a4; have a5 := t_add e200 i176 (in_c 1 rfl) rfl; have a6 := (in_c 1 rfl); unfold In at a6; have a7 := i173; unfold In at a7; have a8 := t_add e197 j173_3 (in_c 1 rfl) rfl; omega), ← e185]; exact c186)) | (rw [sI_q]; unfold upd; by_cases c : k = y173_4.toNatClampNeg; (rw [if_pos c]; have a0 := h2; unfold In at a0; have a1 := h1; unfold In at a1; have a2 := i176; unfold In at a2; have a3 := j173_3; unfold In at a3; have a4 := i200; unfold In at a4; have a5 := t_add e200 i176 (in_c 1 rfl) rfl; have a6 := (in_c 1 rfl); unfold In at a6; have a7 := i173; unfold In at a7; have a8 := t_add e197 j173_3 (in_c 1 rfl) rfl; omega); (rw [if_neg c]; exact g173_2 k (by have a0 := h2; unfold In at a0; have a1 := h1; unfold In at a1; have a2 := i176; unfold In at a2; have a3 := j173_3; unfold In at a3; have a4 := i200; unfold In at a4; have a5 := t_add e200 i176 (in_c 1 rfl) rfl; have a6 := (in_c 1 rfl); unfold In at a6; have a7 := i173; unfold In at a7; have a8 := t_add e197 j173_3 (in_c 1 rfl) rfl; omega))))
          exact gg_w (by omega) (gg_f (gf_cons rfl (gf_cons rfl (gf_cons rfl (gf_cons rfl (gf_cons rfl gf_nil))))) (ih173 (sI sc173 158 y173_4.toNatClampNeg y173_3) z197 z200 hI196 (fr_sI rfl hFc173) i173 (in_w 0 32 i200 rfl) n173 n173a n173b n173c (m_up mm173 (t_add e200 i176 (in_c 1 rfl) rfl) (in_w 1 1 (in_c 1 rfl) rfl))))
  have ct32 : ∀ (k32 : Nat) (sc32 : GS) (y32_3 : Int32) (y32_4 : Int32), Inv sc32 → Fr fm_364 s sc32 → (In y32_3 0 32) → (In y32_4 0 32) → (0 ≤ (y32_3).toInt) → ((y32_3).toInt + (cM (sc32.1 158) (x1).toNatClampNeg : Int) ≤ (x1).toInt) → (∀ k : Nat, (k : Int) < (x1).toInt → (sc32.1 158 k).toInt < (y32_3).toInt) → (∀ k : Nat, (k : Int) < (x1).toInt → (sc32.1 159 k).toInt < (y32_4).toInt) → 32 - (y32_4).toInt < (k32 : Int) → GG Z (d - 1) 364 post (gx xp) (29702 + k32 * 63902) 32 (fun j => xlook j [(0, .ref (A 109)), (1, .int x1), (2, .int x2), (3, .int y32_3), (4, .int y32_4)]) [] (WW Z A sc32 ++ ex) 0 0 := by
    intro k32
    induction k32 with
    | zero => intro sc32 y32_3 y32_4 hIc32 hFc32 j32_3 j32_4 n32_0 g32_0 g32_1 g32_2 mm32; exact m_no mm32 j32_4 rfl
    | succ k32 ih32 =>
      intro sc32 y32_3 y32_4 hIc32 hFc32 j32_3 j32_4 n32_0 g32_0 g32_1 g32_2 mm32
      refine gg_w (M := 29702 + k32 * 63902 + 63902) (by omega) ?_
      have ct126 : ∀ (k126 : Nat) (sc126 : GS) (y126_5 : Int32) (y126_6 : Int32), Inv sc126 → Fr fm_364 s sc126 → (In y32_4 0 31) → (In y126_5 0 31) → (In y126_6 0 31) → ((y126_6).toInt < (x1).toInt) → (0 ≤ (y126_6).toInt) → (((y32_3).toInt + (cM (sc126.1 158) (x1).toNatClampNeg : Int) ≤ (x1).toInt ∧ (sc126.1 158 (y126_6).toNatClampNeg).toInt < 0) ∨ (y32_3).toInt + 1 + (cM (sc126.1 158) (x1).toNatClampNeg : Int) ≤ (x1).toInt) → (∀ k : Nat, (k : Int) < (x1).toInt → (sc126.1 158 k).toInt < (y32_3).toInt + 1) → (∀ k : Nat, (k : Int) < (x1).toInt → (sc126.1 159 k).toInt < (y32_4).toInt + 1) → (VD s (sc126.1 159) (x1).toInt (x2).toInt (y32_4).toInt) → ((sc126.1 159 (y126_6).toNatClampNeg).toInt = (y32_4).toInt) → cM (sc126.1 158) (x1).toNatClampNeg < k126 → GG Z (d - 1) 364 post (gx xp) (29702 + k32 * 63902 + 1 + k126 * 900) 126 (fun j => xlook j [(0, .ref (A 109)), (1, .int x1), (2, .int x2), (3, .int y32_3), (4, .int y32_4), (5, .int y126_5), (6, .int y126_6)]) [] (WW Z A sc126 ++ ex) 0 0 := by
        intro k126
        induction k126 with
        | zero => intro sc126 y126_5 y126_6 hIc126 hFc126 j126_4 j126_5 j126_6 n126_0 n126_1 g126_0 g126_1 g126_2 g126_3 g126_4 mm126; exact absurd mm126 (Nat.not_lt_zero _)
        | succ k126 ih126 =>
          intro sc126 y126_5 y126_6 hIc126 hFc126 j126_4 j126_5 j126_6 n126_0 n126_1 g126_0 g126_1 g126_2 g126_3 g126_4 mm126
          refine gg_w (M := 29702 + k32 * 63902 + 1 + k126 * 900 + 900) (by omega) ?_
          refine g_aload_n 127 (gd rfl) rfl rfl ?_
          refine g_getA (q2 := 158) 130 (gd rfl) rfl rfl rfl rfl ?_
          refine g_iload 132 (gd rfl) rfl rfl ?_
          refine g_iaload 133 (gd rfl) rfl (n := 32) rfl (in_ix j126_6 rfl) (fun z132 e132 => ?_)
          refine g_if_ge 136 161 (gd rfl) rfl rfl (fun c133 => ?_) (fun c133 => ?_)
          · skip
            have i133 := z_ge 0 2147483647 c133 (i_rng z132) rfl
            have n126q : (y32_3).toInt + 1 + (cM (sc126.1 158) (x1).toNatClampNeg : Int) ≤ (x1).toInt := (by rcases g126_0 with hg | hg; (exfalso; rw [← e132] at hg; have hz := c133; omega); exact hg)
            refine g_iinc 164 (gd rfl) rfl rfl (Nat.le_of_ble_eq_true rfl) (fun z161 e161 => ?_)
            have i161 := in_add 1 33 e161 j32_3 (in_c 1 rfl) rfl rfl
            refine g_iinc 167 (gd rfl) rfl rfl (Nat.le_of_ble_eq_true rfl) (fun z164 e164 => ?_)
            have i164 := in_add 1 32 e164 j126_4 (in_c 1 rfl) rfl rfl
            refine g_goto 32 (gd rfl) rfl ?_
            have i32 : In z161 0 32 := by first | (exact ⟨by have a0 := j126_4; unfold In at a0; have a1 := j32_3; unfold In at a1; have a2 := h2; unfold In at a2; have a3 := h1; unfold In at a3; have a4 := j126_6; unfold In at a4; have a5 := j126_5; unfold In at a5; have a6 := i164; unfold In at a6; have a7 := t_add e164 j126_4 (in_c 1 rfl) rfl; have a8 := (in_c 1 rfl); unfold In at a8; have a9 := i161; unfold In at a9; have a10 := t_add e161 j32_3 (in_c 1 rfl) rfl; omega, by have a0 := j126_4; unfold In at a0; have a1 := j32_3; unfold In at a1; have a2 := h2; unfold In at a2; have a3 := h1; unfold In at a3; have a4 := j126_6; unfold In at a4; have a5 := j126_5; unfold In at a5; have a6 := i164; unfold In at a6; have a7 := t_add e164 j126_4 (in_c 1 rfl) rfl; have a8 := (in_c 1 rfl); unfold In at a8; have a9 := i161; unfold In at a9; have a10 := t_add e161 j32_3 (in_c 1 rfl) rfl; omega⟩) | (have hc := n126q; exact ⟨by have a0 := j126_4; unfold In at a0; have a1 := j32_3; unfold In at a1; have a2 := h2; unfold In at a2; have a3 := h1; unfold In at a3; have a4 := j126_6; unfold In at a4; have a5 := j126_5; unfold In at a5; have a6 := i164; unfold In at a6; have a7 := t_add e164 j126_4 (in_c 1 rfl) rfl; have a8 := (in_c 1 rfl); unfold In at a8; have a9 := i161; unfold In at a9; have a10 := t_add e161 j32_3 (in_c 1 rfl) rfl; omega, by have a0 := j126_4; unfold In at a0; have a1 := j32_3; unfold In at a1; have a2 := h2; unfold In at a2; have a3 := h1; unfold In at a3; have a4 := j126_6; unfold In at a4; have a5 := j126_5; unfold In at a5; have a6 := i164; unfold In at a6; have a7 := t_add e164 j126_4 (in_c 1 rfl) rfl; have a8 := (in_c 1 rfl); unfold In at a8; have a9 := i161; unfold In at a9; have a10 := t_add e161 j32_3 (in_c 1 rfl) rfl; omega⟩)
            have n32 : 0 ≤ (z161).toInt := by have a0 := j126_4; unfold In at a0; have a1 := j32_3; unfold In at a1; have a2 := h2; unfold In at a2; have a3 := h1; unfold In at a3; have a4 := j126_6; unfold In at a4; have a5 := j126_5; unfold In at a5; have a6 := i164; unfold In at a6; have a7 := t_add e164 j126_4 (in_c 1 rfl) rfl; have a8 := (in_c 1 rfl); unfold In at a8; have a9 := i32; unfold In at a9; have a10 := t_add e161 j32_3 (in_c 1 rfl) rfl; omega
            have n32a : (z161).toInt + (cM (sc126.1 158) (x1).toNatClampNeg : Int) ≤ (x1).toInt := by first | exact g42_0 | (rcases g126_0 with hg | hg; (exfalso; rw [← e132] at hg; have hz := c133; omega); have a0 := j126_4; unfold In at a0; have a1 := j32_3; unfold In at a1; have a2 := h2; unfold In at a2; have a3 := h1; unfold In at a3; have a4 := j126_6; unfold In at a4; have a5 := j126_5; unfold In at a5; have a6 := i164; unfold In at a6; have a7 := t_add e164 j126_4 (in_c 1 rfl) rfl; have a8 := (in_c 1 rfl); unfold In at a8; have a9 := i32; unfold In at a9; have a10 := t_add e161 j32_3 (in_c 1 rfl) rfl; omega) | (have hc := cM_le (sc126.1 158) (x1).toNatClampNeg; have h0 : (Int32.ofInt 0).toInt = 0 := rfl; have hmn : ((x1).toNatClampNeg : Int) = (x1).toInt := (by show (((x1).toInt.toNat : Nat) : Int) = _; have a0 := j126_4; unfold In at a0; have a1 := j32_3; unfold In at a1; have a2 := h2; unfold In at a2; have a3 := h1; unfold In at a3; have a4 := j126_6; unfold In at a4; have a5 := j126_5; unfold In at a5; have a6 := i164; unfold In at a6; have a7 := t_add e164 j126_4 (in_c 1 rfl) rfl; have a8 := (in_c 1 rfl); unfold In at a8; have a9 := i32; unfold In at a9; have a10 := t_add e161 j32_3 (in_c 1 rfl) rfl; omega); omega)
            have n32b : ∀ k : Nat, (k : Int) < (x1).toInt → (sc126.1 158 k).toInt < (z161).toInt := by first | exact g42_1 | (intro k hk; have h := g126_1 k hk; have a0 := j126_4; unfold In at a0; have a1 := j32_3; unfold In at a1; have a2 := h2; unfold In at a2; have a3 := h1; unfold In at a3; have a4 := j126_6; unfold In at a4; have a5 := j126_5; unfold In at a5; have a6 := i164; unfold In at a6; have a7 := t_add e164 j126_4 (in_c 1 rfl) rfl; have a8 := (in_c 1 rfl); unfold In at a8; have a9 := i32; unfold In at a9; have a10 := t_add e161 j32_3 (in_c 1 rfl) rfl; omega) | exact fun k hk => (g2_0 k (by have a0 := j126_4; unfold In at a0; have a1 := j32_3; unfold In at a1; have a2 := h2; unfold In at a2; have a3 := h1; unfold In at a3; have a4 := j126_6; unfold In at a4; have a5 := j126_5; unfold In at a5; have a6 := i164; unfold In at a6; have a7 := t_add e164 j126_4 (in_c 1 rfl) rfl; have a8 := (in_c 1 rfl); unfold In at a8; have a9 := i32; unfold In at a9; have a10 := t_add e161 j32_3 (in_c 1 rfl) rfl; omega)).1
            have n32c : ∀ k : Nat, (k : Int) < (x1).toInt → (sc126.1 159 k).toInt < (z164).toInt := by first | (intro k hk; have h := g42_2 k hk; have a0 := j126_4; unfold In at a0; have a1 := j32_3; unfold In at a1; have a2 := h2; unfold In at a2; have a3 := h1; unfold In at a3; have a4 := j126_6; unfold In at a4; have a5 := j126_5; unfold In at a5; have a6 := i164; unfold In at a6; have a7 := t_add e164 j126_4 (in_c 1 rfl) rfl; have a8 := (in_c 1 rfl); unfold In at a8; have a9 := i32; unfold In at a9; have a10 := t_add e161 j32_3 (in_c 1 rfl) rfl; omega) | (intro k hk; have h := g126_2 k hk; have a0 := j126_4; unfold In at a0; have a1 := j32_3; unfold In at a1; have a2 := h2; unfold In at a2; have a3 := h1; unfold In at a3; have a4 := j126_6; unfold In at a4; have a5 := j126_5; unfold In at a5; have a6 := i164; unfold In at a6; have a7 := t_add e164 j126_4 (in_c 1 rfl) rfl; have a8 := (in_c 1 rfl); unfold In at a8; have a9 := i32; unfold In at a9; have a10 := t_add e161 j32_3 (in_c 1 rfl) rfl; omega) | exact fun k hk => (g2_0 k (by have a0 := j126_4; unfold In at a0; have a1 := j32_3; unfold In at a1; have a2 := h2; unfold In at a2; have a3 := h1; unfold In at a3; have a4 := j126_6; unfold In at a4; have a5 := j126_5; unfold In at a5; have a6 := i164; unfold In at a6; have a7 := t_add e164 j126_4 (in_c 1 rfl) rfl; have a8 := (in_c 1 rfl); unfold In at a8; have a9 := i32; unfold In at a9; have a10 := t_add e161 j32_3 (in_c 1 rfl) rfl; omega)).2
            exact gg_w (by omega) (gg_f (gf_cons rfl (gf_cons rfl (gf_cons rfl (gf_cons rfl (gf_cons rfl gf_nil))))) (ih32 sc126 z161 z164 hIc126 hFc126 i32 (in_w 0 32 i164 rfl) n32 n32a n32b n32c (m_up mm32 (t_add e164 j126_4 (in_c 1 rfl) rfl) (in_w 1 1 (in_c 1 rfl) rfl))))
          · skip
            have i133 := z_lt (-2147483648) (-1) c133 (i_rng z132) rfl
            refine g_aload_n 137 (gd rfl) rfl rfl ?_
            refine g_getA (q2 := 158) 140 (gd rfl) rfl rfl rfl rfl ?_
            refine g_iload 142 (gd rfl) rfl rfl ?_
            refine g_iload_n 143 (gd rfl) rfl rfl ?_
            refine g_iastore 144 (gd rfl) rfl (n := 32) rfl (in_ix j126_6 rfl) ?_
            have hI143 := inv_sI (q := 158) (j := y126_6.toNatClampNeg) hIc126 rfl (in_w (-2147483648) 2147483647 j32_3 rfl)
            refine g_aload_n 145 (gd rfl) rfl rfl ?_
            refine g_getA (q2 := 153) 148 (gd rfl) rfl rfl rfl rfl ?_
            refine g_aload_n 149 (gd rfl) rfl rfl ?_
            refine g_getA (q2 := 157) 152 (gd rfl) rfl rfl rfl rfl ?_
            refine g_iload 154 (gd rfl) rfl rfl ?_
            refine g_iaload 155 (gd rfl) rfl (n := 32) rfl (in_ix j126_6 rfl) (fun z154 e154 => ?_)
            have i154 := inv_I hI143 (n := 32) (t := 0) (-1) 159 rfl (in_ix j126_6 rfl) rfl e154
            have i155 : In z154 0 159 := by have hq := (g126_3 y126_6.toNatClampNeg (by show ((y126_6.toInt.toNat : Nat) : Int) < _; have a0 := j126_4; unfold In at a0; have a1 := j32_3; unfold In at a1; have a2 := h2; unfold In at a2; have a3 := h1; unfold In at a3; have a4 := j126_6; unfold In at a4; have a5 := j126_5; unfold In at a5; omega) g126_4).1; have hne : y126_6.toInt ≠ x2.toInt := (by have e6 : y126_6.toNatClampNeg = y126_6.toInt.toNat := rfl; have a0 := j126_4; unfold In at a0; have a1 := j32_3; unfold In at a1; have a2 := h2; unfold In at a2; have a3 := h1; unfold In at a3; have a4 := j126_6; unfold In at a4; have a5 := j126_5; unfold In at a5; omega); have h := (tp_u (t := (sI sc126 158 y126_6.toNatClampNeg y32_3)) (y := y126_6) (b := z154) (f := y126_6) q_0 (by have a0 := j126_4; unfold In at a0; have a1 := j32_3; unfold In at a1; have a2 := h2; unfold In at a2; have a3 := h1; unfold In at a3; have a4 := j126_6; unfold In at a4; have a5 := j126_5; unfold In at a5; omega) (by have a0 := j126_4; unfold In at a0; have a1 := j32_3; unfold In at a1; have a2 := h2; unfold In at a2; have a3 := h1; unfold In at a3; have a4 := j126_6; unfold In at a4; have a5 := j126_5; unfold In at a5; omega) (by have a0 := j126_4; unfold In at a0; have a1 := j32_3; unfold In at a1; have a2 := h2; unfold In at a2; have a3 := h1; unfold In at a3; have a4 := j126_6; unfold In at a4; have a5 := j126_5; unfold In at a5; omega) e154 ((sI_p rfl).trans (hFc126.1 157 rfl))); exact ⟨h.1, i154.2⟩
            refine g_iaload 156 (gd rfl) rfl (n := 160) rfl (in_ix i155 rfl) (fun z155 e155 => ?_)
            have i155a := inv_I hI143 (n := 160) (t := 0) 0 31 rfl (in_ix i155 rfl) rfl e155
            have hq := g126_3 y126_6.toNatClampNeg (by show ((y126_6.toInt.toNat : Nat) : Int) < _; have a0 := j126_4; unfold In at a0; have a1 := j32_3; unfold In at a1; have a2 := h2; unfold In at a2; have a3 := h1; unfold In at a3; have a4 := j126_6; unfold In at a4; have a5 := j126_5; unfold In at a5; omega) g126_4; have hne : y126_6.toInt ≠ x2.toInt := (by have e6 : y126_6.toNatClampNeg = y126_6.toInt.toNat := rfl; have a0 := j126_4; unfold In at a0; have a1 := j32_3; unfold In at a1; have a2 := h2; unfold In at a2; have a3 := h1; unfold In at a3; have a4 := j126_6; unfold In at a4; have a5 := j126_5; unfold In at a5; omega); have hz88 := ((tp_u (t := (sI sc126 158 y126_6.toNatClampNeg y32_3)) (y := y126_6) (b := z154) (f := z155) q_0 (by have a0 := j126_4; unfold In at a0; have a1 := j32_3; unfold In at a1; have a2 := h2; unfold In at a2; have a3 := h1; unfold In at a3; have a4 := j126_6; unfold In at a4; have a5 := j126_5; unfold In at a5; omega) (by have a0 := j126_4; unfold In at a0; have a1 := j32_3; unfold In at a1; have a2 := h2; unfold In at a2; have a3 := h1; unfold In at a3; have a4 := j126_6; unfold In at a4; have a5 := j126_5; unfold In at a5; omega) (by have a0 := j126_4; unfold In at a0; have a1 := j32_3; unfold In at a1; have a2 := h2; unfold In at a2; have a3 := h1; unfold In at a3; have a4 := j126_6; unfold In at a4; have a5 := j126_5; unfold In at a5; omega) e154 ((sI_p rfl).trans (hFc126.1 157 rfl)))).2 e155 ((sI_p rfl).trans (hFc126.1 153 rfl)); have hz89 : (z155).toInt = (nx s y126_6.toNatClampNeg : Int) := hz88.2 i155a.1; have hy89 := hz88.1; have hx156 := hq.2; have hy156 : z155.toNatClampNeg = nx s y126_6.toNatClampNeg := (by have e6 : z155.toNatClampNeg = z155.toInt.toNat := rfl; omega)
            refine g_istore 158 (gd rfl) rfl (Nat.le_of_ble_eq_true rfl) ?_
            refine g_goto 126 (gd rfl) rfl ?_
            have n126 : (z155).toInt < (x1).toInt := by have a0 := j126_4; unfold In at a0; have a1 := j32_3; unfold In at a1; have a2 := h2; unfold In at a2; have a3 := h1; unfold In at a3; have a4 := j126_6; unfold In at a4; have a5 := j126_5; unfold In at a5; have a6 := i155a; unfold In at a6; omega
            have n126a : 0 ≤ (z155).toInt := by have a0 := j126_4; unfold In at a0; have a1 := j32_3; unfold In at a1; have a2 := h2; unfold In at a2; have a3 := h1; unfold In at a3; have a4 := j126_6; unfold In at a4; have a5 := j126_5; unfold In at a5; have a6 := i155a; unfold In at a6; omega
            have n126b : ((y32_3).toInt + (cM ((sI sc126 158 y126_6.toNatClampNeg y32_3).1 158) (x1).toNatClampNeg : Int) ≤ (x1).toInt ∧ ((sI sc126 158 y126_6.toNatClampNeg y32_3).1 158 (z155).toNatClampNeg).toInt < 0) ∨ (y32_3).toInt + 1 + (cM ((sI sc126 158 y126_6.toNatClampNeg y32_3).1 158) (x1).toNatClampNeg : Int) ≤ (x1).toInt := by first | (right; rw [sI_q]; have hu := up_cm (f := sc126.1 158) (y := y126_6) (b := y32_3) (n := x1.toNatClampNeg) (by rw [← e132]; exact c133) (by have a0 := j126_4; unfold In at a0; have a1 := j32_3; unfold In at a1; have a2 := h2; unfold In at a2; have a3 := h1; unfold In at a3; have a4 := j126_6; unfold In at a4; have a5 := j126_5; unfold In at a5; have a6 := i155a; unfold In at a6; omega) (by show y126_6.toInt.toNat < x1.toInt.toNat; have a0 := j126_4; unfold In at a0; have a1 := j32_3; unfold In at a1; have a2 := h2; unfold In at a2; have a3 := h1; unfold In at a3; have a4 := j126_6; unfold In at a4; have a5 := j126_5; unfold In at a5; have a6 := i155a; unfold In at a6; omega); rcases g126_0 with hg | hg; (have a0 := j126_4; unfold In at a0; have a1 := j32_3; unfold In at a1; have a2 := h2; unfold In at a2; have a3 := h1; unfold In at a3; have a4 := j126_6; unfold In at a4; have a5 := j126_5; unfold In at a5; have a6 := i155a; unfold In at a6; omega); (have a0 := j126_4; unfold In at a0; have a1 := j32_3; unfold In at a1; have a2 := h2; unfold In at a2; have a3 := h1; unfold In at a3; have a4 := j126_6; unfold In at a4; have a5 := j126_5; unfold In at a5; have a6 := i155a; unfold In at a6; omega)) | exact Or.inl ⟨g42_0, by rw [← e106]; exact c107⟩
            have n126c : ∀ k : Nat, (k : Int) < (x1).toInt → ((sI sc126 158 y126_6.toNatClampNeg y32_3).1 158 k).toInt < (y32_3).toInt + 1 := by first | (intro k hk; rw [sI_q]; exact up_lt (fun c => g126_1 k hk) (by have a0 := j126_4; unfold In at a0; have a1 := j32_3; unfold In at a1; have a2 := h2; unfold In at a2; have a3 := h1; unfold In at a3; have a4 := j126_6; unfold In at a4; have a5 := j126_5; unfold In at a5; have a6 := i155a; unfold In at a6; omega)) | (intro k hk; have h := g42_1 k hk; have a0 := j126_4; unfold In at a0; have a1 := j32_3; unfold In at a1; have a2 := h2; unfold In at a2; have a3 := h1; unfold In at a3; have a4 := j126_6; unfold In at a4; have a5 := j126_5; unfold In at a5; have a6 := i155a; unfold In at a6; omega)
            have n126d : ∀ k : Nat, (k : Int) < (x1).toInt → ((sI sc126 158 y126_6.toNatClampNeg y32_3).1 159 k).toInt < (y32_4).toInt + 1 := by first | (rw [sI_p rfl]; exact g126_2) | exact g42_2
            have n126e : VD s ((sI sc126 158 y126_6.toNatClampNeg y32_3).1 159) (x1).toInt (x2).toInt (y32_4).toInt := by first | (rw [sI_p rfl]; exact g126_3) | exact vc_e g42_3 (by have a0 := j126_4; unfold In at a0; have a1 := j32_3; unfold In at a1; have a2 := h2; unfold In at a2; have a3 := h1; unfold In at a3; have a4 := j126_6; unfold In at a4; have a5 := j126_5; unfold In at a5; have a6 := i155a; unfold In at a6; omega) (by rw [← e116]; exact c119)
            have n126f : ((sI sc126 158 y126_6.toNatClampNeg y32_3).1 159 (z155).toNatClampNeg).toInt = (y32_4).toInt := by first | (rw [sI_p rfl, hy156]; exact hx156) | (rw [← e116]; exact c119)
            have m126 : cM ((sI sc126 158 y126_6.toNatClampNeg y32_3).1 158) (x1).toNatClampNeg < k126 := by rw [sI_q]; have hu := up_cm (f := sc126.1 158) (y := y126_6) (b := y32_3) (n := x1.toNatClampNeg) (by rw [← e132]; exact c133) (by have a0 := j126_4; unfold In at a0; have a1 := j32_3; unfold In at a1; have a2 := h2; unfold In at a2; have a3 := h1; unfold In at a3; have a4 := j126_6; unfold In at a4; have a5 := j126_5; unfold In at a5; have a6 := i155a; unfold In at a6; omega) (by show y126_6.toInt.toNat < x1.toInt.toNat; have a0 := j126_4; unfold In at a0; have a1 := j32_3; unfold In at a1; have a2 := h2; unfold In at a2; have a3 := h1; unfold In at a3; have a4 := j126_6; unfold In at a4; have a5 := j126_5; unfold In at a5; have a6 := i155a; unfold In at a6; omega); have hm := mm126; omega
            exact gg_w (by omega) (gg_f (gf_cons rfl (gf_cons rfl (gf_cons rfl (gf_cons rfl (gf_cons rfl (gf_cons rfl (gf_cons rfl gf_nil))))))) (ih126  (sI sc126 158 y126_6.toNatClampNeg y32_3) y126_5 z155 hI143 (fr_sI rfl hFc126) (in_w 0 31 j126_4 rfl) (in_w 0 31 j126_5 rfl) (in_w 0 31 i155a rfl) n126 n126a n126b n126c n126d n126e n126f m126))
      have ct42 : ∀ (k42 : Nat) (sc42 : GS) (y42_5 : Int32), Inv sc42 → Fr fm_364 s sc42 → (In y32_4 0 31) → (In y42_5 0 31) → ((y42_5).toInt < (x1).toInt) → (0 ≤ (y42_5).toInt) → ((y32_3).toInt + (cM (sc42.1 158) (x1).toNatClampNeg : Int) ≤ (x1).toInt) → (∀ k : Nat, (k : Int) < (x1).toInt → (sc42.1 158 k).toInt < (y32_3).toInt) → (∀ k : Nat, (k : Int) < (x1).toInt → (sc42.1 159 k).toInt < (y32_4).toInt + 1) → (VC s (sc42.1 159) (x1).toInt (x2).toInt (y32_4).toInt (y42_5).toInt) → cM (sc42.1 159) (x1).toNatClampNeg < k42 → GG Z (d - 1) 364 post (gx xp) (29702 + k32 * 63902 + 29702 + k42 * 900) 42 (fun j => xlook j [(0, .ref (A 109)), (1, .int x1), (2, .int x2), (3, .int y32_3), (4, .int y32_4), (5, .int y42_5)]) [] (WW Z A sc42 ++ ex) 0 0 := by
        intro k42
        induction k42 with
        | zero => intro sc42 y42_5 hIc42 hFc42 j42_4 j42_5 n42_0 n42_1 g42_0 g42_1 g42_2 g42_3 mm42; exact absurd mm42 (Nat.not_lt_zero _)
        | succ k42 ih42 =>
          intro sc42 y42_5 hIc42 hFc42 j42_4 j42_5 n42_0 n42_1 g42_0 g42_1 g42_2 g42_3 mm42
          refine gg_w (M := 29702 + k32 * 63902 + 29702 + k42 * 900 + 900) (by omega) ?_
          refine g_iload 44 (gd rfl) rfl rfl ?_
          refine g_iload_n 45 (gd rfl) rfl rfl ?_
          refine g_cmp_eq 48 94 (gd rfl) rfl rfl (fun c45 => ?_) (fun c45 => ?_)
          · skip
            refine g_iload 96 (gd rfl) rfl rfl ?_
            refine g_iload_n 97 (gd rfl) rfl rfl ?_
            refine g_cmp_eq 100 164 (gd rfl) rfl rfl (fun c97 => ?_) (fun c97 => ?_)
            · skip
              refine g_iinc 167 (gd rfl) rfl rfl (Nat.le_of_ble_eq_true rfl) (fun z164 e164 => ?_)
              have i164 := in_add 1 32 e164 j42_4 (in_c 1 rfl) rfl rfl
              refine g_goto 32 (gd rfl) rfl ?_
              have n32 : 0 ≤ (y32_3).toInt := by have a0 := j42_4; unfold In at a0; have a1 := j32_3; unfold In at a1; have a2 := h2; unfold In at a2; have a3 := h1; unfold In at a3; have a4 := j42_5; unfold In at a4; have a5 := i164; unfold In at a5; have a6 := t_add e164 j42_4 (in_c 1 rfl) rfl; have a7 := (in_c 1 rfl); unfold In at a7; omega
              have n32a : (y32_3).toInt + (cM (sc42.1 158) (x1).toNatClampNeg : Int) ≤ (x1).toInt := by first | exact g42_0 | (rcases g126_0 with hg | hg; (exfalso; rw [← e132] at hg; have hz := c133; omega); have a0 := j42_4; unfold In at a0; have a1 := j32_3; unfold In at a1; have a2 := h2; unfold In at a2; have a3 := h1; unfold In at a3; have a4 := j42_5; unfold In at a4; have a5 := i164; unfold In at a5; have a6 := t_add e164 j42_4 (in_c 1 rfl) rfl; have a7 := (in_c 1 rfl); unfold In at a7; omega) | (have hc := cM_le (sc42.1 158) (x1).toNatClampNeg; have h0 : (Int32.ofInt 0).toInt = 0 := rfl; have hmn : ((x1).toNatClampNeg : Int) = (x1).toInt := (by show (((x1).toInt.toNat : Nat) : Int) = _; have a0 := j42_4; unfold In at a0; have a1 := j32_3; unfold In at a1; have a2 := h2; unfold In at a2; have a3 := h1; unfold In at a3; have a4 := j42_5; unfold In at a4; have a5 := i164; unfold In at a5; have a6 := t_add e164 j42_4 (in_c 1 rfl) rfl; have a7 := (in_c 1 rfl); unfold In at a7; omega); omega)
              have n32b : ∀ k : Nat, (k : Int) < (x1).toInt → (sc42.1 158 k).toInt < (y32_3).toInt := by first | exact g42_1 | (intro k hk; have h := g126_1 k hk; have a0 := j42_4; unfold In at a0; have a1 := j32_3; unfold In at a1; have a2 := h2; unfold In at a2; have a3 := h1; unfold In at a3; have a4 := j42_5; unfold In at a4; have a5 := i164; unfold In at a5; have a6 := t_add e164 j42_4 (in_c 1 rfl) rfl; have a7 := (in_c 1 rfl); unfold In at a7; omega) | exact fun k hk => (g2_0 k (by have a0 := j42_4; unfold In at a0; have a1 := j32_3; unfold In at a1; have a2 := h2; unfold In at a2; have a3 := h1; unfold In at a3; have a4 := j42_5; unfold In at a4; have a5 := i164; unfold In at a5; have a6 := t_add e164 j42_4 (in_c 1 rfl) rfl; have a7 := (in_c 1 rfl); unfold In at a7; omega)).1
              have n32c : ∀ k : Nat, (k : Int) < (x1).toInt → (sc42.1 159 k).toInt < (z164).toInt := by first | (intro k hk; have h := g42_2 k hk; have a0 := j42_4; unfold In at a0; have a1 := j32_3; unfold In at a1; have a2 := h2; unfold In at a2; have a3 := h1; unfold In at a3; have a4 := j42_5; unfold In at a4; have a5 := i164; unfold In at a5; have a6 := t_add e164 j42_4 (in_c 1 rfl) rfl; have a7 := (in_c 1 rfl); unfold In at a7; omega) | (intro k hk; have h := g126_2 k hk; have a0 := j42_4; unfold In at a0; have a1 := j32_3; unfold In at a1; have a2 := h2; unfold In at a2; have a3 := h1; unfold In at a3; have a4 := j42_5; unfold In at a4; have a5 := i164; unfold In at a5; have a6 := t_add e164 j42_4 (in_c 1 rfl) rfl; have a7 := (in_c 1 rfl); unfold In at a7; omega) | exact fun k hk => (g2_0 k (by have a0 := j42_4; unfold In at a0; have a1 := j32_3; unfold In at a1; have a2 := h2; unfold In at a2; have a3 := h1; unfold In at a3; have a4 := j42_5; unfold In at a4; have a5 := i164; unfold In at a5; have a6 := t_add e164 j42_4 (in_c 1 rfl) rfl; have a7 := (in_c 1 rfl); unfold In at a7; omega)).2
              exact gg_w (by omega) (gg_f (gf_cons rfl (gf_cons rfl (gf_cons rfl (gf_cons rfl (gf_cons rfl gf_nil))))) (ih32 sc42 y32_3 z164 hIc42 hFc42 (in_w 0 32 j32_3 rfl) (in_w 0 32 i164 rfl) n32 n32a n32b n32c (m_up mm32 (t_add e164 j42_4 (in_c 1 rfl) rfl) (in_w 1 1 (in_c 1 rfl) rfl))))
            · skip
              refine g_aload_n 101 (gd rfl) rfl rfl ?_
              refine g_getA (q2 := 158) 104 (gd rfl) rfl rfl rfl rfl ?_
              refine g_iload 106 (gd rfl) rfl rfl ?_
              refine g_iaload 107 (gd rfl) rfl (n := 32) rfl (in_ix j42_5 rfl) (fun z106 e106 => ?_)
              refine g_if_ge 110 164 (gd rfl) rfl rfl (fun c107 => ?_) (fun c107 => ?_)
              · skip
                have i107 := z_ge 0 2147483647 c107 (i_rng z106) rfl
                refine g_iinc 167 (gd rfl) rfl rfl (Nat.le_of_ble_eq_true rfl) (fun z164 e164 => ?_)
                have i164 := in_add 1 32 e164 j42_4 (in_c 1 rfl) rfl rfl
                refine g_goto 32 (gd rfl) rfl ?_
                have n32 : 0 ≤ (y32_3).toInt := by have a0 := j42_4; unfold In at a0; have a1 := j32_3; unfold In at a1; have a2 := h2; unfold In at a2; have a3 := h1; unfold In at a3; have a4 := j42_5; unfold In at a4; have a5 := i164; unfold In at a5; have a6 := t_add e164 j42_4 (in_c 1 rfl) rfl; have a7 := (in_c 1 rfl); unfold In at a7; omega
                have n32a : (y32_3).toInt + (cM (sc42.1 158) (x1).toNatClampNeg : Int) ≤ (x1).toInt := by first | exact g42_0 | (rcases g126_0 with hg | hg; (exfalso; rw [← e132] at hg; have hz := c133; omega); have a0 := j42_4; unfold In at a0; have a1 := j32_3; unfold In at a1; have a2 := h2; unfold In at a2; have a3 := h1; unfold In at a3; have a4 := j42_5; unfold In at a4; have a5 := i164; unfold In at a5; have a6 := t_add e164 j42_4 (in_c 1 rfl) rfl; have a7 := (in_c 1 rfl); unfold In at a7; omega) | (have hc := cM_le (sc42.1 158) (x1).toNatClampNeg; have h0 : (Int32.ofInt 0).toInt = 0 := rfl; have hmn : ((x1).toNatClampNeg : Int) = (x1).toInt := (by show (((x1).toInt.toNat : Nat) : Int) = _; have a0 := j42_4; unfold In at a0; have a1 := j32_3; unfold In at a1; have a2 := h2; unfold In at a2; have a3 := h1; unfold In at a3; have a4 := j42_5; unfold In at a4; have a5 := i164; unfold In at a5; have a6 := t_add e164 j42_4 (in_c 1 rfl) rfl; have a7 := (in_c 1 rfl); unfold In at a7; omega); omega)
                have n32b : ∀ k : Nat, (k : Int) < (x1).toInt → (sc42.1 158 k).toInt < (y32_3).toInt := by first | exact g42_1 | (intro k hk; have h := g126_1 k hk; have a0 := j42_4; unfold In at a0; have a1 := j32_3; unfold In at a1; have a2 := h2; unfold In at a2; have a3 := h1; unfold In at a3; have a4 := j42_5; unfold In at a4; have a5 := i164; unfold In at a5; have a6 := t_add e164 j42_4 (in_c 1 rfl) rfl; have a7 := (in_c 1 rfl); unfold In at a7; omega) | exact fun k hk => (g2_0 k (by have a0 := j42_4; unfold In at a0; have a1 := j32_3; unfold In at a1; have a2 := h2; unfold In at a2; have a3 := h1; unfold In at a3; have a4 := j42_5; unfold In at a4; have a5 := i164; unfold In at a5; have a6 := t_add e164 j42_4 (in_c 1 rfl) rfl; have a7 := (in_c 1 rfl); unfold In at a7; omega)).1
                have n32c : ∀ k : Nat, (k : Int) < (x1).toInt → (sc42.1 159 k).toInt < (z164).toInt := by first | (intro k hk; have h := g42_2 k hk; have a0 := j42_4; unfold In at a0; have a1 := j32_3; unfold In at a1; have a2 := h2; unfold In at a2; have a3 := h1; unfold In at a3; have a4 := j42_5; unfold In at a4; have a5 := i164; unfold In at a5; have a6 := t_add e164 j42_4 (in_c 1 rfl) rfl; have a7 := (in_c 1 rfl); unfold In at a7; omega) | (intro k hk; have h := g126_2 k hk; have a0 := j42_4; unfold In at a0; have a1 := j32_3; unfold In at a1; have a2 := h2; unfold In at a2; have a3 := h1; unfold In at a3; have a4 := j42_5; unfold In at a4; have a5 := i164; unfold In at a5; have a6 := t_add e164 j42_4 (in_c 1 rfl) rfl; have a7 := (in_c 1 rfl); unfold In at a7; omega) | exact fun k hk => (g2_0 k (by have a0 := j42_4; unfold In at a0; have a1 := j32_3; unfold In at a1; have a2 := h2; unfold In at a2; have a3 := h1; unfold In at a3; have a4 := j42_5; unfold In at a4; have a5 := i164; unfold In at a5; have a6 := t_add e164 j42_4 (in_c 1 rfl) rfl; have a7 := (in_c 1 rfl); unfold In at a7; omega)).2
                exact gg_w (by omega) (gg_f (gf_cons rfl (gf_cons rfl (gf_cons rfl (gf_cons rfl (gf_cons rfl gf_nil))))) (ih32 sc42 y32_3 z164 hIc42 hFc42 (in_w 0 32 j32_3 rfl) (in_w 0 32 i164 rfl) n32 n32a n32b n32c (m_up mm32 (t_add e164 j42_4 (in_c 1 rfl) rfl) (in_w 1 1 (in_c 1 rfl) rfl))))
              · skip
                have i107 := z_lt (-2147483648) (-1) c107 (i_rng z106) rfl
                refine g_aload_n 111 (gd rfl) rfl rfl ?_
                refine g_getA (q2 := 159) 114 (gd rfl) rfl rfl rfl rfl ?_
                refine g_iload 116 (gd rfl) rfl rfl ?_
                refine g_iaload 117 (gd rfl) rfl (n := 32) rfl (in_ix j42_5 rfl) (fun z116 e116 => ?_)
                refine g_iload 119 (gd rfl) rfl rfl ?_
                refine g_cmp_ne 122 164 (gd rfl) rfl rfl (fun c119 => ?_) (fun c119 => ?_)
                · skip
                  refine g_iinc 167 (gd rfl) rfl rfl (Nat.le_of_ble_eq_true rfl) (fun z164 e164 => ?_)
                  have i164 := in_add 1 32 e164 j42_4 (in_c 1 rfl) rfl rfl
                  refine g_goto 32 (gd rfl) rfl ?_
                  have n32 : 0 ≤ (y32_3).toInt := by have a0 := j42_4; unfold In at a0; have a1 := j32_3; unfold In at a1; have a2 := h2; unfold In at a2; have a3 := h1; unfold In at a3; have a4 := j42_5; unfold In at a4; have a5 := i164; unfold In at a5; have a6 := t_add e164 j42_4 (in_c 1 rfl) rfl; have a7 := (in_c 1 rfl); unfold In at a7; omega
                  have n32a : (y32_3).toInt + (cM (sc42.1 158) (x1).toNatClampNeg : Int) ≤ (x1).toInt := by first | exact g42_0 | (rcases g126_0 with hg | hg; (exfalso; rw [← e132] at hg; have hz := c133; omega); have a0 := j42_4; unfold In at a0; have a1 := j32_3; unfold In at a1; have a2 := h2; unfold In at a2; have a3 := h1; unfold In at a3; have a4 := j42_5; unfold In at a4; have a5 := i164; unfold In at a5; have a6 := t_add e164 j42_4 (in_c 1 rfl) rfl; have a7 := (in_c 1 rfl); unfold In at a7; omega) | (have hc := cM_le (sc42.1 158) (x1).toNatClampNeg; have h0 : (Int32.ofInt 0).toInt = 0 := rfl; have hmn : ((x1).toNatClampNeg : Int) = (x1).toInt := (by show (((x1).toInt.toNat : Nat) : Int) = _; have a0 := j42_4; unfold In at a0; have a1 := j32_3; unfold In at a1; have a2 := h2; unfold In at a2; have a3 := h1; unfold In at a3; have a4 := j42_5; unfold In at a4; have a5 := i164; unfold In at a5; have a6 := t_add e164 j42_4 (in_c 1 rfl) rfl; have a7 := (in_c 1 rfl); unfold In at a7; omega); omega)
                  have n32b : ∀ k : Nat, (k : Int) < (x1).toInt → (sc42.1 158 k).toInt < (y32_3).toInt := by first | exact g42_1 | (intro k hk; have h := g126_1 k hk; have a0 := j42_4; unfold In at a0; have a1 := j32_3; unfold In at a1; have a2 := h2; unfold In at a2; have a3 := h1; unfold In at a3; have a4 := j42_5; unfold In at a4; have a5 := i164; unfold In at a5; have a6 := t_add e164 j42_4 (in_c 1 rfl) rfl; have a7 := (in_c 1 rfl); unfold In at a7; omega) | exact fun k hk => (g2_0 k (by have a0 := j42_4; unfold In at a0; have a1 := j32_3; unfold In at a1; have a2 := h2; unfold In at a2; have a3 := h1; unfold In at a3; have a4 := j42_5; unfold In at a4; have a5 := i164; unfold In at a5; have a6 := t_add e164 j42_4 (in_c 1 rfl) rfl; have a7 := (in_c 1 rfl); unfold In at a7; omega)).1
                  have n32c : ∀ k : Nat, (k : Int) < (x1).toInt → (sc42.1 159 k).toInt < (z164).toInt := by first | (intro k hk; have h := g42_2 k hk; have a0 := j42_4; unfold In at a0; have a1 := j32_3; unfold In at a1; have a2 := h2; unfold In at a2; have a3 := h1; unfold In at a3; have a4 := j42_5; unfold In at a4; have a5 := i164; unfold In at a5; have a6 := t_add e164 j42_4 (in_c 1 rfl) rfl; have a7 := (in_c 1 rfl); unfold In at a7; omega) | (intro k hk; have h := g126_2 k hk; have a0 := j42_4; unfold In at a0; have a1 := j32_3; unfold In at a1; have a2 := h2; unfold In at a2; have a3 := h1; unfold In at a3; have a4 := j42_5; unfold In at a4; have a5 := i164; unfold In at a5; have a6 := t_add e164 j42_4 (in_c 1 rfl) rfl; have a7 := (in_c 1 rfl); unfold In at a7; omega) | exact fun k hk => (g2_0 k (by have a0 := j42_4; unfold In at a0; have a1 := j32_3; unfold In at a1; have a2 := h2; unfold In at a2; have a3 := h1; unfold In at a3; have a4 := j42_5; unfold In at a4; have a5 := i164; unfold In at a5; have a6 := t_add e164 j42_4 (in_c 1 rfl) rfl; have a7 := (in_c 1 rfl); unfold In at a7; omega)).2
                  exact gg_w (by omega) (gg_f (gf_cons rfl (gf_cons rfl (gf_cons rfl (gf_cons rfl (gf_cons rfl gf_nil))))) (ih32 sc42 y32_3 z164 hIc42 hFc42 (in_w 0 32 j32_3 rfl) (in_w 0 32 i164 rfl) n32 n32a n32b n32c (m_up mm32 (t_add e164 j42_4 (in_c 1 rfl) rfl) (in_w 1 1 (in_c 1 rfl) rfl))))
                · skip
                  have i119 := r_eq1 0 31 c119 (i_rng z116) j42_4 rfl
                  refine g_iload 124 (gd rfl) rfl rfl ?_
                  refine g_istore 126 (gd rfl) rfl (Nat.le_of_ble_eq_true rfl) ?_
                  have n126 : (y42_5).toInt < (x1).toInt := by have a0 := j42_4; unfold In at a0; have a1 := j32_3; unfold In at a1; have a2 := h2; unfold In at a2; have a3 := h1; unfold In at a3; have a4 := j42_5; unfold In at a4; omega
                  have n126a : 0 ≤ (y42_5).toInt := by have a0 := j42_4; unfold In at a0; have a1 := j32_3; unfold In at a1; have a2 := h2; unfold In at a2; have a3 := h1; unfold In at a3; have a4 := j42_5; unfold In at a4; omega
                  have n126b : ((y32_3).toInt + (cM (sc42.1 158) (x1).toNatClampNeg : Int) ≤ (x1).toInt ∧ (sc42.1 158 (y42_5).toNatClampNeg).toInt < 0) ∨ (y32_3).toInt + 1 + (cM (sc42.1 158) (x1).toNatClampNeg : Int) ≤ (x1).toInt := by first | (right; rw [sI_q]; have hu := up_cm (f := sc126.1 158) (y := y126_6) (b := y32_3) (n := x1.toNatClampNeg) (by rw [← e132]; exact c133) (by have a0 := j42_4; unfold In at a0; have a1 := j32_3; unfold In at a1; have a2 := h2; unfold In at a2; have a3 := h1; unfold In at a3; have a4 := j42_5; unfold In at a4; omega) (by show y126_6.toInt.toNat < x1.toInt.toNat; have a0 := j42_4; unfold In at a0; have a1 := j32_3; unfold In at a1; have a2 := h2; unfold In at a2; have a3 := h1; unfold In at a3; have a4 := j42_5; unfold In at a4; omega); rcases g126_0 with hg | hg; (have a0 := j42_4; unfold In at a0; have a1 := j32_3; unfold In at a1; have a2 := h2; unfold In at a2; have a3 := h1; unfold In at a3; have a4 := j42_5; unfold In at a4; omega); (have a0 := j42_4; unfold In at a0; have a1 := j32_3; unfold In at a1; have a2 := h2; unfold In at a2; have a3 := h1; unfold In at a3; have a4 := j42_5; unfold In at a4; omega)) | exact Or.inl ⟨g42_0, by rw [← e106]; exact c107⟩
                  have n126c : ∀ k : Nat, (k : Int) < (x1).toInt → (sc42.1 158 k).toInt < (y32_3).toInt + 1 := by first | (intro k hk; rw [sI_q]; exact up_lt (fun c => g126_1 k hk) (by have a0 := j42_4; unfold In at a0; have a1 := j32_3; unfold In at a1; have a2 := h2; unfold In at a2; have a3 := h1; unfold In at a3; have a4 := j42_5; unfold In at a4; omega)) | (intro k hk; have h := g42_1 k hk; have a0 := j42_4; unfold In at a0; have a1 := j32_3; unfold In at a1; have a2 := h2; unfold In at a2; have a3 := h1; unfold In at a3; have a4 := j42_5; unfold In at a4; omega)
                  have n126d : ∀ k : Nat, (k : Int) < (x1).toInt → (sc42.1 159 k).toInt < (y32_4).toInt + 1 := by first | (rw [sI_p rfl]; exact g126_2) | exact g42_2
                  have n126e : VD s (sc42.1 159) (x1).toInt (x2).toInt (y32_4).toInt := by first | (rw [sI_p rfl]; exact g126_3) | exact vc_e g42_3 (by have a0 := j42_4; unfold In at a0; have a1 := j32_3; unfold In at a1; have a2 := h2; unfold In at a2; have a3 := h1; unfold In at a3; have a4 := j42_5; unfold In at a4; omega) (by rw [← e116]; exact c119)
                  have n126f : (sc42.1 159 (y42_5).toNatClampNeg).toInt = (y32_4).toInt := by first | (rw [sI_p rfl, hy156]; exact hx156) | (rw [← e116]; exact c119)
                  have m126 : cM (sc42.1 158) (x1).toNatClampNeg < 33 := by have hc := cM_le (sc42.1 158) (x1).toNatClampNeg; have hmn : x1.toNatClampNeg = x1.toInt.toNat := rfl; have a0 := j42_4; unfold In at a0; have a1 := j32_3; unfold In at a1; have a2 := h2; unfold In at a2; have a3 := h1; unfold In at a3; have a4 := j42_5; unfold In at a4; omega
                  exact gg_w (by omega) (gg_f (gf_cons rfl (gf_cons rfl (gf_cons rfl (gf_cons rfl (gf_cons rfl (gf_cons rfl (gf_cons rfl gf_nil))))))) (ct126 (33) sc42 y42_5 y42_5 hIc42 hFc42 (in_w 0 31 j42_4 rfl) (in_w 0 31 j42_5 rfl) (in_w 0 31 j42_5 rfl) n126 n126a n126b n126c n126d n126e n126f m126))
          · skip
            refine g_aload_n 49 (gd rfl) rfl rfl ?_
            refine g_getA (q2 := 159) 52 (gd rfl) rfl rfl rfl rfl ?_
            refine g_iload 54 (gd rfl) rfl rfl ?_
            refine g_iaload 55 (gd rfl) rfl (n := 32) rfl (in_ix j42_5 rfl) (fun z54 e54 => ?_)
            refine g_if_ge 58 94 (gd rfl) rfl rfl (fun c55 => ?_) (fun c55 => ?_)
            · skip
              have i55 := z_ge 0 2147483647 c55 (i_rng z54) rfl
              refine g_iload 96 (gd rfl) rfl rfl ?_
              refine g_iload_n 97 (gd rfl) rfl rfl ?_
              refine g_cmp_eq 100 164 (gd rfl) rfl rfl (fun c97 => ?_) (fun c97 => ?_)
              · skip
                refine g_iinc 167 (gd rfl) rfl rfl (Nat.le_of_ble_eq_true rfl) (fun z164 e164 => ?_)
                have i164 := in_add 1 32 e164 j42_4 (in_c 1 rfl) rfl rfl
                refine g_goto 32 (gd rfl) rfl ?_
                have n32 : 0 ≤ (y32_3).toInt := by have a0 := j42_4; unfold In at a0; have a1 := j32_3; unfold In at a1; have a2 := h2; unfold In at a2; have a3 := h1; unfold In at a3; have a4 := j42_5; unfold In at a4; have a5 := i164; unfold In at a5; have a6 := t_add e164 j42_4 (in_c 1 rfl) rfl; have a7 := (in_c 1 rfl); unfold In at a7; omega
                have n32a : (y32_3).toInt + (cM (sc42.1 158) (x1).toNatClampNeg : Int) ≤ (x1).toInt := by first | exact g42_0 | (rcases g126_0 with hg | hg; (exfalso; rw [← e132] at hg; have hz := c133; omega); have a0 := j42_4; unfold In at a0; have a1 := j32_3; unfold In at a1; have a2 := h2; unfold In at a2; have a3 := h1; unfold In at a3; have a4 := j42_5; unfold In at a4; have a5 := i164; unfold In at a5; have a6 := t_add e164 j42_4 (in_c 1 rfl) rfl; have a7 := (in_c 1 rfl); unfold In at a7; omega) | (have hc := cM_le (sc42.1 158) (x1).toNatClampNeg; have h0 : (Int32.ofInt 0).toInt = 0 := rfl; have hmn : ((x1).toNatClampNeg : Int) = (x1).toInt := (by show (((x1).toInt.toNat : Nat) : Int) = _; have a0 := j42_4; unfold In at a0; have a1 := j32_3; unfold In at a1; have a2 := h2; unfold In at a2; have a3 := h1; unfold In at a3; have a4 := j42_5; unfold In at a4; have a5 := i164; unfold In at a5; have a6 := t_add e164 j42_4 (in_c 1 rfl) rfl; have a7 := (in_c 1 rfl); unfold In at a7; omega); omega)
                have n32b : ∀ k : Nat, (k : Int) < (x1).toInt → (sc42.1 158 k).toInt < (y32_3).toInt := by first | exact g42_1 | (intro k hk; have h := g126_1 k hk; have a0 := j42_4; unfold In at a0; have a1 := j32_3; unfold In at a1; have a2 := h2; unfold In at a2; have a3 := h1; unfold In at a3; have a4 := j42_5; unfold In at a4; have a5 := i164; unfold In at a5; have a6 := t_add e164 j42_4 (in_c 1 rfl) rfl; have a7 := (in_c 1 rfl); unfold In at a7; omega) | exact fun k hk => (g2_0 k (by have a0 := j42_4; unfold In at a0; have a1 := j32_3; unfold In at a1; have a2 := h2; unfold In at a2; have a3 := h1; unfold In at a3; have a4 := j42_5; unfold In at a4; have a5 := i164; unfold In at a5; have a6 := t_add e164 j42_4 (in_c 1 rfl) rfl; have a7 := (in_c 1 rfl); unfold In at a7; omega)).1
                have n32c : ∀ k : Nat, (k : Int) < (x1).toInt → (sc42.1 159 k).toInt < (z164).toInt := by first | (intro k hk; have h := g42_2 k hk; have a0 := j42_4; unfold In at a0; have a1 := j32_3; unfold In at a1; have a2 := h2; unfold In at a2; have a3 := h1; unfold In at a3; have a4 := j42_5; unfold In at a4; have a5 := i164; unfold In at a5; have a6 := t_add e164 j42_4 (in_c 1 rfl) rfl; have a7 := (in_c 1 rfl); unfold In at a7; omega) | (intro k hk; have h := g126_2 k hk; have a0 := j42_4; unfold In at a0; have a1 := j32_3; unfold In at a1; have a2 := h2; unfold In at a2; have a3 := h1; unfold In at a3; have a4 := j42_5; unfold In at a4; have a5 := i164; unfold In at a5; have a6 := t_add e164 j42_4 (in_c 1 rfl) rfl; have a7 := (in_c 1 rfl); unfold In at a7; omega) | exact fun k hk => (g2_0 k (by have a0 := j42_4; unfold In at a0; have a1 := j32_3; unfold In at a1; have a2 := h2; unfold In at a2; have a3 := h1; unfold In at a3; have a4 := j42_5; unfold In at a4; have a5 := i164; unfold In at a5; have a6 := t_add e164 j42_4 (in_c 1 rfl) rfl; have a7 := (in_c 1 rfl); unfold In at a7; omega)).2
                exact gg_w (by omega) (gg_f (gf_cons rfl (gf_cons rfl (gf_cons rfl (gf_cons rfl (gf_cons rfl gf_nil))))) (ih32 sc42 y32_3 z164 hIc42 hFc42 (in_w 0 32 j32_3 rfl) (in_w 0 32 i164 rfl) n32 n32a n32b n32c (m_up mm32 (t_add e164 j42_4 (in_c 1 rfl) rfl) (in_w 1 1 (in_c 1 rfl) rfl))))
              · skip
                refine g_aload_n 101 (gd rfl) rfl rfl ?_
                refine g_getA (q2 := 158) 104 (gd rfl) rfl rfl rfl rfl ?_
                refine g_iload 106 (gd rfl) rfl rfl ?_
                refine g_iaload 107 (gd rfl) rfl (n := 32) rfl (in_ix j42_5 rfl) (fun z106 e106 => ?_)
                refine g_if_ge 110 164 (gd rfl) rfl rfl (fun c107 => ?_) (fun c107 => ?_)
                · skip
                  have i107 := z_ge 0 2147483647 c107 (i_rng z106) rfl
                  refine g_iinc 167 (gd rfl) rfl rfl (Nat.le_of_ble_eq_true rfl) (fun z164 e164 => ?_)
                  have i164 := in_add 1 32 e164 j42_4 (in_c 1 rfl) rfl rfl
                  refine g_goto 32 (gd rfl) rfl ?_
                  have n32 : 0 ≤ (y32_3).toInt := by have a0 := j42_4; unfold In at a0; have a1 := j32_3; unfold In at a1; have a2 := h2; unfold In at a2; have a3 := h1; unfold In at a3; have a4 := j42_5; unfold In at a4; have a5 := i164; unfold In at a5; have a6 := t_add e164 j42_4 (in_c 1 rfl) rfl; have a7 := (in_c 1 rfl); unfold In at a7; omega
                  have n32a : (y32_3).toInt + (cM (sc42.1 158) (x1).toNatClampNeg : Int) ≤ (x1).toInt := by first | exact g42_0 | (rcases g126_0 with hg | hg; (exfalso; rw [← e132] at hg; have hz := c133; omega); have a0 := j42_4; unfold In at a0; have a1 := j32_3; unfold In at a1; have a2 := h2; unfold In at a2; have a3 := h1; unfold In at a3; have a4 := j42_5; unfold In at a4; have a5 := i164; unfold In at a5; have a6 := t_add e164 j42_4 (in_c 1 rfl) rfl; have a7 := (in_c 1 rfl); unfold In at a7; omega) | (have hc := cM_le (sc42.1 158) (x1).toNatClampNeg; have h0 : (Int32.ofInt 0).toInt = 0 := rfl; have hmn : ((x1).toNatClampNeg : Int) = (x1).toInt := (by show (((x1).toInt.toNat : Nat) : Int) = _; have a0 := j42_4; unfold In at a0; have a1 := j32_3; unfold In at a1; have a2 := h2; unfold In at a2; have a3 := h1; unfold In at a3; have a4 := j42_5; unfold In at a4; have a5 := i164; unfold In at a5; have a6 := t_add e164 j42_4 (in_c 1 rfl) rfl; have a7 := (in_c 1 rfl); unfold In at a7; omega); omega)
                  have n32b : ∀ k : Nat, (k : Int) < (x1).toInt → (sc42.1 158 k).toInt < (y32_3).toInt := by first | exact g42_1 | (intro k hk; have h := g126_1 k hk; have a0 := j42_4; unfold In at a0; have a1 := j32_3; unfold In at a1; have a2 := h2; unfold In at a2; have a3 := h1; unfold In at a3; have a4 := j42_5; unfold In at a4; have a5 := i164; unfold In at a5; have a6 := t_add e164 j42_4 (in_c 1 rfl) rfl; have a7 := (in_c 1 rfl); unfold In at a7; omega) | exact fun k hk => (g2_0 k (by have a0 := j42_4; unfold In at a0; have a1 := j32_3; unfold In at a1; have a2 := h2; unfold In at a2; have a3 := h1; unfold In at a3; have a4 := j42_5; unfold In at a4; have a5 := i164; unfold In at a5; have a6 := t_add e164 j42_4 (in_c 1 rfl) rfl; have a7 := (in_c 1 rfl); unfold In at a7; omega)).1
                  have n32c : ∀ k : Nat, (k : Int) < (x1).toInt → (sc42.1 159 k).toInt < (z164).toInt := by first | (intro k hk; have h := g42_2 k hk; have a0 := j42_4; unfold In at a0; have a1 := j32_3; unfold In at a1; have a2 := h2; unfold In at a2; have a3 := h1; unfold In at a3; have a4 := j42_5; unfold In at a4; have a5 := i164; unfold In at a5; have a6 := t_add e164 j42_4 (in_c 1 rfl) rfl; have a7 := (in_c 1 rfl); unfold In at a7; omega) | (intro k hk; have h := g126_2 k hk; have a0 := j42_4; unfold In at a0; have a1 := j32_3; unfold In at a1; have a2 := h2; unfold In at a2; have a3 := h1; unfold In at a3; have a4 := j42_5; unfold In at a4; have a5 := i164; unfold In at a5; have a6 := t_add e164 j42_4 (in_c 1 rfl) rfl; have a7 := (in_c 1 rfl); unfold In at a7; omega) | exact fun k hk => (g2_0 k (by have a0 := j42_4; unfold In at a0; have a1 := j32_3; unfold In at a1; have a2 := h2; unfold In at a2; have a3 := h1; unfold In at a3; have a4 := j42_5; unfold In at a4; have a5 := i164; unfold In at a5; have a6 := t_add e164 j42_4 (in_c 1 rfl) rfl; have a7 := (in_c 1 rfl); unfold In at a7; omega)).2
                  exact gg_w (by omega) (gg_f (gf_cons rfl (gf_cons rfl (gf_cons rfl (gf_cons rfl (gf_cons rfl gf_nil))))) (ih32 sc42 y32_3 z164 hIc42 hFc42 (in_w 0 32 j32_3 rfl) (in_w 0 32 i164 rfl) n32 n32a n32b n32c (m_up mm32 (t_add e164 j42_4 (in_c 1 rfl) rfl) (in_w 1 1 (in_c 1 rfl) rfl))))
                · skip
                  have i107 := z_lt (-2147483648) (-1) c107 (i_rng z106) rfl
                  refine g_aload_n 111 (gd rfl) rfl rfl ?_
                  refine g_getA (q2 := 159) 114 (gd rfl) rfl rfl rfl rfl ?_
                  refine g_iload 116 (gd rfl) rfl rfl ?_
                  refine g_iaload 117 (gd rfl) rfl (n := 32) rfl (in_ix j42_5 rfl) (fun z116 e116 => ?_)
                  have q116 : z54 = z116 := (e54).trans e116.symm
                  subst q116
                  refine g_iload 119 (gd rfl) rfl rfl ?_
                  refine g_cmp_ne 122 164 (gd rfl) rfl rfl (fun c119 => ?_) (fun c119 => ?_)
                  · skip
                    refine g_iinc 167 (gd rfl) rfl rfl (Nat.le_of_ble_eq_true rfl) (fun z164 e164 => ?_)
                    have i164 := in_add 1 32 e164 j42_4 (in_c 1 rfl) rfl rfl
                    refine g_goto 32 (gd rfl) rfl ?_
                    have n32 : 0 ≤ (y32_3).toInt := by have a0 := j42_4; unfold In at a0; have a1 := j32_3; unfold In at a1; have a2 := h2; unfold In at a2; have a3 := h1; unfold In at a3; have a4 := j42_5; unfold In at a4; have a5 := i164; unfold In at a5; have a6 := t_add e164 j42_4 (in_c 1 rfl) rfl; have a7 := (in_c 1 rfl); unfold In at a7; omega
                    have n32a : (y32_3).toInt + (cM (sc42.1 158) (x1).toNatClampNeg : Int) ≤ (x1).toInt := by first | exact g42_0 | (rcases g126_0 with hg | hg; (exfalso; rw [← e132] at hg; have hz := c133; omega); have a0 := j42_4; unfold In at a0; have a1 := j32_3; unfold In at a1; have a2 := h2; unfold In at a2; have a3 := h1; unfold In at a3; have a4 := j42_5; unfold In at a4; have a5 := i164; unfold In at a5; have a6 := t_add e164 j42_4 (in_c 1 rfl) rfl; have a7 := (in_c 1 rfl); unfold In at a7; omega) | (have hc := cM_le (sc42.1 158) (x1).toNatClampNeg; have h0 : (Int32.ofInt 0).toInt = 0 := rfl; have hmn : ((x1).toNatClampNeg : Int) = (x1).toInt := (by show (((x1).toInt.toNat : Nat) : Int) = _; have a0 := j42_4; unfold In at a0; have a1 := j32_3; unfold In at a1; have a2 := h2; unfold In at a2; have a3 := h1; unfold In at a3; have a4 := j42_5; unfold In at a4; have a5 := i164; unfold In at a5; have a6 := t_add e164 j42_4 (in_c 1 rfl) rfl; have a7 := (in_c 1 rfl); unfold In at a7; omega); omega)
                    have n32b : ∀ k : Nat, (k : Int) < (x1).toInt → (sc42.1 158 k).toInt < (y32_3).toInt := by first | exact g42_1 | (intro k hk; have h := g126_1 k hk; have a0 := j42_4; unfold In at a0; have a1 := j32_3; unfold In at a1; have a2 := h2; unfold In at a2; have a3 := h1; unfold In at a3; have a4 := j42_5; unfold In at a4; have a5 := i164; unfold In at a5; have a6 := t_add e164 j42_4 (in_c 1 rfl) rfl; have a7 := (in_c 1 rfl); unfold In at a7; omega) | exact fun k hk => (g2_0 k (by have a0 := j42_4; unfold In at a0; have a1 := j32_3; unfold In at a1; have a2 := h2; unfold In at a2; have a3 := h1; unfold In at a3; have a4 := j42_5; unfold In at a4; have a5 := i164; unfold In at a5; have a6 := t_add e164 j42_4 (in_c 1 rfl) rfl; have a7 := (in_c 1 rfl); unfold In at a7; omega)).1
                    have n32c : ∀ k : Nat, (k : Int) < (x1).toInt → (sc42.1 159 k).toInt < (z164).toInt := by first | (intro k hk; have h := g42_2 k hk; have a0 := j42_4; unfold In at a0; have a1 := j32_3; unfold In at a1; have a2 := h2; unfold In at a2; have a3 := h1; unfold In at a3; have a4 := j42_5; unfold In at a4; have a5 := i164; unfold In at a5; have a6 := t_add e164 j42_4 (in_c 1 rfl) rfl; have a7 := (in_c 1 rfl); unfold In at a7; omega) | (intro k hk; have h := g126_2 k hk; have a0 := j42_4; unfold In at a0; have a1 := j32_3; unfold In at a1; have a2 := h2; unfold In at a2; have a3 := h1; unfold In at a3; have a4 := j42_5; unfold In at a4; have a5 := i164; unfold In at a5; have a6 := t_add e164 j42_4 (in_c 1 rfl) rfl; have a7 := (in_c 1 rfl); unfold In at a7; omega) | exact fun k hk => (g2_0 k (by have a0 := j42_4; unfold In at a0; have a1 := j32_3; unfold In at a1; have a2 := h2; unfold In at a2; have a3 := h1; unfold In at a3; have a4 := j42_5; unfold In at a4; have a5 := i164; unfold In at a5; have a6 := t_add e164 j42_4 (in_c 1 rfl) rfl; have a7 := (in_c 1 rfl); unfold In at a7; omega)).2
                    exact gg_w (by omega) (gg_f (gf_cons rfl (gf_cons rfl (gf_cons rfl (gf_cons rfl (gf_cons rfl gf_nil))))) (ih32 sc42 y32_3 z164 hIc42 hFc42 (in_w 0 32 j32_3 rfl) (in_w 0 32 i164 rfl) n32 n32a n32b n32c (m_up mm32 (t_add e164 j42_4 (in_c 1 rfl) rfl) (in_w 1 1 (in_c 1 rfl) rfl))))
                  · skip
                    have i119 := r_eq1 0 31 c119 i55 j42_4 rfl
                    refine g_iload 124 (gd rfl) rfl rfl ?_
                    refine g_istore 126 (gd rfl) rfl (Nat.le_of_ble_eq_true rfl) ?_
                    have n126 : (y42_5).toInt < (x1).toInt := by have a0 := j42_4; unfold In at a0; have a1 := j32_3; unfold In at a1; have a2 := h2; unfold In at a2; have a3 := h1; unfold In at a3; have a4 := j42_5; unfold In at a4; omega
                    have n126a : 0 ≤ (y42_5).toInt := by have a0 := j42_4; unfold In at a0; have a1 := j32_3; unfold In at a1; have a2 := h2; unfold In at a2; have a3 := h1; unfold In at a3; have a4 := j42_5; unfold In at a4; omega
                    have n126b : ((y32_3).toInt + (cM (sc42.1 158) (x1).toNatClampNeg : Int) ≤ (x1).toInt ∧ (sc42.1 158 (y42_5).toNatClampNeg).toInt < 0) ∨ (y32_3).toInt + 1 + (cM (sc42.1 158) (x1).toNatClampNeg : Int) ≤ (x1).toInt := by first | (right; rw [sI_q]; have hu := up_cm (f := sc126.1 158) (y := y126_6) (b := y32_3) (n := x1.toNatClampNeg) (by rw [← e132]; exact c133) (by have a0 := j42_4; unfold In at a0; have a1 := j32_3; unfold In at a1; have a2 := h2; unfold In at a2; have a3 := h1; unfold In at a3; have a4 := j42_5; unfold In at a4; omega) (by show y126_6.toInt.toNat < x1.toInt.toNat; have a0 := j42_4; unfold In at a0; have a1 := j32_3; unfold In at a1; have a2 := h2; unfold In at a2; have a3 := h1; unfold In at a3; have a4 := j42_5; unfold In at a4; omega); rcases g126_0 with hg | hg; (have a0 := j42_4; unfold In at a0; have a1 := j32_3; unfold In at a1; have a2 := h2; unfold In at a2; have a3 := h1; unfold In at a3; have a4 := j42_5; unfold In at a4; omega); (have a0 := j42_4; unfold In at a0; have a1 := j32_3; unfold In at a1; have a2 := h2; unfold In at a2; have a3 := h1; unfold In at a3; have a4 := j42_5; unfold In at a4; omega)) | exact Or.inl ⟨g42_0, by rw [← e106]; exact c107⟩
                    have n126c : ∀ k : Nat, (k : Int) < (x1).toInt → (sc42.1 158 k).toInt < (y32_3).toInt + 1 := by first | (intro k hk; rw [sI_q]; exact up_lt (fun c => g126_1 k hk) (by have a0 := j42_4; unfold In at a0; have a1 := j32_3; unfold In at a1; have a2 := h2; unfold In at a2; have a3 := h1; unfold In at a3; have a4 := j42_5; unfold In at a4; omega)) | (intro k hk; have h := g42_1 k hk; have a0 := j42_4; unfold In at a0; have a1 := j32_3; unfold In at a1; have a2 := h2; unfold In at a2; have a3 := h1; unfold In at a3; have a4 := j42_5; unfold In at a4; omega)
                    have n126d : ∀ k : Nat, (k : Int) < (x1).toInt → (sc42.1 159 k).toInt < (y32_4).toInt + 1 := by first | (rw [sI_p rfl]; exact g126_2) | exact g42_2
                    have n126e : VD s (sc42.1 159) (x1).toInt (x2).toInt (y32_4).toInt := by first | (rw [sI_p rfl]; exact g126_3) | exact vc_e g42_3 (by have a0 := j42_4; unfold In at a0; have a1 := j32_3; unfold In at a1; have a2 := h2; unfold In at a2; have a3 := h1; unfold In at a3; have a4 := j42_5; unfold In at a4; omega) (by rw [← e116]; exact c119)
                    have n126f : (sc42.1 159 (y42_5).toNatClampNeg).toInt = (y32_4).toInt := by first | (rw [sI_p rfl, hy156]; exact hx156) | (rw [← e116]; exact c119)
                    have m126 : cM (sc42.1 158) (x1).toNatClampNeg < 33 := by have hc := cM_le (sc42.1 158) (x1).toNatClampNeg; have hmn : x1.toNatClampNeg = x1.toInt.toNat := rfl; have a0 := j42_4; unfold In at a0; have a1 := j32_3; unfold In at a1; have a2 := h2; unfold In at a2; have a3 := h1; unfold In at a3; have a4 := j42_5; unfold In at a4; omega
                    exact gg_w (by omega) (gg_f (gf_cons rfl (gf_cons rfl (gf_cons rfl (gf_cons rfl (gf_cons rfl (gf_cons rfl (gf_cons rfl gf_nil))))))) (ct126 (33) sc42 y42_5 y42_5 hIc42 hFc42 (in_w 0 31 j42_4 rfl) (in_w 0 31 j42_5 rfl) (in_w 0 31 j42_5 rfl) n126 n126a n126b n126c n126d n126e n126f m126))
            · skip
              have i55 := z_lt (-2147483648) (-1) c55 (i_rng z54) rfl
              refine g_aload_n 59 (gd rfl) rfl rfl ?_
              refine g_getA (q2 := 158) 62 (gd rfl) rfl rfl rfl rfl ?_
              refine g_iload 64 (gd rfl) rfl rfl ?_
              refine g_iaload 65 (gd rfl) rfl (n := 32) rfl (in_ix j42_5 rfl) (fun z64 e64 => ?_)
              refine g_if_ge 68 94 (gd rfl) rfl rfl (fun c65 => ?_) (fun c65 => ?_)
              · skip
                have i65 := z_ge 0 2147483647 c65 (i_rng z64) rfl
                refine g_iload 96 (gd rfl) rfl rfl ?_
                refine g_iload_n 97 (gd rfl) rfl rfl ?_
                refine g_cmp_eq 100 164 (gd rfl) rfl rfl (fun c97 => ?_) (fun c97 => ?_)
                · skip
                  refine g_iinc 167 (gd rfl) rfl rfl (Nat.le_of_ble_eq_true rfl) (fun z164 e164 => ?_)
                  have i164 := in_add 1 32 e164 j42_4 (in_c 1 rfl) rfl rfl
                  refine g_goto 32 (gd rfl) rfl ?_
                  have n32 : 0 ≤ (y32_3).toInt := by have a0 := j42_4; unfold In at a0; have a1 := j32_3; unfold In at a1; have a2 := h2; unfold In at a2; have a3 := h1; unfold In at a3; have a4 := j42_5; unfold In at a4; have a5 := i164; unfold In at a5; have a6 := t_add e164 j42_4 (in_c 1 rfl) rfl; have a7 := (in_c 1 rfl); unfold In at a7; omega
                  have n32a : (y32_3).toInt + (cM (sc42.1 158) (x1).toNatClampNeg : Int) ≤ (x1).toInt := by first | exact g42_0 | (rcases g126_0 with hg | hg; (exfalso; rw [← e132] at hg; have hz := c133; omega); have a0 := j42_4; unfold In at a0; have a1 := j32_3; unfold In at a1; have a2 := h2; unfold In at a2; have a3 := h1; unfold In at a3; have a4 := j42_5; unfold In at a4; have a5 := i164; unfold In at a5; have a6 := t_add e164 j42_4 (in_c 1 rfl) rfl; have a7 := (in_c 1 rfl); unfold In at a7; omega) | (have hc := cM_le (sc42.1 158) (x1).toNatClampNeg; have h0 : (Int32.ofInt 0).toInt = 0 := rfl; have hmn : ((x1).toNatClampNeg : Int) = (x1).toInt := (by show (((x1).toInt.toNat : Nat) : Int) = _; have a0 := j42_4; unfold In at a0; have a1 := j32_3; unfold In at a1; have a2 := h2; unfold In at a2; have a3 := h1; unfold In at a3; have a4 := j42_5; unfold In at a4; have a5 := i164; unfold In at a5; have a6 := t_add e164 j42_4 (in_c 1 rfl) rfl; have a7 := (in_c 1 rfl); unfold In at a7; omega); omega)
                  have n32b : ∀ k : Nat, (k : Int) < (x1).toInt → (sc42.1 158 k).toInt < (y32_3).toInt := by first | exact g42_1 | (intro k hk; have h := g126_1 k hk; have a0 := j42_4; unfold In at a0; have a1 := j32_3; unfold In at a1; have a2 := h2; unfold In at a2; have a3 := h1; unfold In at a3; have a4 := j42_5; unfold In at a4; have a5 := i164; unfold In at a5; have a6 := t_add e164 j42_4 (in_c 1 rfl) rfl; have a7 := (in_c 1 rfl); unfold In at a7; omega) | exact fun k hk => (g2_0 k (by have a0 := j42_4; unfold In at a0; have a1 := j32_3; unfold In at a1; have a2 := h2; unfold In at a2; have a3 := h1; unfold In at a3; have a4 := j42_5; unfold In at a4; have a5 := i164; unfold In at a5; have a6 := t_add e164 j42_4 (in_c 1 rfl) rfl; have a7 := (in_c 1 rfl); unfold In at a7; omega)).1
                  have n32c : ∀ k : Nat, (k : Int) < (x1).toInt → (sc42.1 159 k).toInt < (z164).toInt := by first | (intro k hk; have h := g42_2 k hk; have a0 := j42_4; unfold In at a0; have a1 := j32_3; unfold In at a1; have a2 := h2; unfold In at a2; have a3 := h1; unfold In at a3; have a4 := j42_5; unfold In at a4; have a5 := i164; unfold In at a5; have a6 := t_add e164 j42_4 (in_c 1 rfl) rfl; have a7 := (in_c 1 rfl); unfold In at a7; omega) | (intro k hk; have h := g126_2 k hk; have a0 := j42_4; unfold In at a0; have a1 := j32_3; unfold In at a1; have a2 := h2; unfold In at a2; have a3 := h1; unfold In at a3; have a4 := j42_5; unfold In at a4; have a5 := i164; unfold In at a5; have a6 := t_add e164 j42_4 (in_c 1 rfl) rfl; have a7 := (in_c 1 rfl); unfold In at a7; omega) | exact fun k hk => (g2_0 k (by have a0 := j42_4; unfold In at a0; have a1 := j32_3; unfold In at a1; have a2 := h2; unfold In at a2; have a3 := h1; unfold In at a3; have a4 := j42_5; unfold In at a4; have a5 := i164; unfold In at a5; have a6 := t_add e164 j42_4 (in_c 1 rfl) rfl; have a7 := (in_c 1 rfl); unfold In at a7; omega)).2
                  exact gg_w (by omega) (gg_f (gf_cons rfl (gf_cons rfl (gf_cons rfl (gf_cons rfl (gf_cons rfl gf_nil))))) (ih32 sc42 y32_3 z164 hIc42 hFc42 (in_w 0 32 j32_3 rfl) (in_w 0 32 i164 rfl) n32 n32a n32b n32c (m_up mm32 (t_add e164 j42_4 (in_c 1 rfl) rfl) (in_w 1 1 (in_c 1 rfl) rfl))))
                · skip
                  refine g_aload_n 101 (gd rfl) rfl rfl ?_
                  refine g_getA (q2 := 158) 104 (gd rfl) rfl rfl rfl rfl ?_
                  refine g_iload 106 (gd rfl) rfl rfl ?_
                  refine g_iaload 107 (gd rfl) rfl (n := 32) rfl (in_ix j42_5 rfl) (fun z106 e106 => ?_)
                  have q106 : z64 = z106 := (e64).trans e106.symm
                  subst q106
                  refine g_if_ge 110 164 (gd rfl) rfl rfl (fun c107 => ?_) (fun c107 => ?_)
                  · skip
                    refine g_iinc 167 (gd rfl) rfl rfl (Nat.le_of_ble_eq_true rfl) (fun z164 e164 => ?_)
                    have i164 := in_add 1 32 e164 j42_4 (in_c 1 rfl) rfl rfl
                    refine g_goto 32 (gd rfl) rfl ?_
                    have n32 : 0 ≤ (y32_3).toInt := by have a0 := j42_4; unfold In at a0; have a1 := j32_3; unfold In at a1; have a2 := h2; unfold In at a2; have a3 := h1; unfold In at a3; have a4 := j42_5; unfold In at a4; have a5 := i164; unfold In at a5; have a6 := t_add e164 j42_4 (in_c 1 rfl) rfl; have a7 := (in_c 1 rfl); unfold In at a7; omega
                    have n32a : (y32_3).toInt + (cM (sc42.1 158) (x1).toNatClampNeg : Int) ≤ (x1).toInt := by first | exact g42_0 | (rcases g126_0 with hg | hg; (exfalso; rw [← e132] at hg; have hz := c133; omega); have a0 := j42_4; unfold In at a0; have a1 := j32_3; unfold In at a1; have a2 := h2; unfold In at a2; have a3 := h1; unfold In at a3; have a4 := j42_5; unfold In at a4; have a5 := i164; unfold In at a5; have a6 := t_add e164 j42_4 (in_c 1 rfl) rfl; have a7 := (in_c 1 rfl); unfold In at a7; omega) | (have hc := cM_le (sc42.1 158) (x1).toNatClampNeg; have h0 : (Int32.ofInt 0).toInt = 0 := rfl; have hmn : ((x1).toNatClampNeg : Int) = (x1).toInt := (by show (((x1).toInt.toNat : Nat) : Int) = _; have a0 := j42_4; unfold In at a0; have a1 := j32_3; unfold In at a1; have a2 := h2; unfold In at a2; have a3 := h1; unfold In at a3; have a4 := j42_5; unfold In at a4; have a5 := i164; unfold In at a5; have a6 := t_add e164 j42_4 (in_c 1 rfl) rfl; have a7 := (in_c 1 rfl); unfold In at a7; omega); omega)
                    have n32b : ∀ k : Nat, (k : Int) < (x1).toInt → (sc42.1 158 k).toInt < (y32_3).toInt := by first | exact g42_1 | (intro k hk; have h := g126_1 k hk; have a0 := j42_4; unfold In at a0; have a1 := j32_3; unfold In at a1; have a2 := h2; unfold In at a2; have a3 := h1; unfold In at a3; have a4 := j42_5; unfold In at a4; have a5 := i164; unfold In at a5; have a6 := t_add e164 j42_4 (in_c 1 rfl) rfl; have a7 := (in_c 1 rfl); unfold In at a7; omega) | exact fun k hk => (g2_0 k (by have a0 := j42_4; unfold In at a0; have a1 := j32_3; unfold In at a1; have a2 := h2; unfold In at a2; have a3 := h1; unfold In at a3; have a4 := j42_5; unfold In at a4; have a5 := i164; unfold In at a5; have a6 := t_add e164 j42_4 (in_c 1 rfl) rfl; have a7 := (in_c 1 rfl); unfold In at a7; omega)).1
                    have n32c : ∀ k : Nat, (k : Int) < (x1).toInt → (sc42.1 159 k).toInt < (z164).toInt := by first | (intro k hk; have h := g42_2 k hk; have a0 := j42_4; unfold In at a0; have a1 := j32_3; unfold In at a1; have a2 := h2; unfold In at a2; have a3 := h1; unfold In at a3; have a4 := j42_5; unfold In at a4; have a5 := i164; unfold In at a5; have a6 := t_add e164 j42_4 (in_c 1 rfl) rfl; have a7 := (in_c 1 rfl); unfold In at a7; omega) | (intro k hk; have h := g126_2 k hk; have a0 := j42_4; unfold In at a0; have a1 := j32_3; unfold In at a1; have a2 := h2; unfold In at a2; have a3 := h1; unfold In at a3; have a4 := j42_5; unfold In at a4; have a5 := i164; unfold In at a5; have a6 := t_add e164 j42_4 (in_c 1 rfl) rfl; have a7 := (in_c 1 rfl); unfold In at a7; omega) | exact fun k hk => (g2_0 k (by have a0 := j42_4; unfold In at a0; have a1 := j32_3; unfold In at a1; have a2 := h2; unfold In at a2; have a3 := h1; unfold In at a3; have a4 := j42_5; unfold In at a4; have a5 := i164; unfold In at a5; have a6 := t_add e164 j42_4 (in_c 1 rfl) rfl; have a7 := (in_c 1 rfl); unfold In at a7; omega)).2
                    exact gg_w (by omega) (gg_f (gf_cons rfl (gf_cons rfl (gf_cons rfl (gf_cons rfl (gf_cons rfl gf_nil))))) (ih32 sc42 y32_3 z164 hIc42 hFc42 (in_w 0 32 j32_3 rfl) (in_w 0 32 i164 rfl) n32 n32a n32b n32c (m_up mm32 (t_add e164 j42_4 (in_c 1 rfl) rfl) (in_w 1 1 (in_c 1 rfl) rfl))))
                  · skip
                    exact zn_lt c107 i65 rfl
              · skip
                have i65 := z_lt (-2147483648) (-1) c65 (i_rng z64) rfl
                refine g_aload_n 69 (gd rfl) rfl rfl ?_
                refine g_getA (q2 := 159) 72 (gd rfl) rfl rfl rfl rfl ?_
                refine g_iload 74 (gd rfl) rfl rfl ?_
                refine g_iload 76 (gd rfl) rfl rfl ?_
                refine g_iastore 77 (gd rfl) rfl (n := 32) rfl (in_ix j42_5 rfl) ?_
                have hI76 := inv_sI (q := 159) (j := y42_5.toNatClampNeg) hIc42 rfl (in_w (-2147483648) 2147483647 j42_4 rfl)
                refine g_aload_n 78 (gd rfl) rfl rfl ?_
                refine g_getA (q2 := 153) 81 (gd rfl) rfl rfl rfl rfl ?_
                refine g_aload_n 82 (gd rfl) rfl rfl ?_
                refine g_getA (q2 := 157) 85 (gd rfl) rfl rfl rfl rfl ?_
                refine g_iload 87 (gd rfl) rfl rfl ?_
                refine g_iaload 88 (gd rfl) rfl (n := 32) rfl (in_ix j42_5 rfl) (fun z87 e87 => ?_)
                have i87 := inv_I hI76 (n := 32) (t := 0) (-1) 159 rfl (in_ix j42_5 rfl) rfl e87
                have i88 : In z87 0 159 := by have h := (tp_u (t := (sI sc42 159 y42_5.toNatClampNeg y32_4)) (y := y42_5) (b := z87) (f := y42_5) q_0 (by have a0 := j42_4; unfold In at a0; have a1 := j32_3; unfold In at a1; have a2 := h2; unfold In at a2; have a3 := h1; unfold In at a3; have a4 := j42_5; unfold In at a4; omega) (by have a0 := j42_4; unfold In at a0; have a1 := j32_3; unfold In at a1; have a2 := h2; unfold In at a2; have a3 := h1; unfold In at a3; have a4 := j42_5; unfold In at a4; omega) (by have a0 := j42_4; unfold In at a0; have a1 := j32_3; unfold In at a1; have a2 := h2; unfold In at a2; have a3 := h1; unfold In at a3; have a4 := j42_5; unfold In at a4; omega) e87 ((sI_p rfl).trans (hFc42.1 157 rfl))); exact ⟨h.1, i87.2⟩
                refine g_iaload 89 (gd rfl) rfl (n := 160) rfl (in_ix i88 rfl) (fun z88 e88 => ?_)
                have i88a := inv_I hI76 (n := 160) (t := 0) 0 31 rfl (in_ix i88 rfl) rfl e88
                have hx88 := ((tp_u (t := (sI sc42 159 y42_5.toNatClampNeg y32_4)) (y := y42_5) (b := z87) (f := z88) q_0 (by have a0 := j42_4; unfold In at a0; have a1 := j32_3; unfold In at a1; have a2 := h2; unfold In at a2; have a3 := h1; unfold In at a3; have a4 := j42_5; unfold In at a4; omega) (by have a0 := j42_4; unfold In at a0; have a1 := j32_3; unfold In at a1; have a2 := h2; unfold In at a2; have a3 := h1; unfold In at a3; have a4 := j42_5; unfold In at a4; omega) (by have a0 := j42_4; unfold In at a0; have a1 := j32_3; unfold In at a1; have a2 := h2; unfold In at a2; have a3 := h1; unfold In at a3; have a4 := j42_5; unfold In at a4; omega) e87 ((sI_p rfl).trans (hFc42.1 157 rfl)))).2 e88 ((sI_p rfl).trans (hFc42.1 153 rfl)); have hx89 : (z88).toInt = (nx s y42_5.toNatClampNeg : Int) := hx88.2 i88a.1; have hy89 := hx88.1
                refine g_istore 91 (gd rfl) rfl (Nat.le_of_ble_eq_true rfl) ?_
                refine g_goto 42 (gd rfl) rfl ?_
                have n42 : (z88).toInt < (x1).toInt := by have a0 := j42_4; unfold In at a0; have a1 := j32_3; unfold In at a1; have a2 := h2; unfold In at a2; have a3 := h1; unfold In at a3; have a4 := j42_5; unfold In at a4; have a5 := i88a; unfold In at a5; omega
                have n42a : 0 ≤ (z88).toInt := by have a0 := j42_4; unfold In at a0; have a1 := j32_3; unfold In at a1; have a2 := h2; unfold In at a2; have a3 := h1; unfold In at a3; have a4 := j42_5; unfold In at a4; have a5 := i88a; unfold In at a5; omega
                have n42b : (y32_3).toInt + (cM ((sI sc42 159 y42_5.toNatClampNeg y32_4).1 158) (x1).toNatClampNeg : Int) ≤ (x1).toInt := by first | exact g42_0 | exact g32_0
                have n42c : ∀ k : Nat, (k : Int) < (x1).toInt → ((sI sc42 159 y42_5.toNatClampNeg y32_4).1 158 k).toInt < (y32_3).toInt := by first | exact g42_1 | exact g32_1
                have n42d : ∀ k : Nat, (k : Int) < (x1).toInt → ((sI sc42 159 y42_5.toNatClampNeg y32_4).1 159 k).toInt < (y32_4).toInt + 1 := by first | (intro k hk; rw [sI_q]; exact up_lt (fun c => g42_2 k hk) (by have a0 := j42_4; unfold In at a0; have a1 := j32_3; unfold In at a1; have a2 := h2; unfold In at a2; have a3 := h1; unfold In at a3; have a4 := j42_5; unfold In at a4; have a5 := i88a; unfold In at a5; omega)) | (intro k hk; have h := g32_2 k hk; have a0 := j42_4; unfold In at a0; have a1 := j32_3; unfold In at a1; have a2 := h2; unfold In at a2; have a3 := h1; unfold In at a3; have a4 := j42_5; unfold In at a4; have a5 := i88a; unfold In at a5; omega)
                have n42e : VC s ((sI sc42 159 y42_5.toNatClampNeg y32_4).1 159) (x1).toInt (x2).toInt (y32_4).toInt (z88).toInt := by first | (rw [sI_q]; exact vc_s g42_3 (by have a0 := j42_4; unfold In at a0; have a1 := j32_3; unfold In at a1; have a2 := h2; unfold In at a2; have a3 := h1; unfold In at a3; have a4 := j42_5; unfold In at a4; have a5 := i88a; unfold In at a5; omega) (by have a0 := j42_4; unfold In at a0; have a1 := j32_3; unfold In at a1; have a2 := h2; unfold In at a2; have a3 := h1; unfold In at a3; have a4 := j42_5; unfold In at a4; have a5 := i88a; unfold In at a5; omega) rfl hx89) | exact vc_0 g32_2
                have m42 : cM ((sI sc42 159 y42_5.toNatClampNeg y32_4).1 159) (x1).toNatClampNeg < k42 := by rw [sI_q]; have hu := up_cm (f := sc42.1 159) (y := y42_5) (b := y32_4) (n := x1.toNatClampNeg) (by rw [← e54]; exact c55) (by have a0 := j42_4; unfold In at a0; have a1 := j32_3; unfold In at a1; have a2 := h2; unfold In at a2; have a3 := h1; unfold In at a3; have a4 := j42_5; unfold In at a4; have a5 := i88a; unfold In at a5; omega) (by show y42_5.toInt.toNat < x1.toInt.toNat; have a0 := j42_4; unfold In at a0; have a1 := j32_3; unfold In at a1; have a2 := h2; unfold In at a2; have a3 := h1; unfold In at a3; have a4 := j42_5; unfold In at a4; have a5 := i88a; unfold In at a5; omega); have hm := mm42; omega
                exact gg_w (by omega) (gg_f (gf_cons rfl (gf_cons rfl (gf_cons rfl (gf_cons rfl (gf_cons rfl (gf_cons rfl gf_nil)))))) (ih42  (sI sc42 159 y42_5.toNatClampNeg y32_4) z88 hI76 (fr_sI rfl hFc42) (in_w 0 31 j42_4 rfl) (in_w 0 31 i88a rfl) n42 n42a n42b n42c n42d n42e m42))
      refine g_iload 34 (gd rfl) rfl rfl ?_
      refine g_iload_n 35 (gd rfl) rfl rfl ?_
      refine g_cmp_ge 38 170 (gd rfl) rfl rfl (fun c35 => ?_) (fun c35 => ?_)
      · skip
        have i35 := r_le2 1 32 c35 h1 j32_4 rfl
        refine g_iconst 0 171 (gd rfl) rfl rfl ?_
        refine g_istore 173 (gd rfl) rfl (Nat.le_of_ble_eq_true rfl) ?_
        have n173 : 0 ≤ (y32_3).toInt := by have a0 := h2; unfold In at a0; have a1 := h1; unfold In at a1; have a2 := i35; unfold In at a2; have a3 := j32_3; unfold In at a3; have a4 := (in_c 0 rfl); unfold In at a4; omega
        have n173a : (y32_3).toInt + (cM (sc32.1 158) (x1).toNatClampNeg : Int) ≤ (x1).toInt := by first | exact n173q | exact g173_0 | exact g32_0
        have n173b : ∀ k : Nat, (k : Int) < (x1).toInt → (sc32.1 158 k).toInt < (y32_3).toInt := by first | exact g173_1 | exact g32_1 | (intro k hk; rw [sI_q]; exact up_lt (fun c => by have h := g173_1 k hk; have a0 := h2; unfold In at a0; have a1 := h1; unfold In at a1; have a2 := i35; unfold In at a2; have a3 := j32_3; unfold In at a3; have a4 := (in_c 0 rfl); unfold In at a4; omega) (by have a0 := h2; unfold In at a0; have a1 := h1; unfold In at a1; have a2 := i35; unfold In at a2; have a3 := j32_3; unfold In at a3; have a4 := (in_c 0 rfl); unfold In at a4; omega))
        have n173c : ∀ k : Nat, (k : Int) < ((Int32.ofInt 0)).toInt → 0 ≤ (sc32.1 158 k).toInt := by first | (intro k hk; exfalso; have h0 : (Int32.ofInt 0).toInt = 0 := rfl; omega) | (intro k hk; have e4 : y173_4.toNatClampNeg = y173_4.toInt.toNat := rfl; first | (by_cases c : (k : Int) < y173_4.toInt; exact g173_2 k c; (rw [show k = y173_4.toNatClampNeg from (by have a0 := h2; unfold In at a0; have a1 := h1; unfold In at a1; have a2 := i35; unfold In at a2; have a3 := j32_3; unfold In at a3; have a4 := (in_c 0 rfl); unfold In at a4; omega), ← e185]; exact c186)) | (rw [sI_q]; unfold upd; by_cases c : k = y173_4.toNatClampNeg; (rw [if_pos c]; have a0 := h2; unfold In at a0; have a1 := h1; unfold In at a1; have a2 := i35; unfold In at a2; have a3 := j32_3; unfold In at a3; have a4 := (in_c 0 rfl); unfold In at a4; omega); (rw [if_neg c]; exact g173_2 k (by have a0 := h2; unfold In at a0; have a1 := h1; unfold In at a1; have a2 := i35; unfold In at a2; have a3 := j32_3; unfold In at a3; have a4 := (in_c 0 rfl); unfold In at a4; omega))))
        exact gg_w (by omega) (gg_f (gf_cons rfl (gf_cons rfl (gf_cons rfl (gf_cons rfl (gf_cons rfl gf_nil))))) (ct173 33 sc32 y32_3 (Int32.ofInt 0) hIc32 hFc32 (in_w 0 32 j32_3 rfl) (in_w 0 32 (in_c 0 rfl) rfl) n173 n173a n173b n173c (m_in 33 (in_w 0 32 (in_c 0 rfl) rfl) rfl)))
      · skip
        have i35 := r_lt1 0 31 c35 j32_4 h1 rfl
        refine g_iload 40 (gd rfl) rfl rfl ?_
        refine g_istore 42 (gd rfl) rfl (Nat.le_of_ble_eq_true rfl) ?_
        have n42 : (y32_4).toInt < (x1).toInt := by have a0 := h2; unfold In at a0; have a1 := h1; unfold In at a1; have a2 := i35; unfold In at a2; have a3 := j32_3; unfold In at a3; omega
        have n42a : 0 ≤ (y32_4).toInt := by have a0 := h2; unfold In at a0; have a1 := h1; unfold In at a1; have a2 := i35; unfold In at a2; have a3 := j32_3; unfold In at a3; omega
        have n42b : (y32_3).toInt + (cM (sc32.1 158) (x1).toNatClampNeg : Int) ≤ (x1).toInt := by first | exact g42_0 | exact g32_0
        have n42c : ∀ k : Nat, (k : Int) < (x1).toInt → (sc32.1 158 k).toInt < (y32_3).toInt := by first | exact g42_1 | exact g32_1
        have n42d : ∀ k : Nat, (k : Int) < (x1).toInt → (sc32.1 159 k).toInt < (y32_4).toInt + 1 := by first | (intro k hk; rw [sI_q]; exact up_lt (fun c => g42_2 k hk) (by have a0 := h2; unfold In at a0; have a1 := h1; unfold In at a1; have a2 := i35; unfold In at a2; have a3 := j32_3; unfold In at a3; omega)) | (intro k hk; have h := g32_2 k hk; have a0 := h2; unfold In at a0; have a1 := h1; unfold In at a1; have a2 := i35; unfold In at a2; have a3 := j32_3; unfold In at a3; omega)
        have n42e : VC s (sc32.1 159) (x1).toInt (x2).toInt (y32_4).toInt (y32_4).toInt := by first | (rw [sI_q]; exact vc_s g42_3 (by have a0 := h2; unfold In at a0; have a1 := h1; unfold In at a1; have a2 := i35; unfold In at a2; have a3 := j32_3; unfold In at a3; omega) (by have a0 := h2; unfold In at a0; have a1 := h1; unfold In at a1; have a2 := i35; unfold In at a2; have a3 := j32_3; unfold In at a3; omega) rfl hx89) | exact vc_0 g32_2
        have m42 : cM (sc32.1 159) (x1).toNatClampNeg < 33 := by have hc := cM_le (sc32.1 159) (x1).toNatClampNeg; have hmn : x1.toNatClampNeg = x1.toInt.toNat := rfl; have a0 := h2; unfold In at a0; have a1 := h1; unfold In at a1; have a2 := i35; unfold In at a2; have a3 := j32_3; unfold In at a3; omega
        exact gg_w (by omega) (gg_f (gf_cons rfl (gf_cons rfl (gf_cons rfl (gf_cons rfl (gf_cons rfl (gf_cons rfl gf_nil)))))) (ct42 (33) sc32 y32_4 hIc32 hFc32 (in_w 0 31 i35 rfl) (in_w 0 31 i35 rfl) n42 n42a n42b n42c n42d n42e m42))
  have ct2 : ∀ (k2 : Nat) (sc2 : GS) (y2_3 : Int32), Inv sc2 → Fr fm_364 s sc2 → (In y2_3 0 32) → (∀ k : Nat, (k : Int) < (y2_3).toInt → (sc2.1 158 k).toInt < 0 ∧ (sc2.1 159 k).toInt < 0) → 32 - (y2_3).toInt < (k2 : Int) → GG Z (d - 1) 364 post (gx xp) (2138469 + k2 * 900) 2 (fun j => xlook j [(0, .ref (A 109)), (1, .int x1), (2, .int x2), (3, .int y2_3)]) [] (WW Z A sc2 ++ ex) 0 0 := by
    intro k2
    induction k2 with
    | zero => intro sc2 y2_3 hIc2 hFc2 j2_3 g2_0 mm2; exact m_no mm2 j2_3 rfl
    | succ k2 ih2 =>
      intro sc2 y2_3 hIc2 hFc2 j2_3 g2_0 mm2
      refine gg_w (M := 2138469 + k2 * 900 + 900) (by omega) ?_
      refine g_iload_n 3 (gd rfl) rfl rfl ?_
      refine g_iload_n 4 (gd rfl) rfl rfl ?_
      refine g_cmp_ge 7 27 (gd rfl) rfl rfl (fun c4 => ?_) (fun c4 => ?_)
      · skip
        have i4 := r_le2 1 32 c4 h1 j2_3 rfl
        refine g_iconst 0 28 (gd rfl) rfl rfl ?_
        refine g_istore_n 29 (gd rfl) rfl (Nat.le_of_ble_eq_true rfl) ?_
        refine g_iconst 0 30 (gd rfl) rfl rfl ?_
        refine g_istore 32 (gd rfl) rfl (Nat.le_of_ble_eq_true rfl) ?_
        have n32 : 0 ≤ ((Int32.ofInt 0)).toInt := by have a0 := h2; unfold In at a0; have a1 := h1; unfold In at a1; have a2 := i4; unfold In at a2; have a3 := (in_c 0 rfl); unfold In at a3; omega
        have n32a : ((Int32.ofInt 0)).toInt + (cM (sc2.1 158) (x1).toNatClampNeg : Int) ≤ (x1).toInt := by first | exact g42_0 | (rcases g126_0 with hg | hg; (exfalso; rw [← e132] at hg; have hz := c133; omega); have a0 := h2; unfold In at a0; have a1 := h1; unfold In at a1; have a2 := i4; unfold In at a2; have a3 := (in_c 0 rfl); unfold In at a3; omega) | (have hc := cM_le (sc2.1 158) (x1).toNatClampNeg; have h0 : (Int32.ofInt 0).toInt = 0 := rfl; have hmn : ((x1).toNatClampNeg : Int) = (x1).toInt := (by show (((x1).toInt.toNat : Nat) : Int) = _; have a0 := h2; unfold In at a0; have a1 := h1; unfold In at a1; have a2 := i4; unfold In at a2; have a3 := (in_c 0 rfl); unfold In at a3; omega); omega)
        have n32b : ∀ k : Nat, (k : Int) < (x1).toInt → (sc2.1 158 k).toInt < ((Int32.ofInt 0)).toInt := by first | exact g42_1 | (intro k hk; have h := g126_1 k hk; have a0 := h2; unfold In at a0; have a1 := h1; unfold In at a1; have a2 := i4; unfold In at a2; have a3 := (in_c 0 rfl); unfold In at a3; omega) | exact fun k hk => (g2_0 k (by have a0 := h2; unfold In at a0; have a1 := h1; unfold In at a1; have a2 := i4; unfold In at a2; have a3 := (in_c 0 rfl); unfold In at a3; omega)).1
        have n32c : ∀ k : Nat, (k : Int) < (x1).toInt → (sc2.1 159 k).toInt < ((Int32.ofInt 0)).toInt := by first | (intro k hk; have h := g42_2 k hk; have a0 := h2; unfold In at a0; have a1 := h1; unfold In at a1; have a2 := i4; unfold In at a2; have a3 := (in_c 0 rfl); unfold In at a3; omega) | (intro k hk; have h := g126_2 k hk; have a0 := h2; unfold In at a0; have a1 := h1; unfold In at a1; have a2 := i4; unfold In at a2; have a3 := (in_c 0 rfl); unfold In at a3; omega) | exact fun k hk => (g2_0 k (by have a0 := h2; unfold In at a0; have a1 := h1; unfold In at a1; have a2 := i4; unfold In at a2; have a3 := (in_c 0 rfl); unfold In at a3; omega)).2
        exact gg_w (by omega) (gg_f (gf_cons rfl (gf_cons rfl (gf_cons rfl (gf_cons rfl (gf_cons rfl gf_nil))))) (ct32 33 sc2 (Int32.ofInt 0) (Int32.ofInt 0) hIc2 hFc2 (in_w 0 32 (in_c 0 rfl) rfl) (in_w 0 32 (in_c 0 rfl) rfl) n32 n32a n32b n32c (m_in 33 (in_w 0 32 (in_c 0 rfl) rfl) rfl)))
      · skip
        have i4 := r_lt1 0 31 c4 j2_3 h1 rfl
        refine g_aload_n 8 (gd rfl) rfl rfl ?_
        refine g_getA (q2 := 158) 11 (gd rfl) rfl rfl rfl rfl ?_
        refine g_iload_n 12 (gd rfl) rfl rfl ?_
        refine g_iconst (-1) 13 (gd rfl) rfl rfl ?_
        refine g_iastore 14 (gd rfl) rfl (n := 32) rfl (in_ix i4 rfl) ?_
        have hI13 := inv_sI (q := 158) (j := y2_3.toNatClampNeg) hIc2 rfl (in_w (-2147483648) 2147483647 (in_c (-1) rfl) rfl)
        refine g_aload_n 15 (gd rfl) rfl rfl ?_
        refine g_getA (q2 := 159) 18 (gd rfl) rfl rfl rfl rfl ?_
        refine g_iload_n 19 (gd rfl) rfl rfl ?_
        refine g_iconst (-1) 20 (gd rfl) rfl rfl ?_
        refine g_iastore 21 (gd rfl) rfl (n := 32) rfl (in_ix i4 rfl) ?_
        have hI20 := inv_sI (q := 159) (j := y2_3.toNatClampNeg) hI13 rfl (in_w (-2147483648) 2147483647 (in_c (-1) rfl) rfl)
        refine g_iinc 24 (gd rfl) rfl rfl (Nat.le_of_ble_eq_true rfl) (fun z21 e21 => ?_)
        have i21 := in_add 1 32 e21 i4 (in_c 1 rfl) rfl rfl
        refine g_goto 2 (gd rfl) rfl ?_
        have n2 : ∀ k : Nat, (k : Int) < (z21).toInt → ((sI (sI sc2 158 y2_3.toNatClampNeg (Int32.ofInt (-1))) 159 y2_3.toNatClampNeg (Int32.ofInt (-1))).1 158 k).toInt < 0 ∧ ((sI (sI sc2 158 y2_3.toNatClampNeg (Int32.ofInt (-1))) 159 y2_3.toNatClampNeg (Int32.ofInt (-1))).1 159 k).toInt < 0 := by first | (intro k hk; exfalso; have h0 : (Int32.ofInt 0).toInt = 0 := rfl; omega) | (intro k hk; rw [sI_q, sI_p rfl, sI_q]; have e3 : y2_3.toNatClampNeg = y2_3.toInt.toNat := rfl; exact ⟨up_lt (fun c => (g2_0 k (by have a0 := h2; unfold In at a0; have a1 := h1; unfold In at a1; have a2 := i4; unfold In at a2; have a3 := i21; unfold In at a3; have a4 := t_add e21 i4 (in_c 1 rfl) rfl; have a5 := (in_c 1 rfl); unfold In at a5; omega)).1) (by decide), up_lt (fun c => (g2_0 k (by have a0 := h2; unfold In at a0; have a1 := h1; unfold In at a1; have a2 := i4; unfold In at a2; have a3 := i21; unfold In at a3; have a4 := t_add e21 i4 (in_c 1 rfl) rfl; have a5 := (in_c 1 rfl); unfold In at a5; omega)).2) (by decide)⟩)
        exact gg_w (by omega) (gg_f (gf_cons rfl (gf_cons rfl (gf_cons rfl (gf_cons rfl gf_nil)))) (ih2 (sI (sI sc2 158 y2_3.toNatClampNeg (Int32.ofInt (-1))) 159 y2_3.toNatClampNeg (Int32.ofInt (-1))) z21 hI20 (fr_sI rfl (fr_sI rfl hFc2)) (in_w 0 32 i21 rfl) n2 (m_up mm2 (t_add e21 i4 (in_c 1 rfl) rfl) (in_w 1 1 (in_c 1 rfl) rfl))))
  refine g_enter2 (k := 364) (N := 2169069) (by omega) rfl (Nat.le_of_ble_eq_true rfl) ?_
  refine g_iconst 0 1 (gd rfl) rfl rfl ?_
  refine g_istore_n 2 (gd rfl) rfl (Nat.le_of_ble_eq_true rfl) ?_
  have n2 : ∀ k : Nat, (k : Int) < ((Int32.ofInt 0)).toInt → (s.1 158 k).toInt < 0 ∧ (s.1 159 k).toInt < 0 := by first | (intro k hk; exfalso; have h0 : (Int32.ofInt 0).toInt = 0 := rfl; omega) | (intro k hk; rw [sI_q, sI_p rfl, sI_q]; have e3 : y2_3.toNatClampNeg = y2_3.toInt.toNat := rfl; exact ⟨up_lt (fun c => (g2_0 k (by have a0 := h2; unfold In at a0; have a1 := h1; unfold In at a1; have a2 := (in_c 0 rfl); unfold In at a2; omega)).1) (by decide), up_lt (fun c => (g2_0 k (by have a0 := h2; unfold In at a0; have a1 := h1; unfold In at a1; have a2 := (in_c 0 rfl); unfold In at a2; omega)).2) (by decide)⟩)
  exact gg_w (by omega) (gg_f (gf_cons rfl (gf_cons rfl (gf_cons rfl (gf_cons rfl gf_nil)))) (ct2 33 s (Int32.ofInt 0) hI fr_rf (in_w 0 32 (in_c 0 rfl) rfl) n2 (m_in 33 (in_w 0 32 (in_c 0 rfl) rfl) rfl)))

def fm_352 : FM := ([132, 148], [147], [], [])
/-- GraphHouseModel.most -/
theorem k_352 {Z : AmZ} {A : Nat → Nat} {s : GS} {ex : va_W} {d : Nat} {X : AmX} {x1 : Int32} {x2 : Int32} (hd : 2 ≤ d) (hI : Inv s) (h1 : In x1 0 31) (h2 : In x2 0 31) (q_0 : (x2).toInt < (s.2.2.1 109 20).toInt ∧ (x1).toInt ≠ (x2).toInt) : GC Z d 352 [.ref (A 109), .int x1, .int x2] (WW Z A s ++ ex) 0 0 (fun v u => ∃ t : GS, Inv t ∧ Fr fm_352 s t ∧ ∃ z : Int64, v = some (.long z) ∧ u = WW Z A t ++ ex) X := by
  intro post xp hP hX
  have ct29 : ∀ (k29 : Nat) (sc29 : GS) (y29_3 : Int64), Inv sc29 → Fr fm_352 s sc29 → (SR sc29 (x1).toInt) → (FB sc29 (sc29.2.1 147)) → (RS sc29 (x1).toInt (sc29.2.1 147) 160).toNat < k29 → GG Z (d - 1) 352 post (gx xp) (1 + k29 * 62102) 29 (fun j => xlook j [(0, .ref (A 109)), (1, .int x1), (2, .int x2), (3, .long y29_3)]) [] (WW Z A sc29 ++ ex) 0 0 := by
    intro k29
    induction k29 with
    | zero => intro sc29 y29_3 hIc29 hFc29 g29_0 g29_1 mm29; exact absurd mm29 (Nat.not_lt_zero _)
    | succ k29 ih29 =>
      intro sc29 y29_3 hIc29 hFc29 g29_0 g29_1 mm29
      refine gg_w (M := 1 + k29 * 62102 + 62102) (by omega) ?_
      have ct91 : ∀ (k91 : Nat) (sc91 : GS) (y91_5 : Int64) (y91_7 : Int32), Inv sc91 → Fr fm_352 s sc91 → (In y91_7 0 31) → (sc91.1 = sc29.1 ∧ sc91.2.2.1 = sc29.2.2.1) → (PBW sc29 (x1).toInt (y91_5).toInt (x2).toNatClampNeg (sc91.2.1 147) (y91_7).toNatClampNeg) → (1 ≤ (y91_5).toInt ∧ (y91_5).toInt ≤ 1000000000) → rkf sc29 (x1).toInt (y91_7).toNatClampNeg < k91 → GG Z (d - 1) 352 post (gx xp) (1 + k29 * 62102 + 1 + k91 * 900) 91 (fun j => xlook j [(0, .ref (A 109)), (1, .int x1), (2, .int x2), (3, .long y29_3), (5, .long y91_5), (7, .int y91_7)]) [] (WW Z A sc91 ++ ex) 0 0 := by
        intro k91
        induction k91 with
        | zero => intro sc91 y91_5 y91_7 hIc91 hFc91 j91_7 g91_0 g91_1 g91_2 mm91; exact absurd mm91 (Nat.not_lt_zero _)
        | succ k91 ih91 =>
          intro sc91 y91_5 y91_7 hIc91 hFc91 j91_7 g91_0 g91_1 g91_2 mm91
          refine gg_w (M := 1 + k29 * 62102 + 1 + k91 * 900 + 900) (by omega) ?_
          refine g_iload 93 (gd rfl) rfl rfl ?_
          refine g_iload_n 94 (gd rfl) rfl rfl ?_
          refine g_cmp_eq 97 120 (gd rfl) rfl rfl (fun c94 => ?_) (fun c94 => ?_)
          · skip
            refine g_lload_n 121 (gd rfl) rfl rfl ?_
            refine g_lload 123 (gd rfl) rfl rfl ?_
            refine g_ladd 124 (gd rfl) rfl (fun z123 e123 => ?_)
            refine g_lstore_n 125 (gd rfl) rfl (Nat.le_of_ble_eq_true rfl) ?_
            refine g_aload_n 126 (gd rfl) rfl rfl ?_
            refine g_iload_n 127 (gd rfl) rfl rfl ?_
            refine g_callv (X := _) (As := [.int x1]) (r := []) (b := A 109) (q := 109) 130 (gd rfl) rfl rfl rfl rfl rfl (ww_o rfl) (Nat.le_of_ble_eq_true rfl) (Nat.zero_le _) (Nat.zero_le _) (k_348 (by omega) hIc91 (in_w 0 31 h1 rfl)) (fun e u h => h) (fun v u h => ?_)
            obtain ⟨s127, hI127, hF127, rfl, rfl, p127⟩ := h
            show GG _ _ _ _ _ _ _ _ [] _ _ _
            refine g_goto 29 (gd rfl) rfl ?_
            have n29 : SR s127 (x1).toInt := by first | exact p26 | exact p127
            have n29a : FB s127 (s127.2.1 147) := by first | exact (ms_e hIc29 g91_0.1 g91_0.2 g91_1 (by show ((y91_7.toInt.toNat : Nat) : Int) = _; have a0 := h2; unfold In at a0; have a1 := h1; unfold In at a1; have a2 := j91_7; unfold In at a2; omega) g91_2.1 (hF127.2.1 147 rfl) (hF127.1 112 rfl) (hF127.1 113 rfl) (hF127.1 114 rfl) (hF127.1 116 rfl) (hF127.2.2.1 109 19 rfl) mm29).1 | (intro a ha ht; rw [hF26.2.1 147 rfl]; have h0 := g2_0 a (by have a0 := h2; unfold In at a0; have a1 := h1; unfold In at a1; have a2 := j91_7; unfold In at a2; omega); have hr := (arc_n hI127 ha ht).2.2.1; omega)
            have m29 : (RS s127 (x1).toInt (s127.2.1 147) 160).toNat < k29 := by exact (ms_e hIc29 g91_0.1 g91_0.2 g91_1 (by show ((y91_7.toInt.toNat : Nat) : Int) = _; have a0 := h2; unfold In at a0; have a1 := h1; unfold In at a1; have a2 := j91_7; unfold In at a2; omega) g91_2.1 (hF127.2.1 147 rfl) (hF127.1 112 rfl) (hF127.1 113 rfl) (hF127.1 114 rfl) (hF127.1 116 rfl) (hF127.2.2.1 109 19 rfl) mm29).2
            exact gg_w (by omega) (gg_f (gf_cons rfl (gf_cons rfl (gf_cons rfl (gf_cons rfl gf_nil)))) (ih29  s127 z123 hI127 (fr_tr rfl hFc91 hF127) n29 n29a m29))
          · skip
            have hx91 : ((y91_7.toNatClampNeg : Nat) : Int) ≠ x1.toInt := (by show ((y91_7.toInt.toNat : Nat) : Int) ≠ _; have a0 := h2; unfold In at a0; have a1 := h1; unfold In at a1; have a2 := j91_7; unfold In at a2; omega)
            have hev := ev_bf hIc29 (rkf_ok g29_0) (pbw_nd g91_1 hx91) hx91
            refine g_aload_n 98 (gd rfl) rfl rfl ?_
            refine g_iload 100 (gd rfl) rfl rfl ?_
            have p100 : BE sc91 (y91_7).toNatClampNeg := by exact be_cg g91_0.1 hev.1
            refine g_callv (X := _) (As := [.int y91_7]) (r := []) (b := A 109) (q := 109) 103 (gd rfl) rfl rfl rfl rfl rfl (ww_o rfl) (Nat.le_of_ble_eq_true rfl) (Nat.zero_le _) (Nat.zero_le _) (k_349 (by omega) hIc91 (in_w 0 31 j91_7 rfl) p100) (fun e u h => h) (fun v u h => ?_)
            obtain ⟨z100, rfl, rfl, i100, p100a⟩ := h
            show GG _ _ _ _ _ _ _ _ [.int z100] _ _ _
            refine g_istore 105 (gd rfl) rfl (Nat.le_of_ble_eq_true rfl) ?_
            refine g_aload_n 106 (gd rfl) rfl rfl ?_
            refine g_iload 108 (gd rfl) rfl rfl ?_
            refine g_lload 110 (gd rfl) rfl rfl ?_
            have p110 : BE sc91 (y91_7).toNatClampNeg := by exact be_cg g91_0.1 hev.1
            refine g_callv (X := _) (As := [.int y91_7, .long y91_5]) (r := []) (b := A 109) (q := 109) 113 (gd rfl) rfl rfl rfl rfl rfl (ww_o rfl) (Nat.le_of_ble_eq_true rfl) (Nat.zero_le _) (Nat.zero_le _) (k_351 (by omega) hIc91 (in_w 0 31 j91_7 rfl) p110) (fun e u h => h) (fun v u h => ?_)
            obtain ⟨s110, hI110, hF110, rfl, rfl, p110a⟩ := h
            show GG _ _ _ _ _ _ _ _ [] _ _ _
            refine g_iload 115 (gd rfl) rfl rfl ?_
            refine g_istore 117 (gd rfl) rfl (Nat.le_of_ble_eq_true rfl) ?_
            refine g_goto 91 (gd rfl) rfl ?_
            have n91 : s110.1 = sc29.1 ∧ s110.2.2.1 = sc29.2.2.1 := by first | exact ⟨(funext fun q => hF110.1 q rfl).trans g91_0.1, (funext fun q => funext fun k => hF110.2.2.1 q k rfl).trans g91_0.2⟩ | (rw [g46_0]; exact ⟨rfl, rfl⟩)
            have n91a : PBW sc29 (x1).toInt (y91_5).toInt (x2).toNatClampNeg (s110.2.1 147) (z100).toNatClampNeg := by first | exact pbw_pu hIc29 g29_0 g91_0.1 g91_0.2 g91_1 hx91 g91_2.1 g91_2.2 p110a p100a | (obtain ⟨k, hk1, hk2⟩ := g46_1; rw [g46_0]; exact pbw_0 hk2 hk1 (by show ((y46_7.toInt.toNat : Nat) : Int) = _; have a0 := h2; unfold In at a0; have a1 := h1; unfold In at a1; have a2 := j91_7; unfold In at a2; have a3 := i100; unfold In at a3; omega) (by show ((x2.toInt.toNat : Nat) : Int) ≠ _; have hq := q_0; have a0 := h2; unfold In at a0; have a1 := h1; unfold In at a1; have a2 := j91_7; unfold In at a2; have a3 := i100; unfold In at a3; omega) g29_1)
            have n91b : 1 ≤ (y91_5).toInt ∧ (y91_5).toInt ≤ 1000000000 := by first | exact g91_2 | exact g46_3
            have m91 : rkf sc29 (x1).toInt (z100).toNatClampNeg < k91 := by rw [p100a, bf_cg g91_0.1 g91_0.2]; have hl := hev.2.2.1; have hm := mm91; omega
            exact gg_w (by omega) (gg_f (gf_cons rfl (gf_cons rfl (gf_cons rfl (gf_cons rfl (gf_cons rfl (gf_cons rfl gf_nil)))))) (ih91  s110 y91_5 z100 hI110 (fr_tr rfl hFc91 hF110) (in_w 0 31 i100 rfl) n91 n91a n91b m91))
      have ct46 : ∀ (k46 : Nat) (sc46 : GS) (y46_5 : Int64) (y46_7 : Int32), Inv sc46 → Fr fm_352 s sc46 → (In y46_7 0 31) → (sc46 = sc29) → (∃ k, (y46_7).toNatClampNeg = it sc29 (x2).toNatClampNeg k ∧ WY sc29 (x1).toInt (y46_5).toInt (x2).toNatClampNeg k) → (ND sc29 (y46_7).toNatClampNeg) → (1 ≤ (y46_5).toInt ∧ (y46_5).toInt ≤ 1000000000) → rkf sc29 (x1).toInt (y46_7).toNatClampNeg < k46 → GG Z (d - 1) 352 post (gx xp) (1 + k29 * 62102 + 28802 + k46 * 900) 46 (fun j => xlook j [(0, .ref (A 109)), (1, .int x1), (2, .int x2), (3, .long y29_3), (5, .long y46_5), (7, .int y46_7)]) [] (WW Z A sc46 ++ ex) 0 0 := by
        intro k46
        induction k46 with
        | zero => intro sc46 y46_5 y46_7 hIc46 hFc46 j46_7 g46_0 g46_1 g46_2 g46_3 mm46; exact absurd mm46 (Nat.not_lt_zero _)
        | succ k46 ih46 =>
          intro sc46 y46_5 y46_7 hIc46 hFc46 j46_7 g46_0 g46_1 g46_2 g46_3 mm46
          refine gg_w (M := 1 + k29 * 62102 + 28802 + k46 * 900 + 900) (by omega) ?_
          refine g_iload 48 (gd rfl) rfl rfl ?_
          refine g_iload_n 49 (gd rfl) rfl rfl ?_
          refine g_cmp_eq 52 88 (gd rfl) rfl rfl (fun c49 => ?_) (fun c49 => ?_)
          · skip
            refine g_iload_n 89 (gd rfl) rfl rfl ?_
            refine g_istore 91 (gd rfl) rfl (Nat.le_of_ble_eq_true rfl) ?_
            have n91 : sc46.1 = sc29.1 ∧ sc46.2.2.1 = sc29.2.2.1 := by first | exact ⟨(funext fun q => hF110.1 q rfl).trans g91_0.1, (funext fun q => funext fun k => hF110.2.2.1 q k rfl).trans g91_0.2⟩ | (rw [g46_0]; exact ⟨rfl, rfl⟩)
            have n91a : PBW sc29 (x1).toInt (y46_5).toInt (x2).toNatClampNeg (sc46.2.1 147) (x2).toNatClampNeg := by first | exact pbw_pu hIc29 g29_0 g91_0.1 g91_0.2 g91_1 hx91 g91_2.1 g91_2.2 p110a p100a | (obtain ⟨k, hk1, hk2⟩ := g46_1; rw [g46_0]; exact pbw_0 hk2 hk1 (by show ((y46_7.toInt.toNat : Nat) : Int) = _; have a0 := h2; unfold In at a0; have a1 := h1; unfold In at a1; have a2 := j46_7; unfold In at a2; omega) (by show ((x2.toInt.toNat : Nat) : Int) ≠ _; have hq := q_0; have a0 := h2; unfold In at a0; have a1 := h1; unfold In at a1; have a2 := j46_7; unfold In at a2; omega) g29_1)
            have n91b : 1 ≤ (y46_5).toInt ∧ (y46_5).toInt ≤ 1000000000 := by first | exact g91_2 | exact g46_3
            have m91 : rkf sc29 (x1).toInt (x2).toNatClampNeg < 32 := by have hnd := pbw_nd n91a (by show ((x2.toInt.toNat : Nat) : Int) ≠ _; have hq := q_0; have a0 := h2; unfold In at a0; have a1 := h1; unfold In at a1; have a2 := j46_7; unfold In at a2; omega); exact (rkf_ok g29_0).1 _ hnd.1 hnd.2.2
            exact gg_w (by omega) (gg_f (gf_cons rfl (gf_cons rfl (gf_cons rfl (gf_cons rfl (gf_cons rfl (gf_cons rfl gf_nil)))))) (ct91 (32) sc46 y46_5 x2 hIc46 hFc46 (in_w 0 31 h2 rfl) n91 n91a n91b m91))
          · skip
            have hx46 : ((y46_7.toNatClampNeg : Nat) : Int) ≠ x1.toInt := (by show ((y46_7.toInt.toNat : Nat) : Int) ≠ _; have a0 := h2; unfold In at a0; have a1 := h1; unfold In at a1; have a2 := j46_7; unfold In at a2; omega)
            have hev := ev_bf hIc29 (rkf_ok g29_0) g46_2 hx46
            have hfo := fb_fo hIc29 g29_1 hev.2.2.2.2.1 hev.2.2.2.2.2.1
            refine g_aload_n 53 (gd rfl) rfl rfl ?_
            refine g_iload 55 (gd rfl) rfl rfl ?_
            have p55 : BE sc46 (y46_7).toNatClampNeg := by rw [g46_0]; exact hev.1
            refine g_callv (X := _) (As := [.int y46_7]) (r := []) (b := A 109) (q := 109) 58 (gd rfl) rfl rfl rfl rfl rfl (ww_o rfl) (Nat.le_of_ble_eq_true rfl) (Nat.zero_le _) (Nat.zero_le _) (k_350 (by omega) hIc46 (in_w 0 31 j46_7 rfl) p55) (fun e u h => h) (fun v u h => ?_)
            obtain ⟨z55, rfl, rfl, p55a⟩ := h
            show GG _ _ _ _ _ _ _ _ [.long z55] _ _ _
            have hz55 : z55.toInt = rm sc29 y46_7.toNatClampNeg := (by have h := p55a; rw [g46_0] at h; exact h hfo)
            refine g_lload 60 (gd rfl) rfl rfl ?_
            refine g_lcmp 61 (gd rfl) rfl (fun z60 e60 => ?_)
            have i60 := lc_in e60
            refine g_if_ge 64 73 (gd rfl) rfl rfl (fun c61 => ?_) (fun c61 => ?_)
            · skip
              have i61 := z_ge 0 1 c61 i60 rfl
              have c61a := lc_ge e60 c61
              refine g_lload 75 (gd rfl) rfl rfl ?_
              refine g_lstore 77 (gd rfl) rfl (Nat.le_of_ble_eq_true rfl) ?_
              refine g_aload_n 78 (gd rfl) rfl rfl ?_
              refine g_iload 80 (gd rfl) rfl rfl ?_
              have p80 : BE sc46 (y46_7).toNatClampNeg := by rw [g46_0]; exact hev.1
              refine g_callv (X := _) (As := [.int y46_7]) (r := []) (b := A 109) (q := 109) 83 (gd rfl) rfl rfl rfl rfl rfl (ww_o rfl) (Nat.le_of_ble_eq_true rfl) (Nat.zero_le _) (Nat.zero_le _) (k_349 (by omega) hIc46 (in_w 0 31 j46_7 rfl) p80) (fun e u h => h) (fun v u h => ?_)
              obtain ⟨z80, rfl, rfl, i80, p80a⟩ := h
              show GG _ _ _ _ _ _ _ _ [.int z80] _ _ _
              refine g_istore 85 (gd rfl) rfl (Nat.le_of_ble_eq_true rfl) ?_
              refine g_goto 46 (gd rfl) rfl ?_
              have n46 : sc46 = sc29 := by first | exact g46_0 | rfl
              have n46a : ∃ k, (z80).toNatClampNeg = it sc29 (x2).toNatClampNeg k ∧ WY sc29 (x1).toInt (y46_5).toInt (x2).toNatClampNeg k := by first | (obtain ⟨k, hk1, hk2⟩ := g46_1; exact ⟨k + 1, by rw [p80a, g46_0, hk1]; rfl, wy_s hk2 (by rw [← hk1]; exact hx46) (by rw [← hk1]; exact g46_2) (by omega) (by rw [← hk1]; omega)⟩) | exact ⟨0, rfl, fun j hj => absurd hj (Nat.not_lt_zero _)⟩
              have n46b : ND sc29 (z80).toNatClampNeg := by first | (rw [p80a, g46_0]; exact hev.2.1) | exact ⟨by show x2.toInt.toNat < 32; have a0 := h2; unfold In at a0; have a1 := h1; unfold In at a1; have a2 := j46_7; unfold In at a2; have a3 := i80; unfold In at a3; omega, by show ((x2.toInt.toNat : Nat) : Int) < _; rw [hFc29.2.2.1 109 20 rfl]; have hq := q_0; have a0 := h2; unfold In at a0; have a1 := h1; unfold In at a1; have a2 := j46_7; unfold In at a2; have a3 := i80; unfold In at a3; omega, by rw [← e34]; have a0 := h2; unfold In at a0; have a1 := h1; unfold In at a1; have a2 := j46_7; unfold In at a2; have a3 := i80; unfold In at a3; omega⟩
              have n46c : 1 ≤ (y46_5).toInt ∧ (y46_5).toInt ≤ 1000000000 := by first | exact ⟨by decide, by decide⟩ | (have hr1 := hev.2.2.2.1; have hq := g46_3; exact ⟨by omega, by omega⟩)
              have m46 : rkf sc29 (x1).toInt (z80).toNatClampNeg < k46 := by rw [p80a, g46_0]; have hl := hev.2.2.1; have hm := mm46; omega
              exact gg_w (by omega) (gg_f (gf_cons rfl (gf_cons rfl (gf_cons rfl (gf_cons rfl (gf_cons rfl (gf_cons rfl gf_nil)))))) (ih46  sc46 y46_5 z80 hIc46 hFc46 (in_w 0 31 i80 rfl) n46 n46a n46b n46c m46))
            · skip
              have i61 := z_lt (-1) (-1) c61 i60 rfl
              have c61a := lc_lt e60 c61
              have i61a := lr_lt1 (-9223372036854775808) 9223372036854775806 c61a (l_rng z55) (l_rng y46_5) rfl
              have i61b := lr_lt2 (-9223372036854775807) 9223372036854775807 c61a (l_rng z55) (l_rng y46_5) rfl
              refine g_aload_n 65 (gd rfl) rfl rfl ?_
              refine g_iload 67 (gd rfl) rfl rfl ?_
              have p67 : BE sc46 (y46_7).toNatClampNeg := by rw [g46_0]; exact hev.1
              refine g_callv (X := _) (As := [.int y46_7]) (r := []) (b := A 109) (q := 109) 70 (gd rfl) rfl rfl rfl rfl rfl (ww_o rfl) (Nat.le_of_ble_eq_true rfl) (Nat.zero_le _) (Nat.zero_le _) (k_350 (by omega) hIc46 (in_w 0 31 j46_7 rfl) p67) (fun e u h => h) (fun v u h => ?_)
              obtain ⟨z67, rfl, rfl, p67a⟩ := h
              show GG _ _ _ _ _ _ _ _ [.long z67] _ _ _
              have hz67 : z67.toInt = rm sc29 y46_7.toNatClampNeg := (by have h := p67a; rw [g46_0] at h; exact h hfo)
              refine g_goto 75 (gd rfl) rfl ?_
              refine g_lstore 77 (gd rfl) rfl (Nat.le_of_ble_eq_true rfl) ?_
              refine g_aload_n 78 (gd rfl) rfl rfl ?_
              refine g_iload 80 (gd rfl) rfl rfl ?_
              have p80 : BE sc46 (y46_7).toNatClampNeg := by rw [g46_0]; exact hev.1
              refine g_callv (X := _) (As := [.int y46_7]) (r := []) (b := A 109) (q := 109) 83 (gd rfl) rfl rfl rfl rfl rfl (ww_o rfl) (Nat.le_of_ble_eq_true rfl) (Nat.zero_le _) (Nat.zero_le _) (k_349 (by omega) hIc46 (in_w 0 31 j46_7 rfl) p80) (fun e u h => h) (fun v u h => ?_)
              obtain ⟨z80, rfl, rfl, i80, p80a⟩ := h
              show GG _ _ _ _ _ _ _ _ [.int z80] _ _ _
              refine g_istore 85 (gd rfl) rfl (Nat.le_of_ble_eq_true rfl) ?_
              refine g_goto 46 (gd rfl) rfl ?_
              have n46 : sc46 = sc29 := by first | exact g46_0 | rfl
              have n46a : ∃ k, (z80).toNatClampNeg = it sc29 (x2).toNatClampNeg k ∧ WY sc29 (x1).toInt (z67).toInt (x2).toNatClampNeg k := by first | (obtain ⟨k, hk1, hk2⟩ := g46_1; exact ⟨k + 1, by rw [p80a, g46_0, hk1]; rfl, wy_s hk2 (by rw [← hk1]; exact hx46) (by rw [← hk1]; exact g46_2) (by omega) (by rw [← hk1]; omega)⟩) | exact ⟨0, rfl, fun j hj => absurd hj (Nat.not_lt_zero _)⟩
              have n46b : ND sc29 (z80).toNatClampNeg := by first | (rw [p80a, g46_0]; exact hev.2.1) | exact ⟨by show x2.toInt.toNat < 32; have a0 := h2; unfold In at a0; have a1 := h1; unfold In at a1; have a2 := j46_7; unfold In at a2; have a3 := i80; unfold In at a3; omega, by show ((x2.toInt.toNat : Nat) : Int) < _; rw [hFc29.2.2.1 109 20 rfl]; have hq := q_0; have a0 := h2; unfold In at a0; have a1 := h1; unfold In at a1; have a2 := j46_7; unfold In at a2; have a3 := i80; unfold In at a3; omega, by rw [← e34]; have a0 := h2; unfold In at a0; have a1 := h1; unfold In at a1; have a2 := j46_7; unfold In at a2; have a3 := i80; unfold In at a3; omega⟩
              have n46c : 1 ≤ (z67).toInt ∧ (z67).toInt ≤ 1000000000 := by first | exact ⟨by decide, by decide⟩ | (have hr1 := hev.2.2.2.1; have hq := g46_3; exact ⟨by omega, by omega⟩)
              have m46 : rkf sc29 (x1).toInt (z80).toNatClampNeg < k46 := by rw [p80a, g46_0]; have hl := hev.2.2.1; have hm := mm46; omega
              exact gg_w (by omega) (gg_f (gf_cons rfl (gf_cons rfl (gf_cons rfl (gf_cons rfl (gf_cons rfl (gf_cons rfl gf_nil)))))) (ih46  sc46 z67 z80 hIc46 hFc46 (in_w 0 31 i80 rfl) n46 n46a n46b n46c m46))
      refine g_aload_n 30 (gd rfl) rfl rfl ?_
      refine g_getA (q2 := 148) 33 (gd rfl) rfl rfl rfl rfl ?_
      refine g_iload_n 34 (gd rfl) rfl rfl ?_
      refine g_iaload 35 (gd rfl) rfl (n := 34) rfl (in_ix h2 rfl) (fun z34 e34 => ?_)
      have i34 := inv_I hIc29 (n := 34) (t := 0) (-1) 1000 rfl (in_ix h2 rfl) rfl e34
      refine g_if_lt 38 133 (gd rfl) rfl rfl (fun c35 => ?_) (fun c35 => ?_)
      · skip
        have i35 := z_lt (-1) (-1) c35 i34 rfl
        refine g_lload_n 134 (gd rfl) rfl rfl ?_
        exact g_lreturn (gd rfl) rfl (hP _ _ ⟨sc29, hIc29, hFc29, y29_3, rfl, rfl⟩)
      · skip
        have i35 := z_ge 0 1000 c35 i34 rfl
        refine g_ldc2_w 1000000000 41 (gd rfl) rfl rfl ?_
        refine g_lstore 43 (gd rfl) rfl (Nat.le_of_ble_eq_true rfl) ?_
        refine g_iload_n 44 (gd rfl) rfl rfl ?_
        refine g_istore 46 (gd rfl) rfl (Nat.le_of_ble_eq_true rfl) ?_
        have n46 : sc29 = sc29 := by first | exact g46_0 | rfl
        have n46a : ∃ k, (x2).toNatClampNeg = it sc29 (x2).toNatClampNeg k ∧ WY sc29 (x1).toInt ((Int64.ofInt 1000000000)).toInt (x2).toNatClampNeg k := by first | (obtain ⟨k, hk1, hk2⟩ := g46_1; exact ⟨k + 1, by rw [p80a, g46_0, hk1]; rfl, wy_s hk2 (by rw [← hk1]; exact hx46) (by rw [← hk1]; exact g46_2) (by omega) (by rw [← hk1]; omega)⟩) | exact ⟨0, rfl, fun j hj => absurd hj (Nat.not_lt_zero _)⟩
        have n46b : ND sc29 (x2).toNatClampNeg := by first | (rw [p80a, g46_0]; exact hev.2.1) | exact ⟨by show x2.toInt.toNat < 32; have a0 := h2; unfold In at a0; have a1 := h1; unfold In at a1; omega, by show ((x2.toInt.toNat : Nat) : Int) < _; rw [hFc29.2.2.1 109 20 rfl]; have hq := q_0; have a0 := h2; unfold In at a0; have a1 := h1; unfold In at a1; omega, by rw [← e34]; have a0 := h2; unfold In at a0; have a1 := h1; unfold In at a1; omega⟩
        have n46c : 1 ≤ ((Int64.ofInt 1000000000)).toInt ∧ ((Int64.ofInt 1000000000)).toInt ≤ 1000000000 := by first | exact ⟨by decide, by decide⟩ | (have hr1 := hev.2.2.2.1; have hq := g46_3; exact ⟨by omega, by omega⟩)
        have m46 : rkf sc29 (x1).toInt (x2).toNatClampNeg < 32 := by exact (rkf_ok g29_0).1 _ n46b.1 n46b.2.2
        exact gg_w (by omega) (gg_f (gf_cons rfl (gf_cons rfl (gf_cons rfl (gf_cons rfl (gf_cons rfl (gf_cons rfl gf_nil)))))) (ct46 (32) sc29 (Int64.ofInt 1000000000) x2 hIc29 hFc29 (in_w 0 31 h2 rfl) n46 n46a n46b n46c m46))
  have ct2 : ∀ (k2 : Nat) (sc2 : GS) (y2_3 : Int32), Inv sc2 → Fr fm_352 s sc2 → (In y2_3 0 160) → (∀ k : Nat, (k : Int) < (y2_3).toInt → (sc2.2.1 147 k).toInt = 0) → 160 - (y2_3).toInt < (k2 : Int) → GG Z (d - 1) 352 post (gx xp) (19872640062104 + k2 * 900) 2 (fun j => xlook j [(0, .ref (A 109)), (1, .int x1), (2, .int x2), (3, .int y2_3)]) [] (WW Z A sc2 ++ ex) 0 0 := by
    intro k2
    induction k2 with
    | zero => intro sc2 y2_3 hIc2 hFc2 j2_3 g2_0 mm2; exact m_no mm2 j2_3 rfl
    | succ k2 ih2 =>
      intro sc2 y2_3 hIc2 hFc2 j2_3 g2_0 mm2
      refine gg_w (M := 19872640062104 + k2 * 900 + 900) (by omega) ?_
      refine g_iload_n 3 (gd rfl) rfl rfl ?_
      refine g_sipush 160 6 (gd rfl) rfl rfl ?_
      refine g_cmp_ge 9 22 (gd rfl) rfl rfl (fun c6 => ?_) (fun c6 => ?_)
      · skip
        have i6 := r_le2 160 160 c6 (in_c 160 rfl) j2_3 rfl
        refine g_lconst 0 23 (gd rfl) rfl rfl ?_
        refine g_lstore_n 24 (gd rfl) rfl (Nat.le_of_ble_eq_true rfl) ?_
        refine g_aload_n 25 (gd rfl) rfl rfl ?_
        refine g_iload_n 26 (gd rfl) rfl rfl ?_
        refine g_callv (X := _) (As := [.int x1]) (r := []) (b := A 109) (q := 109) 29 (gd rfl) rfl rfl rfl rfl rfl (ww_o rfl) (Nat.le_of_ble_eq_true rfl) (Nat.zero_le _) (Nat.zero_le _) (k_348 (by omega) hIc2 (in_w 0 31 h1 rfl)) (fun e u h => h) (fun v u h => ?_)
        obtain ⟨s26, hI26, hF26, rfl, rfl, p26⟩ := h
        show GG _ _ _ _ _ _ _ _ [] _ _ _
        have n29 : SR s26 (x1).toInt := by first | exact p26 | exact p127
        have n29a : FB s26 (s26.2.1 147) := by first | exact (ms_e hIc29 g91_0.1 g91_0.2 g91_1 (by show ((y91_7.toInt.toNat : Nat) : Int) = _; have a0 := h2; unfold In at a0; have a1 := h1; unfold In at a1; have a2 := i6; unfold In at a2; omega) g91_2.1 (hF127.2.1 147 rfl) (hF127.1 112 rfl) (hF127.1 113 rfl) (hF127.1 114 rfl) (hF127.1 116 rfl) (hF127.2.2.1 109 19 rfl) mm29).1 | (intro a ha ht; rw [hF26.2.1 147 rfl]; have h0 := g2_0 a (by have a0 := h2; unfold In at a0; have a1 := h1; unfold In at a1; have a2 := i6; unfold In at a2; omega); have hr := (arc_n hI26 ha ht).2.2.1; omega)
        have m29 : (RS s26 (x1).toInt (s26.2.1 147) 160).toNat < 320000001 := by have h := (RS_b (x := x1.toInt) hI26 n29a 160 (Nat.le_refl _)).2; omega
        exact gg_w (by omega) (gg_f (gf_cons rfl (gf_cons rfl (gf_cons rfl (gf_cons rfl gf_nil)))) (ct29 (320000001) s26 (Int64.ofInt 0) hI26 (fr_tr rfl hFc2 hF26) n29 n29a m29))
      · skip
        have i6 := r_lt1 0 159 c6 j2_3 (in_c 160 rfl) rfl
        refine g_aload_n 10 (gd rfl) rfl rfl ?_
        refine g_getA (q2 := 147) 13 (gd rfl) rfl rfl rfl rfl ?_
        refine g_iload_n 14 (gd rfl) rfl rfl ?_
        refine g_lconst 0 15 (gd rfl) rfl rfl ?_
        refine g_lastore 16 (gd rfl) rfl (n := 160) rfl (in_ix i6 rfl) ?_
        have hI15 := inv_sL (q := 147) (j := y2_3.toNatClampNeg) (x := (Int64.ofInt 0)) hIc2 rfl (l_rng (Int64.ofInt 0))
        refine g_iinc 19 (gd rfl) rfl rfl (Nat.le_of_ble_eq_true rfl) (fun z16 e16 => ?_)
        have i16 := in_add 1 160 e16 i6 (in_c 1 rfl) rfl rfl
        refine g_goto 2 (gd rfl) rfl ?_
        have n2 : ∀ k : Nat, (k : Int) < (z16).toInt → ((sL sc2 147 y2_3.toNatClampNeg (Int64.ofInt 0)).2.1 147 k).toInt = 0 := by first | (intro k hk; exfalso; have h0 : (Int32.ofInt 0).toInt = 0 := rfl; omega) | (intro k hk; rw [show ((sL sc2 147 y2_3.toNatClampNeg (Int64.ofInt 0))).2.1 147 = vp_updL (sc2.2.1 147) y2_3.toNatClampNeg (Int64.ofInt 0) from (by simp [sL])]; have e3 : y2_3.toNatClampNeg = y2_3.toInt.toNat := rfl; by_cases c : k = y2_3.toNatClampNeg; (rw [c, ul_eq]; decide); (rw [ul_ne c]; exact g2_0 k (by have a0 := h2; unfold In at a0; have a1 := h1; unfold In at a1; have a2 := i6; unfold In at a2; have a3 := i16; unfold In at a3; have a4 := t_add e16 i6 (in_c 1 rfl) rfl; have a5 := (in_c 1 rfl); unfold In at a5; omega)))
        exact gg_w (by omega) (gg_f (gf_cons rfl (gf_cons rfl (gf_cons rfl (gf_cons rfl gf_nil)))) (ih2 (sL sc2 147 y2_3.toNatClampNeg (Int64.ofInt 0)) z16 hI15 (fr_sL rfl hFc2) (in_w 0 160 i16 rfl) n2 (m_up mm2 (t_add e16 i6 (in_c 1 rfl) rfl) (in_w 1 1 (in_c 1 rfl) rfl))))
  refine g_enter2 (k := 352) (N := 19872640207904) (by omega) rfl (Nat.le_of_ble_eq_true rfl) ?_
  refine g_iconst 0 1 (gd rfl) rfl rfl ?_
  refine g_istore_n 2 (gd rfl) rfl (Nat.le_of_ble_eq_true rfl) ?_
  have n2 : ∀ k : Nat, (k : Int) < ((Int32.ofInt 0)).toInt → (s.2.1 147 k).toInt = 0 := by first | (intro k hk; exfalso; have h0 : (Int32.ofInt 0).toInt = 0 := rfl; omega) | (intro k hk; rw [show (s).2.1 147 = vp_updL (sc2.2.1 147) y2_3.toNatClampNeg (Int64.ofInt 0) from (by simp [sL])]; have e3 : y2_3.toNatClampNeg = y2_3.toInt.toNat := rfl; by_cases c : k = y2_3.toNatClampNeg; (rw [c, ul_eq]; decide); (rw [ul_ne c]; exact g2_0 k (by have a0 := h2; unfold In at a0; have a1 := h1; unfold In at a1; have a2 := (in_c 0 rfl); unfold In at a2; omega)))
  exact gg_w (by omega) (gg_f (gf_cons rfl (gf_cons rfl (gf_cons rfl (gf_cons rfl gf_nil)))) (ct2 161 s (Int32.ofInt 0) hI fr_rf (in_w 0 160 (in_c 0 rfl) rfl) n2 (m_in 161 (in_w 0 160 (in_c 0 rfl) rfl) rfl)))

def fm_354 : FM := ([132, 148], [147], [(109, 0)], [])
/-- GraphHouseModel.flow -/
theorem k_354 {Z : AmZ} {A : Nat → Nat} {s : GS} {ex : va_W} {d : Nat} {X : AmX} {x1 : Int32} {x2 : Int32} (hd : 4 ≤ d) (hI : Inv s)  : GC Z d 354 [.ref (A 109), .int x1, .int x2] (WW Z A s ++ ex) 0 0 (fun v u => ∃ t : GS, Inv t ∧ Fr fm_354 s t ∧ ∃ z : Int64, v = some (.long z) ∧ u = WW Z A t ++ ex) X := by
  intro post xp hP hX
  obtain ⟨u_109_20, e_109_20⟩ : ∃ w, w = s.2.2.1 109 20 := ⟨_, rfl⟩
  have ro_109_20 := inv_F hI 0 32 rfl e_109_20
  refine g_enter2 (k := 354) (N := 900) (by omega) rfl (Nat.le_of_ble_eq_true rfl) ?_
  refine g_aload_n 1 (gd rfl) rfl rfl ?_
  refine g_aload_n 2 (gd rfl) rfl rfl ?_
  refine g_iload_n 3 (gd rfl) rfl rfl ?_
  refine g_iload_n 4 (gd rfl) rfl rfl ?_
  refine g_callv (X := _) (As := [.int x1, .int x2]) (r := [.ref (A 109)]) (b := A 109) (q := 109) 7 (gd rfl) rfl rfl rfl rfl rfl (ww_o rfl) (Nat.le_of_ble_eq_true rfl) (mc := 0) (ms := 0) (Nat.zero_le _) (Nat.zero_le _) (P := fun v u => _) ?_ (fun e u h => h) (fun v u h => h)
  intro po4 xx4 hp4 hx4
  refine g_enter2 (k := 353) (N := 300) (by omega) rfl (Nat.le_of_ble_eq_true rfl) ?_
  refine g_aload_n 1 (gd rfl) rfl rfl ?_
  refine g_iload_n 2 (gd rfl) rfl rfl ?_
  refine g_callv (X := _) (As := [.int x1]) (r := []) (b := A 109) (q := 109) 5 (gd rfl) rfl rfl rfl rfl rfl (ww_o rfl) (Nat.le_of_ble_eq_true rfl) (mc := 0) (ms := 0) (Nat.zero_le _) (Nat.zero_le _) (P := fun v u => _) ?_ (fun e u h => h) (fun v u h => h)
  intro po4x2 xx4x2 hp4x2 hx4x2
  refine g_enter2 (k := 272) (N := 300) (by omega) rfl (Nat.le_of_ble_eq_true rfl) ?_
  refine g_iload_n 1 (gd rfl) rfl rfl ?_
  refine g_if_lt 4 16 (gd rfl) rfl rfl (fun c4x2x1 => ?_) (fun c4x2x1 => ?_)
  · skip
    have i4x2x1 := z_lt (-2147483648) (-1) c4x2x1 (i_rng x1) rfl
    refine g_iconst 0 17 (gd rfl) rfl rfl ?_
    refine g_ireturn (gd rfl) rfl (nb01 (in_w 0 1 (in_c 0 rfl) rfl)) (hp4x2 _ _ ?_)
    show GG _ _ _ _ _ _ _ _ [.int (Int32.ofInt 0)] _ _ _
    refine g_if_eq 8 25 (gd rfl) rfl rfl (fun c4x5 => ?_) (fun c4x5 => ?_)
    · skip
      refine g_iconst 0 26 (gd rfl) rfl rfl ?_
      refine g_ireturn (gd rfl) rfl (nb01 (in_w 0 1 (in_c 0 rfl) rfl)) (hp4 _ _ ?_)
      show GG _ _ _ _ _ _ _ _ [.int (Int32.ofInt 0), .ref (A 109)] _ _ _
      refine g_callv (X := _) (As := [.int (Int32.ofInt 0)]) (r := []) (b := A 109) (q := 109) 10 (gd rfl) rfl rfl rfl rfl rfl (ww_o rfl) (Nat.le_of_ble_eq_true rfl) (mc := 0) (ms := 0) (Nat.zero_le _) (Nat.zero_le _) (P := fun v u => _) ?_ (fun e u h => h) (fun v u h => h)
      intro po7 xx7 hp7 hx7
      refine g_enter2 (k := 271) (N := 300) (by omega) rfl (Nat.le_of_ble_eq_true rfl) ?_
      refine g_aload_n 1 (gd rfl) rfl rfl ?_
      refine g_iload_n 2 (gd rfl) rfl rfl ?_
      refine g_iconst 1 3 (gd rfl) rfl rfl ?_
      refine g_callv (X := _) (As := [.int (Int32.ofInt 0), .int (Int32.ofInt 1)]) (r := []) (b := A 109) (q := 109) 6 (gd rfl) rfl rfl rfl rfl rfl (ww_o rfl) (Nat.le_of_ble_eq_true rfl) (mc := 0) (ms := 0) (Nat.zero_le _) (Nat.zero_le _) (P := fun v u => _) ?_ (fun e u h => h) (fun v u h => h)
      intro po7x3 xx7x3 hp7x3 hx7x3
      refine g_enter2 (k := 270) (N := 300) (by omega) rfl (Nat.le_of_ble_eq_true rfl) ?_
      refine g_aload_n 1 (gd rfl) rfl rfl ?_
      refine g_iload_n 2 (gd rfl) rfl rfl ?_
      refine g_if_ne 5 9 (gd rfl) rfl rfl (fun c7x3x2 => ?_) (fun c7x3x2 => ?_)
      · skip
        exact zn_ne c7x3x2 (in_c 0 rfl) rfl
      · skip
        refine g_iconst 1 6 (gd rfl) rfl rfl ?_
        refine g_goto 18 (gd rfl) rfl ?_
        refine g_putI 21 (gd rfl) rfl rfl rfl rfl ?_
        have hI7x3x18 := inv_sF (q := 109) (j := 0) hI rfl (in_w 0 2 (in_c 1 rfl) rfl)
        refine g_aload_n 22 (gd rfl) rfl rfl ?_
        refine g_getI 25 (gd rfl) rfl rfl rfl (fun z7x3x22 e7x3x22 => ?_)
        have q7x3x22 : (Int32.ofInt 1) = z7x3x22 := (sF_get).trans e7x3x22.symm
        subst q7x3x22
        refine g_if_le 28 32 (gd rfl) rfl rfl (fun c7x3x25 => ?_) (fun c7x3x25 => ?_)
        · skip
          exact zn_le c7x3x25 (in_c 1 rfl) rfl
        · skip
          refine g_iconst 1 29 (gd rfl) rfl rfl ?_
          refine g_goto 33 (gd rfl) rfl ?_
          refine g_ireturn (gd rfl) rfl (nb01 (in_w 0 1 (in_c 1 rfl) rfl)) (hp7x3 _ _ ?_)
          show GG _ _ _ _ _ _ _ _ [.int (Int32.ofInt 1)] _ _ _
          refine g_ireturn (gd rfl) rfl (nb01 (in_w 0 1 (in_c 1 rfl) rfl)) (hp7 _ _ ?_)
          show GG _ _ _ _ _ _ _ _ [.int (Int32.ofInt 1)] _ _ _
          refine g_if_eq 13 17 (gd rfl) rfl rfl (fun c10 => ?_) (fun c10 => ?_)
          · skip
            exact zn_eq c10 (in_c 1 rfl) rfl
          · skip
            refine g_lconst 0 14 (gd rfl) rfl rfl ?_
            refine g_goto 23 (gd rfl) rfl ?_
            exact g_lreturn (gd rfl) rfl (hP _ _ ⟨(sF s 109 0 (Int32.ofInt 1)), hI7x3x18, (fr_sF rfl fr_rf), (Int64.ofInt 0), rfl, rfl⟩)
    · skip
      exact zn_ne c4x5 (in_c 0 rfl) rfl
  · skip
    have i4x2x1 := z_ge 0 2147483647 c4x2x1 (i_rng x1) rfl
    refine g_iload_n 5 (gd rfl) rfl rfl ?_
    refine g_aload_n 6 (gd rfl) rfl rfl ?_
    refine g_getI 9 (gd rfl) rfl rfl rfl (fun z4x2x6 e4x2x6 => ?_)
    have q4x2x6 : u_109_20 = z4x2x6 := (e_109_20).trans e4x2x6.symm
    subst q4x2x6
    refine g_cmp_ge 12 16 (gd rfl) rfl rfl (fun c4x2x9 => ?_) (fun c4x2x9 => ?_)
    · skip
      refine g_iconst 0 17 (gd rfl) rfl rfl ?_
      refine g_ireturn (gd rfl) rfl (nb01 (in_w 0 1 (in_c 0 rfl) rfl)) (hp4x2 _ _ ?_)
      show GG _ _ _ _ _ _ _ _ [.int (Int32.ofInt 0)] _ _ _
      refine g_if_eq 8 25 (gd rfl) rfl rfl (fun c4x5 => ?_) (fun c4x5 => ?_)
      · skip
        refine g_iconst 0 26 (gd rfl) rfl rfl ?_
        refine g_ireturn (gd rfl) rfl (nb01 (in_w 0 1 (in_c 0 rfl) rfl)) (hp4 _ _ ?_)
        show GG _ _ _ _ _ _ _ _ [.int (Int32.ofInt 0), .ref (A 109)] _ _ _
        refine g_callv (X := _) (As := [.int (Int32.ofInt 0)]) (r := []) (b := A 109) (q := 109) 10 (gd rfl) rfl rfl rfl rfl rfl (ww_o rfl) (Nat.le_of_ble_eq_true rfl) (mc := 0) (ms := 0) (Nat.zero_le _) (Nat.zero_le _) (P := fun v u => _) ?_ (fun e u h => h) (fun v u h => h)
        intro po7 xx7 hp7 hx7
        refine g_enter2 (k := 271) (N := 300) (by omega) rfl (Nat.le_of_ble_eq_true rfl) ?_
        refine g_aload_n 1 (gd rfl) rfl rfl ?_
        refine g_iload_n 2 (gd rfl) rfl rfl ?_
        refine g_iconst 1 3 (gd rfl) rfl rfl ?_
        refine g_callv (X := _) (As := [.int (Int32.ofInt 0), .int (Int32.ofInt 1)]) (r := []) (b := A 109) (q := 109) 6 (gd rfl) rfl rfl rfl rfl rfl (ww_o rfl) (Nat.le_of_ble_eq_true rfl) (mc := 0) (ms := 0) (Nat.zero_le _) (Nat.zero_le _) (P := fun v u => _) ?_ (fun e u h => h) (fun v u h => h)
        intro po7x3 xx7x3 hp7x3 hx7x3
        refine g_enter2 (k := 270) (N := 300) (by omega) rfl (Nat.le_of_ble_eq_true rfl) ?_
        refine g_aload_n 1 (gd rfl) rfl rfl ?_
        refine g_iload_n 2 (gd rfl) rfl rfl ?_
        refine g_if_ne 5 9 (gd rfl) rfl rfl (fun c7x3x2 => ?_) (fun c7x3x2 => ?_)
        · skip
          exact zn_ne c7x3x2 (in_c 0 rfl) rfl
        · skip
          refine g_iconst 1 6 (gd rfl) rfl rfl ?_
          refine g_goto 18 (gd rfl) rfl ?_
          refine g_putI 21 (gd rfl) rfl rfl rfl rfl ?_
          have hI7x3x18 := inv_sF (q := 109) (j := 0) hI rfl (in_w 0 2 (in_c 1 rfl) rfl)
          refine g_aload_n 22 (gd rfl) rfl rfl ?_
          refine g_getI 25 (gd rfl) rfl rfl rfl (fun z7x3x22 e7x3x22 => ?_)
          have q7x3x22 : (Int32.ofInt 1) = z7x3x22 := (sF_get).trans e7x3x22.symm
          subst q7x3x22
          refine g_if_le 28 32 (gd rfl) rfl rfl (fun c7x3x25 => ?_) (fun c7x3x25 => ?_)
          · skip
            exact zn_le c7x3x25 (in_c 1 rfl) rfl
          · skip
            refine g_iconst 1 29 (gd rfl) rfl rfl ?_
            refine g_goto 33 (gd rfl) rfl ?_
            refine g_ireturn (gd rfl) rfl (nb01 (in_w 0 1 (in_c 1 rfl) rfl)) (hp7x3 _ _ ?_)
            show GG _ _ _ _ _ _ _ _ [.int (Int32.ofInt 1)] _ _ _
            refine g_ireturn (gd rfl) rfl (nb01 (in_w 0 1 (in_c 1 rfl) rfl)) (hp7 _ _ ?_)
            show GG _ _ _ _ _ _ _ _ [.int (Int32.ofInt 1)] _ _ _
            refine g_if_eq 13 17 (gd rfl) rfl rfl (fun c10 => ?_) (fun c10 => ?_)
            · skip
              exact zn_eq c10 (in_c 1 rfl) rfl
            · skip
              refine g_lconst 0 14 (gd rfl) rfl rfl ?_
              refine g_goto 23 (gd rfl) rfl ?_
              exact g_lreturn (gd rfl) rfl (hP _ _ ⟨(sF s 109 0 (Int32.ofInt 1)), hI7x3x18, (fr_sF rfl fr_rf), (Int64.ofInt 0), rfl, rfl⟩)
      · skip
        exact zn_ne c4x5 (in_c 0 rfl) rfl
    · skip
      have i4x2x9 := r_lt1 0 31 c4x2x9 i4x2x1 ro_109_20 rfl
      have i4x2x9a := r_lt2 1 32 c4x2x9 i4x2x1 ro_109_20 rfl
      refine g_iconst 1 13 (gd rfl) rfl rfl ?_
      refine g_goto 17 (gd rfl) rfl ?_
      refine g_ireturn (gd rfl) rfl (nb01 (in_w 0 1 (in_c 1 rfl) rfl)) (hp4x2 _ _ ?_)
      show GG _ _ _ _ _ _ _ _ [.int (Int32.ofInt 1)] _ _ _
      refine g_if_eq 8 25 (gd rfl) rfl rfl (fun c4x5 => ?_) (fun c4x5 => ?_)
      · skip
        exact zn_eq c4x5 (in_c 1 rfl) rfl
      · skip
        refine g_aload_n 9 (gd rfl) rfl rfl ?_
        refine g_iload_n 10 (gd rfl) rfl rfl ?_
        refine g_callv (X := _) (As := [.int x2]) (r := []) (b := A 109) (q := 109) 13 (gd rfl) rfl rfl rfl rfl rfl (ww_o rfl) (Nat.le_of_ble_eq_true rfl) (mc := 0) (ms := 0) (Nat.zero_le _) (Nat.zero_le _) (P := fun v u => _) ?_ (fun e u h => h) (fun v u h => h)
        intro po4x10 xx4x10 hp4x10 hx4x10
        refine g_enter2 (k := 272) (N := 300) (by omega) rfl (Nat.le_of_ble_eq_true rfl) ?_
        refine g_iload_n 1 (gd rfl) rfl rfl ?_
        refine g_if_lt 4 16 (gd rfl) rfl rfl (fun c4x10x1 => ?_) (fun c4x10x1 => ?_)
        · skip
          have i4x10x1 := z_lt (-2147483648) (-1) c4x10x1 (i_rng x2) rfl
          refine g_iconst 0 17 (gd rfl) rfl rfl ?_
          refine g_ireturn (gd rfl) rfl (nb01 (in_w 0 1 (in_c 0 rfl) rfl)) (hp4x10 _ _ ?_)
          show GG _ _ _ _ _ _ _ _ [.int (Int32.ofInt 0)] _ _ _
          refine g_if_eq 16 25 (gd rfl) rfl rfl (fun c4x13 => ?_) (fun c4x13 => ?_)
          · skip
            refine g_iconst 0 26 (gd rfl) rfl rfl ?_
            refine g_ireturn (gd rfl) rfl (nb01 (in_w 0 1 (in_c 0 rfl) rfl)) (hp4 _ _ ?_)
            show GG _ _ _ _ _ _ _ _ [.int (Int32.ofInt 0), .ref (A 109)] _ _ _
            refine g_callv (X := _) (As := [.int (Int32.ofInt 0)]) (r := []) (b := A 109) (q := 109) 10 (gd rfl) rfl rfl rfl rfl rfl (ww_o rfl) (Nat.le_of_ble_eq_true rfl) (mc := 0) (ms := 0) (Nat.zero_le _) (Nat.zero_le _) (P := fun v u => _) ?_ (fun e u h => h) (fun v u h => h)
            intro po7 xx7 hp7 hx7
            refine g_enter2 (k := 271) (N := 300) (by omega) rfl (Nat.le_of_ble_eq_true rfl) ?_
            refine g_aload_n 1 (gd rfl) rfl rfl ?_
            refine g_iload_n 2 (gd rfl) rfl rfl ?_
            refine g_iconst 1 3 (gd rfl) rfl rfl ?_
            refine g_callv (X := _) (As := [.int (Int32.ofInt 0), .int (Int32.ofInt 1)]) (r := []) (b := A 109) (q := 109) 6 (gd rfl) rfl rfl rfl rfl rfl (ww_o rfl) (Nat.le_of_ble_eq_true rfl) (mc := 0) (ms := 0) (Nat.zero_le _) (Nat.zero_le _) (P := fun v u => _) ?_ (fun e u h => h) (fun v u h => h)
            intro po7x3 xx7x3 hp7x3 hx7x3
            refine g_enter2 (k := 270) (N := 300) (by omega) rfl (Nat.le_of_ble_eq_true rfl) ?_
            refine g_aload_n 1 (gd rfl) rfl rfl ?_
            refine g_iload_n 2 (gd rfl) rfl rfl ?_
            refine g_if_ne 5 9 (gd rfl) rfl rfl (fun c7x3x2 => ?_) (fun c7x3x2 => ?_)
            · skip
              exact zn_ne c7x3x2 (in_c 0 rfl) rfl
            · skip
              refine g_iconst 1 6 (gd rfl) rfl rfl ?_
              refine g_goto 18 (gd rfl) rfl ?_
              refine g_putI 21 (gd rfl) rfl rfl rfl rfl ?_
              have hI7x3x18 := inv_sF (q := 109) (j := 0) hI rfl (in_w 0 2 (in_c 1 rfl) rfl)
              refine g_aload_n 22 (gd rfl) rfl rfl ?_
              refine g_getI 25 (gd rfl) rfl rfl rfl (fun z7x3x22 e7x3x22 => ?_)
              have q7x3x22 : (Int32.ofInt 1) = z7x3x22 := (sF_get).trans e7x3x22.symm
              subst q7x3x22
              refine g_if_le 28 32 (gd rfl) rfl rfl (fun c7x3x25 => ?_) (fun c7x3x25 => ?_)
              · skip
                exact zn_le c7x3x25 (in_c 1 rfl) rfl
              · skip
                refine g_iconst 1 29 (gd rfl) rfl rfl ?_
                refine g_goto 33 (gd rfl) rfl ?_
                refine g_ireturn (gd rfl) rfl (nb01 (in_w 0 1 (in_c 1 rfl) rfl)) (hp7x3 _ _ ?_)
                show GG _ _ _ _ _ _ _ _ [.int (Int32.ofInt 1)] _ _ _
                refine g_ireturn (gd rfl) rfl (nb01 (in_w 0 1 (in_c 1 rfl) rfl)) (hp7 _ _ ?_)
                show GG _ _ _ _ _ _ _ _ [.int (Int32.ofInt 1)] _ _ _
                refine g_if_eq 13 17 (gd rfl) rfl rfl (fun c10 => ?_) (fun c10 => ?_)
                · skip
                  exact zn_eq c10 (in_c 1 rfl) rfl
                · skip
                  refine g_lconst 0 14 (gd rfl) rfl rfl ?_
                  refine g_goto 23 (gd rfl) rfl ?_
                  exact g_lreturn (gd rfl) rfl (hP _ _ ⟨(sF s 109 0 (Int32.ofInt 1)), hI7x3x18, (fr_sF rfl fr_rf), (Int64.ofInt 0), rfl, rfl⟩)
          · skip
            exact zn_ne c4x13 (in_c 0 rfl) rfl
        · skip
          have i4x10x1 := z_ge 0 2147483647 c4x10x1 (i_rng x2) rfl
          refine g_iload_n 5 (gd rfl) rfl rfl ?_
          refine g_aload_n 6 (gd rfl) rfl rfl ?_
          refine g_getI 9 (gd rfl) rfl rfl rfl (fun z4x10x6 e4x10x6 => ?_)
          have q4x10x6 : u_109_20 = z4x10x6 := (e_109_20).trans e4x10x6.symm
          subst q4x10x6
          refine g_cmp_ge 12 16 (gd rfl) rfl rfl (fun c4x10x9 => ?_) (fun c4x10x9 => ?_)
          · skip
            have i4x10x9 := r_le2 1 2147483647 c4x10x9 i4x2x9a i4x10x1 rfl
            refine g_iconst 0 17 (gd rfl) rfl rfl ?_
            refine g_ireturn (gd rfl) rfl (nb01 (in_w 0 1 (in_c 0 rfl) rfl)) (hp4x10 _ _ ?_)
            show GG _ _ _ _ _ _ _ _ [.int (Int32.ofInt 0)] _ _ _
            refine g_if_eq 16 25 (gd rfl) rfl rfl (fun c4x13 => ?_) (fun c4x13 => ?_)
            · skip
              refine g_iconst 0 26 (gd rfl) rfl rfl ?_
              refine g_ireturn (gd rfl) rfl (nb01 (in_w 0 1 (in_c 0 rfl) rfl)) (hp4 _ _ ?_)
              show GG _ _ _ _ _ _ _ _ [.int (Int32.ofInt 0), .ref (A 109)] _ _ _
              refine g_callv (X := _) (As := [.int (Int32.ofInt 0)]) (r := []) (b := A 109) (q := 109) 10 (gd rfl) rfl rfl rfl rfl rfl (ww_o rfl) (Nat.le_of_ble_eq_true rfl) (mc := 0) (ms := 0) (Nat.zero_le _) (Nat.zero_le _) (P := fun v u => _) ?_ (fun e u h => h) (fun v u h => h)
              intro po7 xx7 hp7 hx7
              refine g_enter2 (k := 271) (N := 300) (by omega) rfl (Nat.le_of_ble_eq_true rfl) ?_
              refine g_aload_n 1 (gd rfl) rfl rfl ?_
              refine g_iload_n 2 (gd rfl) rfl rfl ?_
              refine g_iconst 1 3 (gd rfl) rfl rfl ?_
              refine g_callv (X := _) (As := [.int (Int32.ofInt 0), .int (Int32.ofInt 1)]) (r := []) (b := A 109) (q := 109) 6 (gd rfl) rfl rfl rfl rfl rfl (ww_o rfl) (Nat.le_of_ble_eq_true rfl) (mc := 0) (ms := 0) (Nat.zero_le _) (Nat.zero_le _) (P := fun v u => _) ?_ (fun e u h => h) (fun v u h => h)
              intro po7x3 xx7x3 hp7x3 hx7x3
              refine g_enter2 (k := 270) (N := 300) (by omega) rfl (Nat.le_of_ble_eq_true rfl) ?_
              refine g_aload_n 1 (gd rfl) rfl rfl ?_
              refine g_iload_n 2 (gd rfl) rfl rfl ?_
              refine g_if_ne 5 9 (gd rfl) rfl rfl (fun c7x3x2 => ?_) (fun c7x3x2 => ?_)
              · skip
                exact zn_ne c7x3x2 (in_c 0 rfl) rfl
              · skip
                refine g_iconst 1 6 (gd rfl) rfl rfl ?_
                refine g_goto 18 (gd rfl) rfl ?_
                refine g_putI 21 (gd rfl) rfl rfl rfl rfl ?_
                have hI7x3x18 := inv_sF (q := 109) (j := 0) hI rfl (in_w 0 2 (in_c 1 rfl) rfl)
                refine g_aload_n 22 (gd rfl) rfl rfl ?_
                refine g_getI 25 (gd rfl) rfl rfl rfl (fun z7x3x22 e7x3x22 => ?_)
                have q7x3x22 : (Int32.ofInt 1) = z7x3x22 := (sF_get).trans e7x3x22.symm
                subst q7x3x22
                refine g_if_le 28 32 (gd rfl) rfl rfl (fun c7x3x25 => ?_) (fun c7x3x25 => ?_)
                · skip
                  exact zn_le c7x3x25 (in_c 1 rfl) rfl
                · skip
                  refine g_iconst 1 29 (gd rfl) rfl rfl ?_
                  refine g_goto 33 (gd rfl) rfl ?_
                  refine g_ireturn (gd rfl) rfl (nb01 (in_w 0 1 (in_c 1 rfl) rfl)) (hp7x3 _ _ ?_)
                  show GG _ _ _ _ _ _ _ _ [.int (Int32.ofInt 1)] _ _ _
                  refine g_ireturn (gd rfl) rfl (nb01 (in_w 0 1 (in_c 1 rfl) rfl)) (hp7 _ _ ?_)
                  show GG _ _ _ _ _ _ _ _ [.int (Int32.ofInt 1)] _ _ _
                  refine g_if_eq 13 17 (gd rfl) rfl rfl (fun c10 => ?_) (fun c10 => ?_)
                  · skip
                    exact zn_eq c10 (in_c 1 rfl) rfl
                  · skip
                    refine g_lconst 0 14 (gd rfl) rfl rfl ?_
                    refine g_goto 23 (gd rfl) rfl ?_
                    exact g_lreturn (gd rfl) rfl (hP _ _ ⟨(sF s 109 0 (Int32.ofInt 1)), hI7x3x18, (fr_sF rfl fr_rf), (Int64.ofInt 0), rfl, rfl⟩)
            · skip
              exact zn_ne c4x13 (in_c 0 rfl) rfl
          · skip
            have i4x10x9 := r_lt1 0 31 c4x10x9 i4x10x1 i4x2x9a rfl
            refine g_iconst 1 13 (gd rfl) rfl rfl ?_
            refine g_goto 17 (gd rfl) rfl ?_
            refine g_ireturn (gd rfl) rfl (nb01 (in_w 0 1 (in_c 1 rfl) rfl)) (hp4x10 _ _ ?_)
            show GG _ _ _ _ _ _ _ _ [.int (Int32.ofInt 1)] _ _ _
            refine g_if_eq 16 25 (gd rfl) rfl rfl (fun c4x13 => ?_) (fun c4x13 => ?_)
            · skip
              exact zn_eq c4x13 (in_c 1 rfl) rfl
            · skip
              refine g_iload_n 17 (gd rfl) rfl rfl ?_
              refine g_iload_n 18 (gd rfl) rfl rfl ?_
              refine g_cmp_eq 21 25 (gd rfl) rfl rfl (fun c4x18 => ?_) (fun c4x18 => ?_)
              · skip
                refine g_iconst 0 26 (gd rfl) rfl rfl ?_
                refine g_ireturn (gd rfl) rfl (nb01 (in_w 0 1 (in_c 0 rfl) rfl)) (hp4 _ _ ?_)
                show GG _ _ _ _ _ _ _ _ [.int (Int32.ofInt 0), .ref (A 109)] _ _ _
                refine g_callv (X := _) (As := [.int (Int32.ofInt 0)]) (r := []) (b := A 109) (q := 109) 10 (gd rfl) rfl rfl rfl rfl rfl (ww_o rfl) (Nat.le_of_ble_eq_true rfl) (mc := 0) (ms := 0) (Nat.zero_le _) (Nat.zero_le _) (P := fun v u => _) ?_ (fun e u h => h) (fun v u h => h)
                intro po7 xx7 hp7 hx7
                refine g_enter2 (k := 271) (N := 300) (by omega) rfl (Nat.le_of_ble_eq_true rfl) ?_
                refine g_aload_n 1 (gd rfl) rfl rfl ?_
                refine g_iload_n 2 (gd rfl) rfl rfl ?_
                refine g_iconst 1 3 (gd rfl) rfl rfl ?_
                refine g_callv (X := _) (As := [.int (Int32.ofInt 0), .int (Int32.ofInt 1)]) (r := []) (b := A 109) (q := 109) 6 (gd rfl) rfl rfl rfl rfl rfl (ww_o rfl) (Nat.le_of_ble_eq_true rfl) (mc := 0) (ms := 0) (Nat.zero_le _) (Nat.zero_le _) (P := fun v u => _) ?_ (fun e u h => h) (fun v u h => h)
                intro po7x3 xx7x3 hp7x3 hx7x3
                refine g_enter2 (k := 270) (N := 300) (by omega) rfl (Nat.le_of_ble_eq_true rfl) ?_
                refine g_aload_n 1 (gd rfl) rfl rfl ?_
                refine g_iload_n 2 (gd rfl) rfl rfl ?_
                refine g_if_ne 5 9 (gd rfl) rfl rfl (fun c7x3x2 => ?_) (fun c7x3x2 => ?_)
                · skip
                  exact zn_ne c7x3x2 (in_c 0 rfl) rfl
                · skip
                  refine g_iconst 1 6 (gd rfl) rfl rfl ?_
                  refine g_goto 18 (gd rfl) rfl ?_
                  refine g_putI 21 (gd rfl) rfl rfl rfl rfl ?_
                  have hI7x3x18 := inv_sF (q := 109) (j := 0) hI rfl (in_w 0 2 (in_c 1 rfl) rfl)
                  refine g_aload_n 22 (gd rfl) rfl rfl ?_
                  refine g_getI 25 (gd rfl) rfl rfl rfl (fun z7x3x22 e7x3x22 => ?_)
                  have q7x3x22 : (Int32.ofInt 1) = z7x3x22 := (sF_get).trans e7x3x22.symm
                  subst q7x3x22
                  refine g_if_le 28 32 (gd rfl) rfl rfl (fun c7x3x25 => ?_) (fun c7x3x25 => ?_)
                  · skip
                    exact zn_le c7x3x25 (in_c 1 rfl) rfl
                  · skip
                    refine g_iconst 1 29 (gd rfl) rfl rfl ?_
                    refine g_goto 33 (gd rfl) rfl ?_
                    refine g_ireturn (gd rfl) rfl (nb01 (in_w 0 1 (in_c 1 rfl) rfl)) (hp7x3 _ _ ?_)
                    show GG _ _ _ _ _ _ _ _ [.int (Int32.ofInt 1)] _ _ _
                    refine g_ireturn (gd rfl) rfl (nb01 (in_w 0 1 (in_c 1 rfl) rfl)) (hp7 _ _ ?_)
                    show GG _ _ _ _ _ _ _ _ [.int (Int32.ofInt 1)] _ _ _
                    refine g_if_eq 13 17 (gd rfl) rfl rfl (fun c10 => ?_) (fun c10 => ?_)
                    · skip
                      exact zn_eq c10 (in_c 1 rfl) rfl
                    · skip
                      refine g_lconst 0 14 (gd rfl) rfl rfl ?_
                      refine g_goto 23 (gd rfl) rfl ?_
                      exact g_lreturn (gd rfl) rfl (hP _ _ ⟨(sF s 109 0 (Int32.ofInt 1)), hI7x3x18, (fr_sF rfl fr_rf), (Int64.ofInt 0), rfl, rfl⟩)
              · skip
                refine g_iconst 1 22 (gd rfl) rfl rfl ?_
                refine g_goto 26 (gd rfl) rfl ?_
                refine g_ireturn (gd rfl) rfl (nb01 (in_w 0 1 (in_c 1 rfl) rfl)) (hp4 _ _ ?_)
                show GG _ _ _ _ _ _ _ _ [.int (Int32.ofInt 1), .ref (A 109)] _ _ _
                refine g_callv (X := _) (As := [.int (Int32.ofInt 1)]) (r := []) (b := A 109) (q := 109) 10 (gd rfl) rfl rfl rfl rfl rfl (ww_o rfl) (Nat.le_of_ble_eq_true rfl) (mc := 0) (ms := 0) (Nat.zero_le _) (Nat.zero_le _) (P := fun v u => _) ?_ (fun e u h => h) (fun v u h => h)
                intro po7 xx7 hp7 hx7
                refine g_enter2 (k := 271) (N := 300) (by omega) rfl (Nat.le_of_ble_eq_true rfl) ?_
                refine g_aload_n 1 (gd rfl) rfl rfl ?_
                refine g_iload_n 2 (gd rfl) rfl rfl ?_
                refine g_iconst 1 3 (gd rfl) rfl rfl ?_
                refine g_callv (X := _) (As := [.int (Int32.ofInt 1), .int (Int32.ofInt 1)]) (r := []) (b := A 109) (q := 109) 6 (gd rfl) rfl rfl rfl rfl rfl (ww_o rfl) (Nat.le_of_ble_eq_true rfl) (mc := 0) (ms := 0) (Nat.zero_le _) (Nat.zero_le _) (P := fun v u => _) ?_ (fun e u h => h) (fun v u h => h)
                intro po7x3 xx7x3 hp7x3 hx7x3
                refine g_enter2 (k := 270) (N := 300) (by omega) rfl (Nat.le_of_ble_eq_true rfl) ?_
                refine g_aload_n 1 (gd rfl) rfl rfl ?_
                refine g_iload_n 2 (gd rfl) rfl rfl ?_
                refine g_if_ne 5 9 (gd rfl) rfl rfl (fun c7x3x2 => ?_) (fun c7x3x2 => ?_)
                · skip
                  refine g_iload_n 10 (gd rfl) rfl rfl ?_
                  refine g_if_ne 13 17 (gd rfl) rfl rfl (fun c7x3x10 => ?_) (fun c7x3x10 => ?_)
                  · skip
                    refine g_iconst 0 18 (gd rfl) rfl rfl ?_
                    refine g_putI 21 (gd rfl) rfl rfl rfl rfl ?_
                    have hI7x3x18 := inv_sF (q := 109) (j := 0) hI rfl (in_w 0 2 (in_c 0 rfl) rfl)
                    refine g_aload_n 22 (gd rfl) rfl rfl ?_
                    refine g_getI 25 (gd rfl) rfl rfl rfl (fun z7x3x22 e7x3x22 => ?_)
                    have q7x3x22 : (Int32.ofInt 0) = z7x3x22 := (sF_get).trans e7x3x22.symm
                    subst q7x3x22
                    refine g_if_le 28 32 (gd rfl) rfl rfl (fun c7x3x25 => ?_) (fun c7x3x25 => ?_)
                    · skip
                      refine g_iconst 0 33 (gd rfl) rfl rfl ?_
                      refine g_ireturn (gd rfl) rfl (nb01 (in_w 0 1 (in_c 0 rfl) rfl)) (hp7x3 _ _ ?_)
                      show GG _ _ _ _ _ _ _ _ [.int (Int32.ofInt 0)] _ _ _
                      refine g_ireturn (gd rfl) rfl (nb01 (in_w 0 1 (in_c 0 rfl) rfl)) (hp7 _ _ ?_)
                      show GG _ _ _ _ _ _ _ _ [.int (Int32.ofInt 0)] _ _ _
                      refine g_if_eq 13 17 (gd rfl) rfl rfl (fun c10 => ?_) (fun c10 => ?_)
                      · skip
                        refine g_aload_n 18 (gd rfl) rfl rfl ?_
                        refine g_iload_n 19 (gd rfl) rfl rfl ?_
                        refine g_iload_n 20 (gd rfl) rfl rfl ?_
                        have p20 : (x2).toInt < ((sF s 109 0 (Int32.ofInt 0)).2.2.1 109 20).toInt ∧ (x1).toInt ≠ (x2).toInt := by exact ⟨by rw [← (show u_109_20 = (sF s 109 0 (Int32.ofInt 0)).2.2.1 109 20 from sF_ne rfl (e_109_20))]; have a0 := i4x10x9; unfold In at a0; have a1 := i4x2x9; unfold In at a1; have a2 := i4x2x9a; unfold In at a2; have a3 := (in_c 0 rfl); unfold In at a3; omega, by have a0 := i4x10x9; unfold In at a0; have a1 := i4x2x9; unfold In at a1; have a2 := i4x2x9a; unfold In at a2; have a3 := (in_c 0 rfl); unfold In at a3; omega⟩
                        refine g_callv (X := _) (As := [.int x1, .int x2]) (r := []) (b := A 109) (q := 109) 23 (gd rfl) rfl rfl rfl rfl rfl (ww_o rfl) (Nat.le_of_ble_eq_true rfl) (Nat.zero_le _) (Nat.zero_le _) (k_352 (by omega) hI7x3x18 (in_w 0 31 i4x2x9 rfl) (in_w 0 31 i4x10x9 rfl) p20) (fun e u h => h) (fun v u h => ?_)
                        obtain ⟨s20, hI20, hF20, z20, rfl, rfl⟩ := h
                        show GG _ _ _ _ _ _ _ _ [.long z20] _ _ _
                        exact g_lreturn (gd rfl) rfl (hP _ _ ⟨s20, hI20, (fr_tr rfl (fr_sF rfl fr_rf) hF20), z20, rfl, rfl⟩)
                      · skip
                        exact zn_ne c10 (in_c 0 rfl) rfl
                    · skip
                      exact zn_gt c7x3x25 (in_c 0 rfl) rfl
                  · skip
                    exact zn_eq c7x3x10 (in_c 1 rfl) rfl
                · skip
                  exact zn_eq c7x3x2 (in_c 1 rfl) rfl

def fm_355 : FM := ([132, 148], [147], [(109, 0)], [])
/-- GraphHouseModel.side -/
theorem k_355 {Z : AmZ} {A : Nat → Nat} {s : GS} {ex : va_W} {d : Nat} {X : AmX} {x1 : Int32} {x2 : Int32} {x3 : Int32} (hd : 4 ≤ d) (hI : Inv s)  : GC Z d 355 [.ref (A 109), .int x1, .int x2, .int x3] (WW Z A s ++ ex) 0 0 (fun v u => ∃ t : GS, Inv t ∧ Fr fm_355 s t ∧ ∃ z : Int32, v = some (.int z) ∧ u = WW Z A t ++ ex ∧ In z 0 1) X := by
  intro post xp hP hX
  obtain ⟨u_109_20, e_109_20⟩ : ∃ w, w = s.2.2.1 109 20 := ⟨_, rfl⟩
  have ro_109_20 := inv_F hI 0 32 rfl e_109_20
  refine g_enter2 (k := 355) (N := 900) (by omega) rfl (Nat.le_of_ble_eq_true rfl) ?_
  refine g_aload_n 1 (gd rfl) rfl rfl ?_
  refine g_aload_n 2 (gd rfl) rfl rfl ?_
  refine g_iload_n 3 (gd rfl) rfl rfl ?_
  refine g_iload_n 4 (gd rfl) rfl rfl ?_
  refine g_callv (X := _) (As := [.int x1, .int x2]) (r := [.ref (A 109)]) (b := A 109) (q := 109) 7 (gd rfl) rfl rfl rfl rfl rfl (ww_o rfl) (Nat.le_of_ble_eq_true rfl) (mc := 0) (ms := 0) (Nat.zero_le _) (Nat.zero_le _) (P := fun v u => _) ?_ (fun e u h => h) (fun v u h => h)
  intro po4 xx4 hp4 hx4
  refine g_enter2 (k := 353) (N := 300) (by omega) rfl (Nat.le_of_ble_eq_true rfl) ?_
  refine g_aload_n 1 (gd rfl) rfl rfl ?_
  refine g_iload_n 2 (gd rfl) rfl rfl ?_
  refine g_callv (X := _) (As := [.int x1]) (r := []) (b := A 109) (q := 109) 5 (gd rfl) rfl rfl rfl rfl rfl (ww_o rfl) (Nat.le_of_ble_eq_true rfl) (mc := 0) (ms := 0) (Nat.zero_le _) (Nat.zero_le _) (P := fun v u => _) ?_ (fun e u h => h) (fun v u h => h)
  intro po4x2 xx4x2 hp4x2 hx4x2
  refine g_enter2 (k := 272) (N := 300) (by omega) rfl (Nat.le_of_ble_eq_true rfl) ?_
  refine g_iload_n 1 (gd rfl) rfl rfl ?_
  refine g_if_lt 4 16 (gd rfl) rfl rfl (fun c4x2x1 => ?_) (fun c4x2x1 => ?_)
  · skip
    have i4x2x1 := z_lt (-2147483648) (-1) c4x2x1 (i_rng x1) rfl
    refine g_iconst 0 17 (gd rfl) rfl rfl ?_
    refine g_ireturn (gd rfl) rfl (nb01 (in_w 0 1 (in_c 0 rfl) rfl)) (hp4x2 _ _ ?_)
    show GG _ _ _ _ _ _ _ _ [.int (Int32.ofInt 0)] _ _ _
    refine g_if_eq 8 25 (gd rfl) rfl rfl (fun c4x5 => ?_) (fun c4x5 => ?_)
    · skip
      refine g_iconst 0 26 (gd rfl) rfl rfl ?_
      refine g_ireturn (gd rfl) rfl (nb01 (in_w 0 1 (in_c 0 rfl) rfl)) (hp4 _ _ ?_)
      show GG _ _ _ _ _ _ _ _ [.int (Int32.ofInt 0), .ref (A 109)] _ _ _
      refine g_if_eq 10 22 (gd rfl) rfl rfl (fun c7 => ?_) (fun c7 => ?_)
      · skip
        refine g_iconst 0 23 (gd rfl) rfl rfl ?_
        refine g_callv (X := _) (As := [.int (Int32.ofInt 0)]) (r := []) (b := A 109) (q := 109) 26 (gd rfl) rfl rfl rfl rfl rfl (ww_o rfl) (Nat.le_of_ble_eq_true rfl) (mc := 0) (ms := 0) (Nat.zero_le _) (Nat.zero_le _) (P := fun v u => _) ?_ (fun e u h => h) (fun v u h => h)
        intro po23 xx23 hp23 hx23
        refine g_enter2 (k := 271) (N := 300) (by omega) rfl (Nat.le_of_ble_eq_true rfl) ?_
        refine g_aload_n 1 (gd rfl) rfl rfl ?_
        refine g_iload_n 2 (gd rfl) rfl rfl ?_
        refine g_iconst 1 3 (gd rfl) rfl rfl ?_
        refine g_callv (X := _) (As := [.int (Int32.ofInt 0), .int (Int32.ofInt 1)]) (r := []) (b := A 109) (q := 109) 6 (gd rfl) rfl rfl rfl rfl rfl (ww_o rfl) (Nat.le_of_ble_eq_true rfl) (mc := 0) (ms := 0) (Nat.zero_le _) (Nat.zero_le _) (P := fun v u => _) ?_ (fun e u h => h) (fun v u h => h)
        intro po23x3 xx23x3 hp23x3 hx23x3
        refine g_enter2 (k := 270) (N := 300) (by omega) rfl (Nat.le_of_ble_eq_true rfl) ?_
        refine g_aload_n 1 (gd rfl) rfl rfl ?_
        refine g_iload_n 2 (gd rfl) rfl rfl ?_
        refine g_if_ne 5 9 (gd rfl) rfl rfl (fun c23x3x2 => ?_) (fun c23x3x2 => ?_)
        · skip
          exact zn_ne c23x3x2 (in_c 0 rfl) rfl
        · skip
          refine g_iconst 1 6 (gd rfl) rfl rfl ?_
          refine g_goto 18 (gd rfl) rfl ?_
          refine g_putI 21 (gd rfl) rfl rfl rfl rfl ?_
          have hI23x3x18 := inv_sF (q := 109) (j := 0) hI rfl (in_w 0 2 (in_c 1 rfl) rfl)
          refine g_aload_n 22 (gd rfl) rfl rfl ?_
          refine g_getI 25 (gd rfl) rfl rfl rfl (fun z23x3x22 e23x3x22 => ?_)
          have q23x3x22 : (Int32.ofInt 1) = z23x3x22 := (sF_get).trans e23x3x22.symm
          subst q23x3x22
          refine g_if_le 28 32 (gd rfl) rfl rfl (fun c23x3x25 => ?_) (fun c23x3x25 => ?_)
          · skip
            exact zn_le c23x3x25 (in_c 1 rfl) rfl
          · skip
            refine g_iconst 1 29 (gd rfl) rfl rfl ?_
            refine g_goto 33 (gd rfl) rfl ?_
            refine g_ireturn (gd rfl) rfl (nb01 (in_w 0 1 (in_c 1 rfl) rfl)) (hp23x3 _ _ ?_)
            show GG _ _ _ _ _ _ _ _ [.int (Int32.ofInt 1)] _ _ _
            refine g_ireturn (gd rfl) rfl (nb01 (in_w 0 1 (in_c 1 rfl) rfl)) (hp23 _ _ ?_)
            show GG _ _ _ _ _ _ _ _ [.int (Int32.ofInt 1)] _ _ _
            refine g_if_eq 29 31 (gd rfl) rfl rfl (fun c26 => ?_) (fun c26 => ?_)
            · skip
              exact zn_eq c26 (in_c 1 rfl) rfl
            · skip
              refine g_iconst 0 30 (gd rfl) rfl rfl ?_
              exact g_ireturn (gd rfl) rfl (nb01 (in_w 0 1 (in_c 0 rfl) rfl)) (hP _ _ ⟨(sF s 109 0 (Int32.ofInt 1)), hI23x3x18, (fr_sF rfl fr_rf), (Int32.ofInt 0), rfl, rfl, in_w 0 1 (in_c 0 rfl) rfl⟩)
      · skip
        exact zn_ne c7 (in_c 0 rfl) rfl
    · skip
      exact zn_ne c4x5 (in_c 0 rfl) rfl
  · skip
    have i4x2x1 := z_ge 0 2147483647 c4x2x1 (i_rng x1) rfl
    refine g_iload_n 5 (gd rfl) rfl rfl ?_
    refine g_aload_n 6 (gd rfl) rfl rfl ?_
    refine g_getI 9 (gd rfl) rfl rfl rfl (fun z4x2x6 e4x2x6 => ?_)
    have q4x2x6 : u_109_20 = z4x2x6 := (e_109_20).trans e4x2x6.symm
    subst q4x2x6
    refine g_cmp_ge 12 16 (gd rfl) rfl rfl (fun c4x2x9 => ?_) (fun c4x2x9 => ?_)
    · skip
      refine g_iconst 0 17 (gd rfl) rfl rfl ?_
      refine g_ireturn (gd rfl) rfl (nb01 (in_w 0 1 (in_c 0 rfl) rfl)) (hp4x2 _ _ ?_)
      show GG _ _ _ _ _ _ _ _ [.int (Int32.ofInt 0)] _ _ _
      refine g_if_eq 8 25 (gd rfl) rfl rfl (fun c4x5 => ?_) (fun c4x5 => ?_)
      · skip
        refine g_iconst 0 26 (gd rfl) rfl rfl ?_
        refine g_ireturn (gd rfl) rfl (nb01 (in_w 0 1 (in_c 0 rfl) rfl)) (hp4 _ _ ?_)
        show GG _ _ _ _ _ _ _ _ [.int (Int32.ofInt 0), .ref (A 109)] _ _ _
        refine g_if_eq 10 22 (gd rfl) rfl rfl (fun c7 => ?_) (fun c7 => ?_)
        · skip
          refine g_iconst 0 23 (gd rfl) rfl rfl ?_
          refine g_callv (X := _) (As := [.int (Int32.ofInt 0)]) (r := []) (b := A 109) (q := 109) 26 (gd rfl) rfl rfl rfl rfl rfl (ww_o rfl) (Nat.le_of_ble_eq_true rfl) (mc := 0) (ms := 0) (Nat.zero_le _) (Nat.zero_le _) (P := fun v u => _) ?_ (fun e u h => h) (fun v u h => h)
          intro po23 xx23 hp23 hx23
          refine g_enter2 (k := 271) (N := 300) (by omega) rfl (Nat.le_of_ble_eq_true rfl) ?_
          refine g_aload_n 1 (gd rfl) rfl rfl ?_
          refine g_iload_n 2 (gd rfl) rfl rfl ?_
          refine g_iconst 1 3 (gd rfl) rfl rfl ?_
          refine g_callv (X := _) (As := [.int (Int32.ofInt 0), .int (Int32.ofInt 1)]) (r := []) (b := A 109) (q := 109) 6 (gd rfl) rfl rfl rfl rfl rfl (ww_o rfl) (Nat.le_of_ble_eq_true rfl) (mc := 0) (ms := 0) (Nat.zero_le _) (Nat.zero_le _) (P := fun v u => _) ?_ (fun e u h => h) (fun v u h => h)
          intro po23x3 xx23x3 hp23x3 hx23x3
          refine g_enter2 (k := 270) (N := 300) (by omega) rfl (Nat.le_of_ble_eq_true rfl) ?_
          refine g_aload_n 1 (gd rfl) rfl rfl ?_
          refine g_iload_n 2 (gd rfl) rfl rfl ?_
          refine g_if_ne 5 9 (gd rfl) rfl rfl (fun c23x3x2 => ?_) (fun c23x3x2 => ?_)
          · skip
            exact zn_ne c23x3x2 (in_c 0 rfl) rfl
          · skip
            refine g_iconst 1 6 (gd rfl) rfl rfl ?_
            refine g_goto 18 (gd rfl) rfl ?_
            refine g_putI 21 (gd rfl) rfl rfl rfl rfl ?_
            have hI23x3x18 := inv_sF (q := 109) (j := 0) hI rfl (in_w 0 2 (in_c 1 rfl) rfl)
            refine g_aload_n 22 (gd rfl) rfl rfl ?_
            refine g_getI 25 (gd rfl) rfl rfl rfl (fun z23x3x22 e23x3x22 => ?_)
            have q23x3x22 : (Int32.ofInt 1) = z23x3x22 := (sF_get).trans e23x3x22.symm
            subst q23x3x22
            refine g_if_le 28 32 (gd rfl) rfl rfl (fun c23x3x25 => ?_) (fun c23x3x25 => ?_)
            · skip
              exact zn_le c23x3x25 (in_c 1 rfl) rfl
            · skip
              refine g_iconst 1 29 (gd rfl) rfl rfl ?_
              refine g_goto 33 (gd rfl) rfl ?_
              refine g_ireturn (gd rfl) rfl (nb01 (in_w 0 1 (in_c 1 rfl) rfl)) (hp23x3 _ _ ?_)
              show GG _ _ _ _ _ _ _ _ [.int (Int32.ofInt 1)] _ _ _
              refine g_ireturn (gd rfl) rfl (nb01 (in_w 0 1 (in_c 1 rfl) rfl)) (hp23 _ _ ?_)
              show GG _ _ _ _ _ _ _ _ [.int (Int32.ofInt 1)] _ _ _
              refine g_if_eq 29 31 (gd rfl) rfl rfl (fun c26 => ?_) (fun c26 => ?_)
              · skip
                exact zn_eq c26 (in_c 1 rfl) rfl
              · skip
                refine g_iconst 0 30 (gd rfl) rfl rfl ?_
                exact g_ireturn (gd rfl) rfl (nb01 (in_w 0 1 (in_c 0 rfl) rfl)) (hP _ _ ⟨(sF s 109 0 (Int32.ofInt 1)), hI23x3x18, (fr_sF rfl fr_rf), (Int32.ofInt 0), rfl, rfl, in_w 0 1 (in_c 0 rfl) rfl⟩)
        · skip
          exact zn_ne c7 (in_c 0 rfl) rfl
      · skip
        exact zn_ne c4x5 (in_c 0 rfl) rfl
    · skip
      have i4x2x9 := r_lt1 0 31 c4x2x9 i4x2x1 ro_109_20 rfl
      have i4x2x9a := r_lt2 1 32 c4x2x9 i4x2x1 ro_109_20 rfl
      refine g_iconst 1 13 (gd rfl) rfl rfl ?_
      refine g_goto 17 (gd rfl) rfl ?_
      refine g_ireturn (gd rfl) rfl (nb01 (in_w 0 1 (in_c 1 rfl) rfl)) (hp4x2 _ _ ?_)
      show GG _ _ _ _ _ _ _ _ [.int (Int32.ofInt 1)] _ _ _
      refine g_if_eq 8 25 (gd rfl) rfl rfl (fun c4x5 => ?_) (fun c4x5 => ?_)
      · skip
        exact zn_eq c4x5 (in_c 1 rfl) rfl
      · skip
        refine g_aload_n 9 (gd rfl) rfl rfl ?_
        refine g_iload_n 10 (gd rfl) rfl rfl ?_
        refine g_callv (X := _) (As := [.int x2]) (r := []) (b := A 109) (q := 109) 13 (gd rfl) rfl rfl rfl rfl rfl (ww_o rfl) (Nat.le_of_ble_eq_true rfl) (mc := 0) (ms := 0) (Nat.zero_le _) (Nat.zero_le _) (P := fun v u => _) ?_ (fun e u h => h) (fun v u h => h)
        intro po4x10 xx4x10 hp4x10 hx4x10
        refine g_enter2 (k := 272) (N := 300) (by omega) rfl (Nat.le_of_ble_eq_true rfl) ?_
        refine g_iload_n 1 (gd rfl) rfl rfl ?_
        refine g_if_lt 4 16 (gd rfl) rfl rfl (fun c4x10x1 => ?_) (fun c4x10x1 => ?_)
        · skip
          have i4x10x1 := z_lt (-2147483648) (-1) c4x10x1 (i_rng x2) rfl
          refine g_iconst 0 17 (gd rfl) rfl rfl ?_
          refine g_ireturn (gd rfl) rfl (nb01 (in_w 0 1 (in_c 0 rfl) rfl)) (hp4x10 _ _ ?_)
          show GG _ _ _ _ _ _ _ _ [.int (Int32.ofInt 0)] _ _ _
          refine g_if_eq 16 25 (gd rfl) rfl rfl (fun c4x13 => ?_) (fun c4x13 => ?_)
          · skip
            refine g_iconst 0 26 (gd rfl) rfl rfl ?_
            refine g_ireturn (gd rfl) rfl (nb01 (in_w 0 1 (in_c 0 rfl) rfl)) (hp4 _ _ ?_)
            show GG _ _ _ _ _ _ _ _ [.int (Int32.ofInt 0), .ref (A 109)] _ _ _
            refine g_if_eq 10 22 (gd rfl) rfl rfl (fun c7 => ?_) (fun c7 => ?_)
            · skip
              refine g_iconst 0 23 (gd rfl) rfl rfl ?_
              refine g_callv (X := _) (As := [.int (Int32.ofInt 0)]) (r := []) (b := A 109) (q := 109) 26 (gd rfl) rfl rfl rfl rfl rfl (ww_o rfl) (Nat.le_of_ble_eq_true rfl) (mc := 0) (ms := 0) (Nat.zero_le _) (Nat.zero_le _) (P := fun v u => _) ?_ (fun e u h => h) (fun v u h => h)
              intro po23 xx23 hp23 hx23
              refine g_enter2 (k := 271) (N := 300) (by omega) rfl (Nat.le_of_ble_eq_true rfl) ?_
              refine g_aload_n 1 (gd rfl) rfl rfl ?_
              refine g_iload_n 2 (gd rfl) rfl rfl ?_
              refine g_iconst 1 3 (gd rfl) rfl rfl ?_
              refine g_callv (X := _) (As := [.int (Int32.ofInt 0), .int (Int32.ofInt 1)]) (r := []) (b := A 109) (q := 109) 6 (gd rfl) rfl rfl rfl rfl rfl (ww_o rfl) (Nat.le_of_ble_eq_true rfl) (mc := 0) (ms := 0) (Nat.zero_le _) (Nat.zero_le _) (P := fun v u => _) ?_ (fun e u h => h) (fun v u h => h)
              intro po23x3 xx23x3 hp23x3 hx23x3
              refine g_enter2 (k := 270) (N := 300) (by omega) rfl (Nat.le_of_ble_eq_true rfl) ?_
              refine g_aload_n 1 (gd rfl) rfl rfl ?_
              refine g_iload_n 2 (gd rfl) rfl rfl ?_
              refine g_if_ne 5 9 (gd rfl) rfl rfl (fun c23x3x2 => ?_) (fun c23x3x2 => ?_)
              · skip
                exact zn_ne c23x3x2 (in_c 0 rfl) rfl
              · skip
                refine g_iconst 1 6 (gd rfl) rfl rfl ?_
                refine g_goto 18 (gd rfl) rfl ?_
                refine g_putI 21 (gd rfl) rfl rfl rfl rfl ?_
                have hI23x3x18 := inv_sF (q := 109) (j := 0) hI rfl (in_w 0 2 (in_c 1 rfl) rfl)
                refine g_aload_n 22 (gd rfl) rfl rfl ?_
                refine g_getI 25 (gd rfl) rfl rfl rfl (fun z23x3x22 e23x3x22 => ?_)
                have q23x3x22 : (Int32.ofInt 1) = z23x3x22 := (sF_get).trans e23x3x22.symm
                subst q23x3x22
                refine g_if_le 28 32 (gd rfl) rfl rfl (fun c23x3x25 => ?_) (fun c23x3x25 => ?_)
                · skip
                  exact zn_le c23x3x25 (in_c 1 rfl) rfl
                · skip
                  refine g_iconst 1 29 (gd rfl) rfl rfl ?_
                  refine g_goto 33 (gd rfl) rfl ?_
                  refine g_ireturn (gd rfl) rfl (nb01 (in_w 0 1 (in_c 1 rfl) rfl)) (hp23x3 _ _ ?_)
                  show GG _ _ _ _ _ _ _ _ [.int (Int32.ofInt 1)] _ _ _
                  refine g_ireturn (gd rfl) rfl (nb01 (in_w 0 1 (in_c 1 rfl) rfl)) (hp23 _ _ ?_)
                  show GG _ _ _ _ _ _ _ _ [.int (Int32.ofInt 1)] _ _ _
                  refine g_if_eq 29 31 (gd rfl) rfl rfl (fun c26 => ?_) (fun c26 => ?_)
                  · skip
                    exact zn_eq c26 (in_c 1 rfl) rfl
                  · skip
                    refine g_iconst 0 30 (gd rfl) rfl rfl ?_
                    exact g_ireturn (gd rfl) rfl (nb01 (in_w 0 1 (in_c 0 rfl) rfl)) (hP _ _ ⟨(sF s 109 0 (Int32.ofInt 1)), hI23x3x18, (fr_sF rfl fr_rf), (Int32.ofInt 0), rfl, rfl, in_w 0 1 (in_c 0 rfl) rfl⟩)
            · skip
              exact zn_ne c7 (in_c 0 rfl) rfl
          · skip
            exact zn_ne c4x13 (in_c 0 rfl) rfl
        · skip
          have i4x10x1 := z_ge 0 2147483647 c4x10x1 (i_rng x2) rfl
          refine g_iload_n 5 (gd rfl) rfl rfl ?_
          refine g_aload_n 6 (gd rfl) rfl rfl ?_
          refine g_getI 9 (gd rfl) rfl rfl rfl (fun z4x10x6 e4x10x6 => ?_)
          have q4x10x6 : u_109_20 = z4x10x6 := (e_109_20).trans e4x10x6.symm
          subst q4x10x6
          refine g_cmp_ge 12 16 (gd rfl) rfl rfl (fun c4x10x9 => ?_) (fun c4x10x9 => ?_)
          · skip
            have i4x10x9 := r_le2 1 2147483647 c4x10x9 i4x2x9a i4x10x1 rfl
            refine g_iconst 0 17 (gd rfl) rfl rfl ?_
            refine g_ireturn (gd rfl) rfl (nb01 (in_w 0 1 (in_c 0 rfl) rfl)) (hp4x10 _ _ ?_)
            show GG _ _ _ _ _ _ _ _ [.int (Int32.ofInt 0)] _ _ _
            refine g_if_eq 16 25 (gd rfl) rfl rfl (fun c4x13 => ?_) (fun c4x13 => ?_)
            · skip
              refine g_iconst 0 26 (gd rfl) rfl rfl ?_
              refine g_ireturn (gd rfl) rfl (nb01 (in_w 0 1 (in_c 0 rfl) rfl)) (hp4 _ _ ?_)
              show GG _ _ _ _ _ _ _ _ [.int (Int32.ofInt 0), .ref (A 109)] _ _ _
              refine g_if_eq 10 22 (gd rfl) rfl rfl (fun c7 => ?_) (fun c7 => ?_)
              · skip
                refine g_iconst 0 23 (gd rfl) rfl rfl ?_
                refine g_callv (X := _) (As := [.int (Int32.ofInt 0)]) (r := []) (b := A 109) (q := 109) 26 (gd rfl) rfl rfl rfl rfl rfl (ww_o rfl) (Nat.le_of_ble_eq_true rfl) (mc := 0) (ms := 0) (Nat.zero_le _) (Nat.zero_le _) (P := fun v u => _) ?_ (fun e u h => h) (fun v u h => h)
                intro po23 xx23 hp23 hx23
                refine g_enter2 (k := 271) (N := 300) (by omega) rfl (Nat.le_of_ble_eq_true rfl) ?_
                refine g_aload_n 1 (gd rfl) rfl rfl ?_
                refine g_iload_n 2 (gd rfl) rfl rfl ?_
                refine g_iconst 1 3 (gd rfl) rfl rfl ?_
                refine g_callv (X := _) (As := [.int (Int32.ofInt 0), .int (Int32.ofInt 1)]) (r := []) (b := A 109) (q := 109) 6 (gd rfl) rfl rfl rfl rfl rfl (ww_o rfl) (Nat.le_of_ble_eq_true rfl) (mc := 0) (ms := 0) (Nat.zero_le _) (Nat.zero_le _) (P := fun v u => _) ?_ (fun e u h => h) (fun v u h => h)
                intro po23x3 xx23x3 hp23x3 hx23x3
                refine g_enter2 (k := 270) (N := 300) (by omega) rfl (Nat.le_of_ble_eq_true rfl) ?_
                refine g_aload_n 1 (gd rfl) rfl rfl ?_
                refine g_iload_n 2 (gd rfl) rfl rfl ?_
                refine g_if_ne 5 9 (gd rfl) rfl rfl (fun c23x3x2 => ?_) (fun c23x3x2 => ?_)
                · skip
                  exact zn_ne c23x3x2 (in_c 0 rfl) rfl
                · skip
                  refine g_iconst 1 6 (gd rfl) rfl rfl ?_
                  refine g_goto 18 (gd rfl) rfl ?_
                  refine g_putI 21 (gd rfl) rfl rfl rfl rfl ?_
                  have hI23x3x18 := inv_sF (q := 109) (j := 0) hI rfl (in_w 0 2 (in_c 1 rfl) rfl)
                  refine g_aload_n 22 (gd rfl) rfl rfl ?_
                  refine g_getI 25 (gd rfl) rfl rfl rfl (fun z23x3x22 e23x3x22 => ?_)
                  have q23x3x22 : (Int32.ofInt 1) = z23x3x22 := (sF_get).trans e23x3x22.symm
                  subst q23x3x22
                  refine g_if_le 28 32 (gd rfl) rfl rfl (fun c23x3x25 => ?_) (fun c23x3x25 => ?_)
                  · skip
                    exact zn_le c23x3x25 (in_c 1 rfl) rfl
                  · skip
                    refine g_iconst 1 29 (gd rfl) rfl rfl ?_
                    refine g_goto 33 (gd rfl) rfl ?_
                    refine g_ireturn (gd rfl) rfl (nb01 (in_w 0 1 (in_c 1 rfl) rfl)) (hp23x3 _ _ ?_)
                    show GG _ _ _ _ _ _ _ _ [.int (Int32.ofInt 1)] _ _ _
                    refine g_ireturn (gd rfl) rfl (nb01 (in_w 0 1 (in_c 1 rfl) rfl)) (hp23 _ _ ?_)
                    show GG _ _ _ _ _ _ _ _ [.int (Int32.ofInt 1)] _ _ _
                    refine g_if_eq 29 31 (gd rfl) rfl rfl (fun c26 => ?_) (fun c26 => ?_)
                    · skip
                      exact zn_eq c26 (in_c 1 rfl) rfl
                    · skip
                      refine g_iconst 0 30 (gd rfl) rfl rfl ?_
                      exact g_ireturn (gd rfl) rfl (nb01 (in_w 0 1 (in_c 0 rfl) rfl)) (hP _ _ ⟨(sF s 109 0 (Int32.ofInt 1)), hI23x3x18, (fr_sF rfl fr_rf), (Int32.ofInt 0), rfl, rfl, in_w 0 1 (in_c 0 rfl) rfl⟩)
              · skip
                exact zn_ne c7 (in_c 0 rfl) rfl
            · skip
              exact zn_ne c4x13 (in_c 0 rfl) rfl
          · skip
            have i4x10x9 := r_lt1 0 31 c4x10x9 i4x10x1 i4x2x9a rfl
            refine g_iconst 1 13 (gd rfl) rfl rfl ?_
            refine g_goto 17 (gd rfl) rfl ?_
            refine g_ireturn (gd rfl) rfl (nb01 (in_w 0 1 (in_c 1 rfl) rfl)) (hp4x10 _ _ ?_)
            show GG _ _ _ _ _ _ _ _ [.int (Int32.ofInt 1)] _ _ _
            refine g_if_eq 16 25 (gd rfl) rfl rfl (fun c4x13 => ?_) (fun c4x13 => ?_)
            · skip
              exact zn_eq c4x13 (in_c 1 rfl) rfl
            · skip
              refine g_iload_n 17 (gd rfl) rfl rfl ?_
              refine g_iload_n 18 (gd rfl) rfl rfl ?_
              refine g_cmp_eq 21 25 (gd rfl) rfl rfl (fun c4x18 => ?_) (fun c4x18 => ?_)
              · skip
                refine g_iconst 0 26 (gd rfl) rfl rfl ?_
                refine g_ireturn (gd rfl) rfl (nb01 (in_w 0 1 (in_c 0 rfl) rfl)) (hp4 _ _ ?_)
                show GG _ _ _ _ _ _ _ _ [.int (Int32.ofInt 0), .ref (A 109)] _ _ _
                refine g_if_eq 10 22 (gd rfl) rfl rfl (fun c7 => ?_) (fun c7 => ?_)
                · skip
                  refine g_iconst 0 23 (gd rfl) rfl rfl ?_
                  refine g_callv (X := _) (As := [.int (Int32.ofInt 0)]) (r := []) (b := A 109) (q := 109) 26 (gd rfl) rfl rfl rfl rfl rfl (ww_o rfl) (Nat.le_of_ble_eq_true rfl) (mc := 0) (ms := 0) (Nat.zero_le _) (Nat.zero_le _) (P := fun v u => _) ?_ (fun e u h => h) (fun v u h => h)
                  intro po23 xx23 hp23 hx23
                  refine g_enter2 (k := 271) (N := 300) (by omega) rfl (Nat.le_of_ble_eq_true rfl) ?_
                  refine g_aload_n 1 (gd rfl) rfl rfl ?_
                  refine g_iload_n 2 (gd rfl) rfl rfl ?_
                  refine g_iconst 1 3 (gd rfl) rfl rfl ?_
                  refine g_callv (X := _) (As := [.int (Int32.ofInt 0), .int (Int32.ofInt 1)]) (r := []) (b := A 109) (q := 109) 6 (gd rfl) rfl rfl rfl rfl rfl (ww_o rfl) (Nat.le_of_ble_eq_true rfl) (mc := 0) (ms := 0) (Nat.zero_le _) (Nat.zero_le _) (P := fun v u => _) ?_ (fun e u h => h) (fun v u h => h)
                  intro po23x3 xx23x3 hp23x3 hx23x3
                  refine g_enter2 (k := 270) (N := 300) (by omega) rfl (Nat.le_of_ble_eq_true rfl) ?_
                  refine g_aload_n 1 (gd rfl) rfl rfl ?_
                  refine g_iload_n 2 (gd rfl) rfl rfl ?_
                  refine g_if_ne 5 9 (gd rfl) rfl rfl (fun c23x3x2 => ?_) (fun c23x3x2 => ?_)
                  · skip
                    exact zn_ne c23x3x2 (in_c 0 rfl) rfl
                  · skip
                    refine g_iconst 1 6 (gd rfl) rfl rfl ?_
                    refine g_goto 18 (gd rfl) rfl ?_
                    refine g_putI 21 (gd rfl) rfl rfl rfl rfl ?_
                    have hI23x3x18 := inv_sF (q := 109) (j := 0) hI rfl (in_w 0 2 (in_c 1 rfl) rfl)
                    refine g_aload_n 22 (gd rfl) rfl rfl ?_
                    refine g_getI 25 (gd rfl) rfl rfl rfl (fun z23x3x22 e23x3x22 => ?_)
                    have q23x3x22 : (Int32.ofInt 1) = z23x3x22 := (sF_get).trans e23x3x22.symm
                    subst q23x3x22
                    refine g_if_le 28 32 (gd rfl) rfl rfl (fun c23x3x25 => ?_) (fun c23x3x25 => ?_)
                    · skip
                      exact zn_le c23x3x25 (in_c 1 rfl) rfl
                    · skip
                      refine g_iconst 1 29 (gd rfl) rfl rfl ?_
                      refine g_goto 33 (gd rfl) rfl ?_
                      refine g_ireturn (gd rfl) rfl (nb01 (in_w 0 1 (in_c 1 rfl) rfl)) (hp23x3 _ _ ?_)
                      show GG _ _ _ _ _ _ _ _ [.int (Int32.ofInt 1)] _ _ _
                      refine g_ireturn (gd rfl) rfl (nb01 (in_w 0 1 (in_c 1 rfl) rfl)) (hp23 _ _ ?_)
                      show GG _ _ _ _ _ _ _ _ [.int (Int32.ofInt 1)] _ _ _
                      refine g_if_eq 29 31 (gd rfl) rfl rfl (fun c26 => ?_) (fun c26 => ?_)
                      · skip
                        exact zn_eq c26 (in_c 1 rfl) rfl
                      · skip
                        refine g_iconst 0 30 (gd rfl) rfl rfl ?_
                        exact g_ireturn (gd rfl) rfl (nb01 (in_w 0 1 (in_c 0 rfl) rfl)) (hP _ _ ⟨(sF s 109 0 (Int32.ofInt 1)), hI23x3x18, (fr_sF rfl fr_rf), (Int32.ofInt 0), rfl, rfl, in_w 0 1 (in_c 0 rfl) rfl⟩)
                · skip
                  exact zn_ne c7 (in_c 0 rfl) rfl
              · skip
                refine g_iconst 1 22 (gd rfl) rfl rfl ?_
                refine g_goto 26 (gd rfl) rfl ?_
                refine g_ireturn (gd rfl) rfl (nb01 (in_w 0 1 (in_c 1 rfl) rfl)) (hp4 _ _ ?_)
                show GG _ _ _ _ _ _ _ _ [.int (Int32.ofInt 1), .ref (A 109)] _ _ _
                refine g_if_eq 10 22 (gd rfl) rfl rfl (fun c7 => ?_) (fun c7 => ?_)
                · skip
                  exact zn_eq c7 (in_c 1 rfl) rfl
                · skip
                  refine g_aload_n 11 (gd rfl) rfl rfl ?_
                  refine g_iload_n 12 (gd rfl) rfl rfl ?_
                  refine g_callv (X := _) (As := [.int x3]) (r := [.ref (A 109)]) (b := A 109) (q := 109) 15 (gd rfl) rfl rfl rfl rfl rfl (ww_o rfl) (Nat.le_of_ble_eq_true rfl) (mc := 0) (ms := 0) (Nat.zero_le _) (Nat.zero_le _) (P := fun v u => _) ?_ (fun e u h => h) (fun v u h => h)
                  intro po12 xx12 hp12 hx12
                  refine g_enter2 (k := 272) (N := 300) (by omega) rfl (Nat.le_of_ble_eq_true rfl) ?_
                  refine g_iload_n 1 (gd rfl) rfl rfl ?_
                  refine g_if_lt 4 16 (gd rfl) rfl rfl (fun c12x1 => ?_) (fun c12x1 => ?_)
                  · skip
                    have i12x1 := z_lt (-2147483648) (-1) c12x1 (i_rng x3) rfl
                    refine g_iconst 0 17 (gd rfl) rfl rfl ?_
                    refine g_ireturn (gd rfl) rfl (nb01 (in_w 0 1 (in_c 0 rfl) rfl)) (hp12 _ _ ?_)
                    show GG _ _ _ _ _ _ _ _ [.int (Int32.ofInt 0), .ref (A 109)] _ _ _
                    refine g_if_eq 18 22 (gd rfl) rfl rfl (fun c15 => ?_) (fun c15 => ?_)
                    · skip
                      refine g_iconst 0 23 (gd rfl) rfl rfl ?_
                      refine g_callv (X := _) (As := [.int (Int32.ofInt 0)]) (r := []) (b := A 109) (q := 109) 26 (gd rfl) rfl rfl rfl rfl rfl (ww_o rfl) (Nat.le_of_ble_eq_true rfl) (mc := 0) (ms := 0) (Nat.zero_le _) (Nat.zero_le _) (P := fun v u => _) ?_ (fun e u h => h) (fun v u h => h)
                      intro po23 xx23 hp23 hx23
                      refine g_enter2 (k := 271) (N := 300) (by omega) rfl (Nat.le_of_ble_eq_true rfl) ?_
                      refine g_aload_n 1 (gd rfl) rfl rfl ?_
                      refine g_iload_n 2 (gd rfl) rfl rfl ?_
                      refine g_iconst 1 3 (gd rfl) rfl rfl ?_
                      refine g_callv (X := _) (As := [.int (Int32.ofInt 0), .int (Int32.ofInt 1)]) (r := []) (b := A 109) (q := 109) 6 (gd rfl) rfl rfl rfl rfl rfl (ww_o rfl) (Nat.le_of_ble_eq_true rfl) (mc := 0) (ms := 0) (Nat.zero_le _) (Nat.zero_le _) (P := fun v u => _) ?_ (fun e u h => h) (fun v u h => h)
                      intro po23x3 xx23x3 hp23x3 hx23x3
                      refine g_enter2 (k := 270) (N := 300) (by omega) rfl (Nat.le_of_ble_eq_true rfl) ?_
                      refine g_aload_n 1 (gd rfl) rfl rfl ?_
                      refine g_iload_n 2 (gd rfl) rfl rfl ?_
                      refine g_if_ne 5 9 (gd rfl) rfl rfl (fun c23x3x2 => ?_) (fun c23x3x2 => ?_)
                      · skip
                        exact zn_ne c23x3x2 (in_c 0 rfl) rfl
                      · skip
                        refine g_iconst 1 6 (gd rfl) rfl rfl ?_
                        refine g_goto 18 (gd rfl) rfl ?_
                        refine g_putI 21 (gd rfl) rfl rfl rfl rfl ?_
                        have hI23x3x18 := inv_sF (q := 109) (j := 0) hI rfl (in_w 0 2 (in_c 1 rfl) rfl)
                        refine g_aload_n 22 (gd rfl) rfl rfl ?_
                        refine g_getI 25 (gd rfl) rfl rfl rfl (fun z23x3x22 e23x3x22 => ?_)
                        have q23x3x22 : (Int32.ofInt 1) = z23x3x22 := (sF_get).trans e23x3x22.symm
                        subst q23x3x22
                        refine g_if_le 28 32 (gd rfl) rfl rfl (fun c23x3x25 => ?_) (fun c23x3x25 => ?_)
                        · skip
                          exact zn_le c23x3x25 (in_c 1 rfl) rfl
                        · skip
                          refine g_iconst 1 29 (gd rfl) rfl rfl ?_
                          refine g_goto 33 (gd rfl) rfl ?_
                          refine g_ireturn (gd rfl) rfl (nb01 (in_w 0 1 (in_c 1 rfl) rfl)) (hp23x3 _ _ ?_)
                          show GG _ _ _ _ _ _ _ _ [.int (Int32.ofInt 1)] _ _ _
                          refine g_ireturn (gd rfl) rfl (nb01 (in_w 0 1 (in_c 1 rfl) rfl)) (hp23 _ _ ?_)
                          show GG _ _ _ _ _ _ _ _ [.int (Int32.ofInt 1)] _ _ _
                          refine g_if_eq 29 31 (gd rfl) rfl rfl (fun c26 => ?_) (fun c26 => ?_)
                          · skip
                            exact zn_eq c26 (in_c 1 rfl) rfl
                          · skip
                            refine g_iconst 0 30 (gd rfl) rfl rfl ?_
                            exact g_ireturn (gd rfl) rfl (nb01 (in_w 0 1 (in_c 0 rfl) rfl)) (hP _ _ ⟨(sF s 109 0 (Int32.ofInt 1)), hI23x3x18, (fr_sF rfl fr_rf), (Int32.ofInt 0), rfl, rfl, in_w 0 1 (in_c 0 rfl) rfl⟩)
                    · skip
                      exact zn_ne c15 (in_c 0 rfl) rfl
                  · skip
                    have i12x1 := z_ge 0 2147483647 c12x1 (i_rng x3) rfl
                    refine g_iload_n 5 (gd rfl) rfl rfl ?_
                    refine g_aload_n 6 (gd rfl) rfl rfl ?_
                    refine g_getI 9 (gd rfl) rfl rfl rfl (fun z12x6 e12x6 => ?_)
                    have q12x6 : u_109_20 = z12x6 := (e_109_20).trans e12x6.symm
                    subst q12x6
                    refine g_cmp_ge 12 16 (gd rfl) rfl rfl (fun c12x9 => ?_) (fun c12x9 => ?_)
                    · skip
                      have i12x9 := r_le2 1 2147483647 c12x9 i4x2x9a i12x1 rfl
                      refine g_iconst 0 17 (gd rfl) rfl rfl ?_
                      refine g_ireturn (gd rfl) rfl (nb01 (in_w 0 1 (in_c 0 rfl) rfl)) (hp12 _ _ ?_)
                      show GG _ _ _ _ _ _ _ _ [.int (Int32.ofInt 0), .ref (A 109)] _ _ _
                      refine g_if_eq 18 22 (gd rfl) rfl rfl (fun c15 => ?_) (fun c15 => ?_)
                      · skip
                        refine g_iconst 0 23 (gd rfl) rfl rfl ?_
                        refine g_callv (X := _) (As := [.int (Int32.ofInt 0)]) (r := []) (b := A 109) (q := 109) 26 (gd rfl) rfl rfl rfl rfl rfl (ww_o rfl) (Nat.le_of_ble_eq_true rfl) (mc := 0) (ms := 0) (Nat.zero_le _) (Nat.zero_le _) (P := fun v u => _) ?_ (fun e u h => h) (fun v u h => h)
                        intro po23 xx23 hp23 hx23
                        refine g_enter2 (k := 271) (N := 300) (by omega) rfl (Nat.le_of_ble_eq_true rfl) ?_
                        refine g_aload_n 1 (gd rfl) rfl rfl ?_
                        refine g_iload_n 2 (gd rfl) rfl rfl ?_
                        refine g_iconst 1 3 (gd rfl) rfl rfl ?_
                        refine g_callv (X := _) (As := [.int (Int32.ofInt 0), .int (Int32.ofInt 1)]) (r := []) (b := A 109) (q := 109) 6 (gd rfl) rfl rfl rfl rfl rfl (ww_o rfl) (Nat.le_of_ble_eq_true rfl) (mc := 0) (ms := 0) (Nat.zero_le _) (Nat.zero_le _) (P := fun v u => _) ?_ (fun e u h => h) (fun v u h => h)
                        intro po23x3 xx23x3 hp23x3 hx23x3
                        refine g_enter2 (k := 270) (N := 300) (by omega) rfl (Nat.le_of_ble_eq_true rfl) ?_
                        refine g_aload_n 1 (gd rfl) rfl rfl ?_
                        refine g_iload_n 2 (gd rfl) rfl rfl ?_
                        refine g_if_ne 5 9 (gd rfl) rfl rfl (fun c23x3x2 => ?_) (fun c23x3x2 => ?_)
                        · skip
                          exact zn_ne c23x3x2 (in_c 0 rfl) rfl
                        · skip
                          refine g_iconst 1 6 (gd rfl) rfl rfl ?_
                          refine g_goto 18 (gd rfl) rfl ?_
                          refine g_putI 21 (gd rfl) rfl rfl rfl rfl ?_
                          have hI23x3x18 := inv_sF (q := 109) (j := 0) hI rfl (in_w 0 2 (in_c 1 rfl) rfl)
                          refine g_aload_n 22 (gd rfl) rfl rfl ?_
                          refine g_getI 25 (gd rfl) rfl rfl rfl (fun z23x3x22 e23x3x22 => ?_)
                          have q23x3x22 : (Int32.ofInt 1) = z23x3x22 := (sF_get).trans e23x3x22.symm
                          subst q23x3x22
                          refine g_if_le 28 32 (gd rfl) rfl rfl (fun c23x3x25 => ?_) (fun c23x3x25 => ?_)
                          · skip
                            exact zn_le c23x3x25 (in_c 1 rfl) rfl
                          · skip
                            refine g_iconst 1 29 (gd rfl) rfl rfl ?_
                            refine g_goto 33 (gd rfl) rfl ?_
                            refine g_ireturn (gd rfl) rfl (nb01 (in_w 0 1 (in_c 1 rfl) rfl)) (hp23x3 _ _ ?_)
                            show GG _ _ _ _ _ _ _ _ [.int (Int32.ofInt 1)] _ _ _
                            refine g_ireturn (gd rfl) rfl (nb01 (in_w 0 1 (in_c 1 rfl) rfl)) (hp23 _ _ ?_)
                            show GG _ _ _ _ _ _ _ _ [.int (Int32.ofInt 1)] _ _ _
                            refine g_if_eq 29 31 (gd rfl) rfl rfl (fun c26 => ?_) (fun c26 => ?_)
                            · skip
                              exact zn_eq c26 (in_c 1 rfl) rfl
                            · skip
                              refine g_iconst 0 30 (gd rfl) rfl rfl ?_
                              exact g_ireturn (gd rfl) rfl (nb01 (in_w 0 1 (in_c 0 rfl) rfl)) (hP _ _ ⟨(sF s 109 0 (Int32.ofInt 1)), hI23x3x18, (fr_sF rfl fr_rf), (Int32.ofInt 0), rfl, rfl, in_w 0 1 (in_c 0 rfl) rfl⟩)
                      · skip
                        exact zn_ne c15 (in_c 0 rfl) rfl
                    · skip
                      have i12x9 := r_lt1 0 31 c12x9 i12x1 i4x2x9a rfl
                      refine g_iconst 1 13 (gd rfl) rfl rfl ?_
                      refine g_goto 17 (gd rfl) rfl ?_
                      refine g_ireturn (gd rfl) rfl (nb01 (in_w 0 1 (in_c 1 rfl) rfl)) (hp12 _ _ ?_)
                      show GG _ _ _ _ _ _ _ _ [.int (Int32.ofInt 1), .ref (A 109)] _ _ _
                      refine g_if_eq 18 22 (gd rfl) rfl rfl (fun c15 => ?_) (fun c15 => ?_)
                      · skip
                        exact zn_eq c15 (in_c 1 rfl) rfl
                      · skip
                        refine g_iconst 1 19 (gd rfl) rfl rfl ?_
                        refine g_goto 23 (gd rfl) rfl ?_
                        refine g_callv (X := _) (As := [.int (Int32.ofInt 1)]) (r := []) (b := A 109) (q := 109) 26 (gd rfl) rfl rfl rfl rfl rfl (ww_o rfl) (Nat.le_of_ble_eq_true rfl) (mc := 0) (ms := 0) (Nat.zero_le _) (Nat.zero_le _) (P := fun v u => _) ?_ (fun e u h => h) (fun v u h => h)
                        intro po23 xx23 hp23 hx23
                        refine g_enter2 (k := 271) (N := 300) (by omega) rfl (Nat.le_of_ble_eq_true rfl) ?_
                        refine g_aload_n 1 (gd rfl) rfl rfl ?_
                        refine g_iload_n 2 (gd rfl) rfl rfl ?_
                        refine g_iconst 1 3 (gd rfl) rfl rfl ?_
                        refine g_callv (X := _) (As := [.int (Int32.ofInt 1), .int (Int32.ofInt 1)]) (r := []) (b := A 109) (q := 109) 6 (gd rfl) rfl rfl rfl rfl rfl (ww_o rfl) (Nat.le_of_ble_eq_true rfl) (mc := 0) (ms := 0) (Nat.zero_le _) (Nat.zero_le _) (P := fun v u => _) ?_ (fun e u h => h) (fun v u h => h)
                        intro po23x3 xx23x3 hp23x3 hx23x3
                        refine g_enter2 (k := 270) (N := 300) (by omega) rfl (Nat.le_of_ble_eq_true rfl) ?_
                        refine g_aload_n 1 (gd rfl) rfl rfl ?_
                        refine g_iload_n 2 (gd rfl) rfl rfl ?_
                        refine g_if_ne 5 9 (gd rfl) rfl rfl (fun c23x3x2 => ?_) (fun c23x3x2 => ?_)
                        · skip
                          refine g_iload_n 10 (gd rfl) rfl rfl ?_
                          refine g_if_ne 13 17 (gd rfl) rfl rfl (fun c23x3x10 => ?_) (fun c23x3x10 => ?_)
                          · skip
                            refine g_iconst 0 18 (gd rfl) rfl rfl ?_
                            refine g_putI 21 (gd rfl) rfl rfl rfl rfl ?_
                            have hI23x3x18 := inv_sF (q := 109) (j := 0) hI rfl (in_w 0 2 (in_c 0 rfl) rfl)
                            refine g_aload_n 22 (gd rfl) rfl rfl ?_
                            refine g_getI 25 (gd rfl) rfl rfl rfl (fun z23x3x22 e23x3x22 => ?_)
                            have q23x3x22 : (Int32.ofInt 0) = z23x3x22 := (sF_get).trans e23x3x22.symm
                            subst q23x3x22
                            refine g_if_le 28 32 (gd rfl) rfl rfl (fun c23x3x25 => ?_) (fun c23x3x25 => ?_)
                            · skip
                              refine g_iconst 0 33 (gd rfl) rfl rfl ?_
                              refine g_ireturn (gd rfl) rfl (nb01 (in_w 0 1 (in_c 0 rfl) rfl)) (hp23x3 _ _ ?_)
                              show GG _ _ _ _ _ _ _ _ [.int (Int32.ofInt 0)] _ _ _
                              refine g_ireturn (gd rfl) rfl (nb01 (in_w 0 1 (in_c 0 rfl) rfl)) (hp23 _ _ ?_)
                              show GG _ _ _ _ _ _ _ _ [.int (Int32.ofInt 0)] _ _ _
                              refine g_if_eq 29 31 (gd rfl) rfl rfl (fun c26 => ?_) (fun c26 => ?_)
                              · skip
                                refine g_aload_n 32 (gd rfl) rfl rfl ?_
                                refine g_iload_n 33 (gd rfl) rfl rfl ?_
                                refine g_iload_n 34 (gd rfl) rfl rfl ?_
                                have p34 : (x2).toInt < ((sF s 109 0 (Int32.ofInt 0)).2.2.1 109 20).toInt ∧ (x1).toInt ≠ (x2).toInt := by exact ⟨by rw [← (show u_109_20 = (sF s 109 0 (Int32.ofInt 0)).2.2.1 109 20 from sF_ne rfl (e_109_20))]; have a0 := i12x9; unfold In at a0; have a1 := i4x10x9; unfold In at a1; have a2 := i4x2x9; unfold In at a2; have a3 := i4x2x9a; unfold In at a3; have a4 := (in_c 0 rfl); unfold In at a4; omega, by have a0 := i12x9; unfold In at a0; have a1 := i4x10x9; unfold In at a1; have a2 := i4x2x9; unfold In at a2; have a3 := i4x2x9a; unfold In at a3; have a4 := (in_c 0 rfl); unfold In at a4; omega⟩
                                refine g_callv (X := _) (As := [.int x1, .int x2]) (r := []) (b := A 109) (q := 109) 37 (gd rfl) rfl rfl rfl rfl rfl (ww_o rfl) (Nat.le_of_ble_eq_true rfl) (Nat.zero_le _) (Nat.zero_le _) (k_352 (by omega) hI23x3x18 (in_w 0 31 i4x2x9 rfl) (in_w 0 31 i4x10x9 rfl) p34) (fun e u h => h) (fun v u h => ?_)
                                obtain ⟨s34, hI34, hF34, z34, rfl, rfl⟩ := h
                                show GG _ _ _ _ _ _ _ _ [.long z34] _ _ _
                                refine g_lstore 39 (gd rfl) rfl (Nat.le_of_ble_eq_true rfl) ?_
                                refine g_aload_n 40 (gd rfl) rfl rfl ?_
                                refine g_getA (q2 := 148) 43 (gd rfl) rfl rfl rfl rfl ?_
                                refine g_iload_n 44 (gd rfl) rfl rfl ?_
                                refine g_iaload 45 (gd rfl) rfl (n := 34) rfl (in_ix i12x9 rfl) (fun z44 e44 => ?_)
                                have i44 := inv_I hI34 (n := 34) (t := 0) (-1) 1000 rfl (in_ix i12x9 rfl) rfl e44
                                refine g_if_lt 48 52 (gd rfl) rfl rfl (fun c45 => ?_) (fun c45 => ?_)
                                · skip
                                  have i45 := z_lt (-1) (-1) c45 i44 rfl
                                  refine g_iconst 0 53 (gd rfl) rfl rfl ?_
                                  exact g_ireturn (gd rfl) rfl (nb01 (in_w 0 1 (in_c 0 rfl) rfl)) (hP _ _ ⟨s34, hI34, (fr_tr rfl (fr_sF rfl fr_rf) hF34), (Int32.ofInt 0), rfl, rfl, in_w 0 1 (in_c 0 rfl) rfl⟩)
                                · skip
                                  have i45 := z_ge 0 1000 c45 i44 rfl
                                  refine g_iconst 1 49 (gd rfl) rfl rfl ?_
                                  refine g_goto 53 (gd rfl) rfl ?_
                                  exact g_ireturn (gd rfl) rfl (nb01 (in_w 0 1 (in_c 1 rfl) rfl)) (hP _ _ ⟨s34, hI34, (fr_tr rfl (fr_sF rfl fr_rf) hF34), (Int32.ofInt 1), rfl, rfl, in_w 0 1 (in_c 1 rfl) rfl⟩)
                              · skip
                                exact zn_ne c26 (in_c 0 rfl) rfl
                            · skip
                              exact zn_gt c23x3x25 (in_c 0 rfl) rfl
                          · skip
                            exact zn_eq c23x3x10 (in_c 1 rfl) rfl
                        · skip
                          exact zn_eq c23x3x2 (in_c 1 rfl) rfl
