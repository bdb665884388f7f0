/-! FUNCTIONAL CONTRACTS, by fgen.py -/
theorem oc_213_0 : (Int32.ofInt (-1000000)).toInt = (-1000000) ∧ (Int32.ofInt (-1)).toInt = (-1) ∧ (Int32.ofInt 0).toInt = 0 ∧ (Int32.ofInt 1).toInt = 1 ∧ (Int32.ofInt 26).toInt = 26 ∧ (Int32.ofInt 4000).toInt = 4000 ∧ (Int32.ofInt 1000000).toInt = 1000000 := ⟨rfl, rfl, rfl, rfl, rfl, rfl, rfl⟩
/-- GraphHouse.arc -/
theorem f_213_0 {Z : AmZ} {A : Nat → Nat} {s : GS} {ex : va_W} {d : Nat} {x1 : Int32} {x2 : Int32} {x3 : Int32} {x4 : Int32} {x5 : Int32} {u_2_0 : Int32} {u_2_1 : Int32} {u_30_0 : Int32} (hd : 7 ≤ d) (hI : Inv s) (e_2_0 : u_2_0 = s.2.2.1 2 0) (e_2_1 : u_2_1 = s.2.2.1 2 1) (e_30_0 : u_30_0 = s.2.2.1 30 0) (q_0 : KL s) : GC Z d 213 [.ref (A 0), .int x1, .int x2, .int x3, .int x4, .int x5] (WW Z A s ++ ex) 4 28018 (fun v u => ∃ a : Nat, ∃ t : GS, Inv t ∧ Fr fm_213_0 s t ∧ ∃ z : Int32, v = some (.int z) ∧ u = WW Z (ax A 30 a) t ++ ex ∧ In z (-3) 159 ∧ (KL t) ∧ ((HNC s x1 ∧ HNC s x2 ∧ In x3 (-1000000) 1000000 ∧ In x4 0 1000000 ∧ In x5 0 25) ∧ (s.2.2.1 2 0).toInt ≤ 3999) ∧ ((z).toInt = -3 → gvC t = gvC s ∧ fpl (ctg (s.1 4)) = 160) ∧ ((z).toInt ≠ -3 → gvC t = gqA (gvC s) (z).toNatClampNeg x1 x2 x3 x4 x5 ∧ fpl (ctg (s.1 4)) = (z).toNatClampNeg ∧ 0 ≤ (z).toInt) ∧ (TQ s → TQ t) ∧ (∀ k : Nat, (k : Int) < 7 * (s.2.2.1 2 0).toInt → t.1 30 k = s.1 30 k) ∧ ((z).toInt ≠ -3 → t.1 30 (7 * (s.2.2.1 2 0).toInt.toNat) = (Int32.ofInt 1) ∧ t.1 30 (7 * (s.2.2.1 2 0).toInt.toNat + 1) = z ∧ t.1 30 (7 * (s.2.2.1 2 0).toInt.toNat + 2) = x1 ∧ t.1 30 (7 * (s.2.2.1 2 0).toInt.toNat + 3) = x2 ∧ t.1 30 (7 * (s.2.2.1 2 0).toInt.toNat + 4) = x3 ∧ t.1 30 (7 * (s.2.2.1 2 0).toInt.toNat + 5) = x4 ∧ t.1 30 (7 * (s.2.2.1 2 0).toInt.toNat + 6) = x5)) (gEx Z A ex ([], [], [], []) s (¬ (HNC s x1 ∧ HNC s x2 ∧ In x3 (-1000000) 1000000 ∧ In x4 0 1000000 ∧ In x5 0 25)) ((HNC s x1 ∧ HNC s x2 ∧ In x3 (-1000000) 1000000 ∧ In x4 0 1000000 ∧ In x5 0 25) ∧ ¬ (s.2.2.1 2 0).toInt ≤ 3999)) := by
  intro post xp hP hX
  refine g_enter2 (k := 213) (N := 900) (by first | exact dq1 hd rfl | exact dq0 hd rfl | exact dq2 hd rfl | exact dq3 hd rfl | omega) rfl (Nat.le_of_ble_eq_true rfl) ?_
  refine g_aload_n 1 (gd rfl) rfl rfl ?_
  refine g_getA (q2 := 1) 4 (gd rfl) rfl rfl rfl rfl ?_
  refine g_iload_n 5 (gd rfl) rfl rfl ?_
  refine g_iload_n 6 (gd rfl) rfl rfl ?_
  refine g_iload_n 7 (gd rfl) rfl rfl ?_
  refine g_iload 9 (gd rfl) rfl rfl ?_
  refine g_iload 11 (gd rfl) rfl rfl ?_
  refine g_callv (X := _) (As := [.int x1, .int x2, .int x3, .int x4, .int x5]) (r := []) (b := A 1) (q := 1) 14 (gd rfl) rfl rfl rfl rfl rfl (ww_o rfl) (Nat.le_of_ble_eq_true rfl) (mc := 0) (ms := 0) (Nat.zero_le _) (Nat.zero_le _) (P := fun v u => _) ?_ (fun e u h => h) (fun v u h => h)
  intro po11 xx11 hp11 hx11
  refine g_enter2 (k := 123) (N := 300) (by first | exact dq1 hd rfl | exact dq0 hd rfl | exact dq2 hd rfl | exact dq3 hd rfl | omega) rfl (Nat.le_of_ble_eq_true rfl) ?_
  refine g_aload_n 1 (gd rfl) rfl rfl ?_
  refine g_getA (q2 := 2) 4 (gd rfl) rfl rfl rfl rfl ?_
  refine g_iload_n 5 (gd rfl) rfl rfl ?_
  refine g_callv (X := _) (As := [.int x1]) (r := []) (b := A 2) (q := 2) 8 (gd rfl) rfl rfl rfl rfl rfl (ww_o rfl) (Nat.le_of_ble_eq_true rfl) (mc := 0) (ms := 0) (Nat.zero_le _) (Nat.zero_le _) (P := fun v u => _) ?_ (fun e u h => h) (fun v u h => h)
  intro po11x5 xx11x5 hp11x5 hx11x5
  refine g_enter2 (k := 94) (N := 300) (by first | exact dq1 hd rfl | exact dq0 hd rfl | exact dq2 hd rfl | exact dq3 hd rfl | omega) rfl (Nat.le_of_ble_eq_true rfl) ?_
  refine g_iload_n 1 (gd rfl) rfl rfl ?_
  refine g_if_lt 4 16 (gd rfl) rfl rfl (fun c11x5x1 => ?_) (fun c11x5x1 => ?_)
  · skip
    have i11x5x1 := z_lt (-2147483648) (-1) c11x5x1 (i_rng x1) rfl
    refine g_iconst 0 17 (gd rfl) rfl rfl ?_
    refine g_ireturn (gd rfl) rfl (nb01 (in_w 0 1 (in_c 0 rfl) rfl)) (hp11x5 _ _ ?_)
    show GG _ _ _ _ _ _ _ _ [.int (Int32.ofInt 0)] _ _ _
    refine g_if_eq 11 49 (gd rfl) rfl rfl (fun c11x8 => ?_) (fun c11x8 => ?_)
    · skip
      refine g_iconst 0 50 (gd rfl) rfl rfl ?_
      refine g_ireturn (gd rfl) rfl (nb01 (in_w 0 1 (in_c 0 rfl) rfl)) (hp11 _ _ ?_)
      show GG _ _ _ _ _ _ _ _ [.int (Int32.ofInt 0)] _ _ _
      refine g_thr (E := am_IA) (y := yX11_allow) 17 (gd rfl) rfl rfl (Or.inl ⟨rfl, rfl, rfl⟩) (by first | exact dq1 hd rfl | exact dq0 hd rfl | exact dq2 hd rfl | exact dq3 hd rfl | omega) (Nat.le_of_ble_eq_true rfl) (Nat.le_of_ble_eq_true rfl) (Nat.le_of_ble_eq_true rfl) (fun c14 => ?_) (fun c14 => ?_)
      · skip
        exact zn_ne c14 (in_c 0 rfl) rfl
      · skip
        have n14 : ¬ (HNC s x1 ∧ HNC s x2 ∧ In x3 (-1000000) 1000000 ∧ In x4 0 1000000 ∧ In x5 0 25) := by unfold HNC In; rw [← e_2_1]; (first | have a0 := oa4 ((inv_F hI 448 28000 rfl e_30_0)) ((inv_F hI 0 32 rfl e_2_1)) ((inv_F hI 0 4000 rfl e_2_0)) i11x5x1 | ((first | have a0 := in_u ((inv_F hI 448 28000 rfl e_30_0)) | (have a0 := (inv_F hI 448 28000 rfl e_30_0); unfold In at a0)); (first | have a1 := in_u ((inv_F hI 0 32 rfl e_2_1)) | (have a1 := (inv_F hI 0 32 rfl e_2_1); unfold In at a1)); (first | have a2 := in_u ((inv_F hI 0 4000 rfl e_2_0)) | (have a2 := (inv_F hI 0 4000 rfl e_2_0); unfold In at a2)); (first | have a3 := in_u i11x5x1 | (have a3 := i11x5x1; unfold In at a3)))); have oc := oc_213_0; omega
        exact (hX _ _ ⟨Or.inl ⟨rfl, n14⟩, s, hI, fr_rf, rfl⟩)
    · skip
      exact zn_ne c11x8 (in_c 0 rfl) rfl
  · skip
    have i11x5x1 := z_ge 0 2147483647 c11x5x1 (i_rng x1) rfl
    refine g_iload_n 5 (gd rfl) rfl rfl ?_
    refine g_aload_n 6 (gd rfl) rfl rfl ?_
    refine g_getI 9 (gd rfl) rfl rfl rfl (fun z11x5x6 e11x5x6 => ?_)
    have q11x5x6 : u_2_1 = z11x5x6 := (e_2_1).trans e11x5x6.symm
    subst q11x5x6
    refine g_cmp_ge 12 16 (gd rfl) rfl rfl (fun c11x5x9 => ?_) (fun c11x5x9 => ?_)
    · skip
      refine g_iconst 0 17 (gd rfl) rfl rfl ?_
      refine g_ireturn (gd rfl) rfl (nb01 (in_w 0 1 (in_c 0 rfl) rfl)) (hp11x5 _ _ ?_)
      show GG _ _ _ _ _ _ _ _ [.int (Int32.ofInt 0)] _ _ _
      refine g_if_eq 11 49 (gd rfl) rfl rfl (fun c11x8 => ?_) (fun c11x8 => ?_)
      · skip
        refine g_iconst 0 50 (gd rfl) rfl rfl ?_
        refine g_ireturn (gd rfl) rfl (nb01 (in_w 0 1 (in_c 0 rfl) rfl)) (hp11 _ _ ?_)
        show GG _ _ _ _ _ _ _ _ [.int (Int32.ofInt 0)] _ _ _
        refine g_thr (E := am_IA) (y := yX11_allow) 17 (gd rfl) rfl rfl (Or.inl ⟨rfl, rfl, rfl⟩) (by first | exact dq1 hd rfl | exact dq0 hd rfl | exact dq2 hd rfl | exact dq3 hd rfl | omega) (Nat.le_of_ble_eq_true rfl) (Nat.le_of_ble_eq_true rfl) (Nat.le_of_ble_eq_true rfl) (fun c14 => ?_) (fun c14 => ?_)
        · skip
          exact zn_ne c14 (in_c 0 rfl) rfl
        · skip
          have n14 : ¬ (HNC s x1 ∧ HNC s x2 ∧ In x3 (-1000000) 1000000 ∧ In x4 0 1000000 ∧ In x5 0 25) := by unfold HNC In; rw [← e_2_1]; (first | have a0 := oa4 ((inv_F hI 448 28000 rfl e_30_0)) ((inv_F hI 0 32 rfl e_2_1)) ((inv_F hI 0 4000 rfl e_2_0)) i11x5x1 | ((first | have a0 := in_u ((inv_F hI 448 28000 rfl e_30_0)) | (have a0 := (inv_F hI 448 28000 rfl e_30_0); unfold In at a0)); (first | have a1 := in_u ((inv_F hI 0 32 rfl e_2_1)) | (have a1 := (inv_F hI 0 32 rfl e_2_1); unfold In at a1)); (first | have a2 := in_u ((inv_F hI 0 4000 rfl e_2_0)) | (have a2 := (inv_F hI 0 4000 rfl e_2_0); unfold In at a2)); (first | have a3 := in_u i11x5x1 | (have a3 := i11x5x1; unfold In at a3)))); have oc := oc_213_0; omega
          exact (hX _ _ ⟨Or.inl ⟨rfl, n14⟩, s, hI, fr_rf, rfl⟩)
      · skip
        exact zn_ne c11x8 (in_c 0 rfl) rfl
    · skip
      have i11x5x9 := r_lt1 0 31 c11x5x9 i11x5x1 (inv_F hI 0 32 rfl e_2_1) rfl
      have i11x5x9a := r_lt2 1 32 c11x5x9 i11x5x1 (inv_F hI 0 32 rfl e_2_1) rfl
      refine g_iconst 1 13 (gd rfl) rfl rfl ?_
      refine g_goto 17 (gd rfl) rfl ?_
      refine g_ireturn (gd rfl) rfl (nb01 (in_w 0 1 (in_c 1 rfl) rfl)) (hp11x5 _ _ ?_)
      show GG _ _ _ _ _ _ _ _ [.int (Int32.ofInt 1)] _ _ _
      refine g_if_eq 11 49 (gd rfl) rfl rfl (fun c11x8 => ?_) (fun c11x8 => ?_)
      · skip
        exact zn_eq c11x8 (in_c 1 rfl) rfl
      · skip
        refine g_aload_n 12 (gd rfl) rfl rfl ?_
        refine g_getA (q2 := 2) 15 (gd rfl) rfl rfl rfl rfl ?_
        refine g_iload_n 16 (gd rfl) rfl rfl ?_
        refine g_callv (X := _) (As := [.int x2]) (r := []) (b := A 2) (q := 2) 19 (gd rfl) rfl rfl rfl rfl rfl (ww_o rfl) (Nat.le_of_ble_eq_true rfl) (mc := 0) (ms := 0) (Nat.zero_le _) (Nat.zero_le _) (P := fun v u => _) ?_ (fun e u h => h) (fun v u h => h)
        intro po11x16 xx11x16 hp11x16 hx11x16
        refine g_enter2 (k := 94) (N := 300) (by first | exact dq1 hd rfl | exact dq0 hd rfl | exact dq2 hd rfl | exact dq3 hd rfl | omega) rfl (Nat.le_of_ble_eq_true rfl) ?_
        refine g_iload_n 1 (gd rfl) rfl rfl ?_
        refine g_if_lt 4 16 (gd rfl) rfl rfl (fun c11x16x1 => ?_) (fun c11x16x1 => ?_)
        · skip
          have i11x16x1 := z_lt (-2147483648) (-1) c11x16x1 (i_rng x2) rfl
          refine g_iconst 0 17 (gd rfl) rfl rfl ?_
          refine g_ireturn (gd rfl) rfl (nb01 (in_w 0 1 (in_c 0 rfl) rfl)) (hp11x16 _ _ ?_)
          show GG _ _ _ _ _ _ _ _ [.int (Int32.ofInt 0)] _ _ _
          refine g_if_eq 22 49 (gd rfl) rfl rfl (fun c11x19 => ?_) (fun c11x19 => ?_)
          · skip
            refine g_iconst 0 50 (gd rfl) rfl rfl ?_
            refine g_ireturn (gd rfl) rfl (nb01 (in_w 0 1 (in_c 0 rfl) rfl)) (hp11 _ _ ?_)
            show GG _ _ _ _ _ _ _ _ [.int (Int32.ofInt 0)] _ _ _
            refine g_thr (E := am_IA) (y := yX11_allow) 17 (gd rfl) rfl rfl (Or.inl ⟨rfl, rfl, rfl⟩) (by first | exact dq1 hd rfl | exact dq0 hd rfl | exact dq2 hd rfl | exact dq3 hd rfl | omega) (Nat.le_of_ble_eq_true rfl) (Nat.le_of_ble_eq_true rfl) (Nat.le_of_ble_eq_true rfl) (fun c14 => ?_) (fun c14 => ?_)
            · skip
              exact zn_ne c14 (in_c 0 rfl) rfl
            · skip
              have n14 : ¬ (HNC s x1 ∧ HNC s x2 ∧ In x3 (-1000000) 1000000 ∧ In x4 0 1000000 ∧ In x5 0 25) := by unfold HNC In; rw [← e_2_1]; (first | have a0 := oa5 i11x5x9 ((inv_F hI 448 28000 rfl e_30_0)) i11x5x9a ((inv_F hI 0 4000 rfl e_2_0)) i11x16x1 | ((first | have a0 := in_u i11x5x9 | (have a0 := i11x5x9; unfold In at a0)); (first | have a1 := in_u ((inv_F hI 448 28000 rfl e_30_0)) | (have a1 := (inv_F hI 448 28000 rfl e_30_0); unfold In at a1)); (first | have a2 := in_u i11x5x9a | (have a2 := i11x5x9a; unfold In at a2)); (first | have a3 := in_u ((inv_F hI 0 4000 rfl e_2_0)) | (have a3 := (inv_F hI 0 4000 rfl e_2_0); unfold In at a3)); (first | have a4 := in_u i11x16x1 | (have a4 := i11x16x1; unfold In at a4)))); have oc := oc_213_0; omega
              exact (hX _ _ ⟨Or.inl ⟨rfl, n14⟩, s, hI, fr_rf, rfl⟩)
          · skip
            exact zn_ne c11x19 (in_c 0 rfl) rfl
        · skip
          have i11x16x1 := z_ge 0 2147483647 c11x16x1 (i_rng x2) rfl
          refine g_iload_n 5 (gd rfl) rfl rfl ?_
          refine g_aload_n 6 (gd rfl) rfl rfl ?_
          refine g_getI 9 (gd rfl) rfl rfl rfl (fun z11x16x6 e11x16x6 => ?_)
          have q11x16x6 : u_2_1 = z11x16x6 := (e_2_1).trans e11x16x6.symm
          subst q11x16x6
          refine g_cmp_ge 12 16 (gd rfl) rfl rfl (fun c11x16x9 => ?_) (fun c11x16x9 => ?_)
          · skip
            have i11x16x9 := r_le2 1 2147483647 c11x16x9 i11x5x9a i11x16x1 rfl
            refine g_iconst 0 17 (gd rfl) rfl rfl ?_
            refine g_ireturn (gd rfl) rfl (nb01 (in_w 0 1 (in_c 0 rfl) rfl)) (hp11x16 _ _ ?_)
            show GG _ _ _ _ _ _ _ _ [.int (Int32.ofInt 0)] _ _ _
            refine g_if_eq 22 49 (gd rfl) rfl rfl (fun c11x19 => ?_) (fun c11x19 => ?_)
            · skip
              refine g_iconst 0 50 (gd rfl) rfl rfl ?_
              refine g_ireturn (gd rfl) rfl (nb01 (in_w 0 1 (in_c 0 rfl) rfl)) (hp11 _ _ ?_)
              show GG _ _ _ _ _ _ _ _ [.int (Int32.ofInt 0)] _ _ _
              refine g_thr (E := am_IA) (y := yX11_allow) 17 (gd rfl) rfl rfl (Or.inl ⟨rfl, rfl, rfl⟩) (by first | exact dq1 hd rfl | exact dq0 hd rfl | exact dq2 hd rfl | exact dq3 hd rfl | omega) (Nat.le_of_ble_eq_true rfl) (Nat.le_of_ble_eq_true rfl) (Nat.le_of_ble_eq_true rfl) (fun c14 => ?_) (fun c14 => ?_)
              · skip
                exact zn_ne c14 (in_c 0 rfl) rfl
              · skip
                have n14 : ¬ (HNC s x1 ∧ HNC s x2 ∧ In x3 (-1000000) 1000000 ∧ In x4 0 1000000 ∧ In x5 0 25) := by unfold HNC In; rw [← e_2_1]; (first | have a0 := oa5 i11x5x9 ((inv_F hI 448 28000 rfl e_30_0)) i11x5x9a ((inv_F hI 0 4000 rfl e_2_0)) i11x16x9 | ((first | have a0 := in_u i11x5x9 | (have a0 := i11x5x9; unfold In at a0)); (first | have a1 := in_u ((inv_F hI 448 28000 rfl e_30_0)) | (have a1 := (inv_F hI 448 28000 rfl e_30_0); unfold In at a1)); (first | have a2 := in_u i11x5x9a | (have a2 := i11x5x9a; unfold In at a2)); (first | have a3 := in_u ((inv_F hI 0 4000 rfl e_2_0)) | (have a3 := (inv_F hI 0 4000 rfl e_2_0); unfold In at a3)); (first | have a4 := in_u i11x16x9 | (have a4 := i11x16x9; unfold In at a4)))); have oc := oc_213_0; omega
                exact (hX _ _ ⟨Or.inl ⟨rfl, n14⟩, s, hI, fr_rf, rfl⟩)
            · skip
              exact zn_ne c11x19 (in_c 0 rfl) rfl
          · skip
            have i11x16x9 := r_lt1 0 31 c11x16x9 i11x16x1 i11x5x9a rfl
            refine g_iconst 1 13 (gd rfl) rfl rfl ?_
            refine g_goto 17 (gd rfl) rfl ?_
            refine g_ireturn (gd rfl) rfl (nb01 (in_w 0 1 (in_c 1 rfl) rfl)) (hp11x16 _ _ ?_)
            show GG _ _ _ _ _ _ _ _ [.int (Int32.ofInt 1)] _ _ _
            refine g_if_eq 22 49 (gd rfl) rfl rfl (fun c11x19 => ?_) (fun c11x19 => ?_)
            · skip
              exact zn_eq c11x19 (in_c 1 rfl) rfl
            · skip
              refine g_iload_n 23 (gd rfl) rfl rfl ?_
              refine g_calls (As := [.int x3]) (r := []) 26 (gd rfl) rfl rfl rfl rfl rfl (Nat.le_of_ble_eq_true rfl) (mc := 0) (ms := 0) (Nat.zero_le _) (Nat.zero_le _) (P := fun v u => _) ?_ (fun v u h => h)
              intro po11x23 xx11x23 hp11x23 hx11x23
              refine g_enter2 (k := 261) (N := 300) (by first | exact dq1 hd rfl | exact dq0 hd rfl | exact dq2 hd rfl | exact dq3 hd rfl | omega) rfl (Nat.le_of_ble_eq_true rfl) ?_
              refine g_iload_n 1 (gd rfl) rfl rfl ?_
              refine g_ldc_w (-1000000) 4 (gd rfl) rfl rfl ?_
              refine g_cmp_lt 7 18 (gd rfl) rfl rfl (fun c11x23x4 => ?_) (fun c11x23x4 => ?_)
              · skip
                have i11x23x4 := r_lt1 (-2147483648) (-1000001) c11x23x4 (i_rng x3) (in_c (-1000000) rfl) rfl
                refine g_iconst 0 19 (gd rfl) rfl rfl ?_
                refine g_ireturn (gd rfl) rfl (nb01 (in_w 0 1 (in_c 0 rfl) rfl)) (hp11x23 _ _ ?_)
                show GG _ _ _ _ _ _ _ _ [.int (Int32.ofInt 0)] _ _ _
                refine g_if_eq 29 49 (gd rfl) rfl rfl (fun c11x26 => ?_) (fun c11x26 => ?_)
                · skip
                  refine g_iconst 0 50 (gd rfl) rfl rfl ?_
                  refine g_ireturn (gd rfl) rfl (nb01 (in_w 0 1 (in_c 0 rfl) rfl)) (hp11 _ _ ?_)
                  show GG _ _ _ _ _ _ _ _ [.int (Int32.ofInt 0)] _ _ _
                  refine g_thr (E := am_IA) (y := yX11_allow) 17 (gd rfl) rfl rfl (Or.inl ⟨rfl, rfl, rfl⟩) (by first | exact dq1 hd rfl | exact dq0 hd rfl | exact dq2 hd rfl | exact dq3 hd rfl | omega) (Nat.le_of_ble_eq_true rfl) (Nat.le_of_ble_eq_true rfl) (Nat.le_of_ble_eq_true rfl) (fun c14 => ?_) (fun c14 => ?_)
                  · skip
                    exact zn_ne c14 (in_c 0 rfl) rfl
                  · skip
                    have n14 : ¬ (HNC s x1 ∧ HNC s x2 ∧ In x3 (-1000000) 1000000 ∧ In x4 0 1000000 ∧ In x5 0 25) := by unfold HNC In; rw [← e_2_1]; (first | have a0 := oa6 i11x16x9 i11x5x9 ((inv_F hI 448 28000 rfl e_30_0)) i11x5x9a ((inv_F hI 0 4000 rfl e_2_0)) i11x23x4 | ((first | have a0 := in_u i11x16x9 | (have a0 := i11x16x9; unfold In at a0)); (first | have a1 := in_u i11x5x9 | (have a1 := i11x5x9; unfold In at a1)); (first | have a2 := in_u ((inv_F hI 448 28000 rfl e_30_0)) | (have a2 := (inv_F hI 448 28000 rfl e_30_0); unfold In at a2)); (first | have a3 := in_u i11x5x9a | (have a3 := i11x5x9a; unfold In at a3)); (first | have a4 := in_u ((inv_F hI 0 4000 rfl e_2_0)) | (have a4 := (inv_F hI 0 4000 rfl e_2_0); unfold In at a4)); (first | have a5 := in_u i11x23x4 | (have a5 := i11x23x4; unfold In at a5)))); have oc := oc_213_0; omega
                    exact (hX _ _ ⟨Or.inl ⟨rfl, n14⟩, s, hI, fr_rf, rfl⟩)
                · skip
                  exact zn_ne c11x26 (in_c 0 rfl) rfl
              · skip
                have i11x23x4 := r_le2 (-1000000) 2147483647 c11x23x4 (in_c (-1000000) rfl) (i_rng x3) rfl
                refine g_iload_n 8 (gd rfl) rfl rfl ?_
                refine g_ldc_w 1000000 11 (gd rfl) rfl rfl ?_
                refine g_cmp_gt 14 18 (gd rfl) rfl rfl (fun c11x23x11 => ?_) (fun c11x23x11 => ?_)
                · skip
                  have i11x23x11 := r_lt2 1000001 2147483647 c11x23x11 (in_c 1000000 rfl) i11x23x4 rfl
                  refine g_iconst 0 19 (gd rfl) rfl rfl ?_
                  refine g_ireturn (gd rfl) rfl (nb01 (in_w 0 1 (in_c 0 rfl) rfl)) (hp11x23 _ _ ?_)
                  show GG _ _ _ _ _ _ _ _ [.int (Int32.ofInt 0)] _ _ _
                  refine g_if_eq 29 49 (gd rfl) rfl rfl (fun c11x26 => ?_) (fun c11x26 => ?_)
                  · skip
                    refine g_iconst 0 50 (gd rfl) rfl rfl ?_
                    refine g_ireturn (gd rfl) rfl (nb01 (in_w 0 1 (in_c 0 rfl) rfl)) (hp11 _ _ ?_)
                    show GG _ _ _ _ _ _ _ _ [.int (Int32.ofInt 0)] _ _ _
                    refine g_thr (E := am_IA) (y := yX11_allow) 17 (gd rfl) rfl rfl (Or.inl ⟨rfl, rfl, rfl⟩) (by first | exact dq1 hd rfl | exact dq0 hd rfl | exact dq2 hd rfl | exact dq3 hd rfl | omega) (Nat.le_of_ble_eq_true rfl) (Nat.le_of_ble_eq_true rfl) (Nat.le_of_ble_eq_true rfl) (fun c14 => ?_) (fun c14 => ?_)
                    · skip
                      exact zn_ne c14 (in_c 0 rfl) rfl
                    · skip
                      have n14 : ¬ (HNC s x1 ∧ HNC s x2 ∧ In x3 (-1000000) 1000000 ∧ In x4 0 1000000 ∧ In x5 0 25) := by unfold HNC In; rw [← e_2_1]; (first | have a0 := oa6 i11x16x9 i11x5x9 ((inv_F hI 448 28000 rfl e_30_0)) i11x5x9a ((inv_F hI 0 4000 rfl e_2_0)) i11x23x11 | ((first | have a0 := in_u i11x16x9 | (have a0 := i11x16x9; unfold In at a0)); (first | have a1 := in_u i11x5x9 | (have a1 := i11x5x9; unfold In at a1)); (first | have a2 := in_u ((inv_F hI 448 28000 rfl e_30_0)) | (have a2 := (inv_F hI 448 28000 rfl e_30_0); unfold In at a2)); (first | have a3 := in_u i11x5x9a | (have a3 := i11x5x9a; unfold In at a3)); (first | have a4 := in_u ((inv_F hI 0 4000 rfl e_2_0)) | (have a4 := (inv_F hI 0 4000 rfl e_2_0); unfold In at a4)); (first | have a5 := in_u i11x23x11 | (have a5 := i11x23x11; unfold In at a5)))); have oc := oc_213_0; omega
                      exact (hX _ _ ⟨Or.inl ⟨rfl, n14⟩, s, hI, fr_rf, rfl⟩)
                  · skip
                    exact zn_ne c11x26 (in_c 0 rfl) rfl
                · skip
                  have i11x23x11 := r_le1 (-1000000) 1000000 c11x23x11 i11x23x4 (in_c 1000000 rfl) rfl
                  refine g_iconst 1 15 (gd rfl) rfl rfl ?_
                  refine g_goto 19 (gd rfl) rfl ?_
                  refine g_ireturn (gd rfl) rfl (nb01 (in_w 0 1 (in_c 1 rfl) rfl)) (hp11x23 _ _ ?_)
                  show GG _ _ _ _ _ _ _ _ [.int (Int32.ofInt 1)] _ _ _
                  refine g_if_eq 29 49 (gd rfl) rfl rfl (fun c11x26 => ?_) (fun c11x26 => ?_)
                  · skip
                    exact zn_eq c11x26 (in_c 1 rfl) rfl
                  · skip
                    refine g_iload 31 (gd rfl) rfl rfl ?_
                    refine g_calls (As := [.int x4]) (r := []) 34 (gd rfl) rfl rfl rfl rfl rfl (Nat.le_of_ble_eq_true rfl) (mc := 0) (ms := 0) (Nat.zero_le _) (Nat.zero_le _) (P := fun v u => _) ?_ (fun v u h => h)
                    intro po11x31 xx11x31 hp11x31 hx11x31
                    refine g_enter2 (k := 262) (N := 300) (by first | exact dq1 hd rfl | exact dq0 hd rfl | exact dq2 hd rfl | exact dq3 hd rfl | omega) rfl (Nat.le_of_ble_eq_true rfl) ?_
                    refine g_iload_n 1 (gd rfl) rfl rfl ?_
                    refine g_if_lt 4 15 (gd rfl) rfl rfl (fun c11x31x1 => ?_) (fun c11x31x1 => ?_)
                    · skip
                      have i11x31x1 := z_lt (-2147483648) (-1) c11x31x1 (i_rng x4) rfl
                      refine g_iconst 0 16 (gd rfl) rfl rfl ?_
                      refine g_ireturn (gd rfl) rfl (nb01 (in_w 0 1 (in_c 0 rfl) rfl)) (hp11x31 _ _ ?_)
                      show GG _ _ _ _ _ _ _ _ [.int (Int32.ofInt 0)] _ _ _
                      refine g_if_eq 37 49 (gd rfl) rfl rfl (fun c11x34 => ?_) (fun c11x34 => ?_)
                      · skip
                        refine g_iconst 0 50 (gd rfl) rfl rfl ?_
                        refine g_ireturn (gd rfl) rfl (nb01 (in_w 0 1 (in_c 0 rfl) rfl)) (hp11 _ _ ?_)
                        show GG _ _ _ _ _ _ _ _ [.int (Int32.ofInt 0)] _ _ _
                        refine g_thr (E := am_IA) (y := yX11_allow) 17 (gd rfl) rfl rfl (Or.inl ⟨rfl, rfl, rfl⟩) (by first | exact dq1 hd rfl | exact dq0 hd rfl | exact dq2 hd rfl | exact dq3 hd rfl | omega) (Nat.le_of_ble_eq_true rfl) (Nat.le_of_ble_eq_true rfl) (Nat.le_of_ble_eq_true rfl) (fun c14 => ?_) (fun c14 => ?_)
                        · skip
                          exact zn_ne c14 (in_c 0 rfl) rfl
                        · skip
                          have n14 : ¬ (HNC s x1 ∧ HNC s x2 ∧ In x3 (-1000000) 1000000 ∧ In x4 0 1000000 ∧ In x5 0 25) := by unfold HNC In; rw [← e_2_1]; (first | have a0 := oa7 i11x23x11 i11x16x9 i11x5x9 ((inv_F hI 448 28000 rfl e_30_0)) i11x5x9a ((inv_F hI 0 4000 rfl e_2_0)) i11x31x1 | ((first | have a0 := in_u i11x23x11 | (have a0 := i11x23x11; unfold In at a0)); (first | have a1 := in_u i11x16x9 | (have a1 := i11x16x9; unfold In at a1)); (first | have a2 := in_u i11x5x9 | (have a2 := i11x5x9; unfold In at a2)); (first | have a3 := in_u ((inv_F hI 448 28000 rfl e_30_0)) | (have a3 := (inv_F hI 448 28000 rfl e_30_0); unfold In at a3)); (first | have a4 := in_u i11x5x9a | (have a4 := i11x5x9a; unfold In at a4)); (first | have a5 := in_u ((inv_F hI 0 4000 rfl e_2_0)) | (have a5 := (inv_F hI 0 4000 rfl e_2_0); unfold In at a5)); (first | have a6 := in_u i11x31x1 | (have a6 := i11x31x1; unfold In at a6)))); have oc := oc_213_0; omega
                          exact (hX _ _ ⟨Or.inl ⟨rfl, n14⟩, s, hI, fr_rf, rfl⟩)
                      · skip
                        exact zn_ne c11x34 (in_c 0 rfl) rfl
                    · skip
                      have i11x31x1 := z_ge 0 2147483647 c11x31x1 (i_rng x4) rfl
                      refine g_iload_n 5 (gd rfl) rfl rfl ?_
                      refine g_ldc_w 1000000 8 (gd rfl) rfl rfl ?_
                      refine g_cmp_gt 11 15 (gd rfl) rfl rfl (fun c11x31x8 => ?_) (fun c11x31x8 => ?_)
                      · skip
                        have i11x31x8 := r_lt2 1000001 2147483647 c11x31x8 (in_c 1000000 rfl) i11x31x1 rfl
                        refine g_iconst 0 16 (gd rfl) rfl rfl ?_
                        refine g_ireturn (gd rfl) rfl (nb01 (in_w 0 1 (in_c 0 rfl) rfl)) (hp11x31 _ _ ?_)
                        show GG _ _ _ _ _ _ _ _ [.int (Int32.ofInt 0)] _ _ _
                        refine g_if_eq 37 49 (gd rfl) rfl rfl (fun c11x34 => ?_) (fun c11x34 => ?_)
                        · skip
                          refine g_iconst 0 50 (gd rfl) rfl rfl ?_
                          refine g_ireturn (gd rfl) rfl (nb01 (in_w 0 1 (in_c 0 rfl) rfl)) (hp11 _ _ ?_)
                          show GG _ _ _ _ _ _ _ _ [.int (Int32.ofInt 0)] _ _ _
                          refine g_thr (E := am_IA) (y := yX11_allow) 17 (gd rfl) rfl rfl (Or.inl ⟨rfl, rfl, rfl⟩) (by first | exact dq1 hd rfl | exact dq0 hd rfl | exact dq2 hd rfl | exact dq3 hd rfl | omega) (Nat.le_of_ble_eq_true rfl) (Nat.le_of_ble_eq_true rfl) (Nat.le_of_ble_eq_true rfl) (fun c14 => ?_) (fun c14 => ?_)
                          · skip
                            exact zn_ne c14 (in_c 0 rfl) rfl
                          · skip
                            have n14 : ¬ (HNC s x1 ∧ HNC s x2 ∧ In x3 (-1000000) 1000000 ∧ In x4 0 1000000 ∧ In x5 0 25) := by unfold HNC In; rw [← e_2_1]; (first | have a0 := oa7 i11x23x11 i11x16x9 i11x5x9 ((inv_F hI 448 28000 rfl e_30_0)) i11x5x9a ((inv_F hI 0 4000 rfl e_2_0)) i11x31x8 | ((first | have a0 := in_u i11x23x11 | (have a0 := i11x23x11; unfold In at a0)); (first | have a1 := in_u i11x16x9 | (have a1 := i11x16x9; unfold In at a1)); (first | have a2 := in_u i11x5x9 | (have a2 := i11x5x9; unfold In at a2)); (first | have a3 := in_u ((inv_F hI 448 28000 rfl e_30_0)) | (have a3 := (inv_F hI 448 28000 rfl e_30_0); unfold In at a3)); (first | have a4 := in_u i11x5x9a | (have a4 := i11x5x9a; unfold In at a4)); (first | have a5 := in_u ((inv_F hI 0 4000 rfl e_2_0)) | (have a5 := (inv_F hI 0 4000 rfl e_2_0); unfold In at a5)); (first | have a6 := in_u i11x31x8 | (have a6 := i11x31x8; unfold In at a6)))); have oc := oc_213_0; omega
                            exact (hX _ _ ⟨Or.inl ⟨rfl, n14⟩, s, hI, fr_rf, rfl⟩)
                        · skip
                          exact zn_ne c11x34 (in_c 0 rfl) rfl
                      · skip
                        have i11x31x8 := r_le1 0 1000000 c11x31x8 i11x31x1 (in_c 1000000 rfl) rfl
                        refine g_iconst 1 12 (gd rfl) rfl rfl ?_
                        refine g_goto 16 (gd rfl) rfl ?_
                        refine g_ireturn (gd rfl) rfl (nb01 (in_w 0 1 (in_c 1 rfl) rfl)) (hp11x31 _ _ ?_)
                        show GG _ _ _ _ _ _ _ _ [.int (Int32.ofInt 1)] _ _ _
                        refine g_if_eq 37 49 (gd rfl) rfl rfl (fun c11x34 => ?_) (fun c11x34 => ?_)
                        · skip
                          exact zn_eq c11x34 (in_c 1 rfl) rfl
                        · skip
                          refine g_iload 39 (gd rfl) rfl rfl ?_
                          refine g_calls (As := [.int x5]) (r := []) 42 (gd rfl) rfl rfl rfl rfl rfl (Nat.le_of_ble_eq_true rfl) (mc := 0) (ms := 0) (Nat.zero_le _) (Nat.zero_le _) (P := fun v u => _) ?_ (fun v u h => h)
                          intro po11x39 xx11x39 hp11x39 hx11x39
                          refine g_enter2 (k := 260) (N := 300) (by first | exact dq1 hd rfl | exact dq0 hd rfl | exact dq2 hd rfl | exact dq3 hd rfl | omega) rfl (Nat.le_of_ble_eq_true rfl) ?_
                          refine g_iload_n 1 (gd rfl) rfl rfl ?_
                          refine g_if_lt 4 14 (gd rfl) rfl rfl (fun c11x39x1 => ?_) (fun c11x39x1 => ?_)
                          · skip
                            have i11x39x1 := z_lt (-2147483648) (-1) c11x39x1 (i_rng x5) rfl
                            refine g_iconst 0 15 (gd rfl) rfl rfl ?_
                            refine g_ireturn (gd rfl) rfl (nb01 (in_w 0 1 (in_c 0 rfl) rfl)) (hp11x39 _ _ ?_)
                            show GG _ _ _ _ _ _ _ _ [.int (Int32.ofInt 0)] _ _ _
                            refine g_if_eq 45 49 (gd rfl) rfl rfl (fun c11x42 => ?_) (fun c11x42 => ?_)
                            · skip
                              refine g_iconst 0 50 (gd rfl) rfl rfl ?_
                              refine g_ireturn (gd rfl) rfl (nb01 (in_w 0 1 (in_c 0 rfl) rfl)) (hp11 _ _ ?_)
                              show GG _ _ _ _ _ _ _ _ [.int (Int32.ofInt 0)] _ _ _
                              refine g_thr (E := am_IA) (y := yX11_allow) 17 (gd rfl) rfl rfl (Or.inl ⟨rfl, rfl, rfl⟩) (by first | exact dq1 hd rfl | exact dq0 hd rfl | exact dq2 hd rfl | exact dq3 hd rfl | omega) (Nat.le_of_ble_eq_true rfl) (Nat.le_of_ble_eq_true rfl) (Nat.le_of_ble_eq_true rfl) (fun c14 => ?_) (fun c14 => ?_)
                              · skip
                                exact zn_ne c14 (in_c 0 rfl) rfl
                              · skip
                                have n14 : ¬ (HNC s x1 ∧ HNC s x2 ∧ In x3 (-1000000) 1000000 ∧ In x4 0 1000000 ∧ In x5 0 25) := by unfold HNC In; rw [← e_2_1]; (first | have a0 := oa8 i11x31x8 i11x23x11 i11x16x9 i11x5x9 ((inv_F hI 448 28000 rfl e_30_0)) i11x5x9a ((inv_F hI 0 4000 rfl e_2_0)) i11x39x1 | ((first | have a0 := in_u i11x31x8 | (have a0 := i11x31x8; unfold In at a0)); (first | have a1 := in_u i11x23x11 | (have a1 := i11x23x11; unfold In at a1)); (first | have a2 := in_u i11x16x9 | (have a2 := i11x16x9; unfold In at a2)); (first | have a3 := in_u i11x5x9 | (have a3 := i11x5x9; unfold In at a3)); (first | have a4 := in_u ((inv_F hI 448 28000 rfl e_30_0)) | (have a4 := (inv_F hI 448 28000 rfl e_30_0); unfold In at a4)); (first | have a5 := in_u i11x5x9a | (have a5 := i11x5x9a; unfold In at a5)); (first | have a6 := in_u ((inv_F hI 0 4000 rfl e_2_0)) | (have a6 := (inv_F hI 0 4000 rfl e_2_0); unfold In at a6)); (first | have a7 := in_u i11x39x1 | (have a7 := i11x39x1; unfold In at a7)))); have oc := oc_213_0; omega
                                exact (hX _ _ ⟨Or.inl ⟨rfl, n14⟩, s, hI, fr_rf, rfl⟩)
                            · skip
                              exact zn_ne c11x42 (in_c 0 rfl) rfl
                          · skip
                            have i11x39x1 := z_ge 0 2147483647 c11x39x1 (i_rng x5) rfl
                            refine g_iload_n 5 (gd rfl) rfl rfl ?_
                            refine g_bipush 26 7 (gd rfl) rfl rfl ?_
                            refine g_cmp_ge 10 14 (gd rfl) rfl rfl (fun c11x39x7 => ?_) (fun c11x39x7 => ?_)
                            · skip
                              have i11x39x7 := r_le2 26 2147483647 c11x39x7 (in_c 26 rfl) i11x39x1 rfl
                              refine g_iconst 0 15 (gd rfl) rfl rfl ?_
                              refine g_ireturn (gd rfl) rfl (nb01 (in_w 0 1 (in_c 0 rfl) rfl)) (hp11x39 _ _ ?_)
                              show GG _ _ _ _ _ _ _ _ [.int (Int32.ofInt 0)] _ _ _
                              refine g_if_eq 45 49 (gd rfl) rfl rfl (fun c11x42 => ?_) (fun c11x42 => ?_)
                              · skip
                                refine g_iconst 0 50 (gd rfl) rfl rfl ?_
                                refine g_ireturn (gd rfl) rfl (nb01 (in_w 0 1 (in_c 0 rfl) rfl)) (hp11 _ _ ?_)
                                show GG _ _ _ _ _ _ _ _ [.int (Int32.ofInt 0)] _ _ _
                                refine g_thr (E := am_IA) (y := yX11_allow) 17 (gd rfl) rfl rfl (Or.inl ⟨rfl, rfl, rfl⟩) (by first | exact dq1 hd rfl | exact dq0 hd rfl | exact dq2 hd rfl | exact dq3 hd rfl | omega) (Nat.le_of_ble_eq_true rfl) (Nat.le_of_ble_eq_true rfl) (Nat.le_of_ble_eq_true rfl) (fun c14 => ?_) (fun c14 => ?_)
                                · skip
                                  exact zn_ne c14 (in_c 0 rfl) rfl
                                · skip
                                  have n14 : ¬ (HNC s x1 ∧ HNC s x2 ∧ In x3 (-1000000) 1000000 ∧ In x4 0 1000000 ∧ In x5 0 25) := by unfold HNC In; rw [← e_2_1]; (first | have a0 := oa8 i11x31x8 i11x23x11 i11x16x9 i11x5x9 ((inv_F hI 448 28000 rfl e_30_0)) i11x5x9a ((inv_F hI 0 4000 rfl e_2_0)) i11x39x7 | ((first | have a0 := in_u i11x31x8 | (have a0 := i11x31x8; unfold In at a0)); (first | have a1 := in_u i11x23x11 | (have a1 := i11x23x11; unfold In at a1)); (first | have a2 := in_u i11x16x9 | (have a2 := i11x16x9; unfold In at a2)); (first | have a3 := in_u i11x5x9 | (have a3 := i11x5x9; unfold In at a3)); (first | have a4 := in_u ((inv_F hI 448 28000 rfl e_30_0)) | (have a4 := (inv_F hI 448 28000 rfl e_30_0); unfold In at a4)); (first | have a5 := in_u i11x5x9a | (have a5 := i11x5x9a; unfold In at a5)); (first | have a6 := in_u ((inv_F hI 0 4000 rfl e_2_0)) | (have a6 := (inv_F hI 0 4000 rfl e_2_0); unfold In at a6)); (first | have a7 := in_u i11x39x7 | (have a7 := i11x39x7; unfold In at a7)))); have oc := oc_213_0; omega
                                  exact (hX _ _ ⟨Or.inl ⟨rfl, n14⟩, s, hI, fr_rf, rfl⟩)
                              · skip
                                exact zn_ne c11x42 (in_c 0 rfl) rfl
                            · skip
                              have i11x39x7 := r_lt1 0 25 c11x39x7 i11x39x1 (in_c 26 rfl) rfl
                              refine g_iconst 1 11 (gd rfl) rfl rfl ?_
                              refine g_goto 15 (gd rfl) rfl ?_
                              refine g_ireturn (gd rfl) rfl (nb01 (in_w 0 1 (in_c 1 rfl) rfl)) (hp11x39 _ _ ?_)
                              show GG _ _ _ _ _ _ _ _ [.int (Int32.ofInt 1)] _ _ _
                              refine g_if_eq 45 49 (gd rfl) rfl rfl (fun c11x42 => ?_) (fun c11x42 => ?_)
                              · skip
                                exact zn_eq c11x42 (in_c 1 rfl) rfl
                              · skip
                                refine g_iconst 1 46 (gd rfl) rfl rfl ?_
                                refine g_goto 50 (gd rfl) rfl ?_
                                refine g_ireturn (gd rfl) rfl (nb01 (in_w 0 1 (in_c 1 rfl) rfl)) (hp11 _ _ ?_)
                                show GG _ _ _ _ _ _ _ _ [.int (Int32.ofInt 1)] _ _ _
                                refine g_thr (E := am_IA) (y := yX11_allow) 17 (gd rfl) rfl rfl (Or.inl ⟨rfl, rfl, rfl⟩) (by first | exact dq1 hd rfl | exact dq0 hd rfl | exact dq2 hd rfl | exact dq3 hd rfl | omega) (Nat.le_of_ble_eq_true rfl) (Nat.le_of_ble_eq_true rfl) (Nat.le_of_ble_eq_true rfl) (fun c14 => ?_) (fun c14 => ?_)
                                · skip
                                  refine g_aload_n 18 (gd rfl) rfl rfl ?_
                                  refine g_getA (q2 := 1) 21 (gd rfl) rfl rfl rfl rfl ?_
                                  refine g_callv (X := _) (As := []) (r := []) (b := A 1) (q := 1) 24 (gd rfl) rfl rfl rfl rfl rfl (ww_o rfl) (Nat.le_of_ble_eq_true rfl) (mc := 0) (ms := 0) (Nat.zero_le _) (Nat.zero_le _) (P := fun v u => _) ?_ (fun e u h => h) (fun v u h => h)
                                  intro po21 xx21 hp21 hx21
                                  refine g_enter2 (k := 122) (N := 300) (by first | exact dq1 hd rfl | exact dq0 hd rfl | exact dq2 hd rfl | exact dq3 hd rfl | omega) rfl (Nat.le_of_ble_eq_true rfl) ?_
                                  refine g_aload_n 1 (gd rfl) rfl rfl ?_
                                  refine g_getA (q2 := 2) 4 (gd rfl) rfl rfl rfl rfl ?_
                                  refine g_getI 7 (gd rfl) rfl rfl rfl (fun z21x4 e21x4 => ?_)
                                  have q21x4 : u_2_0 = z21x4 := (e_2_0).trans e21x4.symm
                                  subst q21x4
                                  refine g_sipush 4000 10 (gd rfl) rfl rfl ?_
                                  refine g_cmp_lt 13 17 (gd rfl) rfl rfl (fun c21x10 => ?_) (fun c21x10 => ?_)
                                  · skip
                                    have i21x10 := r_lt1 0 3999 c21x10 (inv_F hI 0 4000 rfl e_2_0) (in_c 4000 rfl) rfl
                                    refine g_iconst 0 18 (gd rfl) rfl rfl ?_
                                    refine g_ireturn (gd rfl) rfl (nb01 (in_w 0 1 (in_c 0 rfl) rfl)) (hp21 _ _ ?_)
                                    show GG _ _ _ _ _ _ _ _ [.int (Int32.ofInt 0)] _ _ _
                                    refine g_if_ne 27 31 (gd rfl) rfl rfl (fun c24 => ?_) (fun c24 => ?_)
                                    · skip
                                      exact zn_ne c24 (in_c 0 rfl) rfl
                                    · skip
                                      refine g_iconst 1 28 (gd rfl) rfl rfl ?_
                                      refine g_goto 32 (gd rfl) rfl ?_
                                      refine g_thr (E := am_IS) (y := yX11_ready) 35 (gd rfl) rfl rfl (Or.inr ⟨rfl, rfl, rfl⟩) (by first | exact dq1 hd rfl | exact dq0 hd rfl | exact dq2 hd rfl | exact dq3 hd rfl | omega) (Nat.le_of_ble_eq_true rfl) (Nat.le_of_ble_eq_true rfl) (Nat.le_of_ble_eq_true rfl) (fun c32 => ?_) (fun c32 => ?_)
                                      · skip
                                        refine g_aload_n 36 (gd rfl) rfl rfl ?_
                                        refine g_getA (q2 := 1) 39 (gd rfl) rfl rfl rfl rfl ?_
                                        refine g_iload_n 40 (gd rfl) rfl rfl ?_
                                        refine g_iload_n 41 (gd rfl) rfl rfl ?_
                                        refine g_iload_n 42 (gd rfl) rfl rfl ?_
                                        refine g_iload 44 (gd rfl) rfl rfl ?_
                                        refine g_iload 46 (gd rfl) rfl rfl ?_
                                        have n46 : (x1).toInt < (u_2_1).toInt := by (first | have a0 := oa8 i11x39x7 i11x31x8 i11x23x11 i11x16x9 i11x5x9 ((inv_F hI 448 28000 rfl e_30_0)) i11x5x9a i21x10 | ((first | have a0 := in_u i11x39x7 | (have a0 := i11x39x7; unfold In at a0)); (first | have a1 := in_u i11x31x8 | (have a1 := i11x31x8; unfold In at a1)); (first | have a2 := in_u i11x23x11 | (have a2 := i11x23x11; unfold In at a2)); (first | have a3 := in_u i11x16x9 | (have a3 := i11x16x9; unfold In at a3)); (first | have a4 := in_u i11x5x9 | (have a4 := i11x5x9; unfold In at a4)); (first | have a5 := in_u ((inv_F hI 448 28000 rfl e_30_0)) | (have a5 := (inv_F hI 448 28000 rfl e_30_0); unfold In at a5)); (first | have a6 := in_u i11x5x9a | (have a6 := i11x5x9a; unfold In at a6)); (first | have a7 := in_u i21x10 | (have a7 := i21x10; unfold In at a7)))); have oc := oc_213_0; omega
                                        have n46a : (x2).toInt < (u_2_1).toInt := by (first | have a0 := oa8 i11x39x7 i11x31x8 i11x23x11 i11x16x9 i11x5x9 ((inv_F hI 448 28000 rfl e_30_0)) i11x5x9a i21x10 | ((first | have a0 := in_u i11x39x7 | (have a0 := i11x39x7; unfold In at a0)); (first | have a1 := in_u i11x31x8 | (have a1 := i11x31x8; unfold In at a1)); (first | have a2 := in_u i11x23x11 | (have a2 := i11x23x11; unfold In at a2)); (first | have a3 := in_u i11x16x9 | (have a3 := i11x16x9; unfold In at a3)); (first | have a4 := in_u i11x5x9 | (have a4 := i11x5x9; unfold In at a4)); (first | have a5 := in_u ((inv_F hI 448 28000 rfl e_30_0)) | (have a5 := (inv_F hI 448 28000 rfl e_30_0); unfold In at a5)); (first | have a6 := in_u i11x5x9a | (have a6 := i11x5x9a; unfold In at a6)); (first | have a7 := in_u i21x10 | (have a7 := i21x10; unfold In at a7)))); have oc := oc_213_0; omega
                                        have p46 : KL s := by exact q_0
                                        refine g_callv (X := _) (As := [.int x1, .int x2, .int x3, .int x4, .int x5]) (r := []) (b := A 1) (q := 1) 49 (gd rfl) rfl rfl rfl rfl rfl (ww_o rfl) (Nat.le_of_ble_eq_true rfl) (Nat.le_trans lgc_le (Nat.le_of_ble_eq_true rfl)) (Nat.le_trans (lsl_le (inv_F hI 448 28000 (q := 30) (j := 0) rfl rfl) (by rw [← (show u_2_0 = s.2.2.1 2 0 from e_2_0)]; exact in_w 0 3999 i21x10 rfl)) (Nat.le_of_ble_eq_true rfl)) (f_125_1 (by first | exact dq1 hd rfl | exact dq0 hd rfl | exact dq2 hd rfl | exact dq3 hd rfl | omega) hI (in_w 0 31 i11x5x9 rfl) (in_w 0 31 i11x16x9 rfl) (in_w (-1000000) 1000000 i11x23x11 rfl) (in_w 0 1000000 i11x31x8 rfl) (in_w 0 25 i11x39x7 rfl) e_2_0 e_2_1 e_30_0 (in_w 0 3999 i21x10 rfl) n46 n46a p46) (fun e u h => h) (fun v u h => ?_)
                                        obtain ⟨a46, s46, hI46, hF46, n46b, z46, rfl, rfl, i46, p46a, p46b, p46c, p46d, p46e, p46f, p46g, p46h⟩ := h
                                        obtain ⟨z46a, e46⟩ : ∃ w, w = s46.2.2.1 2 0 := ⟨_, rfl⟩
                                        have i46a := inv_F hI46 0 4000 rfl e46
                                        rw [← (show u_2_0 = s.2.2.1 2 0 from e_2_0)] at n46b
                                        rw [← (show z46a = s46.2.2.1 2 0 from e46)] at n46b
                                        show GG _ _ _ _ _ _ _ _ [.int z46] _ _ _
                                        have n49 : KL s46 := by exact p46a
                                        have n49a : (HNC s x1 ∧ HNC s x2 ∧ In x3 (-1000000) 1000000 ∧ In x4 0 1000000 ∧ In x5 0 25) ∧ (s.2.2.1 2 0).toInt ≤ 3999 := by exact ⟨⟨⟨by (first | have a0 := oa9 i11x39x7 i11x31x8 i11x23x11 i11x16x9 i11x5x9 ((inv_F hI 448 28000 rfl e_30_0)) i11x5x9a i21x10 i46a | ((first | have a0 := in_u i11x39x7 | (have a0 := i11x39x7; unfold In at a0)); (first | have a1 := in_u i11x31x8 | (have a1 := i11x31x8; unfold In at a1)); (first | have a2 := in_u i11x23x11 | (have a2 := i11x23x11; unfold In at a2)); (first | have a3 := in_u i11x16x9 | (have a3 := i11x16x9; unfold In at a3)); (first | have a4 := in_u i11x5x9 | (have a4 := i11x5x9; unfold In at a4)); (first | have a5 := in_u ((inv_F hI 448 28000 rfl e_30_0)) | (have a5 := (inv_F hI 448 28000 rfl e_30_0); unfold In at a5)); (first | have a6 := in_u i11x5x9a | (have a6 := i11x5x9a; unfold In at a6)); (first | have a7 := in_u i21x10 | (have a7 := i21x10; unfold In at a7)); (first | have a8 := in_u i46a | (have a8 := i46a; unfold In at a8)))); have oc := oc_213_0; omega, by rw [← e_2_1]; (first | have a0 := oa9 i11x39x7 i11x31x8 i11x23x11 i11x16x9 i11x5x9 ((inv_F hI 448 28000 rfl e_30_0)) i11x5x9a i21x10 i46a | ((first | have a0 := in_u i11x39x7 | (have a0 := i11x39x7; unfold In at a0)); (first | have a1 := in_u i11x31x8 | (have a1 := i11x31x8; unfold In at a1)); (first | have a2 := in_u i11x23x11 | (have a2 := i11x23x11; unfold In at a2)); (first | have a3 := in_u i11x16x9 | (have a3 := i11x16x9; unfold In at a3)); (first | have a4 := in_u i11x5x9 | (have a4 := i11x5x9; unfold In at a4)); (first | have a5 := in_u ((inv_F hI 448 28000 rfl e_30_0)) | (have a5 := (inv_F hI 448 28000 rfl e_30_0); unfold In at a5)); (first | have a6 := in_u i11x5x9a | (have a6 := i11x5x9a; unfold In at a6)); (first | have a7 := in_u i21x10 | (have a7 := i21x10; unfold In at a7)); (first | have a8 := in_u i46a | (have a8 := i46a; unfold In at a8)))); have oc := oc_213_0; omega⟩, ⟨by (first | have a0 := oa9 i11x39x7 i11x31x8 i11x23x11 i11x16x9 i11x5x9 ((inv_F hI 448 28000 rfl e_30_0)) i11x5x9a i21x10 i46a | ((first | have a0 := in_u i11x39x7 | (have a0 := i11x39x7; unfold In at a0)); (first | have a1 := in_u i11x31x8 | (have a1 := i11x31x8; unfold In at a1)); (first | have a2 := in_u i11x23x11 | (have a2 := i11x23x11; unfold In at a2)); (first | have a3 := in_u i11x16x9 | (have a3 := i11x16x9; unfold In at a3)); (first | have a4 := in_u i11x5x9 | (have a4 := i11x5x9; unfold In at a4)); (first | have a5 := in_u ((inv_F hI 448 28000 rfl e_30_0)) | (have a5 := (inv_F hI 448 28000 rfl e_30_0); unfold In at a5)); (first | have a6 := in_u i11x5x9a | (have a6 := i11x5x9a; unfold In at a6)); (first | have a7 := in_u i21x10 | (have a7 := i21x10; unfold In at a7)); (first | have a8 := in_u i46a | (have a8 := i46a; unfold In at a8)))); have oc := oc_213_0; omega, by rw [← e_2_1]; (first | have a0 := oa9 i11x39x7 i11x31x8 i11x23x11 i11x16x9 i11x5x9 ((inv_F hI 448 28000 rfl e_30_0)) i11x5x9a i21x10 i46a | ((first | have a0 := in_u i11x39x7 | (have a0 := i11x39x7; unfold In at a0)); (first | have a1 := in_u i11x31x8 | (have a1 := i11x31x8; unfold In at a1)); (first | have a2 := in_u i11x23x11 | (have a2 := i11x23x11; unfold In at a2)); (first | have a3 := in_u i11x16x9 | (have a3 := i11x16x9; unfold In at a3)); (first | have a4 := in_u i11x5x9 | (have a4 := i11x5x9; unfold In at a4)); (first | have a5 := in_u ((inv_F hI 448 28000 rfl e_30_0)) | (have a5 := (inv_F hI 448 28000 rfl e_30_0); unfold In at a5)); (first | have a6 := in_u i11x5x9a | (have a6 := i11x5x9a; unfold In at a6)); (first | have a7 := in_u i21x10 | (have a7 := i21x10; unfold In at a7)); (first | have a8 := in_u i46a | (have a8 := i46a; unfold In at a8)))); have oc := oc_213_0; omega⟩, ⟨by (first | have a0 := oa9 i11x39x7 i11x31x8 i11x23x11 i11x16x9 i11x5x9 ((inv_F hI 448 28000 rfl e_30_0)) i11x5x9a i21x10 i46a | ((first | have a0 := in_u i11x39x7 | (have a0 := i11x39x7; unfold In at a0)); (first | have a1 := in_u i11x31x8 | (have a1 := i11x31x8; unfold In at a1)); (first | have a2 := in_u i11x23x11 | (have a2 := i11x23x11; unfold In at a2)); (first | have a3 := in_u i11x16x9 | (have a3 := i11x16x9; unfold In at a3)); (first | have a4 := in_u i11x5x9 | (have a4 := i11x5x9; unfold In at a4)); (first | have a5 := in_u ((inv_F hI 448 28000 rfl e_30_0)) | (have a5 := (inv_F hI 448 28000 rfl e_30_0); unfold In at a5)); (first | have a6 := in_u i11x5x9a | (have a6 := i11x5x9a; unfold In at a6)); (first | have a7 := in_u i21x10 | (have a7 := i21x10; unfold In at a7)); (first | have a8 := in_u i46a | (have a8 := i46a; unfold In at a8)))); have oc := oc_213_0; omega, by (first | have a0 := oa9 i11x39x7 i11x31x8 i11x23x11 i11x16x9 i11x5x9 ((inv_F hI 448 28000 rfl e_30_0)) i11x5x9a i21x10 i46a | ((first | have a0 := in_u i11x39x7 | (have a0 := i11x39x7; unfold In at a0)); (first | have a1 := in_u i11x31x8 | (have a1 := i11x31x8; unfold In at a1)); (first | have a2 := in_u i11x23x11 | (have a2 := i11x23x11; unfold In at a2)); (first | have a3 := in_u i11x16x9 | (have a3 := i11x16x9; unfold In at a3)); (first | have a4 := in_u i11x5x9 | (have a4 := i11x5x9; unfold In at a4)); (first | have a5 := in_u ((inv_F hI 448 28000 rfl e_30_0)) | (have a5 := (inv_F hI 448 28000 rfl e_30_0); unfold In at a5)); (first | have a6 := in_u i11x5x9a | (have a6 := i11x5x9a; unfold In at a6)); (first | have a7 := in_u i21x10 | (have a7 := i21x10; unfold In at a7)); (first | have a8 := in_u i46a | (have a8 := i46a; unfold In at a8)))); have oc := oc_213_0; omega⟩, ⟨by (first | have a0 := oa9 i11x39x7 i11x31x8 i11x23x11 i11x16x9 i11x5x9 ((inv_F hI 448 28000 rfl e_30_0)) i11x5x9a i21x10 i46a | ((first | have a0 := in_u i11x39x7 | (have a0 := i11x39x7; unfold In at a0)); (first | have a1 := in_u i11x31x8 | (have a1 := i11x31x8; unfold In at a1)); (first | have a2 := in_u i11x23x11 | (have a2 := i11x23x11; unfold In at a2)); (first | have a3 := in_u i11x16x9 | (have a3 := i11x16x9; unfold In at a3)); (first | have a4 := in_u i11x5x9 | (have a4 := i11x5x9; unfold In at a4)); (first | have a5 := in_u ((inv_F hI 448 28000 rfl e_30_0)) | (have a5 := (inv_F hI 448 28000 rfl e_30_0); unfold In at a5)); (first | have a6 := in_u i11x5x9a | (have a6 := i11x5x9a; unfold In at a6)); (first | have a7 := in_u i21x10 | (have a7 := i21x10; unfold In at a7)); (first | have a8 := in_u i46a | (have a8 := i46a; unfold In at a8)))); have oc := oc_213_0; omega, by (first | have a0 := oa9 i11x39x7 i11x31x8 i11x23x11 i11x16x9 i11x5x9 ((inv_F hI 448 28000 rfl e_30_0)) i11x5x9a i21x10 i46a | ((first | have a0 := in_u i11x39x7 | (have a0 := i11x39x7; unfold In at a0)); (first | have a1 := in_u i11x31x8 | (have a1 := i11x31x8; unfold In at a1)); (first | have a2 := in_u i11x23x11 | (have a2 := i11x23x11; unfold In at a2)); (first | have a3 := in_u i11x16x9 | (have a3 := i11x16x9; unfold In at a3)); (first | have a4 := in_u i11x5x9 | (have a4 := i11x5x9; unfold In at a4)); (first | have a5 := in_u ((inv_F hI 448 28000 rfl e_30_0)) | (have a5 := (inv_F hI 448 28000 rfl e_30_0); unfold In at a5)); (first | have a6 := in_u i11x5x9a | (have a6 := i11x5x9a; unfold In at a6)); (first | have a7 := in_u i21x10 | (have a7 := i21x10; unfold In at a7)); (first | have a8 := in_u i46a | (have a8 := i46a; unfold In at a8)))); have oc := oc_213_0; omega⟩, ⟨by (first | have a0 := oa9 i11x39x7 i11x31x8 i11x23x11 i11x16x9 i11x5x9 ((inv_F hI 448 28000 rfl e_30_0)) i11x5x9a i21x10 i46a | ((first | have a0 := in_u i11x39x7 | (have a0 := i11x39x7; unfold In at a0)); (first | have a1 := in_u i11x31x8 | (have a1 := i11x31x8; unfold In at a1)); (first | have a2 := in_u i11x23x11 | (have a2 := i11x23x11; unfold In at a2)); (first | have a3 := in_u i11x16x9 | (have a3 := i11x16x9; unfold In at a3)); (first | have a4 := in_u i11x5x9 | (have a4 := i11x5x9; unfold In at a4)); (first | have a5 := in_u ((inv_F hI 448 28000 rfl e_30_0)) | (have a5 := (inv_F hI 448 28000 rfl e_30_0); unfold In at a5)); (first | have a6 := in_u i11x5x9a | (have a6 := i11x5x9a; unfold In at a6)); (first | have a7 := in_u i21x10 | (have a7 := i21x10; unfold In at a7)); (first | have a8 := in_u i46a | (have a8 := i46a; unfold In at a8)))); have oc := oc_213_0; omega, by (first | have a0 := oa9 i11x39x7 i11x31x8 i11x23x11 i11x16x9 i11x5x9 ((inv_F hI 448 28000 rfl e_30_0)) i11x5x9a i21x10 i46a | ((first | have a0 := in_u i11x39x7 | (have a0 := i11x39x7; unfold In at a0)); (first | have a1 := in_u i11x31x8 | (have a1 := i11x31x8; unfold In at a1)); (first | have a2 := in_u i11x23x11 | (have a2 := i11x23x11; unfold In at a2)); (first | have a3 := in_u i11x16x9 | (have a3 := i11x16x9; unfold In at a3)); (first | have a4 := in_u i11x5x9 | (have a4 := i11x5x9; unfold In at a4)); (first | have a5 := in_u ((inv_F hI 448 28000 rfl e_30_0)) | (have a5 := (inv_F hI 448 28000 rfl e_30_0); unfold In at a5)); (first | have a6 := in_u i11x5x9a | (have a6 := i11x5x9a; unfold In at a6)); (first | have a7 := in_u i21x10 | (have a7 := i21x10; unfold In at a7)); (first | have a8 := in_u i46a | (have a8 := i46a; unfold In at a8)))); have oc := oc_213_0; omega⟩⟩, by rw [← e_2_0]; (first | have a0 := oa9 i11x39x7 i11x31x8 i11x23x11 i11x16x9 i11x5x9 ((inv_F hI 448 28000 rfl e_30_0)) i11x5x9a i21x10 i46a | ((first | have a0 := in_u i11x39x7 | (have a0 := i11x39x7; unfold In at a0)); (first | have a1 := in_u i11x31x8 | (have a1 := i11x31x8; unfold In at a1)); (first | have a2 := in_u i11x23x11 | (have a2 := i11x23x11; unfold In at a2)); (first | have a3 := in_u i11x16x9 | (have a3 := i11x16x9; unfold In at a3)); (first | have a4 := in_u i11x5x9 | (have a4 := i11x5x9; unfold In at a4)); (first | have a5 := in_u ((inv_F hI 448 28000 rfl e_30_0)) | (have a5 := (inv_F hI 448 28000 rfl e_30_0); unfold In at a5)); (first | have a6 := in_u i11x5x9a | (have a6 := i11x5x9a; unfold In at a6)); (first | have a7 := in_u i21x10 | (have a7 := i21x10; unfold In at a7)); (first | have a8 := in_u i46a | (have a8 := i46a; unfold In at a8)))); have oc := oc_213_0; omega⟩
                                        have n49b : (z46).toInt = -3 → gvC s46 = gvC s ∧ fpl (ctg (s.1 4)) = 160 := by exact p46e
                                        have n49c : (z46).toInt ≠ -3 → gvC s46 = gqA (gvC s) (z46).toNatClampNeg x1 x2 x3 x4 x5 ∧ fpl (ctg (s.1 4)) = (z46).toNatClampNeg ∧ 0 ≤ (z46).toInt := by exact p46f
                                        have n49d : TQ s → TQ s46 := by exact p46g
                                        have n49e : ∀ k : Nat, (k : Int) < 7 * (s.2.2.1 2 0).toInt → s46.1 30 k = s.1 30 k := by exact p46d
                                        have n49f : (z46).toInt ≠ -3 → s46.1 30 (7 * (s.2.2.1 2 0).toInt.toNat) = (Int32.ofInt 1) ∧ s46.1 30 (7 * (s.2.2.1 2 0).toInt.toNat + 1) = z46 ∧ s46.1 30 (7 * (s.2.2.1 2 0).toInt.toNat + 2) = x1 ∧ s46.1 30 (7 * (s.2.2.1 2 0).toInt.toNat + 3) = x2 ∧ s46.1 30 (7 * (s.2.2.1 2 0).toInt.toNat + 4) = x3 ∧ s46.1 30 (7 * (s.2.2.1 2 0).toInt.toNat + 5) = x4 ∧ s46.1 30 (7 * (s.2.2.1 2 0).toInt.toNat + 6) = x5 := by exact p46h
                                        exact g_ireturn (gd rfl) rfl rfl (hP _ _ ⟨a46, s46, hI46, (fr_tr rfl fr_rf hF46), z46, rfl, rfl, in_w (-3) 159 i46 rfl, n49, n49a, n49b, n49c, n49d, n49e, n49f⟩)
                                      · skip
                                        exact zn_eq c32 (in_c 1 rfl) rfl
                                  · skip
                                    have i21x10 := r_le2 4000 4000 c21x10 (in_c 4000 rfl) (inv_F hI 0 4000 rfl e_2_0) rfl
                                    refine g_iconst 1 14 (gd rfl) rfl rfl ?_
                                    refine g_goto 18 (gd rfl) rfl ?_
                                    refine g_ireturn (gd rfl) rfl (nb01 (in_w 0 1 (in_c 1 rfl) rfl)) (hp21 _ _ ?_)
                                    show GG _ _ _ _ _ _ _ _ [.int (Int32.ofInt 1)] _ _ _
                                    refine g_if_ne 27 31 (gd rfl) rfl rfl (fun c24 => ?_) (fun c24 => ?_)
                                    · skip
                                      refine g_iconst 0 32 (gd rfl) rfl rfl ?_
                                      refine g_thr (E := am_IS) (y := yX11_ready) 35 (gd rfl) rfl rfl (Or.inr ⟨rfl, rfl, rfl⟩) (by first | exact dq1 hd rfl | exact dq0 hd rfl | exact dq2 hd rfl | exact dq3 hd rfl | omega) (Nat.le_of_ble_eq_true rfl) (Nat.le_of_ble_eq_true rfl) (Nat.le_of_ble_eq_true rfl) (fun c32 => ?_) (fun c32 => ?_)
                                      · skip
                                        exact zn_ne c32 (in_c 0 rfl) rfl
                                      · skip
                                        have n32 : (HNC s x1 ∧ HNC s x2 ∧ In x3 (-1000000) 1000000 ∧ In x4 0 1000000 ∧ In x5 0 25) ∧ ¬ (s.2.2.1 2 0).toInt ≤ 3999 := by refine ⟨⟨⟨by (first | have a0 := oa8 i11x39x7 i11x31x8 i11x23x11 i11x16x9 i11x5x9 ((inv_F hI 448 28000 rfl e_30_0)) i11x5x9a i21x10 | ((first | have a0 := in_u i11x39x7 | (have a0 := i11x39x7; unfold In at a0)); (first | have a1 := in_u i11x31x8 | (have a1 := i11x31x8; unfold In at a1)); (first | have a2 := in_u i11x23x11 | (have a2 := i11x23x11; unfold In at a2)); (first | have a3 := in_u i11x16x9 | (have a3 := i11x16x9; unfold In at a3)); (first | have a4 := in_u i11x5x9 | (have a4 := i11x5x9; unfold In at a4)); (first | have a5 := in_u ((inv_F hI 448 28000 rfl e_30_0)) | (have a5 := (inv_F hI 448 28000 rfl e_30_0); unfold In at a5)); (first | have a6 := in_u i11x5x9a | (have a6 := i11x5x9a; unfold In at a6)); (first | have a7 := in_u i21x10 | (have a7 := i21x10; unfold In at a7)))); have oc := oc_213_0; omega, by rw [← e_2_1]; (first | have a0 := oa8 i11x39x7 i11x31x8 i11x23x11 i11x16x9 i11x5x9 ((inv_F hI 448 28000 rfl e_30_0)) i11x5x9a i21x10 | ((first | have a0 := in_u i11x39x7 | (have a0 := i11x39x7; unfold In at a0)); (first | have a1 := in_u i11x31x8 | (have a1 := i11x31x8; unfold In at a1)); (first | have a2 := in_u i11x23x11 | (have a2 := i11x23x11; unfold In at a2)); (first | have a3 := in_u i11x16x9 | (have a3 := i11x16x9; unfold In at a3)); (first | have a4 := in_u i11x5x9 | (have a4 := i11x5x9; unfold In at a4)); (first | have a5 := in_u ((inv_F hI 448 28000 rfl e_30_0)) | (have a5 := (inv_F hI 448 28000 rfl e_30_0); unfold In at a5)); (first | have a6 := in_u i11x5x9a | (have a6 := i11x5x9a; unfold In at a6)); (first | have a7 := in_u i21x10 | (have a7 := i21x10; unfold In at a7)))); have oc := oc_213_0; omega⟩, ⟨by (first | have a0 := oa8 i11x39x7 i11x31x8 i11x23x11 i11x16x9 i11x5x9 ((inv_F hI 448 28000 rfl e_30_0)) i11x5x9a i21x10 | ((first | have a0 := in_u i11x39x7 | (have a0 := i11x39x7; unfold In at a0)); (first | have a1 := in_u i11x31x8 | (have a1 := i11x31x8; unfold In at a1)); (first | have a2 := in_u i11x23x11 | (have a2 := i11x23x11; unfold In at a2)); (first | have a3 := in_u i11x16x9 | (have a3 := i11x16x9; unfold In at a3)); (first | have a4 := in_u i11x5x9 | (have a4 := i11x5x9; unfold In at a4)); (first | have a5 := in_u ((inv_F hI 448 28000 rfl e_30_0)) | (have a5 := (inv_F hI 448 28000 rfl e_30_0); unfold In at a5)); (first | have a6 := in_u i11x5x9a | (have a6 := i11x5x9a; unfold In at a6)); (first | have a7 := in_u i21x10 | (have a7 := i21x10; unfold In at a7)))); have oc := oc_213_0; omega, by rw [← e_2_1]; (first | have a0 := oa8 i11x39x7 i11x31x8 i11x23x11 i11x16x9 i11x5x9 ((inv_F hI 448 28000 rfl e_30_0)) i11x5x9a i21x10 | ((first | have a0 := in_u i11x39x7 | (have a0 := i11x39x7; unfold In at a0)); (first | have a1 := in_u i11x31x8 | (have a1 := i11x31x8; unfold In at a1)); (first | have a2 := in_u i11x23x11 | (have a2 := i11x23x11; unfold In at a2)); (first | have a3 := in_u i11x16x9 | (have a3 := i11x16x9; unfold In at a3)); (first | have a4 := in_u i11x5x9 | (have a4 := i11x5x9; unfold In at a4)); (first | have a5 := in_u ((inv_F hI 448 28000 rfl e_30_0)) | (have a5 := (inv_F hI 448 28000 rfl e_30_0); unfold In at a5)); (first | have a6 := in_u i11x5x9a | (have a6 := i11x5x9a; unfold In at a6)); (first | have a7 := in_u i21x10 | (have a7 := i21x10; unfold In at a7)))); have oc := oc_213_0; omega⟩, ⟨by (first | have a0 := oa8 i11x39x7 i11x31x8 i11x23x11 i11x16x9 i11x5x9 ((inv_F hI 448 28000 rfl e_30_0)) i11x5x9a i21x10 | ((first | have a0 := in_u i11x39x7 | (have a0 := i11x39x7; unfold In at a0)); (first | have a1 := in_u i11x31x8 | (have a1 := i11x31x8; unfold In at a1)); (first | have a2 := in_u i11x23x11 | (have a2 := i11x23x11; unfold In at a2)); (first | have a3 := in_u i11x16x9 | (have a3 := i11x16x9; unfold In at a3)); (first | have a4 := in_u i11x5x9 | (have a4 := i11x5x9; unfold In at a4)); (first | have a5 := in_u ((inv_F hI 448 28000 rfl e_30_0)) | (have a5 := (inv_F hI 448 28000 rfl e_30_0); unfold In at a5)); (first | have a6 := in_u i11x5x9a | (have a6 := i11x5x9a; unfold In at a6)); (first | have a7 := in_u i21x10 | (have a7 := i21x10; unfold In at a7)))); have oc := oc_213_0; omega, by (first | have a0 := oa8 i11x39x7 i11x31x8 i11x23x11 i11x16x9 i11x5x9 ((inv_F hI 448 28000 rfl e_30_0)) i11x5x9a i21x10 | ((first | have a0 := in_u i11x39x7 | (have a0 := i11x39x7; unfold In at a0)); (first | have a1 := in_u i11x31x8 | (have a1 := i11x31x8; unfold In at a1)); (first | have a2 := in_u i11x23x11 | (have a2 := i11x23x11; unfold In at a2)); (first | have a3 := in_u i11x16x9 | (have a3 := i11x16x9; unfold In at a3)); (first | have a4 := in_u i11x5x9 | (have a4 := i11x5x9; unfold In at a4)); (first | have a5 := in_u ((inv_F hI 448 28000 rfl e_30_0)) | (have a5 := (inv_F hI 448 28000 rfl e_30_0); unfold In at a5)); (first | have a6 := in_u i11x5x9a | (have a6 := i11x5x9a; unfold In at a6)); (first | have a7 := in_u i21x10 | (have a7 := i21x10; unfold In at a7)))); have oc := oc_213_0; omega⟩, ⟨by (first | have a0 := oa8 i11x39x7 i11x31x8 i11x23x11 i11x16x9 i11x5x9 ((inv_F hI 448 28000 rfl e_30_0)) i11x5x9a i21x10 | ((first | have a0 := in_u i11x39x7 | (have a0 := i11x39x7; unfold In at a0)); (first | have a1 := in_u i11x31x8 | (have a1 := i11x31x8; unfold In at a1)); (first | have a2 := in_u i11x23x11 | (have a2 := i11x23x11; unfold In at a2)); (first | have a3 := in_u i11x16x9 | (have a3 := i11x16x9; unfold In at a3)); (first | have a4 := in_u i11x5x9 | (have a4 := i11x5x9; unfold In at a4)); (first | have a5 := in_u ((inv_F hI 448 28000 rfl e_30_0)) | (have a5 := (inv_F hI 448 28000 rfl e_30_0); unfold In at a5)); (first | have a6 := in_u i11x5x9a | (have a6 := i11x5x9a; unfold In at a6)); (first | have a7 := in_u i21x10 | (have a7 := i21x10; unfold In at a7)))); have oc := oc_213_0; omega, by (first | have a0 := oa8 i11x39x7 i11x31x8 i11x23x11 i11x16x9 i11x5x9 ((inv_F hI 448 28000 rfl e_30_0)) i11x5x9a i21x10 | ((first | have a0 := in_u i11x39x7 | (have a0 := i11x39x7; unfold In at a0)); (first | have a1 := in_u i11x31x8 | (have a1 := i11x31x8; unfold In at a1)); (first | have a2 := in_u i11x23x11 | (have a2 := i11x23x11; unfold In at a2)); (first | have a3 := in_u i11x16x9 | (have a3 := i11x16x9; unfold In at a3)); (first | have a4 := in_u i11x5x9 | (have a4 := i11x5x9; unfold In at a4)); (first | have a5 := in_u ((inv_F hI 448 28000 rfl e_30_0)) | (have a5 := (inv_F hI 448 28000 rfl e_30_0); unfold In at a5)); (first | have a6 := in_u i11x5x9a | (have a6 := i11x5x9a; unfold In at a6)); (first | have a7 := in_u i21x10 | (have a7 := i21x10; unfold In at a7)))); have oc := oc_213_0; omega⟩, ⟨by (first | have a0 := oa8 i11x39x7 i11x31x8 i11x23x11 i11x16x9 i11x5x9 ((inv_F hI 448 28000 rfl e_30_0)) i11x5x9a i21x10 | ((first | have a0 := in_u i11x39x7 | (have a0 := i11x39x7; unfold In at a0)); (first | have a1 := in_u i11x31x8 | (have a1 := i11x31x8; unfold In at a1)); (first | have a2 := in_u i11x23x11 | (have a2 := i11x23x11; unfold In at a2)); (first | have a3 := in_u i11x16x9 | (have a3 := i11x16x9; unfold In at a3)); (first | have a4 := in_u i11x5x9 | (have a4 := i11x5x9; unfold In at a4)); (first | have a5 := in_u ((inv_F hI 448 28000 rfl e_30_0)) | (have a5 := (inv_F hI 448 28000 rfl e_30_0); unfold In at a5)); (first | have a6 := in_u i11x5x9a | (have a6 := i11x5x9a; unfold In at a6)); (first | have a7 := in_u i21x10 | (have a7 := i21x10; unfold In at a7)))); have oc := oc_213_0; omega, by (first | have a0 := oa8 i11x39x7 i11x31x8 i11x23x11 i11x16x9 i11x5x9 ((inv_F hI 448 28000 rfl e_30_0)) i11x5x9a i21x10 | ((first | have a0 := in_u i11x39x7 | (have a0 := i11x39x7; unfold In at a0)); (first | have a1 := in_u i11x31x8 | (have a1 := i11x31x8; unfold In at a1)); (first | have a2 := in_u i11x23x11 | (have a2 := i11x23x11; unfold In at a2)); (first | have a3 := in_u i11x16x9 | (have a3 := i11x16x9; unfold In at a3)); (first | have a4 := in_u i11x5x9 | (have a4 := i11x5x9; unfold In at a4)); (first | have a5 := in_u ((inv_F hI 448 28000 rfl e_30_0)) | (have a5 := (inv_F hI 448 28000 rfl e_30_0); unfold In at a5)); (first | have a6 := in_u i11x5x9a | (have a6 := i11x5x9a; unfold In at a6)); (first | have a7 := in_u i21x10 | (have a7 := i21x10; unfold In at a7)))); have oc := oc_213_0; omega⟩⟩, ?_⟩; rw [← e_2_0]; (first | have a0 := oa8 i11x39x7 i11x31x8 i11x23x11 i11x16x9 i11x5x9 ((inv_F hI 448 28000 rfl e_30_0)) i11x5x9a i21x10 | ((first | have a0 := in_u i11x39x7 | (have a0 := i11x39x7; unfold In at a0)); (first | have a1 := in_u i11x31x8 | (have a1 := i11x31x8; unfold In at a1)); (first | have a2 := in_u i11x23x11 | (have a2 := i11x23x11; unfold In at a2)); (first | have a3 := in_u i11x16x9 | (have a3 := i11x16x9; unfold In at a3)); (first | have a4 := in_u i11x5x9 | (have a4 := i11x5x9; unfold In at a4)); (first | have a5 := in_u ((inv_F hI 448 28000 rfl e_30_0)) | (have a5 := (inv_F hI 448 28000 rfl e_30_0); unfold In at a5)); (first | have a6 := in_u i11x5x9a | (have a6 := i11x5x9a; unfold In at a6)); (first | have a7 := in_u i21x10 | (have a7 := i21x10; unfold In at a7)))); have oc := oc_213_0; omega
                                        exact (hX _ _ ⟨Or.inr ⟨rfl, n32⟩, s, hI, fr_rf, rfl⟩)
                                    · skip
                                      exact zn_eq c24 (in_c 1 rfl) rfl
                                · skip
                                  exact zn_eq c14 (in_c 1 rfl) rfl

theorem oc_214_0 : (Int32.ofInt (-1)).toInt = (-1) ∧ (Int32.ofInt 0).toInt = 0 ∧ (Int32.ofInt 1).toInt = 1 ∧ (Int32.ofInt 4000).toInt = 4000 := ⟨rfl, rfl, rfl, rfl⟩
/-- GraphHouse.take -/
theorem f_214_0 {Z : AmZ} {A : Nat → Nat} {s : GS} {ex : va_W} {d : Nat} {x1 : Int32} {u_2_0 : Int32} {u_2_1 : Int32} {u_30_0 : Int32} {u_2_3 : Int32} (hd : 8 ≤ d) (hI : Inv s) (e_2_0 : u_2_0 = s.2.2.1 2 0) (e_2_1 : u_2_1 = s.2.2.1 2 1) (e_30_0 : u_30_0 = s.2.2.1 30 0) (e_2_3 : u_2_3 = s.2.2.1 2 3) (q_0 : KL s) (q_1 : TQ s) : GC Z d 214 [.ref (A 0), .int x1] (WW Z A s ++ ex) 4 28018 (fun v u => ∃ a : Nat, ∃ t : GS, Inv t ∧ Fr fm_214_0 s t ∧ ∃ z : Int32, v = some (.int z) ∧ u = WW Z (ax A 30 a) t ++ ex ∧ In z 0 4000 ∧ (KL t) ∧ (HAC s x1 ∧ (s.2.2.1 2 0).toInt ≤ 3999 ∧ (z).toInt = (s.2.2.1 2 0).toInt + 1 ∧ gvC t = gqD (gvC s) (x1).toNatClampNeg) ∧ (TQ t) ∧ (∀ k : Nat, (k : Int) < 7 * (s.2.2.1 2 0).toInt → t.1 30 k = s.1 30 k) ∧ (t.1 30 (7 * (s.2.2.1 2 0).toInt.toNat) = (Int32.ofInt 2) ∧ t.1 30 (7 * (s.2.2.1 2 0).toInt.toNat + 1) = x1 ∧ t.1 30 (7 * (s.2.2.1 2 0).toInt.toNat + 2) = (Int32.ofInt 0) ∧ t.1 30 (7 * (s.2.2.1 2 0).toInt.toNat + 3) = (Int32.ofInt 0))) (gEx Z A ex ([], [], [], []) s (¬ HAC s x1) (HAC s x1 ∧ ¬ (s.2.2.1 2 0).toInt ≤ 3999)) := by
  intro post xp hP hX
  refine g_enter2 (k := 214) (N := 900) (by first | exact dq1 hd rfl | exact dq0 hd rfl | exact dq2 hd rfl | exact dq3 hd rfl | omega) rfl (Nat.le_of_ble_eq_true rfl) ?_
  refine g_aload_n 1 (gd rfl) rfl rfl ?_
  refine g_getA (q2 := 1) 4 (gd rfl) rfl rfl rfl rfl ?_
  refine g_getA (q2 := 2) 7 (gd rfl) rfl rfl rfl rfl ?_
  refine g_iload_n 8 (gd rfl) rfl rfl ?_
  refine g_callv (X := _) (As := [.int x1]) (r := []) (b := A 2) (q := 2) 11 (gd rfl) rfl rfl rfl rfl rfl (ww_o rfl) (Nat.le_of_ble_eq_true rfl) (mc := 0) (ms := 0) (Nat.zero_le _) (Nat.zero_le _) (P := fun v u => _) ?_ (fun e u h => h) (fun v u h => h)
  intro po8 xx8 hp8 hx8
  refine g_enter2 (k := 96) (N := 300) (by first | exact dq1 hd rfl | exact dq0 hd rfl | exact dq2 hd rfl | exact dq3 hd rfl | omega) rfl (Nat.le_of_ble_eq_true rfl) ?_
  refine g_iload_n 1 (gd rfl) rfl rfl ?_
  refine g_if_lt 4 26 (gd rfl) rfl rfl (fun c8x1 => ?_) (fun c8x1 => ?_)
  · skip
    have i8x1 := z_lt (-2147483648) (-1) c8x1 (i_rng x1) rfl
    refine g_iconst 0 27 (gd rfl) rfl rfl ?_
    refine g_ireturn (gd rfl) rfl (nb01 (in_w 0 1 (in_c 0 rfl) rfl)) (hp8 _ _ ?_)
    show GG _ _ _ _ _ _ _ _ [.int (Int32.ofInt 0)] _ _ _
    refine g_thr (E := am_IA) (y := yX11_allow) 14 (gd rfl) rfl rfl (Or.inl ⟨rfl, rfl, rfl⟩) (by first | exact dq1 hd rfl | exact dq0 hd rfl | exact dq2 hd rfl | exact dq3 hd rfl | omega) (Nat.le_of_ble_eq_true rfl) (Nat.le_of_ble_eq_true rfl) (Nat.le_of_ble_eq_true rfl) (fun c11 => ?_) (fun c11 => ?_)
    · skip
      exact zn_ne c11 (in_c 0 rfl) rfl
    · skip
      have n11 : ¬ HAC s x1 := by intro h; have h7 := h.1; have h8 := h.2.1; have h9 := q_1 x1.toNatClampNeg (by show x1.toInt.toNat < 160; omega) h.2.2; rw [← e_2_3] at h9; have h6 : x1.toNatClampNeg = x1.toInt.toNat := rfl; (first | have a0 := oa5 ((inv_F hI 0 160 rfl e_2_3)) ((inv_F hI 448 28000 rfl e_30_0)) ((inv_F hI 0 32 rfl e_2_1)) ((inv_F hI 0 4000 rfl e_2_0)) i8x1 | ((first | have a0 := in_u ((inv_F hI 0 160 rfl e_2_3)) | (have a0 := (inv_F hI 0 160 rfl e_2_3); unfold In at a0)); (first | have a1 := in_u ((inv_F hI 448 28000 rfl e_30_0)) | (have a1 := (inv_F hI 448 28000 rfl e_30_0); unfold In at a1)); (first | have a2 := in_u ((inv_F hI 0 32 rfl e_2_1)) | (have a2 := (inv_F hI 0 32 rfl e_2_1); unfold In at a2)); (first | have a3 := in_u ((inv_F hI 0 4000 rfl e_2_0)) | (have a3 := (inv_F hI 0 4000 rfl e_2_0); unfold In at a3)); (first | have a4 := in_u i8x1 | (have a4 := i8x1; unfold In at a4)))); have oc := oc_214_0; omega
      exact (hX _ _ ⟨Or.inl ⟨rfl, n11⟩, s, hI, fr_rf, rfl⟩)
  · skip
    have i8x1 := z_ge 0 2147483647 c8x1 (i_rng x1) rfl
    refine g_iload_n 5 (gd rfl) rfl rfl ?_
    refine g_aload_n 6 (gd rfl) rfl rfl ?_
    refine g_getI 9 (gd rfl) rfl rfl rfl (fun z8x6 e8x6 => ?_)
    have q8x6 : u_2_3 = z8x6 := (e_2_3).trans e8x6.symm
    subst q8x6
    refine g_cmp_ge 12 26 (gd rfl) rfl rfl (fun c8x9 => ?_) (fun c8x9 => ?_)
    · skip
      refine g_iconst 0 27 (gd rfl) rfl rfl ?_
      refine g_ireturn (gd rfl) rfl (nb01 (in_w 0 1 (in_c 0 rfl) rfl)) (hp8 _ _ ?_)
      show GG _ _ _ _ _ _ _ _ [.int (Int32.ofInt 0)] _ _ _
      refine g_thr (E := am_IA) (y := yX11_allow) 14 (gd rfl) rfl rfl (Or.inl ⟨rfl, rfl, rfl⟩) (by first | exact dq1 hd rfl | exact dq0 hd rfl | exact dq2 hd rfl | exact dq3 hd rfl | omega) (Nat.le_of_ble_eq_true rfl) (Nat.le_of_ble_eq_true rfl) (Nat.le_of_ble_eq_true rfl) (fun c11 => ?_) (fun c11 => ?_)
      · skip
        exact zn_ne c11 (in_c 0 rfl) rfl
      · skip
        have n11 : ¬ HAC s x1 := by intro h; have h7 := h.1; have h8 := h.2.1; have h9 := q_1 x1.toNatClampNeg (by show x1.toInt.toNat < 160; omega) h.2.2; rw [← e_2_3] at h9; have h6 : x1.toNatClampNeg = x1.toInt.toNat := rfl; (first | have a0 := oa5 ((inv_F hI 0 160 rfl e_2_3)) ((inv_F hI 448 28000 rfl e_30_0)) ((inv_F hI 0 32 rfl e_2_1)) ((inv_F hI 0 4000 rfl e_2_0)) i8x1 | ((first | have a0 := in_u ((inv_F hI 0 160 rfl e_2_3)) | (have a0 := (inv_F hI 0 160 rfl e_2_3); unfold In at a0)); (first | have a1 := in_u ((inv_F hI 448 28000 rfl e_30_0)) | (have a1 := (inv_F hI 448 28000 rfl e_30_0); unfold In at a1)); (first | have a2 := in_u ((inv_F hI 0 32 rfl e_2_1)) | (have a2 := (inv_F hI 0 32 rfl e_2_1); unfold In at a2)); (first | have a3 := in_u ((inv_F hI 0 4000 rfl e_2_0)) | (have a3 := (inv_F hI 0 4000 rfl e_2_0); unfold In at a3)); (first | have a4 := in_u i8x1 | (have a4 := i8x1; unfold In at a4)))); have oc := oc_214_0; omega
        exact (hX _ _ ⟨Or.inl ⟨rfl, n11⟩, s, hI, fr_rf, rfl⟩)
    · skip
      have i8x9 := r_lt1 0 159 c8x9 i8x1 (inv_F hI 0 160 rfl e_2_3) rfl
      have i8x9a := r_lt2 1 160 c8x9 i8x1 (inv_F hI 0 160 rfl e_2_3) rfl
      refine g_aload_n 13 (gd rfl) rfl rfl ?_
      refine g_getA (q2 := 4) 16 (gd rfl) rfl rfl rfl rfl ?_
      refine g_iload_n 17 (gd rfl) rfl rfl ?_
      refine g_iaload 18 (gd rfl) rfl (n := 160) rfl (in_ix i8x9 rfl) (fun z8x17 e8x17 => ?_)
      have i8x17 := inv_I hI (n := 160) (t := 0) (-1) 31 rfl (in_ix i8x9 rfl) rfl e8x17
      refine g_iconst (-1) 19 (gd rfl) rfl rfl ?_
      refine g_cmp_eq 22 26 (gd rfl) rfl rfl (fun c8x19 => ?_) (fun c8x19 => ?_)
      · skip
        have i8x19 := r_eq1 (-1) (-1) c8x19 i8x17 (in_c (-1) rfl) rfl
        refine g_iconst 0 27 (gd rfl) rfl rfl ?_
        refine g_ireturn (gd rfl) rfl (nb01 (in_w 0 1 (in_c 0 rfl) rfl)) (hp8 _ _ ?_)
        show GG _ _ _ _ _ _ _ _ [.int (Int32.ofInt 0)] _ _ _
        refine g_thr (E := am_IA) (y := yX11_allow) 14 (gd rfl) rfl rfl (Or.inl ⟨rfl, rfl, rfl⟩) (by first | exact dq1 hd rfl | exact dq0 hd rfl | exact dq2 hd rfl | exact dq3 hd rfl | omega) (Nat.le_of_ble_eq_true rfl) (Nat.le_of_ble_eq_true rfl) (Nat.le_of_ble_eq_true rfl) (fun c11 => ?_) (fun c11 => ?_)
        · skip
          exact zn_ne c11 (in_c 0 rfl) rfl
        · skip
          have n11 : ¬ HAC s x1 := by intro h; have h9 := h.2.2; rw [← e8x17] at h9; (first | have a0 := oa5 i8x9 i8x9a ((inv_F hI 448 28000 rfl e_30_0)) ((inv_F hI 0 32 rfl e_2_1)) ((inv_F hI 0 4000 rfl e_2_0)) | ((first | have a0 := in_u i8x9 | (have a0 := i8x9; unfold In at a0)); (first | have a1 := in_u i8x9a | (have a1 := i8x9a; unfold In at a1)); (first | have a2 := in_u ((inv_F hI 448 28000 rfl e_30_0)) | (have a2 := (inv_F hI 448 28000 rfl e_30_0); unfold In at a2)); (first | have a3 := in_u ((inv_F hI 0 32 rfl e_2_1)) | (have a3 := (inv_F hI 0 32 rfl e_2_1); unfold In at a3)); (first | have a4 := in_u ((inv_F hI 0 4000 rfl e_2_0)) | (have a4 := (inv_F hI 0 4000 rfl e_2_0); unfold In at a4)))); have oc := oc_214_0; omega
          exact (hX _ _ ⟨Or.inl ⟨rfl, n11⟩, s, hI, fr_rf, rfl⟩)
      · skip
        have i8x19 := r_ne1 0 31 c8x19 i8x17 (in_c (-1) rfl) rfl
        refine g_iconst 1 23 (gd rfl) rfl rfl ?_
        refine g_goto 27 (gd rfl) rfl ?_
        refine g_ireturn (gd rfl) rfl (nb01 (in_w 0 1 (in_c 1 rfl) rfl)) (hp8 _ _ ?_)
        show GG _ _ _ _ _ _ _ _ [.int (Int32.ofInt 1)] _ _ _
        refine g_thr (E := am_IA) (y := yX11_allow) 14 (gd rfl) rfl rfl (Or.inl ⟨rfl, rfl, rfl⟩) (by first | exact dq1 hd rfl | exact dq0 hd rfl | exact dq2 hd rfl | exact dq3 hd rfl | omega) (Nat.le_of_ble_eq_true rfl) (Nat.le_of_ble_eq_true rfl) (Nat.le_of_ble_eq_true rfl) (fun c11 => ?_) (fun c11 => ?_)
        · skip
          refine g_aload_n 15 (gd rfl) rfl rfl ?_
          refine g_getA (q2 := 1) 18 (gd rfl) rfl rfl rfl rfl ?_
          refine g_callv (X := _) (As := []) (r := []) (b := A 1) (q := 1) 21 (gd rfl) rfl rfl rfl rfl rfl (ww_o rfl) (Nat.le_of_ble_eq_true rfl) (mc := 0) (ms := 0) (Nat.zero_le _) (Nat.zero_le _) (P := fun v u => _) ?_ (fun e u h => h) (fun v u h => h)
          intro po18 xx18 hp18 hx18
          refine g_enter2 (k := 122) (N := 300) (by first | exact dq1 hd rfl | exact dq0 hd rfl | exact dq2 hd rfl | exact dq3 hd rfl | omega) rfl (Nat.le_of_ble_eq_true rfl) ?_
          refine g_aload_n 1 (gd rfl) rfl rfl ?_
          refine g_getA (q2 := 2) 4 (gd rfl) rfl rfl rfl rfl ?_
          refine g_getI 7 (gd rfl) rfl rfl rfl (fun z18x4 e18x4 => ?_)
          have q18x4 : u_2_0 = z18x4 := (e_2_0).trans e18x4.symm
          subst q18x4
          refine g_sipush 4000 10 (gd rfl) rfl rfl ?_
          refine g_cmp_lt 13 17 (gd rfl) rfl rfl (fun c18x10 => ?_) (fun c18x10 => ?_)
          · skip
            have i18x10 := r_lt1 0 3999 c18x10 (inv_F hI 0 4000 rfl e_2_0) (in_c 4000 rfl) rfl
            refine g_iconst 0 18 (gd rfl) rfl rfl ?_
            refine g_ireturn (gd rfl) rfl (nb01 (in_w 0 1 (in_c 0 rfl) rfl)) (hp18 _ _ ?_)
            show GG _ _ _ _ _ _ _ _ [.int (Int32.ofInt 0)] _ _ _
            refine g_if_ne 24 28 (gd rfl) rfl rfl (fun c21 => ?_) (fun c21 => ?_)
            · skip
              exact zn_ne c21 (in_c 0 rfl) rfl
            · skip
              refine g_iconst 1 25 (gd rfl) rfl rfl ?_
              refine g_goto 29 (gd rfl) rfl ?_
              refine g_thr (E := am_IS) (y := yX11_ready) 32 (gd rfl) rfl rfl (Or.inr ⟨rfl, rfl, rfl⟩) (by first | exact dq1 hd rfl | exact dq0 hd rfl | exact dq2 hd rfl | exact dq3 hd rfl | omega) (Nat.le_of_ble_eq_true rfl) (Nat.le_of_ble_eq_true rfl) (Nat.le_of_ble_eq_true rfl) (fun c29 => ?_) (fun c29 => ?_)
              · skip
                refine g_aload_n 33 (gd rfl) rfl rfl ?_
                refine g_getA (q2 := 1) 36 (gd rfl) rfl rfl rfl rfl ?_
                refine g_iload_n 37 (gd rfl) rfl rfl ?_
                have p37 : KL s := by exact q_0
                refine g_callv (X := _) (As := [.int x1]) (r := []) (b := A 1) (q := 1) 40 (gd rfl) rfl rfl rfl rfl rfl (ww_o rfl) (Nat.le_of_ble_eq_true rfl) (Nat.le_trans lgc_le (Nat.le_of_ble_eq_true rfl)) (Nat.le_trans (lsl_le (inv_F hI 448 28000 (q := 30) (j := 0) rfl rfl) (by rw [← (show u_2_0 = s.2.2.1 2 0 from e_2_0)]; exact in_w 0 3999 i18x10 rfl)) (Nat.le_of_ble_eq_true rfl)) (f_126_1 (by first | exact dq1 hd rfl | exact dq0 hd rfl | exact dq2 hd rfl | exact dq3 hd rfl | omega) hI (in_w 0 159 i8x9 rfl) e_2_0 e_2_1 e_30_0 (in_w 0 3999 i18x10 rfl) p37) (fun e u h => h) (fun v u h => ?_)
                obtain ⟨a37, s37, hI37, hF37, n37, rfl, rfl, p37a, p37b, p37c, p37d, p37e, p37f⟩ := h
                obtain ⟨z37a, e37⟩ : ∃ w, w = s37.2.2.1 2 0 := ⟨_, rfl⟩
                have i37a := inv_F hI37 0 4000 rfl e37
                rw [← (show u_2_0 = s.2.2.1 2 0 from e_2_0)] at n37
                rw [← (show z37a = s37.2.2.1 2 0 from e37)] at n37
                show GG _ _ _ _ _ _ _ _ [] _ _ _
                refine g_aload_n 41 (gd rfl) rfl rfl ?_
                refine g_getA (A := (ax A 30 a37)) (q := 0) (q2 := 1) 44 (gd rfl) rfl rfl rfl rfl ?_
                refine g_getA (A := (ax A 30 a37)) (q := 1) (q2 := 2) 47 (gd rfl) rfl rfl rfl rfl ?_
                refine g_getI (A := (ax A 30 a37)) (q := 2) 50 (gd rfl) rfl rfl rfl (fun z47 e47 => ?_)
                have q47 : z37a = z47 := (e37).trans e47.symm
                subst q47
                have n50 : KL s37 := by exact p37a
                have n50a : HAC s x1 ∧ (s.2.2.1 2 0).toInt ≤ 3999 ∧ (z37a).toInt = (s.2.2.1 2 0).toInt + 1 ∧ gvC s37 = gqD (gvC s) (x1).toNatClampNeg := by exact ⟨⟨by (first | have a0 := oa6 i8x9 i8x9a ((inv_F hI 448 28000 rfl e_30_0)) ((inv_F hI 0 32 rfl e_2_1)) i18x10 i37a | ((first | have a0 := in_u i8x9 | (have a0 := i8x9; unfold In at a0)); (first | have a1 := in_u i8x9a | (have a1 := i8x9a; unfold In at a1)); (first | have a2 := in_u ((inv_F hI 448 28000 rfl e_30_0)) | (have a2 := (inv_F hI 448 28000 rfl e_30_0); unfold In at a2)); (first | have a3 := in_u ((inv_F hI 0 32 rfl e_2_1)) | (have a3 := (inv_F hI 0 32 rfl e_2_1); unfold In at a3)); (first | have a4 := in_u i18x10 | (have a4 := i18x10; unfold In at a4)); (first | have a5 := in_u i37a | (have a5 := i37a; unfold In at a5)))); have oc := oc_214_0; omega, by (first | have a0 := oa6 i8x9 i8x9a ((inv_F hI 448 28000 rfl e_30_0)) ((inv_F hI 0 32 rfl e_2_1)) i18x10 i37a | ((first | have a0 := in_u i8x9 | (have a0 := i8x9; unfold In at a0)); (first | have a1 := in_u i8x9a | (have a1 := i8x9a; unfold In at a1)); (first | have a2 := in_u ((inv_F hI 448 28000 rfl e_30_0)) | (have a2 := (inv_F hI 448 28000 rfl e_30_0); unfold In at a2)); (first | have a3 := in_u ((inv_F hI 0 32 rfl e_2_1)) | (have a3 := (inv_F hI 0 32 rfl e_2_1); unfold In at a3)); (first | have a4 := in_u i18x10 | (have a4 := i18x10; unfold In at a4)); (first | have a5 := in_u i37a | (have a5 := i37a; unfold In at a5)))); have oc := oc_214_0; omega, by rw [← e8x17]; (first | have a0 := oa6 i8x9 i8x9a ((inv_F hI 448 28000 rfl e_30_0)) ((inv_F hI 0 32 rfl e_2_1)) i18x10 i37a | ((first | have a0 := in_u i8x9 | (have a0 := i8x9; unfold In at a0)); (first | have a1 := in_u i8x9a | (have a1 := i8x9a; unfold In at a1)); (first | have a2 := in_u ((inv_F hI 448 28000 rfl e_30_0)) | (have a2 := (inv_F hI 448 28000 rfl e_30_0); unfold In at a2)); (first | have a3 := in_u ((inv_F hI 0 32 rfl e_2_1)) | (have a3 := (inv_F hI 0 32 rfl e_2_1); unfold In at a3)); (first | have a4 := in_u i18x10 | (have a4 := i18x10; unfold In at a4)); (first | have a5 := in_u i37a | (have a5 := i37a; unfold In at a5)))); have oc := oc_214_0; omega⟩, by rw [← e_2_0]; (first | have a0 := oa6 i8x9 i8x9a ((inv_F hI 448 28000 rfl e_30_0)) ((inv_F hI 0 32 rfl e_2_1)) i18x10 i37a | ((first | have a0 := in_u i8x9 | (have a0 := i8x9; unfold In at a0)); (first | have a1 := in_u i8x9a | (have a1 := i8x9a; unfold In at a1)); (first | have a2 := in_u ((inv_F hI 448 28000 rfl e_30_0)) | (have a2 := (inv_F hI 448 28000 rfl e_30_0); unfold In at a2)); (first | have a3 := in_u ((inv_F hI 0 32 rfl e_2_1)) | (have a3 := (inv_F hI 0 32 rfl e_2_1); unfold In at a3)); (first | have a4 := in_u i18x10 | (have a4 := i18x10; unfold In at a4)); (first | have a5 := in_u i37a | (have a5 := i37a; unfold In at a5)))); have oc := oc_214_0; omega, by rw [← e_2_0]; (first | have a0 := oa6 i8x9 i8x9a ((inv_F hI 448 28000 rfl e_30_0)) ((inv_F hI 0 32 rfl e_2_1)) i18x10 i37a | ((first | have a0 := in_u i8x9 | (have a0 := i8x9; unfold In at a0)); (first | have a1 := in_u i8x9a | (have a1 := i8x9a; unfold In at a1)); (first | have a2 := in_u ((inv_F hI 448 28000 rfl e_30_0)) | (have a2 := (inv_F hI 448 28000 rfl e_30_0); unfold In at a2)); (first | have a3 := in_u ((inv_F hI 0 32 rfl e_2_1)) | (have a3 := (inv_F hI 0 32 rfl e_2_1); unfold In at a3)); (first | have a4 := in_u i18x10 | (have a4 := i18x10; unfold In at a4)); (first | have a5 := in_u i37a | (have a5 := i37a; unfold In at a5)))); have oc := oc_214_0; omega, p37d⟩
                have n50b : TQ s37 := by exact p37e q_1
                have n50c : ∀ k : Nat, (k : Int) < 7 * (s.2.2.1 2 0).toInt → s37.1 30 k = s.1 30 k := by exact p37c
                have n50d : s37.1 30 (7 * (s.2.2.1 2 0).toInt.toNat) = (Int32.ofInt 2) ∧ s37.1 30 (7 * (s.2.2.1 2 0).toInt.toNat + 1) = x1 ∧ s37.1 30 (7 * (s.2.2.1 2 0).toInt.toNat + 2) = (Int32.ofInt 0) ∧ s37.1 30 (7 * (s.2.2.1 2 0).toInt.toNat + 3) = (Int32.ofInt 0) := by exact p37f
                exact g_ireturn (gd rfl) rfl rfl (hP _ _ ⟨a37, s37, hI37, (fr_tr rfl fr_rf hF37), z37a, rfl, rfl, in_w 0 4000 i37a rfl, n50, n50a, n50b, n50c, n50d⟩)
              · skip
                exact zn_eq c29 (in_c 1 rfl) rfl
          · skip
            have i18x10 := r_le2 4000 4000 c18x10 (in_c 4000 rfl) (inv_F hI 0 4000 rfl e_2_0) rfl
            refine g_iconst 1 14 (gd rfl) rfl rfl ?_
            refine g_goto 18 (gd rfl) rfl ?_
            refine g_ireturn (gd rfl) rfl (nb01 (in_w 0 1 (in_c 1 rfl) rfl)) (hp18 _ _ ?_)
            show GG _ _ _ _ _ _ _ _ [.int (Int32.ofInt 1)] _ _ _
            refine g_if_ne 24 28 (gd rfl) rfl rfl (fun c21 => ?_) (fun c21 => ?_)
            · skip
              refine g_iconst 0 29 (gd rfl) rfl rfl ?_
              refine g_thr (E := am_IS) (y := yX11_ready) 32 (gd rfl) rfl rfl (Or.inr ⟨rfl, rfl, rfl⟩) (by first | exact dq1 hd rfl | exact dq0 hd rfl | exact dq2 hd rfl | exact dq3 hd rfl | omega) (Nat.le_of_ble_eq_true rfl) (Nat.le_of_ble_eq_true rfl) (Nat.le_of_ble_eq_true rfl) (fun c29 => ?_) (fun c29 => ?_)
              · skip
                exact zn_ne c29 (in_c 0 rfl) rfl
              · skip
                have n29 : HAC s x1 ∧ ¬ (s.2.2.1 2 0).toInt ≤ 3999 := by refine ⟨⟨by (first | have a0 := oa5 i8x9 i8x9a ((inv_F hI 448 28000 rfl e_30_0)) ((inv_F hI 0 32 rfl e_2_1)) i18x10 | ((first | have a0 := in_u i8x9 | (have a0 := i8x9; unfold In at a0)); (first | have a1 := in_u i8x9a | (have a1 := i8x9a; unfold In at a1)); (first | have a2 := in_u ((inv_F hI 448 28000 rfl e_30_0)) | (have a2 := (inv_F hI 448 28000 rfl e_30_0); unfold In at a2)); (first | have a3 := in_u ((inv_F hI 0 32 rfl e_2_1)) | (have a3 := (inv_F hI 0 32 rfl e_2_1); unfold In at a3)); (first | have a4 := in_u i18x10 | (have a4 := i18x10; unfold In at a4)))); have oc := oc_214_0; omega, by (first | have a0 := oa5 i8x9 i8x9a ((inv_F hI 448 28000 rfl e_30_0)) ((inv_F hI 0 32 rfl e_2_1)) i18x10 | ((first | have a0 := in_u i8x9 | (have a0 := i8x9; unfold In at a0)); (first | have a1 := in_u i8x9a | (have a1 := i8x9a; unfold In at a1)); (first | have a2 := in_u ((inv_F hI 448 28000 rfl e_30_0)) | (have a2 := (inv_F hI 448 28000 rfl e_30_0); unfold In at a2)); (first | have a3 := in_u ((inv_F hI 0 32 rfl e_2_1)) | (have a3 := (inv_F hI 0 32 rfl e_2_1); unfold In at a3)); (first | have a4 := in_u i18x10 | (have a4 := i18x10; unfold In at a4)))); have oc := oc_214_0; omega, by rw [← e8x17]; (first | have a0 := oa5 i8x9 i8x9a ((inv_F hI 448 28000 rfl e_30_0)) ((inv_F hI 0 32 rfl e_2_1)) i18x10 | ((first | have a0 := in_u i8x9 | (have a0 := i8x9; unfold In at a0)); (first | have a1 := in_u i8x9a | (have a1 := i8x9a; unfold In at a1)); (first | have a2 := in_u ((inv_F hI 448 28000 rfl e_30_0)) | (have a2 := (inv_F hI 448 28000 rfl e_30_0); unfold In at a2)); (first | have a3 := in_u ((inv_F hI 0 32 rfl e_2_1)) | (have a3 := (inv_F hI 0 32 rfl e_2_1); unfold In at a3)); (first | have a4 := in_u i18x10 | (have a4 := i18x10; unfold In at a4)))); have oc := oc_214_0; omega⟩, ?_⟩; rw [← e_2_0]; (first | have a0 := oa5 i8x9 i8x9a ((inv_F hI 448 28000 rfl e_30_0)) ((inv_F hI 0 32 rfl e_2_1)) i18x10 | ((first | have a0 := in_u i8x9 | (have a0 := i8x9; unfold In at a0)); (first | have a1 := in_u i8x9a | (have a1 := i8x9a; unfold In at a1)); (first | have a2 := in_u ((inv_F hI 448 28000 rfl e_30_0)) | (have a2 := (inv_F hI 448 28000 rfl e_30_0); unfold In at a2)); (first | have a3 := in_u ((inv_F hI 0 32 rfl e_2_1)) | (have a3 := (inv_F hI 0 32 rfl e_2_1); unfold In at a3)); (first | have a4 := in_u i18x10 | (have a4 := i18x10; unfold In at a4)))); have oc := oc_214_0; omega
                exact (hX _ _ ⟨Or.inr ⟨rfl, n29⟩, s, hI, fr_rf, rfl⟩)
            · skip
              exact zn_eq c21 (in_c 1 rfl) rfl
        · skip
          exact zn_eq c11 (in_c 1 rfl) rfl

theorem oc_215_0 : (Int32.ofInt (-1000000)).toInt = (-1000000) ∧ (Int32.ofInt (-1)).toInt = (-1) ∧ (Int32.ofInt 0).toInt = 0 ∧ (Int32.ofInt 1).toInt = 1 ∧ (Int32.ofInt 2).toInt = 2 ∧ (Int32.ofInt 26).toInt = 26 ∧ (Int32.ofInt 4000).toInt = 4000 ∧ (Int32.ofInt 1000000).toInt = 1000000 := ⟨rfl, rfl, rfl, rfl, rfl, rfl, rfl, rfl⟩
/-- GraphHouse.set -/
theorem f_215_0 {Z : AmZ} {A : Nat → Nat} {s : GS} {ex : va_W} {d : Nat} {x1 : Int32} {x2 : Int32} {x3 : Int32} {u_2_0 : Int32} {u_2_1 : Int32} {u_30_0 : Int32} {u_2_3 : Int32} (hd : 8 ≤ d) (hI : Inv s) (e_2_0 : u_2_0 = s.2.2.1 2 0) (e_2_1 : u_2_1 = s.2.2.1 2 1) (e_30_0 : u_30_0 = s.2.2.1 30 0) (e_2_3 : u_2_3 = s.2.2.1 2 3) (q_0 : KL s) (q_1 : TQ s) : GC Z d 215 [.ref (A 0), .int x1, .int x2, .int x3] (WW Z A s ++ ex) 4 28018 (fun v u => ∃ a : Nat, ∃ t : GS, Inv t ∧ Fr fm_215_0 s t ∧ ∃ z : Int32, v = some (.int z) ∧ u = WW Z (ax A 30 a) t ++ ex ∧ In z (-1000000) 1000000 ∧ (KL t) ∧ ((HAC s x1 ∧ GVL x2 x3) ∧ (s.2.2.1 2 0).toInt ≤ 3999 ∧ (z) = (if (x2).toInt = 0 then s.1 6 (x1).toNatClampNeg else if (x2).toInt = 1 then s.1 7 (x1).toNatClampNeg else s.1 8 (x1).toNatClampNeg) ∧ gvC t = gqW (gvC s) (x1).toNatClampNeg x2 x3) ∧ (TQ t) ∧ (∀ k : Nat, (k : Int) < 7 * (s.2.2.1 2 0).toInt → t.1 30 k = s.1 30 k) ∧ (t.1 30 (7 * (s.2.2.1 2 0).toInt.toNat) = (Int32.ofInt 3) ∧ t.1 30 (7 * (s.2.2.1 2 0).toInt.toNat + 1) = x1 ∧ t.1 30 (7 * (s.2.2.1 2 0).toInt.toNat + 2) = x2 ∧ t.1 30 (7 * (s.2.2.1 2 0).toInt.toNat + 3) = x3)) (gEx Z A ex ([], [], [], []) s (¬ (HAC s x1 ∧ GVL x2 x3)) ((HAC s x1 ∧ GVL x2 x3) ∧ ¬ (s.2.2.1 2 0).toInt ≤ 3999)) := by
  intro post xp hP hX
  refine g_enter2 (k := 215) (N := 900) (by first | exact dq1 hd rfl | exact dq0 hd rfl | exact dq2 hd rfl | exact dq3 hd rfl | omega) rfl (Nat.le_of_ble_eq_true rfl) ?_
  refine g_aload_n 1 (gd rfl) rfl rfl ?_
  refine g_getA (q2 := 1) 4 (gd rfl) rfl rfl rfl rfl ?_
  refine g_getA (q2 := 2) 7 (gd rfl) rfl rfl rfl rfl ?_
  refine g_iload_n 8 (gd rfl) rfl rfl ?_
  refine g_callv (X := _) (As := [.int x1]) (r := []) (b := A 2) (q := 2) 11 (gd rfl) rfl rfl rfl rfl rfl (ww_o rfl) (Nat.le_of_ble_eq_true rfl) (mc := 0) (ms := 0) (Nat.zero_le _) (Nat.zero_le _) (P := fun v u => _) ?_ (fun e u h => h) (fun v u h => h)
  intro po8 xx8 hp8 hx8
  refine g_enter2 (k := 96) (N := 300) (by first | exact dq1 hd rfl | exact dq0 hd rfl | exact dq2 hd rfl | exact dq3 hd rfl | omega) rfl (Nat.le_of_ble_eq_true rfl) ?_
  refine g_iload_n 1 (gd rfl) rfl rfl ?_
  refine g_if_lt 4 26 (gd rfl) rfl rfl (fun c8x1 => ?_) (fun c8x1 => ?_)
  · skip
    have i8x1 := z_lt (-2147483648) (-1) c8x1 (i_rng x1) rfl
    refine g_iconst 0 27 (gd rfl) rfl rfl ?_
    refine g_ireturn (gd rfl) rfl (nb01 (in_w 0 1 (in_c 0 rfl) rfl)) (hp8 _ _ ?_)
    show GG _ _ _ _ _ _ _ _ [.int (Int32.ofInt 0)] _ _ _
    refine g_if_eq 14 26 (gd rfl) rfl rfl (fun c11 => ?_) (fun c11 => ?_)
    · skip
      refine g_iconst 0 27 (gd rfl) rfl rfl ?_
      refine g_thr (E := am_IA) (y := yX11_allow) 30 (gd rfl) rfl rfl (Or.inl ⟨rfl, rfl, rfl⟩) (by first | exact dq1 hd rfl | exact dq0 hd rfl | exact dq2 hd rfl | exact dq3 hd rfl | omega) (Nat.le_of_ble_eq_true rfl) (Nat.le_of_ble_eq_true rfl) (Nat.le_of_ble_eq_true rfl) (fun c27 => ?_) (fun c27 => ?_)
      · skip
        exact zn_ne c27 (in_c 0 rfl) rfl
      · skip
        have n27 : ¬ (HAC s x1 ∧ GVL x2 x3) := by intro h; have h7 := h.1.1; have h8 := h.1.2.1; have h9 := q_1 x1.toNatClampNeg (by show x1.toInt.toNat < 160; omega) h.1.2.2; rw [← e_2_3] at h9; have h6 : x1.toNatClampNeg = x1.toInt.toNat := rfl; (first | have a0 := oa5 ((inv_F hI 0 160 rfl e_2_3)) ((inv_F hI 448 28000 rfl e_30_0)) ((inv_F hI 0 32 rfl e_2_1)) ((inv_F hI 0 4000 rfl e_2_0)) i8x1 | ((first | have a0 := in_u ((inv_F hI 0 160 rfl e_2_3)) | (have a0 := (inv_F hI 0 160 rfl e_2_3); unfold In at a0)); (first | have a1 := in_u ((inv_F hI 448 28000 rfl e_30_0)) | (have a1 := (inv_F hI 448 28000 rfl e_30_0); unfold In at a1)); (first | have a2 := in_u ((inv_F hI 0 32 rfl e_2_1)) | (have a2 := (inv_F hI 0 32 rfl e_2_1); unfold In at a2)); (first | have a3 := in_u ((inv_F hI 0 4000 rfl e_2_0)) | (have a3 := (inv_F hI 0 4000 rfl e_2_0); unfold In at a3)); (first | have a4 := in_u i8x1 | (have a4 := i8x1; unfold In at a4)))); have oc := oc_215_0; omega
        exact (hX _ _ ⟨Or.inl ⟨rfl, n27⟩, s, hI, fr_rf, rfl⟩)
    · skip
      exact zn_ne c11 (in_c 0 rfl) rfl
  · skip
    have i8x1 := z_ge 0 2147483647 c8x1 (i_rng x1) rfl
    refine g_iload_n 5 (gd rfl) rfl rfl ?_
    refine g_aload_n 6 (gd rfl) rfl rfl ?_
    refine g_getI 9 (gd rfl) rfl rfl rfl (fun z8x6 e8x6 => ?_)
    have q8x6 : u_2_3 = z8x6 := (e_2_3).trans e8x6.symm
    subst q8x6
    refine g_cmp_ge 12 26 (gd rfl) rfl rfl (fun c8x9 => ?_) (fun c8x9 => ?_)
    · skip
      refine g_iconst 0 27 (gd rfl) rfl rfl ?_
      refine g_ireturn (gd rfl) rfl (nb01 (in_w 0 1 (in_c 0 rfl) rfl)) (hp8 _ _ ?_)
      show GG _ _ _ _ _ _ _ _ [.int (Int32.ofInt 0)] _ _ _
      refine g_if_eq 14 26 (gd rfl) rfl rfl (fun c11 => ?_) (fun c11 => ?_)
      · skip
        refine g_iconst 0 27 (gd rfl) rfl rfl ?_
        refine g_thr (E := am_IA) (y := yX11_allow) 30 (gd rfl) rfl rfl (Or.inl ⟨rfl, rfl, rfl⟩) (by first | exact dq1 hd rfl | exact dq0 hd rfl | exact dq2 hd rfl | exact dq3 hd rfl | omega) (Nat.le_of_ble_eq_true rfl) (Nat.le_of_ble_eq_true rfl) (Nat.le_of_ble_eq_true rfl) (fun c27 => ?_) (fun c27 => ?_)
        · skip
          exact zn_ne c27 (in_c 0 rfl) rfl
        · skip
          have n27 : ¬ (HAC s x1 ∧ GVL x2 x3) := by intro h; have h7 := h.1.1; have h8 := h.1.2.1; have h9 := q_1 x1.toNatClampNeg (by show x1.toInt.toNat < 160; omega) h.1.2.2; rw [← e_2_3] at h9; have h6 : x1.toNatClampNeg = x1.toInt.toNat := rfl; (first | have a0 := oa5 ((inv_F hI 0 160 rfl e_2_3)) ((inv_F hI 448 28000 rfl e_30_0)) ((inv_F hI 0 32 rfl e_2_1)) ((inv_F hI 0 4000 rfl e_2_0)) i8x1 | ((first | have a0 := in_u ((inv_F hI 0 160 rfl e_2_3)) | (have a0 := (inv_F hI 0 160 rfl e_2_3); unfold In at a0)); (first | have a1 := in_u ((inv_F hI 448 28000 rfl e_30_0)) | (have a1 := (inv_F hI 448 28000 rfl e_30_0); unfold In at a1)); (first | have a2 := in_u ((inv_F hI 0 32 rfl e_2_1)) | (have a2 := (inv_F hI 0 32 rfl e_2_1); unfold In at a2)); (first | have a3 := in_u ((inv_F hI 0 4000 rfl e_2_0)) | (have a3 := (inv_F hI 0 4000 rfl e_2_0); unfold In at a3)); (first | have a4 := in_u i8x1 | (have a4 := i8x1; unfold In at a4)))); have oc := oc_215_0; omega
          exact (hX _ _ ⟨Or.inl ⟨rfl, n27⟩, s, hI, fr_rf, rfl⟩)
      · skip
        exact zn_ne c11 (in_c 0 rfl) rfl
    · skip
      have i8x9 := r_lt1 0 159 c8x9 i8x1 (inv_F hI 0 160 rfl e_2_3) rfl
      have i8x9a := r_lt2 1 160 c8x9 i8x1 (inv_F hI 0 160 rfl e_2_3) rfl
      refine g_aload_n 13 (gd rfl) rfl rfl ?_
      refine g_getA (q2 := 4) 16 (gd rfl) rfl rfl rfl rfl ?_
      refine g_iload_n 17 (gd rfl) rfl rfl ?_
      refine g_iaload 18 (gd rfl) rfl (n := 160) rfl (in_ix i8x9 rfl) (fun z8x17 e8x17 => ?_)
      have i8x17 := inv_I hI (n := 160) (t := 0) (-1) 31 rfl (in_ix i8x9 rfl) rfl e8x17
      refine g_iconst (-1) 19 (gd rfl) rfl rfl ?_
      refine g_cmp_eq 22 26 (gd rfl) rfl rfl (fun c8x19 => ?_) (fun c8x19 => ?_)
      · skip
        have i8x19 := r_eq1 (-1) (-1) c8x19 i8x17 (in_c (-1) rfl) rfl
        refine g_iconst 0 27 (gd rfl) rfl rfl ?_
        refine g_ireturn (gd rfl) rfl (nb01 (in_w 0 1 (in_c 0 rfl) rfl)) (hp8 _ _ ?_)
        show GG _ _ _ _ _ _ _ _ [.int (Int32.ofInt 0)] _ _ _
        refine g_if_eq 14 26 (gd rfl) rfl rfl (fun c11 => ?_) (fun c11 => ?_)
        · skip
          refine g_iconst 0 27 (gd rfl) rfl rfl ?_
          refine g_thr (E := am_IA) (y := yX11_allow) 30 (gd rfl) rfl rfl (Or.inl ⟨rfl, rfl, rfl⟩) (by first | exact dq1 hd rfl | exact dq0 hd rfl | exact dq2 hd rfl | exact dq3 hd rfl | omega) (Nat.le_of_ble_eq_true rfl) (Nat.le_of_ble_eq_true rfl) (Nat.le_of_ble_eq_true rfl) (fun c27 => ?_) (fun c27 => ?_)
          · skip
            exact zn_ne c27 (in_c 0 rfl) rfl
          · skip
            have n27 : ¬ (HAC s x1 ∧ GVL x2 x3) := by intro h; have h9 := h.1.2.2; rw [← e8x17] at h9; (first | have a0 := oa5 i8x9 i8x9a ((inv_F hI 448 28000 rfl e_30_0)) ((inv_F hI 0 32 rfl e_2_1)) ((inv_F hI 0 4000 rfl e_2_0)) | ((first | have a0 := in_u i8x9 | (have a0 := i8x9; unfold In at a0)); (first | have a1 := in_u i8x9a | (have a1 := i8x9a; unfold In at a1)); (first | have a2 := in_u ((inv_F hI 448 28000 rfl e_30_0)) | (have a2 := (inv_F hI 448 28000 rfl e_30_0); unfold In at a2)); (first | have a3 := in_u ((inv_F hI 0 32 rfl e_2_1)) | (have a3 := (inv_F hI 0 32 rfl e_2_1); unfold In at a3)); (first | have a4 := in_u ((inv_F hI 0 4000 rfl e_2_0)) | (have a4 := (inv_F hI 0 4000 rfl e_2_0); unfold In at a4)))); have oc := oc_215_0; omega
            exact (hX _ _ ⟨Or.inl ⟨rfl, n27⟩, s, hI, fr_rf, rfl⟩)
        · skip
          exact zn_ne c11 (in_c 0 rfl) rfl
      · skip
        have i8x19 := r_ne1 0 31 c8x19 i8x17 (in_c (-1) rfl) rfl
        refine g_iconst 1 23 (gd rfl) rfl rfl ?_
        refine g_goto 27 (gd rfl) rfl ?_
        refine g_ireturn (gd rfl) rfl (nb01 (in_w 0 1 (in_c 1 rfl) rfl)) (hp8 _ _ ?_)
        show GG _ _ _ _ _ _ _ _ [.int (Int32.ofInt 1)] _ _ _
        refine g_if_eq 14 26 (gd rfl) rfl rfl (fun c11 => ?_) (fun c11 => ?_)
        · skip
          exact zn_eq c11 (in_c 1 rfl) rfl
        · skip
          refine g_iload_n 15 (gd rfl) rfl rfl ?_
          refine g_iload_n 16 (gd rfl) rfl rfl ?_
          refine g_calls (As := [.int x2, .int x3]) (r := []) 19 (gd rfl) rfl rfl rfl rfl rfl (Nat.le_of_ble_eq_true rfl) (mc := 0) (ms := 0) (Nat.zero_le _) (Nat.zero_le _) (P := fun v u => _) ?_ (fun v u h => h)
          intro po16 xx16 hp16 hx16
          refine g_enter2 (k := 263) (N := 300) (by first | exact dq1 hd rfl | exact dq0 hd rfl | exact dq2 hd rfl | exact dq3 hd rfl | omega) rfl (Nat.le_of_ble_eq_true rfl) ?_
          refine g_iload_n 1 (gd rfl) rfl rfl ?_
          refine g_if_ne 4 9 (gd rfl) rfl rfl (fun c16x1 => ?_) (fun c16x1 => ?_)
          · skip
            refine g_iload_n 10 (gd rfl) rfl rfl ?_
            refine g_iconst 1 11 (gd rfl) rfl rfl ?_
            refine g_cmp_ne 14 19 (gd rfl) rfl rfl (fun c16x11 => ?_) (fun c16x11 => ?_)
            · skip
              refine g_iload_n 20 (gd rfl) rfl rfl ?_
              refine g_iconst 2 21 (gd rfl) rfl rfl ?_
              refine g_cmp_ne 24 35 (gd rfl) rfl rfl (fun c16x21 => ?_) (fun c16x21 => ?_)
              · skip
                refine g_iconst 0 36 (gd rfl) rfl rfl ?_
                refine g_ireturn (gd rfl) rfl (nb01 (in_w 0 1 (in_c 0 rfl) rfl)) (hp16 _ _ ?_)
                show GG _ _ _ _ _ _ _ _ [.int (Int32.ofInt 0)] _ _ _
                refine g_if_eq 22 26 (gd rfl) rfl rfl (fun c19 => ?_) (fun c19 => ?_)
                · skip
                  refine g_iconst 0 27 (gd rfl) rfl rfl ?_
                  refine g_thr (E := am_IA) (y := yX11_allow) 30 (gd rfl) rfl rfl (Or.inl ⟨rfl, rfl, rfl⟩) (by first | exact dq1 hd rfl | exact dq0 hd rfl | exact dq2 hd rfl | exact dq3 hd rfl | omega) (Nat.le_of_ble_eq_true rfl) (Nat.le_of_ble_eq_true rfl) (Nat.le_of_ble_eq_true rfl) (fun c27 => ?_) (fun c27 => ?_)
                  · skip
                    exact zn_ne c27 (in_c 0 rfl) rfl
                  · skip
                    have n27 : ¬ (HAC s x1 ∧ GVL x2 x3) := by intro h; have hg := h.2; unfold GVL In at hg; (first | have a0 := oa5 i8x9 i8x9a ((inv_F hI 448 28000 rfl e_30_0)) ((inv_F hI 0 32 rfl e_2_1)) ((inv_F hI 0 4000 rfl e_2_0)) | ((first | have a0 := in_u i8x9 | (have a0 := i8x9; unfold In at a0)); (first | have a1 := in_u i8x9a | (have a1 := i8x9a; unfold In at a1)); (first | have a2 := in_u ((inv_F hI 448 28000 rfl e_30_0)) | (have a2 := (inv_F hI 448 28000 rfl e_30_0); unfold In at a2)); (first | have a3 := in_u ((inv_F hI 0 32 rfl e_2_1)) | (have a3 := (inv_F hI 0 32 rfl e_2_1); unfold In at a3)); (first | have a4 := in_u ((inv_F hI 0 4000 rfl e_2_0)) | (have a4 := (inv_F hI 0 4000 rfl e_2_0); unfold In at a4)))); have oc := oc_215_0; omega
                    exact (hX _ _ ⟨Or.inl ⟨rfl, n27⟩, s, hI, fr_rf, rfl⟩)
                · skip
                  exact zn_ne c19 (in_c 0 rfl) rfl
              · skip
                have i16x21 := r_eq1 2 2 c16x21 (i_rng x2) (in_c 2 rfl) rfl
                refine g_iload_n 25 (gd rfl) rfl rfl ?_
                refine g_calls (As := [.int x3]) (r := []) 28 (gd rfl) rfl rfl rfl rfl rfl (Nat.le_of_ble_eq_true rfl) (mc := 0) (ms := 0) (Nat.zero_le _) (Nat.zero_le _) (P := fun v u => _) ?_ (fun v u h => h)
                intro po16x25 xx16x25 hp16x25 hx16x25
                refine g_enter2 (k := 260) (N := 300) (by first | exact dq1 hd rfl | exact dq0 hd rfl | exact dq2 hd rfl | exact dq3 hd rfl | omega) rfl (Nat.le_of_ble_eq_true rfl) ?_
                refine g_iload_n 1 (gd rfl) rfl rfl ?_
                refine g_if_lt 4 14 (gd rfl) rfl rfl (fun c16x25x1 => ?_) (fun c16x25x1 => ?_)
                · skip
                  have i16x25x1 := z_lt (-2147483648) (-1) c16x25x1 (i_rng x3) rfl
                  refine g_iconst 0 15 (gd rfl) rfl rfl ?_
                  refine g_ireturn (gd rfl) rfl (nb01 (in_w 0 1 (in_c 0 rfl) rfl)) (hp16x25 _ _ ?_)
                  show GG _ _ _ _ _ _ _ _ [.int (Int32.ofInt 0)] _ _ _
                  refine g_if_eq 31 35 (gd rfl) rfl rfl (fun c16x28 => ?_) (fun c16x28 => ?_)
                  · skip
                    refine g_iconst 0 36 (gd rfl) rfl rfl ?_
                    refine g_ireturn (gd rfl) rfl (nb01 (in_w 0 1 (in_c 0 rfl) rfl)) (hp16 _ _ ?_)
                    show GG _ _ _ _ _ _ _ _ [.int (Int32.ofInt 0)] _ _ _
                    refine g_if_eq 22 26 (gd rfl) rfl rfl (fun c19 => ?_) (fun c19 => ?_)
                    · skip
                      refine g_iconst 0 27 (gd rfl) rfl rfl ?_
                      refine g_thr (E := am_IA) (y := yX11_allow) 30 (gd rfl) rfl rfl (Or.inl ⟨rfl, rfl, rfl⟩) (by first | exact dq1 hd rfl | exact dq0 hd rfl | exact dq2 hd rfl | exact dq3 hd rfl | omega) (Nat.le_of_ble_eq_true rfl) (Nat.le_of_ble_eq_true rfl) (Nat.le_of_ble_eq_true rfl) (fun c27 => ?_) (fun c27 => ?_)
                      · skip
                        exact zn_ne c27 (in_c 0 rfl) rfl
                      · skip
                        have n27 : ¬ (HAC s x1 ∧ GVL x2 x3) := by intro h; have hg := h.2; unfold GVL In at hg; (first | have a0 := oa7 i16x21 i8x9 i8x9a ((inv_F hI 448 28000 rfl e_30_0)) ((inv_F hI 0 32 rfl e_2_1)) ((inv_F hI 0 4000 rfl e_2_0)) i16x25x1 | ((first | have a0 := in_u i16x21 | (have a0 := i16x21; unfold In at a0)); (first | have a1 := in_u i8x9 | (have a1 := i8x9; unfold In at a1)); (first | have a2 := in_u i8x9a | (have a2 := i8x9a; unfold In at a2)); (first | have a3 := in_u ((inv_F hI 448 28000 rfl e_30_0)) | (have a3 := (inv_F hI 448 28000 rfl e_30_0); unfold In at a3)); (first | have a4 := in_u ((inv_F hI 0 32 rfl e_2_1)) | (have a4 := (inv_F hI 0 32 rfl e_2_1); unfold In at a4)); (first | have a5 := in_u ((inv_F hI 0 4000 rfl e_2_0)) | (have a5 := (inv_F hI 0 4000 rfl e_2_0); unfold In at a5)); (first | have a6 := in_u i16x25x1 | (have a6 := i16x25x1; unfold In at a6)))); have oc := oc_215_0; omega
                        exact (hX _ _ ⟨Or.inl ⟨rfl, n27⟩, s, hI, fr_rf, rfl⟩)
                    · skip
                      exact zn_ne c19 (in_c 0 rfl) rfl
                  · skip
                    exact zn_ne c16x28 (in_c 0 rfl) rfl
                · skip
                  have i16x25x1 := z_ge 0 2147483647 c16x25x1 (i_rng x3) rfl
                  refine g_iload_n 5 (gd rfl) rfl rfl ?_
                  refine g_bipush 26 7 (gd rfl) rfl rfl ?_
                  refine g_cmp_ge 10 14 (gd rfl) rfl rfl (fun c16x25x7 => ?_) (fun c16x25x7 => ?_)
                  · skip
                    have i16x25x7 := r_le2 26 2147483647 c16x25x7 (in_c 26 rfl) i16x25x1 rfl
                    refine g_iconst 0 15 (gd rfl) rfl rfl ?_
                    refine g_ireturn (gd rfl) rfl (nb01 (in_w 0 1 (in_c 0 rfl) rfl)) (hp16x25 _ _ ?_)
                    show GG _ _ _ _ _ _ _ _ [.int (Int32.ofInt 0)] _ _ _
                    refine g_if_eq 31 35 (gd rfl) rfl rfl (fun c16x28 => ?_) (fun c16x28 => ?_)
                    · skip
                      refine g_iconst 0 36 (gd rfl) rfl rfl ?_
                      refine g_ireturn (gd rfl) rfl (nb01 (in_w 0 1 (in_c 0 rfl) rfl)) (hp16 _ _ ?_)
                      show GG _ _ _ _ _ _ _ _ [.int (Int32.ofInt 0)] _ _ _
                      refine g_if_eq 22 26 (gd rfl) rfl rfl (fun c19 => ?_) (fun c19 => ?_)
                      · skip
                        refine g_iconst 0 27 (gd rfl) rfl rfl ?_
                        refine g_thr (E := am_IA) (y := yX11_allow) 30 (gd rfl) rfl rfl (Or.inl ⟨rfl, rfl, rfl⟩) (by first | exact dq1 hd rfl | exact dq0 hd rfl | exact dq2 hd rfl | exact dq3 hd rfl | omega) (Nat.le_of_ble_eq_true rfl) (Nat.le_of_ble_eq_true rfl) (Nat.le_of_ble_eq_true rfl) (fun c27 => ?_) (fun c27 => ?_)
                        · skip
                          exact zn_ne c27 (in_c 0 rfl) rfl
                        · skip
                          have n27 : ¬ (HAC s x1 ∧ GVL x2 x3) := by intro h; have hg := h.2; unfold GVL In at hg; (first | have a0 := oa7 i16x21 i8x9 i8x9a ((inv_F hI 448 28000 rfl e_30_0)) ((inv_F hI 0 32 rfl e_2_1)) ((inv_F hI 0 4000 rfl e_2_0)) i16x25x7 | ((first | have a0 := in_u i16x21 | (have a0 := i16x21; unfold In at a0)); (first | have a1 := in_u i8x9 | (have a1 := i8x9; unfold In at a1)); (first | have a2 := in_u i8x9a | (have a2 := i8x9a; unfold In at a2)); (first | have a3 := in_u ((inv_F hI 448 28000 rfl e_30_0)) | (have a3 := (inv_F hI 448 28000 rfl e_30_0); unfold In at a3)); (first | have a4 := in_u ((inv_F hI 0 32 rfl e_2_1)) | (have a4 := (inv_F hI 0 32 rfl e_2_1); unfold In at a4)); (first | have a5 := in_u ((inv_F hI 0 4000 rfl e_2_0)) | (have a5 := (inv_F hI 0 4000 rfl e_2_0); unfold In at a5)); (first | have a6 := in_u i16x25x7 | (have a6 := i16x25x7; unfold In at a6)))); have oc := oc_215_0; omega
                          exact (hX _ _ ⟨Or.inl ⟨rfl, n27⟩, s, hI, fr_rf, rfl⟩)
                      · skip
                        exact zn_ne c19 (in_c 0 rfl) rfl
                    · skip
                      exact zn_ne c16x28 (in_c 0 rfl) rfl
                  · skip
                    have i16x25x7 := r_lt1 0 25 c16x25x7 i16x25x1 (in_c 26 rfl) rfl
                    refine g_iconst 1 11 (gd rfl) rfl rfl ?_
                    refine g_goto 15 (gd rfl) rfl ?_
                    refine g_ireturn (gd rfl) rfl (nb01 (in_w 0 1 (in_c 1 rfl) rfl)) (hp16x25 _ _ ?_)
                    show GG _ _ _ _ _ _ _ _ [.int (Int32.ofInt 1)] _ _ _
                    refine g_if_eq 31 35 (gd rfl) rfl rfl (fun c16x28 => ?_) (fun c16x28 => ?_)
                    · skip
                      exact zn_eq c16x28 (in_c 1 rfl) rfl
                    · skip
                      refine g_iconst 1 32 (gd rfl) rfl rfl ?_
                      refine g_goto 36 (gd rfl) rfl ?_
                      refine g_ireturn (gd rfl) rfl (nb01 (in_w 0 1 (in_c 1 rfl) rfl)) (hp16 _ _ ?_)
                      show GG _ _ _ _ _ _ _ _ [.int (Int32.ofInt 1)] _ _ _
                      refine g_if_eq 22 26 (gd rfl) rfl rfl (fun c19 => ?_) (fun c19 => ?_)
                      · skip
                        exact zn_eq c19 (in_c 1 rfl) rfl
                      · skip
                        refine g_iconst 1 23 (gd rfl) rfl rfl ?_
                        refine g_goto 27 (gd rfl) rfl ?_
                        refine g_thr (E := am_IA) (y := yX11_allow) 30 (gd rfl) rfl rfl (Or.inl ⟨rfl, rfl, rfl⟩) (by first | exact dq1 hd rfl | exact dq0 hd rfl | exact dq2 hd rfl | exact dq3 hd rfl | omega) (Nat.le_of_ble_eq_true rfl) (Nat.le_of_ble_eq_true rfl) (Nat.le_of_ble_eq_true rfl) (fun c27 => ?_) (fun c27 => ?_)
                        · skip
                          refine g_aload_n 31 (gd rfl) rfl rfl ?_
                          refine g_getA (q2 := 1) 34 (gd rfl) rfl rfl rfl rfl ?_
                          refine g_callv (X := _) (As := []) (r := []) (b := A 1) (q := 1) 37 (gd rfl) rfl rfl rfl rfl rfl (ww_o rfl) (Nat.le_of_ble_eq_true rfl) (mc := 0) (ms := 0) (Nat.zero_le _) (Nat.zero_le _) (P := fun v u => _) ?_ (fun e u h => h) (fun v u h => h)
                          intro po34 xx34 hp34 hx34
                          refine g_enter2 (k := 122) (N := 300) (by first | exact dq1 hd rfl | exact dq0 hd rfl | exact dq2 hd rfl | exact dq3 hd rfl | omega) rfl (Nat.le_of_ble_eq_true rfl) ?_
                          refine g_aload_n 1 (gd rfl) rfl rfl ?_
                          refine g_getA (q2 := 2) 4 (gd rfl) rfl rfl rfl rfl ?_
                          refine g_getI 7 (gd rfl) rfl rfl rfl (fun z34x4 e34x4 => ?_)
                          have q34x4 : u_2_0 = z34x4 := (e_2_0).trans e34x4.symm
                          subst q34x4
                          refine g_sipush 4000 10 (gd rfl) rfl rfl ?_
                          refine g_cmp_lt 13 17 (gd rfl) rfl rfl (fun c34x10 => ?_) (fun c34x10 => ?_)
                          · skip
                            have i34x10 := r_lt1 0 3999 c34x10 (inv_F hI 0 4000 rfl e_2_0) (in_c 4000 rfl) rfl
                            refine g_iconst 0 18 (gd rfl) rfl rfl ?_
                            refine g_ireturn (gd rfl) rfl (nb01 (in_w 0 1 (in_c 0 rfl) rfl)) (hp34 _ _ ?_)
                            show GG _ _ _ _ _ _ _ _ [.int (Int32.ofInt 0)] _ _ _
                            refine g_if_ne 40 44 (gd rfl) rfl rfl (fun c37 => ?_) (fun c37 => ?_)
                            · skip
                              exact zn_ne c37 (in_c 0 rfl) rfl
                            · skip
                              refine g_iconst 1 41 (gd rfl) rfl rfl ?_
                              refine g_goto 45 (gd rfl) rfl ?_
                              refine g_thr (E := am_IS) (y := yX11_ready) 48 (gd rfl) rfl rfl (Or.inr ⟨rfl, rfl, rfl⟩) (by first | exact dq1 hd rfl | exact dq0 hd rfl | exact dq2 hd rfl | exact dq3 hd rfl | omega) (Nat.le_of_ble_eq_true rfl) (Nat.le_of_ble_eq_true rfl) (Nat.le_of_ble_eq_true rfl) (fun c45 => ?_) (fun c45 => ?_)
                              · skip
                                refine g_aload_n 49 (gd rfl) rfl rfl ?_
                                refine g_getA (q2 := 1) 52 (gd rfl) rfl rfl rfl rfl ?_
                                refine g_getA (q2 := 2) 55 (gd rfl) rfl rfl rfl rfl ?_
                                refine g_iload_n 56 (gd rfl) rfl rfl ?_
                                refine g_iload_n 57 (gd rfl) rfl rfl ?_
                                refine g_callv (X := _) (As := [.int x1, .int x2]) (r := []) (b := A 2) (q := 2) 60 (gd rfl) rfl rfl rfl rfl rfl (ww_o rfl) (Nat.le_of_ble_eq_true rfl) (mc := 0) (ms := 0) (Nat.zero_le _) (Nat.zero_le _) (P := fun v u => _) ?_ (fun e u h => h) (fun v u h => h)
                                intro po57 xx57 hp57 hx57
                                refine g_enter2 (k := 100) (N := 300) (by first | exact dq1 hd rfl | exact dq0 hd rfl | exact dq2 hd rfl | exact dq3 hd rfl | omega) rfl (Nat.le_of_ble_eq_true rfl) ?_
                                refine g_iload_n 1 (gd rfl) rfl rfl ?_
                                refine g_if_ne 4 11 (gd rfl) rfl rfl (fun c57x1 => ?_) (fun c57x1 => ?_)
                                · skip
                                  refine g_iload_n 12 (gd rfl) rfl rfl ?_
                                  refine g_iconst 1 13 (gd rfl) rfl rfl ?_
                                  refine g_cmp_ne 16 25 (gd rfl) rfl rfl (fun c57x13 => ?_) (fun c57x13 => ?_)
                                  · skip
                                    refine g_aload_n 26 (gd rfl) rfl rfl ?_
                                    refine g_getA (q2 := 8) 29 (gd rfl) rfl rfl rfl rfl ?_
                                    refine g_iload_n 30 (gd rfl) rfl rfl ?_
                                    refine g_iaload 31 (gd rfl) rfl (n := 160) rfl (in_ix i8x9 rfl) (fun z57x30 e57x30 => ?_)
                                    have i57x30 := inv_I hI (n := 160) (t := 0) 0 25 rfl (in_ix i8x9 rfl) rfl e57x30
                                    refine g_ireturn (gd rfl) rfl rfl (hp57 _ _ ?_)
                                    show GG _ _ _ _ _ _ _ _ [.int z57x30] _ _ _
                                    refine g_istore 62 (gd rfl) rfl (Nat.le_of_ble_eq_true rfl) ?_
                                    refine g_aload_n 63 (gd rfl) rfl rfl ?_
                                    refine g_getA (q2 := 1) 66 (gd rfl) rfl rfl rfl rfl ?_
                                    refine g_iload_n 67 (gd rfl) rfl rfl ?_
                                    refine g_iload_n 68 (gd rfl) rfl rfl ?_
                                    refine g_iload_n 69 (gd rfl) rfl rfl ?_
                                    have p69 : KL s := by exact q_0
                                    have p69a : (x2).toInt = 0 → In x3 (-1000000) 1000000 := by first | (intro h; exact in_w (-1000000) 1000000 i16x25x7 rfl) | (intro h; exfalso; (first | have a0 := oa8 i16x25x7 i16x21 i8x9 i8x9a ((inv_F hI 448 28000 rfl e_30_0)) ((inv_F hI 0 32 rfl e_2_1)) i34x10 i57x30 | ((first | have a0 := in_u i16x25x7 | (have a0 := i16x25x7; unfold In at a0)); (first | have a1 := in_u i16x21 | (have a1 := i16x21; unfold In at a1)); (first | have a2 := in_u i8x9 | (have a2 := i8x9; unfold In at a2)); (first | have a3 := in_u i8x9a | (have a3 := i8x9a; unfold In at a3)); (first | have a4 := in_u ((inv_F hI 448 28000 rfl e_30_0)) | (have a4 := (inv_F hI 448 28000 rfl e_30_0); unfold In at a4)); (first | have a5 := in_u ((inv_F hI 0 32 rfl e_2_1)) | (have a5 := (inv_F hI 0 32 rfl e_2_1); unfold In at a5)); (first | have a6 := in_u i34x10 | (have a6 := i34x10; unfold In at a6)); (first | have a7 := in_u i57x30 | (have a7 := i57x30; unfold In at a7)))); have oc := oc_215_0; omega)
                                    have p69b : (x2).toInt = 1 → In x3 0 1000000 := by first | (intro h; exact in_w (0) 1000000 i16x25x7 rfl) | (intro h; exfalso; (first | have a0 := oa8 i16x25x7 i16x21 i8x9 i8x9a ((inv_F hI 448 28000 rfl e_30_0)) ((inv_F hI 0 32 rfl e_2_1)) i34x10 i57x30 | ((first | have a0 := in_u i16x25x7 | (have a0 := i16x25x7; unfold In at a0)); (first | have a1 := in_u i16x21 | (have a1 := i16x21; unfold In at a1)); (first | have a2 := in_u i8x9 | (have a2 := i8x9; unfold In at a2)); (first | have a3 := in_u i8x9a | (have a3 := i8x9a; unfold In at a3)); (first | have a4 := in_u ((inv_F hI 448 28000 rfl e_30_0)) | (have a4 := (inv_F hI 448 28000 rfl e_30_0); unfold In at a4)); (first | have a5 := in_u ((inv_F hI 0 32 rfl e_2_1)) | (have a5 := (inv_F hI 0 32 rfl e_2_1); unfold In at a5)); (first | have a6 := in_u i34x10 | (have a6 := i34x10; unfold In at a6)); (first | have a7 := in_u i57x30 | (have a7 := i57x30; unfold In at a7)))); have oc := oc_215_0; omega)
                                    have p69c : (x2).toInt ≠ 0 → (x2).toInt ≠ 1 → In x3 0 25 := by first | (intro h h0; exact in_w 0 25 i16x25x7 rfl) | (intro h h0; exfalso; (first | have a0 := oa8 i16x25x7 i16x21 i8x9 i8x9a ((inv_F hI 448 28000 rfl e_30_0)) ((inv_F hI 0 32 rfl e_2_1)) i34x10 i57x30 | ((first | have a0 := in_u i16x25x7 | (have a0 := i16x25x7; unfold In at a0)); (first | have a1 := in_u i16x21 | (have a1 := i16x21; unfold In at a1)); (first | have a2 := in_u i8x9 | (have a2 := i8x9; unfold In at a2)); (first | have a3 := in_u i8x9a | (have a3 := i8x9a; unfold In at a3)); (first | have a4 := in_u ((inv_F hI 448 28000 rfl e_30_0)) | (have a4 := (inv_F hI 448 28000 rfl e_30_0); unfold In at a4)); (first | have a5 := in_u ((inv_F hI 0 32 rfl e_2_1)) | (have a5 := (inv_F hI 0 32 rfl e_2_1); unfold In at a5)); (first | have a6 := in_u i34x10 | (have a6 := i34x10; unfold In at a6)); (first | have a7 := in_u i57x30 | (have a7 := i57x30; unfold In at a7)))); have oc := oc_215_0; omega)
                                    refine g_callv (X := _) (As := [.int x1, .int x2, .int x3]) (r := []) (b := A 1) (q := 1) 72 (gd rfl) rfl rfl rfl rfl rfl (ww_o rfl) (Nat.le_of_ble_eq_true rfl) (Nat.le_trans lgc_le (Nat.le_of_ble_eq_true rfl)) (Nat.le_trans (lsl_le (inv_F hI 448 28000 (q := 30) (j := 0) rfl rfl) (by rw [← (show u_2_0 = s.2.2.1 2 0 from e_2_0)]; exact in_w 0 3999 i34x10 rfl)) (Nat.le_of_ble_eq_true rfl)) (f_127_1 (by first | exact dq1 hd rfl | exact dq0 hd rfl | exact dq2 hd rfl | exact dq3 hd rfl | omega) hI (in_w 0 159 i8x9 rfl) e_2_0 e_2_1 e_30_0 (in_w 0 3999 i34x10 rfl) p69 p69a p69b p69c) (fun e u h => h) (fun v u h => ?_)
                                    obtain ⟨a69, s69, hI69, hF69, n69, rfl, rfl, p69d, p69e, p69f, p69g, p69h, p69i⟩ := h
                                    obtain ⟨z69a, e69⟩ : ∃ w, w = s69.2.2.1 2 0 := ⟨_, rfl⟩
                                    have i69a := inv_F hI69 0 4000 rfl e69
                                    rw [← (show u_2_0 = s.2.2.1 2 0 from e_2_0)] at n69
                                    rw [← (show z69a = s69.2.2.1 2 0 from e69)] at n69
                                    show GG _ _ _ _ _ _ _ _ [] _ _ _
                                    refine g_iload 74 (gd rfl) rfl rfl ?_
                                    have n74 : KL s69 := by exact p69d
                                    have n74a : (HAC s x1 ∧ GVL x2 x3) ∧ (s.2.2.1 2 0).toInt ≤ 3999 ∧ (z57x30) = (if (x2).toInt = 0 then s.1 6 (x1).toNatClampNeg else if (x2).toInt = 1 then s.1 7 (x1).toNatClampNeg else s.1 8 (x1).toNatClampNeg) ∧ gvC s69 = gqW (gvC s) (x1).toNatClampNeg x2 x3 := by exact ⟨⟨⟨by (first | have a0 := oa9 i16x25x7 i16x21 i8x9 i8x9a ((inv_F hI 448 28000 rfl e_30_0)) ((inv_F hI 0 32 rfl e_2_1)) i34x10 i57x30 i69a | ((first | have a0 := in_u i16x25x7 | (have a0 := i16x25x7; unfold In at a0)); (first | have a1 := in_u i16x21 | (have a1 := i16x21; unfold In at a1)); (first | have a2 := in_u i8x9 | (have a2 := i8x9; unfold In at a2)); (first | have a3 := in_u i8x9a | (have a3 := i8x9a; unfold In at a3)); (first | have a4 := in_u ((inv_F hI 448 28000 rfl e_30_0)) | (have a4 := (inv_F hI 448 28000 rfl e_30_0); unfold In at a4)); (first | have a5 := in_u ((inv_F hI 0 32 rfl e_2_1)) | (have a5 := (inv_F hI 0 32 rfl e_2_1); unfold In at a5)); (first | have a6 := in_u i34x10 | (have a6 := i34x10; unfold In at a6)); (first | have a7 := in_u i57x30 | (have a7 := i57x30; unfold In at a7)); (first | have a8 := in_u i69a | (have a8 := i69a; unfold In at a8)))); have oc := oc_215_0; omega, by (first | have a0 := oa9 i16x25x7 i16x21 i8x9 i8x9a ((inv_F hI 448 28000 rfl e_30_0)) ((inv_F hI 0 32 rfl e_2_1)) i34x10 i57x30 i69a | ((first | have a0 := in_u i16x25x7 | (have a0 := i16x25x7; unfold In at a0)); (first | have a1 := in_u i16x21 | (have a1 := i16x21; unfold In at a1)); (first | have a2 := in_u i8x9 | (have a2 := i8x9; unfold In at a2)); (first | have a3 := in_u i8x9a | (have a3 := i8x9a; unfold In at a3)); (first | have a4 := in_u ((inv_F hI 448 28000 rfl e_30_0)) | (have a4 := (inv_F hI 448 28000 rfl e_30_0); unfold In at a4)); (first | have a5 := in_u ((inv_F hI 0 32 rfl e_2_1)) | (have a5 := (inv_F hI 0 32 rfl e_2_1); unfold In at a5)); (first | have a6 := in_u i34x10 | (have a6 := i34x10; unfold In at a6)); (first | have a7 := in_u i57x30 | (have a7 := i57x30; unfold In at a7)); (first | have a8 := in_u i69a | (have a8 := i69a; unfold In at a8)))); have oc := oc_215_0; omega, by rw [← e8x17]; (first | have a0 := oa9 i16x25x7 i16x21 i8x9 i8x9a ((inv_F hI 448 28000 rfl e_30_0)) ((inv_F hI 0 32 rfl e_2_1)) i34x10 i57x30 i69a | ((first | have a0 := in_u i16x25x7 | (have a0 := i16x25x7; unfold In at a0)); (first | have a1 := in_u i16x21 | (have a1 := i16x21; unfold In at a1)); (first | have a2 := in_u i8x9 | (have a2 := i8x9; unfold In at a2)); (first | have a3 := in_u i8x9a | (have a3 := i8x9a; unfold In at a3)); (first | have a4 := in_u ((inv_F hI 448 28000 rfl e_30_0)) | (have a4 := (inv_F hI 448 28000 rfl e_30_0); unfold In at a4)); (first | have a5 := in_u ((inv_F hI 0 32 rfl e_2_1)) | (have a5 := (inv_F hI 0 32 rfl e_2_1); unfold In at a5)); (first | have a6 := in_u i34x10 | (have a6 := i34x10; unfold In at a6)); (first | have a7 := in_u i57x30 | (have a7 := i57x30; unfold In at a7)); (first | have a8 := in_u i69a | (have a8 := i69a; unfold In at a8)))); have oc := oc_215_0; omega⟩, (by unfold GVL In; (first | have a0 := oa9 i16x25x7 i16x21 i8x9 i8x9a ((inv_F hI 448 28000 rfl e_30_0)) ((inv_F hI 0 32 rfl e_2_1)) i34x10 i57x30 i69a | ((first | have a0 := in_u i16x25x7 | (have a0 := i16x25x7; unfold In at a0)); (first | have a1 := in_u i16x21 | (have a1 := i16x21; unfold In at a1)); (first | have a2 := in_u i8x9 | (have a2 := i8x9; unfold In at a2)); (first | have a3 := in_u i8x9a | (have a3 := i8x9a; unfold In at a3)); (first | have a4 := in_u ((inv_F hI 448 28000 rfl e_30_0)) | (have a4 := (inv_F hI 448 28000 rfl e_30_0); unfold In at a4)); (first | have a5 := in_u ((inv_F hI 0 32 rfl e_2_1)) | (have a5 := (inv_F hI 0 32 rfl e_2_1); unfold In at a5)); (first | have a6 := in_u i34x10 | (have a6 := i34x10; unfold In at a6)); (first | have a7 := in_u i57x30 | (have a7 := i57x30; unfold In at a7)); (first | have a8 := in_u i69a | (have a8 := i69a; unfold In at a8)))); have oc := oc_215_0; omega)⟩, by rw [← e_2_0]; (first | have a0 := oa9 i16x25x7 i16x21 i8x9 i8x9a ((inv_F hI 448 28000 rfl e_30_0)) ((inv_F hI 0 32 rfl e_2_1)) i34x10 i57x30 i69a | ((first | have a0 := in_u i16x25x7 | (have a0 := i16x25x7; unfold In at a0)); (first | have a1 := in_u i16x21 | (have a1 := i16x21; unfold In at a1)); (first | have a2 := in_u i8x9 | (have a2 := i8x9; unfold In at a2)); (first | have a3 := in_u i8x9a | (have a3 := i8x9a; unfold In at a3)); (first | have a4 := in_u ((inv_F hI 448 28000 rfl e_30_0)) | (have a4 := (inv_F hI 448 28000 rfl e_30_0); unfold In at a4)); (first | have a5 := in_u ((inv_F hI 0 32 rfl e_2_1)) | (have a5 := (inv_F hI 0 32 rfl e_2_1); unfold In at a5)); (first | have a6 := in_u i34x10 | (have a6 := i34x10; unfold In at a6)); (first | have a7 := in_u i57x30 | (have a7 := i57x30; unfold In at a7)); (first | have a8 := in_u i69a | (have a8 := i69a; unfold In at a8)))); have oc := oc_215_0; omega, (by first | (rw [if_pos (by (first | have a0 := oa9 i16x25x7 i16x21 i8x9 i8x9a ((inv_F hI 448 28000 rfl e_30_0)) ((inv_F hI 0 32 rfl e_2_1)) i34x10 i57x30 i69a | ((first | have a0 := in_u i16x25x7 | (have a0 := i16x25x7; unfold In at a0)); (first | have a1 := in_u i16x21 | (have a1 := i16x21; unfold In at a1)); (first | have a2 := in_u i8x9 | (have a2 := i8x9; unfold In at a2)); (first | have a3 := in_u i8x9a | (have a3 := i8x9a; unfold In at a3)); (first | have a4 := in_u ((inv_F hI 448 28000 rfl e_30_0)) | (have a4 := (inv_F hI 448 28000 rfl e_30_0); unfold In at a4)); (first | have a5 := in_u ((inv_F hI 0 32 rfl e_2_1)) | (have a5 := (inv_F hI 0 32 rfl e_2_1); unfold In at a5)); (first | have a6 := in_u i34x10 | (have a6 := i34x10; unfold In at a6)); (first | have a7 := in_u i57x30 | (have a7 := i57x30; unfold In at a7)); (first | have a8 := in_u i69a | (have a8 := i69a; unfold In at a8)))); have oc := oc_215_0; omega)]; exact e57x9) | (rw [if_neg (by (first | have a0 := oa9 i16x25x7 i16x21 i8x9 i8x9a ((inv_F hI 448 28000 rfl e_30_0)) ((inv_F hI 0 32 rfl e_2_1)) i34x10 i57x30 i69a | ((first | have a0 := in_u i16x25x7 | (have a0 := i16x25x7; unfold In at a0)); (first | have a1 := in_u i16x21 | (have a1 := i16x21; unfold In at a1)); (first | have a2 := in_u i8x9 | (have a2 := i8x9; unfold In at a2)); (first | have a3 := in_u i8x9a | (have a3 := i8x9a; unfold In at a3)); (first | have a4 := in_u ((inv_F hI 448 28000 rfl e_30_0)) | (have a4 := (inv_F hI 448 28000 rfl e_30_0); unfold In at a4)); (first | have a5 := in_u ((inv_F hI 0 32 rfl e_2_1)) | (have a5 := (inv_F hI 0 32 rfl e_2_1); unfold In at a5)); (first | have a6 := in_u i34x10 | (have a6 := i34x10; unfold In at a6)); (first | have a7 := in_u i57x30 | (have a7 := i57x30; unfold In at a7)); (first | have a8 := in_u i69a | (have a8 := i69a; unfold In at a8)))); have oc := oc_215_0; omega), if_pos (by (first | have a0 := oa9 i16x25x7 i16x21 i8x9 i8x9a ((inv_F hI 448 28000 rfl e_30_0)) ((inv_F hI 0 32 rfl e_2_1)) i34x10 i57x30 i69a | ((first | have a0 := in_u i16x25x7 | (have a0 := i16x25x7; unfold In at a0)); (first | have a1 := in_u i16x21 | (have a1 := i16x21; unfold In at a1)); (first | have a2 := in_u i8x9 | (have a2 := i8x9; unfold In at a2)); (first | have a3 := in_u i8x9a | (have a3 := i8x9a; unfold In at a3)); (first | have a4 := in_u ((inv_F hI 448 28000 rfl e_30_0)) | (have a4 := (inv_F hI 448 28000 rfl e_30_0); unfold In at a4)); (first | have a5 := in_u ((inv_F hI 0 32 rfl e_2_1)) | (have a5 := (inv_F hI 0 32 rfl e_2_1); unfold In at a5)); (first | have a6 := in_u i34x10 | (have a6 := i34x10; unfold In at a6)); (first | have a7 := in_u i57x30 | (have a7 := i57x30; unfold In at a7)); (first | have a8 := in_u i69a | (have a8 := i69a; unfold In at a8)))); have oc := oc_215_0; omega)]; exact e57x21) | (rw [if_neg (by (first | have a0 := oa9 i16x25x7 i16x21 i8x9 i8x9a ((inv_F hI 448 28000 rfl e_30_0)) ((inv_F hI 0 32 rfl e_2_1)) i34x10 i57x30 i69a | ((first | have a0 := in_u i16x25x7 | (have a0 := i16x25x7; unfold In at a0)); (first | have a1 := in_u i16x21 | (have a1 := i16x21; unfold In at a1)); (first | have a2 := in_u i8x9 | (have a2 := i8x9; unfold In at a2)); (first | have a3 := in_u i8x9a | (have a3 := i8x9a; unfold In at a3)); (first | have a4 := in_u ((inv_F hI 448 28000 rfl e_30_0)) | (have a4 := (inv_F hI 448 28000 rfl e_30_0); unfold In at a4)); (first | have a5 := in_u ((inv_F hI 0 32 rfl e_2_1)) | (have a5 := (inv_F hI 0 32 rfl e_2_1); unfold In at a5)); (first | have a6 := in_u i34x10 | (have a6 := i34x10; unfold In at a6)); (first | have a7 := in_u i57x30 | (have a7 := i57x30; unfold In at a7)); (first | have a8 := in_u i69a | (have a8 := i69a; unfold In at a8)))); have oc := oc_215_0; omega), if_neg (by (first | have a0 := oa9 i16x25x7 i16x21 i8x9 i8x9a ((inv_F hI 448 28000 rfl e_30_0)) ((inv_F hI 0 32 rfl e_2_1)) i34x10 i57x30 i69a | ((first | have a0 := in_u i16x25x7 | (have a0 := i16x25x7; unfold In at a0)); (first | have a1 := in_u i16x21 | (have a1 := i16x21; unfold In at a1)); (first | have a2 := in_u i8x9 | (have a2 := i8x9; unfold In at a2)); (first | have a3 := in_u i8x9a | (have a3 := i8x9a; unfold In at a3)); (first | have a4 := in_u ((inv_F hI 448 28000 rfl e_30_0)) | (have a4 := (inv_F hI 448 28000 rfl e_30_0); unfold In at a4)); (first | have a5 := in_u ((inv_F hI 0 32 rfl e_2_1)) | (have a5 := (inv_F hI 0 32 rfl e_2_1); unfold In at a5)); (first | have a6 := in_u i34x10 | (have a6 := i34x10; unfold In at a6)); (first | have a7 := in_u i57x30 | (have a7 := i57x30; unfold In at a7)); (first | have a8 := in_u i69a | (have a8 := i69a; unfold In at a8)))); have oc := oc_215_0; omega)]; exact e57x30)), p69g⟩
                                    have n74b : TQ s69 := by exact p69h q_1
                                    have n74c : ∀ k : Nat, (k : Int) < 7 * (s.2.2.1 2 0).toInt → s69.1 30 k = s.1 30 k := by exact p69f
                                    have n74d : s69.1 30 (7 * (s.2.2.1 2 0).toInt.toNat) = (Int32.ofInt 3) ∧ s69.1 30 (7 * (s.2.2.1 2 0).toInt.toNat + 1) = x1 ∧ s69.1 30 (7 * (s.2.2.1 2 0).toInt.toNat + 2) = x2 ∧ s69.1 30 (7 * (s.2.2.1 2 0).toInt.toNat + 3) = x3 := by exact p69i
                                    exact g_ireturn (gd rfl) rfl rfl (hP _ _ ⟨a69, s69, hI69, (fr_tr rfl fr_rf hF69), z57x30, rfl, rfl, in_w (-1000000) 1000000 i57x30 rfl, n74, n74a, n74b, n74c, n74d⟩)
                                  · skip
                                    exact absurd c57x13 c16x11
                                · skip
                                  exact zn_eq c57x1 i16x21 rfl
                              · skip
                                exact zn_eq c45 (in_c 1 rfl) rfl
                          · skip
                            have i34x10 := r_le2 4000 4000 c34x10 (in_c 4000 rfl) (inv_F hI 0 4000 rfl e_2_0) rfl
                            refine g_iconst 1 14 (gd rfl) rfl rfl ?_
                            refine g_goto 18 (gd rfl) rfl ?_
                            refine g_ireturn (gd rfl) rfl (nb01 (in_w 0 1 (in_c 1 rfl) rfl)) (hp34 _ _ ?_)
                            show GG _ _ _ _ _ _ _ _ [.int (Int32.ofInt 1)] _ _ _
                            refine g_if_ne 40 44 (gd rfl) rfl rfl (fun c37 => ?_) (fun c37 => ?_)
                            · skip
                              refine g_iconst 0 45 (gd rfl) rfl rfl ?_
                              refine g_thr (E := am_IS) (y := yX11_ready) 48 (gd rfl) rfl rfl (Or.inr ⟨rfl, rfl, rfl⟩) (by first | exact dq1 hd rfl | exact dq0 hd rfl | exact dq2 hd rfl | exact dq3 hd rfl | omega) (Nat.le_of_ble_eq_true rfl) (Nat.le_of_ble_eq_true rfl) (Nat.le_of_ble_eq_true rfl) (fun c45 => ?_) (fun c45 => ?_)
                              · skip
                                exact zn_ne c45 (in_c 0 rfl) rfl
                              · skip
                                have n45 : (HAC s x1 ∧ GVL x2 x3) ∧ ¬ (s.2.2.1 2 0).toInt ≤ 3999 := by refine ⟨⟨⟨by (first | have a0 := oa7 i16x25x7 i16x21 i8x9 i8x9a ((inv_F hI 448 28000 rfl e_30_0)) ((inv_F hI 0 32 rfl e_2_1)) i34x10 | ((first | have a0 := in_u i16x25x7 | (have a0 := i16x25x7; unfold In at a0)); (first | have a1 := in_u i16x21 | (have a1 := i16x21; unfold In at a1)); (first | have a2 := in_u i8x9 | (have a2 := i8x9; unfold In at a2)); (first | have a3 := in_u i8x9a | (have a3 := i8x9a; unfold In at a3)); (first | have a4 := in_u ((inv_F hI 448 28000 rfl e_30_0)) | (have a4 := (inv_F hI 448 28000 rfl e_30_0); unfold In at a4)); (first | have a5 := in_u ((inv_F hI 0 32 rfl e_2_1)) | (have a5 := (inv_F hI 0 32 rfl e_2_1); unfold In at a5)); (first | have a6 := in_u i34x10 | (have a6 := i34x10; unfold In at a6)))); have oc := oc_215_0; omega, by (first | have a0 := oa7 i16x25x7 i16x21 i8x9 i8x9a ((inv_F hI 448 28000 rfl e_30_0)) ((inv_F hI 0 32 rfl e_2_1)) i34x10 | ((first | have a0 := in_u i16x25x7 | (have a0 := i16x25x7; unfold In at a0)); (first | have a1 := in_u i16x21 | (have a1 := i16x21; unfold In at a1)); (first | have a2 := in_u i8x9 | (have a2 := i8x9; unfold In at a2)); (first | have a3 := in_u i8x9a | (have a3 := i8x9a; unfold In at a3)); (first | have a4 := in_u ((inv_F hI 448 28000 rfl e_30_0)) | (have a4 := (inv_F hI 448 28000 rfl e_30_0); unfold In at a4)); (first | have a5 := in_u ((inv_F hI 0 32 rfl e_2_1)) | (have a5 := (inv_F hI 0 32 rfl e_2_1); unfold In at a5)); (first | have a6 := in_u i34x10 | (have a6 := i34x10; unfold In at a6)))); have oc := oc_215_0; omega, by rw [← e8x17]; (first | have a0 := oa7 i16x25x7 i16x21 i8x9 i8x9a ((inv_F hI 448 28000 rfl e_30_0)) ((inv_F hI 0 32 rfl e_2_1)) i34x10 | ((first | have a0 := in_u i16x25x7 | (have a0 := i16x25x7; unfold In at a0)); (first | have a1 := in_u i16x21 | (have a1 := i16x21; unfold In at a1)); (first | have a2 := in_u i8x9 | (have a2 := i8x9; unfold In at a2)); (first | have a3 := in_u i8x9a | (have a3 := i8x9a; unfold In at a3)); (first | have a4 := in_u ((inv_F hI 448 28000 rfl e_30_0)) | (have a4 := (inv_F hI 448 28000 rfl e_30_0); unfold In at a4)); (first | have a5 := in_u ((inv_F hI 0 32 rfl e_2_1)) | (have a5 := (inv_F hI 0 32 rfl e_2_1); unfold In at a5)); (first | have a6 := in_u i34x10 | (have a6 := i34x10; unfold In at a6)))); have oc := oc_215_0; omega⟩, (by unfold GVL In; (first | have a0 := oa7 i16x25x7 i16x21 i8x9 i8x9a ((inv_F hI 448 28000 rfl e_30_0)) ((inv_F hI 0 32 rfl e_2_1)) i34x10 | ((first | have a0 := in_u i16x25x7 | (have a0 := i16x25x7; unfold In at a0)); (first | have a1 := in_u i16x21 | (have a1 := i16x21; unfold In at a1)); (first | have a2 := in_u i8x9 | (have a2 := i8x9; unfold In at a2)); (first | have a3 := in_u i8x9a | (have a3 := i8x9a; unfold In at a3)); (first | have a4 := in_u ((inv_F hI 448 28000 rfl e_30_0)) | (have a4 := (inv_F hI 448 28000 rfl e_30_0); unfold In at a4)); (first | have a5 := in_u ((inv_F hI 0 32 rfl e_2_1)) | (have a5 := (inv_F hI 0 32 rfl e_2_1); unfold In at a5)); (first | have a6 := in_u i34x10 | (have a6 := i34x10; unfold In at a6)))); have oc := oc_215_0; omega)⟩, ?_⟩; rw [← e_2_0]; (first | have a0 := oa7 i16x25x7 i16x21 i8x9 i8x9a ((inv_F hI 448 28000 rfl e_30_0)) ((inv_F hI 0 32 rfl e_2_1)) i34x10 | ((first | have a0 := in_u i16x25x7 | (have a0 := i16x25x7; unfold In at a0)); (first | have a1 := in_u i16x21 | (have a1 := i16x21; unfold In at a1)); (first | have a2 := in_u i8x9 | (have a2 := i8x9; unfold In at a2)); (first | have a3 := in_u i8x9a | (have a3 := i8x9a; unfold In at a3)); (first | have a4 := in_u ((inv_F hI 448 28000 rfl e_30_0)) | (have a4 := (inv_F hI 448 28000 rfl e_30_0); unfold In at a4)); (first | have a5 := in_u ((inv_F hI 0 32 rfl e_2_1)) | (have a5 := (inv_F hI 0 32 rfl e_2_1); unfold In at a5)); (first | have a6 := in_u i34x10 | (have a6 := i34x10; unfold In at a6)))); have oc := oc_215_0; omega
                                exact (hX _ _ ⟨Or.inr ⟨rfl, n45⟩, s, hI, fr_rf, rfl⟩)
                            · skip
                              exact zn_eq c37 (in_c 1 rfl) rfl
                        · skip
                          exact zn_eq c27 (in_c 1 rfl) rfl
            · skip
              have i16x11 := r_eq1 1 1 c16x11 (i_rng x2) (in_c 1 rfl) rfl
              refine g_iload_n 15 (gd rfl) rfl rfl ?_
              refine g_calls (As := [.int x3]) (r := []) 18 (gd rfl) rfl rfl rfl rfl rfl (Nat.le_of_ble_eq_true rfl) (mc := 0) (ms := 0) (Nat.zero_le _) (Nat.zero_le _) (P := fun v u => _) ?_ (fun v u h => h)
              intro po16x15 xx16x15 hp16x15 hx16x15
              refine g_enter2 (k := 262) (N := 300) (by first | exact dq1 hd rfl | exact dq0 hd rfl | exact dq2 hd rfl | exact dq3 hd rfl | omega) rfl (Nat.le_of_ble_eq_true rfl) ?_
              refine g_iload_n 1 (gd rfl) rfl rfl ?_
              refine g_if_lt 4 15 (gd rfl) rfl rfl (fun c16x15x1 => ?_) (fun c16x15x1 => ?_)
              · skip
                have i16x15x1 := z_lt (-2147483648) (-1) c16x15x1 (i_rng x3) rfl
                refine g_iconst 0 16 (gd rfl) rfl rfl ?_
                refine g_ireturn (gd rfl) rfl (nb01 (in_w 0 1 (in_c 0 rfl) rfl)) (hp16x15 _ _ ?_)
                show GG _ _ _ _ _ _ _ _ [.int (Int32.ofInt 0)] _ _ _
                refine g_ireturn (gd rfl) rfl (nb01 (in_w 0 1 (in_c 0 rfl) rfl)) (hp16 _ _ ?_)
                show GG _ _ _ _ _ _ _ _ [.int (Int32.ofInt 0)] _ _ _
                refine g_if_eq 22 26 (gd rfl) rfl rfl (fun c19 => ?_) (fun c19 => ?_)
                · skip
                  refine g_iconst 0 27 (gd rfl) rfl rfl ?_
                  refine g_thr (E := am_IA) (y := yX11_allow) 30 (gd rfl) rfl rfl (Or.inl ⟨rfl, rfl, rfl⟩) (by first | exact dq1 hd rfl | exact dq0 hd rfl | exact dq2 hd rfl | exact dq3 hd rfl | omega) (Nat.le_of_ble_eq_true rfl) (Nat.le_of_ble_eq_true rfl) (Nat.le_of_ble_eq_true rfl) (fun c27 => ?_) (fun c27 => ?_)
                  · skip
                    exact zn_ne c27 (in_c 0 rfl) rfl
                  · skip
                    have n27 : ¬ (HAC s x1 ∧ GVL x2 x3) := by intro h; have hg := h.2; unfold GVL In at hg; (first | have a0 := oa7 i16x11 i8x9 i8x9a ((inv_F hI 448 28000 rfl e_30_0)) ((inv_F hI 0 32 rfl e_2_1)) ((inv_F hI 0 4000 rfl e_2_0)) i16x15x1 | ((first | have a0 := in_u i16x11 | (have a0 := i16x11; unfold In at a0)); (first | have a1 := in_u i8x9 | (have a1 := i8x9; unfold In at a1)); (first | have a2 := in_u i8x9a | (have a2 := i8x9a; unfold In at a2)); (first | have a3 := in_u ((inv_F hI 448 28000 rfl e_30_0)) | (have a3 := (inv_F hI 448 28000 rfl e_30_0); unfold In at a3)); (first | have a4 := in_u ((inv_F hI 0 32 rfl e_2_1)) | (have a4 := (inv_F hI 0 32 rfl e_2_1); unfold In at a4)); (first | have a5 := in_u ((inv_F hI 0 4000 rfl e_2_0)) | (have a5 := (inv_F hI 0 4000 rfl e_2_0); unfold In at a5)); (first | have a6 := in_u i16x15x1 | (have a6 := i16x15x1; unfold In at a6)))); have oc := oc_215_0; omega
                    exact (hX _ _ ⟨Or.inl ⟨rfl, n27⟩, s, hI, fr_rf, rfl⟩)
                · skip
                  exact zn_ne c19 (in_c 0 rfl) rfl
              · skip
                have i16x15x1 := z_ge 0 2147483647 c16x15x1 (i_rng x3) rfl
                refine g_iload_n 5 (gd rfl) rfl rfl ?_
                refine g_ldc_w 1000000 8 (gd rfl) rfl rfl ?_
                refine g_cmp_gt 11 15 (gd rfl) rfl rfl (fun c16x15x8 => ?_) (fun c16x15x8 => ?_)
                · skip
                  have i16x15x8 := r_lt2 1000001 2147483647 c16x15x8 (in_c 1000000 rfl) i16x15x1 rfl
                  refine g_iconst 0 16 (gd rfl) rfl rfl ?_
                  refine g_ireturn (gd rfl) rfl (nb01 (in_w 0 1 (in_c 0 rfl) rfl)) (hp16x15 _ _ ?_)
                  show GG _ _ _ _ _ _ _ _ [.int (Int32.ofInt 0)] _ _ _
                  refine g_ireturn (gd rfl) rfl (nb01 (in_w 0 1 (in_c 0 rfl) rfl)) (hp16 _ _ ?_)
                  show GG _ _ _ _ _ _ _ _ [.int (Int32.ofInt 0)] _ _ _
                  refine g_if_eq 22 26 (gd rfl) rfl rfl (fun c19 => ?_) (fun c19 => ?_)
                  · skip
                    refine g_iconst 0 27 (gd rfl) rfl rfl ?_
                    refine g_thr (E := am_IA) (y := yX11_allow) 30 (gd rfl) rfl rfl (Or.inl ⟨rfl, rfl, rfl⟩) (by first | exact dq1 hd rfl | exact dq0 hd rfl | exact dq2 hd rfl | exact dq3 hd rfl | omega) (Nat.le_of_ble_eq_true rfl) (Nat.le_of_ble_eq_true rfl) (Nat.le_of_ble_eq_true rfl) (fun c27 => ?_) (fun c27 => ?_)
                    · skip
                      exact zn_ne c27 (in_c 0 rfl) rfl
                    · skip
                      have n27 : ¬ (HAC s x1 ∧ GVL x2 x3) := by intro h; have hg := h.2; unfold GVL In at hg; (first | have a0 := oa7 i16x11 i8x9 i8x9a ((inv_F hI 448 28000 rfl e_30_0)) ((inv_F hI 0 32 rfl e_2_1)) ((inv_F hI 0 4000 rfl e_2_0)) i16x15x8 | ((first | have a0 := in_u i16x11 | (have a0 := i16x11; unfold In at a0)); (first | have a1 := in_u i8x9 | (have a1 := i8x9; unfold In at a1)); (first | have a2 := in_u i8x9a | (have a2 := i8x9a; unfold In at a2)); (first | have a3 := in_u ((inv_F hI 448 28000 rfl e_30_0)) | (have a3 := (inv_F hI 448 28000 rfl e_30_0); unfold In at a3)); (first | have a4 := in_u ((inv_F hI 0 32 rfl e_2_1)) | (have a4 := (inv_F hI 0 32 rfl e_2_1); unfold In at a4)); (first | have a5 := in_u ((inv_F hI 0 4000 rfl e_2_0)) | (have a5 := (inv_F hI 0 4000 rfl e_2_0); unfold In at a5)); (first | have a6 := in_u i16x15x8 | (have a6 := i16x15x8; unfold In at a6)))); have oc := oc_215_0; omega
                      exact (hX _ _ ⟨Or.inl ⟨rfl, n27⟩, s, hI, fr_rf, rfl⟩)
                  · skip
                    exact zn_ne c19 (in_c 0 rfl) rfl
                · skip
                  have i16x15x8 := r_le1 0 1000000 c16x15x8 i16x15x1 (in_c 1000000 rfl) rfl
                  refine g_iconst 1 12 (gd rfl) rfl rfl ?_
                  refine g_goto 16 (gd rfl) rfl ?_
                  refine g_ireturn (gd rfl) rfl (nb01 (in_w 0 1 (in_c 1 rfl) rfl)) (hp16x15 _ _ ?_)
                  show GG _ _ _ _ _ _ _ _ [.int (Int32.ofInt 1)] _ _ _
                  refine g_ireturn (gd rfl) rfl (nb01 (in_w 0 1 (in_c 1 rfl) rfl)) (hp16 _ _ ?_)
                  show GG _ _ _ _ _ _ _ _ [.int (Int32.ofInt 1)] _ _ _
                  refine g_if_eq 22 26 (gd rfl) rfl rfl (fun c19 => ?_) (fun c19 => ?_)
                  · skip
                    exact zn_eq c19 (in_c 1 rfl) rfl
                  · skip
                    refine g_iconst 1 23 (gd rfl) rfl rfl ?_
                    refine g_goto 27 (gd rfl) rfl ?_
                    refine g_thr (E := am_IA) (y := yX11_allow) 30 (gd rfl) rfl rfl (Or.inl ⟨rfl, rfl, rfl⟩) (by first | exact dq1 hd rfl | exact dq0 hd rfl | exact dq2 hd rfl | exact dq3 hd rfl | omega) (Nat.le_of_ble_eq_true rfl) (Nat.le_of_ble_eq_true rfl) (Nat.le_of_ble_eq_true rfl) (fun c27 => ?_) (fun c27 => ?_)
                    · skip
                      refine g_aload_n 31 (gd rfl) rfl rfl ?_
                      refine g_getA (q2 := 1) 34 (gd rfl) rfl rfl rfl rfl ?_
                      refine g_callv (X := _) (As := []) (r := []) (b := A 1) (q := 1) 37 (gd rfl) rfl rfl rfl rfl rfl (ww_o rfl) (Nat.le_of_ble_eq_true rfl) (mc := 0) (ms := 0) (Nat.zero_le _) (Nat.zero_le _) (P := fun v u => _) ?_ (fun e u h => h) (fun v u h => h)
                      intro po34 xx34 hp34 hx34
                      refine g_enter2 (k := 122) (N := 300) (by first | exact dq1 hd rfl | exact dq0 hd rfl | exact dq2 hd rfl | exact dq3 hd rfl | omega) rfl (Nat.le_of_ble_eq_true rfl) ?_
                      refine g_aload_n 1 (gd rfl) rfl rfl ?_
                      refine g_getA (q2 := 2) 4 (gd rfl) rfl rfl rfl rfl ?_
                      refine g_getI 7 (gd rfl) rfl rfl rfl (fun z34x4 e34x4 => ?_)
                      have q34x4 : u_2_0 = z34x4 := (e_2_0).trans e34x4.symm
                      subst q34x4
                      refine g_sipush 4000 10 (gd rfl) rfl rfl ?_
                      refine g_cmp_lt 13 17 (gd rfl) rfl rfl (fun c34x10 => ?_) (fun c34x10 => ?_)
                      · skip
                        have i34x10 := r_lt1 0 3999 c34x10 (inv_F hI 0 4000 rfl e_2_0) (in_c 4000 rfl) rfl
                        refine g_iconst 0 18 (gd rfl) rfl rfl ?_
                        refine g_ireturn (gd rfl) rfl (nb01 (in_w 0 1 (in_c 0 rfl) rfl)) (hp34 _ _ ?_)
                        show GG _ _ _ _ _ _ _ _ [.int (Int32.ofInt 0)] _ _ _
                        refine g_if_ne 40 44 (gd rfl) rfl rfl (fun c37 => ?_) (fun c37 => ?_)
                        · skip
                          exact zn_ne c37 (in_c 0 rfl) rfl
                        · skip
                          refine g_iconst 1 41 (gd rfl) rfl rfl ?_
                          refine g_goto 45 (gd rfl) rfl ?_
                          refine g_thr (E := am_IS) (y := yX11_ready) 48 (gd rfl) rfl rfl (Or.inr ⟨rfl, rfl, rfl⟩) (by first | exact dq1 hd rfl | exact dq0 hd rfl | exact dq2 hd rfl | exact dq3 hd rfl | omega) (Nat.le_of_ble_eq_true rfl) (Nat.le_of_ble_eq_true rfl) (Nat.le_of_ble_eq_true rfl) (fun c45 => ?_) (fun c45 => ?_)
                          · skip
                            refine g_aload_n 49 (gd rfl) rfl rfl ?_
                            refine g_getA (q2 := 1) 52 (gd rfl) rfl rfl rfl rfl ?_
                            refine g_getA (q2 := 2) 55 (gd rfl) rfl rfl rfl rfl ?_
                            refine g_iload_n 56 (gd rfl) rfl rfl ?_
                            refine g_iload_n 57 (gd rfl) rfl rfl ?_
                            refine g_callv (X := _) (As := [.int x1, .int x2]) (r := []) (b := A 2) (q := 2) 60 (gd rfl) rfl rfl rfl rfl rfl (ww_o rfl) (Nat.le_of_ble_eq_true rfl) (mc := 0) (ms := 0) (Nat.zero_le _) (Nat.zero_le _) (P := fun v u => _) ?_ (fun e u h => h) (fun v u h => h)
                            intro po57 xx57 hp57 hx57
                            refine g_enter2 (k := 100) (N := 300) (by first | exact dq1 hd rfl | exact dq0 hd rfl | exact dq2 hd rfl | exact dq3 hd rfl | omega) rfl (Nat.le_of_ble_eq_true rfl) ?_
                            refine g_iload_n 1 (gd rfl) rfl rfl ?_
                            refine g_if_ne 4 11 (gd rfl) rfl rfl (fun c57x1 => ?_) (fun c57x1 => ?_)
                            · skip
                              refine g_iload_n 12 (gd rfl) rfl rfl ?_
                              refine g_iconst 1 13 (gd rfl) rfl rfl ?_
                              refine g_cmp_ne 16 25 (gd rfl) rfl rfl (fun c57x13 => ?_) (fun c57x13 => ?_)
                              · skip
                                exact n_ne c57x13 i16x11 (in_c 1 rfl) rfl
                              · skip
                                refine g_aload_n 17 (gd rfl) rfl rfl ?_
                                refine g_getA (q2 := 7) 20 (gd rfl) rfl rfl rfl rfl ?_
                                refine g_iload_n 21 (gd rfl) rfl rfl ?_
                                refine g_iaload 22 (gd rfl) rfl (n := 160) rfl (in_ix i8x9 rfl) (fun z57x21 e57x21 => ?_)
                                have i57x21 := inv_I hI (n := 160) (t := 0) 0 1000000 rfl (in_ix i8x9 rfl) rfl e57x21
                                refine g_goto 31 (gd rfl) rfl ?_
                                refine g_ireturn (gd rfl) rfl rfl (hp57 _ _ ?_)
                                show GG _ _ _ _ _ _ _ _ [.int z57x21] _ _ _
                                refine g_istore 62 (gd rfl) rfl (Nat.le_of_ble_eq_true rfl) ?_
                                refine g_aload_n 63 (gd rfl) rfl rfl ?_
                                refine g_getA (q2 := 1) 66 (gd rfl) rfl rfl rfl rfl ?_
                                refine g_iload_n 67 (gd rfl) rfl rfl ?_
                                refine g_iload_n 68 (gd rfl) rfl rfl ?_
                                refine g_iload_n 69 (gd rfl) rfl rfl ?_
                                have p69 : KL s := by exact q_0
                                have p69a : (x2).toInt = 0 → In x3 (-1000000) 1000000 := by first | (intro h; exact in_w (-1000000) 1000000 i16x15x8 rfl) | (intro h; exfalso; (first | have a0 := oa8 i16x15x8 i16x11 i8x9 i8x9a ((inv_F hI 448 28000 rfl e_30_0)) ((inv_F hI 0 32 rfl e_2_1)) i34x10 i57x21 | ((first | have a0 := in_u i16x15x8 | (have a0 := i16x15x8; unfold In at a0)); (first | have a1 := in_u i16x11 | (have a1 := i16x11; unfold In at a1)); (first | have a2 := in_u i8x9 | (have a2 := i8x9; unfold In at a2)); (first | have a3 := in_u i8x9a | (have a3 := i8x9a; unfold In at a3)); (first | have a4 := in_u ((inv_F hI 448 28000 rfl e_30_0)) | (have a4 := (inv_F hI 448 28000 rfl e_30_0); unfold In at a4)); (first | have a5 := in_u ((inv_F hI 0 32 rfl e_2_1)) | (have a5 := (inv_F hI 0 32 rfl e_2_1); unfold In at a5)); (first | have a6 := in_u i34x10 | (have a6 := i34x10; unfold In at a6)); (first | have a7 := in_u i57x21 | (have a7 := i57x21; unfold In at a7)))); have oc := oc_215_0; omega)
                                have p69b : (x2).toInt = 1 → In x3 0 1000000 := by first | (intro h; exact in_w (0) 1000000 i16x15x8 rfl) | (intro h; exfalso; (first | have a0 := oa8 i16x15x8 i16x11 i8x9 i8x9a ((inv_F hI 448 28000 rfl e_30_0)) ((inv_F hI 0 32 rfl e_2_1)) i34x10 i57x21 | ((first | have a0 := in_u i16x15x8 | (have a0 := i16x15x8; unfold In at a0)); (first | have a1 := in_u i16x11 | (have a1 := i16x11; unfold In at a1)); (first | have a2 := in_u i8x9 | (have a2 := i8x9; unfold In at a2)); (first | have a3 := in_u i8x9a | (have a3 := i8x9a; unfold In at a3)); (first | have a4 := in_u ((inv_F hI 448 28000 rfl e_30_0)) | (have a4 := (inv_F hI 448 28000 rfl e_30_0); unfold In at a4)); (first | have a5 := in_u ((inv_F hI 0 32 rfl e_2_1)) | (have a5 := (inv_F hI 0 32 rfl e_2_1); unfold In at a5)); (first | have a6 := in_u i34x10 | (have a6 := i34x10; unfold In at a6)); (first | have a7 := in_u i57x21 | (have a7 := i57x21; unfold In at a7)))); have oc := oc_215_0; omega)
                                have p69c : (x2).toInt ≠ 0 → (x2).toInt ≠ 1 → In x3 0 25 := by first | (intro h h0; exact in_w 0 25 i16x15x8 rfl) | (intro h h0; exfalso; (first | have a0 := oa8 i16x15x8 i16x11 i8x9 i8x9a ((inv_F hI 448 28000 rfl e_30_0)) ((inv_F hI 0 32 rfl e_2_1)) i34x10 i57x21 | ((first | have a0 := in_u i16x15x8 | (have a0 := i16x15x8; unfold In at a0)); (first | have a1 := in_u i16x11 | (have a1 := i16x11; unfold In at a1)); (first | have a2 := in_u i8x9 | (have a2 := i8x9; unfold In at a2)); (first | have a3 := in_u i8x9a | (have a3 := i8x9a; unfold In at a3)); (first | have a4 := in_u ((inv_F hI 448 28000 rfl e_30_0)) | (have a4 := (inv_F hI 448 28000 rfl e_30_0); unfold In at a4)); (first | have a5 := in_u ((inv_F hI 0 32 rfl e_2_1)) | (have a5 := (inv_F hI 0 32 rfl e_2_1); unfold In at a5)); (first | have a6 := in_u i34x10 | (have a6 := i34x10; unfold In at a6)); (first | have a7 := in_u i57x21 | (have a7 := i57x21; unfold In at a7)))); have oc := oc_215_0; omega)
                                refine g_callv (X := _) (As := [.int x1, .int x2, .int x3]) (r := []) (b := A 1) (q := 1) 72 (gd rfl) rfl rfl rfl rfl rfl (ww_o rfl) (Nat.le_of_ble_eq_true rfl) (Nat.le_trans lgc_le (Nat.le_of_ble_eq_true rfl)) (Nat.le_trans (lsl_le (inv_F hI 448 28000 (q := 30) (j := 0) rfl rfl) (by rw [← (show u_2_0 = s.2.2.1 2 0 from e_2_0)]; exact in_w 0 3999 i34x10 rfl)) (Nat.le_of_ble_eq_true rfl)) (f_127_1 (by first | exact dq1 hd rfl | exact dq0 hd rfl | exact dq2 hd rfl | exact dq3 hd rfl | omega) hI (in_w 0 159 i8x9 rfl) e_2_0 e_2_1 e_30_0 (in_w 0 3999 i34x10 rfl) p69 p69a p69b p69c) (fun e u h => h) (fun v u h => ?_)
                                obtain ⟨a69, s69, hI69, hF69, n69, rfl, rfl, p69d, p69e, p69f, p69g, p69h, p69i⟩ := h
                                obtain ⟨z69a, e69⟩ : ∃ w, w = s69.2.2.1 2 0 := ⟨_, rfl⟩
                                have i69a := inv_F hI69 0 4000 rfl e69
                                rw [← (show u_2_0 = s.2.2.1 2 0 from e_2_0)] at n69
                                rw [← (show z69a = s69.2.2.1 2 0 from e69)] at n69
                                show GG _ _ _ _ _ _ _ _ [] _ _ _
                                refine g_iload 74 (gd rfl) rfl rfl ?_
                                have n74 : KL s69 := by exact p69d
                                have n74a : (HAC s x1 ∧ GVL x2 x3) ∧ (s.2.2.1 2 0).toInt ≤ 3999 ∧ (z57x21) = (if (x2).toInt = 0 then s.1 6 (x1).toNatClampNeg else if (x2).toInt = 1 then s.1 7 (x1).toNatClampNeg else s.1 8 (x1).toNatClampNeg) ∧ gvC s69 = gqW (gvC s) (x1).toNatClampNeg x2 x3 := by exact ⟨⟨⟨by (first | have a0 := oa9 i16x15x8 i16x11 i8x9 i8x9a ((inv_F hI 448 28000 rfl e_30_0)) ((inv_F hI 0 32 rfl e_2_1)) i34x10 i57x21 i69a | ((first | have a0 := in_u i16x15x8 | (have a0 := i16x15x8; unfold In at a0)); (first | have a1 := in_u i16x11 | (have a1 := i16x11; unfold In at a1)); (first | have a2 := in_u i8x9 | (have a2 := i8x9; unfold In at a2)); (first | have a3 := in_u i8x9a | (have a3 := i8x9a; unfold In at a3)); (first | have a4 := in_u ((inv_F hI 448 28000 rfl e_30_0)) | (have a4 := (inv_F hI 448 28000 rfl e_30_0); unfold In at a4)); (first | have a5 := in_u ((inv_F hI 0 32 rfl e_2_1)) | (have a5 := (inv_F hI 0 32 rfl e_2_1); unfold In at a5)); (first | have a6 := in_u i34x10 | (have a6 := i34x10; unfold In at a6)); (first | have a7 := in_u i57x21 | (have a7 := i57x21; unfold In at a7)); (first | have a8 := in_u i69a | (have a8 := i69a; unfold In at a8)))); have oc := oc_215_0; omega, by (first | have a0 := oa9 i16x15x8 i16x11 i8x9 i8x9a ((inv_F hI 448 28000 rfl e_30_0)) ((inv_F hI 0 32 rfl e_2_1)) i34x10 i57x21 i69a | ((first | have a0 := in_u i16x15x8 | (have a0 := i16x15x8; unfold In at a0)); (first | have a1 := in_u i16x11 | (have a1 := i16x11; unfold In at a1)); (first | have a2 := in_u i8x9 | (have a2 := i8x9; unfold In at a2)); (first | have a3 := in_u i8x9a | (have a3 := i8x9a; unfold In at a3)); (first | have a4 := in_u ((inv_F hI 448 28000 rfl e_30_0)) | (have a4 := (inv_F hI 448 28000 rfl e_30_0); unfold In at a4)); (first | have a5 := in_u ((inv_F hI 0 32 rfl e_2_1)) | (have a5 := (inv_F hI 0 32 rfl e_2_1); unfold In at a5)); (first | have a6 := in_u i34x10 | (have a6 := i34x10; unfold In at a6)); (first | have a7 := in_u i57x21 | (have a7 := i57x21; unfold In at a7)); (first | have a8 := in_u i69a | (have a8 := i69a; unfold In at a8)))); have oc := oc_215_0; omega, by rw [← e8x17]; (first | have a0 := oa9 i16x15x8 i16x11 i8x9 i8x9a ((inv_F hI 448 28000 rfl e_30_0)) ((inv_F hI 0 32 rfl e_2_1)) i34x10 i57x21 i69a | ((first | have a0 := in_u i16x15x8 | (have a0 := i16x15x8; unfold In at a0)); (first | have a1 := in_u i16x11 | (have a1 := i16x11; unfold In at a1)); (first | have a2 := in_u i8x9 | (have a2 := i8x9; unfold In at a2)); (first | have a3 := in_u i8x9a | (have a3 := i8x9a; unfold In at a3)); (first | have a4 := in_u ((inv_F hI 448 28000 rfl e_30_0)) | (have a4 := (inv_F hI 448 28000 rfl e_30_0); unfold In at a4)); (first | have a5 := in_u ((inv_F hI 0 32 rfl e_2_1)) | (have a5 := (inv_F hI 0 32 rfl e_2_1); unfold In at a5)); (first | have a6 := in_u i34x10 | (have a6 := i34x10; unfold In at a6)); (first | have a7 := in_u i57x21 | (have a7 := i57x21; unfold In at a7)); (first | have a8 := in_u i69a | (have a8 := i69a; unfold In at a8)))); have oc := oc_215_0; omega⟩, (by unfold GVL In; (first | have a0 := oa9 i16x15x8 i16x11 i8x9 i8x9a ((inv_F hI 448 28000 rfl e_30_0)) ((inv_F hI 0 32 rfl e_2_1)) i34x10 i57x21 i69a | ((first | have a0 := in_u i16x15x8 | (have a0 := i16x15x8; unfold In at a0)); (first | have a1 := in_u i16x11 | (have a1 := i16x11; unfold In at a1)); (first | have a2 := in_u i8x9 | (have a2 := i8x9; unfold In at a2)); (first | have a3 := in_u i8x9a | (have a3 := i8x9a; unfold In at a3)); (first | have a4 := in_u ((inv_F hI 448 28000 rfl e_30_0)) | (have a4 := (inv_F hI 448 28000 rfl e_30_0); unfold In at a4)); (first | have a5 := in_u ((inv_F hI 0 32 rfl e_2_1)) | (have a5 := (inv_F hI 0 32 rfl e_2_1); unfold In at a5)); (first | have a6 := in_u i34x10 | (have a6 := i34x10; unfold In at a6)); (first | have a7 := in_u i57x21 | (have a7 := i57x21; unfold In at a7)); (first | have a8 := in_u i69a | (have a8 := i69a; unfold In at a8)))); have oc := oc_215_0; omega)⟩, by rw [← e_2_0]; (first | have a0 := oa9 i16x15x8 i16x11 i8x9 i8x9a ((inv_F hI 448 28000 rfl e_30_0)) ((inv_F hI 0 32 rfl e_2_1)) i34x10 i57x21 i69a | ((first | have a0 := in_u i16x15x8 | (have a0 := i16x15x8; unfold In at a0)); (first | have a1 := in_u i16x11 | (have a1 := i16x11; unfold In at a1)); (first | have a2 := in_u i8x9 | (have a2 := i8x9; unfold In at a2)); (first | have a3 := in_u i8x9a | (have a3 := i8x9a; unfold In at a3)); (first | have a4 := in_u ((inv_F hI 448 28000 rfl e_30_0)) | (have a4 := (inv_F hI 448 28000 rfl e_30_0); unfold In at a4)); (first | have a5 := in_u ((inv_F hI 0 32 rfl e_2_1)) | (have a5 := (inv_F hI 0 32 rfl e_2_1); unfold In at a5)); (first | have a6 := in_u i34x10 | (have a6 := i34x10; unfold In at a6)); (first | have a7 := in_u i57x21 | (have a7 := i57x21; unfold In at a7)); (first | have a8 := in_u i69a | (have a8 := i69a; unfold In at a8)))); have oc := oc_215_0; omega, (by first | (rw [if_pos (by (first | have a0 := oa9 i16x15x8 i16x11 i8x9 i8x9a ((inv_F hI 448 28000 rfl e_30_0)) ((inv_F hI 0 32 rfl e_2_1)) i34x10 i57x21 i69a | ((first | have a0 := in_u i16x15x8 | (have a0 := i16x15x8; unfold In at a0)); (first | have a1 := in_u i16x11 | (have a1 := i16x11; unfold In at a1)); (first | have a2 := in_u i8x9 | (have a2 := i8x9; unfold In at a2)); (first | have a3 := in_u i8x9a | (have a3 := i8x9a; unfold In at a3)); (first | have a4 := in_u ((inv_F hI 448 28000 rfl e_30_0)) | (have a4 := (inv_F hI 448 28000 rfl e_30_0); unfold In at a4)); (first | have a5 := in_u ((inv_F hI 0 32 rfl e_2_1)) | (have a5 := (inv_F hI 0 32 rfl e_2_1); unfold In at a5)); (first | have a6 := in_u i34x10 | (have a6 := i34x10; unfold In at a6)); (first | have a7 := in_u i57x21 | (have a7 := i57x21; unfold In at a7)); (first | have a8 := in_u i69a | (have a8 := i69a; unfold In at a8)))); have oc := oc_215_0; omega)]; exact e57x9) | (rw [if_neg (by (first | have a0 := oa9 i16x15x8 i16x11 i8x9 i8x9a ((inv_F hI 448 28000 rfl e_30_0)) ((inv_F hI 0 32 rfl e_2_1)) i34x10 i57x21 i69a | ((first | have a0 := in_u i16x15x8 | (have a0 := i16x15x8; unfold In at a0)); (first | have a1 := in_u i16x11 | (have a1 := i16x11; unfold In at a1)); (first | have a2 := in_u i8x9 | (have a2 := i8x9; unfold In at a2)); (first | have a3 := in_u i8x9a | (have a3 := i8x9a; unfold In at a3)); (first | have a4 := in_u ((inv_F hI 448 28000 rfl e_30_0)) | (have a4 := (inv_F hI 448 28000 rfl e_30_0); unfold In at a4)); (first | have a5 := in_u ((inv_F hI 0 32 rfl e_2_1)) | (have a5 := (inv_F hI 0 32 rfl e_2_1); unfold In at a5)); (first | have a6 := in_u i34x10 | (have a6 := i34x10; unfold In at a6)); (first | have a7 := in_u i57x21 | (have a7 := i57x21; unfold In at a7)); (first | have a8 := in_u i69a | (have a8 := i69a; unfold In at a8)))); have oc := oc_215_0; omega), if_pos (by (first | have a0 := oa9 i16x15x8 i16x11 i8x9 i8x9a ((inv_F hI 448 28000 rfl e_30_0)) ((inv_F hI 0 32 rfl e_2_1)) i34x10 i57x21 i69a | ((first | have a0 := in_u i16x15x8 | (have a0 := i16x15x8; unfold In at a0)); (first | have a1 := in_u i16x11 | (have a1 := i16x11; unfold In at a1)); (first | have a2 := in_u i8x9 | (have a2 := i8x9; unfold In at a2)); (first | have a3 := in_u i8x9a | (have a3 := i8x9a; unfold In at a3)); (first | have a4 := in_u ((inv_F hI 448 28000 rfl e_30_0)) | (have a4 := (inv_F hI 448 28000 rfl e_30_0); unfold In at a4)); (first | have a5 := in_u ((inv_F hI 0 32 rfl e_2_1)) | (have a5 := (inv_F hI 0 32 rfl e_2_1); unfold In at a5)); (first | have a6 := in_u i34x10 | (have a6 := i34x10; unfold In at a6)); (first | have a7 := in_u i57x21 | (have a7 := i57x21; unfold In at a7)); (first | have a8 := in_u i69a | (have a8 := i69a; unfold In at a8)))); have oc := oc_215_0; omega)]; exact e57x21) | (rw [if_neg (by (first | have a0 := oa9 i16x15x8 i16x11 i8x9 i8x9a ((inv_F hI 448 28000 rfl e_30_0)) ((inv_F hI 0 32 rfl e_2_1)) i34x10 i57x21 i69a | ((first | have a0 := in_u i16x15x8 | (have a0 := i16x15x8; unfold In at a0)); (first | have a1 := in_u i16x11 | (have a1 := i16x11; unfold In at a1)); (first | have a2 := in_u i8x9 | (have a2 := i8x9; unfold In at a2)); (first | have a3 := in_u i8x9a | (have a3 := i8x9a; unfold In at a3)); (first | have a4 := in_u ((inv_F hI 448 28000 rfl e_30_0)) | (have a4 := (inv_F hI 448 28000 rfl e_30_0); unfold In at a4)); (first | have a5 := in_u ((inv_F hI 0 32 rfl e_2_1)) | (have a5 := (inv_F hI 0 32 rfl e_2_1); unfold In at a5)); (first | have a6 := in_u i34x10 | (have a6 := i34x10; unfold In at a6)); (first | have a7 := in_u i57x21 | (have a7 := i57x21; unfold In at a7)); (first | have a8 := in_u i69a | (have a8 := i69a; unfold In at a8)))); have oc := oc_215_0; omega), if_neg (by (first | have a0 := oa9 i16x15x8 i16x11 i8x9 i8x9a ((inv_F hI 448 28000 rfl e_30_0)) ((inv_F hI 0 32 rfl e_2_1)) i34x10 i57x21 i69a | ((first | have a0 := in_u i16x15x8 | (have a0 := i16x15x8; unfold In at a0)); (first | have a1 := in_u i16x11 | (have a1 := i16x11; unfold In at a1)); (first | have a2 := in_u i8x9 | (have a2 := i8x9; unfold In at a2)); (first | have a3 := in_u i8x9a | (have a3 := i8x9a; unfold In at a3)); (first | have a4 := in_u ((inv_F hI 448 28000 rfl e_30_0)) | (have a4 := (inv_F hI 448 28000 rfl e_30_0); unfold In at a4)); (first | have a5 := in_u ((inv_F hI 0 32 rfl e_2_1)) | (have a5 := (inv_F hI 0 32 rfl e_2_1); unfold In at a5)); (first | have a6 := in_u i34x10 | (have a6 := i34x10; unfold In at a6)); (first | have a7 := in_u i57x21 | (have a7 := i57x21; unfold In at a7)); (first | have a8 := in_u i69a | (have a8 := i69a; unfold In at a8)))); have oc := oc_215_0; omega)]; exact e57x30)), p69g⟩
                                have n74b : TQ s69 := by exact p69h q_1
                                have n74c : ∀ k : Nat, (k : Int) < 7 * (s.2.2.1 2 0).toInt → s69.1 30 k = s.1 30 k := by exact p69f
                                have n74d : s69.1 30 (7 * (s.2.2.1 2 0).toInt.toNat) = (Int32.ofInt 3) ∧ s69.1 30 (7 * (s.2.2.1 2 0).toInt.toNat + 1) = x1 ∧ s69.1 30 (7 * (s.2.2.1 2 0).toInt.toNat + 2) = x2 ∧ s69.1 30 (7 * (s.2.2.1 2 0).toInt.toNat + 3) = x3 := by exact p69i
                                exact g_ireturn (gd rfl) rfl rfl (hP _ _ ⟨a69, s69, hI69, (fr_tr rfl fr_rf hF69), z57x21, rfl, rfl, in_w (-1000000) 1000000 i57x21 rfl, n74, n74a, n74b, n74c, n74d⟩)
                            · skip
                              exact zn_eq c57x1 i16x11 rfl
                          · skip
                            exact zn_eq c45 (in_c 1 rfl) rfl
                      · skip
                        have i34x10 := r_le2 4000 4000 c34x10 (in_c 4000 rfl) (inv_F hI 0 4000 rfl e_2_0) rfl
                        refine g_iconst 1 14 (gd rfl) rfl rfl ?_
                        refine g_goto 18 (gd rfl) rfl ?_
                        refine g_ireturn (gd rfl) rfl (nb01 (in_w 0 1 (in_c 1 rfl) rfl)) (hp34 _ _ ?_)
                        show GG _ _ _ _ _ _ _ _ [.int (Int32.ofInt 1)] _ _ _
                        refine g_if_ne 40 44 (gd rfl) rfl rfl (fun c37 => ?_) (fun c37 => ?_)
                        · skip
                          refine g_iconst 0 45 (gd rfl) rfl rfl ?_
                          refine g_thr (E := am_IS) (y := yX11_ready) 48 (gd rfl) rfl rfl (Or.inr ⟨rfl, rfl, rfl⟩) (by first | exact dq1 hd rfl | exact dq0 hd rfl | exact dq2 hd rfl | exact dq3 hd rfl | omega) (Nat.le_of_ble_eq_true rfl) (Nat.le_of_ble_eq_true rfl) (Nat.le_of_ble_eq_true rfl) (fun c45 => ?_) (fun c45 => ?_)
                          · skip
                            exact zn_ne c45 (in_c 0 rfl) rfl
                          · skip
                            have n45 : (HAC s x1 ∧ GVL x2 x3) ∧ ¬ (s.2.2.1 2 0).toInt ≤ 3999 := by refine ⟨⟨⟨by (first | have a0 := oa7 i16x15x8 i16x11 i8x9 i8x9a ((inv_F hI 448 28000 rfl e_30_0)) ((inv_F hI 0 32 rfl e_2_1)) i34x10 | ((first | have a0 := in_u i16x15x8 | (have a0 := i16x15x8; unfold In at a0)); (first | have a1 := in_u i16x11 | (have a1 := i16x11; unfold In at a1)); (first | have a2 := in_u i8x9 | (have a2 := i8x9; unfold In at a2)); (first | have a3 := in_u i8x9a | (have a3 := i8x9a; unfold In at a3)); (first | have a4 := in_u ((inv_F hI 448 28000 rfl e_30_0)) | (have a4 := (inv_F hI 448 28000 rfl e_30_0); unfold In at a4)); (first | have a5 := in_u ((inv_F hI 0 32 rfl e_2_1)) | (have a5 := (inv_F hI 0 32 rfl e_2_1); unfold In at a5)); (first | have a6 := in_u i34x10 | (have a6 := i34x10; unfold In at a6)))); have oc := oc_215_0; omega, by (first | have a0 := oa7 i16x15x8 i16x11 i8x9 i8x9a ((inv_F hI 448 28000 rfl e_30_0)) ((inv_F hI 0 32 rfl e_2_1)) i34x10 | ((first | have a0 := in_u i16x15x8 | (have a0 := i16x15x8; unfold In at a0)); (first | have a1 := in_u i16x11 | (have a1 := i16x11; unfold In at a1)); (first | have a2 := in_u i8x9 | (have a2 := i8x9; unfold In at a2)); (first | have a3 := in_u i8x9a | (have a3 := i8x9a; unfold In at a3)); (first | have a4 := in_u ((inv_F hI 448 28000 rfl e_30_0)) | (have a4 := (inv_F hI 448 28000 rfl e_30_0); unfold In at a4)); (first | have a5 := in_u ((inv_F hI 0 32 rfl e_2_1)) | (have a5 := (inv_F hI 0 32 rfl e_2_1); unfold In at a5)); (first | have a6 := in_u i34x10 | (have a6 := i34x10; unfold In at a6)))); have oc := oc_215_0; omega, by rw [← e8x17]; (first | have a0 := oa7 i16x15x8 i16x11 i8x9 i8x9a ((inv_F hI 448 28000 rfl e_30_0)) ((inv_F hI 0 32 rfl e_2_1)) i34x10 | ((first | have a0 := in_u i16x15x8 | (have a0 := i16x15x8; unfold In at a0)); (first | have a1 := in_u i16x11 | (have a1 := i16x11; unfold In at a1)); (first | have a2 := in_u i8x9 | (have a2 := i8x9; unfold In at a2)); (first | have a3 := in_u i8x9a | (have a3 := i8x9a; unfold In at a3)); (first | have a4 := in_u ((inv_F hI 448 28000 rfl e_30_0)) | (have a4 := (inv_F hI 448 28000 rfl e_30_0); unfold In at a4)); (first | have a5 := in_u ((inv_F hI 0 32 rfl e_2_1)) | (have a5 := (inv_F hI 0 32 rfl e_2_1); unfold In at a5)); (first | have a6 := in_u i34x10 | (have a6 := i34x10; unfold In at a6)))); have oc := oc_215_0; omega⟩, (by unfold GVL In; (first | have a0 := oa7 i16x15x8 i16x11 i8x9 i8x9a ((inv_F hI 448 28000 rfl e_30_0)) ((inv_F hI 0 32 rfl e_2_1)) i34x10 | ((first | have a0 := in_u i16x15x8 | (have a0 := i16x15x8; unfold In at a0)); (first | have a1 := in_u i16x11 | (have a1 := i16x11; unfold In at a1)); (first | have a2 := in_u i8x9 | (have a2 := i8x9; unfold In at a2)); (first | have a3 := in_u i8x9a | (have a3 := i8x9a; unfold In at a3)); (first | have a4 := in_u ((inv_F hI 448 28000 rfl e_30_0)) | (have a4 := (inv_F hI 448 28000 rfl e_30_0); unfold In at a4)); (first | have a5 := in_u ((inv_F hI 0 32 rfl e_2_1)) | (have a5 := (inv_F hI 0 32 rfl e_2_1); unfold In at a5)); (first | have a6 := in_u i34x10 | (have a6 := i34x10; unfold In at a6)))); have oc := oc_215_0; omega)⟩, ?_⟩; rw [← e_2_0]; (first | have a0 := oa7 i16x15x8 i16x11 i8x9 i8x9a ((inv_F hI 448 28000 rfl e_30_0)) ((inv_F hI 0 32 rfl e_2_1)) i34x10 | ((first | have a0 := in_u i16x15x8 | (have a0 := i16x15x8; unfold In at a0)); (first | have a1 := in_u i16x11 | (have a1 := i16x11; unfold In at a1)); (first | have a2 := in_u i8x9 | (have a2 := i8x9; unfold In at a2)); (first | have a3 := in_u i8x9a | (have a3 := i8x9a; unfold In at a3)); (first | have a4 := in_u ((inv_F hI 448 28000 rfl e_30_0)) | (have a4 := (inv_F hI 448 28000 rfl e_30_0); unfold In at a4)); (first | have a5 := in_u ((inv_F hI 0 32 rfl e_2_1)) | (have a5 := (inv_F hI 0 32 rfl e_2_1); unfold In at a5)); (first | have a6 := in_u i34x10 | (have a6 := i34x10; unfold In at a6)))); have oc := oc_215_0; omega
                            exact (hX _ _ ⟨Or.inr ⟨rfl, n45⟩, s, hI, fr_rf, rfl⟩)
                        · skip
                          exact zn_eq c37 (in_c 1 rfl) rfl
                    · skip
                      exact zn_eq c27 (in_c 1 rfl) rfl
          · skip
            have i16x1 := z_eq 0 0 c16x1 (i_rng x2) rfl
            refine g_iload_n 5 (gd rfl) rfl rfl ?_
            refine g_calls (As := [.int x3]) (r := []) 8 (gd rfl) rfl rfl rfl rfl rfl (Nat.le_of_ble_eq_true rfl) (mc := 0) (ms := 0) (Nat.zero_le _) (Nat.zero_le _) (P := fun v u => _) ?_ (fun v u h => h)
            intro po16x5 xx16x5 hp16x5 hx16x5
            refine g_enter2 (k := 261) (N := 300) (by first | exact dq1 hd rfl | exact dq0 hd rfl | exact dq2 hd rfl | exact dq3 hd rfl | omega) rfl (Nat.le_of_ble_eq_true rfl) ?_
            refine g_iload_n 1 (gd rfl) rfl rfl ?_
            refine g_ldc_w (-1000000) 4 (gd rfl) rfl rfl ?_
            refine g_cmp_lt 7 18 (gd rfl) rfl rfl (fun c16x5x4 => ?_) (fun c16x5x4 => ?_)
            · skip
              have i16x5x4 := r_lt1 (-2147483648) (-1000001) c16x5x4 (i_rng x3) (in_c (-1000000) rfl) rfl
              refine g_iconst 0 19 (gd rfl) rfl rfl ?_
              refine g_ireturn (gd rfl) rfl (nb01 (in_w 0 1 (in_c 0 rfl) rfl)) (hp16x5 _ _ ?_)
              show GG _ _ _ _ _ _ _ _ [.int (Int32.ofInt 0)] _ _ _
              refine g_ireturn (gd rfl) rfl (nb01 (in_w 0 1 (in_c 0 rfl) rfl)) (hp16 _ _ ?_)
              show GG _ _ _ _ _ _ _ _ [.int (Int32.ofInt 0)] _ _ _
              refine g_if_eq 22 26 (gd rfl) rfl rfl (fun c19 => ?_) (fun c19 => ?_)
              · skip
                refine g_iconst 0 27 (gd rfl) rfl rfl ?_
                refine g_thr (E := am_IA) (y := yX11_allow) 30 (gd rfl) rfl rfl (Or.inl ⟨rfl, rfl, rfl⟩) (by first | exact dq1 hd rfl | exact dq0 hd rfl | exact dq2 hd rfl | exact dq3 hd rfl | omega) (Nat.le_of_ble_eq_true rfl) (Nat.le_of_ble_eq_true rfl) (Nat.le_of_ble_eq_true rfl) (fun c27 => ?_) (fun c27 => ?_)
                · skip
                  exact zn_ne c27 (in_c 0 rfl) rfl
                · skip
                  have n27 : ¬ (HAC s x1 ∧ GVL x2 x3) := by intro h; have hg := h.2; unfold GVL In at hg; (first | have a0 := oa7 i16x1 i8x9 i8x9a ((inv_F hI 448 28000 rfl e_30_0)) ((inv_F hI 0 32 rfl e_2_1)) ((inv_F hI 0 4000 rfl e_2_0)) i16x5x4 | ((first | have a0 := in_u i16x1 | (have a0 := i16x1; unfold In at a0)); (first | have a1 := in_u i8x9 | (have a1 := i8x9; unfold In at a1)); (first | have a2 := in_u i8x9a | (have a2 := i8x9a; unfold In at a2)); (first | have a3 := in_u ((inv_F hI 448 28000 rfl e_30_0)) | (have a3 := (inv_F hI 448 28000 rfl e_30_0); unfold In at a3)); (first | have a4 := in_u ((inv_F hI 0 32 rfl e_2_1)) | (have a4 := (inv_F hI 0 32 rfl e_2_1); unfold In at a4)); (first | have a5 := in_u ((inv_F hI 0 4000 rfl e_2_0)) | (have a5 := (inv_F hI 0 4000 rfl e_2_0); unfold In at a5)); (first | have a6 := in_u i16x5x4 | (have a6 := i16x5x4; unfold In at a6)))); have oc := oc_215_0; omega
                  exact (hX _ _ ⟨Or.inl ⟨rfl, n27⟩, s, hI, fr_rf, rfl⟩)
              · skip
                exact zn_ne c19 (in_c 0 rfl) rfl
            · skip
              have i16x5x4 := r_le2 (-1000000) 2147483647 c16x5x4 (in_c (-1000000) rfl) (i_rng x3) rfl
              refine g_iload_n 8 (gd rfl) rfl rfl ?_
              refine g_ldc_w 1000000 11 (gd rfl) rfl rfl ?_
              refine g_cmp_gt 14 18 (gd rfl) rfl rfl (fun c16x5x11 => ?_) (fun c16x5x11 => ?_)
              · skip
                have i16x5x11 := r_lt2 1000001 2147483647 c16x5x11 (in_c 1000000 rfl) i16x5x4 rfl
                refine g_iconst 0 19 (gd rfl) rfl rfl ?_
                refine g_ireturn (gd rfl) rfl (nb01 (in_w 0 1 (in_c 0 rfl) rfl)) (hp16x5 _ _ ?_)
                show GG _ _ _ _ _ _ _ _ [.int (Int32.ofInt 0)] _ _ _
                refine g_ireturn (gd rfl) rfl (nb01 (in_w 0 1 (in_c 0 rfl) rfl)) (hp16 _ _ ?_)
                show GG _ _ _ _ _ _ _ _ [.int (Int32.ofInt 0)] _ _ _
                refine g_if_eq 22 26 (gd rfl) rfl rfl (fun c19 => ?_) (fun c19 => ?_)
                · skip
                  refine g_iconst 0 27 (gd rfl) rfl rfl ?_
                  refine g_thr (E := am_IA) (y := yX11_allow) 30 (gd rfl) rfl rfl (Or.inl ⟨rfl, rfl, rfl⟩) (by first | exact dq1 hd rfl | exact dq0 hd rfl | exact dq2 hd rfl | exact dq3 hd rfl | omega) (Nat.le_of_ble_eq_true rfl) (Nat.le_of_ble_eq_true rfl) (Nat.le_of_ble_eq_true rfl) (fun c27 => ?_) (fun c27 => ?_)
                  · skip
                    exact zn_ne c27 (in_c 0 rfl) rfl
                  · skip
                    have n27 : ¬ (HAC s x1 ∧ GVL x2 x3) := by intro h; have hg := h.2; unfold GVL In at hg; (first | have a0 := oa7 i16x1 i8x9 i8x9a ((inv_F hI 448 28000 rfl e_30_0)) ((inv_F hI 0 32 rfl e_2_1)) ((inv_F hI 0 4000 rfl e_2_0)) i16x5x11 | ((first | have a0 := in_u i16x1 | (have a0 := i16x1; unfold In at a0)); (first | have a1 := in_u i8x9 | (have a1 := i8x9; unfold In at a1)); (first | have a2 := in_u i8x9a | (have a2 := i8x9a; unfold In at a2)); (first | have a3 := in_u ((inv_F hI 448 28000 rfl e_30_0)) | (have a3 := (inv_F hI 448 28000 rfl e_30_0); unfold In at a3)); (first | have a4 := in_u ((inv_F hI 0 32 rfl e_2_1)) | (have a4 := (inv_F hI 0 32 rfl e_2_1); unfold In at a4)); (first | have a5 := in_u ((inv_F hI 0 4000 rfl e_2_0)) | (have a5 := (inv_F hI 0 4000 rfl e_2_0); unfold In at a5)); (first | have a6 := in_u i16x5x11 | (have a6 := i16x5x11; unfold In at a6)))); have oc := oc_215_0; omega
                    exact (hX _ _ ⟨Or.inl ⟨rfl, n27⟩, s, hI, fr_rf, rfl⟩)
                · skip
                  exact zn_ne c19 (in_c 0 rfl) rfl
              · skip
                have i16x5x11 := r_le1 (-1000000) 1000000 c16x5x11 i16x5x4 (in_c 1000000 rfl) rfl
                refine g_iconst 1 15 (gd rfl) rfl rfl ?_
                refine g_goto 19 (gd rfl) rfl ?_
                refine g_ireturn (gd rfl) rfl (nb01 (in_w 0 1 (in_c 1 rfl) rfl)) (hp16x5 _ _ ?_)
                show GG _ _ _ _ _ _ _ _ [.int (Int32.ofInt 1)] _ _ _
                refine g_ireturn (gd rfl) rfl (nb01 (in_w 0 1 (in_c 1 rfl) rfl)) (hp16 _ _ ?_)
                show GG _ _ _ _ _ _ _ _ [.int (Int32.ofInt 1)] _ _ _
                refine g_if_eq 22 26 (gd rfl) rfl rfl (fun c19 => ?_) (fun c19 => ?_)
                · skip
                  exact zn_eq c19 (in_c 1 rfl) rfl
                · skip
                  refine g_iconst 1 23 (gd rfl) rfl rfl ?_
                  refine g_goto 27 (gd rfl) rfl ?_
                  refine g_thr (E := am_IA) (y := yX11_allow) 30 (gd rfl) rfl rfl (Or.inl ⟨rfl, rfl, rfl⟩) (by first | exact dq1 hd rfl | exact dq0 hd rfl | exact dq2 hd rfl | exact dq3 hd rfl | omega) (Nat.le_of_ble_eq_true rfl) (Nat.le_of_ble_eq_true rfl) (Nat.le_of_ble_eq_true rfl) (fun c27 => ?_) (fun c27 => ?_)
                  · skip
                    refine g_aload_n 31 (gd rfl) rfl rfl ?_
                    refine g_getA (q2 := 1) 34 (gd rfl) rfl rfl rfl rfl ?_
                    refine g_callv (X := _) (As := []) (r := []) (b := A 1) (q := 1) 37 (gd rfl) rfl rfl rfl rfl rfl (ww_o rfl) (Nat.le_of_ble_eq_true rfl) (mc := 0) (ms := 0) (Nat.zero_le _) (Nat.zero_le _) (P := fun v u => _) ?_ (fun e u h => h) (fun v u h => h)
                    intro po34 xx34 hp34 hx34
                    refine g_enter2 (k := 122) (N := 300) (by first | exact dq1 hd rfl | exact dq0 hd rfl | exact dq2 hd rfl | exact dq3 hd rfl | omega) rfl (Nat.le_of_ble_eq_true rfl) ?_
                    refine g_aload_n 1 (gd rfl) rfl rfl ?_
                    refine g_getA (q2 := 2) 4 (gd rfl) rfl rfl rfl rfl ?_
                    refine g_getI 7 (gd rfl) rfl rfl rfl (fun z34x4 e34x4 => ?_)
                    have q34x4 : u_2_0 = z34x4 := (e_2_0).trans e34x4.symm
                    subst q34x4
                    refine g_sipush 4000 10 (gd rfl) rfl rfl ?_
                    refine g_cmp_lt 13 17 (gd rfl) rfl rfl (fun c34x10 => ?_) (fun c34x10 => ?_)
                    · skip
                      have i34x10 := r_lt1 0 3999 c34x10 (inv_F hI 0 4000 rfl e_2_0) (in_c 4000 rfl) rfl
                      refine g_iconst 0 18 (gd rfl) rfl rfl ?_
                      refine g_ireturn (gd rfl) rfl (nb01 (in_w 0 1 (in_c 0 rfl) rfl)) (hp34 _ _ ?_)
                      show GG _ _ _ _ _ _ _ _ [.int (Int32.ofInt 0)] _ _ _
                      refine g_if_ne 40 44 (gd rfl) rfl rfl (fun c37 => ?_) (fun c37 => ?_)
                      · skip
                        exact zn_ne c37 (in_c 0 rfl) rfl
                      · skip
                        refine g_iconst 1 41 (gd rfl) rfl rfl ?_
                        refine g_goto 45 (gd rfl) rfl ?_
                        refine g_thr (E := am_IS) (y := yX11_ready) 48 (gd rfl) rfl rfl (Or.inr ⟨rfl, rfl, rfl⟩) (by first | exact dq1 hd rfl | exact dq0 hd rfl | exact dq2 hd rfl | exact dq3 hd rfl | omega) (Nat.le_of_ble_eq_true rfl) (Nat.le_of_ble_eq_true rfl) (Nat.le_of_ble_eq_true rfl) (fun c45 => ?_) (fun c45 => ?_)
                        · skip
                          refine g_aload_n 49 (gd rfl) rfl rfl ?_
                          refine g_getA (q2 := 1) 52 (gd rfl) rfl rfl rfl rfl ?_
                          refine g_getA (q2 := 2) 55 (gd rfl) rfl rfl rfl rfl ?_
                          refine g_iload_n 56 (gd rfl) rfl rfl ?_
                          refine g_iload_n 57 (gd rfl) rfl rfl ?_
                          refine g_callv (X := _) (As := [.int x1, .int x2]) (r := []) (b := A 2) (q := 2) 60 (gd rfl) rfl rfl rfl rfl rfl (ww_o rfl) (Nat.le_of_ble_eq_true rfl) (mc := 0) (ms := 0) (Nat.zero_le _) (Nat.zero_le _) (P := fun v u => _) ?_ (fun e u h => h) (fun v u h => h)
                          intro po57 xx57 hp57 hx57
                          refine g_enter2 (k := 100) (N := 300) (by first | exact dq1 hd rfl | exact dq0 hd rfl | exact dq2 hd rfl | exact dq3 hd rfl | omega) rfl (Nat.le_of_ble_eq_true rfl) ?_
                          refine g_iload_n 1 (gd rfl) rfl rfl ?_
                          refine g_if_ne 4 11 (gd rfl) rfl rfl (fun c57x1 => ?_) (fun c57x1 => ?_)
                          · skip
                            exact zn_ne c57x1 i16x1 rfl
                          · skip
                            refine g_aload_n 5 (gd rfl) rfl rfl ?_
                            refine g_getA (q2 := 6) 8 (gd rfl) rfl rfl rfl rfl ?_
                            refine g_iload_n 9 (gd rfl) rfl rfl ?_
                            refine g_iaload 10 (gd rfl) rfl (n := 160) rfl (in_ix i8x9 rfl) (fun z57x9 e57x9 => ?_)
                            have i57x9 := inv_I hI (n := 160) (t := 0) (-1000000) 1000000 rfl (in_ix i8x9 rfl) rfl e57x9
                            refine g_ireturn (gd rfl) rfl rfl (hp57 _ _ ?_)
                            show GG _ _ _ _ _ _ _ _ [.int z57x9] _ _ _
                            refine g_istore 62 (gd rfl) rfl (Nat.le_of_ble_eq_true rfl) ?_
                            refine g_aload_n 63 (gd rfl) rfl rfl ?_
                            refine g_getA (q2 := 1) 66 (gd rfl) rfl rfl rfl rfl ?_
                            refine g_iload_n 67 (gd rfl) rfl rfl ?_
                            refine g_iload_n 68 (gd rfl) rfl rfl ?_
                            refine g_iload_n 69 (gd rfl) rfl rfl ?_
                            have p69 : KL s := by exact q_0
                            have p69a : (x2).toInt = 0 → In x3 (-1000000) 1000000 := by first | (intro h; exact in_w (-1000000) 1000000 i16x5x11 rfl) | (intro h; exfalso; (first | have a0 := oa8 i16x5x11 i16x1 i8x9 i8x9a ((inv_F hI 448 28000 rfl e_30_0)) ((inv_F hI 0 32 rfl e_2_1)) i34x10 i57x9 | ((first | have a0 := in_u i16x5x11 | (have a0 := i16x5x11; unfold In at a0)); (first | have a1 := in_u i16x1 | (have a1 := i16x1; unfold In at a1)); (first | have a2 := in_u i8x9 | (have a2 := i8x9; unfold In at a2)); (first | have a3 := in_u i8x9a | (have a3 := i8x9a; unfold In at a3)); (first | have a4 := in_u ((inv_F hI 448 28000 rfl e_30_0)) | (have a4 := (inv_F hI 448 28000 rfl e_30_0); unfold In at a4)); (first | have a5 := in_u ((inv_F hI 0 32 rfl e_2_1)) | (have a5 := (inv_F hI 0 32 rfl e_2_1); unfold In at a5)); (first | have a6 := in_u i34x10 | (have a6 := i34x10; unfold In at a6)); (first | have a7 := in_u i57x9 | (have a7 := i57x9; unfold In at a7)))); have oc := oc_215_0; omega)
                            have p69b : (x2).toInt = 1 → In x3 0 1000000 := by first | (intro h; exact in_w (0) 1000000 i16x5x11 rfl) | (intro h; exfalso; (first | have a0 := oa8 i16x5x11 i16x1 i8x9 i8x9a ((inv_F hI 448 28000 rfl e_30_0)) ((inv_F hI 0 32 rfl e_2_1)) i34x10 i57x9 | ((first | have a0 := in_u i16x5x11 | (have a0 := i16x5x11; unfold In at a0)); (first | have a1 := in_u i16x1 | (have a1 := i16x1; unfold In at a1)); (first | have a2 := in_u i8x9 | (have a2 := i8x9; unfold In at a2)); (first | have a3 := in_u i8x9a | (have a3 := i8x9a; unfold In at a3)); (first | have a4 := in_u ((inv_F hI 448 28000 rfl e_30_0)) | (have a4 := (inv_F hI 448 28000 rfl e_30_0); unfold In at a4)); (first | have a5 := in_u ((inv_F hI 0 32 rfl e_2_1)) | (have a5 := (inv_F hI 0 32 rfl e_2_1); unfold In at a5)); (first | have a6 := in_u i34x10 | (have a6 := i34x10; unfold In at a6)); (first | have a7 := in_u i57x9 | (have a7 := i57x9; unfold In at a7)))); have oc := oc_215_0; omega)
                            have p69c : (x2).toInt ≠ 0 → (x2).toInt ≠ 1 → In x3 0 25 := by first | (intro h h0; exact in_w 0 25 i16x5x11 rfl) | (intro h h0; exfalso; (first | have a0 := oa8 i16x5x11 i16x1 i8x9 i8x9a ((inv_F hI 448 28000 rfl e_30_0)) ((inv_F hI 0 32 rfl e_2_1)) i34x10 i57x9 | ((first | have a0 := in_u i16x5x11 | (have a0 := i16x5x11; unfold In at a0)); (first | have a1 := in_u i16x1 | (have a1 := i16x1; unfold In at a1)); (first | have a2 := in_u i8x9 | (have a2 := i8x9; unfold In at a2)); (first | have a3 := in_u i8x9a | (have a3 := i8x9a; unfold In at a3)); (first | have a4 := in_u ((inv_F hI 448 28000 rfl e_30_0)) | (have a4 := (inv_F hI 448 28000 rfl e_30_0); unfold In at a4)); (first | have a5 := in_u ((inv_F hI 0 32 rfl e_2_1)) | (have a5 := (inv_F hI 0 32 rfl e_2_1); unfold In at a5)); (first | have a6 := in_u i34x10 | (have a6 := i34x10; unfold In at a6)); (first | have a7 := in_u i57x9 | (have a7 := i57x9; unfold In at a7)))); have oc := oc_215_0; omega)
                            refine g_callv (X := _) (As := [.int x1, .int x2, .int x3]) (r := []) (b := A 1) (q := 1) 72 (gd rfl) rfl rfl rfl rfl rfl (ww_o rfl) (Nat.le_of_ble_eq_true rfl) (Nat.le_trans lgc_le (Nat.le_of_ble_eq_true rfl)) (Nat.le_trans (lsl_le (inv_F hI 448 28000 (q := 30) (j := 0) rfl rfl) (by rw [← (show u_2_0 = s.2.2.1 2 0 from e_2_0)]; exact in_w 0 3999 i34x10 rfl)) (Nat.le_of_ble_eq_true rfl)) (f_127_1 (by first | exact dq1 hd rfl | exact dq0 hd rfl | exact dq2 hd rfl | exact dq3 hd rfl | omega) hI (in_w 0 159 i8x9 rfl) e_2_0 e_2_1 e_30_0 (in_w 0 3999 i34x10 rfl) p69 p69a p69b p69c) (fun e u h => h) (fun v u h => ?_)
                            obtain ⟨a69, s69, hI69, hF69, n69, rfl, rfl, p69d, p69e, p69f, p69g, p69h, p69i⟩ := h
                            obtain ⟨z69a, e69⟩ : ∃ w, w = s69.2.2.1 2 0 := ⟨_, rfl⟩
                            have i69a := inv_F hI69 0 4000 rfl e69
                            rw [← (show u_2_0 = s.2.2.1 2 0 from e_2_0)] at n69
                            rw [← (show z69a = s69.2.2.1 2 0 from e69)] at n69
                            show GG _ _ _ _ _ _ _ _ [] _ _ _
                            refine g_iload 74 (gd rfl) rfl rfl ?_
                            have n74 : KL s69 := by exact p69d
                            have n74a : (HAC s x1 ∧ GVL x2 x3) ∧ (s.2.2.1 2 0).toInt ≤ 3999 ∧ (z57x9) = (if (x2).toInt = 0 then s.1 6 (x1).toNatClampNeg else if (x2).toInt = 1 then s.1 7 (x1).toNatClampNeg else s.1 8 (x1).toNatClampNeg) ∧ gvC s69 = gqW (gvC s) (x1).toNatClampNeg x2 x3 := by exact ⟨⟨⟨by (first | have a0 := oa9 i16x5x11 i16x1 i8x9 i8x9a ((inv_F hI 448 28000 rfl e_30_0)) ((inv_F hI 0 32 rfl e_2_1)) i34x10 i57x9 i69a | ((first | have a0 := in_u i16x5x11 | (have a0 := i16x5x11; unfold In at a0)); (first | have a1 := in_u i16x1 | (have a1 := i16x1; unfold In at a1)); (first | have a2 := in_u i8x9 | (have a2 := i8x9; unfold In at a2)); (first | have a3 := in_u i8x9a | (have a3 := i8x9a; unfold In at a3)); (first | have a4 := in_u ((inv_F hI 448 28000 rfl e_30_0)) | (have a4 := (inv_F hI 448 28000 rfl e_30_0); unfold In at a4)); (first | have a5 := in_u ((inv_F hI 0 32 rfl e_2_1)) | (have a5 := (inv_F hI 0 32 rfl e_2_1); unfold In at a5)); (first | have a6 := in_u i34x10 | (have a6 := i34x10; unfold In at a6)); (first | have a7 := in_u i57x9 | (have a7 := i57x9; unfold In at a7)); (first | have a8 := in_u i69a | (have a8 := i69a; unfold In at a8)))); have oc := oc_215_0; omega, by (first | have a0 := oa9 i16x5x11 i16x1 i8x9 i8x9a ((inv_F hI 448 28000 rfl e_30_0)) ((inv_F hI 0 32 rfl e_2_1)) i34x10 i57x9 i69a | ((first | have a0 := in_u i16x5x11 | (have a0 := i16x5x11; unfold In at a0)); (first | have a1 := in_u i16x1 | (have a1 := i16x1; unfold In at a1)); (first | have a2 := in_u i8x9 | (have a2 := i8x9; unfold In at a2)); (first | have a3 := in_u i8x9a | (have a3 := i8x9a; unfold In at a3)); (first | have a4 := in_u ((inv_F hI 448 28000 rfl e_30_0)) | (have a4 := (inv_F hI 448 28000 rfl e_30_0); unfold In at a4)); (first | have a5 := in_u ((inv_F hI 0 32 rfl e_2_1)) | (have a5 := (inv_F hI 0 32 rfl e_2_1); unfold In at a5)); (first | have a6 := in_u i34x10 | (have a6 := i34x10; unfold In at a6)); (first | have a7 := in_u i57x9 | (have a7 := i57x9; unfold In at a7)); (first | have a8 := in_u i69a | (have a8 := i69a; unfold In at a8)))); have oc := oc_215_0; omega, by rw [← e8x17]; (first | have a0 := oa9 i16x5x11 i16x1 i8x9 i8x9a ((inv_F hI 448 28000 rfl e_30_0)) ((inv_F hI 0 32 rfl e_2_1)) i34x10 i57x9 i69a | ((first | have a0 := in_u i16x5x11 | (have a0 := i16x5x11; unfold In at a0)); (first | have a1 := in_u i16x1 | (have a1 := i16x1; unfold In at a1)); (first | have a2 := in_u i8x9 | (have a2 := i8x9; unfold In at a2)); (first | have a3 := in_u i8x9a | (have a3 := i8x9a; unfold In at a3)); (first | have a4 := in_u ((inv_F hI 448 28000 rfl e_30_0)) | (have a4 := (inv_F hI 448 28000 rfl e_30_0); unfold In at a4)); (first | have a5 := in_u ((inv_F hI 0 32 rfl e_2_1)) | (have a5 := (inv_F hI 0 32 rfl e_2_1); unfold In at a5)); (first | have a6 := in_u i34x10 | (have a6 := i34x10; unfold In at a6)); (first | have a7 := in_u i57x9 | (have a7 := i57x9; unfold In at a7)); (first | have a8 := in_u i69a | (have a8 := i69a; unfold In at a8)))); have oc := oc_215_0; omega⟩, (by unfold GVL In; (first | have a0 := oa9 i16x5x11 i16x1 i8x9 i8x9a ((inv_F hI 448 28000 rfl e_30_0)) ((inv_F hI 0 32 rfl e_2_1)) i34x10 i57x9 i69a | ((first | have a0 := in_u i16x5x11 | (have a0 := i16x5x11; unfold In at a0)); (first | have a1 := in_u i16x1 | (have a1 := i16x1; unfold In at a1)); (first | have a2 := in_u i8x9 | (have a2 := i8x9; unfold In at a2)); (first | have a3 := in_u i8x9a | (have a3 := i8x9a; unfold In at a3)); (first | have a4 := in_u ((inv_F hI 448 28000 rfl e_30_0)) | (have a4 := (inv_F hI 448 28000 rfl e_30_0); unfold In at a4)); (first | have a5 := in_u ((inv_F hI 0 32 rfl e_2_1)) | (have a5 := (inv_F hI 0 32 rfl e_2_1); unfold In at a5)); (first | have a6 := in_u i34x10 | (have a6 := i34x10; unfold In at a6)); (first | have a7 := in_u i57x9 | (have a7 := i57x9; unfold In at a7)); (first | have a8 := in_u i69a | (have a8 := i69a; unfold In at a8)))); have oc := oc_215_0; omega)⟩, by rw [← e_2_0]; (first | have a0 := oa9 i16x5x11 i16x1 i8x9 i8x9a ((inv_F hI 448 28000 rfl e_30_0)) ((inv_F hI 0 32 rfl e_2_1)) i34x10 i57x9 i69a | ((first | have a0 := in_u i16x5x11 | (have a0 := i16x5x11; unfold In at a0)); (first | have a1 := in_u i16x1 | (have a1 := i16x1; unfold In at a1)); (first | have a2 := in_u i8x9 | (have a2 := i8x9; unfold In at a2)); (first | have a3 := in_u i8x9a | (have a3 := i8x9a; unfold In at a3)); (first | have a4 := in_u ((inv_F hI 448 28000 rfl e_30_0)) | (have a4 := (inv_F hI 448 28000 rfl e_30_0); unfold In at a4)); (first | have a5 := in_u ((inv_F hI 0 32 rfl e_2_1)) | (have a5 := (inv_F hI 0 32 rfl e_2_1); unfold In at a5)); (first | have a6 := in_u i34x10 | (have a6 := i34x10; unfold In at a6)); (first | have a7 := in_u i57x9 | (have a7 := i57x9; unfold In at a7)); (first | have a8 := in_u i69a | (have a8 := i69a; unfold In at a8)))); have oc := oc_215_0; omega, (by first | (rw [if_pos (by (first | have a0 := oa9 i16x5x11 i16x1 i8x9 i8x9a ((inv_F hI 448 28000 rfl e_30_0)) ((inv_F hI 0 32 rfl e_2_1)) i34x10 i57x9 i69a | ((first | have a0 := in_u i16x5x11 | (have a0 := i16x5x11; unfold In at a0)); (first | have a1 := in_u i16x1 | (have a1 := i16x1; unfold In at a1)); (first | have a2 := in_u i8x9 | (have a2 := i8x9; unfold In at a2)); (first | have a3 := in_u i8x9a | (have a3 := i8x9a; unfold In at a3)); (first | have a4 := in_u ((inv_F hI 448 28000 rfl e_30_0)) | (have a4 := (inv_F hI 448 28000 rfl e_30_0); unfold In at a4)); (first | have a5 := in_u ((inv_F hI 0 32 rfl e_2_1)) | (have a5 := (inv_F hI 0 32 rfl e_2_1); unfold In at a5)); (first | have a6 := in_u i34x10 | (have a6 := i34x10; unfold In at a6)); (first | have a7 := in_u i57x9 | (have a7 := i57x9; unfold In at a7)); (first | have a8 := in_u i69a | (have a8 := i69a; unfold In at a8)))); have oc := oc_215_0; omega)]; exact e57x9) | (rw [if_neg (by (first | have a0 := oa9 i16x5x11 i16x1 i8x9 i8x9a ((inv_F hI 448 28000 rfl e_30_0)) ((inv_F hI 0 32 rfl e_2_1)) i34x10 i57x9 i69a | ((first | have a0 := in_u i16x5x11 | (have a0 := i16x5x11; unfold In at a0)); (first | have a1 := in_u i16x1 | (have a1 := i16x1; unfold In at a1)); (first | have a2 := in_u i8x9 | (have a2 := i8x9; unfold In at a2)); (first | have a3 := in_u i8x9a | (have a3 := i8x9a; unfold In at a3)); (first | have a4 := in_u ((inv_F hI 448 28000 rfl e_30_0)) | (have a4 := (inv_F hI 448 28000 rfl e_30_0); unfold In at a4)); (first | have a5 := in_u ((inv_F hI 0 32 rfl e_2_1)) | (have a5 := (inv_F hI 0 32 rfl e_2_1); unfold In at a5)); (first | have a6 := in_u i34x10 | (have a6 := i34x10; unfold In at a6)); (first | have a7 := in_u i57x9 | (have a7 := i57x9; unfold In at a7)); (first | have a8 := in_u i69a | (have a8 := i69a; unfold In at a8)))); have oc := oc_215_0; omega), if_pos (by (first | have a0 := oa9 i16x5x11 i16x1 i8x9 i8x9a ((inv_F hI 448 28000 rfl e_30_0)) ((inv_F hI 0 32 rfl e_2_1)) i34x10 i57x9 i69a | ((first | have a0 := in_u i16x5x11 | (have a0 := i16x5x11; unfold In at a0)); (first | have a1 := in_u i16x1 | (have a1 := i16x1; unfold In at a1)); (first | have a2 := in_u i8x9 | (have a2 := i8x9; unfold In at a2)); (first | have a3 := in_u i8x9a | (have a3 := i8x9a; unfold In at a3)); (first | have a4 := in_u ((inv_F hI 448 28000 rfl e_30_0)) | (have a4 := (inv_F hI 448 28000 rfl e_30_0); unfold In at a4)); (first | have a5 := in_u ((inv_F hI 0 32 rfl e_2_1)) | (have a5 := (inv_F hI 0 32 rfl e_2_1); unfold In at a5)); (first | have a6 := in_u i34x10 | (have a6 := i34x10; unfold In at a6)); (first | have a7 := in_u i57x9 | (have a7 := i57x9; unfold In at a7)); (first | have a8 := in_u i69a | (have a8 := i69a; unfold In at a8)))); have oc := oc_215_0; omega)]; exact e57x21) | (rw [if_neg (by (first | have a0 := oa9 i16x5x11 i16x1 i8x9 i8x9a ((inv_F hI 448 28000 rfl e_30_0)) ((inv_F hI 0 32 rfl e_2_1)) i34x10 i57x9 i69a | ((first | have a0 := in_u i16x5x11 | (have a0 := i16x5x11; unfold In at a0)); (first | have a1 := in_u i16x1 | (have a1 := i16x1; unfold In at a1)); (first | have a2 := in_u i8x9 | (have a2 := i8x9; unfold In at a2)); (first | have a3 := in_u i8x9a | (have a3 := i8x9a; unfold In at a3)); (first | have a4 := in_u ((inv_F hI 448 28000 rfl e_30_0)) | (have a4 := (inv_F hI 448 28000 rfl e_30_0); unfold In at a4)); (first | have a5 := in_u ((inv_F hI 0 32 rfl e_2_1)) | (have a5 := (inv_F hI 0 32 rfl e_2_1); unfold In at a5)); (first | have a6 := in_u i34x10 | (have a6 := i34x10; unfold In at a6)); (first | have a7 := in_u i57x9 | (have a7 := i57x9; unfold In at a7)); (first | have a8 := in_u i69a | (have a8 := i69a; unfold In at a8)))); have oc := oc_215_0; omega), if_neg (by (first | have a0 := oa9 i16x5x11 i16x1 i8x9 i8x9a ((inv_F hI 448 28000 rfl e_30_0)) ((inv_F hI 0 32 rfl e_2_1)) i34x10 i57x9 i69a | ((first | have a0 := in_u i16x5x11 | (have a0 := i16x5x11; unfold In at a0)); (first | have a1 := in_u i16x1 | (have a1 := i16x1; unfold In at a1)); (first | have a2 := in_u i8x9 | (have a2 := i8x9; unfold In at a2)); (first | have a3 := in_u i8x9a | (have a3 := i8x9a; unfold In at a3)); (first | have a4 := in_u ((inv_F hI 448 28000 rfl e_30_0)) | (have a4 := (inv_F hI 448 28000 rfl e_30_0); unfold In at a4)); (first | have a5 := in_u ((inv_F hI 0 32 rfl e_2_1)) | (have a5 := (inv_F hI 0 32 rfl e_2_1); unfold In at a5)); (first | have a6 := in_u i34x10 | (have a6 := i34x10; unfold In at a6)); (first | have a7 := in_u i57x9 | (have a7 := i57x9; unfold In at a7)); (first | have a8 := in_u i69a | (have a8 := i69a; unfold In at a8)))); have oc := oc_215_0; omega)]; exact e57x30)), p69g⟩
                            have n74b : TQ s69 := by exact p69h q_1
                            have n74c : ∀ k : Nat, (k : Int) < 7 * (s.2.2.1 2 0).toInt → s69.1 30 k = s.1 30 k := by exact p69f
                            have n74d : s69.1 30 (7 * (s.2.2.1 2 0).toInt.toNat) = (Int32.ofInt 3) ∧ s69.1 30 (7 * (s.2.2.1 2 0).toInt.toNat + 1) = x1 ∧ s69.1 30 (7 * (s.2.2.1 2 0).toInt.toNat + 2) = x2 ∧ s69.1 30 (7 * (s.2.2.1 2 0).toInt.toNat + 3) = x3 := by exact p69i
                            exact g_ireturn (gd rfl) rfl rfl (hP _ _ ⟨a69, s69, hI69, (fr_tr rfl fr_rf hF69), z57x9, rfl, rfl, in_w (-1000000) 1000000 i57x9 rfl, n74, n74a, n74b, n74c, n74d⟩)
                        · skip
                          exact zn_eq c45 (in_c 1 rfl) rfl
                    · skip
                      have i34x10 := r_le2 4000 4000 c34x10 (in_c 4000 rfl) (inv_F hI 0 4000 rfl e_2_0) rfl
                      refine g_iconst 1 14 (gd rfl) rfl rfl ?_
                      refine g_goto 18 (gd rfl) rfl ?_
                      refine g_ireturn (gd rfl) rfl (nb01 (in_w 0 1 (in_c 1 rfl) rfl)) (hp34 _ _ ?_)
                      show GG _ _ _ _ _ _ _ _ [.int (Int32.ofInt 1)] _ _ _
                      refine g_if_ne 40 44 (gd rfl) rfl rfl (fun c37 => ?_) (fun c37 => ?_)
                      · skip
                        refine g_iconst 0 45 (gd rfl) rfl rfl ?_
                        refine g_thr (E := am_IS) (y := yX11_ready) 48 (gd rfl) rfl rfl (Or.inr ⟨rfl, rfl, rfl⟩) (by first | exact dq1 hd rfl | exact dq0 hd rfl | exact dq2 hd rfl | exact dq3 hd rfl | omega) (Nat.le_of_ble_eq_true rfl) (Nat.le_of_ble_eq_true rfl) (Nat.le_of_ble_eq_true rfl) (fun c45 => ?_) (fun c45 => ?_)
                        · skip
                          exact zn_ne c45 (in_c 0 rfl) rfl
                        · skip
                          have n45 : (HAC s x1 ∧ GVL x2 x3) ∧ ¬ (s.2.2.1 2 0).toInt ≤ 3999 := by refine ⟨⟨⟨by (first | have a0 := oa7 i16x5x11 i16x1 i8x9 i8x9a ((inv_F hI 448 28000 rfl e_30_0)) ((inv_F hI 0 32 rfl e_2_1)) i34x10 | ((first | have a0 := in_u i16x5x11 | (have a0 := i16x5x11; unfold In at a0)); (first | have a1 := in_u i16x1 | (have a1 := i16x1; unfold In at a1)); (first | have a2 := in_u i8x9 | (have a2 := i8x9; unfold In at a2)); (first | have a3 := in_u i8x9a | (have a3 := i8x9a; unfold In at a3)); (first | have a4 := in_u ((inv_F hI 448 28000 rfl e_30_0)) | (have a4 := (inv_F hI 448 28000 rfl e_30_0); unfold In at a4)); (first | have a5 := in_u ((inv_F hI 0 32 rfl e_2_1)) | (have a5 := (inv_F hI 0 32 rfl e_2_1); unfold In at a5)); (first | have a6 := in_u i34x10 | (have a6 := i34x10; unfold In at a6)))); have oc := oc_215_0; omega, by (first | have a0 := oa7 i16x5x11 i16x1 i8x9 i8x9a ((inv_F hI 448 28000 rfl e_30_0)) ((inv_F hI 0 32 rfl e_2_1)) i34x10 | ((first | have a0 := in_u i16x5x11 | (have a0 := i16x5x11; unfold In at a0)); (first | have a1 := in_u i16x1 | (have a1 := i16x1; unfold In at a1)); (first | have a2 := in_u i8x9 | (have a2 := i8x9; unfold In at a2)); (first | have a3 := in_u i8x9a | (have a3 := i8x9a; unfold In at a3)); (first | have a4 := in_u ((inv_F hI 448 28000 rfl e_30_0)) | (have a4 := (inv_F hI 448 28000 rfl e_30_0); unfold In at a4)); (first | have a5 := in_u ((inv_F hI 0 32 rfl e_2_1)) | (have a5 := (inv_F hI 0 32 rfl e_2_1); unfold In at a5)); (first | have a6 := in_u i34x10 | (have a6 := i34x10; unfold In at a6)))); have oc := oc_215_0; omega, by rw [← e8x17]; (first | have a0 := oa7 i16x5x11 i16x1 i8x9 i8x9a ((inv_F hI 448 28000 rfl e_30_0)) ((inv_F hI 0 32 rfl e_2_1)) i34x10 | ((first | have a0 := in_u i16x5x11 | (have a0 := i16x5x11; unfold In at a0)); (first | have a1 := in_u i16x1 | (have a1 := i16x1; unfold In at a1)); (first | have a2 := in_u i8x9 | (have a2 := i8x9; unfold In at a2)); (first | have a3 := in_u i8x9a | (have a3 := i8x9a; unfold In at a3)); (first | have a4 := in_u ((inv_F hI 448 28000 rfl e_30_0)) | (have a4 := (inv_F hI 448 28000 rfl e_30_0); unfold In at a4)); (first | have a5 := in_u ((inv_F hI 0 32 rfl e_2_1)) | (have a5 := (inv_F hI 0 32 rfl e_2_1); unfold In at a5)); (first | have a6 := in_u i34x10 | (have a6 := i34x10; unfold In at a6)))); have oc := oc_215_0; omega⟩, (by unfold GVL In; (first | have a0 := oa7 i16x5x11 i16x1 i8x9 i8x9a ((inv_F hI 448 28000 rfl e_30_0)) ((inv_F hI 0 32 rfl e_2_1)) i34x10 | ((first | have a0 := in_u i16x5x11 | (have a0 := i16x5x11; unfold In at a0)); (first | have a1 := in_u i16x1 | (have a1 := i16x1; unfold In at a1)); (first | have a2 := in_u i8x9 | (have a2 := i8x9; unfold In at a2)); (first | have a3 := in_u i8x9a | (have a3 := i8x9a; unfold In at a3)); (first | have a4 := in_u ((inv_F hI 448 28000 rfl e_30_0)) | (have a4 := (inv_F hI 448 28000 rfl e_30_0); unfold In at a4)); (first | have a5 := in_u ((inv_F hI 0 32 rfl e_2_1)) | (have a5 := (inv_F hI 0 32 rfl e_2_1); unfold In at a5)); (first | have a6 := in_u i34x10 | (have a6 := i34x10; unfold In at a6)))); have oc := oc_215_0; omega)⟩, ?_⟩; rw [← e_2_0]; (first | have a0 := oa7 i16x5x11 i16x1 i8x9 i8x9a ((inv_F hI 448 28000 rfl e_30_0)) ((inv_F hI 0 32 rfl e_2_1)) i34x10 | ((first | have a0 := in_u i16x5x11 | (have a0 := i16x5x11; unfold In at a0)); (first | have a1 := in_u i16x1 | (have a1 := i16x1; unfold In at a1)); (first | have a2 := in_u i8x9 | (have a2 := i8x9; unfold In at a2)); (first | have a3 := in_u i8x9a | (have a3 := i8x9a; unfold In at a3)); (first | have a4 := in_u ((inv_F hI 448 28000 rfl e_30_0)) | (have a4 := (inv_F hI 448 28000 rfl e_30_0); unfold In at a4)); (first | have a5 := in_u ((inv_F hI 0 32 rfl e_2_1)) | (have a5 := (inv_F hI 0 32 rfl e_2_1); unfold In at a5)); (first | have a6 := in_u i34x10 | (have a6 := i34x10; unfold In at a6)))); have oc := oc_215_0; omega
                          exact (hX _ _ ⟨Or.inr ⟨rfl, n45⟩, s, hI, fr_rf, rfl⟩)
                      · skip
                        exact zn_eq c37 (in_c 1 rfl) rfl
                  · skip
                    exact zn_eq c27 (in_c 1 rfl) rfl

theorem oc_216_0 : (Int32.ofInt (-1)).toInt = (-1) ∧ (Int32.ofInt 0).toInt = 0 ∧ (Int32.ofInt 1).toInt = 1 ∧ (Int32.ofInt 26).toInt = 26 ∧ (Int32.ofInt 4000).toInt = 4000 := ⟨rfl, rfl, rfl, rfl, rfl⟩
/-- GraphHouse.label -/
theorem f_216_0 {Z : AmZ} {A : Nat → Nat} {s : GS} {ex : va_W} {d : Nat} {x1 : Int32} {x2 : Int32} {u_2_0 : Int32} {u_2_1 : Int32} {u_30_0 : Int32} (hd : 8 ≤ d) (hI : Inv s) (e_2_0 : u_2_0 = s.2.2.1 2 0) (e_2_1 : u_2_1 = s.2.2.1 2 1) (e_30_0 : u_30_0 = s.2.2.1 30 0) (q_0 : KL s) : GC Z d 216 [.ref (A 0), .int x1, .int x2] (WW Z A s ++ ex) 4 28018 (fun v u => ∃ a : Nat, ∃ t : GS, Inv t ∧ Fr fm_216_0 s t ∧ ∃ z : Int32, v = some (.int z) ∧ u = WW Z (ax A 30 a) t ++ ex ∧ In z 0 25 ∧ (KL t) ∧ ((HNC s x1 ∧ In x2 0 25) ∧ (s.2.2.1 2 0).toInt ≤ 3999 ∧ (z) = s.1 3 (x1).toNatClampNeg ∧ gvC t = gqL (gvC s) (x1).toNatClampNeg x2) ∧ (TQ s → TQ t) ∧ (∀ k : Nat, (k : Int) < 7 * (s.2.2.1 2 0).toInt → t.1 30 k = s.1 30 k) ∧ (t.1 30 (7 * (s.2.2.1 2 0).toInt.toNat) = (Int32.ofInt 4) ∧ t.1 30 (7 * (s.2.2.1 2 0).toInt.toNat + 1) = x1 ∧ t.1 30 (7 * (s.2.2.1 2 0).toInt.toNat + 2) = x2 ∧ t.1 30 (7 * (s.2.2.1 2 0).toInt.toNat + 3) = (Int32.ofInt 0))) (gEx Z A ex ([], [], [], []) s (¬ (HNC s x1 ∧ In x2 0 25)) ((HNC s x1 ∧ In x2 0 25) ∧ ¬ (s.2.2.1 2 0).toInt ≤ 3999)) := by
  intro post xp hP hX
  refine g_enter2 (k := 216) (N := 900) (by first | exact dq1 hd rfl | exact dq0 hd rfl | exact dq2 hd rfl | exact dq3 hd rfl | omega) rfl (Nat.le_of_ble_eq_true rfl) ?_
  refine g_aload_n 1 (gd rfl) rfl rfl ?_
  refine g_getA (q2 := 1) 4 (gd rfl) rfl rfl rfl rfl ?_
  refine g_getA (q2 := 2) 7 (gd rfl) rfl rfl rfl rfl ?_
  refine g_iload_n 8 (gd rfl) rfl rfl ?_
  refine g_callv (X := _) (As := [.int x1]) (r := []) (b := A 2) (q := 2) 11 (gd rfl) rfl rfl rfl rfl rfl (ww_o rfl) (Nat.le_of_ble_eq_true rfl) (mc := 0) (ms := 0) (Nat.zero_le _) (Nat.zero_le _) (P := fun v u => _) ?_ (fun e u h => h) (fun v u h => h)
  intro po8 xx8 hp8 hx8
  refine g_enter2 (k := 94) (N := 300) (by first | exact dq1 hd rfl | exact dq0 hd rfl | exact dq2 hd rfl | exact dq3 hd rfl | omega) rfl (Nat.le_of_ble_eq_true rfl) ?_
  refine g_iload_n 1 (gd rfl) rfl rfl ?_
  refine g_if_lt 4 16 (gd rfl) rfl rfl (fun c8x1 => ?_) (fun c8x1 => ?_)
  · skip
    have i8x1 := z_lt (-2147483648) (-1) c8x1 (i_rng x1) rfl
    refine g_iconst 0 17 (gd rfl) rfl rfl ?_
    refine g_ireturn (gd rfl) rfl (nb01 (in_w 0 1 (in_c 0 rfl) rfl)) (hp8 _ _ ?_)
    show GG _ _ _ _ _ _ _ _ [.int (Int32.ofInt 0)] _ _ _
    refine g_if_eq 14 25 (gd rfl) rfl rfl (fun c11 => ?_) (fun c11 => ?_)
    · skip
      refine g_iconst 0 26 (gd rfl) rfl rfl ?_
      refine g_thr (E := am_IA) (y := yX11_allow) 29 (gd rfl) rfl rfl (Or.inl ⟨rfl, rfl, rfl⟩) (by first | exact dq1 hd rfl | exact dq0 hd rfl | exact dq2 hd rfl | exact dq3 hd rfl | omega) (Nat.le_of_ble_eq_true rfl) (Nat.le_of_ble_eq_true rfl) (Nat.le_of_ble_eq_true rfl) (fun c26 => ?_) (fun c26 => ?_)
      · skip
        exact zn_ne c26 (in_c 0 rfl) rfl
      · skip
        have n26 : ¬ (HNC s x1 ∧ In x2 0 25) := by unfold HNC In; rw [← e_2_1]; (first | have a0 := oa4 ((inv_F hI 448 28000 rfl e_30_0)) ((inv_F hI 0 32 rfl e_2_1)) ((inv_F hI 0 4000 rfl e_2_0)) i8x1 | ((first | have a0 := in_u ((inv_F hI 448 28000 rfl e_30_0)) | (have a0 := (inv_F hI 448 28000 rfl e_30_0); unfold In at a0)); (first | have a1 := in_u ((inv_F hI 0 32 rfl e_2_1)) | (have a1 := (inv_F hI 0 32 rfl e_2_1); unfold In at a1)); (first | have a2 := in_u ((inv_F hI 0 4000 rfl e_2_0)) | (have a2 := (inv_F hI 0 4000 rfl e_2_0); unfold In at a2)); (first | have a3 := in_u i8x1 | (have a3 := i8x1; unfold In at a3)))); have oc := oc_216_0; omega
        exact (hX _ _ ⟨Or.inl ⟨rfl, n26⟩, s, hI, fr_rf, rfl⟩)
    · skip
      exact zn_ne c11 (in_c 0 rfl) rfl
  · skip
    have i8x1 := z_ge 0 2147483647 c8x1 (i_rng x1) rfl
    refine g_iload_n 5 (gd rfl) rfl rfl ?_
    refine g_aload_n 6 (gd rfl) rfl rfl ?_
    refine g_getI 9 (gd rfl) rfl rfl rfl (fun z8x6 e8x6 => ?_)
    have q8x6 : u_2_1 = z8x6 := (e_2_1).trans e8x6.symm
    subst q8x6
    refine g_cmp_ge 12 16 (gd rfl) rfl rfl (fun c8x9 => ?_) (fun c8x9 => ?_)
    · skip
      refine g_iconst 0 17 (gd rfl) rfl rfl ?_
      refine g_ireturn (gd rfl) rfl (nb01 (in_w 0 1 (in_c 0 rfl) rfl)) (hp8 _ _ ?_)
      show GG _ _ _ _ _ _ _ _ [.int (Int32.ofInt 0)] _ _ _
      refine g_if_eq 14 25 (gd rfl) rfl rfl (fun c11 => ?_) (fun c11 => ?_)
      · skip
        refine g_iconst 0 26 (gd rfl) rfl rfl ?_
        refine g_thr (E := am_IA) (y := yX11_allow) 29 (gd rfl) rfl rfl (Or.inl ⟨rfl, rfl, rfl⟩) (by first | exact dq1 hd rfl | exact dq0 hd rfl | exact dq2 hd rfl | exact dq3 hd rfl | omega) (Nat.le_of_ble_eq_true rfl) (Nat.le_of_ble_eq_true rfl) (Nat.le_of_ble_eq_true rfl) (fun c26 => ?_) (fun c26 => ?_)
        · skip
          exact zn_ne c26 (in_c 0 rfl) rfl
        · skip
          have n26 : ¬ (HNC s x1 ∧ In x2 0 25) := by unfold HNC In; rw [← e_2_1]; (first | have a0 := oa4 ((inv_F hI 448 28000 rfl e_30_0)) ((inv_F hI 0 32 rfl e_2_1)) ((inv_F hI 0 4000 rfl e_2_0)) i8x1 | ((first | have a0 := in_u ((inv_F hI 448 28000 rfl e_30_0)) | (have a0 := (inv_F hI 448 28000 rfl e_30_0); unfold In at a0)); (first | have a1 := in_u ((inv_F hI 0 32 rfl e_2_1)) | (have a1 := (inv_F hI 0 32 rfl e_2_1); unfold In at a1)); (first | have a2 := in_u ((inv_F hI 0 4000 rfl e_2_0)) | (have a2 := (inv_F hI 0 4000 rfl e_2_0); unfold In at a2)); (first | have a3 := in_u i8x1 | (have a3 := i8x1; unfold In at a3)))); have oc := oc_216_0; omega
          exact (hX _ _ ⟨Or.inl ⟨rfl, n26⟩, s, hI, fr_rf, rfl⟩)
      · skip
        exact zn_ne c11 (in_c 0 rfl) rfl
    · skip
      have i8x9 := r_lt1 0 31 c8x9 i8x1 (inv_F hI 0 32 rfl e_2_1) rfl
      have i8x9a := r_lt2 1 32 c8x9 i8x1 (inv_F hI 0 32 rfl e_2_1) rfl
      refine g_iconst 1 13 (gd rfl) rfl rfl ?_
      refine g_goto 17 (gd rfl) rfl ?_
      refine g_ireturn (gd rfl) rfl (nb01 (in_w 0 1 (in_c 1 rfl) rfl)) (hp8 _ _ ?_)
      show GG _ _ _ _ _ _ _ _ [.int (Int32.ofInt 1)] _ _ _
      refine g_if_eq 14 25 (gd rfl) rfl rfl (fun c11 => ?_) (fun c11 => ?_)
      · skip
        exact zn_eq c11 (in_c 1 rfl) rfl
      · skip
        refine g_iload_n 15 (gd rfl) rfl rfl ?_
        refine g_calls (As := [.int x2]) (r := []) 18 (gd rfl) rfl rfl rfl rfl rfl (Nat.le_of_ble_eq_true rfl) (mc := 0) (ms := 0) (Nat.zero_le _) (Nat.zero_le _) (P := fun v u => _) ?_ (fun v u h => h)
        intro po15 xx15 hp15 hx15
        refine g_enter2 (k := 260) (N := 300) (by first | exact dq1 hd rfl | exact dq0 hd rfl | exact dq2 hd rfl | exact dq3 hd rfl | omega) rfl (Nat.le_of_ble_eq_true rfl) ?_
        refine g_iload_n 1 (gd rfl) rfl rfl ?_
        refine g_if_lt 4 14 (gd rfl) rfl rfl (fun c15x1 => ?_) (fun c15x1 => ?_)
        · skip
          have i15x1 := z_lt (-2147483648) (-1) c15x1 (i_rng x2) rfl
          refine g_iconst 0 15 (gd rfl) rfl rfl ?_
          refine g_ireturn (gd rfl) rfl (nb01 (in_w 0 1 (in_c 0 rfl) rfl)) (hp15 _ _ ?_)
          show GG _ _ _ _ _ _ _ _ [.int (Int32.ofInt 0)] _ _ _
          refine g_if_eq 21 25 (gd rfl) rfl rfl (fun c18 => ?_) (fun c18 => ?_)
          · skip
            refine g_iconst 0 26 (gd rfl) rfl rfl ?_
            refine g_thr (E := am_IA) (y := yX11_allow) 29 (gd rfl) rfl rfl (Or.inl ⟨rfl, rfl, rfl⟩) (by first | exact dq1 hd rfl | exact dq0 hd rfl | exact dq2 hd rfl | exact dq3 hd rfl | omega) (Nat.le_of_ble_eq_true rfl) (Nat.le_of_ble_eq_true rfl) (Nat.le_of_ble_eq_true rfl) (fun c26 => ?_) (fun c26 => ?_)
            · skip
              exact zn_ne c26 (in_c 0 rfl) rfl
            · skip
              have n26 : ¬ (HNC s x1 ∧ In x2 0 25) := by unfold HNC In; rw [← e_2_1]; (first | have a0 := oa5 i8x9 ((inv_F hI 448 28000 rfl e_30_0)) i8x9a ((inv_F hI 0 4000 rfl e_2_0)) i15x1 | ((first | have a0 := in_u i8x9 | (have a0 := i8x9; unfold In at a0)); (first | have a1 := in_u ((inv_F hI 448 28000 rfl e_30_0)) | (have a1 := (inv_F hI 448 28000 rfl e_30_0); unfold In at a1)); (first | have a2 := in_u i8x9a | (have a2 := i8x9a; unfold In at a2)); (first | have a3 := in_u ((inv_F hI 0 4000 rfl e_2_0)) | (have a3 := (inv_F hI 0 4000 rfl e_2_0); unfold In at a3)); (first | have a4 := in_u i15x1 | (have a4 := i15x1; unfold In at a4)))); have oc := oc_216_0; omega
              exact (hX _ _ ⟨Or.inl ⟨rfl, n26⟩, s, hI, fr_rf, rfl⟩)
          · skip
            exact zn_ne c18 (in_c 0 rfl) rfl
        · skip
          have i15x1 := z_ge 0 2147483647 c15x1 (i_rng x2) rfl
          refine g_iload_n 5 (gd rfl) rfl rfl ?_
          refine g_bipush 26 7 (gd rfl) rfl rfl ?_
          refine g_cmp_ge 10 14 (gd rfl) rfl rfl (fun c15x7 => ?_) (fun c15x7 => ?_)
          · skip
            have i15x7 := r_le2 26 2147483647 c15x7 (in_c 26 rfl) i15x1 rfl
            refine g_iconst 0 15 (gd rfl) rfl rfl ?_
            refine g_ireturn (gd rfl) rfl (nb01 (in_w 0 1 (in_c 0 rfl) rfl)) (hp15 _ _ ?_)
            show GG _ _ _ _ _ _ _ _ [.int (Int32.ofInt 0)] _ _ _
            refine g_if_eq 21 25 (gd rfl) rfl rfl (fun c18 => ?_) (fun c18 => ?_)
            · skip
              refine g_iconst 0 26 (gd rfl) rfl rfl ?_
              refine g_thr (E := am_IA) (y := yX11_allow) 29 (gd rfl) rfl rfl (Or.inl ⟨rfl, rfl, rfl⟩) (by first | exact dq1 hd rfl | exact dq0 hd rfl | exact dq2 hd rfl | exact dq3 hd rfl | omega) (Nat.le_of_ble_eq_true rfl) (Nat.le_of_ble_eq_true rfl) (Nat.le_of_ble_eq_true rfl) (fun c26 => ?_) (fun c26 => ?_)
              · skip
                exact zn_ne c26 (in_c 0 rfl) rfl
              · skip
                have n26 : ¬ (HNC s x1 ∧ In x2 0 25) := by unfold HNC In; rw [← e_2_1]; (first | have a0 := oa5 i8x9 ((inv_F hI 448 28000 rfl e_30_0)) i8x9a ((inv_F hI 0 4000 rfl e_2_0)) i15x7 | ((first | have a0 := in_u i8x9 | (have a0 := i8x9; unfold In at a0)); (first | have a1 := in_u ((inv_F hI 448 28000 rfl e_30_0)) | (have a1 := (inv_F hI 448 28000 rfl e_30_0); unfold In at a1)); (first | have a2 := in_u i8x9a | (have a2 := i8x9a; unfold In at a2)); (first | have a3 := in_u ((inv_F hI 0 4000 rfl e_2_0)) | (have a3 := (inv_F hI 0 4000 rfl e_2_0); unfold In at a3)); (first | have a4 := in_u i15x7 | (have a4 := i15x7; unfold In at a4)))); have oc := oc_216_0; omega
                exact (hX _ _ ⟨Or.inl ⟨rfl, n26⟩, s, hI, fr_rf, rfl⟩)
            · skip
              exact zn_ne c18 (in_c 0 rfl) rfl
          · skip
            have i15x7 := r_lt1 0 25 c15x7 i15x1 (in_c 26 rfl) rfl
            refine g_iconst 1 11 (gd rfl) rfl rfl ?_
            refine g_goto 15 (gd rfl) rfl ?_
            refine g_ireturn (gd rfl) rfl (nb01 (in_w 0 1 (in_c 1 rfl) rfl)) (hp15 _ _ ?_)
            show GG _ _ _ _ _ _ _ _ [.int (Int32.ofInt 1)] _ _ _
            refine g_if_eq 21 25 (gd rfl) rfl rfl (fun c18 => ?_) (fun c18 => ?_)
            · skip
              exact zn_eq c18 (in_c 1 rfl) rfl
            · skip
              refine g_iconst 1 22 (gd rfl) rfl rfl ?_
              refine g_goto 26 (gd rfl) rfl ?_
              refine g_thr (E := am_IA) (y := yX11_allow) 29 (gd rfl) rfl rfl (Or.inl ⟨rfl, rfl, rfl⟩) (by first | exact dq1 hd rfl | exact dq0 hd rfl | exact dq2 hd rfl | exact dq3 hd rfl | omega) (Nat.le_of_ble_eq_true rfl) (Nat.le_of_ble_eq_true rfl) (Nat.le_of_ble_eq_true rfl) (fun c26 => ?_) (fun c26 => ?_)
              · skip
                refine g_aload_n 30 (gd rfl) rfl rfl ?_
                refine g_getA (q2 := 1) 33 (gd rfl) rfl rfl rfl rfl ?_
                refine g_callv (X := _) (As := []) (r := []) (b := A 1) (q := 1) 36 (gd rfl) rfl rfl rfl rfl rfl (ww_o rfl) (Nat.le_of_ble_eq_true rfl) (mc := 0) (ms := 0) (Nat.zero_le _) (Nat.zero_le _) (P := fun v u => _) ?_ (fun e u h => h) (fun v u h => h)
                intro po33 xx33 hp33 hx33
                refine g_enter2 (k := 122) (N := 300) (by first | exact dq1 hd rfl | exact dq0 hd rfl | exact dq2 hd rfl | exact dq3 hd rfl | omega) rfl (Nat.le_of_ble_eq_true rfl) ?_
                refine g_aload_n 1 (gd rfl) rfl rfl ?_
                refine g_getA (q2 := 2) 4 (gd rfl) rfl rfl rfl rfl ?_
                refine g_getI 7 (gd rfl) rfl rfl rfl (fun z33x4 e33x4 => ?_)
                have q33x4 : u_2_0 = z33x4 := (e_2_0).trans e33x4.symm
                subst q33x4
                refine g_sipush 4000 10 (gd rfl) rfl rfl ?_
                refine g_cmp_lt 13 17 (gd rfl) rfl rfl (fun c33x10 => ?_) (fun c33x10 => ?_)
                · skip
                  have i33x10 := r_lt1 0 3999 c33x10 (inv_F hI 0 4000 rfl e_2_0) (in_c 4000 rfl) rfl
                  refine g_iconst 0 18 (gd rfl) rfl rfl ?_
                  refine g_ireturn (gd rfl) rfl (nb01 (in_w 0 1 (in_c 0 rfl) rfl)) (hp33 _ _ ?_)
                  show GG _ _ _ _ _ _ _ _ [.int (Int32.ofInt 0)] _ _ _
                  refine g_if_ne 39 43 (gd rfl) rfl rfl (fun c36 => ?_) (fun c36 => ?_)
                  · skip
                    exact zn_ne c36 (in_c 0 rfl) rfl
                  · skip
                    refine g_iconst 1 40 (gd rfl) rfl rfl ?_
                    refine g_goto 44 (gd rfl) rfl ?_
                    refine g_thr (E := am_IS) (y := yX11_ready) 47 (gd rfl) rfl rfl (Or.inr ⟨rfl, rfl, rfl⟩) (by first | exact dq1 hd rfl | exact dq0 hd rfl | exact dq2 hd rfl | exact dq3 hd rfl | omega) (Nat.le_of_ble_eq_true rfl) (Nat.le_of_ble_eq_true rfl) (Nat.le_of_ble_eq_true rfl) (fun c44 => ?_) (fun c44 => ?_)
                    · skip
                      refine g_aload_n 48 (gd rfl) rfl rfl ?_
                      refine g_getA (q2 := 1) 51 (gd rfl) rfl rfl rfl rfl ?_
                      refine g_getA (q2 := 2) 54 (gd rfl) rfl rfl rfl rfl ?_
                      refine g_getA (q2 := 3) 57 (gd rfl) rfl rfl rfl rfl ?_
                      refine g_iload_n 58 (gd rfl) rfl rfl ?_
                      refine g_iaload 59 (gd rfl) rfl (n := 32) rfl (in_ix i8x9 rfl) (fun z58 e58 => ?_)
                      have i58 := inv_I hI (n := 32) (t := 0) 0 25 rfl (in_ix i8x9 rfl) rfl e58
                      refine g_istore_n 60 (gd rfl) rfl (Nat.le_of_ble_eq_true rfl) ?_
                      refine g_aload_n 61 (gd rfl) rfl rfl ?_
                      refine g_getA (q2 := 1) 64 (gd rfl) rfl rfl rfl rfl ?_
                      refine g_iload_n 65 (gd rfl) rfl rfl ?_
                      refine g_iload_n 66 (gd rfl) rfl rfl ?_
                      have p66 : KL s := by exact q_0
                      refine g_callv (X := _) (As := [.int x1, .int x2]) (r := []) (b := A 1) (q := 1) 69 (gd rfl) rfl rfl rfl rfl rfl (ww_o rfl) (Nat.le_of_ble_eq_true rfl) (Nat.le_trans lgc_le (Nat.le_of_ble_eq_true rfl)) (Nat.le_trans (lsl_le (inv_F hI 448 28000 (q := 30) (j := 0) rfl rfl) (by rw [← (show u_2_0 = s.2.2.1 2 0 from e_2_0)]; exact in_w 0 3999 i33x10 rfl)) (Nat.le_of_ble_eq_true rfl)) (f_128_1 (by first | exact dq1 hd rfl | exact dq0 hd rfl | exact dq2 hd rfl | exact dq3 hd rfl | omega) hI (in_w 0 31 i8x9 rfl) (in_w 0 25 i15x7 rfl) e_2_0 e_2_1 e_30_0 (in_w 0 3999 i33x10 rfl) p66) (fun e u h => h) (fun v u h => ?_)
                      obtain ⟨a66, s66, hI66, hF66, n66, rfl, rfl, p66a, p66b, p66c, p66d, p66e, p66f⟩ := h
                      obtain ⟨z66a, e66⟩ : ∃ w, w = s66.2.2.1 2 0 := ⟨_, rfl⟩
                      have i66a := inv_F hI66 0 4000 rfl e66
                      rw [← (show u_2_0 = s.2.2.1 2 0 from e_2_0)] at n66
                      rw [← (show z66a = s66.2.2.1 2 0 from e66)] at n66
                      show GG _ _ _ _ _ _ _ _ [] _ _ _
                      refine g_iload_n 70 (gd rfl) rfl rfl ?_
                      have n70 : KL s66 := by exact p66a
                      have n70a : (HNC s x1 ∧ In x2 0 25) ∧ (s.2.2.1 2 0).toInt ≤ 3999 ∧ (z58) = s.1 3 (x1).toNatClampNeg ∧ gvC s66 = gqL (gvC s) (x1).toNatClampNeg x2 := by exact ⟨⟨⟨by (first | have a0 := oa7 i15x7 i8x9 ((inv_F hI 448 28000 rfl e_30_0)) i8x9a i33x10 i58 i66a | ((first | have a0 := in_u i15x7 | (have a0 := i15x7; unfold In at a0)); (first | have a1 := in_u i8x9 | (have a1 := i8x9; unfold In at a1)); (first | have a2 := in_u ((inv_F hI 448 28000 rfl e_30_0)) | (have a2 := (inv_F hI 448 28000 rfl e_30_0); unfold In at a2)); (first | have a3 := in_u i8x9a | (have a3 := i8x9a; unfold In at a3)); (first | have a4 := in_u i33x10 | (have a4 := i33x10; unfold In at a4)); (first | have a5 := in_u i58 | (have a5 := i58; unfold In at a5)); (first | have a6 := in_u i66a | (have a6 := i66a; unfold In at a6)))); have oc := oc_216_0; omega, by rw [← e_2_1]; (first | have a0 := oa7 i15x7 i8x9 ((inv_F hI 448 28000 rfl e_30_0)) i8x9a i33x10 i58 i66a | ((first | have a0 := in_u i15x7 | (have a0 := i15x7; unfold In at a0)); (first | have a1 := in_u i8x9 | (have a1 := i8x9; unfold In at a1)); (first | have a2 := in_u ((inv_F hI 448 28000 rfl e_30_0)) | (have a2 := (inv_F hI 448 28000 rfl e_30_0); unfold In at a2)); (first | have a3 := in_u i8x9a | (have a3 := i8x9a; unfold In at a3)); (first | have a4 := in_u i33x10 | (have a4 := i33x10; unfold In at a4)); (first | have a5 := in_u i58 | (have a5 := i58; unfold In at a5)); (first | have a6 := in_u i66a | (have a6 := i66a; unfold In at a6)))); have oc := oc_216_0; omega⟩, ⟨by (first | have a0 := oa7 i15x7 i8x9 ((inv_F hI 448 28000 rfl e_30_0)) i8x9a i33x10 i58 i66a | ((first | have a0 := in_u i15x7 | (have a0 := i15x7; unfold In at a0)); (first | have a1 := in_u i8x9 | (have a1 := i8x9; unfold In at a1)); (first | have a2 := in_u ((inv_F hI 448 28000 rfl e_30_0)) | (have a2 := (inv_F hI 448 28000 rfl e_30_0); unfold In at a2)); (first | have a3 := in_u i8x9a | (have a3 := i8x9a; unfold In at a3)); (first | have a4 := in_u i33x10 | (have a4 := i33x10; unfold In at a4)); (first | have a5 := in_u i58 | (have a5 := i58; unfold In at a5)); (first | have a6 := in_u i66a | (have a6 := i66a; unfold In at a6)))); have oc := oc_216_0; omega, by (first | have a0 := oa7 i15x7 i8x9 ((inv_F hI 448 28000 rfl e_30_0)) i8x9a i33x10 i58 i66a | ((first | have a0 := in_u i15x7 | (have a0 := i15x7; unfold In at a0)); (first | have a1 := in_u i8x9 | (have a1 := i8x9; unfold In at a1)); (first | have a2 := in_u ((inv_F hI 448 28000 rfl e_30_0)) | (have a2 := (inv_F hI 448 28000 rfl e_30_0); unfold In at a2)); (first | have a3 := in_u i8x9a | (have a3 := i8x9a; unfold In at a3)); (first | have a4 := in_u i33x10 | (have a4 := i33x10; unfold In at a4)); (first | have a5 := in_u i58 | (have a5 := i58; unfold In at a5)); (first | have a6 := in_u i66a | (have a6 := i66a; unfold In at a6)))); have oc := oc_216_0; omega⟩⟩, by rw [← e_2_0]; (first | have a0 := oa7 i15x7 i8x9 ((inv_F hI 448 28000 rfl e_30_0)) i8x9a i33x10 i58 i66a | ((first | have a0 := in_u i15x7 | (have a0 := i15x7; unfold In at a0)); (first | have a1 := in_u i8x9 | (have a1 := i8x9; unfold In at a1)); (first | have a2 := in_u ((inv_F hI 448 28000 rfl e_30_0)) | (have a2 := (inv_F hI 448 28000 rfl e_30_0); unfold In at a2)); (first | have a3 := in_u i8x9a | (have a3 := i8x9a; unfold In at a3)); (first | have a4 := in_u i33x10 | (have a4 := i33x10; unfold In at a4)); (first | have a5 := in_u i58 | (have a5 := i58; unfold In at a5)); (first | have a6 := in_u i66a | (have a6 := i66a; unfold In at a6)))); have oc := oc_216_0; omega, e58, p66d⟩
                      have n70b : TQ s → TQ s66 := by exact p66e
                      have n70c : ∀ k : Nat, (k : Int) < 7 * (s.2.2.1 2 0).toInt → s66.1 30 k = s.1 30 k := by exact p66c
                      have n70d : s66.1 30 (7 * (s.2.2.1 2 0).toInt.toNat) = (Int32.ofInt 4) ∧ s66.1 30 (7 * (s.2.2.1 2 0).toInt.toNat + 1) = x1 ∧ s66.1 30 (7 * (s.2.2.1 2 0).toInt.toNat + 2) = x2 ∧ s66.1 30 (7 * (s.2.2.1 2 0).toInt.toNat + 3) = (Int32.ofInt 0) := by exact p66f
                      exact g_ireturn (gd rfl) rfl rfl (hP _ _ ⟨a66, s66, hI66, (fr_tr rfl fr_rf hF66), z58, rfl, rfl, in_w 0 25 i58 rfl, n70, n70a, n70b, n70c, n70d⟩)
                    · skip
                      exact zn_eq c44 (in_c 1 rfl) rfl
                · skip
                  have i33x10 := r_le2 4000 4000 c33x10 (in_c 4000 rfl) (inv_F hI 0 4000 rfl e_2_0) rfl
                  refine g_iconst 1 14 (gd rfl) rfl rfl ?_
                  refine g_goto 18 (gd rfl) rfl ?_
                  refine g_ireturn (gd rfl) rfl (nb01 (in_w 0 1 (in_c 1 rfl) rfl)) (hp33 _ _ ?_)
                  show GG _ _ _ _ _ _ _ _ [.int (Int32.ofInt 1)] _ _ _
                  refine g_if_ne 39 43 (gd rfl) rfl rfl (fun c36 => ?_) (fun c36 => ?_)
                  · skip
                    refine g_iconst 0 44 (gd rfl) rfl rfl ?_
                    refine g_thr (E := am_IS) (y := yX11_ready) 47 (gd rfl) rfl rfl (Or.inr ⟨rfl, rfl, rfl⟩) (by first | exact dq1 hd rfl | exact dq0 hd rfl | exact dq2 hd rfl | exact dq3 hd rfl | omega) (Nat.le_of_ble_eq_true rfl) (Nat.le_of_ble_eq_true rfl) (Nat.le_of_ble_eq_true rfl) (fun c44 => ?_) (fun c44 => ?_)
                    · skip
                      exact zn_ne c44 (in_c 0 rfl) rfl
                    · skip
                      have n44 : (HNC s x1 ∧ In x2 0 25) ∧ ¬ (s.2.2.1 2 0).toInt ≤ 3999 := by refine ⟨⟨⟨by (first | have a0 := oa5 i15x7 i8x9 ((inv_F hI 448 28000 rfl e_30_0)) i8x9a i33x10 | ((first | have a0 := in_u i15x7 | (have a0 := i15x7; unfold In at a0)); (first | have a1 := in_u i8x9 | (have a1 := i8x9; unfold In at a1)); (first | have a2 := in_u ((inv_F hI 448 28000 rfl e_30_0)) | (have a2 := (inv_F hI 448 28000 rfl e_30_0); unfold In at a2)); (first | have a3 := in_u i8x9a | (have a3 := i8x9a; unfold In at a3)); (first | have a4 := in_u i33x10 | (have a4 := i33x10; unfold In at a4)))); have oc := oc_216_0; omega, by rw [← e_2_1]; (first | have a0 := oa5 i15x7 i8x9 ((inv_F hI 448 28000 rfl e_30_0)) i8x9a i33x10 | ((first | have a0 := in_u i15x7 | (have a0 := i15x7; unfold In at a0)); (first | have a1 := in_u i8x9 | (have a1 := i8x9; unfold In at a1)); (first | have a2 := in_u ((inv_F hI 448 28000 rfl e_30_0)) | (have a2 := (inv_F hI 448 28000 rfl e_30_0); unfold In at a2)); (first | have a3 := in_u i8x9a | (have a3 := i8x9a; unfold In at a3)); (first | have a4 := in_u i33x10 | (have a4 := i33x10; unfold In at a4)))); have oc := oc_216_0; omega⟩, ⟨by (first | have a0 := oa5 i15x7 i8x9 ((inv_F hI 448 28000 rfl e_30_0)) i8x9a i33x10 | ((first | have a0 := in_u i15x7 | (have a0 := i15x7; unfold In at a0)); (first | have a1 := in_u i8x9 | (have a1 := i8x9; unfold In at a1)); (first | have a2 := in_u ((inv_F hI 448 28000 rfl e_30_0)) | (have a2 := (inv_F hI 448 28000 rfl e_30_0); unfold In at a2)); (first | have a3 := in_u i8x9a | (have a3 := i8x9a; unfold In at a3)); (first | have a4 := in_u i33x10 | (have a4 := i33x10; unfold In at a4)))); have oc := oc_216_0; omega, by (first | have a0 := oa5 i15x7 i8x9 ((inv_F hI 448 28000 rfl e_30_0)) i8x9a i33x10 | ((first | have a0 := in_u i15x7 | (have a0 := i15x7; unfold In at a0)); (first | have a1 := in_u i8x9 | (have a1 := i8x9; unfold In at a1)); (first | have a2 := in_u ((inv_F hI 448 28000 rfl e_30_0)) | (have a2 := (inv_F hI 448 28000 rfl e_30_0); unfold In at a2)); (first | have a3 := in_u i8x9a | (have a3 := i8x9a; unfold In at a3)); (first | have a4 := in_u i33x10 | (have a4 := i33x10; unfold In at a4)))); have oc := oc_216_0; omega⟩⟩, ?_⟩; rw [← e_2_0]; (first | have a0 := oa5 i15x7 i8x9 ((inv_F hI 448 28000 rfl e_30_0)) i8x9a i33x10 | ((first | have a0 := in_u i15x7 | (have a0 := i15x7; unfold In at a0)); (first | have a1 := in_u i8x9 | (have a1 := i8x9; unfold In at a1)); (first | have a2 := in_u ((inv_F hI 448 28000 rfl e_30_0)) | (have a2 := (inv_F hI 448 28000 rfl e_30_0); unfold In at a2)); (first | have a3 := in_u i8x9a | (have a3 := i8x9a; unfold In at a3)); (first | have a4 := in_u i33x10 | (have a4 := i33x10; unfold In at a4)))); have oc := oc_216_0; omega
                      exact (hX _ _ ⟨Or.inr ⟨rfl, n44⟩, s, hI, fr_rf, rfl⟩)
                  · skip
                    exact zn_eq c36 (in_c 1 rfl) rfl
              · skip
                exact zn_eq c26 (in_c 1 rfl) rfl

/-- GraphHouseModel.apply -/
theorem f_275 {Z : AmZ} {A : Nat → Nat} {s : GS} {ex : va_W} {d : Nat} {X : AmX} {x1 : Int32} {x2 : Int32} (hd : 1 ≤ d) (hI : Rng s) (h1 : In x1 0 3999) (h2 : In x2 0 1) (q_0 : AQ s (x1).toNatClampNeg (x2).toNatClampNeg) : GC Z d 275 [.ref (A 109), .int x1, .int x2] (WW Z A s ++ ex) 0 0 (fun v u => ∃ t : GS, Rng t ∧ Fr fm_275 s t ∧ v = none ∧ u = WW Z A t ++ ex ∧ (AP s t (x1).toNatClampNeg (x2).toNatClampNeg) ∧ (APT s t (x1).toNatClampNeg (x2).toNatClampNeg) ∧ (RP s t (x1).toNatClampNeg (x2).toNatClampNeg)) X := by
  intro post xp hP hX
  refine g_enter2 (k := 275) (N := 900) (by first | exact dq1 hd rfl | exact dq0 hd rfl | exact dq2 hd rfl | exact dq3 hd rfl | omega) rfl (Nat.le_of_ble_eq_true rfl) ?_
  refine g_sipush 160 3 (gd rfl) rfl rfl ?_
  refine g_iload_n 4 (gd rfl) rfl rfl ?_
  refine g_imul 5 (gd rfl) rfl (fun z4 e4 => ?_)
  have i4 := in_mulc 160 0 160 (Or.inl e4) h2 rfl rfl
  refine g_aload_n 6 (gd rfl) rfl rfl ?_
  refine g_getA (q2 := 119) 9 (gd rfl) rfl rfl rfl rfl ?_
  refine g_iload_n 10 (gd rfl) rfl rfl ?_
  refine g_iaload 11 (gd rfl) rfl (n := 4000) rfl (in_ix h1 rfl) (fun z10 e10 => ?_)
  have i10 := rng_I hI (n := 4000) (t := 0) 0 159 rfl (in_ix h1 rfl) rfl e10
  refine g_iadd 12 (gd rfl) rfl (fun z11 e11 => ?_)
  have i11 := in_add 0 319 e11 i4 i10 rfl rfl
  refine g_istore_n 13 (gd rfl) rfl (Nat.le_of_ble_eq_true rfl) ?_
  refine g_aload_n 14 (gd rfl) rfl rfl ?_
  refine g_getA (q2 := 118) 17 (gd rfl) rfl rfl rfl rfl ?_
  refine g_iload_n 18 (gd rfl) rfl rfl ?_
  refine g_iaload 19 (gd rfl) rfl (n := 4000) rfl (in_ix h1 rfl) (fun z18 e18 => ?_)
  have i18 := rng_I hI (n := 4000) (t := 0) 0 4 rfl (in_ix h1 rfl) rfl e18
  refine g_tsw [48, 83, 153, 163] 227 (gd rfl) rfl rfl rfl ⟨fun c19 => ?_, fun c19 => ?_, fun c19 => ?_, fun c19 => ?_, trivial⟩ (fun c19 => ?_)
  · skip
    have i19 := sw_eq c19
    refine g_aload_n 49 (gd rfl) rfl rfl ?_
    refine g_getA (q2 := 111) 52 (gd rfl) rfl rfl rfl rfl ?_
    refine g_bipush 32 54 (gd rfl) rfl rfl ?_
    refine g_iload_n 55 (gd rfl) rfl rfl ?_
    refine g_imul 56 (gd rfl) rfl (fun z55 e55 => ?_)
    have i55 := in_mulc 32 0 32 (Or.inl e55) h2 rfl rfl
    refine g_aload_n 57 (gd rfl) rfl rfl ?_
    refine g_getA (q2 := 110) 60 (gd rfl) rfl rfl rfl rfl ?_
    refine g_iload_n 61 (gd rfl) rfl rfl ?_
    refine g_iaload 62 (gd rfl) rfl (n := 3) rfl (in_ix h2 rfl) (fun z61 e61 => ?_)
    have i62 : In z61 0 31 := by rw [e61]; exact aq_n q_0 (by have hk9 := i19; unfold In at hk9; rw [← e18]; omega)
    refine g_iadd 63 (gd rfl) rfl (fun z62 e62 => ?_)
    have i62a := in_add 0 63 e62 i55 i62 rfl rfl
    refine g_aload_n 64 (gd rfl) rfl rfl ?_
    refine g_getA (q2 := 119) 67 (gd rfl) rfl rfl rfl rfl ?_
    refine g_iload_n 68 (gd rfl) rfl rfl ?_
    refine g_iaload 69 (gd rfl) rfl (n := 4000) rfl (in_ix h1 rfl) (fun z68 e68 => ?_)
    have q68 : z10 = z68 := (e10).trans e68.symm
    subst q68
    have i69 : In z10 0 25 := by refine ⟨i10.1, ?_⟩; rw [e10]; exact q_0.1.1 (by have hk9 := i19; unfold In at hk9; rw [← e18]; omega)
    refine g_iastore 70 (gd rfl) rfl (n := 96) rfl (in_ix i62a rfl) ?_
    have hI69 := rng_sI (q := 111) (j := z62.toNatClampNeg) hI rfl (in_w 0 25 i69 rfl)
    refine g_aload_n 71 (gd rfl) rfl rfl ?_
    refine g_getA (q2 := 110) 74 (gd rfl) rfl rfl rfl rfl ?_
    refine g_iload_n 75 (gd rfl) rfl rfl ?_
    refine g_dup2 76 (gd rfl) rfl rfl rfl ?_
    refine g_iaload 77 (gd rfl) rfl (n := 3) rfl (in_ix h2 rfl) (fun z76 e76 => ?_)
    have q76 : z61 = z76 := (sI_ne rfl (e61)).trans e76.symm
    subst q76
    refine g_iconst 1 78 (gd rfl) rfl rfl ?_
    refine g_iadd 79 (gd rfl) rfl (fun z78 e78 => ?_)
    have i78 := in_add 1 32 e78 i62 (in_c 1 rfl) rfl rfl
    refine g_iastore 80 (gd rfl) rfl (n := 3) rfl (in_ix h2 rfl) ?_
    have hI79 := rng_sI (q := 110) (j := x2.toNatClampNeg) hI69 rfl (in_w (-2147483648) 2147483647 i78 rfl)
    refine g_goto 249 (gd rfl) rfl ?_
    have n249 : AP s (sI (sI s 111 z62.toNatClampNeg z10) 110 x2.toNatClampNeg z78) (x1).toNatClampNeg (x2).toNatClampNeg := by first | exact ap_node q_0 (by have hk9 := i19; unfold In at hk9; rw [← e18]; omega) rfl (by rw [← e61]; exact t_add e78 i62 (in_c 1 rfl) rfl) rfl rfl rfl | exact ap_arc q_0 (by have hk9 := i19; unfold In at hk9; rw [← e18]; omega) rfl rfl (by have h3 := i11; unfold In at h3; have ha := i10; unfold In at ha; have hg := h2; unfold In at hg; have e3 := (t_mulc 160 (Or.inl e4) h2 rfl).1; have e4 := t_add e11 i4 i10 rfl; have e5 : (z11).toNatClampNeg = (z11).toInt.toNat := rfl; have e6 : x2.toNatClampNeg = x2.toInt.toNat := rfl; omega) rfl rfl e100 e112 | exact ap_take q_0 (by have hk9 := i19; unfold In at hk9; rw [← e18]; omega) rfl rfl rfl (by have h3 := i11; unfold In at h3; have ha := i10; unfold In at ha; have hg := h2; unfold In at hg; have e3 := (t_mulc 160 (Or.inl e4) h2 rfl).1; have e4 := t_add e11 i4 i10 rfl; have e5 : (z11).toNatClampNeg = (z11).toInt.toNat := rfl; have e6 : x2.toNatClampNeg = x2.toInt.toNat := rfl; omega) rfl rfl | exact ap_same q_0 (by have hk9 := i18; unfold In at hk9; rw [← e18]; omega) rfl rfl rfl rfl
    have n249a : APT s (sI (sI s 111 z62.toNatClampNeg z10) 110 x2.toNatClampNeg z78) (x1).toNatClampNeg (x2).toNatClampNeg := by exact apt_3 (by have hk9 := i19; unfold In at hk9; rw [← e18]; omega) (by have hk9 := i19; unfold In at hk9; rw [← e18]; omega) rfl
    have n249b : RP s (sI (sI s 111 z62.toNatClampNeg z10) 110 x2.toNatClampNeg z78) (x1).toNatClampNeg (x2).toNatClampNeg := by exact rp_0 (by have hk9 := i19; unfold In at hk9; rw [← e18]; omega) (by show z62.toInt.toNat = 32 * x2.toNatClampNeg + (s.1 110 x2.toNatClampNeg).toNatClampNeg; rw [← e61]; have e3 := (t_mulc 32 (Or.inl e55) h2 rfl).1; have e5 := t_add e62 i55 i62 rfl; have e6 : x2.toNatClampNeg = x2.toInt.toNat := rfl; have e7 : z61.toNatClampNeg = z61.toInt.toNat := rfl; have ha := i62; unfold In at ha; have hg := h2; unfold In at hg; omega) e10 rfl rfl rfl rfl rfl rfl rfl
    exact g_return (gd rfl) rfl (hP _ _ ⟨(sI (sI s 111 z62.toNatClampNeg z10) 110 x2.toNatClampNeg z78), hI79, (fr_sI rfl (fr_sI rfl fr_rf)), rfl, rfl, n249, n249a, n249b⟩)
  · skip
    have i19 := sw_eq c19
    refine g_aload_n 84 (gd rfl) rfl rfl ?_
    refine g_getA (q2 := 112) 87 (gd rfl) rfl rfl rfl rfl ?_
    refine g_iload_n 88 (gd rfl) rfl rfl ?_
    refine g_iconst 1 89 (gd rfl) rfl rfl ?_
    refine g_bastore 90 (gd rfl) rfl (n := 480) rfl (in_ix i11 rfl) ?_
    have hI89 := rng_sI (q := 112) (j := z11.toNatClampNeg) hI rfl (in_w 0 1 (nar01 (in_w 0 1 (in_c 1 rfl) rfl)) rfl)
    refine g_aload_n 91 (gd rfl) rfl rfl ?_
    refine g_getA (q2 := 113) 94 (gd rfl) rfl rfl rfl rfl ?_
    refine g_iload_n 95 (gd rfl) rfl rfl ?_
    refine g_aload_n 96 (gd rfl) rfl rfl ?_
    refine g_getA (q2 := 120) 99 (gd rfl) rfl rfl rfl rfl ?_
    refine g_iload_n 100 (gd rfl) rfl rfl ?_
    refine g_iaload 101 (gd rfl) rfl (n := 4000) rfl (in_ix h1 rfl) (fun z100 e100 => ?_)
    have i100 := rng_I hI89 (n := 4000) (t := 0) 0 31 rfl (in_ix h1 rfl) rfl e100
    refine g_iastore 102 (gd rfl) rfl (n := 480) rfl (in_ix i11 rfl) ?_
    have hI101 := rng_sI (q := 113) (j := z11.toNatClampNeg) hI89 rfl (in_w 0 31 i100 rfl)
    refine g_aload_n 103 (gd rfl) rfl rfl ?_
    refine g_getA (q2 := 114) 106 (gd rfl) rfl rfl rfl rfl ?_
    refine g_iload_n 107 (gd rfl) rfl rfl ?_
    refine g_aload_n 108 (gd rfl) rfl rfl ?_
    refine g_getA (q2 := 121) 111 (gd rfl) rfl rfl rfl rfl ?_
    refine g_iload_n 112 (gd rfl) rfl rfl ?_
    refine g_iaload 113 (gd rfl) rfl (n := 4000) rfl (in_ix h1 rfl) (fun z112 e112 => ?_)
    have i112 := rng_I hI101 (n := 4000) (t := 0) (-1000000) 1000000 rfl (in_ix h1 rfl) rfl e112
    have i113 : In z112 0 31 := by have hr := q_0.1.2.1 (by have hk9 := i19; unfold In at hk9; rw [← e18]; omega); have hq := q_0.2.1; have hq2 := q_0.2.2.2; have e9 : z112 = s.1 121 x1.toNatClampNeg := e112; rw [← e9] at hr; exact ⟨hr.2.1, by omega⟩
    refine g_iastore 114 (gd rfl) rfl (n := 480) rfl (in_ix i11 rfl) ?_
    have hI113 := rng_sI (q := 114) (j := z11.toNatClampNeg) hI101 rfl (in_w 0 31 i113 rfl)
    refine g_aload_n 115 (gd rfl) rfl rfl ?_
    refine g_getA (q2 := 115) 118 (gd rfl) rfl rfl rfl rfl ?_
    refine g_iload_n 119 (gd rfl) rfl rfl ?_
    refine g_aload_n 120 (gd rfl) rfl rfl ?_
    refine g_getA (q2 := 122) 123 (gd rfl) rfl rfl rfl rfl ?_
    refine g_iload_n 124 (gd rfl) rfl rfl ?_
    refine g_iaload 125 (gd rfl) rfl (n := 4000) rfl (in_ix h1 rfl) (fun z124 e124 => ?_)
    have i124 := rng_I hI113 (n := 4000) (t := 0) (-1000000) 1000000 rfl (in_ix h1 rfl) rfl e124
    refine g_iastore 126 (gd rfl) rfl (n := 480) rfl (in_ix i11 rfl) ?_
    have hI125 := rng_sI (q := 115) (j := z11.toNatClampNeg) hI113 rfl (in_w (-1000000) 1000000 i124 rfl)
    refine g_aload_n 127 (gd rfl) rfl rfl ?_
    refine g_getA (q2 := 116) 130 (gd rfl) rfl rfl rfl rfl ?_
    refine g_iload_n 131 (gd rfl) rfl rfl ?_
    refine g_aload_n 132 (gd rfl) rfl rfl ?_
    refine g_getA (q2 := 123) 135 (gd rfl) rfl rfl rfl rfl ?_
    refine g_iload_n 136 (gd rfl) rfl rfl ?_
    refine g_iaload 137 (gd rfl) rfl (n := 4000) rfl (in_ix h1 rfl) (fun z136 e136 => ?_)
    have i136 := rng_I hI125 (n := 4000) (t := 0) 0 1000000 rfl (in_ix h1 rfl) rfl e136
    refine g_iastore 138 (gd rfl) rfl (n := 480) rfl (in_ix i11 rfl) ?_
    have hI137 := rng_sI (q := 116) (j := z11.toNatClampNeg) hI125 rfl (in_w 0 1000000 i136 rfl)
    refine g_aload_n 139 (gd rfl) rfl rfl ?_
    refine g_getA (q2 := 117) 142 (gd rfl) rfl rfl rfl rfl ?_
    refine g_iload_n 143 (gd rfl) rfl rfl ?_
    refine g_aload_n 144 (gd rfl) rfl rfl ?_
    refine g_getA (q2 := 124) 147 (gd rfl) rfl rfl rfl rfl ?_
    refine g_iload_n 148 (gd rfl) rfl rfl ?_
    refine g_iaload 149 (gd rfl) rfl (n := 4000) rfl (in_ix h1 rfl) (fun z148 e148 => ?_)
    have i148 := rng_I hI137 (n := 4000) (t := 0) 0 25 rfl (in_ix h1 rfl) rfl e148
    refine g_iastore 150 (gd rfl) rfl (n := 480) rfl (in_ix i11 rfl) ?_
    have hI149 := rng_sI (q := 117) (j := z11.toNatClampNeg) hI137 rfl (in_w 0 25 i148 rfl)
    refine g_goto 249 (gd rfl) rfl ?_
    have n249 : AP s (sI (sI (sI (sI (sI (sI s 112 z11.toNatClampNeg (vp_nar .boolean (Int32.ofInt 1))) 113 z11.toNatClampNeg z100) 114 z11.toNatClampNeg z112) 115 z11.toNatClampNeg z124) 116 z11.toNatClampNeg z136) 117 z11.toNatClampNeg z148) (x1).toNatClampNeg (x2).toNatClampNeg := by first | exact ap_node q_0 (by have hk9 := i19; unfold In at hk9; rw [← e18]; omega) rfl (by rw [← e61]; exact t_add e78 i62 (in_c 1 rfl) rfl) rfl rfl rfl | exact ap_arc q_0 (by have hk9 := i19; unfold In at hk9; rw [← e18]; omega) rfl rfl (by have h3 := i11; unfold In at h3; have ha := i10; unfold In at ha; have hg := h2; unfold In at hg; have e3 := (t_mulc 160 (Or.inl e4) h2 rfl).1; have e4 := t_add e11 i4 i10 rfl; have e5 : (z11).toNatClampNeg = (z11).toInt.toNat := rfl; have e6 : x2.toNatClampNeg = x2.toInt.toNat := rfl; omega) rfl rfl e100 e112 | exact ap_take q_0 (by have hk9 := i19; unfold In at hk9; rw [← e18]; omega) rfl rfl rfl (by have h3 := i11; unfold In at h3; have ha := i10; unfold In at ha; have hg := h2; unfold In at hg; have e3 := (t_mulc 160 (Or.inl e4) h2 rfl).1; have e4 := t_add e11 i4 i10 rfl; have e5 : (z11).toNatClampNeg = (z11).toInt.toNat := rfl; have e6 : x2.toNatClampNeg = x2.toInt.toNat := rfl; omega) rfl rfl | exact ap_same q_0 (by have hk9 := i18; unfold In at hk9; rw [← e18]; omega) rfl rfl rfl rfl
    have n249a : APT s (sI (sI (sI (sI (sI (sI s 112 z11.toNatClampNeg (vp_nar .boolean (Int32.ofInt 1))) 113 z11.toNatClampNeg z100) 114 z11.toNatClampNeg z112) 115 z11.toNatClampNeg z124) 116 z11.toNatClampNeg z136) 117 z11.toNatClampNeg z148) (x1).toNatClampNeg (x2).toNatClampNeg := by exact apt_1 (by have hk9 := i19; unfold In at hk9; rw [← e18]; omega) rfl (by show z11.toInt.toNat = 160 * x2.toNatClampNeg + (s.1 119 x1.toNatClampNeg).toNatClampNeg; rw [← e10]; have e3 := (t_mulc 160 (Or.inl e4) h2 rfl).1; have e5 := t_add e11 i4 i10 rfl; have hg := h2; unfold In at hg; have ha := i10; unfold In at ha; have e6 : x2.toNatClampNeg = x2.toInt.toNat := rfl; have e7 : z10.toNatClampNeg = z10.toInt.toNat := rfl; omega) (by decide)
    have n249b : RP s (sI (sI (sI (sI (sI (sI s 112 z11.toNatClampNeg (vp_nar .boolean (Int32.ofInt 1))) 113 z11.toNatClampNeg z100) 114 z11.toNatClampNeg z112) 115 z11.toNatClampNeg z124) 116 z11.toNatClampNeg z136) 117 z11.toNatClampNeg z148) (x1).toNatClampNeg (x2).toNatClampNeg := by exact rp_1 (by have hk9 := i19; unfold In at hk9; rw [← e18]; omega) (by show z11.toInt.toNat = 160 * x2.toNatClampNeg + (s.1 119 x1.toNatClampNeg).toNatClampNeg; rw [← e10]; have e3 := (t_mulc 160 (Or.inl e4) h2 rfl).1; have e5 := t_add e11 i4 i10 rfl; have e6 : x2.toNatClampNeg = x2.toInt.toNat := rfl; have e7 : z10.toNatClampNeg = z10.toInt.toNat := rfl; have ha := i10; unfold In at ha; have hg := h2; unfold In at hg; omega) (by decide) e100 e112 e124 e136 e148 rfl rfl rfl rfl rfl rfl rfl
    exact g_return (gd rfl) rfl (hP _ _ ⟨(sI (sI (sI (sI (sI (sI s 112 z11.toNatClampNeg (vp_nar .boolean (Int32.ofInt 1))) 113 z11.toNatClampNeg z100) 114 z11.toNatClampNeg z112) 115 z11.toNatClampNeg z124) 116 z11.toNatClampNeg z136) 117 z11.toNatClampNeg z148), hI149, (fr_sI rfl (fr_sI rfl (fr_sI rfl (fr_sI rfl (fr_sI rfl (fr_sI rfl fr_rf)))))), rfl, rfl, n249, n249a, n249b⟩)
  · skip
    have i19 := sw_eq c19
    refine g_aload_n 154 (gd rfl) rfl rfl ?_
    refine g_getA (q2 := 112) 157 (gd rfl) rfl rfl rfl rfl ?_
    refine g_iload_n 158 (gd rfl) rfl rfl ?_
    refine g_iconst 0 159 (gd rfl) rfl rfl ?_
    refine g_bastore 160 (gd rfl) rfl (n := 480) rfl (in_ix i11 rfl) ?_
    have hI159 := rng_sI (q := 112) (j := z11.toNatClampNeg) hI rfl (in_w 0 1 (nar01 (in_w 0 1 (in_c 0 rfl) rfl)) rfl)
    refine g_goto 249 (gd rfl) rfl ?_
    have n249 : AP s (sI s 112 z11.toNatClampNeg (vp_nar .boolean (Int32.ofInt 0))) (x1).toNatClampNeg (x2).toNatClampNeg := by first | exact ap_node q_0 (by have hk9 := i19; unfold In at hk9; rw [← e18]; omega) rfl (by rw [← e61]; exact t_add e78 i62 (in_c 1 rfl) rfl) rfl rfl rfl | exact ap_arc q_0 (by have hk9 := i19; unfold In at hk9; rw [← e18]; omega) rfl rfl (by have h3 := i11; unfold In at h3; have ha := i10; unfold In at ha; have hg := h2; unfold In at hg; have e3 := (t_mulc 160 (Or.inl e4) h2 rfl).1; have e4 := t_add e11 i4 i10 rfl; have e5 : (z11).toNatClampNeg = (z11).toInt.toNat := rfl; have e6 : x2.toNatClampNeg = x2.toInt.toNat := rfl; omega) rfl rfl e100 e112 | exact ap_take q_0 (by have hk9 := i19; unfold In at hk9; rw [← e18]; omega) rfl rfl rfl (by have h3 := i11; unfold In at h3; have ha := i10; unfold In at ha; have hg := h2; unfold In at hg; have e3 := (t_mulc 160 (Or.inl e4) h2 rfl).1; have e4 := t_add e11 i4 i10 rfl; have e5 : (z11).toNatClampNeg = (z11).toInt.toNat := rfl; have e6 : x2.toNatClampNeg = x2.toInt.toNat := rfl; omega) rfl rfl | exact ap_same q_0 (by have hk9 := i18; unfold In at hk9; rw [← e18]; omega) rfl rfl rfl rfl
    have n249a : APT s (sI s 112 z11.toNatClampNeg (vp_nar .boolean (Int32.ofInt 0))) (x1).toNatClampNeg (x2).toNatClampNeg := by exact apt_2 (by have hk9 := i19; unfold In at hk9; rw [← e18]; omega) rfl (by show z11.toInt.toNat = 160 * x2.toNatClampNeg + (s.1 119 x1.toNatClampNeg).toNatClampNeg; rw [← e10]; have e3 := (t_mulc 160 (Or.inl e4) h2 rfl).1; have e5 := t_add e11 i4 i10 rfl; have hg := h2; unfold In at hg; have ha := i10; unfold In at ha; have e6 : x2.toNatClampNeg = x2.toInt.toNat := rfl; have e7 : z10.toNatClampNeg = z10.toInt.toNat := rfl; omega) (by decide)
    have n249b : RP s (sI s 112 z11.toNatClampNeg (vp_nar .boolean (Int32.ofInt 0))) (x1).toNatClampNeg (x2).toNatClampNeg := by exact rp_2 (by have hk9 := i19; unfold In at hk9; rw [← e18]; omega) (by show z11.toInt.toNat = 160 * x2.toNatClampNeg + (s.1 119 x1.toNatClampNeg).toNatClampNeg; rw [← e10]; have e3 := (t_mulc 160 (Or.inl e4) h2 rfl).1; have e5 := t_add e11 i4 i10 rfl; have e6 : x2.toNatClampNeg = x2.toInt.toNat := rfl; have e7 : z10.toNatClampNeg = z10.toInt.toNat := rfl; have ha := i10; unfold In at ha; have hg := h2; unfold In at hg; omega) (by decide) rfl rfl rfl rfl rfl rfl rfl
    exact g_return (gd rfl) rfl (hP _ _ ⟨(sI s 112 z11.toNatClampNeg (vp_nar .boolean (Int32.ofInt 0))), hI159, (fr_sI rfl fr_rf), rfl, rfl, n249, n249a, n249b⟩)
  · skip
    have i19 := sw_eq c19
    refine g_aload_n 164 (gd rfl) rfl rfl ?_
    refine g_getA (q2 := 120) 167 (gd rfl) rfl rfl rfl rfl ?_
    refine g_iload_n 168 (gd rfl) rfl rfl ?_
    refine g_iaload 169 (gd rfl) rfl (n := 4000) rfl (in_ix h1 rfl) (fun z168 e168 => ?_)
    have i168 := rng_I hI (n := 4000) (t := 0) 0 31 rfl (in_ix h1 rfl) rfl e168
    refine g_if_ne 172 187 (gd rfl) rfl rfl (fun c169 => ?_) (fun c169 => ?_)
    · skip
      have i169 := z_ne 1 31 c169 i168 rfl
      refine g_aload_n 188 (gd rfl) rfl rfl ?_
      refine g_getA (q2 := 120) 191 (gd rfl) rfl rfl rfl rfl ?_
      refine g_iload_n 192 (gd rfl) rfl rfl ?_
      refine g_iaload 193 (gd rfl) rfl (n := 4000) rfl (in_ix h1 rfl) (fun z192 e192 => ?_)
      have q192 : z168 = z192 := (e168).trans e192.symm
      subst q192
      refine g_iconst 1 194 (gd rfl) rfl rfl ?_
      refine g_cmp_ne 197 212 (gd rfl) rfl rfl (fun c194 => ?_) (fun c194 => ?_)
      · skip
        have i194 := r_ne1 2 31 c194 i169 (in_c 1 rfl) rfl
        refine g_aload_n 213 (gd rfl) rfl rfl ?_
        refine g_getA (q2 := 117) 216 (gd rfl) rfl rfl rfl rfl ?_
        refine g_iload_n 217 (gd rfl) rfl rfl ?_
        refine g_aload_n 218 (gd rfl) rfl rfl ?_
        refine g_getA (q2 := 121) 221 (gd rfl) rfl rfl rfl rfl ?_
        refine g_iload_n 222 (gd rfl) rfl rfl ?_
        refine g_iaload 223 (gd rfl) rfl (n := 4000) rfl (in_ix h1 rfl) (fun z222 e222 => ?_)
        have i222 := rng_I hI (n := 4000) (t := 0) (-1000000) 1000000 rfl (in_ix h1 rfl) rfl e222
        have i223 : In z222 0 25 := by rw [e222]; exact q_0.1.2.2.2.1 (by have hk9 := i19; unfold In at hk9; rw [← e18]; omega) (by rw [← e168]; exact c169) (by rw [← e168]; exact c194)
        refine g_iastore 224 (gd rfl) rfl (n := 480) rfl (in_ix i11 rfl) ?_
        have hI223 := rng_sI (q := 117) (j := z11.toNatClampNeg) hI rfl (in_w 0 25 i223 rfl)
        refine g_goto 249 (gd rfl) rfl ?_
        have n249 : AP s (sI s 117 z11.toNatClampNeg z222) (x1).toNatClampNeg (x2).toNatClampNeg := by first | exact ap_node q_0 (by have hk9 := i19; unfold In at hk9; rw [← e18]; omega) rfl (by rw [← e61]; exact t_add e78 i62 (in_c 1 rfl) rfl) rfl rfl rfl | exact ap_arc q_0 (by have hk9 := i19; unfold In at hk9; rw [← e18]; omega) rfl rfl (by have h3 := i11; unfold In at h3; have ha := i10; unfold In at ha; have hg := h2; unfold In at hg; have e3 := (t_mulc 160 (Or.inl e4) h2 rfl).1; have e4 := t_add e11 i4 i10 rfl; have e5 : (z11).toNatClampNeg = (z11).toInt.toNat := rfl; have e6 : x2.toNatClampNeg = x2.toInt.toNat := rfl; omega) rfl rfl e100 e112 | exact ap_take q_0 (by have hk9 := i19; unfold In at hk9; rw [← e18]; omega) rfl rfl rfl (by have h3 := i11; unfold In at h3; have ha := i10; unfold In at ha; have hg := h2; unfold In at hg; have e3 := (t_mulc 160 (Or.inl e4) h2 rfl).1; have e4 := t_add e11 i4 i10 rfl; have e5 : (z11).toNatClampNeg = (z11).toInt.toNat := rfl; have e6 : x2.toNatClampNeg = x2.toInt.toNat := rfl; omega) rfl rfl | exact ap_same q_0 (by have hk9 := i18; unfold In at hk9; rw [← e18]; omega) rfl rfl rfl rfl
        have n249a : APT s (sI s 117 z11.toNatClampNeg z222) (x1).toNatClampNeg (x2).toNatClampNeg := by exact apt_3 (by have hk9 := i19; unfold In at hk9; rw [← e18]; omega) (by have hk9 := i19; unfold In at hk9; rw [← e18]; omega) rfl
        have n249b : RP s (sI s 117 z11.toNatClampNeg z222) (x1).toNatClampNeg (x2).toNatClampNeg := by have hk4 := i194; unfold In at hk4; exact rp_3 (by have hk9 := i19; unfold In at hk9; rw [← e18]; omega) rfl rfl rfl rfl (by rw [if_neg (by rw [← e168]; omega)]; rfl) (by rw [if_neg (by rw [← e168]; omega)]; rfl) (by rw [if_pos (by rw [← e168]; omega), ← (show z11.toNatClampNeg = 160 * x2.toNatClampNeg + (s.1 119 x1.toNatClampNeg).toNatClampNeg from (by show z11.toInt.toNat = 160 * x2.toNatClampNeg + (s.1 119 x1.toNatClampNeg).toNatClampNeg; rw [← e10]; have e3 := (t_mulc 160 (Or.inl e4) h2 rfl).1; have e5 := t_add e11 i4 i10 rfl; have e6 : x2.toNatClampNeg = x2.toInt.toNat := rfl; have e7 : z10.toNatClampNeg = z10.toInt.toNat := rfl; have ha := i10; unfold In at ha; have hg := h2; unfold In at hg; omega)), ← (show z222 = s.1 121 x1.toNatClampNeg from e222)]; rfl)
        exact g_return (gd rfl) rfl (hP _ _ ⟨(sI s 117 z11.toNatClampNeg z222), hI223, (fr_sI rfl fr_rf), rfl, rfl, n249, n249a, n249b⟩)
      · skip
        have i194 := r_eq1 1 1 c194 i169 (in_c 1 rfl) rfl
        refine g_aload_n 198 (gd rfl) rfl rfl ?_
        refine g_getA (q2 := 116) 201 (gd rfl) rfl rfl rfl rfl ?_
        refine g_iload_n 202 (gd rfl) rfl rfl ?_
        refine g_aload_n 203 (gd rfl) rfl rfl ?_
        refine g_getA (q2 := 121) 206 (gd rfl) rfl rfl rfl rfl ?_
        refine g_iload_n 207 (gd rfl) rfl rfl ?_
        refine g_iaload 208 (gd rfl) rfl (n := 4000) rfl (in_ix h1 rfl) (fun z207 e207 => ?_)
        have i207 := rng_I hI (n := 4000) (t := 0) (-1000000) 1000000 rfl (in_ix h1 rfl) rfl e207
        have i208 : In z207 0 1000000 := by refine ⟨?_, i207.2⟩; rw [e207]; exact q_0.1.2.2.1 (by have hk9 := i19; unfold In at hk9; rw [← e18]; omega) (by rw [← e168]; exact c194)
        refine g_iastore 209 (gd rfl) rfl (n := 480) rfl (in_ix i11 rfl) ?_
        have hI208 := rng_sI (q := 116) (j := z11.toNatClampNeg) hI rfl (in_w 0 1000000 i208 rfl)
        refine g_goto 249 (gd rfl) rfl ?_
        have n249 : AP s (sI s 116 z11.toNatClampNeg z207) (x1).toNatClampNeg (x2).toNatClampNeg := by first | exact ap_node q_0 (by have hk9 := i19; unfold In at hk9; rw [← e18]; omega) rfl (by rw [← e61]; exact t_add e78 i62 (in_c 1 rfl) rfl) rfl rfl rfl | exact ap_arc q_0 (by have hk9 := i19; unfold In at hk9; rw [← e18]; omega) rfl rfl (by have h3 := i11; unfold In at h3; have ha := i10; unfold In at ha; have hg := h2; unfold In at hg; have e3 := (t_mulc 160 (Or.inl e4) h2 rfl).1; have e4 := t_add e11 i4 i10 rfl; have e5 : (z11).toNatClampNeg = (z11).toInt.toNat := rfl; have e6 : x2.toNatClampNeg = x2.toInt.toNat := rfl; omega) rfl rfl e100 e112 | exact ap_take q_0 (by have hk9 := i19; unfold In at hk9; rw [← e18]; omega) rfl rfl rfl (by have h3 := i11; unfold In at h3; have ha := i10; unfold In at ha; have hg := h2; unfold In at hg; have e3 := (t_mulc 160 (Or.inl e4) h2 rfl).1; have e4 := t_add e11 i4 i10 rfl; have e5 : (z11).toNatClampNeg = (z11).toInt.toNat := rfl; have e6 : x2.toNatClampNeg = x2.toInt.toNat := rfl; omega) rfl rfl | exact ap_same q_0 (by have hk9 := i18; unfold In at hk9; rw [← e18]; omega) rfl rfl rfl rfl
        have n249a : APT s (sI s 116 z11.toNatClampNeg z207) (x1).toNatClampNeg (x2).toNatClampNeg := by exact apt_3 (by have hk9 := i19; unfold In at hk9; rw [← e18]; omega) (by have hk9 := i19; unfold In at hk9; rw [← e18]; omega) rfl
        have n249b : RP s (sI s 116 z11.toNatClampNeg z207) (x1).toNatClampNeg (x2).toNatClampNeg := by have hk4 := i194; unfold In at hk4; exact rp_3 (by have hk9 := i19; unfold In at hk9; rw [← e18]; omega) rfl rfl rfl rfl (by rw [if_neg (by rw [← e168]; omega)]; rfl) (by rw [if_pos (by rw [← e168]; omega), ← (show z11.toNatClampNeg = 160 * x2.toNatClampNeg + (s.1 119 x1.toNatClampNeg).toNatClampNeg from (by show z11.toInt.toNat = 160 * x2.toNatClampNeg + (s.1 119 x1.toNatClampNeg).toNatClampNeg; rw [← e10]; have e3 := (t_mulc 160 (Or.inl e4) h2 rfl).1; have e5 := t_add e11 i4 i10 rfl; have e6 : x2.toNatClampNeg = x2.toInt.toNat := rfl; have e7 : z10.toNatClampNeg = z10.toInt.toNat := rfl; have ha := i10; unfold In at ha; have hg := h2; unfold In at hg; omega)), ← (show z207 = s.1 121 x1.toNatClampNeg from e207)]; rfl) (by rw [if_neg (by rw [← e168]; omega)]; rfl)
        exact g_return (gd rfl) rfl (hP _ _ ⟨(sI s 116 z11.toNatClampNeg z207), hI208, (fr_sI rfl fr_rf), rfl, rfl, n249, n249a, n249b⟩)
    · skip
      have i169 := z_eq 0 0 c169 i168 rfl
      refine g_aload_n 173 (gd rfl) rfl rfl ?_
      refine g_getA (q2 := 115) 176 (gd rfl) rfl rfl rfl rfl ?_
      refine g_iload_n 177 (gd rfl) rfl rfl ?_
      refine g_aload_n 178 (gd rfl) rfl rfl ?_
      refine g_getA (q2 := 121) 181 (gd rfl) rfl rfl rfl rfl ?_
      refine g_iload_n 182 (gd rfl) rfl rfl ?_
      refine g_iaload 183 (gd rfl) rfl (n := 4000) rfl (in_ix h1 rfl) (fun z182 e182 => ?_)
      have i182 := rng_I hI (n := 4000) (t := 0) (-1000000) 1000000 rfl (in_ix h1 rfl) rfl e182
      refine g_iastore 184 (gd rfl) rfl (n := 480) rfl (in_ix i11 rfl) ?_
      have hI183 := rng_sI (q := 115) (j := z11.toNatClampNeg) hI rfl (in_w (-1000000) 1000000 i182 rfl)
      refine g_goto 249 (gd rfl) rfl ?_
      have n249 : AP s (sI s 115 z11.toNatClampNeg z182) (x1).toNatClampNeg (x2).toNatClampNeg := by first | exact ap_node q_0 (by have hk9 := i19; unfold In at hk9; rw [← e18]; omega) rfl (by rw [← e61]; exact t_add e78 i62 (in_c 1 rfl) rfl) rfl rfl rfl | exact ap_arc q_0 (by have hk9 := i19; unfold In at hk9; rw [← e18]; omega) rfl rfl (by have h3 := i11; unfold In at h3; have ha := i10; unfold In at ha; have hg := h2; unfold In at hg; have e3 := (t_mulc 160 (Or.inl e4) h2 rfl).1; have e4 := t_add e11 i4 i10 rfl; have e5 : (z11).toNatClampNeg = (z11).toInt.toNat := rfl; have e6 : x2.toNatClampNeg = x2.toInt.toNat := rfl; omega) rfl rfl e100 e112 | exact ap_take q_0 (by have hk9 := i19; unfold In at hk9; rw [← e18]; omega) rfl rfl rfl (by have h3 := i11; unfold In at h3; have ha := i10; unfold In at ha; have hg := h2; unfold In at hg; have e3 := (t_mulc 160 (Or.inl e4) h2 rfl).1; have e4 := t_add e11 i4 i10 rfl; have e5 : (z11).toNatClampNeg = (z11).toInt.toNat := rfl; have e6 : x2.toNatClampNeg = x2.toInt.toNat := rfl; omega) rfl rfl | exact ap_same q_0 (by have hk9 := i18; unfold In at hk9; rw [← e18]; omega) rfl rfl rfl rfl
      have n249a : APT s (sI s 115 z11.toNatClampNeg z182) (x1).toNatClampNeg (x2).toNatClampNeg := by exact apt_3 (by have hk9 := i19; unfold In at hk9; rw [← e18]; omega) (by have hk9 := i19; unfold In at hk9; rw [← e18]; omega) rfl
      have n249b : RP s (sI s 115 z11.toNatClampNeg z182) (x1).toNatClampNeg (x2).toNatClampNeg := by have hk4 := i169; unfold In at hk4; exact rp_3 (by have hk9 := i19; unfold In at hk9; rw [← e18]; omega) rfl rfl rfl rfl (by rw [if_pos (by rw [← e168]; omega), ← (show z11.toNatClampNeg = 160 * x2.toNatClampNeg + (s.1 119 x1.toNatClampNeg).toNatClampNeg from (by show z11.toInt.toNat = 160 * x2.toNatClampNeg + (s.1 119 x1.toNatClampNeg).toNatClampNeg; rw [← e10]; have e3 := (t_mulc 160 (Or.inl e4) h2 rfl).1; have e5 := t_add e11 i4 i10 rfl; have e6 : x2.toNatClampNeg = x2.toInt.toNat := rfl; have e7 : z10.toNatClampNeg = z10.toInt.toNat := rfl; have ha := i10; unfold In at ha; have hg := h2; unfold In at hg; omega)), ← (show z182 = s.1 121 x1.toNatClampNeg from e182)]; rfl) (by rw [if_neg (by rw [← e168]; omega)]; rfl) (by rw [if_neg (by rw [← e168]; omega)]; rfl)
      exact g_return (gd rfl) rfl (hP _ _ ⟨(sI s 115 z11.toNatClampNeg z182), hI183, (fr_sI rfl fr_rf), rfl, rfl, n249, n249a, n249b⟩)
  · skip
    have i227 : In z10 0 31 := by have hr := q_0.1.2.2.2.2 (by have hk9 := i18; unfold In at hk9; rw [← e18]; omega); have hq := q_0.2.1; have hq2 := q_0.2.2.2; refine ⟨i10.1, ?_⟩; rw [e10]; omega
    refine g_aload_n 228 (gd rfl) rfl rfl ?_
    refine g_getA (q2 := 111) 231 (gd rfl) rfl rfl rfl rfl ?_
    refine g_bipush 32 233 (gd rfl) rfl rfl ?_
    refine g_iload_n 234 (gd rfl) rfl rfl ?_
    refine g_imul 235 (gd rfl) rfl (fun z234 e234 => ?_)
    have i234 := in_mulc 32 0 32 (Or.inl e234) h2 rfl rfl
    refine g_aload_n 236 (gd rfl) rfl rfl ?_
    refine g_getA (q2 := 119) 239 (gd rfl) rfl rfl rfl rfl ?_
    refine g_iload_n 240 (gd rfl) rfl rfl ?_
    refine g_iaload 241 (gd rfl) rfl (n := 4000) rfl (in_ix h1 rfl) (fun z240 e240 => ?_)
    have q240 : z10 = z240 := (e10).trans e240.symm
    subst q240
    refine g_iadd 242 (gd rfl) rfl (fun z241 e241 => ?_)
    have i241 := in_add 0 63 e241 i234 i227 rfl rfl
    refine g_aload_n 243 (gd rfl) rfl rfl ?_
    refine g_getA (q2 := 120) 246 (gd rfl) rfl rfl rfl rfl ?_
    refine g_iload_n 247 (gd rfl) rfl rfl ?_
    refine g_iaload 248 (gd rfl) rfl (n := 4000) rfl (in_ix h1 rfl) (fun z247 e247 => ?_)
    have i247 := rng_I hI (n := 4000) (t := 0) 0 31 rfl (in_ix h1 rfl) rfl e247
    have i248 : In z247 0 25 := by refine ⟨i247.1, ?_⟩; rw [e247]; exact (q_0.1.2.2.2.2 (by have hk9 := i18; unfold In at hk9; rw [← e18]; omega)).2
    refine g_iastore 249 (gd rfl) rfl (n := 96) rfl (in_ix i241 rfl) ?_
    have hI248 := rng_sI (q := 111) (j := z241.toNatClampNeg) hI rfl (in_w 0 25 i248 rfl)
    have n249 : AP s (sI s 111 z241.toNatClampNeg z247) (x1).toNatClampNeg (x2).toNatClampNeg := by first | exact ap_node q_0 (by have hk9 := i19; unfold In at hk9; rw [← e18]; omega) rfl (by rw [← e61]; exact t_add e78 i62 (in_c 1 rfl) rfl) rfl rfl rfl | exact ap_arc q_0 (by have hk9 := i19; unfold In at hk9; rw [← e18]; omega) rfl rfl (by have h3 := i11; unfold In at h3; have ha := i10; unfold In at ha; have hg := h2; unfold In at hg; have e3 := (t_mulc 160 (Or.inl e4) h2 rfl).1; have e4 := t_add e11 i4 i10 rfl; have e5 : (z11).toNatClampNeg = (z11).toInt.toNat := rfl; have e6 : x2.toNatClampNeg = x2.toInt.toNat := rfl; omega) rfl rfl e100 e112 | exact ap_take q_0 (by have hk9 := i19; unfold In at hk9; rw [← e18]; omega) rfl rfl rfl (by have h3 := i11; unfold In at h3; have ha := i10; unfold In at ha; have hg := h2; unfold In at hg; have e3 := (t_mulc 160 (Or.inl e4) h2 rfl).1; have e4 := t_add e11 i4 i10 rfl; have e5 : (z11).toNatClampNeg = (z11).toInt.toNat := rfl; have e6 : x2.toNatClampNeg = x2.toInt.toNat := rfl; omega) rfl rfl | exact ap_same q_0 (by have hk9 := i18; unfold In at hk9; rw [← e18]; omega) rfl rfl rfl rfl
    have n249a : APT s (sI s 111 z241.toNatClampNeg z247) (x1).toNatClampNeg (x2).toNatClampNeg := by exact apt_3 (by have hk9 := i18; unfold In at hk9; rw [← e18]; omega) (by have hk9 := i18; unfold In at hk9; rw [← e18]; omega) rfl
    have n249b : RP s (sI s 111 z241.toNatClampNeg z247) (x1).toNatClampNeg (x2).toNatClampNeg := by exact rp_4 (by have hk9 := i18; unfold In at hk9; rw [← e18]; omega) (by show z241.toInt.toNat = 32 * x2.toNatClampNeg + (s.1 119 x1.toNatClampNeg).toNatClampNeg; rw [← e10]; have e3 := (t_mulc 32 (Or.inl e234) h2 rfl).1; have e5 := t_add e241 i234 i227 rfl; have e6 : x2.toNatClampNeg = x2.toInt.toNat := rfl; have e7 : z10.toNatClampNeg = z10.toInt.toNat := rfl; have ha := i227; unfold In at ha; have hg := h2; unfold In at hg; omega) e247 rfl rfl rfl rfl rfl rfl rfl
    exact g_return (gd rfl) rfl (hP _ _ ⟨(sI s 111 z241.toNatClampNeg z247), hI248, (fr_sI rfl fr_rf), rfl, rfl, n249, n249a, n249b⟩)
