/-! FUNCTIONAL CONTRACTS, by fgen.py -/
theorem oc_281_109 : (Int32.ofInt (-1)).toInt = (-1) ∧ (Int32.ofInt 0).toInt = 0 ∧ (Int32.ofInt 1).toInt = 1 ∧ (Int32.ofInt 2).toInt = 2 ∧ (Int32.ofInt 32).toInt = 32 ∧ (Int32.ofInt 4000).toInt = 4000 ∧ (Int64.ofInt 0).toInt = 0 ∧ (Int64.ofInt 25).toInt = 25 := ⟨rfl, rfl, rfl, rfl, rfl, rfl, rfl, rfl⟩
/-- GraphHouseModel.node -/
theorem f_281 {Z : AmZ} {A : Nat → Nat} {s : GS} {ex : va_W} {d : Nat} {X : AmX} {x1 : Int32} {u_109_9 : Int32} {u_109_0 : Int32} (hd : 3 ≤ d) (hI : Inv s) (e_109_9 : u_109_9 = s.2.2.1 109 9) (e_109_0 : u_109_0 = s.2.2.1 109 0) : GC Z d 281 [.ref (A 109), .int x1] (WW Z A s ++ ex) 0 0 (fun v u => ∃ t : GS, Inv t ∧ Fr fm_281 s t ∧ ∃ z : Int32, v = some (.int z) ∧ u = WW Z A t ++ ex ∧ In z (-1) 31 ∧ (CDR s t (In x1 0 25) ((s.1 110 0).toInt ≤ 31 ∧ (s.2.2.1 109 9).toInt ≤ 3999) ((z).toInt = (s.1 110 0).toInt ∧ gvR t = gqN (gvR s) (s.1 110 0).toNatClampNeg x1)) ∧ (LGX s t (Int32.ofInt 0) x1 (Int32.ofInt 0) (Int32.ofInt 0) (Int32.ofInt 0) (Int32.ofInt 0) (Int32.ofInt 0)) ∧ (GSE s → GSE t) ∧ (G1S s t)) X := by
  intro post xp hP hX
  refine g_enter2 (k := 281) (N := 900) (by omega) rfl (Nat.le_of_ble_eq_true rfl) (g_aload_n 1 (gd rfl) rfl rfl (g_iload_n 2 (gd rfl) rfl rfl (g_i2l 3 (gd rfl) rfl (fun z2 e2 => have i2 := l_i e2 (i_rng x1); g_lconst 0 4 (gd rfl) rfl rfl (g_ldc2_w 25 7 (gd rfl) rfl rfl ?_)))))
  refine g_calls (As := [.long z2, .long (Int64.ofInt 0), .long (Int64.ofInt 25)]) (r := [.ref (A 109)]) 10 (gd rfl) rfl rfl rfl rfl rfl (Nat.le_of_ble_eq_true rfl) (mc := 0) (ms := 0) (Nat.zero_le _) (Nat.zero_le _) (P := fun v u => _) ?_ (fun v u h => h)
  intro po7 xx7 hp7 hx7
  refine g_enter2 (k := 269) (N := 300) (by omega) rfl (Nat.le_of_ble_eq_true rfl) (g_lload_n 1 (gd rfl) rfl rfl (g_lload_n 2 (gd rfl) rfl rfl (g_lcmp 3 (gd rfl) rfl (fun z7x2 e7x2 => have i7x2 := lc_in e7x2; g_if_lt 6 17 (gd rfl) rfl rfl (fun c7x3 => ?_) (fun c7x3 => ?_)))))
  · skip
    have i7x3 := z_lt (-1) (-1) c7x3 i7x2 rfl
    have c7x3a := lc_lt e7x2 c7x3
    have i7x3a := lr_lt1 (-2147483648) (-1) c7x3a i2 (l_c 0 rfl) rfl
    have i7x3b := l_b e2 i7x3a
    refine g_iconst 0 18 (gd rfl) rfl rfl ?_
    refine g_ireturn (gd rfl) rfl (nb01 (in_w 0 1 (in_c 0 rfl) rfl)) (hp7 _ _ ?_)
    show GG _ _ _ _ _ _ _ _ [.int (Int32.ofInt 0), .ref (A 109)] _ _ _
    refine g_aload_n 11 (gd rfl) rfl rfl (g_getA (q2 := 110) 14 (gd rfl) rfl rfl rfl rfl (g_iconst 0 15 (gd rfl) rfl rfl (g_iaload 16 (gd rfl) rfl (n := 3) rfl (in_ix (in_c 0 rfl) rfl) (fun z15 e15 => have i15 := nn_01 hI (in_c 0 rfl) rfl e15; g_bipush 32 18 (gd rfl) rfl rfl (g_cmp_ge 21 35 (gd rfl) rfl rfl (fun c18 => ?_) (fun c18 => ?_))))))
    · skip
      have i18 := r_le2 32 32 c18 (in_c 32 rfl) i15 rfl
      refine g_iconst 0 36 (gd rfl) rfl rfl ?_
      refine g_callv (X := _) (As := [.int (Int32.ofInt 0), .int (Int32.ofInt 0)]) (r := []) (b := A 109) (q := 109) 39 (gd rfl) rfl rfl rfl rfl rfl (ww_o rfl) (Nat.le_of_ble_eq_true rfl) (mc := 0) (ms := 0) (Nat.zero_le _) (Nat.zero_le _) (P := fun v u => _) ?_ (fun e u h => h) (fun v u h => h)
      intro po36 xx36 hp36 hx36
      refine g_enter2 (k := 270) (N := 300) (by omega) rfl (Nat.le_of_ble_eq_true rfl) (g_aload_n 1 (gd rfl) rfl rfl (g_iload_n 2 (gd rfl) rfl rfl (g_if_ne 5 9 (gd rfl) rfl rfl (fun c36x2 => ?_) (fun c36x2 => ?_))))
      · skip
        exact zn_ne c36x2 (in_c 0 rfl) rfl
      · skip
        refine g_iconst 1 6 (gd rfl) rfl rfl (g_goto 18 (gd rfl) rfl (g_putI 21 (gd rfl) rfl rfl rfl rfl (have hI36x18 := inv_sF (q := 109) (j := 0) hI rfl (in_w 0 2 (in_c 1 rfl) rfl); g_aload_n 22 (gd rfl) rfl rfl (g_getIv (y := (Int32.ofInt 1)) 25 (gd rfl) rfl rfl rfl (sF_get) (g_if_le 28 32 (gd rfl) rfl rfl (fun c36x25 => ?_) (fun c36x25 => ?_))))))
        · skip
          exact zn_le c36x25 (in_c 1 rfl) rfl
        · skip
          refine g_iconst 1 29 (gd rfl) rfl rfl (g_goto 33 (gd rfl) rfl ?_)
          refine g_ireturn (gd rfl) rfl (nb01 (in_w 0 1 (in_c 1 rfl) rfl)) (hp36 _ _ ?_)
          show GG _ _ _ _ _ _ _ _ [.int (Int32.ofInt 1)] _ _ _
          refine g_if_eq 42 44 (gd rfl) rfl rfl (fun c39 => ?_) (fun c39 => ?_)
          · skip
            exact zn_eq c39 (in_c 1 rfl) rfl
          · skip
            refine g_iconst 0 43 (gd rfl) rfl rfl ?_
            have n43 : CDR s (sF s 109 0 (Int32.ofInt 1)) (In x1 0 25) ((s.1 110 0).toInt ≤ 31 ∧ (s.2.2.1 109 9).toInt ≤ 3999) (((Int32.ofInt 0)).toInt = (s.1 110 0).toInt ∧ gvR (sF s 109 0 (Int32.ofInt 1)) = gqN (gvR s) (s.1 110 0).toNatClampNeg x1) := by first | exact Or.inl ⟨rfl, (by unfold In; exact (have a0 := in_u ((inv_F hI 0 2 rfl e_109_0)); have a1 := in_u ((inv_F hI 0 4000 rfl e_109_9)); have a2 := in_u i7x3b; have a3 := in_u ((in_c 1 rfl)); have a4 := tx_i2l e2; have oc := oc_281_109; by omega)), (gvR_cg (L := ([], [], [(109, 0)], [])) (fr_sF rfl fr_rf) rfl)⟩ | exact Or.inr (Or.inl ⟨rfl, ⟨by exact (have a0 := in_u ((inv_F hI 0 2 rfl e_109_0)); have a1 := in_u ((inv_F hI 0 4000 rfl e_109_9)); have a2 := in_u i7x3b; have a3 := in_u ((in_c 1 rfl)); have a4 := tx_i2l e2; have oc := oc_281_109; by omega), by exact (have a0 := in_u ((inv_F hI 0 2 rfl e_109_0)); have a1 := in_u ((inv_F hI 0 4000 rfl e_109_9)); have a2 := in_u i7x3b; have a3 := in_u ((in_c 1 rfl)); have a4 := tx_i2l e2; have oc := oc_281_109; by omega)⟩, (by rw [show s.1 110 0 = z15 from e15.symm, ← e_109_9]; exact (have a0 := in_u ((inv_F hI 0 2 rfl e_109_0)); have a1 := in_u ((inv_F hI 0 4000 rfl e_109_9)); have a2 := in_u i7x3b; have a3 := in_u ((in_c 1 rfl)); have a4 := tx_i2l e2; have oc := oc_281_109; by omega)), (gvR_cg (L := ([], [], [(109, 0)], [])) (fr_sF rfl fr_rf) rfl)⟩)
            have n43a : LGX s (sF s 109 0 (Int32.ofInt 1)) (Int32.ofInt 0) x1 (Int32.ofInt 0) (Int32.ofInt 0) (Int32.ofInt 0) (Int32.ofInt 0) (Int32.ofInt 0) := by exact Or.inl ⟨rfl, rfl, rfl, rfl, rfl, rfl, rfl, rfl⟩
            have n43b : GSE s → GSE (sF s 109 0 (Int32.ofInt 1)) := by exact fun h => gse_fr (L := ([], [], [(109, 0)], [])) h (fr_sF rfl fr_rf) rfl
            have n43c : G1S s (sF s 109 0 (Int32.ofInt 1)) := by exact ⟨rfl, fun _ _ => rfl, fun _ _ _ => ⟨rfl, rfl, rfl, rfl, rfl, rfl⟩⟩
            exact g_ireturn (gd rfl) rfl rfl (hP _ _ ⟨(sF s 109 0 (Int32.ofInt 1)), hI36x18, (fr_sF rfl fr_rf), (Int32.ofInt 0), rfl, rfl, in_w (-1) 31 (in_c 0 rfl) rfl, n43, n43a, n43b, n43c⟩)
    · skip
      have i18 := r_lt1 0 31 c18 i15 (in_c 32 rfl) rfl
      refine g_aload_n 22 (gd rfl) rfl rfl (g_getIv (y := u_109_9) 25 (gd rfl) rfl rfl rfl (e_109_9) (g_sipush 4000 28 (gd rfl) rfl rfl (g_cmp_ge 31 35 (gd rfl) rfl rfl (fun c28 => ?_) (fun c28 => ?_))))
      · skip
        have i28 := r_le2 4000 4000 c28 (in_c 4000 rfl) (inv_F hI 0 4000 rfl e_109_9) rfl
        refine g_iconst 0 36 (gd rfl) rfl rfl ?_
        refine g_callv (X := _) (As := [.int (Int32.ofInt 0), .int (Int32.ofInt 0)]) (r := []) (b := A 109) (q := 109) 39 (gd rfl) rfl rfl rfl rfl rfl (ww_o rfl) (Nat.le_of_ble_eq_true rfl) (mc := 0) (ms := 0) (Nat.zero_le _) (Nat.zero_le _) (P := fun v u => _) ?_ (fun e u h => h) (fun v u h => h)
        intro po36 xx36 hp36 hx36
        refine g_enter2 (k := 270) (N := 300) (by omega) rfl (Nat.le_of_ble_eq_true rfl) (g_aload_n 1 (gd rfl) rfl rfl (g_iload_n 2 (gd rfl) rfl rfl (g_if_ne 5 9 (gd rfl) rfl rfl (fun c36x2 => ?_) (fun c36x2 => ?_))))
        · skip
          exact zn_ne c36x2 (in_c 0 rfl) rfl
        · skip
          refine g_iconst 1 6 (gd rfl) rfl rfl (g_goto 18 (gd rfl) rfl (g_putI 21 (gd rfl) rfl rfl rfl rfl (have hI36x18 := inv_sF (q := 109) (j := 0) hI rfl (in_w 0 2 (in_c 1 rfl) rfl); g_aload_n 22 (gd rfl) rfl rfl (g_getIv (y := (Int32.ofInt 1)) 25 (gd rfl) rfl rfl rfl (sF_get) (g_if_le 28 32 (gd rfl) rfl rfl (fun c36x25 => ?_) (fun c36x25 => ?_))))))
          · skip
            exact zn_le c36x25 (in_c 1 rfl) rfl
          · skip
            refine g_iconst 1 29 (gd rfl) rfl rfl (g_goto 33 (gd rfl) rfl ?_)
            refine g_ireturn (gd rfl) rfl (nb01 (in_w 0 1 (in_c 1 rfl) rfl)) (hp36 _ _ ?_)
            show GG _ _ _ _ _ _ _ _ [.int (Int32.ofInt 1)] _ _ _
            refine g_if_eq 42 44 (gd rfl) rfl rfl (fun c39 => ?_) (fun c39 => ?_)
            · skip
              exact zn_eq c39 (in_c 1 rfl) rfl
            · skip
              refine g_iconst 0 43 (gd rfl) rfl rfl ?_
              have n43 : CDR s (sF s 109 0 (Int32.ofInt 1)) (In x1 0 25) ((s.1 110 0).toInt ≤ 31 ∧ (s.2.2.1 109 9).toInt ≤ 3999) (((Int32.ofInt 0)).toInt = (s.1 110 0).toInt ∧ gvR (sF s 109 0 (Int32.ofInt 1)) = gqN (gvR s) (s.1 110 0).toNatClampNeg x1) := by first | exact Or.inl ⟨rfl, (by unfold In; exact (have a0 := in_u ((inv_F hI 0 2 rfl e_109_0)); have a1 := in_u i28; have a2 := in_u i7x3b; have a3 := in_u ((in_c 1 rfl)); have a4 := tx_i2l e2; have oc := oc_281_109; by omega)), (gvR_cg (L := ([], [], [(109, 0)], [])) (fr_sF rfl fr_rf) rfl)⟩ | exact Or.inr (Or.inl ⟨rfl, ⟨by exact (have a0 := in_u ((inv_F hI 0 2 rfl e_109_0)); have a1 := in_u i28; have a2 := in_u i7x3b; have a3 := in_u ((in_c 1 rfl)); have a4 := tx_i2l e2; have oc := oc_281_109; by omega), by exact (have a0 := in_u ((inv_F hI 0 2 rfl e_109_0)); have a1 := in_u i28; have a2 := in_u i7x3b; have a3 := in_u ((in_c 1 rfl)); have a4 := tx_i2l e2; have oc := oc_281_109; by omega)⟩, (by rw [show s.1 110 0 = z15 from e15.symm, ← e_109_9]; exact (have a0 := in_u ((inv_F hI 0 2 rfl e_109_0)); have a1 := in_u i28; have a2 := in_u i7x3b; have a3 := in_u ((in_c 1 rfl)); have a4 := tx_i2l e2; have oc := oc_281_109; by omega)), (gvR_cg (L := ([], [], [(109, 0)], [])) (fr_sF rfl fr_rf) rfl)⟩)
              have n43a : LGX s (sF s 109 0 (Int32.ofInt 1)) (Int32.ofInt 0) x1 (Int32.ofInt 0) (Int32.ofInt 0) (Int32.ofInt 0) (Int32.ofInt 0) (Int32.ofInt 0) := by exact Or.inl ⟨rfl, rfl, rfl, rfl, rfl, rfl, rfl, rfl⟩
              have n43b : GSE s → GSE (sF s 109 0 (Int32.ofInt 1)) := by exact fun h => gse_fr (L := ([], [], [(109, 0)], [])) h (fr_sF rfl fr_rf) rfl
              have n43c : G1S s (sF s 109 0 (Int32.ofInt 1)) := by exact ⟨rfl, fun _ _ => rfl, fun _ _ _ => ⟨rfl, rfl, rfl, rfl, rfl, rfl⟩⟩
              exact g_ireturn (gd rfl) rfl rfl (hP _ _ ⟨(sF s 109 0 (Int32.ofInt 1)), hI36x18, (fr_sF rfl fr_rf), (Int32.ofInt 0), rfl, rfl, in_w (-1) 31 (in_c 0 rfl) rfl, n43, n43a, n43b, n43c⟩)
      · skip
        have i28 := r_lt1 0 3999 c28 (inv_F hI 0 4000 rfl e_109_9) (in_c 4000 rfl) rfl
        refine g_iconst 1 32 (gd rfl) rfl rfl (g_goto 36 (gd rfl) rfl ?_)
        refine g_callv (X := _) (As := [.int (Int32.ofInt 0), .int (Int32.ofInt 1)]) (r := []) (b := A 109) (q := 109) 39 (gd rfl) rfl rfl rfl rfl rfl (ww_o rfl) (Nat.le_of_ble_eq_true rfl) (mc := 0) (ms := 0) (Nat.zero_le _) (Nat.zero_le _) (P := fun v u => _) ?_ (fun e u h => h) (fun v u h => h)
        intro po36 xx36 hp36 hx36
        refine g_enter2 (k := 270) (N := 300) (by omega) rfl (Nat.le_of_ble_eq_true rfl) (g_aload_n 1 (gd rfl) rfl rfl (g_iload_n 2 (gd rfl) rfl rfl (g_if_ne 5 9 (gd rfl) rfl rfl (fun c36x2 => ?_) (fun c36x2 => ?_))))
        · skip
          exact zn_ne c36x2 (in_c 0 rfl) rfl
        · skip
          refine g_iconst 1 6 (gd rfl) rfl rfl (g_goto 18 (gd rfl) rfl (g_putI 21 (gd rfl) rfl rfl rfl rfl (have hI36x18 := inv_sF (q := 109) (j := 0) hI rfl (in_w 0 2 (in_c 1 rfl) rfl); g_aload_n 22 (gd rfl) rfl rfl (g_getIv (y := (Int32.ofInt 1)) 25 (gd rfl) rfl rfl rfl (sF_get) (g_if_le 28 32 (gd rfl) rfl rfl (fun c36x25 => ?_) (fun c36x25 => ?_))))))
          · skip
            exact zn_le c36x25 (in_c 1 rfl) rfl
          · skip
            refine g_iconst 1 29 (gd rfl) rfl rfl (g_goto 33 (gd rfl) rfl ?_)
            refine g_ireturn (gd rfl) rfl (nb01 (in_w 0 1 (in_c 1 rfl) rfl)) (hp36 _ _ ?_)
            show GG _ _ _ _ _ _ _ _ [.int (Int32.ofInt 1)] _ _ _
            refine g_if_eq 42 44 (gd rfl) rfl rfl (fun c39 => ?_) (fun c39 => ?_)
            · skip
              exact zn_eq c39 (in_c 1 rfl) rfl
            · skip
              refine g_iconst 0 43 (gd rfl) rfl rfl ?_
              have n43 : CDR s (sF s 109 0 (Int32.ofInt 1)) (In x1 0 25) ((s.1 110 0).toInt ≤ 31 ∧ (s.2.2.1 109 9).toInt ≤ 3999) (((Int32.ofInt 0)).toInt = (s.1 110 0).toInt ∧ gvR (sF s 109 0 (Int32.ofInt 1)) = gqN (gvR s) (s.1 110 0).toNatClampNeg x1) := by first | exact Or.inl ⟨rfl, (by unfold In; exact (have a0 := in_u ((inv_F hI 0 2 rfl e_109_0)); have a1 := in_u i28; have a2 := in_u i7x3b; have a3 := in_u ((in_c 1 rfl)); have a4 := tx_i2l e2; have oc := oc_281_109; by omega)), (gvR_cg (L := ([], [], [(109, 0)], [])) (fr_sF rfl fr_rf) rfl)⟩ | exact Or.inr (Or.inl ⟨rfl, ⟨by exact (have a0 := in_u ((inv_F hI 0 2 rfl e_109_0)); have a1 := in_u i28; have a2 := in_u i7x3b; have a3 := in_u ((in_c 1 rfl)); have a4 := tx_i2l e2; have oc := oc_281_109; by omega), by exact (have a0 := in_u ((inv_F hI 0 2 rfl e_109_0)); have a1 := in_u i28; have a2 := in_u i7x3b; have a3 := in_u ((in_c 1 rfl)); have a4 := tx_i2l e2; have oc := oc_281_109; by omega)⟩, (by rw [show s.1 110 0 = z15 from e15.symm, ← e_109_9]; exact (have a0 := in_u ((inv_F hI 0 2 rfl e_109_0)); have a1 := in_u i28; have a2 := in_u i7x3b; have a3 := in_u ((in_c 1 rfl)); have a4 := tx_i2l e2; have oc := oc_281_109; by omega)), (gvR_cg (L := ([], [], [(109, 0)], [])) (fr_sF rfl fr_rf) rfl)⟩)
              have n43a : LGX s (sF s 109 0 (Int32.ofInt 1)) (Int32.ofInt 0) x1 (Int32.ofInt 0) (Int32.ofInt 0) (Int32.ofInt 0) (Int32.ofInt 0) (Int32.ofInt 0) := by exact Or.inl ⟨rfl, rfl, rfl, rfl, rfl, rfl, rfl, rfl⟩
              have n43b : GSE s → GSE (sF s 109 0 (Int32.ofInt 1)) := by exact fun h => gse_fr (L := ([], [], [(109, 0)], [])) h (fr_sF rfl fr_rf) rfl
              have n43c : G1S s (sF s 109 0 (Int32.ofInt 1)) := by exact ⟨rfl, fun _ _ => rfl, fun _ _ _ => ⟨rfl, rfl, rfl, rfl, rfl, rfl⟩⟩
              exact g_ireturn (gd rfl) rfl rfl (hP _ _ ⟨(sF s 109 0 (Int32.ofInt 1)), hI36x18, (fr_sF rfl fr_rf), (Int32.ofInt 0), rfl, rfl, in_w (-1) 31 (in_c 0 rfl) rfl, n43, n43a, n43b, n43c⟩)
  · skip
    have i7x3 := z_ge 0 1 c7x3 i7x2 rfl
    have c7x3a := lc_ge e7x2 c7x3
    have i7x3a := lr_le2 0 2147483647 c7x3a (l_c 0 rfl) i2 rfl
    have i7x3b := l_b e2 i7x3a
    refine g_lload_n 7 (gd rfl) rfl rfl (g_lload 9 (gd rfl) rfl rfl (g_lcmp 10 (gd rfl) rfl (fun z7x9 e7x9 => have i7x9 := lc_in e7x9; g_if_gt 13 17 (gd rfl) rfl rfl (fun c7x10 => ?_) (fun c7x10 => ?_))))
    · skip
      have i7x10 := z_gt 1 1 c7x10 i7x9 rfl
      have c7x10a := lc_gt e7x9 c7x10
      have i7x10a := lr_lt2 26 2147483647 c7x10a (l_c 25 rfl) i7x3a rfl
      have i7x10b := l_b e2 i7x10a
      refine g_iconst 0 18 (gd rfl) rfl rfl ?_
      refine g_ireturn (gd rfl) rfl (nb01 (in_w 0 1 (in_c 0 rfl) rfl)) (hp7 _ _ ?_)
      show GG _ _ _ _ _ _ _ _ [.int (Int32.ofInt 0), .ref (A 109)] _ _ _
      refine g_aload_n 11 (gd rfl) rfl rfl (g_getA (q2 := 110) 14 (gd rfl) rfl rfl rfl rfl (g_iconst 0 15 (gd rfl) rfl rfl (g_iaload 16 (gd rfl) rfl (n := 3) rfl (in_ix (in_c 0 rfl) rfl) (fun z15 e15 => have i15 := nn_01 hI (in_c 0 rfl) rfl e15; g_bipush 32 18 (gd rfl) rfl rfl (g_cmp_ge 21 35 (gd rfl) rfl rfl (fun c18 => ?_) (fun c18 => ?_))))))
      · skip
        have i18 := r_le2 32 32 c18 (in_c 32 rfl) i15 rfl
        refine g_iconst 0 36 (gd rfl) rfl rfl ?_
        refine g_callv (X := _) (As := [.int (Int32.ofInt 0), .int (Int32.ofInt 0)]) (r := []) (b := A 109) (q := 109) 39 (gd rfl) rfl rfl rfl rfl rfl (ww_o rfl) (Nat.le_of_ble_eq_true rfl) (mc := 0) (ms := 0) (Nat.zero_le _) (Nat.zero_le _) (P := fun v u => _) ?_ (fun e u h => h) (fun v u h => h)
        intro po36 xx36 hp36 hx36
        refine g_enter2 (k := 270) (N := 300) (by omega) rfl (Nat.le_of_ble_eq_true rfl) (g_aload_n 1 (gd rfl) rfl rfl (g_iload_n 2 (gd rfl) rfl rfl (g_if_ne 5 9 (gd rfl) rfl rfl (fun c36x2 => ?_) (fun c36x2 => ?_))))
        · skip
          exact zn_ne c36x2 (in_c 0 rfl) rfl
        · skip
          refine g_iconst 1 6 (gd rfl) rfl rfl (g_goto 18 (gd rfl) rfl (g_putI 21 (gd rfl) rfl rfl rfl rfl (have hI36x18 := inv_sF (q := 109) (j := 0) hI rfl (in_w 0 2 (in_c 1 rfl) rfl); g_aload_n 22 (gd rfl) rfl rfl (g_getIv (y := (Int32.ofInt 1)) 25 (gd rfl) rfl rfl rfl (sF_get) (g_if_le 28 32 (gd rfl) rfl rfl (fun c36x25 => ?_) (fun c36x25 => ?_))))))
          · skip
            exact zn_le c36x25 (in_c 1 rfl) rfl
          · skip
            refine g_iconst 1 29 (gd rfl) rfl rfl (g_goto 33 (gd rfl) rfl ?_)
            refine g_ireturn (gd rfl) rfl (nb01 (in_w 0 1 (in_c 1 rfl) rfl)) (hp36 _ _ ?_)
            show GG _ _ _ _ _ _ _ _ [.int (Int32.ofInt 1)] _ _ _
            refine g_if_eq 42 44 (gd rfl) rfl rfl (fun c39 => ?_) (fun c39 => ?_)
            · skip
              exact zn_eq c39 (in_c 1 rfl) rfl
            · skip
              refine g_iconst 0 43 (gd rfl) rfl rfl ?_
              have n43 : CDR s (sF s 109 0 (Int32.ofInt 1)) (In x1 0 25) ((s.1 110 0).toInt ≤ 31 ∧ (s.2.2.1 109 9).toInt ≤ 3999) (((Int32.ofInt 0)).toInt = (s.1 110 0).toInt ∧ gvR (sF s 109 0 (Int32.ofInt 1)) = gqN (gvR s) (s.1 110 0).toNatClampNeg x1) := by first | exact Or.inl ⟨rfl, (by unfold In; exact (have a0 := in_u ((inv_F hI 0 2 rfl e_109_0)); have a1 := in_u ((inv_F hI 0 4000 rfl e_109_9)); have a2 := in_u i7x10b; have a3 := in_u ((in_c 1 rfl)); have a4 := tx_i2l e2; have oc := oc_281_109; by omega)), (gvR_cg (L := ([], [], [(109, 0)], [])) (fr_sF rfl fr_rf) rfl)⟩ | exact Or.inr (Or.inl ⟨rfl, ⟨by exact (have a0 := in_u ((inv_F hI 0 2 rfl e_109_0)); have a1 := in_u ((inv_F hI 0 4000 rfl e_109_9)); have a2 := in_u i7x10b; have a3 := in_u ((in_c 1 rfl)); have a4 := tx_i2l e2; have oc := oc_281_109; by omega), by exact (have a0 := in_u ((inv_F hI 0 2 rfl e_109_0)); have a1 := in_u ((inv_F hI 0 4000 rfl e_109_9)); have a2 := in_u i7x10b; have a3 := in_u ((in_c 1 rfl)); have a4 := tx_i2l e2; have oc := oc_281_109; by omega)⟩, (by rw [show s.1 110 0 = z15 from e15.symm, ← e_109_9]; exact (have a0 := in_u ((inv_F hI 0 2 rfl e_109_0)); have a1 := in_u ((inv_F hI 0 4000 rfl e_109_9)); have a2 := in_u i7x10b; have a3 := in_u ((in_c 1 rfl)); have a4 := tx_i2l e2; have oc := oc_281_109; by omega)), (gvR_cg (L := ([], [], [(109, 0)], [])) (fr_sF rfl fr_rf) rfl)⟩)
              have n43a : LGX s (sF s 109 0 (Int32.ofInt 1)) (Int32.ofInt 0) x1 (Int32.ofInt 0) (Int32.ofInt 0) (Int32.ofInt 0) (Int32.ofInt 0) (Int32.ofInt 0) := by exact Or.inl ⟨rfl, rfl, rfl, rfl, rfl, rfl, rfl, rfl⟩
              have n43b : GSE s → GSE (sF s 109 0 (Int32.ofInt 1)) := by exact fun h => gse_fr (L := ([], [], [(109, 0)], [])) h (fr_sF rfl fr_rf) rfl
              have n43c : G1S s (sF s 109 0 (Int32.ofInt 1)) := by exact ⟨rfl, fun _ _ => rfl, fun _ _ _ => ⟨rfl, rfl, rfl, rfl, rfl, rfl⟩⟩
              exact g_ireturn (gd rfl) rfl rfl (hP _ _ ⟨(sF s 109 0 (Int32.ofInt 1)), hI36x18, (fr_sF rfl fr_rf), (Int32.ofInt 0), rfl, rfl, in_w (-1) 31 (in_c 0 rfl) rfl, n43, n43a, n43b, n43c⟩)
      · skip
        have i18 := r_lt1 0 31 c18 i15 (in_c 32 rfl) rfl
        refine g_aload_n 22 (gd rfl) rfl rfl (g_getIv (y := u_109_9) 25 (gd rfl) rfl rfl rfl (e_109_9) (g_sipush 4000 28 (gd rfl) rfl rfl (g_cmp_ge 31 35 (gd rfl) rfl rfl (fun c28 => ?_) (fun c28 => ?_))))
        · skip
          have i28 := r_le2 4000 4000 c28 (in_c 4000 rfl) (inv_F hI 0 4000 rfl e_109_9) rfl
          refine g_iconst 0 36 (gd rfl) rfl rfl ?_
          refine g_callv (X := _) (As := [.int (Int32.ofInt 0), .int (Int32.ofInt 0)]) (r := []) (b := A 109) (q := 109) 39 (gd rfl) rfl rfl rfl rfl rfl (ww_o rfl) (Nat.le_of_ble_eq_true rfl) (mc := 0) (ms := 0) (Nat.zero_le _) (Nat.zero_le _) (P := fun v u => _) ?_ (fun e u h => h) (fun v u h => h)
          intro po36 xx36 hp36 hx36
          refine g_enter2 (k := 270) (N := 300) (by omega) rfl (Nat.le_of_ble_eq_true rfl) (g_aload_n 1 (gd rfl) rfl rfl (g_iload_n 2 (gd rfl) rfl rfl (g_if_ne 5 9 (gd rfl) rfl rfl (fun c36x2 => ?_) (fun c36x2 => ?_))))
          · skip
            exact zn_ne c36x2 (in_c 0 rfl) rfl
          · skip
            refine g_iconst 1 6 (gd rfl) rfl rfl (g_goto 18 (gd rfl) rfl (g_putI 21 (gd rfl) rfl rfl rfl rfl (have hI36x18 := inv_sF (q := 109) (j := 0) hI rfl (in_w 0 2 (in_c 1 rfl) rfl); g_aload_n 22 (gd rfl) rfl rfl (g_getIv (y := (Int32.ofInt 1)) 25 (gd rfl) rfl rfl rfl (sF_get) (g_if_le 28 32 (gd rfl) rfl rfl (fun c36x25 => ?_) (fun c36x25 => ?_))))))
            · skip
              exact zn_le c36x25 (in_c 1 rfl) rfl
            · skip
              refine g_iconst 1 29 (gd rfl) rfl rfl (g_goto 33 (gd rfl) rfl ?_)
              refine g_ireturn (gd rfl) rfl (nb01 (in_w 0 1 (in_c 1 rfl) rfl)) (hp36 _ _ ?_)
              show GG _ _ _ _ _ _ _ _ [.int (Int32.ofInt 1)] _ _ _
              refine g_if_eq 42 44 (gd rfl) rfl rfl (fun c39 => ?_) (fun c39 => ?_)
              · skip
                exact zn_eq c39 (in_c 1 rfl) rfl
              · skip
                refine g_iconst 0 43 (gd rfl) rfl rfl ?_
                have n43 : CDR s (sF s 109 0 (Int32.ofInt 1)) (In x1 0 25) ((s.1 110 0).toInt ≤ 31 ∧ (s.2.2.1 109 9).toInt ≤ 3999) (((Int32.ofInt 0)).toInt = (s.1 110 0).toInt ∧ gvR (sF s 109 0 (Int32.ofInt 1)) = gqN (gvR s) (s.1 110 0).toNatClampNeg x1) := by first | exact Or.inl ⟨rfl, (by unfold In; exact (have a0 := in_u ((inv_F hI 0 2 rfl e_109_0)); have a1 := in_u i28; have a2 := in_u i7x10b; have a3 := in_u ((in_c 1 rfl)); have a4 := tx_i2l e2; have oc := oc_281_109; by omega)), (gvR_cg (L := ([], [], [(109, 0)], [])) (fr_sF rfl fr_rf) rfl)⟩ | exact Or.inr (Or.inl ⟨rfl, ⟨by exact (have a0 := in_u ((inv_F hI 0 2 rfl e_109_0)); have a1 := in_u i28; have a2 := in_u i7x10b; have a3 := in_u ((in_c 1 rfl)); have a4 := tx_i2l e2; have oc := oc_281_109; by omega), by exact (have a0 := in_u ((inv_F hI 0 2 rfl e_109_0)); have a1 := in_u i28; have a2 := in_u i7x10b; have a3 := in_u ((in_c 1 rfl)); have a4 := tx_i2l e2; have oc := oc_281_109; by omega)⟩, (by rw [show s.1 110 0 = z15 from e15.symm, ← e_109_9]; exact (have a0 := in_u ((inv_F hI 0 2 rfl e_109_0)); have a1 := in_u i28; have a2 := in_u i7x10b; have a3 := in_u ((in_c 1 rfl)); have a4 := tx_i2l e2; have oc := oc_281_109; by omega)), (gvR_cg (L := ([], [], [(109, 0)], [])) (fr_sF rfl fr_rf) rfl)⟩)
                have n43a : LGX s (sF s 109 0 (Int32.ofInt 1)) (Int32.ofInt 0) x1 (Int32.ofInt 0) (Int32.ofInt 0) (Int32.ofInt 0) (Int32.ofInt 0) (Int32.ofInt 0) := by exact Or.inl ⟨rfl, rfl, rfl, rfl, rfl, rfl, rfl, rfl⟩
                have n43b : GSE s → GSE (sF s 109 0 (Int32.ofInt 1)) := by exact fun h => gse_fr (L := ([], [], [(109, 0)], [])) h (fr_sF rfl fr_rf) rfl
                have n43c : G1S s (sF s 109 0 (Int32.ofInt 1)) := by exact ⟨rfl, fun _ _ => rfl, fun _ _ _ => ⟨rfl, rfl, rfl, rfl, rfl, rfl⟩⟩
                exact g_ireturn (gd rfl) rfl rfl (hP _ _ ⟨(sF s 109 0 (Int32.ofInt 1)), hI36x18, (fr_sF rfl fr_rf), (Int32.ofInt 0), rfl, rfl, in_w (-1) 31 (in_c 0 rfl) rfl, n43, n43a, n43b, n43c⟩)
        · skip
          have i28 := r_lt1 0 3999 c28 (inv_F hI 0 4000 rfl e_109_9) (in_c 4000 rfl) rfl
          refine g_iconst 1 32 (gd rfl) rfl rfl (g_goto 36 (gd rfl) rfl ?_)
          refine g_callv (X := _) (As := [.int (Int32.ofInt 0), .int (Int32.ofInt 1)]) (r := []) (b := A 109) (q := 109) 39 (gd rfl) rfl rfl rfl rfl rfl (ww_o rfl) (Nat.le_of_ble_eq_true rfl) (mc := 0) (ms := 0) (Nat.zero_le _) (Nat.zero_le _) (P := fun v u => _) ?_ (fun e u h => h) (fun v u h => h)
          intro po36 xx36 hp36 hx36
          refine g_enter2 (k := 270) (N := 300) (by omega) rfl (Nat.le_of_ble_eq_true rfl) (g_aload_n 1 (gd rfl) rfl rfl (g_iload_n 2 (gd rfl) rfl rfl (g_if_ne 5 9 (gd rfl) rfl rfl (fun c36x2 => ?_) (fun c36x2 => ?_))))
          · skip
            exact zn_ne c36x2 (in_c 0 rfl) rfl
          · skip
            refine g_iconst 1 6 (gd rfl) rfl rfl (g_goto 18 (gd rfl) rfl (g_putI 21 (gd rfl) rfl rfl rfl rfl (have hI36x18 := inv_sF (q := 109) (j := 0) hI rfl (in_w 0 2 (in_c 1 rfl) rfl); g_aload_n 22 (gd rfl) rfl rfl (g_getIv (y := (Int32.ofInt 1)) 25 (gd rfl) rfl rfl rfl (sF_get) (g_if_le 28 32 (gd rfl) rfl rfl (fun c36x25 => ?_) (fun c36x25 => ?_))))))
            · skip
              exact zn_le c36x25 (in_c 1 rfl) rfl
            · skip
              refine g_iconst 1 29 (gd rfl) rfl rfl (g_goto 33 (gd rfl) rfl ?_)
              refine g_ireturn (gd rfl) rfl (nb01 (in_w 0 1 (in_c 1 rfl) rfl)) (hp36 _ _ ?_)
              show GG _ _ _ _ _ _ _ _ [.int (Int32.ofInt 1)] _ _ _
              refine g_if_eq 42 44 (gd rfl) rfl rfl (fun c39 => ?_) (fun c39 => ?_)
              · skip
                exact zn_eq c39 (in_c 1 rfl) rfl
              · skip
                refine g_iconst 0 43 (gd rfl) rfl rfl ?_
                have n43 : CDR s (sF s 109 0 (Int32.ofInt 1)) (In x1 0 25) ((s.1 110 0).toInt ≤ 31 ∧ (s.2.2.1 109 9).toInt ≤ 3999) (((Int32.ofInt 0)).toInt = (s.1 110 0).toInt ∧ gvR (sF s 109 0 (Int32.ofInt 1)) = gqN (gvR s) (s.1 110 0).toNatClampNeg x1) := by first | exact Or.inl ⟨rfl, (by unfold In; exact (have a0 := in_u ((inv_F hI 0 2 rfl e_109_0)); have a1 := in_u i28; have a2 := in_u i7x10b; have a3 := in_u ((in_c 1 rfl)); have a4 := tx_i2l e2; have oc := oc_281_109; by omega)), (gvR_cg (L := ([], [], [(109, 0)], [])) (fr_sF rfl fr_rf) rfl)⟩ | exact Or.inr (Or.inl ⟨rfl, ⟨by exact (have a0 := in_u ((inv_F hI 0 2 rfl e_109_0)); have a1 := in_u i28; have a2 := in_u i7x10b; have a3 := in_u ((in_c 1 rfl)); have a4 := tx_i2l e2; have oc := oc_281_109; by omega), by exact (have a0 := in_u ((inv_F hI 0 2 rfl e_109_0)); have a1 := in_u i28; have a2 := in_u i7x10b; have a3 := in_u ((in_c 1 rfl)); have a4 := tx_i2l e2; have oc := oc_281_109; by omega)⟩, (by rw [show s.1 110 0 = z15 from e15.symm, ← e_109_9]; exact (have a0 := in_u ((inv_F hI 0 2 rfl e_109_0)); have a1 := in_u i28; have a2 := in_u i7x10b; have a3 := in_u ((in_c 1 rfl)); have a4 := tx_i2l e2; have oc := oc_281_109; by omega)), (gvR_cg (L := ([], [], [(109, 0)], [])) (fr_sF rfl fr_rf) rfl)⟩)
                have n43a : LGX s (sF s 109 0 (Int32.ofInt 1)) (Int32.ofInt 0) x1 (Int32.ofInt 0) (Int32.ofInt 0) (Int32.ofInt 0) (Int32.ofInt 0) (Int32.ofInt 0) := by exact Or.inl ⟨rfl, rfl, rfl, rfl, rfl, rfl, rfl, rfl⟩
                have n43b : GSE s → GSE (sF s 109 0 (Int32.ofInt 1)) := by exact fun h => gse_fr (L := ([], [], [(109, 0)], [])) h (fr_sF rfl fr_rf) rfl
                have n43c : G1S s (sF s 109 0 (Int32.ofInt 1)) := by exact ⟨rfl, fun _ _ => rfl, fun _ _ _ => ⟨rfl, rfl, rfl, rfl, rfl, rfl⟩⟩
                exact g_ireturn (gd rfl) rfl rfl (hP _ _ ⟨(sF s 109 0 (Int32.ofInt 1)), hI36x18, (fr_sF rfl fr_rf), (Int32.ofInt 0), rfl, rfl, in_w (-1) 31 (in_c 0 rfl) rfl, n43, n43a, n43b, n43c⟩)
    · skip
      have i7x10 := z_le (-1) 0 c7x10 i7x9 rfl
      have c7x10a := lc_le e7x9 c7x10
      have i7x10a := lr_le1 0 25 c7x10a i7x3a (l_c 25 rfl) rfl
      have i7x10b := l_b e2 i7x10a
      refine g_iconst 1 14 (gd rfl) rfl rfl (g_goto 18 (gd rfl) rfl ?_)
      refine g_ireturn (gd rfl) rfl (nb01 (in_w 0 1 (in_c 1 rfl) rfl)) (hp7 _ _ ?_)
      show GG _ _ _ _ _ _ _ _ [.int (Int32.ofInt 1), .ref (A 109)] _ _ _
      refine g_aload_n 11 (gd rfl) rfl rfl (g_getA (q2 := 110) 14 (gd rfl) rfl rfl rfl rfl (g_iconst 0 15 (gd rfl) rfl rfl (g_iaload 16 (gd rfl) rfl (n := 3) rfl (in_ix (in_c 0 rfl) rfl) (fun z15 e15 => have i15 := nn_01 hI (in_c 0 rfl) rfl e15; g_bipush 32 18 (gd rfl) rfl rfl (g_cmp_ge 21 35 (gd rfl) rfl rfl (fun c18 => ?_) (fun c18 => ?_))))))
      · skip
        have i18 := r_le2 32 32 c18 (in_c 32 rfl) i15 rfl
        refine g_iconst 0 36 (gd rfl) rfl rfl ?_
        refine g_callv (X := _) (As := [.int (Int32.ofInt 1), .int (Int32.ofInt 0)]) (r := []) (b := A 109) (q := 109) 39 (gd rfl) rfl rfl rfl rfl rfl (ww_o rfl) (Nat.le_of_ble_eq_true rfl) (mc := 0) (ms := 0) (Nat.zero_le _) (Nat.zero_le _) (P := fun v u => _) ?_ (fun e u h => h) (fun v u h => h)
        intro po36 xx36 hp36 hx36
        refine g_enter2 (k := 270) (N := 300) (by omega) rfl (Nat.le_of_ble_eq_true rfl) (g_aload_n 1 (gd rfl) rfl rfl (g_iload_n 2 (gd rfl) rfl rfl (g_if_ne 5 9 (gd rfl) rfl rfl (fun c36x2 => ?_) (fun c36x2 => ?_))))
        · skip
          refine g_iload_n 10 (gd rfl) rfl rfl (g_if_ne 13 17 (gd rfl) rfl rfl (fun c36x10 => ?_) (fun c36x10 => ?_))
          · skip
            exact zn_ne c36x10 (in_c 0 rfl) rfl
          · skip
            refine g_iconst 2 14 (gd rfl) rfl rfl (g_goto 18 (gd rfl) rfl (g_putI 21 (gd rfl) rfl rfl rfl rfl (have hI36x18 := inv_sF (q := 109) (j := 0) hI rfl (in_w 0 2 (in_c 2 rfl) rfl); g_aload_n 22 (gd rfl) rfl rfl (g_getIv (y := (Int32.ofInt 2)) 25 (gd rfl) rfl rfl rfl (sF_get) (g_if_le 28 32 (gd rfl) rfl rfl (fun c36x25 => ?_) (fun c36x25 => ?_))))))
            · skip
              exact zn_le c36x25 (in_c 2 rfl) rfl
            · skip
              refine g_iconst 1 29 (gd rfl) rfl rfl (g_goto 33 (gd rfl) rfl ?_)
              refine g_ireturn (gd rfl) rfl (nb01 (in_w 0 1 (in_c 1 rfl) rfl)) (hp36 _ _ ?_)
              show GG _ _ _ _ _ _ _ _ [.int (Int32.ofInt 1)] _ _ _
              refine g_if_eq 42 44 (gd rfl) rfl rfl (fun c39 => ?_) (fun c39 => ?_)
              · skip
                exact zn_eq c39 (in_c 1 rfl) rfl
              · skip
                refine g_iconst 0 43 (gd rfl) rfl rfl ?_
                have n43 : CDR s (sF s 109 0 (Int32.ofInt 2)) (In x1 0 25) ((s.1 110 0).toInt ≤ 31 ∧ (s.2.2.1 109 9).toInt ≤ 3999) (((Int32.ofInt 0)).toInt = (s.1 110 0).toInt ∧ gvR (sF s 109 0 (Int32.ofInt 2)) = gqN (gvR s) (s.1 110 0).toNatClampNeg x1) := by first | exact Or.inl ⟨rfl, (by unfold In; exact (have a0 := in_u i7x10b; have a1 := in_u ((inv_F hI 0 2 rfl e_109_0)); have a2 := in_u ((inv_F hI 0 4000 rfl e_109_9)); have a3 := in_u ((in_c 2 rfl)); have a4 := tx_i2l e2; have oc := oc_281_109; by omega)), (gvR_cg (L := ([], [], [(109, 0)], [])) (fr_sF rfl fr_rf) rfl)⟩ | exact Or.inr (Or.inl ⟨rfl, ⟨by exact (have a0 := in_u i7x10b; have a1 := in_u ((inv_F hI 0 2 rfl e_109_0)); have a2 := in_u ((inv_F hI 0 4000 rfl e_109_9)); have a3 := in_u ((in_c 2 rfl)); have a4 := tx_i2l e2; have oc := oc_281_109; by omega), by exact (have a0 := in_u i7x10b; have a1 := in_u ((inv_F hI 0 2 rfl e_109_0)); have a2 := in_u ((inv_F hI 0 4000 rfl e_109_9)); have a3 := in_u ((in_c 2 rfl)); have a4 := tx_i2l e2; have oc := oc_281_109; by omega)⟩, (by rw [show s.1 110 0 = z15 from e15.symm, ← e_109_9]; exact (have a0 := in_u i7x10b; have a1 := in_u ((inv_F hI 0 2 rfl e_109_0)); have a2 := in_u ((inv_F hI 0 4000 rfl e_109_9)); have a3 := in_u ((in_c 2 rfl)); have a4 := tx_i2l e2; have oc := oc_281_109; by omega)), (gvR_cg (L := ([], [], [(109, 0)], [])) (fr_sF rfl fr_rf) rfl)⟩)
                have n43a : LGX s (sF s 109 0 (Int32.ofInt 2)) (Int32.ofInt 0) x1 (Int32.ofInt 0) (Int32.ofInt 0) (Int32.ofInt 0) (Int32.ofInt 0) (Int32.ofInt 0) := by exact Or.inl ⟨rfl, rfl, rfl, rfl, rfl, rfl, rfl, rfl⟩
                have n43b : GSE s → GSE (sF s 109 0 (Int32.ofInt 2)) := by exact fun h => gse_fr (L := ([], [], [(109, 0)], [])) h (fr_sF rfl fr_rf) rfl
                have n43c : G1S s (sF s 109 0 (Int32.ofInt 2)) := by exact ⟨rfl, fun _ _ => rfl, fun _ _ _ => ⟨rfl, rfl, rfl, rfl, rfl, rfl⟩⟩
                exact g_ireturn (gd rfl) rfl rfl (hP _ _ ⟨(sF s 109 0 (Int32.ofInt 2)), hI36x18, (fr_sF rfl fr_rf), (Int32.ofInt 0), rfl, rfl, in_w (-1) 31 (in_c 0 rfl) rfl, n43, n43a, n43b, n43c⟩)
        · skip
          exact zn_eq c36x2 (in_c 1 rfl) rfl
      · skip
        have i18 := r_lt1 0 31 c18 i15 (in_c 32 rfl) rfl
        refine g_aload_n 22 (gd rfl) rfl rfl (g_getIv (y := u_109_9) 25 (gd rfl) rfl rfl rfl (e_109_9) (g_sipush 4000 28 (gd rfl) rfl rfl (g_cmp_ge 31 35 (gd rfl) rfl rfl (fun c28 => ?_) (fun c28 => ?_))))
        · skip
          have i28 := r_le2 4000 4000 c28 (in_c 4000 rfl) (inv_F hI 0 4000 rfl e_109_9) rfl
          refine g_iconst 0 36 (gd rfl) rfl rfl ?_
          refine g_callv (X := _) (As := [.int (Int32.ofInt 1), .int (Int32.ofInt 0)]) (r := []) (b := A 109) (q := 109) 39 (gd rfl) rfl rfl rfl rfl rfl (ww_o rfl) (Nat.le_of_ble_eq_true rfl) (mc := 0) (ms := 0) (Nat.zero_le _) (Nat.zero_le _) (P := fun v u => _) ?_ (fun e u h => h) (fun v u h => h)
          intro po36 xx36 hp36 hx36
          refine g_enter2 (k := 270) (N := 300) (by omega) rfl (Nat.le_of_ble_eq_true rfl) (g_aload_n 1 (gd rfl) rfl rfl (g_iload_n 2 (gd rfl) rfl rfl (g_if_ne 5 9 (gd rfl) rfl rfl (fun c36x2 => ?_) (fun c36x2 => ?_))))
          · skip
            refine g_iload_n 10 (gd rfl) rfl rfl (g_if_ne 13 17 (gd rfl) rfl rfl (fun c36x10 => ?_) (fun c36x10 => ?_))
            · skip
              exact zn_ne c36x10 (in_c 0 rfl) rfl
            · skip
              refine g_iconst 2 14 (gd rfl) rfl rfl (g_goto 18 (gd rfl) rfl (g_putI 21 (gd rfl) rfl rfl rfl rfl (have hI36x18 := inv_sF (q := 109) (j := 0) hI rfl (in_w 0 2 (in_c 2 rfl) rfl); g_aload_n 22 (gd rfl) rfl rfl (g_getIv (y := (Int32.ofInt 2)) 25 (gd rfl) rfl rfl rfl (sF_get) (g_if_le 28 32 (gd rfl) rfl rfl (fun c36x25 => ?_) (fun c36x25 => ?_))))))
              · skip
                exact zn_le c36x25 (in_c 2 rfl) rfl
              · skip
                refine g_iconst 1 29 (gd rfl) rfl rfl (g_goto 33 (gd rfl) rfl ?_)
                refine g_ireturn (gd rfl) rfl (nb01 (in_w 0 1 (in_c 1 rfl) rfl)) (hp36 _ _ ?_)
                show GG _ _ _ _ _ _ _ _ [.int (Int32.ofInt 1)] _ _ _
                refine g_if_eq 42 44 (gd rfl) rfl rfl (fun c39 => ?_) (fun c39 => ?_)
                · skip
                  exact zn_eq c39 (in_c 1 rfl) rfl
                · skip
                  refine g_iconst 0 43 (gd rfl) rfl rfl ?_
                  have n43 : CDR s (sF s 109 0 (Int32.ofInt 2)) (In x1 0 25) ((s.1 110 0).toInt ≤ 31 ∧ (s.2.2.1 109 9).toInt ≤ 3999) (((Int32.ofInt 0)).toInt = (s.1 110 0).toInt ∧ gvR (sF s 109 0 (Int32.ofInt 2)) = gqN (gvR s) (s.1 110 0).toNatClampNeg x1) := by first | exact Or.inl ⟨rfl, (by unfold In; exact (have a0 := in_u i7x10b; have a1 := in_u ((inv_F hI 0 2 rfl e_109_0)); have a2 := in_u i28; have a3 := in_u ((in_c 2 rfl)); have a4 := tx_i2l e2; have oc := oc_281_109; by omega)), (gvR_cg (L := ([], [], [(109, 0)], [])) (fr_sF rfl fr_rf) rfl)⟩ | exact Or.inr (Or.inl ⟨rfl, ⟨by exact (have a0 := in_u i7x10b; have a1 := in_u ((inv_F hI 0 2 rfl e_109_0)); have a2 := in_u i28; have a3 := in_u ((in_c 2 rfl)); have a4 := tx_i2l e2; have oc := oc_281_109; by omega), by exact (have a0 := in_u i7x10b; have a1 := in_u ((inv_F hI 0 2 rfl e_109_0)); have a2 := in_u i28; have a3 := in_u ((in_c 2 rfl)); have a4 := tx_i2l e2; have oc := oc_281_109; by omega)⟩, (by rw [show s.1 110 0 = z15 from e15.symm, ← e_109_9]; exact (have a0 := in_u i7x10b; have a1 := in_u ((inv_F hI 0 2 rfl e_109_0)); have a2 := in_u i28; have a3 := in_u ((in_c 2 rfl)); have a4 := tx_i2l e2; have oc := oc_281_109; by omega)), (gvR_cg (L := ([], [], [(109, 0)], [])) (fr_sF rfl fr_rf) rfl)⟩)
                  have n43a : LGX s (sF s 109 0 (Int32.ofInt 2)) (Int32.ofInt 0) x1 (Int32.ofInt 0) (Int32.ofInt 0) (Int32.ofInt 0) (Int32.ofInt 0) (Int32.ofInt 0) := by exact Or.inl ⟨rfl, rfl, rfl, rfl, rfl, rfl, rfl, rfl⟩
                  have n43b : GSE s → GSE (sF s 109 0 (Int32.ofInt 2)) := by exact fun h => gse_fr (L := ([], [], [(109, 0)], [])) h (fr_sF rfl fr_rf) rfl
                  have n43c : G1S s (sF s 109 0 (Int32.ofInt 2)) := by exact ⟨rfl, fun _ _ => rfl, fun _ _ _ => ⟨rfl, rfl, rfl, rfl, rfl, rfl⟩⟩
                  exact g_ireturn (gd rfl) rfl rfl (hP _ _ ⟨(sF s 109 0 (Int32.ofInt 2)), hI36x18, (fr_sF rfl fr_rf), (Int32.ofInt 0), rfl, rfl, in_w (-1) 31 (in_c 0 rfl) rfl, n43, n43a, n43b, n43c⟩)
          · skip
            exact zn_eq c36x2 (in_c 1 rfl) rfl
        · skip
          have i28 := r_lt1 0 3999 c28 (inv_F hI 0 4000 rfl e_109_9) (in_c 4000 rfl) rfl
          refine g_iconst 1 32 (gd rfl) rfl rfl (g_goto 36 (gd rfl) rfl ?_)
          refine g_callv (X := _) (As := [.int (Int32.ofInt 1), .int (Int32.ofInt 1)]) (r := []) (b := A 109) (q := 109) 39 (gd rfl) rfl rfl rfl rfl rfl (ww_o rfl) (Nat.le_of_ble_eq_true rfl) (mc := 0) (ms := 0) (Nat.zero_le _) (Nat.zero_le _) (P := fun v u => _) ?_ (fun e u h => h) (fun v u h => h)
          intro po36 xx36 hp36 hx36
          refine g_enter2 (k := 270) (N := 300) (by omega) rfl (Nat.le_of_ble_eq_true rfl) (g_aload_n 1 (gd rfl) rfl rfl (g_iload_n 2 (gd rfl) rfl rfl (g_if_ne 5 9 (gd rfl) rfl rfl (fun c36x2 => ?_) (fun c36x2 => ?_))))
          · skip
            refine g_iload_n 10 (gd rfl) rfl rfl (g_if_ne 13 17 (gd rfl) rfl rfl (fun c36x10 => ?_) (fun c36x10 => ?_))
            · skip
              refine g_iconst 0 18 (gd rfl) rfl rfl (g_putI 21 (gd rfl) rfl rfl rfl rfl (have hI36x18 := inv_sF (q := 109) (j := 0) hI rfl (in_w 0 2 (in_c 0 rfl) rfl); g_aload_n 22 (gd rfl) rfl rfl (g_getIv (y := (Int32.ofInt 0)) 25 (gd rfl) rfl rfl rfl (sF_get) (g_if_le 28 32 (gd rfl) rfl rfl (fun c36x25 => ?_) (fun c36x25 => ?_)))))
              · skip
                refine g_iconst 0 33 (gd rfl) rfl rfl ?_
                refine g_ireturn (gd rfl) rfl (nb01 (in_w 0 1 (in_c 0 rfl) rfl)) (hp36 _ _ ?_)
                show GG _ _ _ _ _ _ _ _ [.int (Int32.ofInt 0)] _ _ _
                refine g_if_eq 42 44 (gd rfl) rfl rfl (fun c39 => ?_) (fun c39 => ?_)
                · skip
                  refine g_aload_n 45 (gd rfl) rfl rfl (g_iconst 0 46 (gd rfl) rfl rfl (g_iload_n 47 (gd rfl) rfl rfl (g_iconst 0 48 (gd rfl) rfl rfl (g_iconst 0 49 (gd rfl) rfl rfl (g_iconst 0 50 (gd rfl) rfl rfl (g_iconst 0 51 (gd rfl) rfl rfl (g_iconst 0 52 (gd rfl) rfl rfl ?_)))))))
                  have v52 : u_109_9 = (sF s 109 0 (Int32.ofInt 0)).2.2.1 109 9 := sF_ne rfl (e_109_9)
                  have p52 : MK (sF s 109 0 (Int32.ofInt 0)) (Int32.ofInt 0) x1 (Int32.ofInt 0) (Int32.ofInt 0) := by refine ⟨fun _ => ⟨by exact (have a0 := in_u i7x10b; have a1 := in_u ((inv_F hI 0 2 rfl e_109_0)); have a2 := in_u i28; have a3 := in_u ((in_c 0 rfl)); have a4 := tx_i2l e2; have oc := oc_281_109; by omega), ?_⟩, fun h => absurd h (by decide), fun h => absurd h (by decide), fun h => absurd h (by decide), fun h => absurd h (by decide)⟩; have e0 : ((sF s 109 0 (Int32.ofInt 0))).1 110 0 = z15 := e15.symm; rw [e0]; exact i18.2
                  refine g_callv (X := _) (As := [.int (Int32.ofInt 0), .int x1, .int (Int32.ofInt 0), .int (Int32.ofInt 0), .int (Int32.ofInt 0), .int (Int32.ofInt 0), .int (Int32.ofInt 0)]) (r := []) (b := A 109) (q := 109) 55 (gd rfl) rfl rfl rfl rfl rfl (ww_o rfl) (Nat.le_of_ble_eq_true rfl) (Nat.zero_le _) (Nat.zero_le _) (f_274 (by omega) hI36x18 (in_w 0 4 (in_c 0 rfl) rfl) (in_w 0 159 i7x10b rfl) (in_w 0 31 (in_c 0 rfl) rfl) (in_w (-1000000) 1000000 (in_c 0 rfl) rfl) (in_w (-1000000) 1000000 (in_c 0 rfl) rfl) (in_w 0 1000000 (in_c 0 rfl) rfl) (in_w 0 25 (in_c 0 rfl) rfl) v52 (in_w 0 3999 i28 rfl) p52) (fun e u h => h) (fun v u h => ?_)
                  obtain ⟨s52, hI52, hF52, n52, rfl, rfl, p52a, p52b, p52c, p52d, p52e⟩ := h
                  obtain ⟨z52a, e52⟩ : ∃ w, w = s52.2.2.1 109 9 := ⟨_, rfl⟩
                  have i52a := inv_F hI52 0 4000 rfl e52
                  rw [← (show u_109_9 = (sF s 109 0 (Int32.ofInt 0)).2.2.1 109 9 from sF_ne rfl (e_109_9))] at n52
                  rw [← (show z52a = s52.2.2.1 109 9 from e52)] at n52
                  show GG _ _ _ _ _ _ _ _ [] _ _ _
                  refine g_aload_n 56 (gd rfl) rfl rfl (g_getA (q2 := 110) 59 (gd rfl) rfl rfl rfl rfl (g_iconst 0 60 (gd rfl) rfl rfl (g_iaload 61 (gd rfl) rfl (n := 3) rfl (in_ix (in_c 0 rfl) rfl) (fun z60 e60 => have i60 := nn_01 hI52 (in_c 0 rfl) rfl e60; g_iconst 1 62 (gd rfl) rfl rfl (g_isub 63 (gd rfl) rfl (fun z62 e62 => ?_))))))
                  have i62 := in_sub (-1) 31 e62 i60 (in_c 1 rfl) rfl rfl
                  have n63 : CDR s s52 (In x1 0 25) ((s.1 110 0).toInt ≤ 31 ∧ (s.2.2.1 109 9).toInt ≤ 3999) ((z62).toInt = (s.1 110 0).toInt ∧ gvR s52 = gqN (gvR s) (s.1 110 0).toNatClampNeg x1) := by exact Or.inr (Or.inr ⟨(by have hc9 : s52.2.2.1 109 0 = Int32.ofInt 0 := (hF52.2.2.1 109 0 rfl).trans rfl; rw [hc9]; rfl), ⟨by exact (have a0 := in_u i7x10b; have a1 := in_u ((inv_F hI 0 2 rfl e_109_0)); have a2 := in_u i28; have a3 := in_u i52a; have a4 := in_u ((in_c 0 rfl)); have a5 := in_u i62; have a6 := t_sub e62 i60 (in_c 1 rfl) rfl; have a7 := in_u ((in_c 1 rfl)); have a8 := in_u i60; have a9 := tx_i2l e2; have oc := oc_281_109; by omega), by exact (have a0 := in_u i7x10b; have a1 := in_u ((inv_F hI 0 2 rfl e_109_0)); have a2 := in_u i28; have a3 := in_u i52a; have a4 := in_u ((in_c 0 rfl)); have a5 := in_u i62; have a6 := t_sub e62 i60 (in_c 1 rfl) rfl; have a7 := in_u ((in_c 1 rfl)); have a8 := in_u i60; have a9 := tx_i2l e2; have oc := oc_281_109; by omega)⟩, ⟨by rw [show s.1 110 0 = z15 from e15.symm]; exact (have a0 := in_u i7x10b; have a1 := in_u ((inv_F hI 0 2 rfl e_109_0)); have a2 := in_u i28; have a3 := in_u i52a; have a4 := in_u ((in_c 0 rfl)); have a5 := in_u i62; have a6 := t_sub e62 i60 (in_c 1 rfl) rfl; have a7 := in_u ((in_c 1 rfl)); have a8 := in_u i60; have a9 := tx_i2l e2; have oc := oc_281_109; by omega), by rw [← e_109_9]; exact (have a0 := in_u i7x10b; have a1 := in_u ((inv_F hI 0 2 rfl e_109_0)); have a2 := in_u i28; have a3 := in_u i52a; have a4 := in_u ((in_c 0 rfl)); have a5 := in_u i62; have a6 := t_sub e62 i60 (in_c 1 rfl) rfl; have a7 := in_u ((in_c 1 rfl)); have a8 := in_u i60; have a9 := tx_i2l e2; have oc := oc_281_109; by omega)⟩, (by have hn : (s52.1 110 0).toInt = (s.1 110 0).toInt + 1 := p52a.1 rfl; rw [show s52.1 110 0 = z60 from e60.symm] at hn; exact (have a0 := in_u i7x10b; have a1 := in_u ((inv_F hI 0 2 rfl e_109_0)); have a2 := in_u i28; have a3 := in_u i52a; have a4 := in_u ((in_c 0 rfl)); have a5 := in_u i62; have a6 := t_sub e62 i60 (in_c 1 rfl) rfl; have a7 := in_u ((in_c 1 rfl)); have a8 := in_u i60; have a9 := tx_i2l e2; have oc := oc_281_109; by omega)), (by have hm := (p52b).1 rfl; rw [hm, gvR_cg (L := ([], [], [(109, 0)], [])) (fr_sF rfl fr_rf) rfl] <;> rfl)⟩)
                  have n63a : LGX s s52 (Int32.ofInt 0) x1 (Int32.ofInt 0) (Int32.ofInt 0) (Int32.ofInt 0) (Int32.ofInt 0) (Int32.ofInt 0) := by exact Or.inr p52c
                  have n63b : GSE s → GSE s52 := by exact fun _ => p52d
                  have n63c : G1S s s52 := by exact p52e
                  exact g_ireturn (gd rfl) rfl rfl (hP _ _ ⟨s52, hI52, (fr_tr rfl (fr_sF rfl fr_rf) hF52), z62, rfl, rfl, in_w (-1) 31 i62 rfl, n63, n63a, n63b, n63c⟩)
                · skip
                  exact zn_ne c39 (in_c 0 rfl) rfl
              · skip
                exact zn_gt c36x25 (in_c 0 rfl) rfl
            · skip
              exact zn_eq c36x10 (in_c 1 rfl) rfl
          · skip
            exact zn_eq c36x2 (in_c 1 rfl) rfl
