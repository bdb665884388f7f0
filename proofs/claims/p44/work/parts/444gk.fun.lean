/-! FUNCTIONAL CONTRACTS, by fgen.py -/
theorem oc_285_109 : (Int32.ofInt (-1)).toInt = (-1) ∧ (Int32.ofInt 0).toInt = 0 ∧ (Int32.ofInt 1).toInt = 1 ∧ (Int32.ofInt 2).toInt = 2 ∧ (Int32.ofInt 4).toInt = 4 ∧ (Int32.ofInt 4000).toInt = 4000 ∧ (Int64.ofInt 0).toInt = 0 ∧ (Int64.ofInt 25).toInt = 25 := ⟨rfl, rfl, rfl, rfl, rfl, rfl, rfl, rfl⟩
/-- GraphHouseModel.label -/
theorem f_285 {Z : AmZ} {A : Nat → Nat} {s : GS} {ex : va_W} {d : Nat} {X : AmX} {x1 : Int32} {x2 : Int32} {u_109_9 : Int32} {u_109_0 : Int32} (hd : 3 ≤ d) (hI : Inv s) (e_109_9 : u_109_9 = s.2.2.1 109 9) (e_109_0 : u_109_0 = s.2.2.1 109 0) : GC Z d 285 [.ref (A 109), .int x1, .int x2] (WW Z A s ++ ex) 0 0 (fun v u => ∃ t : GS, Inv t ∧ Fr fm_285 s t ∧ ∃ z : Int32, v = some (.int z) ∧ u = WW Z A t ++ ex ∧ In z 0 25 ∧ (CDR s t (HNR s x1 ∧ In x2 0 25) ((s.2.2.1 109 9).toInt ≤ 3999) ((z) = s.1 111 (x1).toNatClampNeg ∧ gvR t = gqL (gvR s) (x1).toNatClampNeg x2)) ∧ (LGX s t (Int32.ofInt 4) x1 x2 (Int32.ofInt 0) (Int32.ofInt 0) (Int32.ofInt 0) (Int32.ofInt 0)) ∧ (GSE s → GSE t) ∧ (G1S s t)) X := by
  intro post xp hP hX
  refine g_enter2 (k := 285) (N := 900) (by first | exact dq1 hd rfl | exact dq0 hd rfl | exact dq2 hd rfl | exact dq3 hd rfl | omega) rfl (Nat.le_of_ble_eq_true rfl) ?_
  refine g_aload_n 1 (gd rfl) rfl rfl ?_
  refine g_aload_n 2 (gd rfl) rfl rfl ?_
  refine g_iload_n 3 (gd rfl) rfl rfl ?_
  refine g_callv (X := _) (As := [.int x1]) (r := [.ref (A 109)]) (b := A 109) (q := 109) 6 (gd rfl) rfl rfl rfl rfl rfl (ww_o rfl) (Nat.le_of_ble_eq_true rfl) (mc := 0) (ms := 0) (Nat.zero_le _) (Nat.zero_le _) (P := fun v u => _) ?_ (fun e u h => h) (fun v u h => h)
  intro po3 xx3 hp3 hx3
  refine g_enter2 (k := 277) (N := 300) (by first | exact dq1 hd rfl | exact dq0 hd rfl | exact dq2 hd rfl | exact dq3 hd rfl | omega) rfl (Nat.le_of_ble_eq_true rfl) ?_
  refine g_iload_n 1 (gd rfl) rfl rfl ?_
  refine g_if_lt 4 18 (gd rfl) rfl rfl (fun c3x1 => ?_) (fun c3x1 => ?_)
  · skip
    have i3x1 := z_lt (-2147483648) (-1) c3x1 (i_rng x1) rfl
    refine g_iconst 0 19 (gd rfl) rfl rfl ?_
    refine g_ireturn (gd rfl) rfl (nb01 (in_w 0 1 (in_c 0 rfl) rfl)) (hp3 _ _ ?_)
    show GG _ _ _ _ _ _ _ _ [.int (Int32.ofInt 0), .ref (A 109)] _ _ _
    refine g_if_eq 9 25 (gd rfl) rfl rfl (fun c6 => ?_) (fun c6 => ?_)
    · skip
      refine g_iconst 0 26 (gd rfl) rfl rfl ?_
      refine g_aload_n 27 (gd rfl) rfl rfl ?_
      refine g_getI 30 (gd rfl) rfl rfl rfl (fun z27 e27 => ?_)
      have q27 : u_109_9 = z27 := (e_109_9).trans e27.symm
      subst q27
      refine g_sipush 4000 33 (gd rfl) rfl rfl ?_
      refine g_cmp_ge 36 40 (gd rfl) rfl rfl (fun c33 => ?_) (fun c33 => ?_)
      · skip
        have i33 := r_le2 4000 4000 c33 (in_c 4000 rfl) (inv_F hI 0 4000 rfl e_109_9) rfl
        refine g_iconst 0 41 (gd rfl) rfl rfl ?_
        refine g_callv (X := _) (As := [.int (Int32.ofInt 0), .int (Int32.ofInt 0)]) (r := []) (b := A 109) (q := 109) 44 (gd rfl) rfl rfl rfl rfl rfl (ww_o rfl) (Nat.le_of_ble_eq_true rfl) (mc := 0) (ms := 0) (Nat.zero_le _) (Nat.zero_le _) (P := fun v u => _) ?_ (fun e u h => h) (fun v u h => h)
        intro po41 xx41 hp41 hx41
        refine g_enter2 (k := 270) (N := 300) (by first | exact dq1 hd rfl | exact dq0 hd rfl | exact dq2 hd rfl | exact dq3 hd rfl | omega) rfl (Nat.le_of_ble_eq_true rfl) ?_
        refine g_aload_n 1 (gd rfl) rfl rfl ?_
        refine g_iload_n 2 (gd rfl) rfl rfl ?_
        refine g_if_ne 5 9 (gd rfl) rfl rfl (fun c41x2 => ?_) (fun c41x2 => ?_)
        · skip
          exact zn_ne c41x2 (in_c 0 rfl) rfl
        · skip
          refine g_iconst 1 6 (gd rfl) rfl rfl ?_
          refine g_goto 18 (gd rfl) rfl ?_
          refine g_putI 21 (gd rfl) rfl rfl rfl rfl ?_
          have hI41x18 := inv_sF (q := 109) (j := 0) hI rfl (in_w 0 2 (in_c 1 rfl) rfl)
          refine g_aload_n 22 (gd rfl) rfl rfl ?_
          refine g_getI 25 (gd rfl) rfl rfl rfl (fun z41x22 e41x22 => ?_)
          have q41x22 : (Int32.ofInt 1) = z41x22 := (sF_get).trans e41x22.symm
          subst q41x22
          refine g_if_le 28 32 (gd rfl) rfl rfl (fun c41x25 => ?_) (fun c41x25 => ?_)
          · skip
            exact zn_le c41x25 (in_c 1 rfl) rfl
          · skip
            refine g_iconst 1 29 (gd rfl) rfl rfl ?_
            refine g_goto 33 (gd rfl) rfl ?_
            refine g_ireturn (gd rfl) rfl (nb01 (in_w 0 1 (in_c 1 rfl) rfl)) (hp41 _ _ ?_)
            show GG _ _ _ _ _ _ _ _ [.int (Int32.ofInt 1)] _ _ _
            refine g_if_eq 47 49 (gd rfl) rfl rfl (fun c44 => ?_) (fun c44 => ?_)
            · skip
              exact zn_eq c44 (in_c 1 rfl) rfl
            · skip
              refine g_iconst 0 48 (gd rfl) rfl rfl ?_
              have n48 : CDR s (sF s 109 0 (Int32.ofInt 1)) (HNR s x1 ∧ In x2 0 25) ((s.2.2.1 109 9).toInt ≤ 3999) (((Int32.ofInt 0)) = s.1 111 (x1).toNatClampNeg ∧ gvR (sF s 109 0 (Int32.ofInt 1)) = gqL (gvR s) (x1).toNatClampNeg x2) := by first | exact Or.inl ⟨rfl, (by first | (unfold HNR In; rw [show s.1 110 0 = z3x10 from e3x10.symm]; have a0 := in_u ((inv_F hI 0 2 rfl e_109_0)); have a1 := in_u i33; have a2 := in_u i3x1; have a3 := in_u ((in_c 1 rfl)); have oc := oc_285_109; omega) | (unfold HNR In; have a0 := in_u ((inv_F hI 0 2 rfl e_109_0)); have a1 := in_u i33; have a2 := in_u i3x1; have a3 := in_u ((in_c 1 rfl)); have oc := oc_285_109; omega)), (gvR_cg (L := ([], [], [(109, 0)], [])) (fr_sF rfl fr_rf) rfl)⟩ | exact Or.inr (Or.inl ⟨rfl, ⟨⟨by have a0 := in_u ((inv_F hI 0 2 rfl e_109_0)); have a1 := in_u i33; have a2 := in_u i3x1; have a3 := in_u ((in_c 1 rfl)); have oc := oc_285_109; omega, by rw [show s.1 110 0 = z3x10 from e3x10.symm]; have a0 := in_u ((inv_F hI 0 2 rfl e_109_0)); have a1 := in_u i33; have a2 := in_u i3x1; have a3 := in_u ((in_c 1 rfl)); have oc := oc_285_109; omega⟩, ⟨by have a0 := in_u ((inv_F hI 0 2 rfl e_109_0)); have a1 := in_u i33; have a2 := in_u i3x1; have a3 := in_u ((in_c 1 rfl)); have oc := oc_285_109; omega, by have a0 := in_u ((inv_F hI 0 2 rfl e_109_0)); have a1 := in_u i33; have a2 := in_u i3x1; have a3 := in_u ((in_c 1 rfl)); have oc := oc_285_109; omega⟩⟩, (by rw [← e_109_9]; have a0 := in_u ((inv_F hI 0 2 rfl e_109_0)); have a1 := in_u i33; have a2 := in_u i3x1; have a3 := in_u ((in_c 1 rfl)); have oc := oc_285_109; omega), (gvR_cg (L := ([], [], [(109, 0)], [])) (fr_sF rfl fr_rf) rfl)⟩)
              have n48a : LGX s (sF s 109 0 (Int32.ofInt 1)) (Int32.ofInt 4) x1 x2 (Int32.ofInt 0) (Int32.ofInt 0) (Int32.ofInt 0) (Int32.ofInt 0) := by exact Or.inl ⟨rfl, rfl, rfl, rfl, rfl, rfl, rfl, rfl⟩
              have n48b : GSE s → GSE (sF s 109 0 (Int32.ofInt 1)) := by exact fun h => gse_fr (L := ([], [], [(109, 0)], [])) h (fr_sF rfl fr_rf) rfl
              have n48c : G1S s (sF s 109 0 (Int32.ofInt 1)) := by exact ⟨rfl, fun _ _ => rfl, fun _ _ _ => ⟨rfl, rfl, rfl, rfl, rfl, rfl⟩⟩
              exact g_ireturn (gd rfl) rfl rfl (hP _ _ ⟨(sF s 109 0 (Int32.ofInt 1)), hI41x18, (fr_sF rfl fr_rf), (Int32.ofInt 0), rfl, rfl, in_w 0 25 (in_c 0 rfl) rfl, n48, n48a, n48b, n48c⟩)
      · skip
        have i33 := r_lt1 0 3999 c33 (inv_F hI 0 4000 rfl e_109_9) (in_c 4000 rfl) rfl
        refine g_iconst 1 37 (gd rfl) rfl rfl ?_
        refine g_goto 41 (gd rfl) rfl ?_
        refine g_callv (X := _) (As := [.int (Int32.ofInt 0), .int (Int32.ofInt 1)]) (r := []) (b := A 109) (q := 109) 44 (gd rfl) rfl rfl rfl rfl rfl (ww_o rfl) (Nat.le_of_ble_eq_true rfl) (mc := 0) (ms := 0) (Nat.zero_le _) (Nat.zero_le _) (P := fun v u => _) ?_ (fun e u h => h) (fun v u h => h)
        intro po41 xx41 hp41 hx41
        refine g_enter2 (k := 270) (N := 300) (by first | exact dq1 hd rfl | exact dq0 hd rfl | exact dq2 hd rfl | exact dq3 hd rfl | omega) rfl (Nat.le_of_ble_eq_true rfl) ?_
        refine g_aload_n 1 (gd rfl) rfl rfl ?_
        refine g_iload_n 2 (gd rfl) rfl rfl ?_
        refine g_if_ne 5 9 (gd rfl) rfl rfl (fun c41x2 => ?_) (fun c41x2 => ?_)
        · skip
          exact zn_ne c41x2 (in_c 0 rfl) rfl
        · skip
          refine g_iconst 1 6 (gd rfl) rfl rfl ?_
          refine g_goto 18 (gd rfl) rfl ?_
          refine g_putI 21 (gd rfl) rfl rfl rfl rfl ?_
          have hI41x18 := inv_sF (q := 109) (j := 0) hI rfl (in_w 0 2 (in_c 1 rfl) rfl)
          refine g_aload_n 22 (gd rfl) rfl rfl ?_
          refine g_getI 25 (gd rfl) rfl rfl rfl (fun z41x22 e41x22 => ?_)
          have q41x22 : (Int32.ofInt 1) = z41x22 := (sF_get).trans e41x22.symm
          subst q41x22
          refine g_if_le 28 32 (gd rfl) rfl rfl (fun c41x25 => ?_) (fun c41x25 => ?_)
          · skip
            exact zn_le c41x25 (in_c 1 rfl) rfl
          · skip
            refine g_iconst 1 29 (gd rfl) rfl rfl ?_
            refine g_goto 33 (gd rfl) rfl ?_
            refine g_ireturn (gd rfl) rfl (nb01 (in_w 0 1 (in_c 1 rfl) rfl)) (hp41 _ _ ?_)
            show GG _ _ _ _ _ _ _ _ [.int (Int32.ofInt 1)] _ _ _
            refine g_if_eq 47 49 (gd rfl) rfl rfl (fun c44 => ?_) (fun c44 => ?_)
            · skip
              exact zn_eq c44 (in_c 1 rfl) rfl
            · skip
              refine g_iconst 0 48 (gd rfl) rfl rfl ?_
              have n48 : CDR s (sF s 109 0 (Int32.ofInt 1)) (HNR s x1 ∧ In x2 0 25) ((s.2.2.1 109 9).toInt ≤ 3999) (((Int32.ofInt 0)) = s.1 111 (x1).toNatClampNeg ∧ gvR (sF s 109 0 (Int32.ofInt 1)) = gqL (gvR s) (x1).toNatClampNeg x2) := by first | exact Or.inl ⟨rfl, (by first | (unfold HNR In; rw [show s.1 110 0 = z3x10 from e3x10.symm]; have a0 := in_u ((inv_F hI 0 2 rfl e_109_0)); have a1 := in_u i33; have a2 := in_u i3x1; have a3 := in_u ((in_c 1 rfl)); have oc := oc_285_109; omega) | (unfold HNR In; have a0 := in_u ((inv_F hI 0 2 rfl e_109_0)); have a1 := in_u i33; have a2 := in_u i3x1; have a3 := in_u ((in_c 1 rfl)); have oc := oc_285_109; omega)), (gvR_cg (L := ([], [], [(109, 0)], [])) (fr_sF rfl fr_rf) rfl)⟩ | exact Or.inr (Or.inl ⟨rfl, ⟨⟨by have a0 := in_u ((inv_F hI 0 2 rfl e_109_0)); have a1 := in_u i33; have a2 := in_u i3x1; have a3 := in_u ((in_c 1 rfl)); have oc := oc_285_109; omega, by rw [show s.1 110 0 = z3x10 from e3x10.symm]; have a0 := in_u ((inv_F hI 0 2 rfl e_109_0)); have a1 := in_u i33; have a2 := in_u i3x1; have a3 := in_u ((in_c 1 rfl)); have oc := oc_285_109; omega⟩, ⟨by have a0 := in_u ((inv_F hI 0 2 rfl e_109_0)); have a1 := in_u i33; have a2 := in_u i3x1; have a3 := in_u ((in_c 1 rfl)); have oc := oc_285_109; omega, by have a0 := in_u ((inv_F hI 0 2 rfl e_109_0)); have a1 := in_u i33; have a2 := in_u i3x1; have a3 := in_u ((in_c 1 rfl)); have oc := oc_285_109; omega⟩⟩, (by rw [← e_109_9]; have a0 := in_u ((inv_F hI 0 2 rfl e_109_0)); have a1 := in_u i33; have a2 := in_u i3x1; have a3 := in_u ((in_c 1 rfl)); have oc := oc_285_109; omega), (gvR_cg (L := ([], [], [(109, 0)], [])) (fr_sF rfl fr_rf) rfl)⟩)
              have n48a : LGX s (sF s 109 0 (Int32.ofInt 1)) (Int32.ofInt 4) x1 x2 (Int32.ofInt 0) (Int32.ofInt 0) (Int32.ofInt 0) (Int32.ofInt 0) := by exact Or.inl ⟨rfl, rfl, rfl, rfl, rfl, rfl, rfl, rfl⟩
              have n48b : GSE s → GSE (sF s 109 0 (Int32.ofInt 1)) := by exact fun h => gse_fr (L := ([], [], [(109, 0)], [])) h (fr_sF rfl fr_rf) rfl
              have n48c : G1S s (sF s 109 0 (Int32.ofInt 1)) := by exact ⟨rfl, fun _ _ => rfl, fun _ _ _ => ⟨rfl, rfl, rfl, rfl, rfl, rfl⟩⟩
              exact g_ireturn (gd rfl) rfl rfl (hP _ _ ⟨(sF s 109 0 (Int32.ofInt 1)), hI41x18, (fr_sF rfl fr_rf), (Int32.ofInt 0), rfl, rfl, in_w 0 25 (in_c 0 rfl) rfl, n48, n48a, n48b, n48c⟩)
    · skip
      exact zn_ne c6 (in_c 0 rfl) rfl
  · skip
    have i3x1 := z_ge 0 2147483647 c3x1 (i_rng x1) rfl
    refine g_iload_n 5 (gd rfl) rfl rfl ?_
    refine g_aload_n 6 (gd rfl) rfl rfl ?_
    refine g_getA (q2 := 110) 9 (gd rfl) rfl rfl rfl rfl ?_
    refine g_iconst 0 10 (gd rfl) rfl rfl ?_
    refine g_iaload 11 (gd rfl) rfl (n := 3) rfl (in_ix (in_c 0 rfl) rfl) (fun z3x10 e3x10 => ?_)
    have i3x10 := nn_01 hI (in_c 0 rfl) rfl e3x10
    refine g_cmp_ge 14 18 (gd rfl) rfl rfl (fun c3x11 => ?_) (fun c3x11 => ?_)
    · skip
      refine g_iconst 0 19 (gd rfl) rfl rfl ?_
      refine g_ireturn (gd rfl) rfl (nb01 (in_w 0 1 (in_c 0 rfl) rfl)) (hp3 _ _ ?_)
      show GG _ _ _ _ _ _ _ _ [.int (Int32.ofInt 0), .ref (A 109)] _ _ _
      refine g_if_eq 9 25 (gd rfl) rfl rfl (fun c6 => ?_) (fun c6 => ?_)
      · skip
        refine g_iconst 0 26 (gd rfl) rfl rfl ?_
        refine g_aload_n 27 (gd rfl) rfl rfl ?_
        refine g_getI 30 (gd rfl) rfl rfl rfl (fun z27 e27 => ?_)
        have q27 : u_109_9 = z27 := (e_109_9).trans e27.symm
        subst q27
        refine g_sipush 4000 33 (gd rfl) rfl rfl ?_
        refine g_cmp_ge 36 40 (gd rfl) rfl rfl (fun c33 => ?_) (fun c33 => ?_)
        · skip
          have i33 := r_le2 4000 4000 c33 (in_c 4000 rfl) (inv_F hI 0 4000 rfl e_109_9) rfl
          refine g_iconst 0 41 (gd rfl) rfl rfl ?_
          refine g_callv (X := _) (As := [.int (Int32.ofInt 0), .int (Int32.ofInt 0)]) (r := []) (b := A 109) (q := 109) 44 (gd rfl) rfl rfl rfl rfl rfl (ww_o rfl) (Nat.le_of_ble_eq_true rfl) (mc := 0) (ms := 0) (Nat.zero_le _) (Nat.zero_le _) (P := fun v u => _) ?_ (fun e u h => h) (fun v u h => h)
          intro po41 xx41 hp41 hx41
          refine g_enter2 (k := 270) (N := 300) (by first | exact dq1 hd rfl | exact dq0 hd rfl | exact dq2 hd rfl | exact dq3 hd rfl | omega) rfl (Nat.le_of_ble_eq_true rfl) ?_
          refine g_aload_n 1 (gd rfl) rfl rfl ?_
          refine g_iload_n 2 (gd rfl) rfl rfl ?_
          refine g_if_ne 5 9 (gd rfl) rfl rfl (fun c41x2 => ?_) (fun c41x2 => ?_)
          · skip
            exact zn_ne c41x2 (in_c 0 rfl) rfl
          · skip
            refine g_iconst 1 6 (gd rfl) rfl rfl ?_
            refine g_goto 18 (gd rfl) rfl ?_
            refine g_putI 21 (gd rfl) rfl rfl rfl rfl ?_
            have hI41x18 := inv_sF (q := 109) (j := 0) hI rfl (in_w 0 2 (in_c 1 rfl) rfl)
            refine g_aload_n 22 (gd rfl) rfl rfl ?_
            refine g_getI 25 (gd rfl) rfl rfl rfl (fun z41x22 e41x22 => ?_)
            have q41x22 : (Int32.ofInt 1) = z41x22 := (sF_get).trans e41x22.symm
            subst q41x22
            refine g_if_le 28 32 (gd rfl) rfl rfl (fun c41x25 => ?_) (fun c41x25 => ?_)
            · skip
              exact zn_le c41x25 (in_c 1 rfl) rfl
            · skip
              refine g_iconst 1 29 (gd rfl) rfl rfl ?_
              refine g_goto 33 (gd rfl) rfl ?_
              refine g_ireturn (gd rfl) rfl (nb01 (in_w 0 1 (in_c 1 rfl) rfl)) (hp41 _ _ ?_)
              show GG _ _ _ _ _ _ _ _ [.int (Int32.ofInt 1)] _ _ _
              refine g_if_eq 47 49 (gd rfl) rfl rfl (fun c44 => ?_) (fun c44 => ?_)
              · skip
                exact zn_eq c44 (in_c 1 rfl) rfl
              · skip
                refine g_iconst 0 48 (gd rfl) rfl rfl ?_
                have n48 : CDR s (sF s 109 0 (Int32.ofInt 1)) (HNR s x1 ∧ In x2 0 25) ((s.2.2.1 109 9).toInt ≤ 3999) (((Int32.ofInt 0)) = s.1 111 (x1).toNatClampNeg ∧ gvR (sF s 109 0 (Int32.ofInt 1)) = gqL (gvR s) (x1).toNatClampNeg x2) := by first | exact Or.inl ⟨rfl, (by first | (unfold HNR In; rw [show s.1 110 0 = z3x10 from e3x10.symm]; have a0 := in_u ((inv_F hI 0 2 rfl e_109_0)); have a1 := in_u i33; have a2 := in_u i3x1; have a3 := in_u ((in_c 1 rfl)); have oc := oc_285_109; omega) | (unfold HNR In; have a0 := in_u ((inv_F hI 0 2 rfl e_109_0)); have a1 := in_u i33; have a2 := in_u i3x1; have a3 := in_u ((in_c 1 rfl)); have oc := oc_285_109; omega)), (gvR_cg (L := ([], [], [(109, 0)], [])) (fr_sF rfl fr_rf) rfl)⟩ | exact Or.inr (Or.inl ⟨rfl, ⟨⟨by have a0 := in_u ((inv_F hI 0 2 rfl e_109_0)); have a1 := in_u i33; have a2 := in_u i3x1; have a3 := in_u ((in_c 1 rfl)); have oc := oc_285_109; omega, by rw [show s.1 110 0 = z3x10 from e3x10.symm]; have a0 := in_u ((inv_F hI 0 2 rfl e_109_0)); have a1 := in_u i33; have a2 := in_u i3x1; have a3 := in_u ((in_c 1 rfl)); have oc := oc_285_109; omega⟩, ⟨by have a0 := in_u ((inv_F hI 0 2 rfl e_109_0)); have a1 := in_u i33; have a2 := in_u i3x1; have a3 := in_u ((in_c 1 rfl)); have oc := oc_285_109; omega, by have a0 := in_u ((inv_F hI 0 2 rfl e_109_0)); have a1 := in_u i33; have a2 := in_u i3x1; have a3 := in_u ((in_c 1 rfl)); have oc := oc_285_109; omega⟩⟩, (by rw [← e_109_9]; have a0 := in_u ((inv_F hI 0 2 rfl e_109_0)); have a1 := in_u i33; have a2 := in_u i3x1; have a3 := in_u ((in_c 1 rfl)); have oc := oc_285_109; omega), (gvR_cg (L := ([], [], [(109, 0)], [])) (fr_sF rfl fr_rf) rfl)⟩)
                have n48a : LGX s (sF s 109 0 (Int32.ofInt 1)) (Int32.ofInt 4) x1 x2 (Int32.ofInt 0) (Int32.ofInt 0) (Int32.ofInt 0) (Int32.ofInt 0) := by exact Or.inl ⟨rfl, rfl, rfl, rfl, rfl, rfl, rfl, rfl⟩
                have n48b : GSE s → GSE (sF s 109 0 (Int32.ofInt 1)) := by exact fun h => gse_fr (L := ([], [], [(109, 0)], [])) h (fr_sF rfl fr_rf) rfl
                have n48c : G1S s (sF s 109 0 (Int32.ofInt 1)) := by exact ⟨rfl, fun _ _ => rfl, fun _ _ _ => ⟨rfl, rfl, rfl, rfl, rfl, rfl⟩⟩
                exact g_ireturn (gd rfl) rfl rfl (hP _ _ ⟨(sF s 109 0 (Int32.ofInt 1)), hI41x18, (fr_sF rfl fr_rf), (Int32.ofInt 0), rfl, rfl, in_w 0 25 (in_c 0 rfl) rfl, n48, n48a, n48b, n48c⟩)
        · skip
          have i33 := r_lt1 0 3999 c33 (inv_F hI 0 4000 rfl e_109_9) (in_c 4000 rfl) rfl
          refine g_iconst 1 37 (gd rfl) rfl rfl ?_
          refine g_goto 41 (gd rfl) rfl ?_
          refine g_callv (X := _) (As := [.int (Int32.ofInt 0), .int (Int32.ofInt 1)]) (r := []) (b := A 109) (q := 109) 44 (gd rfl) rfl rfl rfl rfl rfl (ww_o rfl) (Nat.le_of_ble_eq_true rfl) (mc := 0) (ms := 0) (Nat.zero_le _) (Nat.zero_le _) (P := fun v u => _) ?_ (fun e u h => h) (fun v u h => h)
          intro po41 xx41 hp41 hx41
          refine g_enter2 (k := 270) (N := 300) (by first | exact dq1 hd rfl | exact dq0 hd rfl | exact dq2 hd rfl | exact dq3 hd rfl | omega) rfl (Nat.le_of_ble_eq_true rfl) ?_
          refine g_aload_n 1 (gd rfl) rfl rfl ?_
          refine g_iload_n 2 (gd rfl) rfl rfl ?_
          refine g_if_ne 5 9 (gd rfl) rfl rfl (fun c41x2 => ?_) (fun c41x2 => ?_)
          · skip
            exact zn_ne c41x2 (in_c 0 rfl) rfl
          · skip
            refine g_iconst 1 6 (gd rfl) rfl rfl ?_
            refine g_goto 18 (gd rfl) rfl ?_
            refine g_putI 21 (gd rfl) rfl rfl rfl rfl ?_
            have hI41x18 := inv_sF (q := 109) (j := 0) hI rfl (in_w 0 2 (in_c 1 rfl) rfl)
            refine g_aload_n 22 (gd rfl) rfl rfl ?_
            refine g_getI 25 (gd rfl) rfl rfl rfl (fun z41x22 e41x22 => ?_)
            have q41x22 : (Int32.ofInt 1) = z41x22 := (sF_get).trans e41x22.symm
            subst q41x22
            refine g_if_le 28 32 (gd rfl) rfl rfl (fun c41x25 => ?_) (fun c41x25 => ?_)
            · skip
              exact zn_le c41x25 (in_c 1 rfl) rfl
            · skip
              refine g_iconst 1 29 (gd rfl) rfl rfl ?_
              refine g_goto 33 (gd rfl) rfl ?_
              refine g_ireturn (gd rfl) rfl (nb01 (in_w 0 1 (in_c 1 rfl) rfl)) (hp41 _ _ ?_)
              show GG _ _ _ _ _ _ _ _ [.int (Int32.ofInt 1)] _ _ _
              refine g_if_eq 47 49 (gd rfl) rfl rfl (fun c44 => ?_) (fun c44 => ?_)
              · skip
                exact zn_eq c44 (in_c 1 rfl) rfl
              · skip
                refine g_iconst 0 48 (gd rfl) rfl rfl ?_
                have n48 : CDR s (sF s 109 0 (Int32.ofInt 1)) (HNR s x1 ∧ In x2 0 25) ((s.2.2.1 109 9).toInt ≤ 3999) (((Int32.ofInt 0)) = s.1 111 (x1).toNatClampNeg ∧ gvR (sF s 109 0 (Int32.ofInt 1)) = gqL (gvR s) (x1).toNatClampNeg x2) := by first | exact Or.inl ⟨rfl, (by first | (unfold HNR In; rw [show s.1 110 0 = z3x10 from e3x10.symm]; have a0 := in_u ((inv_F hI 0 2 rfl e_109_0)); have a1 := in_u i33; have a2 := in_u i3x1; have a3 := in_u ((in_c 1 rfl)); have oc := oc_285_109; omega) | (unfold HNR In; have a0 := in_u ((inv_F hI 0 2 rfl e_109_0)); have a1 := in_u i33; have a2 := in_u i3x1; have a3 := in_u ((in_c 1 rfl)); have oc := oc_285_109; omega)), (gvR_cg (L := ([], [], [(109, 0)], [])) (fr_sF rfl fr_rf) rfl)⟩ | exact Or.inr (Or.inl ⟨rfl, ⟨⟨by have a0 := in_u ((inv_F hI 0 2 rfl e_109_0)); have a1 := in_u i33; have a2 := in_u i3x1; have a3 := in_u ((in_c 1 rfl)); have oc := oc_285_109; omega, by rw [show s.1 110 0 = z3x10 from e3x10.symm]; have a0 := in_u ((inv_F hI 0 2 rfl e_109_0)); have a1 := in_u i33; have a2 := in_u i3x1; have a3 := in_u ((in_c 1 rfl)); have oc := oc_285_109; omega⟩, ⟨by have a0 := in_u ((inv_F hI 0 2 rfl e_109_0)); have a1 := in_u i33; have a2 := in_u i3x1; have a3 := in_u ((in_c 1 rfl)); have oc := oc_285_109; omega, by have a0 := in_u ((inv_F hI 0 2 rfl e_109_0)); have a1 := in_u i33; have a2 := in_u i3x1; have a3 := in_u ((in_c 1 rfl)); have oc := oc_285_109; omega⟩⟩, (by rw [← e_109_9]; have a0 := in_u ((inv_F hI 0 2 rfl e_109_0)); have a1 := in_u i33; have a2 := in_u i3x1; have a3 := in_u ((in_c 1 rfl)); have oc := oc_285_109; omega), (gvR_cg (L := ([], [], [(109, 0)], [])) (fr_sF rfl fr_rf) rfl)⟩)
                have n48a : LGX s (sF s 109 0 (Int32.ofInt 1)) (Int32.ofInt 4) x1 x2 (Int32.ofInt 0) (Int32.ofInt 0) (Int32.ofInt 0) (Int32.ofInt 0) := by exact Or.inl ⟨rfl, rfl, rfl, rfl, rfl, rfl, rfl, rfl⟩
                have n48b : GSE s → GSE (sF s 109 0 (Int32.ofInt 1)) := by exact fun h => gse_fr (L := ([], [], [(109, 0)], [])) h (fr_sF rfl fr_rf) rfl
                have n48c : G1S s (sF s 109 0 (Int32.ofInt 1)) := by exact ⟨rfl, fun _ _ => rfl, fun _ _ _ => ⟨rfl, rfl, rfl, rfl, rfl, rfl⟩⟩
                exact g_ireturn (gd rfl) rfl rfl (hP _ _ ⟨(sF s 109 0 (Int32.ofInt 1)), hI41x18, (fr_sF rfl fr_rf), (Int32.ofInt 0), rfl, rfl, in_w 0 25 (in_c 0 rfl) rfl, n48, n48a, n48b, n48c⟩)
      · skip
        exact zn_ne c6 (in_c 0 rfl) rfl
    · skip
      have i3x11 := r_lt1 0 31 c3x11 i3x1 i3x10 rfl
      have i3x11a := r_lt2 1 32 c3x11 i3x1 i3x10 rfl
      refine g_iconst 1 15 (gd rfl) rfl rfl ?_
      refine g_goto 19 (gd rfl) rfl ?_
      refine g_ireturn (gd rfl) rfl (nb01 (in_w 0 1 (in_c 1 rfl) rfl)) (hp3 _ _ ?_)
      show GG _ _ _ _ _ _ _ _ [.int (Int32.ofInt 1), .ref (A 109)] _ _ _
      refine g_if_eq 9 25 (gd rfl) rfl rfl (fun c6 => ?_) (fun c6 => ?_)
      · skip
        exact zn_eq c6 (in_c 1 rfl) rfl
      · skip
        refine g_iload_n 10 (gd rfl) rfl rfl ?_
        refine g_i2l 11 (gd rfl) rfl (fun z10 e10 => ?_)
        have i10 := l_i e10 (i_rng x2)
        refine g_lconst 0 12 (gd rfl) rfl rfl ?_
        refine g_ldc2_w 25 15 (gd rfl) rfl rfl ?_
        refine g_calls (As := [.long z10, .long (Int64.ofInt 0), .long (Int64.ofInt 25)]) (r := [.ref (A 109)]) 18 (gd rfl) rfl rfl rfl rfl rfl (Nat.le_of_ble_eq_true rfl) (mc := 0) (ms := 0) (Nat.zero_le _) (Nat.zero_le _) (P := fun v u => _) ?_ (fun v u h => h)
        intro po15 xx15 hp15 hx15
        refine g_enter2 (k := 269) (N := 300) (by first | exact dq1 hd rfl | exact dq0 hd rfl | exact dq2 hd rfl | exact dq3 hd rfl | omega) rfl (Nat.le_of_ble_eq_true rfl) ?_
        refine g_lload_n 1 (gd rfl) rfl rfl ?_
        refine g_lload_n 2 (gd rfl) rfl rfl ?_
        refine g_lcmp 3 (gd rfl) rfl (fun z15x2 e15x2 => ?_)
        have i15x2 := lc_in e15x2
        refine g_if_lt 6 17 (gd rfl) rfl rfl (fun c15x3 => ?_) (fun c15x3 => ?_)
        · skip
          have i15x3 := z_lt (-1) (-1) c15x3 i15x2 rfl
          have c15x3a := lc_lt e15x2 c15x3
          have i15x3a := lr_lt1 (-2147483648) (-1) c15x3a i10 (l_c 0 rfl) rfl
          have i15x3b := l_b e10 i15x3a
          refine g_iconst 0 18 (gd rfl) rfl rfl ?_
          refine g_ireturn (gd rfl) rfl (nb01 (in_w 0 1 (in_c 0 rfl) rfl)) (hp15 _ _ ?_)
          show GG _ _ _ _ _ _ _ _ [.int (Int32.ofInt 0), .ref (A 109)] _ _ _
          refine g_if_eq 21 25 (gd rfl) rfl rfl (fun c18 => ?_) (fun c18 => ?_)
          · skip
            refine g_iconst 0 26 (gd rfl) rfl rfl ?_
            refine g_aload_n 27 (gd rfl) rfl rfl ?_
            refine g_getI 30 (gd rfl) rfl rfl rfl (fun z27 e27 => ?_)
            have q27 : u_109_9 = z27 := (e_109_9).trans e27.symm
            subst q27
            refine g_sipush 4000 33 (gd rfl) rfl rfl ?_
            refine g_cmp_ge 36 40 (gd rfl) rfl rfl (fun c33 => ?_) (fun c33 => ?_)
            · skip
              have i33 := r_le2 4000 4000 c33 (in_c 4000 rfl) (inv_F hI 0 4000 rfl e_109_9) rfl
              refine g_iconst 0 41 (gd rfl) rfl rfl ?_
              refine g_callv (X := _) (As := [.int (Int32.ofInt 0), .int (Int32.ofInt 0)]) (r := []) (b := A 109) (q := 109) 44 (gd rfl) rfl rfl rfl rfl rfl (ww_o rfl) (Nat.le_of_ble_eq_true rfl) (mc := 0) (ms := 0) (Nat.zero_le _) (Nat.zero_le _) (P := fun v u => _) ?_ (fun e u h => h) (fun v u h => h)
              intro po41 xx41 hp41 hx41
              refine g_enter2 (k := 270) (N := 300) (by first | exact dq1 hd rfl | exact dq0 hd rfl | exact dq2 hd rfl | exact dq3 hd rfl | omega) rfl (Nat.le_of_ble_eq_true rfl) ?_
              refine g_aload_n 1 (gd rfl) rfl rfl ?_
              refine g_iload_n 2 (gd rfl) rfl rfl ?_
              refine g_if_ne 5 9 (gd rfl) rfl rfl (fun c41x2 => ?_) (fun c41x2 => ?_)
              · skip
                exact zn_ne c41x2 (in_c 0 rfl) rfl
              · skip
                refine g_iconst 1 6 (gd rfl) rfl rfl ?_
                refine g_goto 18 (gd rfl) rfl ?_
                refine g_putI 21 (gd rfl) rfl rfl rfl rfl ?_
                have hI41x18 := inv_sF (q := 109) (j := 0) hI rfl (in_w 0 2 (in_c 1 rfl) rfl)
                refine g_aload_n 22 (gd rfl) rfl rfl ?_
                refine g_getI 25 (gd rfl) rfl rfl rfl (fun z41x22 e41x22 => ?_)
                have q41x22 : (Int32.ofInt 1) = z41x22 := (sF_get).trans e41x22.symm
                subst q41x22
                refine g_if_le 28 32 (gd rfl) rfl rfl (fun c41x25 => ?_) (fun c41x25 => ?_)
                · skip
                  exact zn_le c41x25 (in_c 1 rfl) rfl
                · skip
                  refine g_iconst 1 29 (gd rfl) rfl rfl ?_
                  refine g_goto 33 (gd rfl) rfl ?_
                  refine g_ireturn (gd rfl) rfl (nb01 (in_w 0 1 (in_c 1 rfl) rfl)) (hp41 _ _ ?_)
                  show GG _ _ _ _ _ _ _ _ [.int (Int32.ofInt 1)] _ _ _
                  refine g_if_eq 47 49 (gd rfl) rfl rfl (fun c44 => ?_) (fun c44 => ?_)
                  · skip
                    exact zn_eq c44 (in_c 1 rfl) rfl
                  · skip
                    refine g_iconst 0 48 (gd rfl) rfl rfl ?_
                    have n48 : CDR s (sF s 109 0 (Int32.ofInt 1)) (HNR s x1 ∧ In x2 0 25) ((s.2.2.1 109 9).toInt ≤ 3999) (((Int32.ofInt 0)) = s.1 111 (x1).toNatClampNeg ∧ gvR (sF s 109 0 (Int32.ofInt 1)) = gqL (gvR s) (x1).toNatClampNeg x2) := by first | exact Or.inl ⟨rfl, (by first | (unfold HNR In; rw [show s.1 110 0 = z3x10 from e3x10.symm]; have a0 := in_u i3x11; have a1 := in_u ((inv_F hI 0 2 rfl e_109_0)); have a2 := in_u i33; have a3 := in_u i15x3b; have a4 := in_u ((in_c 1 rfl)); have a5 := tx_i2l e10; have oc := oc_285_109; omega) | (unfold HNR In; have a0 := in_u i3x11; have a1 := in_u ((inv_F hI 0 2 rfl e_109_0)); have a2 := in_u i33; have a3 := in_u i15x3b; have a4 := in_u ((in_c 1 rfl)); have a5 := tx_i2l e10; have oc := oc_285_109; omega)), (gvR_cg (L := ([], [], [(109, 0)], [])) (fr_sF rfl fr_rf) rfl)⟩ | exact Or.inr (Or.inl ⟨rfl, ⟨⟨by have a0 := in_u i3x11; have a1 := in_u ((inv_F hI 0 2 rfl e_109_0)); have a2 := in_u i33; have a3 := in_u i15x3b; have a4 := in_u ((in_c 1 rfl)); have a5 := tx_i2l e10; have oc := oc_285_109; omega, by rw [show s.1 110 0 = z3x10 from e3x10.symm]; have a0 := in_u i3x11; have a1 := in_u ((inv_F hI 0 2 rfl e_109_0)); have a2 := in_u i33; have a3 := in_u i15x3b; have a4 := in_u ((in_c 1 rfl)); have a5 := tx_i2l e10; have oc := oc_285_109; omega⟩, ⟨by have a0 := in_u i3x11; have a1 := in_u ((inv_F hI 0 2 rfl e_109_0)); have a2 := in_u i33; have a3 := in_u i15x3b; have a4 := in_u ((in_c 1 rfl)); have a5 := tx_i2l e10; have oc := oc_285_109; omega, by have a0 := in_u i3x11; have a1 := in_u ((inv_F hI 0 2 rfl e_109_0)); have a2 := in_u i33; have a3 := in_u i15x3b; have a4 := in_u ((in_c 1 rfl)); have a5 := tx_i2l e10; have oc := oc_285_109; omega⟩⟩, (by rw [← e_109_9]; have a0 := in_u i3x11; have a1 := in_u ((inv_F hI 0 2 rfl e_109_0)); have a2 := in_u i33; have a3 := in_u i15x3b; have a4 := in_u ((in_c 1 rfl)); have a5 := tx_i2l e10; have oc := oc_285_109; omega), (gvR_cg (L := ([], [], [(109, 0)], [])) (fr_sF rfl fr_rf) rfl)⟩)
                    have n48a : LGX s (sF s 109 0 (Int32.ofInt 1)) (Int32.ofInt 4) x1 x2 (Int32.ofInt 0) (Int32.ofInt 0) (Int32.ofInt 0) (Int32.ofInt 0) := by exact Or.inl ⟨rfl, rfl, rfl, rfl, rfl, rfl, rfl, rfl⟩
                    have n48b : GSE s → GSE (sF s 109 0 (Int32.ofInt 1)) := by exact fun h => gse_fr (L := ([], [], [(109, 0)], [])) h (fr_sF rfl fr_rf) rfl
                    have n48c : G1S s (sF s 109 0 (Int32.ofInt 1)) := by exact ⟨rfl, fun _ _ => rfl, fun _ _ _ => ⟨rfl, rfl, rfl, rfl, rfl, rfl⟩⟩
                    exact g_ireturn (gd rfl) rfl rfl (hP _ _ ⟨(sF s 109 0 (Int32.ofInt 1)), hI41x18, (fr_sF rfl fr_rf), (Int32.ofInt 0), rfl, rfl, in_w 0 25 (in_c 0 rfl) rfl, n48, n48a, n48b, n48c⟩)
            · skip
              have i33 := r_lt1 0 3999 c33 (inv_F hI 0 4000 rfl e_109_9) (in_c 4000 rfl) rfl
              refine g_iconst 1 37 (gd rfl) rfl rfl ?_
              refine g_goto 41 (gd rfl) rfl ?_
              refine g_callv (X := _) (As := [.int (Int32.ofInt 0), .int (Int32.ofInt 1)]) (r := []) (b := A 109) (q := 109) 44 (gd rfl) rfl rfl rfl rfl rfl (ww_o rfl) (Nat.le_of_ble_eq_true rfl) (mc := 0) (ms := 0) (Nat.zero_le _) (Nat.zero_le _) (P := fun v u => _) ?_ (fun e u h => h) (fun v u h => h)
              intro po41 xx41 hp41 hx41
              refine g_enter2 (k := 270) (N := 300) (by first | exact dq1 hd rfl | exact dq0 hd rfl | exact dq2 hd rfl | exact dq3 hd rfl | omega) rfl (Nat.le_of_ble_eq_true rfl) ?_
              refine g_aload_n 1 (gd rfl) rfl rfl ?_
              refine g_iload_n 2 (gd rfl) rfl rfl ?_
              refine g_if_ne 5 9 (gd rfl) rfl rfl (fun c41x2 => ?_) (fun c41x2 => ?_)
              · skip
                exact zn_ne c41x2 (in_c 0 rfl) rfl
              · skip
                refine g_iconst 1 6 (gd rfl) rfl rfl ?_
                refine g_goto 18 (gd rfl) rfl ?_
                refine g_putI 21 (gd rfl) rfl rfl rfl rfl ?_
                have hI41x18 := inv_sF (q := 109) (j := 0) hI rfl (in_w 0 2 (in_c 1 rfl) rfl)
                refine g_aload_n 22 (gd rfl) rfl rfl ?_
                refine g_getI 25 (gd rfl) rfl rfl rfl (fun z41x22 e41x22 => ?_)
                have q41x22 : (Int32.ofInt 1) = z41x22 := (sF_get).trans e41x22.symm
                subst q41x22
                refine g_if_le 28 32 (gd rfl) rfl rfl (fun c41x25 => ?_) (fun c41x25 => ?_)
                · skip
                  exact zn_le c41x25 (in_c 1 rfl) rfl
                · skip
                  refine g_iconst 1 29 (gd rfl) rfl rfl ?_
                  refine g_goto 33 (gd rfl) rfl ?_
                  refine g_ireturn (gd rfl) rfl (nb01 (in_w 0 1 (in_c 1 rfl) rfl)) (hp41 _ _ ?_)
                  show GG _ _ _ _ _ _ _ _ [.int (Int32.ofInt 1)] _ _ _
                  refine g_if_eq 47 49 (gd rfl) rfl rfl (fun c44 => ?_) (fun c44 => ?_)
                  · skip
                    exact zn_eq c44 (in_c 1 rfl) rfl
                  · skip
                    refine g_iconst 0 48 (gd rfl) rfl rfl ?_
                    have n48 : CDR s (sF s 109 0 (Int32.ofInt 1)) (HNR s x1 ∧ In x2 0 25) ((s.2.2.1 109 9).toInt ≤ 3999) (((Int32.ofInt 0)) = s.1 111 (x1).toNatClampNeg ∧ gvR (sF s 109 0 (Int32.ofInt 1)) = gqL (gvR s) (x1).toNatClampNeg x2) := by first | exact Or.inl ⟨rfl, (by first | (unfold HNR In; rw [show s.1 110 0 = z3x10 from e3x10.symm]; have a0 := in_u i3x11; have a1 := in_u ((inv_F hI 0 2 rfl e_109_0)); have a2 := in_u i33; have a3 := in_u i15x3b; have a4 := in_u ((in_c 1 rfl)); have a5 := tx_i2l e10; have oc := oc_285_109; omega) | (unfold HNR In; have a0 := in_u i3x11; have a1 := in_u ((inv_F hI 0 2 rfl e_109_0)); have a2 := in_u i33; have a3 := in_u i15x3b; have a4 := in_u ((in_c 1 rfl)); have a5 := tx_i2l e10; have oc := oc_285_109; omega)), (gvR_cg (L := ([], [], [(109, 0)], [])) (fr_sF rfl fr_rf) rfl)⟩ | exact Or.inr (Or.inl ⟨rfl, ⟨⟨by have a0 := in_u i3x11; have a1 := in_u ((inv_F hI 0 2 rfl e_109_0)); have a2 := in_u i33; have a3 := in_u i15x3b; have a4 := in_u ((in_c 1 rfl)); have a5 := tx_i2l e10; have oc := oc_285_109; omega, by rw [show s.1 110 0 = z3x10 from e3x10.symm]; have a0 := in_u i3x11; have a1 := in_u ((inv_F hI 0 2 rfl e_109_0)); have a2 := in_u i33; have a3 := in_u i15x3b; have a4 := in_u ((in_c 1 rfl)); have a5 := tx_i2l e10; have oc := oc_285_109; omega⟩, ⟨by have a0 := in_u i3x11; have a1 := in_u ((inv_F hI 0 2 rfl e_109_0)); have a2 := in_u i33; have a3 := in_u i15x3b; have a4 := in_u ((in_c 1 rfl)); have a5 := tx_i2l e10; have oc := oc_285_109; omega, by have a0 := in_u i3x11; have a1 := in_u ((inv_F hI 0 2 rfl e_109_0)); have a2 := in_u i33; have a3 := in_u i15x3b; have a4 := in_u ((in_c 1 rfl)); have a5 := tx_i2l e10; have oc := oc_285_109; omega⟩⟩, (by rw [← e_109_9]; have a0 := in_u i3x11; have a1 := in_u ((inv_F hI 0 2 rfl e_109_0)); have a2 := in_u i33; have a3 := in_u i15x3b; have a4 := in_u ((in_c 1 rfl)); have a5 := tx_i2l e10; have oc := oc_285_109; omega), (gvR_cg (L := ([], [], [(109, 0)], [])) (fr_sF rfl fr_rf) rfl)⟩)
                    have n48a : LGX s (sF s 109 0 (Int32.ofInt 1)) (Int32.ofInt 4) x1 x2 (Int32.ofInt 0) (Int32.ofInt 0) (Int32.ofInt 0) (Int32.ofInt 0) := by exact Or.inl ⟨rfl, rfl, rfl, rfl, rfl, rfl, rfl, rfl⟩
                    have n48b : GSE s → GSE (sF s 109 0 (Int32.ofInt 1)) := by exact fun h => gse_fr (L := ([], [], [(109, 0)], [])) h (fr_sF rfl fr_rf) rfl
                    have n48c : G1S s (sF s 109 0 (Int32.ofInt 1)) := by exact ⟨rfl, fun _ _ => rfl, fun _ _ _ => ⟨rfl, rfl, rfl, rfl, rfl, rfl⟩⟩
                    exact g_ireturn (gd rfl) rfl rfl (hP _ _ ⟨(sF s 109 0 (Int32.ofInt 1)), hI41x18, (fr_sF rfl fr_rf), (Int32.ofInt 0), rfl, rfl, in_w 0 25 (in_c 0 rfl) rfl, n48, n48a, n48b, n48c⟩)
          · skip
            exact zn_ne c18 (in_c 0 rfl) rfl
        · skip
          have i15x3 := z_ge 0 1 c15x3 i15x2 rfl
          have c15x3a := lc_ge e15x2 c15x3
          have i15x3a := lr_le2 0 2147483647 c15x3a (l_c 0 rfl) i10 rfl
          have i15x3b := l_b e10 i15x3a
          refine g_lload_n 7 (gd rfl) rfl rfl ?_
          refine g_lload 9 (gd rfl) rfl rfl ?_
          refine g_lcmp 10 (gd rfl) rfl (fun z15x9 e15x9 => ?_)
          have i15x9 := lc_in e15x9
          refine g_if_gt 13 17 (gd rfl) rfl rfl (fun c15x10 => ?_) (fun c15x10 => ?_)
          · skip
            have i15x10 := z_gt 1 1 c15x10 i15x9 rfl
            have c15x10a := lc_gt e15x9 c15x10
            have i15x10a := lr_lt2 26 2147483647 c15x10a (l_c 25 rfl) i15x3a rfl
            have i15x10b := l_b e10 i15x10a
            refine g_iconst 0 18 (gd rfl) rfl rfl ?_
            refine g_ireturn (gd rfl) rfl (nb01 (in_w 0 1 (in_c 0 rfl) rfl)) (hp15 _ _ ?_)
            show GG _ _ _ _ _ _ _ _ [.int (Int32.ofInt 0), .ref (A 109)] _ _ _
            refine g_if_eq 21 25 (gd rfl) rfl rfl (fun c18 => ?_) (fun c18 => ?_)
            · skip
              refine g_iconst 0 26 (gd rfl) rfl rfl ?_
              refine g_aload_n 27 (gd rfl) rfl rfl ?_
              refine g_getI 30 (gd rfl) rfl rfl rfl (fun z27 e27 => ?_)
              have q27 : u_109_9 = z27 := (e_109_9).trans e27.symm
              subst q27
              refine g_sipush 4000 33 (gd rfl) rfl rfl ?_
              refine g_cmp_ge 36 40 (gd rfl) rfl rfl (fun c33 => ?_) (fun c33 => ?_)
              · skip
                have i33 := r_le2 4000 4000 c33 (in_c 4000 rfl) (inv_F hI 0 4000 rfl e_109_9) rfl
                refine g_iconst 0 41 (gd rfl) rfl rfl ?_
                refine g_callv (X := _) (As := [.int (Int32.ofInt 0), .int (Int32.ofInt 0)]) (r := []) (b := A 109) (q := 109) 44 (gd rfl) rfl rfl rfl rfl rfl (ww_o rfl) (Nat.le_of_ble_eq_true rfl) (mc := 0) (ms := 0) (Nat.zero_le _) (Nat.zero_le _) (P := fun v u => _) ?_ (fun e u h => h) (fun v u h => h)
                intro po41 xx41 hp41 hx41
                refine g_enter2 (k := 270) (N := 300) (by first | exact dq1 hd rfl | exact dq0 hd rfl | exact dq2 hd rfl | exact dq3 hd rfl | omega) rfl (Nat.le_of_ble_eq_true rfl) ?_
                refine g_aload_n 1 (gd rfl) rfl rfl ?_
                refine g_iload_n 2 (gd rfl) rfl rfl ?_
                refine g_if_ne 5 9 (gd rfl) rfl rfl (fun c41x2 => ?_) (fun c41x2 => ?_)
                · skip
                  exact zn_ne c41x2 (in_c 0 rfl) rfl
                · skip
                  refine g_iconst 1 6 (gd rfl) rfl rfl ?_
                  refine g_goto 18 (gd rfl) rfl ?_
                  refine g_putI 21 (gd rfl) rfl rfl rfl rfl ?_
                  have hI41x18 := inv_sF (q := 109) (j := 0) hI rfl (in_w 0 2 (in_c 1 rfl) rfl)
                  refine g_aload_n 22 (gd rfl) rfl rfl ?_
                  refine g_getI 25 (gd rfl) rfl rfl rfl (fun z41x22 e41x22 => ?_)
                  have q41x22 : (Int32.ofInt 1) = z41x22 := (sF_get).trans e41x22.symm
                  subst q41x22
                  refine g_if_le 28 32 (gd rfl) rfl rfl (fun c41x25 => ?_) (fun c41x25 => ?_)
                  · skip
                    exact zn_le c41x25 (in_c 1 rfl) rfl
                  · skip
                    refine g_iconst 1 29 (gd rfl) rfl rfl ?_
                    refine g_goto 33 (gd rfl) rfl ?_
                    refine g_ireturn (gd rfl) rfl (nb01 (in_w 0 1 (in_c 1 rfl) rfl)) (hp41 _ _ ?_)
                    show GG _ _ _ _ _ _ _ _ [.int (Int32.ofInt 1)] _ _ _
                    refine g_if_eq 47 49 (gd rfl) rfl rfl (fun c44 => ?_) (fun c44 => ?_)
                    · skip
                      exact zn_eq c44 (in_c 1 rfl) rfl
                    · skip
                      refine g_iconst 0 48 (gd rfl) rfl rfl ?_
                      have n48 : CDR s (sF s 109 0 (Int32.ofInt 1)) (HNR s x1 ∧ In x2 0 25) ((s.2.2.1 109 9).toInt ≤ 3999) (((Int32.ofInt 0)) = s.1 111 (x1).toNatClampNeg ∧ gvR (sF s 109 0 (Int32.ofInt 1)) = gqL (gvR s) (x1).toNatClampNeg x2) := by first | exact Or.inl ⟨rfl, (by first | (unfold HNR In; rw [show s.1 110 0 = z3x10 from e3x10.symm]; have a0 := in_u i3x11; have a1 := in_u ((inv_F hI 0 2 rfl e_109_0)); have a2 := in_u i33; have a3 := in_u i15x10b; have a4 := in_u ((in_c 1 rfl)); have a5 := tx_i2l e10; have oc := oc_285_109; omega) | (unfold HNR In; have a0 := in_u i3x11; have a1 := in_u ((inv_F hI 0 2 rfl e_109_0)); have a2 := in_u i33; have a3 := in_u i15x10b; have a4 := in_u ((in_c 1 rfl)); have a5 := tx_i2l e10; have oc := oc_285_109; omega)), (gvR_cg (L := ([], [], [(109, 0)], [])) (fr_sF rfl fr_rf) rfl)⟩ | exact Or.inr (Or.inl ⟨rfl, ⟨⟨by have a0 := in_u i3x11; have a1 := in_u ((inv_F hI 0 2 rfl e_109_0)); have a2 := in_u i33; have a3 := in_u i15x10b; have a4 := in_u ((in_c 1 rfl)); have a5 := tx_i2l e10; have oc := oc_285_109; omega, by rw [show s.1 110 0 = z3x10 from e3x10.symm]; have a0 := in_u i3x11; have a1 := in_u ((inv_F hI 0 2 rfl e_109_0)); have a2 := in_u i33; have a3 := in_u i15x10b; have a4 := in_u ((in_c 1 rfl)); have a5 := tx_i2l e10; have oc := oc_285_109; omega⟩, ⟨by have a0 := in_u i3x11; have a1 := in_u ((inv_F hI 0 2 rfl e_109_0)); have a2 := in_u i33; have a3 := in_u i15x10b; have a4 := in_u ((in_c 1 rfl)); have a5 := tx_i2l e10; have oc := oc_285_109; omega, by have a0 := in_u i3x11; have a1 := in_u ((inv_F hI 0 2 rfl e_109_0)); have a2 := in_u i33; have a3 := in_u i15x10b; have a4 := in_u ((in_c 1 rfl)); have a5 := tx_i2l e10; have oc := oc_285_109; omega⟩⟩, (by rw [← e_109_9]; have a0 := in_u i3x11; have a1 := in_u ((inv_F hI 0 2 rfl e_109_0)); have a2 := in_u i33; have a3 := in_u i15x10b; have a4 := in_u ((in_c 1 rfl)); have a5 := tx_i2l e10; have oc := oc_285_109; omega), (gvR_cg (L := ([], [], [(109, 0)], [])) (fr_sF rfl fr_rf) rfl)⟩)
                      have n48a : LGX s (sF s 109 0 (Int32.ofInt 1)) (Int32.ofInt 4) x1 x2 (Int32.ofInt 0) (Int32.ofInt 0) (Int32.ofInt 0) (Int32.ofInt 0) := by exact Or.inl ⟨rfl, rfl, rfl, rfl, rfl, rfl, rfl, rfl⟩
                      have n48b : GSE s → GSE (sF s 109 0 (Int32.ofInt 1)) := by exact fun h => gse_fr (L := ([], [], [(109, 0)], [])) h (fr_sF rfl fr_rf) rfl
                      have n48c : G1S s (sF s 109 0 (Int32.ofInt 1)) := by exact ⟨rfl, fun _ _ => rfl, fun _ _ _ => ⟨rfl, rfl, rfl, rfl, rfl, rfl⟩⟩
                      exact g_ireturn (gd rfl) rfl rfl (hP _ _ ⟨(sF s 109 0 (Int32.ofInt 1)), hI41x18, (fr_sF rfl fr_rf), (Int32.ofInt 0), rfl, rfl, in_w 0 25 (in_c 0 rfl) rfl, n48, n48a, n48b, n48c⟩)
              · skip
                have i33 := r_lt1 0 3999 c33 (inv_F hI 0 4000 rfl e_109_9) (in_c 4000 rfl) rfl
                refine g_iconst 1 37 (gd rfl) rfl rfl ?_
                refine g_goto 41 (gd rfl) rfl ?_
                refine g_callv (X := _) (As := [.int (Int32.ofInt 0), .int (Int32.ofInt 1)]) (r := []) (b := A 109) (q := 109) 44 (gd rfl) rfl rfl rfl rfl rfl (ww_o rfl) (Nat.le_of_ble_eq_true rfl) (mc := 0) (ms := 0) (Nat.zero_le _) (Nat.zero_le _) (P := fun v u => _) ?_ (fun e u h => h) (fun v u h => h)
                intro po41 xx41 hp41 hx41
                refine g_enter2 (k := 270) (N := 300) (by first | exact dq1 hd rfl | exact dq0 hd rfl | exact dq2 hd rfl | exact dq3 hd rfl | omega) rfl (Nat.le_of_ble_eq_true rfl) ?_
                refine g_aload_n 1 (gd rfl) rfl rfl ?_
                refine g_iload_n 2 (gd rfl) rfl rfl ?_
                refine g_if_ne 5 9 (gd rfl) rfl rfl (fun c41x2 => ?_) (fun c41x2 => ?_)
                · skip
                  exact zn_ne c41x2 (in_c 0 rfl) rfl
                · skip
                  refine g_iconst 1 6 (gd rfl) rfl rfl ?_
                  refine g_goto 18 (gd rfl) rfl ?_
                  refine g_putI 21 (gd rfl) rfl rfl rfl rfl ?_
                  have hI41x18 := inv_sF (q := 109) (j := 0) hI rfl (in_w 0 2 (in_c 1 rfl) rfl)
                  refine g_aload_n 22 (gd rfl) rfl rfl ?_
                  refine g_getI 25 (gd rfl) rfl rfl rfl (fun z41x22 e41x22 => ?_)
                  have q41x22 : (Int32.ofInt 1) = z41x22 := (sF_get).trans e41x22.symm
                  subst q41x22
                  refine g_if_le 28 32 (gd rfl) rfl rfl (fun c41x25 => ?_) (fun c41x25 => ?_)
                  · skip
                    exact zn_le c41x25 (in_c 1 rfl) rfl
                  · skip
                    refine g_iconst 1 29 (gd rfl) rfl rfl ?_
                    refine g_goto 33 (gd rfl) rfl ?_
                    refine g_ireturn (gd rfl) rfl (nb01 (in_w 0 1 (in_c 1 rfl) rfl)) (hp41 _ _ ?_)
                    show GG _ _ _ _ _ _ _ _ [.int (Int32.ofInt 1)] _ _ _
                    refine g_if_eq 47 49 (gd rfl) rfl rfl (fun c44 => ?_) (fun c44 => ?_)
                    · skip
                      exact zn_eq c44 (in_c 1 rfl) rfl
                    · skip
                      refine g_iconst 0 48 (gd rfl) rfl rfl ?_
                      have n48 : CDR s (sF s 109 0 (Int32.ofInt 1)) (HNR s x1 ∧ In x2 0 25) ((s.2.2.1 109 9).toInt ≤ 3999) (((Int32.ofInt 0)) = s.1 111 (x1).toNatClampNeg ∧ gvR (sF s 109 0 (Int32.ofInt 1)) = gqL (gvR s) (x1).toNatClampNeg x2) := by first | exact Or.inl ⟨rfl, (by first | (unfold HNR In; rw [show s.1 110 0 = z3x10 from e3x10.symm]; have a0 := in_u i3x11; have a1 := in_u ((inv_F hI 0 2 rfl e_109_0)); have a2 := in_u i33; have a3 := in_u i15x10b; have a4 := in_u ((in_c 1 rfl)); have a5 := tx_i2l e10; have oc := oc_285_109; omega) | (unfold HNR In; have a0 := in_u i3x11; have a1 := in_u ((inv_F hI 0 2 rfl e_109_0)); have a2 := in_u i33; have a3 := in_u i15x10b; have a4 := in_u ((in_c 1 rfl)); have a5 := tx_i2l e10; have oc := oc_285_109; omega)), (gvR_cg (L := ([], [], [(109, 0)], [])) (fr_sF rfl fr_rf) rfl)⟩ | exact Or.inr (Or.inl ⟨rfl, ⟨⟨by have a0 := in_u i3x11; have a1 := in_u ((inv_F hI 0 2 rfl e_109_0)); have a2 := in_u i33; have a3 := in_u i15x10b; have a4 := in_u ((in_c 1 rfl)); have a5 := tx_i2l e10; have oc := oc_285_109; omega, by rw [show s.1 110 0 = z3x10 from e3x10.symm]; have a0 := in_u i3x11; have a1 := in_u ((inv_F hI 0 2 rfl e_109_0)); have a2 := in_u i33; have a3 := in_u i15x10b; have a4 := in_u ((in_c 1 rfl)); have a5 := tx_i2l e10; have oc := oc_285_109; omega⟩, ⟨by have a0 := in_u i3x11; have a1 := in_u ((inv_F hI 0 2 rfl e_109_0)); have a2 := in_u i33; have a3 := in_u i15x10b; have a4 := in_u ((in_c 1 rfl)); have a5 := tx_i2l e10; have oc := oc_285_109; omega, by have a0 := in_u i3x11; have a1 := in_u ((inv_F hI 0 2 rfl e_109_0)); have a2 := in_u i33; have a3 := in_u i15x10b; have a4 := in_u ((in_c 1 rfl)); have a5 := tx_i2l e10; have oc := oc_285_109; omega⟩⟩, (by rw [← e_109_9]; have a0 := in_u i3x11; have a1 := in_u ((inv_F hI 0 2 rfl e_109_0)); have a2 := in_u i33; have a3 := in_u i15x10b; have a4 := in_u ((in_c 1 rfl)); have a5 := tx_i2l e10; have oc := oc_285_109; omega), (gvR_cg (L := ([], [], [(109, 0)], [])) (fr_sF rfl fr_rf) rfl)⟩)
                      have n48a : LGX s (sF s 109 0 (Int32.ofInt 1)) (Int32.ofInt 4) x1 x2 (Int32.ofInt 0) (Int32.ofInt 0) (Int32.ofInt 0) (Int32.ofInt 0) := by exact Or.inl ⟨rfl, rfl, rfl, rfl, rfl, rfl, rfl, rfl⟩
                      have n48b : GSE s → GSE (sF s 109 0 (Int32.ofInt 1)) := by exact fun h => gse_fr (L := ([], [], [(109, 0)], [])) h (fr_sF rfl fr_rf) rfl
                      have n48c : G1S s (sF s 109 0 (Int32.ofInt 1)) := by exact ⟨rfl, fun _ _ => rfl, fun _ _ _ => ⟨rfl, rfl, rfl, rfl, rfl, rfl⟩⟩
                      exact g_ireturn (gd rfl) rfl rfl (hP _ _ ⟨(sF s 109 0 (Int32.ofInt 1)), hI41x18, (fr_sF rfl fr_rf), (Int32.ofInt 0), rfl, rfl, in_w 0 25 (in_c 0 rfl) rfl, n48, n48a, n48b, n48c⟩)
            · skip
              exact zn_ne c18 (in_c 0 rfl) rfl
          · skip
            have i15x10 := z_le (-1) 0 c15x10 i15x9 rfl
            have c15x10a := lc_le e15x9 c15x10
            have i15x10a := lr_le1 0 25 c15x10a i15x3a (l_c 25 rfl) rfl
            have i15x10b := l_b e10 i15x10a
            refine g_iconst 1 14 (gd rfl) rfl rfl ?_
            refine g_goto 18 (gd rfl) rfl ?_
            refine g_ireturn (gd rfl) rfl (nb01 (in_w 0 1 (in_c 1 rfl) rfl)) (hp15 _ _ ?_)
            show GG _ _ _ _ _ _ _ _ [.int (Int32.ofInt 1), .ref (A 109)] _ _ _
            refine g_if_eq 21 25 (gd rfl) rfl rfl (fun c18 => ?_) (fun c18 => ?_)
            · skip
              exact zn_eq c18 (in_c 1 rfl) rfl
            · skip
              refine g_iconst 1 22 (gd rfl) rfl rfl ?_
              refine g_goto 26 (gd rfl) rfl ?_
              refine g_aload_n 27 (gd rfl) rfl rfl ?_
              refine g_getI 30 (gd rfl) rfl rfl rfl (fun z27 e27 => ?_)
              have q27 : u_109_9 = z27 := (e_109_9).trans e27.symm
              subst q27
              refine g_sipush 4000 33 (gd rfl) rfl rfl ?_
              refine g_cmp_ge 36 40 (gd rfl) rfl rfl (fun c33 => ?_) (fun c33 => ?_)
              · skip
                have i33 := r_le2 4000 4000 c33 (in_c 4000 rfl) (inv_F hI 0 4000 rfl e_109_9) rfl
                refine g_iconst 0 41 (gd rfl) rfl rfl ?_
                refine g_callv (X := _) (As := [.int (Int32.ofInt 1), .int (Int32.ofInt 0)]) (r := []) (b := A 109) (q := 109) 44 (gd rfl) rfl rfl rfl rfl rfl (ww_o rfl) (Nat.le_of_ble_eq_true rfl) (mc := 0) (ms := 0) (Nat.zero_le _) (Nat.zero_le _) (P := fun v u => _) ?_ (fun e u h => h) (fun v u h => h)
                intro po41 xx41 hp41 hx41
                refine g_enter2 (k := 270) (N := 300) (by first | exact dq1 hd rfl | exact dq0 hd rfl | exact dq2 hd rfl | exact dq3 hd rfl | omega) rfl (Nat.le_of_ble_eq_true rfl) ?_
                refine g_aload_n 1 (gd rfl) rfl rfl ?_
                refine g_iload_n 2 (gd rfl) rfl rfl ?_
                refine g_if_ne 5 9 (gd rfl) rfl rfl (fun c41x2 => ?_) (fun c41x2 => ?_)
                · skip
                  refine g_iload_n 10 (gd rfl) rfl rfl ?_
                  refine g_if_ne 13 17 (gd rfl) rfl rfl (fun c41x10 => ?_) (fun c41x10 => ?_)
                  · skip
                    exact zn_ne c41x10 (in_c 0 rfl) rfl
                  · skip
                    refine g_iconst 2 14 (gd rfl) rfl rfl ?_
                    refine g_goto 18 (gd rfl) rfl ?_
                    refine g_putI 21 (gd rfl) rfl rfl rfl rfl ?_
                    have hI41x18 := inv_sF (q := 109) (j := 0) hI rfl (in_w 0 2 (in_c 2 rfl) rfl)
                    refine g_aload_n 22 (gd rfl) rfl rfl ?_
                    refine g_getI 25 (gd rfl) rfl rfl rfl (fun z41x22 e41x22 => ?_)
                    have q41x22 : (Int32.ofInt 2) = z41x22 := (sF_get).trans e41x22.symm
                    subst q41x22
                    refine g_if_le 28 32 (gd rfl) rfl rfl (fun c41x25 => ?_) (fun c41x25 => ?_)
                    · skip
                      exact zn_le c41x25 (in_c 2 rfl) rfl
                    · skip
                      refine g_iconst 1 29 (gd rfl) rfl rfl ?_
                      refine g_goto 33 (gd rfl) rfl ?_
                      refine g_ireturn (gd rfl) rfl (nb01 (in_w 0 1 (in_c 1 rfl) rfl)) (hp41 _ _ ?_)
                      show GG _ _ _ _ _ _ _ _ [.int (Int32.ofInt 1)] _ _ _
                      refine g_if_eq 47 49 (gd rfl) rfl rfl (fun c44 => ?_) (fun c44 => ?_)
                      · skip
                        exact zn_eq c44 (in_c 1 rfl) rfl
                      · skip
                        refine g_iconst 0 48 (gd rfl) rfl rfl ?_
                        have n48 : CDR s (sF s 109 0 (Int32.ofInt 2)) (HNR s x1 ∧ In x2 0 25) ((s.2.2.1 109 9).toInt ≤ 3999) (((Int32.ofInt 0)) = s.1 111 (x1).toNatClampNeg ∧ gvR (sF s 109 0 (Int32.ofInt 2)) = gqL (gvR s) (x1).toNatClampNeg x2) := by first | exact Or.inl ⟨rfl, (by first | (unfold HNR In; rw [show s.1 110 0 = z3x10 from e3x10.symm]; have a0 := in_u i15x10b; have a1 := in_u i3x11; have a2 := in_u ((inv_F hI 0 2 rfl e_109_0)); have a3 := in_u i33; have a4 := in_u ((in_c 2 rfl)); have a5 := tx_i2l e10; have oc := oc_285_109; omega) | (unfold HNR In; have a0 := in_u i15x10b; have a1 := in_u i3x11; have a2 := in_u ((inv_F hI 0 2 rfl e_109_0)); have a3 := in_u i33; have a4 := in_u ((in_c 2 rfl)); have a5 := tx_i2l e10; have oc := oc_285_109; omega)), (gvR_cg (L := ([], [], [(109, 0)], [])) (fr_sF rfl fr_rf) rfl)⟩ | exact Or.inr (Or.inl ⟨rfl, ⟨⟨by have a0 := in_u i15x10b; have a1 := in_u i3x11; have a2 := in_u ((inv_F hI 0 2 rfl e_109_0)); have a3 := in_u i33; have a4 := in_u ((in_c 2 rfl)); have a5 := tx_i2l e10; have oc := oc_285_109; omega, by rw [show s.1 110 0 = z3x10 from e3x10.symm]; have a0 := in_u i15x10b; have a1 := in_u i3x11; have a2 := in_u ((inv_F hI 0 2 rfl e_109_0)); have a3 := in_u i33; have a4 := in_u ((in_c 2 rfl)); have a5 := tx_i2l e10; have oc := oc_285_109; omega⟩, ⟨by have a0 := in_u i15x10b; have a1 := in_u i3x11; have a2 := in_u ((inv_F hI 0 2 rfl e_109_0)); have a3 := in_u i33; have a4 := in_u ((in_c 2 rfl)); have a5 := tx_i2l e10; have oc := oc_285_109; omega, by have a0 := in_u i15x10b; have a1 := in_u i3x11; have a2 := in_u ((inv_F hI 0 2 rfl e_109_0)); have a3 := in_u i33; have a4 := in_u ((in_c 2 rfl)); have a5 := tx_i2l e10; have oc := oc_285_109; omega⟩⟩, (by rw [← e_109_9]; have a0 := in_u i15x10b; have a1 := in_u i3x11; have a2 := in_u ((inv_F hI 0 2 rfl e_109_0)); have a3 := in_u i33; have a4 := in_u ((in_c 2 rfl)); have a5 := tx_i2l e10; have oc := oc_285_109; omega), (gvR_cg (L := ([], [], [(109, 0)], [])) (fr_sF rfl fr_rf) rfl)⟩)
                        have n48a : LGX s (sF s 109 0 (Int32.ofInt 2)) (Int32.ofInt 4) x1 x2 (Int32.ofInt 0) (Int32.ofInt 0) (Int32.ofInt 0) (Int32.ofInt 0) := by exact Or.inl ⟨rfl, rfl, rfl, rfl, rfl, rfl, rfl, rfl⟩
                        have n48b : GSE s → GSE (sF s 109 0 (Int32.ofInt 2)) := by exact fun h => gse_fr (L := ([], [], [(109, 0)], [])) h (fr_sF rfl fr_rf) rfl
                        have n48c : G1S s (sF s 109 0 (Int32.ofInt 2)) := by exact ⟨rfl, fun _ _ => rfl, fun _ _ _ => ⟨rfl, rfl, rfl, rfl, rfl, rfl⟩⟩
                        exact g_ireturn (gd rfl) rfl rfl (hP _ _ ⟨(sF s 109 0 (Int32.ofInt 2)), hI41x18, (fr_sF rfl fr_rf), (Int32.ofInt 0), rfl, rfl, in_w 0 25 (in_c 0 rfl) rfl, n48, n48a, n48b, n48c⟩)
                · skip
                  exact zn_eq c41x2 (in_c 1 rfl) rfl
              · skip
                have i33 := r_lt1 0 3999 c33 (inv_F hI 0 4000 rfl e_109_9) (in_c 4000 rfl) rfl
                refine g_iconst 1 37 (gd rfl) rfl rfl ?_
                refine g_goto 41 (gd rfl) rfl ?_
                refine g_callv (X := _) (As := [.int (Int32.ofInt 1), .int (Int32.ofInt 1)]) (r := []) (b := A 109) (q := 109) 44 (gd rfl) rfl rfl rfl rfl rfl (ww_o rfl) (Nat.le_of_ble_eq_true rfl) (mc := 0) (ms := 0) (Nat.zero_le _) (Nat.zero_le _) (P := fun v u => _) ?_ (fun e u h => h) (fun v u h => h)
                intro po41 xx41 hp41 hx41
                refine g_enter2 (k := 270) (N := 300) (by first | exact dq1 hd rfl | exact dq0 hd rfl | exact dq2 hd rfl | exact dq3 hd rfl | omega) rfl (Nat.le_of_ble_eq_true rfl) ?_
                refine g_aload_n 1 (gd rfl) rfl rfl ?_
                refine g_iload_n 2 (gd rfl) rfl rfl ?_
                refine g_if_ne 5 9 (gd rfl) rfl rfl (fun c41x2 => ?_) (fun c41x2 => ?_)
                · skip
                  refine g_iload_n 10 (gd rfl) rfl rfl ?_
                  refine g_if_ne 13 17 (gd rfl) rfl rfl (fun c41x10 => ?_) (fun c41x10 => ?_)
                  · skip
                    refine g_iconst 0 18 (gd rfl) rfl rfl ?_
                    refine g_putI 21 (gd rfl) rfl rfl rfl rfl ?_
                    have hI41x18 := inv_sF (q := 109) (j := 0) hI rfl (in_w 0 2 (in_c 0 rfl) rfl)
                    refine g_aload_n 22 (gd rfl) rfl rfl ?_
                    refine g_getI 25 (gd rfl) rfl rfl rfl (fun z41x22 e41x22 => ?_)
                    have q41x22 : (Int32.ofInt 0) = z41x22 := (sF_get).trans e41x22.symm
                    subst q41x22
                    refine g_if_le 28 32 (gd rfl) rfl rfl (fun c41x25 => ?_) (fun c41x25 => ?_)
                    · skip
                      refine g_iconst 0 33 (gd rfl) rfl rfl ?_
                      refine g_ireturn (gd rfl) rfl (nb01 (in_w 0 1 (in_c 0 rfl) rfl)) (hp41 _ _ ?_)
                      show GG _ _ _ _ _ _ _ _ [.int (Int32.ofInt 0)] _ _ _
                      refine g_if_eq 47 49 (gd rfl) rfl rfl (fun c44 => ?_) (fun c44 => ?_)
                      · skip
                        refine g_aload_n 50 (gd rfl) rfl rfl ?_
                        refine g_getA (q2 := 111) 53 (gd rfl) rfl rfl rfl rfl ?_
                        refine g_iload_n 54 (gd rfl) rfl rfl ?_
                        refine g_iaload 55 (gd rfl) rfl (n := 96) rfl (in_ix i3x11 rfl) (fun z54 e54 => ?_)
                        have i54 := inv_I hI41x18 (n := 96) (t := 0) 0 25 rfl (in_ix i3x11 rfl) rfl e54
                        refine g_istore_n 56 (gd rfl) rfl (Nat.le_of_ble_eq_true rfl) ?_
                        refine g_aload_n 57 (gd rfl) rfl rfl ?_
                        refine g_iconst 4 58 (gd rfl) rfl rfl ?_
                        refine g_iload_n 59 (gd rfl) rfl rfl ?_
                        refine g_iload_n 60 (gd rfl) rfl rfl ?_
                        refine g_iconst 0 61 (gd rfl) rfl rfl ?_
                        refine g_iconst 0 62 (gd rfl) rfl rfl ?_
                        refine g_iconst 0 63 (gd rfl) rfl rfl ?_
                        refine g_iconst 0 64 (gd rfl) rfl rfl ?_
                        have v64 : u_109_9 = (sF s 109 0 (Int32.ofInt 0)).2.2.1 109 9 := sF_ne rfl (e_109_9)
                        have p64 : MK (sF s 109 0 (Int32.ofInt 0)) (Int32.ofInt 4) x1 x2 (Int32.ofInt 0) := by refine ⟨fun h => absurd h (by decide), fun h => absurd h (by decide), fun h => absurd h (by decide), fun h => absurd h (by decide), fun _ => ?_⟩; have e0 : ((sF s 109 0 (Int32.ofInt 0))).1 110 0 = z3x10 := e3x10.symm; rw [e0]; exact ⟨c3x11, by have a0 := in_u i15x10b; have a1 := in_u i3x11; have a2 := in_u ((inv_F hI 0 2 rfl e_109_0)); have a3 := in_u i33; have a4 := in_u i54; have a5 := in_u ((in_c 0 rfl)); have a6 := tx_i2l e10; have oc := oc_285_109; omega⟩
                        refine g_callv (X := _) (As := [.int (Int32.ofInt 4), .int x1, .int x2, .int (Int32.ofInt 0), .int (Int32.ofInt 0), .int (Int32.ofInt 0), .int (Int32.ofInt 0)]) (r := []) (b := A 109) (q := 109) 67 (gd rfl) rfl rfl rfl rfl rfl (ww_o rfl) (Nat.le_of_ble_eq_true rfl) (Nat.zero_le _) (Nat.zero_le _) (f_274 (by first | exact dq1 hd rfl | exact dq0 hd rfl | exact dq2 hd rfl | exact dq3 hd rfl | omega) hI41x18 (in_w 0 4 (in_c 4 rfl) rfl) (in_w 0 159 i3x11 rfl) (in_w 0 31 i15x10b rfl) (in_w (-1000000) 1000000 (in_c 0 rfl) rfl) (in_w (-1000000) 1000000 (in_c 0 rfl) rfl) (in_w 0 1000000 (in_c 0 rfl) rfl) (in_w 0 25 (in_c 0 rfl) rfl) v64 (in_w 0 3999 i33 rfl) p64) (fun e u h => h) (fun v u h => ?_)
                        obtain ⟨s64, hI64, hF64, n64, rfl, rfl, p64a, p64b, p64c, p64d, p64e⟩ := h
                        obtain ⟨z64a, e64⟩ : ∃ w, w = s64.2.2.1 109 9 := ⟨_, rfl⟩
                        have i64a := inv_F hI64 0 4000 rfl e64
                        rw [← (show u_109_9 = (sF s 109 0 (Int32.ofInt 0)).2.2.1 109 9 from sF_ne rfl (e_109_9))] at n64
                        rw [← (show z64a = s64.2.2.1 109 9 from e64)] at n64
                        show GG _ _ _ _ _ _ _ _ [] _ _ _
                        refine g_iload_n 68 (gd rfl) rfl rfl ?_
                        have n68 : CDR s s64 (HNR s x1 ∧ In x2 0 25) ((s.2.2.1 109 9).toInt ≤ 3999) ((z54) = s.1 111 (x1).toNatClampNeg ∧ gvR s64 = gqL (gvR s) (x1).toNatClampNeg x2) := by exact Or.inr (Or.inr ⟨(by have hc9 : s64.2.2.1 109 0 = Int32.ofInt 0 := (hF64.2.2.1 109 0 rfl).trans rfl; rw [hc9]; rfl), ⟨⟨by have a0 := in_u i15x10b; have a1 := in_u i3x11; have a2 := in_u ((inv_F hI 0 2 rfl e_109_0)); have a3 := in_u i33; have a4 := in_u i54; have a5 := in_u i64a; have a6 := in_u ((in_c 0 rfl)); have a7 := tx_i2l e10; have oc := oc_285_109; omega, by rw [show s.1 110 0 = z3x10 from e3x10.symm]; have a0 := in_u i15x10b; have a1 := in_u i3x11; have a2 := in_u ((inv_F hI 0 2 rfl e_109_0)); have a3 := in_u i33; have a4 := in_u i54; have a5 := in_u i64a; have a6 := in_u ((in_c 0 rfl)); have a7 := tx_i2l e10; have oc := oc_285_109; omega⟩, ⟨by have a0 := in_u i15x10b; have a1 := in_u i3x11; have a2 := in_u ((inv_F hI 0 2 rfl e_109_0)); have a3 := in_u i33; have a4 := in_u i54; have a5 := in_u i64a; have a6 := in_u ((in_c 0 rfl)); have a7 := tx_i2l e10; have oc := oc_285_109; omega, by have a0 := in_u i15x10b; have a1 := in_u i3x11; have a2 := in_u ((inv_F hI 0 2 rfl e_109_0)); have a3 := in_u i33; have a4 := in_u i54; have a5 := in_u i64a; have a6 := in_u ((in_c 0 rfl)); have a7 := tx_i2l e10; have oc := oc_285_109; omega⟩⟩, (by rw [← e_109_9]; have a0 := in_u i15x10b; have a1 := in_u i3x11; have a2 := in_u ((inv_F hI 0 2 rfl e_109_0)); have a3 := in_u i33; have a4 := in_u i54; have a5 := in_u i64a; have a6 := in_u ((in_c 0 rfl)); have a7 := tx_i2l e10; have oc := oc_285_109; omega), e54, (by have hm := (p64b).2.2.2.2 rfl; rw [hm, gvR_cg (L := ([], [], [(109, 0)], [])) (fr_sF rfl fr_rf) rfl] <;> rfl)⟩)
                        have n68a : LGX s s64 (Int32.ofInt 4) x1 x2 (Int32.ofInt 0) (Int32.ofInt 0) (Int32.ofInt 0) (Int32.ofInt 0) := by exact Or.inr p64c
                        have n68b : GSE s → GSE s64 := by exact fun _ => p64d
                        have n68c : G1S s s64 := by exact p64e
                        exact g_ireturn (gd rfl) rfl rfl (hP _ _ ⟨s64, hI64, (fr_tr rfl (fr_sF rfl fr_rf) hF64), z54, rfl, rfl, in_w 0 25 i54 rfl, n68, n68a, n68b, n68c⟩)
                      · skip
                        exact zn_ne c44 (in_c 0 rfl) rfl
                    · skip
                      exact zn_gt c41x25 (in_c 0 rfl) rfl
                  · skip
                    exact zn_eq c41x10 (in_c 1 rfl) rfl
                · skip
                  exact zn_eq c41x2 (in_c 1 rfl) rfl

theorem oc_303_109 : (Int32.ofInt (-1)).toInt = (-1) ∧ (Int32.ofInt 0).toInt = 0 ∧ (Int32.ofInt 1).toInt = 1 ∧ (Int32.ofInt 2).toInt = 2 ∧ (Int32.ofInt 160).toInt = 160 ∧ (Int32.ofInt 320).toInt = 320 := ⟨rfl, rfl, rfl, rfl, rfl, rfl⟩
/-- GraphHouseModel.copyGraph -/
theorem f_303 {Z : AmZ} {A : Nat → Nat} {s : GS} {ex : va_W} {d : Nat} {X : AmX}  (hd : 1 ≤ d) (hI : Inv s)  : GC Z d 303 [.ref (A 109)] (WW Z A s ++ ex) 0 0 (fun v u => ∃ t : GS, Inv t ∧ Fr fm_303 s t ∧ v = none ∧ u = WW Z A t ++ ex ∧ (t.1 110 2 = s.1 110 0 ∧ t.1 110 0 = s.1 110 0 ∧ ∀ i : Nat, i < 160 → t.1 112 (320 + i) = s.1 112 i ∧ t.1 112 i = s.1 112 i) ∧ (G12 s t)) X := by
  intro post xp hP hX
  have ct14 : ∀ (k14 : Nat) (sc14 : GS) (y14_1 : Int32), Inv sc14 → Fr fm_303 s sc14 → (In y14_1 0 160) → (sc14.1 110 2 = s.1 110 0 ∧ sc14.1 110 0 = s.1 110 0 ∧ (∀ i : Nat, i < 160 → sc14.1 112 i = s.1 112 i) ∧ ∀ i : Nat, (i : Int) < (y14_1).toInt → sc14.1 112 (320 + i) = s.1 112 i) → (sc14.1 110 1 = s.1 110 1 ∧ ∀ i : Nat, i < 320 → sc14.1 112 i = s.1 112 i) → 160 - (y14_1).toInt < (k14 : Int) → GG Z (d - 1) 303 post (gx xp) (1 + k14 * 900) 14 (fun j => xlook j [(0, .ref (A 109)), (1, .int y14_1)]) [] (WW Z A sc14 ++ ex) 0 0 := by
    intro k14
    induction k14 with
    | zero => intro sc14 y14_1 hIc14 hFc14 j14_1 g14_0 g14_1 mm14; exact m_no mm14 j14_1 rfl
    | succ k14 ih14 =>
      intro sc14 y14_1 hIc14 hFc14 j14_1 g14_0 g14_1 mm14
      refine gg_w (M := 1 + k14 * 900 + 900) gws ?_
      refine g_iload_n 15 (gd rfl) rfl rfl ?_
      refine g_sipush 160 18 (gd rfl) rfl rfl ?_
      refine g_cmp_ge 21 43 (gd rfl) rfl rfl (fun c18 => ?_) (fun c18 => ?_)
      · skip
        have i18 := r_le2 160 160 c18 (in_c 160 rfl) j14_1 rfl
        have n43 : sc14.1 110 2 = s.1 110 0 ∧ sc14.1 110 0 = s.1 110 0 ∧ ∀ i : Nat, i < 160 → sc14.1 112 (320 + i) = s.1 112 i ∧ sc14.1 112 i = s.1 112 i := by exact ⟨g14_0.1, g14_0.2.1, fun i hi => ⟨g14_0.2.2.2 i (by have a0 := in_u i18; have oc := oc_303_109; omega), g14_0.2.2.1 i hi⟩⟩
        have n43a : G12 s sc14 := by exact ⟨g14_1.1, fun i _ h => g14_1.2 i h⟩
        exact g_return (gd rfl) rfl (hP _ _ ⟨sc14, hIc14, hFc14, rfl, rfl, n43, n43a⟩)
      · skip
        have i18 := r_lt1 0 159 c18 j14_1 (in_c 160 rfl) rfl
        refine g_aload_n 22 (gd rfl) rfl rfl ?_
        refine g_getA (q2 := 112) 25 (gd rfl) rfl rfl rfl rfl ?_
        refine g_sipush 320 28 (gd rfl) rfl rfl ?_
        refine g_iload_n 29 (gd rfl) rfl rfl ?_
        refine g_iadd 30 (gd rfl) rfl (fun z29 e29 => ?_)
        have i29 := in_add 320 479 e29 (in_c 320 rfl) i18 rfl rfl
        refine g_aload_n 31 (gd rfl) rfl rfl ?_
        refine g_getA (q2 := 112) 34 (gd rfl) rfl rfl rfl rfl ?_
        refine g_iload_n 35 (gd rfl) rfl rfl ?_
        refine g_baload 36 (gd rfl) rfl (n := 480) rfl (in_ix i18 rfl) (fun z35 e35 => ?_)
        have i35 := inv_I hIc14 (n := 480) (t := 3) 0 1 rfl (in_ix i18 rfl) rfl e35
        refine g_bastore 37 (gd rfl) rfl (n := 480) rfl (in_ix i29 rfl) ?_
        have hI36 : Inv (sI sc14 112 z29.toNatClampNeg (vp_nar .boolean z35)) := by exact inv_t3 hIc14 (by show 320 ≤ (z29).toInt.toNat; have a0 := in_u i18; have a1 := in_u i29; have a2 := t_add e29 (in_c 320 rfl) i18 rfl; have a3 := in_u ((in_c 320 rfl)); have oc := oc_303_109; omega) (in_w 0 1 (nar01 (in_w 0 1 i35 rfl)) rfl)
        refine g_iinc 40 (gd rfl) rfl rfl (Nat.le_of_ble_eq_true rfl) (fun z37 e37 => ?_)
        have i37 := in_add 1 160 e37 i18 (in_c 1 rfl) rfl rfl
        refine g_goto 14 (gd rfl) rfl ?_
        have n14 : (sI sc14 112 z29.toNatClampNeg (vp_nar .boolean z35)).1 110 2 = s.1 110 0 ∧ (sI sc14 112 z29.toNatClampNeg (vp_nar .boolean z35)).1 110 0 = s.1 110 0 ∧ (∀ i : Nat, i < 160 → (sI sc14 112 z29.toNatClampNeg (vp_nar .boolean z35)).1 112 i = s.1 112 i) ∧ ∀ i : Nat, (i : Int) < (z37).toInt → (sI sc14 112 z29.toNatClampNeg (vp_nar .boolean z35)).1 112 (320 + i) = s.1 112 i := by (have ez : z29.toNatClampNeg = 320 + y14_1.toNatClampNeg := (by show z29.toInt.toNat = 320 + y14_1.toInt.toNat; have a0 := in_u i18; have a1 := in_u i37; have a2 := t_add e37 i18 (in_c 1 rfl) rfl; have a3 := in_u ((in_c 1 rfl)); have a4 := in_u i29; have a5 := t_add e29 (in_c 320 rfl) i18 rfl; have a6 := in_u ((in_c 320 rfl)); have oc := oc_303_109; omega); have e1 : y14_1.toNatClampNeg = y14_1.toInt.toNat := rfl; refine ⟨by rw [sI_p rfl]; exact g14_0.1, by rw [sI_p rfl]; exact g14_0.2.1, fun i hi => ?_, fun i hi => ?_⟩ <;> rw [sI_q]; (rw [up_n (by omega)]; exact g14_0.2.2.1 i hi); (by_cases c : i = y14_1.toNatClampNeg; (rw [c, ← ez, up_e, nar_b i35, e35]; exact g14_0.2.2.1 _ (by have a0 := in_u i18; have a1 := in_u i37; have a2 := t_add e37 i18 (in_c 1 rfl) rfl; have a3 := in_u ((in_c 1 rfl)); have a4 := in_u i29; have a5 := t_add e29 (in_c 320 rfl) i18 rfl; have a6 := in_u ((in_c 320 rfl)); have oc := oc_303_109; omega)); (rw [up_n (by omega)]; exact g14_0.2.2.2 i (by have a0 := in_u i18; have a1 := in_u i37; have a2 := t_add e37 i18 (in_c 1 rfl) rfl; have a3 := in_u ((in_c 1 rfl)); have a4 := in_u i29; have a5 := t_add e29 (in_c 320 rfl) i18 rfl; have a6 := in_u ((in_c 320 rfl)); have oc := oc_303_109; omega))))
        have n14a : (sI sc14 112 z29.toNatClampNeg (vp_nar .boolean z35)).1 110 1 = s.1 110 1 ∧ ∀ i : Nat, i < 320 → (sI sc14 112 z29.toNatClampNeg (vp_nar .boolean z35)).1 112 i = s.1 112 i := by have ez : z29.toNatClampNeg = 320 + y14_1.toNatClampNeg := (by show z29.toInt.toNat = 320 + y14_1.toInt.toNat; have a0 := in_u i18; have a1 := in_u i37; have a2 := t_add e37 i18 (in_c 1 rfl) rfl; have a3 := in_u ((in_c 1 rfl)); have a4 := in_u i29; have a5 := t_add e29 (in_c 320 rfl) i18 rfl; have a6 := in_u ((in_c 320 rfl)); have oc := oc_303_109; omega); refine ⟨by rw [sI_p rfl]; exact g14_1.1, fun i hi => ?_⟩; rw [sI_q, up_n (by omega)]; exact g14_1.2 i hi
        exact gg_w (by first | exact Nat.le_add_right _ _ | exact gw2 | exact gw3 | exact gwe rfl | exact gwf rfl | exact gwg rfl | exact gwh rfl | omega) (gg_f (gf_cons rfl (gf_cons rfl gf_nil)) (ih14 (sI sc14 112 z29.toNatClampNeg (vp_nar .boolean z35)) z37 hI36 (fr_sI rfl hFc14) (in_w 0 160 i37 rfl) n14 n14a (m_up mm14 (t_add e37 i18 (in_c 1 rfl) rfl) (in_w 1 1 (in_c 1 rfl) rfl))))
  refine g_enter2 (k := 303) (N := 145801) (by first | exact dq1 hd rfl | exact dq0 hd rfl | exact dq2 hd rfl | exact dq3 hd rfl | omega) rfl (Nat.le_of_ble_eq_true rfl) ?_
  refine g_aload_n 1 (gd rfl) rfl rfl ?_
  refine g_getA (q2 := 110) 4 (gd rfl) rfl rfl rfl rfl ?_
  refine g_iconst 2 5 (gd rfl) rfl rfl ?_
  refine g_aload_n 6 (gd rfl) rfl rfl ?_
  refine g_getA (q2 := 110) 9 (gd rfl) rfl rfl rfl rfl ?_
  refine g_iconst 0 10 (gd rfl) rfl rfl ?_
  refine g_iaload 11 (gd rfl) rfl (n := 3) rfl (in_ix (in_c 0 rfl) rfl) (fun z10 e10 => ?_)
  have i10 := nn_01 hI (in_c 0 rfl) rfl e10
  refine g_iastore 12 (gd rfl) rfl (n := 3) rfl (in_ix (in_c 2 rfl) rfl) ?_
  have hI11 : Inv (sI s 110 (Int32.ofInt 2).toNatClampNeg z10) := by exact inv_n2 hI (Nat.le_refl 2)
  refine g_iconst 0 13 (gd rfl) rfl rfl ?_
  refine g_istore_n 14 (gd rfl) rfl (Nat.le_of_ble_eq_true rfl) ?_
  have n14 : (sI s 110 (Int32.ofInt 2).toNatClampNeg z10).1 110 2 = s.1 110 0 ∧ (sI s 110 (Int32.ofInt 2).toNatClampNeg z10).1 110 0 = s.1 110 0 ∧ (∀ i : Nat, i < 160 → (sI s 110 (Int32.ofInt 2).toNatClampNeg z10).1 112 i = s.1 112 i) ∧ ∀ i : Nat, (i : Int) < ((Int32.ofInt 0)).toInt → (sI s 110 (Int32.ofInt 2).toNatClampNeg z10).1 112 (320 + i) = s.1 112 i := by exact ⟨by rw [sI_q, e10]; exact up_e, by rw [sI_q]; exact up_n (by decide), fun i _ => by rw [sI_p rfl], fun i hi => (by exfalso; have h0 : (Int32.ofInt 0).toInt = 0 := rfl; omega)⟩
  have n14a : (sI s 110 (Int32.ofInt 2).toNatClampNeg z10).1 110 1 = s.1 110 1 ∧ ∀ i : Nat, i < 320 → (sI s 110 (Int32.ofInt 2).toNatClampNeg z10).1 112 i = s.1 112 i := by exact ⟨by rw [sI_q]; exact up_n (by decide), fun i _ => by rw [sI_p rfl]⟩
  exact gg_w (by first | exact Nat.le_of_ble_eq_true rfl | omega) (gg_f (gf_cons rfl (gf_cons rfl gf_nil)) (ct14 161 (sI s 110 (Int32.ofInt 2).toNatClampNeg z10) (Int32.ofInt 0) hI11 (fr_sI rfl fr_rf) (in_w 0 160 (in_c 0 rfl) rfl) n14 n14a (m_in 161 (in_w 0 160 (in_c 0 rfl) rfl) rfl)))

theorem oc_305_109 : (Int32.ofInt (-1)).toInt = (-1) ∧ (Int32.ofInt 0).toInt = 0 ∧ (Int32.ofInt 1).toInt = 1 ∧ (Int32.ofInt 2).toInt = 2 ∧ (Int32.ofInt 3).toInt = 3 ∧ (Int32.ofInt 32).toInt = 32 ∧ (Int32.ofInt 160).toInt = 160 ∧ (Int32.ofInt 320).toInt = 320 ∧ (Int64.ofInt (-1000000)).toInt = (-1000000) ∧ (Int64.ofInt 0).toInt = 0 ∧ (Int64.ofInt 159).toInt = 159 ∧ (Int64.ofInt 1000000).toInt = 1000000 := ⟨rfl, rfl, rfl, rfl, rfl, rfl, rfl, rfl, rfl, rfl, rfl, rfl⟩
/-- GraphHouseModel.isDone -/
theorem f_305 {Z : AmZ} {A : Nat → Nat} {s : GS} {ex : va_W} {d : Nat} {X : AmX} {x1 : Int32} {x2 : Int32} (hd : 4 ≤ d) (hI : Inv s) (h1 : In x1 97 119) (h2 : In x2 0 2495) (q_0 : 0 ≤ (s.1 110 2).toInt ∧ (s.1 110 2).toInt ≤ 32) (q_1 : C4 (x1).toInt) : GC Z d 305 [.ref (A 109), .int x1, .int x2] (WW Z A s ++ ex) 0 0 (fun v u => ∃ t : GS, Inv t ∧ Fr fm_305 s t ∧ ∃ z : Int32, v = some (.int z) ∧ u = WW Z A t ++ ex ∧ In z 0 1 ∧ (DNE s t (x1).toInt (x2).toNatClampNeg (z).toInt) ∧ (YNQ (z).toInt (DON s (x1).toInt (x2).toNatClampNeg)) ∧ (G12 s t)) X := by
  intro post xp hP hX
  have ct311 : ∀ (sc311 : GS) (y311_3 : Int32) (y311_4 : Int32), Inv sc311 → Fr fm_305 s sc311 → (sc311 = s) → (¬ DON s (x1).toInt (x2).toNatClampNeg) → GG Z (d - 1) 305 post (gx xp) (901) 311 (fun j => xlook j [(0, .ref (A 109)), (1, .int x1), (2, .int x2), (3, .int y311_3), (4, .int y311_4)]) [] (WW Z A sc311 ++ ex) 0 0 := by
    intro sc311 y311_3 y311_4 hIc311 hFc311 g311_0 g311_1
    refine g_iconst 0 312 (gd rfl) rfl rfl ?_
    have n312 : DNE s sc311 (x1).toInt (x2).toNatClampNeg ((Int32.ofInt 0)).toInt := by exact dne_no g311_0 (by decide)
    have n312a : YNQ ((Int32.ofInt 0)).toInt (DON s (x1).toInt (x2).toNatClampNeg) := by exact ⟨fun h => absurd rfl h, fun _ => g311_1⟩
    have n312b : G12 s sc311 := by exact g12_e g311_0
    exact g_ireturn (gd rfl) rfl (nb01 (in_w 0 1 (in_c 0 rfl) rfl)) (hP _ _ ⟨sc311, hIc311, hFc311, (Int32.ofInt 0), rfl, rfl, in_w 0 1 (in_c 0 rfl) rfl, n312, n312a, n312b⟩)
  have ct255 : ∀ (sc255 : GS) (y255_3 : Int32) (y255_4 : Int32) (y255_7 : Int32), Inv sc255 → Fr fm_305 s sc255 → (In x1 116 116) → (In y255_7 0 1) → (DNE s sc255 (x1).toInt (x2).toNatClampNeg (y255_7).toInt) → (YNQ (y255_7).toInt (DON s (x1).toInt (x2).toNatClampNeg)) → (G12 s sc255) → GG Z (d - 1) 305 post (gx xp) (1802) 255 (fun j => xlook j [(0, .ref (A 109)), (1, .int x1), (2, .int x2), (3, .int y255_3), (4, .int y255_4), (7, .int y255_7)]) [] (WW Z A sc255 ++ ex) 0 0 := by
    intro sc255 y255_3 y255_4 y255_7 hIc255 hFc255 j255_1 j255_7 g255_0 g255_1 g255_2
    refine g_iload 257 (gd rfl) rfl rfl ?_
    have n257 : DNE s sc255 (x1).toInt (x2).toNatClampNeg (y255_7).toInt := by exact g255_0
    have n257a : YNQ (y255_7).toInt (DON s (x1).toInt (x2).toNatClampNeg) := by exact g255_1
    have n257b : G12 s sc255 := by exact g255_2
    exact g_ireturn (gd rfl) rfl (nb01 (in_w 0 1 j255_7 rfl)) (hP _ _ ⟨sc255, hIc255, hFc255, y255_7, rfl, rfl, in_w 0 1 j255_7 rfl, n257, n257a, n257b⟩)
  have ct236 : ∀ (sc236 : GS) (y236_3 : Int32) (y236_4 : Int32), Inv sc236 → Fr fm_305 s sc236 → (In x1 116 116) → (sc236 = s) → (¬ DON s (x1).toInt (x2).toNatClampNeg) → GG Z (d - 1) 305 post (gx xp) (2703) 236 (fun j => xlook j [(0, .ref (A 109)), (1, .int x1), (2, .int x2), (3, .int y236_3), (4, .int y236_4)]) [] (WW Z A sc236 ++ ex) 0 0 := by
    intro sc236 y236_3 y236_4 hIc236 hFc236 j236_1 g236_0 g236_1
    refine g_iconst 0 237 (gd rfl) rfl rfl ?_
    refine g_istore 239 (gd rfl) rfl (Nat.le_of_ble_eq_true rfl) ?_
    refine g_iload 241 (gd rfl) rfl rfl ?_
    refine g_if_eq 244 255 (gd rfl) rfl rfl (fun c241 => ?_) (fun c241 => ?_)
    · skip
      have n255 : DNE s sc236 (x1).toInt (x2).toNatClampNeg ((Int32.ofInt 0)).toInt := by exact dne_no g236_0 (by decide)
      have n255a : YNQ ((Int32.ofInt 0)).toInt (DON s (x1).toInt (x2).toNatClampNeg) := by exact ⟨fun h => absurd rfl h, fun _ => g236_1⟩
      have n255b : G12 s sc236 := by exact g12_e g236_0
      exact gg_w (by first | exact Nat.le_of_ble_eq_true rfl | omega) (gg_f (gf_cons rfl (gf_cons rfl (gf_cons rfl (gf_cons rfl (gf_cons rfl (gf_cons rfl gf_nil)))))) (ct255 sc236 y236_3 y236_4 (Int32.ofInt 0) hIc236 hFc236 (in_w 116 116 j236_1 rfl) (in_w 0 1 (in_c 0 rfl) rfl) n255 n255a n255b))
    · skip
      exact zn_ne c241 (in_c 0 rfl) rfl
  have ct188 : ∀ (sc188 : GS) (y188_3 : Int32) (y188_4 : Int32) (y188_5 : Int32) (y188_6 : Int32), Inv sc188 → Fr fm_305 s sc188 → (In x1 97 97) → (In y188_5 0 160) → (In y188_6 0 1) → (DNE s sc188 (x1).toInt (x2).toNatClampNeg (y188_6).toInt) → (YNQ (y188_6).toInt (DON s (x1).toInt (x2).toNatClampNeg)) → (G12 s sc188) → GG Z (d - 1) 305 post (gx xp) (3604) 188 (fun j => xlook j [(0, .ref (A 109)), (1, .int x1), (2, .int x2), (3, .int y188_3), (4, .int y188_4), (5, .int y188_5), (6, .int y188_6)]) [] (WW Z A sc188 ++ ex) 0 0 := by
    intro sc188 y188_3 y188_4 y188_5 y188_6 hIc188 hFc188 j188_1 j188_5 j188_6 g188_0 g188_1 g188_2
    refine g_iload 190 (gd rfl) rfl rfl ?_
    have n190 : DNE s sc188 (x1).toInt (x2).toNatClampNeg (y188_6).toInt := by exact g188_0
    have n190a : YNQ (y188_6).toInt (DON s (x1).toInt (x2).toNatClampNeg) := by exact g188_1
    have n190b : G12 s sc188 := by exact g188_2
    exact g_ireturn (gd rfl) rfl (nb01 (in_w 0 1 j188_6 rfl)) (hP _ _ ⟨sc188, hIc188, hFc188, y188_6, rfl, rfl, in_w 0 1 j188_6 rfl, n190, n190a, n190b⟩)
  have ct168 : ∀ (sc168 : GS) (y168_3 : Int32) (y168_4 : Int32) (y168_5 : Int32), Inv sc168 → Fr fm_305 s sc168 → (In x1 97 97) → (In y168_5 0 160) → (sc168 = s) → (¬ DON s (x1).toInt (x2).toNatClampNeg) → GG Z (d - 1) 305 post (gx xp) (4505) 168 (fun j => xlook j [(0, .ref (A 109)), (1, .int x1), (2, .int x2), (3, .int y168_3), (4, .int y168_4), (5, .int y168_5)]) [] (WW Z A sc168 ++ ex) 0 0 := by
    intro sc168 y168_3 y168_4 y168_5 hIc168 hFc168 j168_1 j168_5 g168_0 g168_1
    refine g_iconst 0 169 (gd rfl) rfl rfl ?_
    refine g_istore 171 (gd rfl) rfl (Nat.le_of_ble_eq_true rfl) ?_
    refine g_iload 173 (gd rfl) rfl rfl ?_
    refine g_if_eq 176 188 (gd rfl) rfl rfl (fun c173 => ?_) (fun c173 => ?_)
    · skip
      have n188 : DNE s sc168 (x1).toInt (x2).toNatClampNeg ((Int32.ofInt 0)).toInt := by exact dne_no g168_0 (by decide)
      have n188a : YNQ ((Int32.ofInt 0)).toInt (DON s (x1).toInt (x2).toNatClampNeg) := by first | exact ⟨fun h => absurd rfl h, fun _ => g168_1⟩
      have n188b : G12 s sc168 := by exact g12_e g168_0
      exact gg_w (by first | exact Nat.le_of_ble_eq_true rfl | omega) (gg_f (gf_cons rfl (gf_cons rfl (gf_cons rfl (gf_cons rfl (gf_cons rfl (gf_cons rfl (gf_cons rfl gf_nil))))))) (ct188 sc168 y168_3 y168_4 y168_5 (Int32.ofInt 0) hIc168 hFc168 (in_w 97 97 j168_1 rfl) (in_w 0 160 j168_5 rfl) (in_w 0 1 (in_c 0 rfl) rfl) n188 n188a n188b))
    · skip
      exact zn_ne c173 (in_c 0 rfl) rfl
  refine g_enter2 (k := 305) (N := 5405) (by first | exact dq1 hd rfl | exact dq0 hd rfl | exact dq2 hd rfl | exact dq3 hd rfl | omega) rfl (Nat.le_of_ble_eq_true rfl) ?_
  refine g_aload_n 1 (gd rfl) rfl rfl ?_
  refine g_getA (q2 := 128) 4 (gd rfl) rfl rfl rfl rfl ?_
  refine g_iload_n 5 (gd rfl) rfl rfl ?_
  refine g_iaload 6 (gd rfl) rfl (n := 2500) rfl (in_ix h2 rfl) (fun z5 e5 => ?_)
  refine g_istore_n 7 (gd rfl) rfl (Nat.le_of_ble_eq_true rfl) ?_
  refine g_aload_n 8 (gd rfl) rfl rfl ?_
  refine g_getA (q2 := 128) 11 (gd rfl) rfl rfl rfl rfl ?_
  refine g_iload_n 12 (gd rfl) rfl rfl ?_
  refine g_iconst 1 13 (gd rfl) rfl rfl ?_
  refine g_iadd 14 (gd rfl) rfl (fun z13 e13 => ?_)
  have i13 := in_add 1 2496 e13 h2 (in_c 1 rfl) rfl rfl
  refine g_iaload 15 (gd rfl) rfl (n := 2500) rfl (in_ix i13 rfl) (fun z14 e14 => ?_)
  refine g_istore 17 (gd rfl) rfl (Nat.le_of_ble_eq_true rfl) ?_
  refine g_iload_n 18 (gd rfl) rfl rfl ?_
  refine g_lsw [(97, 79), (110, 52), (116, 191)] 258 (gd rfl) rfl rfl rfl ⟨fun c18 => ?_, fun c18_0 => ⟨fun c18 => ?_, fun c18_1 => ⟨fun c18 => ?_, fun c18_2 => ?_⟩⟩⟩
  · skip
    have i18 := sw_eq c18
    refine g_aload_n 80 (gd rfl) rfl rfl ?_
    refine g_iconst 2 81 (gd rfl) rfl rfl ?_
    refine g_callv (X := _) (As := [.int (Int32.ofInt 2)]) (r := []) (b := A 109) (q := 109) 84 (gd rfl) rfl rfl rfl rfl rfl (ww_o rfl) (Nat.le_of_ble_eq_true rfl) (Nat.zero_le _) (Nat.zero_le _) (k_280 (by first | exact dq1 hd rfl | exact dq0 hd rfl | exact dq2 hd rfl | exact dq3 hd rfl | omega) hI (in_w 0 2 (in_c 2 rfl) rfl)) (fun e u h => h) (fun v u h => ?_)
    obtain ⟨z81, rfl, rfl, i81, p81⟩ := h
    show GG _ _ _ _ _ _ _ _ [.int z81] _ _ _
    refine g_istore 86 (gd rfl) rfl (Nat.le_of_ble_eq_true rfl) ?_
    refine g_iload 88 (gd rfl) rfl rfl ?_
    refine g_sipush 160 91 (gd rfl) rfl rfl ?_
    refine g_cmp_ge 94 168 (gd rfl) rfl rfl (fun c91 => ?_) (fun c91 => ?_)
    · skip
      have i91 := r_le2 160 160 c91 (in_c 160 rfl) i81 rfl
      have n168 : s = s := by rfl
      have n168a : ¬ DON s (x1).toInt (x2).toNatClampNeg := by intro h; have h9 := h.2.1 (by have a0 := in_u h2; have a1 := in_u i18; have a2 := in_u i91; have a3 := in_u i13; have a4 := t_add e13 h2 (in_c 1 rfl) rfl; have a5 := in_u ((in_c 1 rfl)); have oc := oc_305_109; omega); unfold nq at h9; have p9 : z81.toNatClampNeg = fpl (thg s 320) := p81; have hz81 : z81.toNatClampNeg = z81.toInt.toNat := rfl; rw [← p9] at h9; have a0 := in_u h2; have a1 := in_u i18; have a2 := in_u i91; have a3 := in_u i13; have a4 := t_add e13 h2 (in_c 1 rfl) rfl; have a5 := in_u ((in_c 1 rfl)); have oc := oc_305_109; omega
      exact gg_w (by first | exact Nat.le_of_ble_eq_true rfl | omega) (gg_f (gf_cons rfl (gf_cons rfl (gf_cons rfl (gf_cons rfl (gf_cons rfl (gf_cons rfl gf_nil)))))) (ct168 s z5 z14 z81 hI fr_rf (in_w 97 97 i18 rfl) (in_w 0 160 i91 rfl) n168 n168a))
    · skip
      have i91 := r_lt1 0 159 c91 i81 (in_c 160 rfl) rfl
      refine g_iload_n 95 (gd rfl) rfl rfl ?_
      refine g_i2l 96 (gd rfl) rfl (fun z95 e95 => ?_)
      have i95 := l_i e95 (i_rng z5)
      refine g_lconst 0 97 (gd rfl) rfl rfl ?_
      refine g_aload_n 98 (gd rfl) rfl rfl ?_
      refine g_getA (q2 := 110) 101 (gd rfl) rfl rfl rfl rfl ?_
      refine g_iconst 2 102 (gd rfl) rfl rfl ?_
      refine g_iaload 103 (gd rfl) rfl (n := 3) rfl (in_ix (in_c 2 rfl) rfl) (fun z102 e102 => ?_)
      have i103 : In z102 0 32 := by rw [e102]; exact q_0
      refine g_iconst 1 104 (gd rfl) rfl rfl ?_
      refine g_isub 105 (gd rfl) rfl (fun z104 e104 => ?_)
      have i104 := in_sub (-1) 31 e104 i103 (in_c 1 rfl) rfl rfl
      refine g_i2l 106 (gd rfl) rfl (fun z105 e105 => ?_)
      have i105 := l_i e105 i104
      refine g_calls (As := [.long z95, .long (Int64.ofInt 0), .long z105]) (r := []) 109 (gd rfl) rfl rfl rfl rfl rfl (Nat.le_of_ble_eq_true rfl) (mc := 0) (ms := 0) (Nat.zero_le _) (Nat.zero_le _) (P := fun v u => _) ?_ (fun v u h => h)
      intro po106 xx106 hp106 hx106
      refine g_enter2 (k := 269) (N := 300) (by first | exact dq1 hd rfl | exact dq0 hd rfl | exact dq2 hd rfl | exact dq3 hd rfl | omega) rfl (Nat.le_of_ble_eq_true rfl) ?_
      refine g_lload_n 1 (gd rfl) rfl rfl ?_
      refine g_lload_n 2 (gd rfl) rfl rfl ?_
      refine g_lcmp 3 (gd rfl) rfl (fun z106x2 e106x2 => ?_)
      have i106x2 := lc_in e106x2
      refine g_if_lt 6 17 (gd rfl) rfl rfl (fun c106x3 => ?_) (fun c106x3 => ?_)
      · skip
        have i106x3 := z_lt (-1) (-1) c106x3 i106x2 rfl
        have c106x3a := lc_lt e106x2 c106x3
        have i106x3a := lr_lt1 (-2147483648) (-1) c106x3a i95 (l_c 0 rfl) rfl
        have i106x3b := l_b e95 i106x3a
        refine g_iconst 0 18 (gd rfl) rfl rfl ?_
        refine g_ireturn (gd rfl) rfl (nb01 (in_w 0 1 (in_c 0 rfl) rfl)) (hp106 _ _ ?_)
        show GG _ _ _ _ _ _ _ _ [.int (Int32.ofInt 0)] _ _ _
        refine g_if_eq 112 168 (gd rfl) rfl rfl (fun c109 => ?_) (fun c109 => ?_)
        · skip
          have n168 : s = s := by rfl
          have n168a : ¬ DON s (x1).toInt (x2).toNatClampNeg := by intro h; have h9 := h.2.1 (by have a0 := in_u h2; have a1 := in_u i18; have a2 := in_u i91; have a3 := in_u i106x3b; have a4 := tx_i2l e105; have a5 := in_u i104; have a6 := t_sub e104 i103 (in_c 1 rfl) rfl; have a7 := in_u ((in_c 1 rfl)); have a8 := in_u i103; have a9 := tx_i2l e95; have a10 := in_u i13; have a11 := t_add e13 h2 (in_c 1 rfl) rfl; have oc := oc_305_109; omega); unfold nq at h9; have p9 : z81.toNatClampNeg = fpl (thg s 320) := p81; have hz81 : z81.toNatClampNeg = z81.toInt.toNat := rfl; rw [← p9, ← e5, show s.1 110 2 = z102 from e102.symm] at h9; have a0 := in_u h2; have a1 := in_u i18; have a2 := in_u i91; have a3 := in_u i106x3b; have a4 := tx_i2l e105; have a5 := in_u i104; have a6 := t_sub e104 i103 (in_c 1 rfl) rfl; have a7 := in_u ((in_c 1 rfl)); have a8 := in_u i103; have a9 := tx_i2l e95; have a10 := in_u i13; have a11 := t_add e13 h2 (in_c 1 rfl) rfl; have oc := oc_305_109; omega
          exact gg_w (by first | exact Nat.le_of_ble_eq_true rfl | omega) (gg_f (gf_cons rfl (gf_cons rfl (gf_cons rfl (gf_cons rfl (gf_cons rfl (gf_cons rfl gf_nil)))))) (ct168 s z5 z14 z81 hI fr_rf (in_w 97 97 i18 rfl) (in_w 0 160 i91 rfl) n168 n168a))
        · skip
          exact zn_ne c109 (in_c 0 rfl) rfl
      · skip
        have i106x3 := z_ge 0 1 c106x3 i106x2 rfl
        have c106x3a := lc_ge e106x2 c106x3
        have i106x3a := lr_le2 0 2147483647 c106x3a (l_c 0 rfl) i95 rfl
        have i106x3b := l_b e95 i106x3a
        refine g_lload_n 7 (gd rfl) rfl rfl ?_
        refine g_lload 9 (gd rfl) rfl rfl ?_
        refine g_lcmp 10 (gd rfl) rfl (fun z106x9 e106x9 => ?_)
        have i106x9 := lc_in e106x9
        refine g_if_gt 13 17 (gd rfl) rfl rfl (fun c106x10 => ?_) (fun c106x10 => ?_)
        · skip
          have i106x10 := z_gt 1 1 c106x10 i106x9 rfl
          have c106x10a := lc_gt e106x9 c106x10
          refine g_iconst 0 18 (gd rfl) rfl rfl ?_
          refine g_ireturn (gd rfl) rfl (nb01 (in_w 0 1 (in_c 0 rfl) rfl)) (hp106 _ _ ?_)
          show GG _ _ _ _ _ _ _ _ [.int (Int32.ofInt 0)] _ _ _
          refine g_if_eq 112 168 (gd rfl) rfl rfl (fun c109 => ?_) (fun c109 => ?_)
          · skip
            have n168 : s = s := by rfl
            have n168a : ¬ DON s (x1).toInt (x2).toNatClampNeg := by intro h; have h9 := h.2.1 (by have a0 := in_u h2; have a1 := in_u i18; have a2 := in_u i91; have a3 := in_u i106x3b; have a4 := tx_i2l e105; have a5 := in_u i104; have a6 := t_sub e104 i103 (in_c 1 rfl) rfl; have a7 := in_u ((in_c 1 rfl)); have a8 := in_u i103; have a9 := tx_i2l e95; have a10 := in_u i13; have a11 := t_add e13 h2 (in_c 1 rfl) rfl; have oc := oc_305_109; omega); unfold nq at h9; have p9 : z81.toNatClampNeg = fpl (thg s 320) := p81; have hz81 : z81.toNatClampNeg = z81.toInt.toNat := rfl; rw [← p9, ← e5, show s.1 110 2 = z102 from e102.symm] at h9; have a0 := in_u h2; have a1 := in_u i18; have a2 := in_u i91; have a3 := in_u i106x3b; have a4 := tx_i2l e105; have a5 := in_u i104; have a6 := t_sub e104 i103 (in_c 1 rfl) rfl; have a7 := in_u ((in_c 1 rfl)); have a8 := in_u i103; have a9 := tx_i2l e95; have a10 := in_u i13; have a11 := t_add e13 h2 (in_c 1 rfl) rfl; have oc := oc_305_109; omega
            exact gg_w (by first | exact Nat.le_of_ble_eq_true rfl | omega) (gg_f (gf_cons rfl (gf_cons rfl (gf_cons rfl (gf_cons rfl (gf_cons rfl (gf_cons rfl gf_nil)))))) (ct168 s z5 z14 z81 hI fr_rf (in_w 97 97 i18 rfl) (in_w 0 160 i91 rfl) n168 n168a))
          · skip
            exact zn_ne c109 (in_c 0 rfl) rfl
        · skip
          have i106x10 := z_le (-1) 0 c106x10 i106x9 rfl
          have c106x10a := lc_le e106x9 c106x10
          have i106x10a := lr_le1 0 31 c106x10a i106x3a i105 rfl
          have i106x10b := l_b e95 i106x10a
          have i106x10c := lr_le2 0 31 c106x10a i106x3a i105 rfl
          have i106x10d := l_b e105 i106x10c
          refine g_iconst 1 14 (gd rfl) rfl rfl ?_
          refine g_goto 18 (gd rfl) rfl ?_
          refine g_ireturn (gd rfl) rfl (nb01 (in_w 0 1 (in_c 1 rfl) rfl)) (hp106 _ _ ?_)
          show GG _ _ _ _ _ _ _ _ [.int (Int32.ofInt 1)] _ _ _
          refine g_if_eq 112 168 (gd rfl) rfl rfl (fun c109 => ?_) (fun c109 => ?_)
          · skip
            exact zn_eq c109 (in_c 1 rfl) rfl
          · skip
            refine g_iload 114 (gd rfl) rfl rfl ?_
            refine g_i2l 115 (gd rfl) rfl (fun z114 e114 => ?_)
            have i114 := l_i e114 (i_rng z14)
            refine g_lconst 0 116 (gd rfl) rfl rfl ?_
            refine g_aload_n 117 (gd rfl) rfl rfl ?_
            refine g_getA (q2 := 110) 120 (gd rfl) rfl rfl rfl rfl ?_
            refine g_iconst 2 121 (gd rfl) rfl rfl ?_
            refine g_iaload 122 (gd rfl) rfl (n := 3) rfl (in_ix (in_c 2 rfl) rfl) (fun z121 e121 => ?_)
            have q121 : z102 = z121 := (e102).trans e121.symm
            subst q121
            refine g_iconst 1 123 (gd rfl) rfl rfl ?_
            refine g_isub 124 (gd rfl) rfl (fun z123 e123 => ?_)
            have i123 := in_sub (-1) 31 e123 i103 (in_c 1 rfl) rfl rfl
            refine g_i2l 125 (gd rfl) rfl (fun z124 e124 => ?_)
            have i124 := l_i e124 i123
            refine g_calls (As := [.long z114, .long (Int64.ofInt 0), .long z124]) (r := []) 128 (gd rfl) rfl rfl rfl rfl rfl (Nat.le_of_ble_eq_true rfl) (mc := 0) (ms := 0) (Nat.zero_le _) (Nat.zero_le _) (P := fun v u => _) ?_ (fun v u h => h)
            intro po125 xx125 hp125 hx125
            refine g_enter2 (k := 269) (N := 300) (by first | exact dq1 hd rfl | exact dq0 hd rfl | exact dq2 hd rfl | exact dq3 hd rfl | omega) rfl (Nat.le_of_ble_eq_true rfl) ?_
            refine g_lload_n 1 (gd rfl) rfl rfl ?_
            refine g_lload_n 2 (gd rfl) rfl rfl ?_
            refine g_lcmp 3 (gd rfl) rfl (fun z125x2 e125x2 => ?_)
            have i125x2 := lc_in e125x2
            refine g_if_lt 6 17 (gd rfl) rfl rfl (fun c125x3 => ?_) (fun c125x3 => ?_)
            · skip
              have i125x3 := z_lt (-1) (-1) c125x3 i125x2 rfl
              have c125x3a := lc_lt e125x2 c125x3
              have i125x3a := lr_lt1 (-2147483648) (-1) c125x3a i114 (l_c 0 rfl) rfl
              have i125x3b := l_b e114 i125x3a
              refine g_iconst 0 18 (gd rfl) rfl rfl ?_
              refine g_ireturn (gd rfl) rfl (nb01 (in_w 0 1 (in_c 0 rfl) rfl)) (hp125 _ _ ?_)
              show GG _ _ _ _ _ _ _ _ [.int (Int32.ofInt 0)] _ _ _
              refine g_if_eq 131 168 (gd rfl) rfl rfl (fun c128 => ?_) (fun c128 => ?_)
              · skip
                have n168 : s = s := by rfl
                have n168a : ¬ DON s (x1).toInt (x2).toNatClampNeg := by intro h; have h9 := h.2.1 (by have a0 := in_u h2; have a1 := in_u i18; have a2 := in_u i91; have a3 := in_u i125x3b; have a4 := in_u i106x10b; have a5 := tx_i2l e124; have a6 := in_u i123; have a7 := t_sub e123 i103 (in_c 1 rfl) rfl; have a8 := in_u ((in_c 1 rfl)); have a9 := in_u i103; have a10 := tx_i2l e114; have a11 := tx_i2l e105; have a12 := in_u i106x10d; have a13 := t_sub e104 i103 (in_c 1 rfl) rfl; have a14 := tx_i2l e95; have a15 := in_u i13; have a16 := t_add e13 h2 (in_c 1 rfl) rfl; have oc := oc_305_109; omega); unfold nq at h9; have p9 : z81.toNatClampNeg = fpl (thg s 320) := p81; have hz81 : z81.toNatClampNeg = z81.toInt.toNat := rfl; rw [← p9, ← e5, show s.1 128 (x2.toNatClampNeg + 1) = z14 from (by rw [show x2.toNatClampNeg + 1 = z13.toNatClampNeg from (by show x2.toInt.toNat + 1 = z13.toInt.toNat; have a0 := in_u h2; have a1 := in_u i18; have a2 := in_u i91; have a3 := in_u i125x3b; have a4 := in_u i106x10b; have a5 := tx_i2l e124; have a6 := in_u i123; have a7 := t_sub e123 i103 (in_c 1 rfl) rfl; have a8 := in_u ((in_c 1 rfl)); have a9 := in_u i103; have a10 := tx_i2l e114; have a11 := tx_i2l e105; have a12 := in_u i106x10d; have a13 := t_sub e104 i103 (in_c 1 rfl) rfl; have a14 := tx_i2l e95; have a15 := in_u i13; have a16 := t_add e13 h2 (in_c 1 rfl) rfl; have oc := oc_305_109; omega)]; exact e14.symm), show s.1 110 2 = z102 from e102.symm] at h9; have a0 := in_u h2; have a1 := in_u i18; have a2 := in_u i91; have a3 := in_u i125x3b; have a4 := in_u i106x10b; have a5 := tx_i2l e124; have a6 := in_u i123; have a7 := t_sub e123 i103 (in_c 1 rfl) rfl; have a8 := in_u ((in_c 1 rfl)); have a9 := in_u i103; have a10 := tx_i2l e114; have a11 := tx_i2l e105; have a12 := in_u i106x10d; have a13 := t_sub e104 i103 (in_c 1 rfl) rfl; have a14 := tx_i2l e95; have a15 := in_u i13; have a16 := t_add e13 h2 (in_c 1 rfl) rfl; have oc := oc_305_109; omega
                exact gg_w (by first | exact Nat.le_of_ble_eq_true rfl | omega) (gg_f (gf_cons rfl (gf_cons rfl (gf_cons rfl (gf_cons rfl (gf_cons rfl (gf_cons rfl gf_nil)))))) (ct168 s z5 z14 z81 hI fr_rf (in_w 97 97 i18 rfl) (in_w 0 160 i91 rfl) n168 n168a))
              · skip
                exact zn_ne c128 (in_c 0 rfl) rfl
            · skip
              have i125x3 := z_ge 0 1 c125x3 i125x2 rfl
              have c125x3a := lc_ge e125x2 c125x3
              have i125x3a := lr_le2 0 2147483647 c125x3a (l_c 0 rfl) i114 rfl
              have i125x3b := l_b e114 i125x3a
              refine g_lload_n 7 (gd rfl) rfl rfl ?_
              refine g_lload 9 (gd rfl) rfl rfl ?_
              refine g_lcmp 10 (gd rfl) rfl (fun z125x9 e125x9 => ?_)
              have i125x9 := lc_in e125x9
              refine g_if_gt 13 17 (gd rfl) rfl rfl (fun c125x10 => ?_) (fun c125x10 => ?_)
              · skip
                have i125x10 := z_gt 1 1 c125x10 i125x9 rfl
                have c125x10a := lc_gt e125x9 c125x10
                refine g_iconst 0 18 (gd rfl) rfl rfl ?_
                refine g_ireturn (gd rfl) rfl (nb01 (in_w 0 1 (in_c 0 rfl) rfl)) (hp125 _ _ ?_)
                show GG _ _ _ _ _ _ _ _ [.int (Int32.ofInt 0)] _ _ _
                refine g_if_eq 131 168 (gd rfl) rfl rfl (fun c128 => ?_) (fun c128 => ?_)
                · skip
                  have n168 : s = s := by rfl
                  have n168a : ¬ DON s (x1).toInt (x2).toNatClampNeg := by intro h; have h9 := h.2.1 (by have a0 := in_u h2; have a1 := in_u i18; have a2 := in_u i91; have a3 := in_u i125x3b; have a4 := in_u i106x10b; have a5 := tx_i2l e124; have a6 := in_u i123; have a7 := t_sub e123 i103 (in_c 1 rfl) rfl; have a8 := in_u ((in_c 1 rfl)); have a9 := in_u i103; have a10 := tx_i2l e114; have a11 := tx_i2l e105; have a12 := in_u i106x10d; have a13 := t_sub e104 i103 (in_c 1 rfl) rfl; have a14 := tx_i2l e95; have a15 := in_u i13; have a16 := t_add e13 h2 (in_c 1 rfl) rfl; have oc := oc_305_109; omega); unfold nq at h9; have p9 : z81.toNatClampNeg = fpl (thg s 320) := p81; have hz81 : z81.toNatClampNeg = z81.toInt.toNat := rfl; rw [← p9, ← e5, show s.1 128 (x2.toNatClampNeg + 1) = z14 from (by rw [show x2.toNatClampNeg + 1 = z13.toNatClampNeg from (by show x2.toInt.toNat + 1 = z13.toInt.toNat; have a0 := in_u h2; have a1 := in_u i18; have a2 := in_u i91; have a3 := in_u i125x3b; have a4 := in_u i106x10b; have a5 := tx_i2l e124; have a6 := in_u i123; have a7 := t_sub e123 i103 (in_c 1 rfl) rfl; have a8 := in_u ((in_c 1 rfl)); have a9 := in_u i103; have a10 := tx_i2l e114; have a11 := tx_i2l e105; have a12 := in_u i106x10d; have a13 := t_sub e104 i103 (in_c 1 rfl) rfl; have a14 := tx_i2l e95; have a15 := in_u i13; have a16 := t_add e13 h2 (in_c 1 rfl) rfl; have oc := oc_305_109; omega)]; exact e14.symm), show s.1 110 2 = z102 from e102.symm] at h9; have a0 := in_u h2; have a1 := in_u i18; have a2 := in_u i91; have a3 := in_u i125x3b; have a4 := in_u i106x10b; have a5 := tx_i2l e124; have a6 := in_u i123; have a7 := t_sub e123 i103 (in_c 1 rfl) rfl; have a8 := in_u ((in_c 1 rfl)); have a9 := in_u i103; have a10 := tx_i2l e114; have a11 := tx_i2l e105; have a12 := in_u i106x10d; have a13 := t_sub e104 i103 (in_c 1 rfl) rfl; have a14 := tx_i2l e95; have a15 := in_u i13; have a16 := t_add e13 h2 (in_c 1 rfl) rfl; have oc := oc_305_109; omega
                  exact gg_w (by first | exact Nat.le_of_ble_eq_true rfl | omega) (gg_f (gf_cons rfl (gf_cons rfl (gf_cons rfl (gf_cons rfl (gf_cons rfl (gf_cons rfl gf_nil)))))) (ct168 s z5 z14 z81 hI fr_rf (in_w 97 97 i18 rfl) (in_w 0 160 i91 rfl) n168 n168a))
                · skip
                  exact zn_ne c128 (in_c 0 rfl) rfl
              · skip
                have i125x10 := z_le (-1) 0 c125x10 i125x9 rfl
                have c125x10a := lc_le e125x9 c125x10
                have i125x10a := lr_le1 0 31 c125x10a i125x3a i124 rfl
                have i125x10b := l_b e114 i125x10a
                have i125x10c := lr_le2 0 31 c125x10a i125x3a i124 rfl
                have i125x10d := l_b e124 i125x10c
                refine g_iconst 1 14 (gd rfl) rfl rfl ?_
                refine g_goto 18 (gd rfl) rfl ?_
                refine g_ireturn (gd rfl) rfl (nb01 (in_w 0 1 (in_c 1 rfl) rfl)) (hp125 _ _ ?_)
                show GG _ _ _ _ _ _ _ _ [.int (Int32.ofInt 1)] _ _ _
                refine g_if_eq 131 168 (gd rfl) rfl rfl (fun c128 => ?_) (fun c128 => ?_)
                · skip
                  exact zn_eq c128 (in_c 1 rfl) rfl
                · skip
                  refine g_aload_n 132 (gd rfl) rfl rfl ?_
                  refine g_getA (q2 := 128) 135 (gd rfl) rfl rfl rfl rfl ?_
                  refine g_iload_n 136 (gd rfl) rfl rfl ?_
                  refine g_iconst 2 137 (gd rfl) rfl rfl ?_
                  refine g_iadd 138 (gd rfl) rfl (fun z137 e137 => ?_)
                  have i137 := in_add 2 2497 e137 h2 (in_c 2 rfl) rfl rfl
                  refine g_iaload 139 (gd rfl) rfl (n := 2500) rfl (in_ix i137 rfl) (fun z138 e138 => ?_)
                  refine g_calls (As := [.int z138]) (r := []) 142 (gd rfl) rfl rfl rfl rfl rfl (Nat.le_of_ble_eq_true rfl) (mc := 0) (ms := 0) (Nat.zero_le _) (Nat.zero_le _) (P := fun v u => _) ?_ (fun v u h => h)
                  intro po139 xx139 hp139 hx139
                  refine g_enter2 (k := 279) (N := 300) (by first | exact dq1 hd rfl | exact dq0 hd rfl | exact dq2 hd rfl | exact dq3 hd rfl | omega) rfl (Nat.le_of_ble_eq_true rfl) ?_
                  refine g_iload_n 1 (gd rfl) rfl rfl ?_
                  refine g_i2l 2 (gd rfl) rfl (fun z139x1 e139x1 => ?_)
                  have i139x1 := l_i e139x1 (i_rng z138)
                  refine g_ldc2_w (-1000000) 5 (gd rfl) rfl rfl ?_
                  refine g_ldc2_w 1000000 8 (gd rfl) rfl rfl ?_
                  refine g_calls (As := [.long z139x1, .long (Int64.ofInt (-1000000)), .long (Int64.ofInt 1000000)]) (r := []) 11 (gd rfl) rfl rfl rfl rfl rfl (Nat.le_of_ble_eq_true rfl) (mc := 0) (ms := 0) (Nat.zero_le _) (Nat.zero_le _) (P := fun v u => _) ?_ (fun v u h => h)
                  intro po139x8 xx139x8 hp139x8 hx139x8
                  refine g_enter2 (k := 269) (N := 300) (by first | exact dq1 hd rfl | exact dq0 hd rfl | exact dq2 hd rfl | exact dq3 hd rfl | omega) rfl (Nat.le_of_ble_eq_true rfl) ?_
                  refine g_lload_n 1 (gd rfl) rfl rfl ?_
                  refine g_lload_n 2 (gd rfl) rfl rfl ?_
                  refine g_lcmp 3 (gd rfl) rfl (fun z139x8x2 e139x8x2 => ?_)
                  have i139x8x2 := lc_in e139x8x2
                  refine g_if_lt 6 17 (gd rfl) rfl rfl (fun c139x8x3 => ?_) (fun c139x8x3 => ?_)
                  · skip
                    have i139x8x3 := z_lt (-1) (-1) c139x8x3 i139x8x2 rfl
                    have c139x8x3a := lc_lt e139x8x2 c139x8x3
                    have i139x8x3a := lr_lt1 (-2147483648) (-1000001) c139x8x3a i139x1 (l_c (-1000000) rfl) rfl
                    have i139x8x3b := l_b e139x1 i139x8x3a
                    refine g_iconst 0 18 (gd rfl) rfl rfl ?_
                    refine g_ireturn (gd rfl) rfl (nb01 (in_w 0 1 (in_c 0 rfl) rfl)) (hp139x8 _ _ ?_)
                    show GG _ _ _ _ _ _ _ _ [.int (Int32.ofInt 0)] _ _ _
                    refine g_ireturn (gd rfl) rfl (nb01 (in_w 0 1 (in_c 0 rfl) rfl)) (hp139 _ _ ?_)
                    show GG _ _ _ _ _ _ _ _ [.int (Int32.ofInt 0)] _ _ _
                    refine g_if_eq 145 168 (gd rfl) rfl rfl (fun c142 => ?_) (fun c142 => ?_)
                    · skip
                      have n168 : s = s := by rfl
                      have n168a : ¬ DON s (x1).toInt (x2).toNatClampNeg := by intro h; have h9 := h.2.1 (by have a0 := in_u h2; have a1 := in_u i18; have a2 := in_u i91; have a3 := in_u i125x10b; have a4 := in_u i106x10b; have a5 := tx_i2l e139x1; have a6 := in_u i139x8x3b; have a7 := in_u i137; have a8 := t_add e137 h2 (in_c 2 rfl) rfl; have a9 := in_u ((in_c 2 rfl)); have a10 := tx_i2l e124; have a11 := in_u i125x10d; have a12 := t_sub e123 i103 (in_c 1 rfl) rfl; have a13 := in_u ((in_c 1 rfl)); have a14 := in_u i103; have a15 := tx_i2l e114; have a16 := tx_i2l e105; have a17 := in_u i106x10d; have a18 := t_sub e104 i103 (in_c 1 rfl) rfl; have a19 := tx_i2l e95; have a20 := in_u i13; have a21 := t_add e13 h2 (in_c 1 rfl) rfl; have oc := oc_305_109; omega); unfold nq at h9; have p9 : z81.toNatClampNeg = fpl (thg s 320) := p81; have hz81 : z81.toNatClampNeg = z81.toInt.toNat := rfl; rw [← p9, ← e5, show s.1 128 (x2.toNatClampNeg + 1) = z14 from (by rw [show x2.toNatClampNeg + 1 = z13.toNatClampNeg from (by show x2.toInt.toNat + 1 = z13.toInt.toNat; have a0 := in_u h2; have a1 := in_u i18; have a2 := in_u i91; have a3 := in_u i125x10b; have a4 := in_u i106x10b; have a5 := tx_i2l e139x1; have a6 := in_u i139x8x3b; have a7 := in_u i137; have a8 := t_add e137 h2 (in_c 2 rfl) rfl; have a9 := in_u ((in_c 2 rfl)); have a10 := tx_i2l e124; have a11 := in_u i125x10d; have a12 := t_sub e123 i103 (in_c 1 rfl) rfl; have a13 := in_u ((in_c 1 rfl)); have a14 := in_u i103; have a15 := tx_i2l e114; have a16 := tx_i2l e105; have a17 := in_u i106x10d; have a18 := t_sub e104 i103 (in_c 1 rfl) rfl; have a19 := tx_i2l e95; have a20 := in_u i13; have a21 := t_add e13 h2 (in_c 1 rfl) rfl; have oc := oc_305_109; omega)]; exact e14.symm), show s.1 110 2 = z102 from e102.symm, show s.1 128 (x2.toNatClampNeg + 2) = z138 from (by rw [show x2.toNatClampNeg + 2 = z137.toNatClampNeg from (by show x2.toInt.toNat + 2 = z137.toInt.toNat; have a0 := in_u h2; have a1 := in_u i18; have a2 := in_u i91; have a3 := in_u i125x10b; have a4 := in_u i106x10b; have a5 := tx_i2l e139x1; have a6 := in_u i139x8x3b; have a7 := in_u i137; have a8 := t_add e137 h2 (in_c 2 rfl) rfl; have a9 := in_u ((in_c 2 rfl)); have a10 := tx_i2l e124; have a11 := in_u i125x10d; have a12 := t_sub e123 i103 (in_c 1 rfl) rfl; have a13 := in_u ((in_c 1 rfl)); have a14 := in_u i103; have a15 := tx_i2l e114; have a16 := tx_i2l e105; have a17 := in_u i106x10d; have a18 := t_sub e104 i103 (in_c 1 rfl) rfl; have a19 := tx_i2l e95; have a20 := in_u i13; have a21 := t_add e13 h2 (in_c 1 rfl) rfl; have oc := oc_305_109; omega)]; exact e138.symm)] at h9; have a0 := in_u h2; have a1 := in_u i18; have a2 := in_u i91; have a3 := in_u i125x10b; have a4 := in_u i106x10b; have a5 := tx_i2l e139x1; have a6 := in_u i139x8x3b; have a7 := in_u i137; have a8 := t_add e137 h2 (in_c 2 rfl) rfl; have a9 := in_u ((in_c 2 rfl)); have a10 := tx_i2l e124; have a11 := in_u i125x10d; have a12 := t_sub e123 i103 (in_c 1 rfl) rfl; have a13 := in_u ((in_c 1 rfl)); have a14 := in_u i103; have a15 := tx_i2l e114; have a16 := tx_i2l e105; have a17 := in_u i106x10d; have a18 := t_sub e104 i103 (in_c 1 rfl) rfl; have a19 := tx_i2l e95; have a20 := in_u i13; have a21 := t_add e13 h2 (in_c 1 rfl) rfl; have oc := oc_305_109; omega
                      exact gg_w (by first | exact Nat.le_of_ble_eq_true rfl | omega) (gg_f (gf_cons rfl (gf_cons rfl (gf_cons rfl (gf_cons rfl (gf_cons rfl (gf_cons rfl gf_nil)))))) (ct168 s z5 z14 z81 hI fr_rf (in_w 97 97 i18 rfl) (in_w 0 160 i91 rfl) n168 n168a))
                    · skip
                      exact zn_ne c142 (in_c 0 rfl) rfl
                  · skip
                    have i139x8x3 := z_ge 0 1 c139x8x3 i139x8x2 rfl
                    have c139x8x3a := lc_ge e139x8x2 c139x8x3
                    have i139x8x3a := lr_le2 (-1000000) 2147483647 c139x8x3a (l_c (-1000000) rfl) i139x1 rfl
                    have i139x8x3b := l_b e139x1 i139x8x3a
                    refine g_lload_n 7 (gd rfl) rfl rfl ?_
                    refine g_lload 9 (gd rfl) rfl rfl ?_
                    refine g_lcmp 10 (gd rfl) rfl (fun z139x8x9 e139x8x9 => ?_)
                    have i139x8x9 := lc_in e139x8x9
                    refine g_if_gt 13 17 (gd rfl) rfl rfl (fun c139x8x10 => ?_) (fun c139x8x10 => ?_)
                    · skip
                      have i139x8x10 := z_gt 1 1 c139x8x10 i139x8x9 rfl
                      have c139x8x10a := lc_gt e139x8x9 c139x8x10
                      have i139x8x10a := lr_lt2 1000001 2147483647 c139x8x10a (l_c 1000000 rfl) i139x8x3a rfl
                      have i139x8x10b := l_b e139x1 i139x8x10a
                      refine g_iconst 0 18 (gd rfl) rfl rfl ?_
                      refine g_ireturn (gd rfl) rfl (nb01 (in_w 0 1 (in_c 0 rfl) rfl)) (hp139x8 _ _ ?_)
                      show GG _ _ _ _ _ _ _ _ [.int (Int32.ofInt 0)] _ _ _
                      refine g_ireturn (gd rfl) rfl (nb01 (in_w 0 1 (in_c 0 rfl) rfl)) (hp139 _ _ ?_)
                      show GG _ _ _ _ _ _ _ _ [.int (Int32.ofInt 0)] _ _ _
                      refine g_if_eq 145 168 (gd rfl) rfl rfl (fun c142 => ?_) (fun c142 => ?_)
                      · skip
                        have n168 : s = s := by rfl
                        have n168a : ¬ DON s (x1).toInt (x2).toNatClampNeg := by intro h; have h9 := h.2.1 (by have a0 := in_u h2; have a1 := in_u i18; have a2 := in_u i91; have a3 := in_u i125x10b; have a4 := in_u i106x10b; have a5 := tx_i2l e139x1; have a6 := in_u i139x8x10b; have a7 := in_u i137; have a8 := t_add e137 h2 (in_c 2 rfl) rfl; have a9 := in_u ((in_c 2 rfl)); have a10 := tx_i2l e124; have a11 := in_u i125x10d; have a12 := t_sub e123 i103 (in_c 1 rfl) rfl; have a13 := in_u ((in_c 1 rfl)); have a14 := in_u i103; have a15 := tx_i2l e114; have a16 := tx_i2l e105; have a17 := in_u i106x10d; have a18 := t_sub e104 i103 (in_c 1 rfl) rfl; have a19 := tx_i2l e95; have a20 := in_u i13; have a21 := t_add e13 h2 (in_c 1 rfl) rfl; have oc := oc_305_109; omega); unfold nq at h9; have p9 : z81.toNatClampNeg = fpl (thg s 320) := p81; have hz81 : z81.toNatClampNeg = z81.toInt.toNat := rfl; rw [← p9, ← e5, show s.1 128 (x2.toNatClampNeg + 1) = z14 from (by rw [show x2.toNatClampNeg + 1 = z13.toNatClampNeg from (by show x2.toInt.toNat + 1 = z13.toInt.toNat; have a0 := in_u h2; have a1 := in_u i18; have a2 := in_u i91; have a3 := in_u i125x10b; have a4 := in_u i106x10b; have a5 := tx_i2l e139x1; have a6 := in_u i139x8x10b; have a7 := in_u i137; have a8 := t_add e137 h2 (in_c 2 rfl) rfl; have a9 := in_u ((in_c 2 rfl)); have a10 := tx_i2l e124; have a11 := in_u i125x10d; have a12 := t_sub e123 i103 (in_c 1 rfl) rfl; have a13 := in_u ((in_c 1 rfl)); have a14 := in_u i103; have a15 := tx_i2l e114; have a16 := tx_i2l e105; have a17 := in_u i106x10d; have a18 := t_sub e104 i103 (in_c 1 rfl) rfl; have a19 := tx_i2l e95; have a20 := in_u i13; have a21 := t_add e13 h2 (in_c 1 rfl) rfl; have oc := oc_305_109; omega)]; exact e14.symm), show s.1 110 2 = z102 from e102.symm, show s.1 128 (x2.toNatClampNeg + 2) = z138 from (by rw [show x2.toNatClampNeg + 2 = z137.toNatClampNeg from (by show x2.toInt.toNat + 2 = z137.toInt.toNat; have a0 := in_u h2; have a1 := in_u i18; have a2 := in_u i91; have a3 := in_u i125x10b; have a4 := in_u i106x10b; have a5 := tx_i2l e139x1; have a6 := in_u i139x8x10b; have a7 := in_u i137; have a8 := t_add e137 h2 (in_c 2 rfl) rfl; have a9 := in_u ((in_c 2 rfl)); have a10 := tx_i2l e124; have a11 := in_u i125x10d; have a12 := t_sub e123 i103 (in_c 1 rfl) rfl; have a13 := in_u ((in_c 1 rfl)); have a14 := in_u i103; have a15 := tx_i2l e114; have a16 := tx_i2l e105; have a17 := in_u i106x10d; have a18 := t_sub e104 i103 (in_c 1 rfl) rfl; have a19 := tx_i2l e95; have a20 := in_u i13; have a21 := t_add e13 h2 (in_c 1 rfl) rfl; have oc := oc_305_109; omega)]; exact e138.symm)] at h9; have a0 := in_u h2; have a1 := in_u i18; have a2 := in_u i91; have a3 := in_u i125x10b; have a4 := in_u i106x10b; have a5 := tx_i2l e139x1; have a6 := in_u i139x8x10b; have a7 := in_u i137; have a8 := t_add e137 h2 (in_c 2 rfl) rfl; have a9 := in_u ((in_c 2 rfl)); have a10 := tx_i2l e124; have a11 := in_u i125x10d; have a12 := t_sub e123 i103 (in_c 1 rfl) rfl; have a13 := in_u ((in_c 1 rfl)); have a14 := in_u i103; have a15 := tx_i2l e114; have a16 := tx_i2l e105; have a17 := in_u i106x10d; have a18 := t_sub e104 i103 (in_c 1 rfl) rfl; have a19 := tx_i2l e95; have a20 := in_u i13; have a21 := t_add e13 h2 (in_c 1 rfl) rfl; have oc := oc_305_109; omega
                        exact gg_w (by first | exact Nat.le_of_ble_eq_true rfl | omega) (gg_f (gf_cons rfl (gf_cons rfl (gf_cons rfl (gf_cons rfl (gf_cons rfl (gf_cons rfl gf_nil)))))) (ct168 s z5 z14 z81 hI fr_rf (in_w 97 97 i18 rfl) (in_w 0 160 i91 rfl) n168 n168a))
                      · skip
                        exact zn_ne c142 (in_c 0 rfl) rfl
                    · skip
                      have i139x8x10 := z_le (-1) 0 c139x8x10 i139x8x9 rfl
                      have c139x8x10a := lc_le e139x8x9 c139x8x10
                      have i139x8x10a := lr_le1 (-1000000) 1000000 c139x8x10a i139x8x3a (l_c 1000000 rfl) rfl
                      have i139x8x10b := l_b e139x1 i139x8x10a
                      refine g_iconst 1 14 (gd rfl) rfl rfl ?_
                      refine g_goto 18 (gd rfl) rfl ?_
                      refine g_ireturn (gd rfl) rfl (nb01 (in_w 0 1 (in_c 1 rfl) rfl)) (hp139x8 _ _ ?_)
                      show GG _ _ _ _ _ _ _ _ [.int (Int32.ofInt 1)] _ _ _
                      refine g_ireturn (gd rfl) rfl (nb01 (in_w 0 1 (in_c 1 rfl) rfl)) (hp139 _ _ ?_)
                      show GG _ _ _ _ _ _ _ _ [.int (Int32.ofInt 1)] _ _ _
                      refine g_if_eq 145 168 (gd rfl) rfl rfl (fun c142 => ?_) (fun c142 => ?_)
                      · skip
                        exact zn_eq c142 (in_c 1 rfl) rfl
                      · skip
                        refine g_aload_n 146 (gd rfl) rfl rfl ?_
                        refine g_getA (q2 := 128) 149 (gd rfl) rfl rfl rfl rfl ?_
                        refine g_iload_n 150 (gd rfl) rfl rfl ?_
                        refine g_iconst 3 151 (gd rfl) rfl rfl ?_
                        refine g_iadd 152 (gd rfl) rfl (fun z151 e151 => ?_)
                        have i151 := in_add 3 2498 e151 h2 (in_c 3 rfl) rfl rfl
                        refine g_iaload 153 (gd rfl) rfl (n := 2500) rfl (in_ix i151 rfl) (fun z152 e152 => ?_)
                        refine g_i2l 154 (gd rfl) rfl (fun z153 e153 => ?_)
                        have i153 := l_i e153 (i_rng z152)
                        refine g_lconst 0 155 (gd rfl) rfl rfl ?_
                        refine g_ldc2_w 1000000 158 (gd rfl) rfl rfl ?_
                        refine g_calls (As := [.long z153, .long (Int64.ofInt 0), .long (Int64.ofInt 1000000)]) (r := []) 161 (gd rfl) rfl rfl rfl rfl rfl (Nat.le_of_ble_eq_true rfl) (mc := 0) (ms := 0) (Nat.zero_le _) (Nat.zero_le _) (P := fun v u => _) ?_ (fun v u h => h)
                        intro po158 xx158 hp158 hx158
                        refine g_enter2 (k := 269) (N := 300) (by first | exact dq1 hd rfl | exact dq0 hd rfl | exact dq2 hd rfl | exact dq3 hd rfl | omega) rfl (Nat.le_of_ble_eq_true rfl) ?_
                        refine g_lload_n 1 (gd rfl) rfl rfl ?_
                        refine g_lload_n 2 (gd rfl) rfl rfl ?_
                        refine g_lcmp 3 (gd rfl) rfl (fun z158x2 e158x2 => ?_)
                        have i158x2 := lc_in e158x2
                        refine g_if_lt 6 17 (gd rfl) rfl rfl (fun c158x3 => ?_) (fun c158x3 => ?_)
                        · skip
                          have i158x3 := z_lt (-1) (-1) c158x3 i158x2 rfl
                          have c158x3a := lc_lt e158x2 c158x3
                          have i158x3a := lr_lt1 (-2147483648) (-1) c158x3a i153 (l_c 0 rfl) rfl
                          have i158x3b := l_b e153 i158x3a
                          refine g_iconst 0 18 (gd rfl) rfl rfl ?_
                          refine g_ireturn (gd rfl) rfl (nb01 (in_w 0 1 (in_c 0 rfl) rfl)) (hp158 _ _ ?_)
                          show GG _ _ _ _ _ _ _ _ [.int (Int32.ofInt 0)] _ _ _
                          refine g_if_eq 164 168 (gd rfl) rfl rfl (fun c161 => ?_) (fun c161 => ?_)
                          · skip
                            have n168 : s = s := by rfl
                            have n168a : ¬ DON s (x1).toInt (x2).toNatClampNeg := by intro h; have h9 := h.2.1 (by have a0 := in_u h2; have a1 := in_u i18; have a2 := in_u i91; have a3 := in_u i125x10b; have a4 := in_u i106x10b; have a5 := tx_i2l e153; have a6 := in_u i158x3b; have a7 := in_u i151; have a8 := t_add e151 h2 (in_c 3 rfl) rfl; have a9 := in_u ((in_c 3 rfl)); have a10 := tx_i2l e139x1; have a11 := in_u i139x8x10b; have a12 := in_u i137; have a13 := t_add e137 h2 (in_c 2 rfl) rfl; have a14 := in_u ((in_c 2 rfl)); have a15 := tx_i2l e124; have a16 := in_u i125x10d; have a17 := t_sub e123 i103 (in_c 1 rfl) rfl; have a18 := in_u ((in_c 1 rfl)); have a19 := in_u i103; have a20 := tx_i2l e114; have a21 := tx_i2l e105; have a22 := in_u i106x10d; have a23 := t_sub e104 i103 (in_c 1 rfl) rfl; have a24 := tx_i2l e95; have a25 := in_u i13; have a26 := t_add e13 h2 (in_c 1 rfl) rfl; have oc := oc_305_109; omega); unfold nq at h9; have p9 : z81.toNatClampNeg = fpl (thg s 320) := p81; have hz81 : z81.toNatClampNeg = z81.toInt.toNat := rfl; rw [← p9, ← e5, show s.1 128 (x2.toNatClampNeg + 1) = z14 from (by rw [show x2.toNatClampNeg + 1 = z13.toNatClampNeg from (by show x2.toInt.toNat + 1 = z13.toInt.toNat; have a0 := in_u h2; have a1 := in_u i18; have a2 := in_u i91; have a3 := in_u i125x10b; have a4 := in_u i106x10b; have a5 := tx_i2l e153; have a6 := in_u i158x3b; have a7 := in_u i151; have a8 := t_add e151 h2 (in_c 3 rfl) rfl; have a9 := in_u ((in_c 3 rfl)); have a10 := tx_i2l e139x1; have a11 := in_u i139x8x10b; have a12 := in_u i137; have a13 := t_add e137 h2 (in_c 2 rfl) rfl; have a14 := in_u ((in_c 2 rfl)); have a15 := tx_i2l e124; have a16 := in_u i125x10d; have a17 := t_sub e123 i103 (in_c 1 rfl) rfl; have a18 := in_u ((in_c 1 rfl)); have a19 := in_u i103; have a20 := tx_i2l e114; have a21 := tx_i2l e105; have a22 := in_u i106x10d; have a23 := t_sub e104 i103 (in_c 1 rfl) rfl; have a24 := tx_i2l e95; have a25 := in_u i13; have a26 := t_add e13 h2 (in_c 1 rfl) rfl; have oc := oc_305_109; omega)]; exact e14.symm), show s.1 110 2 = z102 from e102.symm, show s.1 128 (x2.toNatClampNeg + 2) = z138 from (by rw [show x2.toNatClampNeg + 2 = z137.toNatClampNeg from (by show x2.toInt.toNat + 2 = z137.toInt.toNat; have a0 := in_u h2; have a1 := in_u i18; have a2 := in_u i91; have a3 := in_u i125x10b; have a4 := in_u i106x10b; have a5 := tx_i2l e153; have a6 := in_u i158x3b; have a7 := in_u i151; have a8 := t_add e151 h2 (in_c 3 rfl) rfl; have a9 := in_u ((in_c 3 rfl)); have a10 := tx_i2l e139x1; have a11 := in_u i139x8x10b; have a12 := in_u i137; have a13 := t_add e137 h2 (in_c 2 rfl) rfl; have a14 := in_u ((in_c 2 rfl)); have a15 := tx_i2l e124; have a16 := in_u i125x10d; have a17 := t_sub e123 i103 (in_c 1 rfl) rfl; have a18 := in_u ((in_c 1 rfl)); have a19 := in_u i103; have a20 := tx_i2l e114; have a21 := tx_i2l e105; have a22 := in_u i106x10d; have a23 := t_sub e104 i103 (in_c 1 rfl) rfl; have a24 := tx_i2l e95; have a25 := in_u i13; have a26 := t_add e13 h2 (in_c 1 rfl) rfl; have oc := oc_305_109; omega)]; exact e138.symm), show s.1 128 (x2.toNatClampNeg + 3) = z152 from (by rw [show x2.toNatClampNeg + 3 = z151.toNatClampNeg from (by show x2.toInt.toNat + 3 = z151.toInt.toNat; have a0 := in_u h2; have a1 := in_u i18; have a2 := in_u i91; have a3 := in_u i125x10b; have a4 := in_u i106x10b; have a5 := tx_i2l e153; have a6 := in_u i158x3b; have a7 := in_u i151; have a8 := t_add e151 h2 (in_c 3 rfl) rfl; have a9 := in_u ((in_c 3 rfl)); have a10 := tx_i2l e139x1; have a11 := in_u i139x8x10b; have a12 := in_u i137; have a13 := t_add e137 h2 (in_c 2 rfl) rfl; have a14 := in_u ((in_c 2 rfl)); have a15 := tx_i2l e124; have a16 := in_u i125x10d; have a17 := t_sub e123 i103 (in_c 1 rfl) rfl; have a18 := in_u ((in_c 1 rfl)); have a19 := in_u i103; have a20 := tx_i2l e114; have a21 := tx_i2l e105; have a22 := in_u i106x10d; have a23 := t_sub e104 i103 (in_c 1 rfl) rfl; have a24 := tx_i2l e95; have a25 := in_u i13; have a26 := t_add e13 h2 (in_c 1 rfl) rfl; have oc := oc_305_109; omega)]; exact e152.symm)] at h9; have a0 := in_u h2; have a1 := in_u i18; have a2 := in_u i91; have a3 := in_u i125x10b; have a4 := in_u i106x10b; have a5 := tx_i2l e153; have a6 := in_u i158x3b; have a7 := in_u i151; have a8 := t_add e151 h2 (in_c 3 rfl) rfl; have a9 := in_u ((in_c 3 rfl)); have a10 := tx_i2l e139x1; have a11 := in_u i139x8x10b; have a12 := in_u i137; have a13 := t_add e137 h2 (in_c 2 rfl) rfl; have a14 := in_u ((in_c 2 rfl)); have a15 := tx_i2l e124; have a16 := in_u i125x10d; have a17 := t_sub e123 i103 (in_c 1 rfl) rfl; have a18 := in_u ((in_c 1 rfl)); have a19 := in_u i103; have a20 := tx_i2l e114; have a21 := tx_i2l e105; have a22 := in_u i106x10d; have a23 := t_sub e104 i103 (in_c 1 rfl) rfl; have a24 := tx_i2l e95; have a25 := in_u i13; have a26 := t_add e13 h2 (in_c 1 rfl) rfl; have oc := oc_305_109; omega
                            exact gg_w (by first | exact Nat.le_of_ble_eq_true rfl | omega) (gg_f (gf_cons rfl (gf_cons rfl (gf_cons rfl (gf_cons rfl (gf_cons rfl (gf_cons rfl gf_nil)))))) (ct168 s z5 z14 z81 hI fr_rf (in_w 97 97 i18 rfl) (in_w 0 160 i91 rfl) n168 n168a))
                          · skip
                            exact zn_ne c161 (in_c 0 rfl) rfl
                        · skip
                          have i158x3 := z_ge 0 1 c158x3 i158x2 rfl
                          have c158x3a := lc_ge e158x2 c158x3
                          have i158x3a := lr_le2 0 2147483647 c158x3a (l_c 0 rfl) i153 rfl
                          have i158x3b := l_b e153 i158x3a
                          refine g_lload_n 7 (gd rfl) rfl rfl ?_
                          refine g_lload 9 (gd rfl) rfl rfl ?_
                          refine g_lcmp 10 (gd rfl) rfl (fun z158x9 e158x9 => ?_)
                          have i158x9 := lc_in e158x9
                          refine g_if_gt 13 17 (gd rfl) rfl rfl (fun c158x10 => ?_) (fun c158x10 => ?_)
                          · skip
                            have i158x10 := z_gt 1 1 c158x10 i158x9 rfl
                            have c158x10a := lc_gt e158x9 c158x10
                            have i158x10a := lr_lt2 1000001 2147483647 c158x10a (l_c 1000000 rfl) i158x3a rfl
                            have i158x10b := l_b e153 i158x10a
                            refine g_iconst 0 18 (gd rfl) rfl rfl ?_
                            refine g_ireturn (gd rfl) rfl (nb01 (in_w 0 1 (in_c 0 rfl) rfl)) (hp158 _ _ ?_)
                            show GG _ _ _ _ _ _ _ _ [.int (Int32.ofInt 0)] _ _ _
                            refine g_if_eq 164 168 (gd rfl) rfl rfl (fun c161 => ?_) (fun c161 => ?_)
                            · skip
                              have n168 : s = s := by rfl
                              have n168a : ¬ DON s (x1).toInt (x2).toNatClampNeg := by intro h; have h9 := h.2.1 (by have a0 := in_u h2; have a1 := in_u i18; have a2 := in_u i91; have a3 := in_u i125x10b; have a4 := in_u i106x10b; have a5 := tx_i2l e153; have a6 := in_u i158x10b; have a7 := in_u i151; have a8 := t_add e151 h2 (in_c 3 rfl) rfl; have a9 := in_u ((in_c 3 rfl)); have a10 := tx_i2l e139x1; have a11 := in_u i139x8x10b; have a12 := in_u i137; have a13 := t_add e137 h2 (in_c 2 rfl) rfl; have a14 := in_u ((in_c 2 rfl)); have a15 := tx_i2l e124; have a16 := in_u i125x10d; have a17 := t_sub e123 i103 (in_c 1 rfl) rfl; have a18 := in_u ((in_c 1 rfl)); have a19 := in_u i103; have a20 := tx_i2l e114; have a21 := tx_i2l e105; have a22 := in_u i106x10d; have a23 := t_sub e104 i103 (in_c 1 rfl) rfl; have a24 := tx_i2l e95; have a25 := in_u i13; have a26 := t_add e13 h2 (in_c 1 rfl) rfl; have oc := oc_305_109; omega); unfold nq at h9; have p9 : z81.toNatClampNeg = fpl (thg s 320) := p81; have hz81 : z81.toNatClampNeg = z81.toInt.toNat := rfl; rw [← p9, ← e5, show s.1 128 (x2.toNatClampNeg + 1) = z14 from (by rw [show x2.toNatClampNeg + 1 = z13.toNatClampNeg from (by show x2.toInt.toNat + 1 = z13.toInt.toNat; have a0 := in_u h2; have a1 := in_u i18; have a2 := in_u i91; have a3 := in_u i125x10b; have a4 := in_u i106x10b; have a5 := tx_i2l e153; have a6 := in_u i158x10b; have a7 := in_u i151; have a8 := t_add e151 h2 (in_c 3 rfl) rfl; have a9 := in_u ((in_c 3 rfl)); have a10 := tx_i2l e139x1; have a11 := in_u i139x8x10b; have a12 := in_u i137; have a13 := t_add e137 h2 (in_c 2 rfl) rfl; have a14 := in_u ((in_c 2 rfl)); have a15 := tx_i2l e124; have a16 := in_u i125x10d; have a17 := t_sub e123 i103 (in_c 1 rfl) rfl; have a18 := in_u ((in_c 1 rfl)); have a19 := in_u i103; have a20 := tx_i2l e114; have a21 := tx_i2l e105; have a22 := in_u i106x10d; have a23 := t_sub e104 i103 (in_c 1 rfl) rfl; have a24 := tx_i2l e95; have a25 := in_u i13; have a26 := t_add e13 h2 (in_c 1 rfl) rfl; have oc := oc_305_109; omega)]; exact e14.symm), show s.1 110 2 = z102 from e102.symm, show s.1 128 (x2.toNatClampNeg + 2) = z138 from (by rw [show x2.toNatClampNeg + 2 = z137.toNatClampNeg from (by show x2.toInt.toNat + 2 = z137.toInt.toNat; have a0 := in_u h2; have a1 := in_u i18; have a2 := in_u i91; have a3 := in_u i125x10b; have a4 := in_u i106x10b; have a5 := tx_i2l e153; have a6 := in_u i158x10b; have a7 := in_u i151; have a8 := t_add e151 h2 (in_c 3 rfl) rfl; have a9 := in_u ((in_c 3 rfl)); have a10 := tx_i2l e139x1; have a11 := in_u i139x8x10b; have a12 := in_u i137; have a13 := t_add e137 h2 (in_c 2 rfl) rfl; have a14 := in_u ((in_c 2 rfl)); have a15 := tx_i2l e124; have a16 := in_u i125x10d; have a17 := t_sub e123 i103 (in_c 1 rfl) rfl; have a18 := in_u ((in_c 1 rfl)); have a19 := in_u i103; have a20 := tx_i2l e114; have a21 := tx_i2l e105; have a22 := in_u i106x10d; have a23 := t_sub e104 i103 (in_c 1 rfl) rfl; have a24 := tx_i2l e95; have a25 := in_u i13; have a26 := t_add e13 h2 (in_c 1 rfl) rfl; have oc := oc_305_109; omega)]; exact e138.symm), show s.1 128 (x2.toNatClampNeg + 3) = z152 from (by rw [show x2.toNatClampNeg + 3 = z151.toNatClampNeg from (by show x2.toInt.toNat + 3 = z151.toInt.toNat; have a0 := in_u h2; have a1 := in_u i18; have a2 := in_u i91; have a3 := in_u i125x10b; have a4 := in_u i106x10b; have a5 := tx_i2l e153; have a6 := in_u i158x10b; have a7 := in_u i151; have a8 := t_add e151 h2 (in_c 3 rfl) rfl; have a9 := in_u ((in_c 3 rfl)); have a10 := tx_i2l e139x1; have a11 := in_u i139x8x10b; have a12 := in_u i137; have a13 := t_add e137 h2 (in_c 2 rfl) rfl; have a14 := in_u ((in_c 2 rfl)); have a15 := tx_i2l e124; have a16 := in_u i125x10d; have a17 := t_sub e123 i103 (in_c 1 rfl) rfl; have a18 := in_u ((in_c 1 rfl)); have a19 := in_u i103; have a20 := tx_i2l e114; have a21 := tx_i2l e105; have a22 := in_u i106x10d; have a23 := t_sub e104 i103 (in_c 1 rfl) rfl; have a24 := tx_i2l e95; have a25 := in_u i13; have a26 := t_add e13 h2 (in_c 1 rfl) rfl; have oc := oc_305_109; omega)]; exact e152.symm)] at h9; have a0 := in_u h2; have a1 := in_u i18; have a2 := in_u i91; have a3 := in_u i125x10b; have a4 := in_u i106x10b; have a5 := tx_i2l e153; have a6 := in_u i158x10b; have a7 := in_u i151; have a8 := t_add e151 h2 (in_c 3 rfl) rfl; have a9 := in_u ((in_c 3 rfl)); have a10 := tx_i2l e139x1; have a11 := in_u i139x8x10b; have a12 := in_u i137; have a13 := t_add e137 h2 (in_c 2 rfl) rfl; have a14 := in_u ((in_c 2 rfl)); have a15 := tx_i2l e124; have a16 := in_u i125x10d; have a17 := t_sub e123 i103 (in_c 1 rfl) rfl; have a18 := in_u ((in_c 1 rfl)); have a19 := in_u i103; have a20 := tx_i2l e114; have a21 := tx_i2l e105; have a22 := in_u i106x10d; have a23 := t_sub e104 i103 (in_c 1 rfl) rfl; have a24 := tx_i2l e95; have a25 := in_u i13; have a26 := t_add e13 h2 (in_c 1 rfl) rfl; have oc := oc_305_109; omega
                              exact gg_w (by first | exact Nat.le_of_ble_eq_true rfl | omega) (gg_f (gf_cons rfl (gf_cons rfl (gf_cons rfl (gf_cons rfl (gf_cons rfl (gf_cons rfl gf_nil)))))) (ct168 s z5 z14 z81 hI fr_rf (in_w 97 97 i18 rfl) (in_w 0 160 i91 rfl) n168 n168a))
                            · skip
                              exact zn_ne c161 (in_c 0 rfl) rfl
                          · skip
                            have i158x10 := z_le (-1) 0 c158x10 i158x9 rfl
                            have c158x10a := lc_le e158x9 c158x10
                            have i158x10a := lr_le1 0 1000000 c158x10a i158x3a (l_c 1000000 rfl) rfl
                            have i158x10b := l_b e153 i158x10a
                            refine g_iconst 1 14 (gd rfl) rfl rfl ?_
                            refine g_goto 18 (gd rfl) rfl ?_
                            refine g_ireturn (gd rfl) rfl (nb01 (in_w 0 1 (in_c 1 rfl) rfl)) (hp158 _ _ ?_)
                            show GG _ _ _ _ _ _ _ _ [.int (Int32.ofInt 1)] _ _ _
                            refine g_if_eq 164 168 (gd rfl) rfl rfl (fun c161 => ?_) (fun c161 => ?_)
                            · skip
                              exact zn_eq c161 (in_c 1 rfl) rfl
                            · skip
                              refine g_iconst 1 165 (gd rfl) rfl rfl ?_
                              refine g_goto 169 (gd rfl) rfl ?_
                              refine g_istore 171 (gd rfl) rfl (Nat.le_of_ble_eq_true rfl) ?_
                              refine g_iload 173 (gd rfl) rfl rfl ?_
                              refine g_if_eq 176 188 (gd rfl) rfl rfl (fun c173 => ?_) (fun c173 => ?_)
                              · skip
                                exact zn_eq c173 (in_c 1 rfl) rfl
                              · skip
                                refine g_aload_n 177 (gd rfl) rfl rfl ?_
                                refine g_getA (q2 := 112) 180 (gd rfl) rfl rfl rfl rfl ?_
                                refine g_sipush 320 183 (gd rfl) rfl rfl ?_
                                refine g_iload 185 (gd rfl) rfl rfl ?_
                                refine g_iadd 186 (gd rfl) rfl (fun z185 e185 => ?_)
                                have i185 := in_add 320 479 e185 (in_c 320 rfl) i91 rfl rfl
                                refine g_iconst 1 187 (gd rfl) rfl rfl ?_
                                refine g_bastore 188 (gd rfl) rfl (n := 480) rfl (in_ix i185 rfl) ?_
                                have hI187 : Inv (sI s 112 z185.toNatClampNeg (vp_nar .boolean (Int32.ofInt 1))) := by exact inv_t3 hI (by show 320 ≤ (z185).toInt.toNat; have a0 := in_u h2; have a1 := in_u i18; have a2 := in_u ((in_c 1 rfl)); have a3 := in_u i91; have a4 := in_u i125x10b; have a5 := in_u i106x10b; have a6 := in_u i185; have a7 := t_add e185 (in_c 320 rfl) i91 rfl; have a8 := in_u ((in_c 320 rfl)); have a9 := tx_i2l e153; have a10 := in_u i158x10b; have a11 := in_u i151; have a12 := t_add e151 h2 (in_c 3 rfl) rfl; have a13 := in_u ((in_c 3 rfl)); have a14 := tx_i2l e139x1; have a15 := in_u i139x8x10b; have a16 := in_u i137; have a17 := t_add e137 h2 (in_c 2 rfl) rfl; have a18 := in_u ((in_c 2 rfl)); have a19 := tx_i2l e124; have a20 := in_u i125x10d; have a21 := t_sub e123 i103 (in_c 1 rfl) rfl; have a22 := in_u i103; have a23 := tx_i2l e114; have a24 := tx_i2l e105; have a25 := in_u i106x10d; have a26 := t_sub e104 i103 (in_c 1 rfl) rfl; have a27 := tx_i2l e95; have a28 := in_u i13; have a29 := t_add e13 h2 (in_c 1 rfl) rfl; have oc := oc_305_109; omega) (in_w 0 1 (nar01 (in_w 0 1 (in_c 1 rfl) rfl)) rfl)
                                have n188 : DNE s (sI s 112 z185.toNatClampNeg (vp_nar .boolean (Int32.ofInt 1))) (x1).toInt (x2).toNatClampNeg ((Int32.ofInt 1)).toInt := by exact dne_a (p := z81.toNatClampNeg) (by have a0 := in_u h2; have a1 := in_u i18; have a2 := in_u ((in_c 1 rfl)); have a3 := in_u i91; have a4 := in_u i125x10b; have a5 := in_u i106x10b; have a6 := in_u i185; have a7 := t_add e185 (in_c 320 rfl) i91 rfl; have a8 := in_u ((in_c 320 rfl)); have a9 := tx_i2l e153; have a10 := in_u i158x10b; have a11 := in_u i151; have a12 := t_add e151 h2 (in_c 3 rfl) rfl; have a13 := in_u ((in_c 3 rfl)); have a14 := tx_i2l e139x1; have a15 := in_u i139x8x10b; have a16 := in_u i137; have a17 := t_add e137 h2 (in_c 2 rfl) rfl; have a18 := in_u ((in_c 2 rfl)); have a19 := tx_i2l e124; have a20 := in_u i125x10d; have a21 := t_sub e123 i103 (in_c 1 rfl) rfl; have a22 := in_u i103; have a23 := tx_i2l e114; have a24 := tx_i2l e105; have a25 := in_u i106x10d; have a26 := t_sub e104 i103 (in_c 1 rfl) rfl; have a27 := tx_i2l e95; have a28 := in_u i13; have a29 := t_add e13 h2 (in_c 1 rfl) rfl; have oc := oc_305_109; omega) p81 (by show z81.toInt.toNat < 160; have a0 := in_u h2; have a1 := in_u i18; have a2 := in_u ((in_c 1 rfl)); have a3 := in_u i91; have a4 := in_u i125x10b; have a5 := in_u i106x10b; have a6 := in_u i185; have a7 := t_add e185 (in_c 320 rfl) i91 rfl; have a8 := in_u ((in_c 320 rfl)); have a9 := tx_i2l e153; have a10 := in_u i158x10b; have a11 := in_u i151; have a12 := t_add e151 h2 (in_c 3 rfl) rfl; have a13 := in_u ((in_c 3 rfl)); have a14 := tx_i2l e139x1; have a15 := in_u i139x8x10b; have a16 := in_u i137; have a17 := t_add e137 h2 (in_c 2 rfl) rfl; have a18 := in_u ((in_c 2 rfl)); have a19 := tx_i2l e124; have a20 := in_u i125x10d; have a21 := t_sub e123 i103 (in_c 1 rfl) rfl; have a22 := in_u i103; have a23 := tx_i2l e114; have a24 := tx_i2l e105; have a25 := in_u i106x10d; have a26 := t_sub e104 i103 (in_c 1 rfl) rfl; have a27 := tx_i2l e95; have a28 := in_u i13; have a29 := t_add e13 h2 (in_c 1 rfl) rfl; have oc := oc_305_109; (first | exact zt_l (by decide) (by omega) | omega)) (by show z185.toInt.toNat = 320 + z81.toInt.toNat; have a0 := in_u h2; have a1 := in_u i18; have a2 := in_u ((in_c 1 rfl)); have a3 := in_u i91; have a4 := in_u i125x10b; have a5 := in_u i106x10b; have a6 := in_u i185; have a7 := t_add e185 (in_c 320 rfl) i91 rfl; have a8 := in_u ((in_c 320 rfl)); have a9 := tx_i2l e153; have a10 := in_u i158x10b; have a11 := in_u i151; have a12 := t_add e151 h2 (in_c 3 rfl) rfl; have a13 := in_u ((in_c 3 rfl)); have a14 := tx_i2l e139x1; have a15 := in_u i139x8x10b; have a16 := in_u i137; have a17 := t_add e137 h2 (in_c 2 rfl) rfl; have a18 := in_u ((in_c 2 rfl)); have a19 := tx_i2l e124; have a20 := in_u i125x10d; have a21 := t_sub e123 i103 (in_c 1 rfl) rfl; have a22 := in_u i103; have a23 := tx_i2l e114; have a24 := tx_i2l e105; have a25 := in_u i106x10d; have a26 := t_sub e104 i103 (in_c 1 rfl) rfl; have a27 := tx_i2l e95; have a28 := in_u i13; have a29 := t_add e13 h2 (in_c 1 rfl) rfl; have oc := oc_305_109; omega) ⟨by rw [← e5]; have h := i106x3b.1; omega, by rw [← e5]; have ha := c106x10a; have hb := tx_i2l e95; have hc := tx_i2l e105; have he : z102 = s.1 110 2 := e102; rw [← he]; have a0 := in_u h2; have a1 := in_u i18; have a2 := in_u ((in_c 1 rfl)); have a3 := in_u i91; have a4 := in_u i125x10b; have a5 := in_u i106x10b; have a6 := in_u i185; have a7 := t_add e185 (in_c 320 rfl) i91 rfl; have a8 := in_u ((in_c 320 rfl)); have a9 := tx_i2l e153; have a10 := in_u i158x10b; have a11 := in_u i151; have a12 := t_add e151 h2 (in_c 3 rfl) rfl; have a13 := in_u ((in_c 3 rfl)); have a14 := tx_i2l e139x1; have a15 := in_u i139x8x10b; have a16 := in_u i137; have a17 := t_add e137 h2 (in_c 2 rfl) rfl; have a18 := in_u ((in_c 2 rfl)); have a19 := tx_i2l e124; have a20 := in_u i125x10d; have a21 := t_sub e123 i103 (in_c 1 rfl) rfl; have a22 := in_u i103; have a23 := tx_i2l e114; have a24 := tx_i2l e105; have a25 := in_u i106x10d; have a26 := t_sub e104 i103 (in_c 1 rfl) rfl; have a27 := tx_i2l e95; have a28 := in_u i13; have a29 := t_add e13 h2 (in_c 1 rfl) rfl; have oc := oc_305_109; omega⟩ ⟨by rw [show x2.toNatClampNeg + 1 = z13.toNatClampNeg from (by show x2.toInt.toNat + 1 = z13.toInt.toNat; have a0 := in_u h2; have a1 := in_u i18; have a2 := in_u ((in_c 1 rfl)); have a3 := in_u i91; have a4 := in_u i125x10b; have a5 := in_u i106x10b; have a6 := in_u i185; have a7 := t_add e185 (in_c 320 rfl) i91 rfl; have a8 := in_u ((in_c 320 rfl)); have a9 := tx_i2l e153; have a10 := in_u i158x10b; have a11 := in_u i151; have a12 := t_add e151 h2 (in_c 3 rfl) rfl; have a13 := in_u ((in_c 3 rfl)); have a14 := tx_i2l e139x1; have a15 := in_u i139x8x10b; have a16 := in_u i137; have a17 := t_add e137 h2 (in_c 2 rfl) rfl; have a18 := in_u ((in_c 2 rfl)); have a19 := tx_i2l e124; have a20 := in_u i125x10d; have a21 := t_sub e123 i103 (in_c 1 rfl) rfl; have a22 := in_u i103; have a23 := tx_i2l e114; have a24 := tx_i2l e105; have a25 := in_u i106x10d; have a26 := t_sub e104 i103 (in_c 1 rfl) rfl; have a27 := tx_i2l e95; have a28 := in_u i13; have a29 := t_add e13 h2 (in_c 1 rfl) rfl; have oc := oc_305_109; omega), ← e14]; have h := i125x3b.1; omega, by rw [show x2.toNatClampNeg + 1 = z13.toNatClampNeg from (by show x2.toInt.toNat + 1 = z13.toInt.toNat; have a0 := in_u h2; have a1 := in_u i18; have a2 := in_u ((in_c 1 rfl)); have a3 := in_u i91; have a4 := in_u i125x10b; have a5 := in_u i106x10b; have a6 := in_u i185; have a7 := t_add e185 (in_c 320 rfl) i91 rfl; have a8 := in_u ((in_c 320 rfl)); have a9 := tx_i2l e153; have a10 := in_u i158x10b; have a11 := in_u i151; have a12 := t_add e151 h2 (in_c 3 rfl) rfl; have a13 := in_u ((in_c 3 rfl)); have a14 := tx_i2l e139x1; have a15 := in_u i139x8x10b; have a16 := in_u i137; have a17 := t_add e137 h2 (in_c 2 rfl) rfl; have a18 := in_u ((in_c 2 rfl)); have a19 := tx_i2l e124; have a20 := in_u i125x10d; have a21 := t_sub e123 i103 (in_c 1 rfl) rfl; have a22 := in_u i103; have a23 := tx_i2l e114; have a24 := tx_i2l e105; have a25 := in_u i106x10d; have a26 := t_sub e104 i103 (in_c 1 rfl) rfl; have a27 := tx_i2l e95; have a28 := in_u i13; have a29 := t_add e13 h2 (in_c 1 rfl) rfl; have oc := oc_305_109; omega), ← e14]; have ha := c125x10a; have hb := tx_i2l e114; have hc := tx_i2l e124; have he : z102 = s.1 110 2 := e102; rw [← he]; have a0 := in_u h2; have a1 := in_u i18; have a2 := in_u ((in_c 1 rfl)); have a3 := in_u i91; have a4 := in_u i125x10b; have a5 := in_u i106x10b; have a6 := in_u i185; have a7 := t_add e185 (in_c 320 rfl) i91 rfl; have a8 := in_u ((in_c 320 rfl)); have a9 := tx_i2l e153; have a10 := in_u i158x10b; have a11 := in_u i151; have a12 := t_add e151 h2 (in_c 3 rfl) rfl; have a13 := in_u ((in_c 3 rfl)); have a14 := tx_i2l e139x1; have a15 := in_u i139x8x10b; have a16 := in_u i137; have a17 := t_add e137 h2 (in_c 2 rfl) rfl; have a18 := in_u ((in_c 2 rfl)); have a19 := tx_i2l e124; have a20 := in_u i125x10d; have a21 := t_sub e123 i103 (in_c 1 rfl) rfl; have a22 := in_u i103; have a23 := tx_i2l e114; have a24 := tx_i2l e105; have a25 := in_u i106x10d; have a26 := t_sub e104 i103 (in_c 1 rfl) rfl; have a27 := tx_i2l e95; have a28 := in_u i13; have a29 := t_add e13 h2 (in_c 1 rfl) rfl; have oc := oc_305_109; omega⟩ (by rw [show x2.toNatClampNeg + 2 = z137.toNatClampNeg from (by show x2.toInt.toNat + 2 = z137.toInt.toNat; have a0 := in_u h2; have a1 := in_u i18; have a2 := in_u ((in_c 1 rfl)); have a3 := in_u i91; have a4 := in_u i125x10b; have a5 := in_u i106x10b; have a6 := in_u i185; have a7 := t_add e185 (in_c 320 rfl) i91 rfl; have a8 := in_u ((in_c 320 rfl)); have a9 := tx_i2l e153; have a10 := in_u i158x10b; have a11 := in_u i151; have a12 := t_add e151 h2 (in_c 3 rfl) rfl; have a13 := in_u ((in_c 3 rfl)); have a14 := tx_i2l e139x1; have a15 := in_u i139x8x10b; have a16 := in_u i137; have a17 := t_add e137 h2 (in_c 2 rfl) rfl; have a18 := in_u ((in_c 2 rfl)); have a19 := tx_i2l e124; have a20 := in_u i125x10d; have a21 := t_sub e123 i103 (in_c 1 rfl) rfl; have a22 := in_u i103; have a23 := tx_i2l e114; have a24 := tx_i2l e105; have a25 := in_u i106x10d; have a26 := t_sub e104 i103 (in_c 1 rfl) rfl; have a27 := tx_i2l e95; have a28 := in_u i13; have a29 := t_add e13 h2 (in_c 1 rfl) rfl; have oc := oc_305_109; omega), ← e138]; exact i139x8x10b) (by rw [show x2.toNatClampNeg + 3 = z151.toNatClampNeg from (by show x2.toInt.toNat + 3 = z151.toInt.toNat; have a0 := in_u h2; have a1 := in_u i18; have a2 := in_u ((in_c 1 rfl)); have a3 := in_u i91; have a4 := in_u i125x10b; have a5 := in_u i106x10b; have a6 := in_u i185; have a7 := t_add e185 (in_c 320 rfl) i91 rfl; have a8 := in_u ((in_c 320 rfl)); have a9 := tx_i2l e153; have a10 := in_u i158x10b; have a11 := in_u i151; have a12 := t_add e151 h2 (in_c 3 rfl) rfl; have a13 := in_u ((in_c 3 rfl)); have a14 := tx_i2l e139x1; have a15 := in_u i139x8x10b; have a16 := in_u i137; have a17 := t_add e137 h2 (in_c 2 rfl) rfl; have a18 := in_u ((in_c 2 rfl)); have a19 := tx_i2l e124; have a20 := in_u i125x10d; have a21 := t_sub e123 i103 (in_c 1 rfl) rfl; have a22 := in_u i103; have a23 := tx_i2l e114; have a24 := tx_i2l e105; have a25 := in_u i106x10d; have a26 := t_sub e104 i103 (in_c 1 rfl) rfl; have a27 := tx_i2l e95; have a28 := in_u i13; have a29 := t_add e13 h2 (in_c 1 rfl) rfl; have oc := oc_305_109; omega), ← e152]; exact i158x10b)
                                have n188a : YNQ ((Int32.ofInt 1)).toInt (DON s (x1).toInt (x2).toNatClampNeg) := by have p9 : z81.toNatClampNeg = fpl (thg s 320) := p81; have hz81 : z81.toNatClampNeg = z81.toInt.toNat := rfl; exact ⟨fun _ => don_97 (by have a0 := in_u h2; have a1 := in_u i18; have a2 := in_u ((in_c 1 rfl)); have a3 := in_u i91; have a4 := in_u i125x10b; have a5 := in_u i106x10b; have a6 := in_u i185; have a7 := t_add e185 (in_c 320 rfl) i91 rfl; have a8 := in_u ((in_c 320 rfl)); have a9 := tx_i2l e153; have a10 := in_u i158x10b; have a11 := in_u i151; have a12 := t_add e151 h2 (in_c 3 rfl) rfl; have a13 := in_u ((in_c 3 rfl)); have a14 := tx_i2l e139x1; have a15 := in_u i139x8x10b; have a16 := in_u i137; have a17 := t_add e137 h2 (in_c 2 rfl) rfl; have a18 := in_u ((in_c 2 rfl)); have a19 := tx_i2l e124; have a20 := in_u i125x10d; have a21 := t_sub e123 i103 (in_c 1 rfl) rfl; have a22 := in_u i103; have a23 := tx_i2l e114; have a24 := tx_i2l e105; have a25 := in_u i106x10d; have a26 := t_sub e104 i103 (in_c 1 rfl) rfl; have a27 := tx_i2l e95; have a28 := in_u i13; have a29 := t_add e13 h2 (in_c 1 rfl) rfl; have oc := oc_305_109; omega) ⟨by rw [← p9]; have a0 := in_u h2; have a1 := in_u i18; have a2 := in_u ((in_c 1 rfl)); have a3 := in_u i91; have a4 := in_u i125x10b; have a5 := in_u i106x10b; have a6 := in_u i185; have a7 := t_add e185 (in_c 320 rfl) i91 rfl; have a8 := in_u ((in_c 320 rfl)); have a9 := tx_i2l e153; have a10 := in_u i158x10b; have a11 := in_u i151; have a12 := t_add e151 h2 (in_c 3 rfl) rfl; have a13 := in_u ((in_c 3 rfl)); have a14 := tx_i2l e139x1; have a15 := in_u i139x8x10b; have a16 := in_u i137; have a17 := t_add e137 h2 (in_c 2 rfl) rfl; have a18 := in_u ((in_c 2 rfl)); have a19 := tx_i2l e124; have a20 := in_u i125x10d; have a21 := t_sub e123 i103 (in_c 1 rfl) rfl; have a22 := in_u i103; have a23 := tx_i2l e114; have a24 := tx_i2l e105; have a25 := in_u i106x10d; have a26 := t_sub e104 i103 (in_c 1 rfl) rfl; have a27 := tx_i2l e95; have a28 := in_u i13; have a29 := t_add e13 h2 (in_c 1 rfl) rfl; have oc := oc_305_109; omega, (by unfold nq; rw [← e5, show s.1 110 2 = z102 from e102.symm]; have a0 := in_u h2; have a1 := in_u i18; have a2 := in_u ((in_c 1 rfl)); have a3 := in_u i91; have a4 := in_u i125x10b; have a5 := in_u i106x10b; have a6 := in_u i185; have a7 := t_add e185 (in_c 320 rfl) i91 rfl; have a8 := in_u ((in_c 320 rfl)); have a9 := tx_i2l e153; have a10 := in_u i158x10b; have a11 := in_u i151; have a12 := t_add e151 h2 (in_c 3 rfl) rfl; have a13 := in_u ((in_c 3 rfl)); have a14 := tx_i2l e139x1; have a15 := in_u i139x8x10b; have a16 := in_u i137; have a17 := t_add e137 h2 (in_c 2 rfl) rfl; have a18 := in_u ((in_c 2 rfl)); have a19 := tx_i2l e124; have a20 := in_u i125x10d; have a21 := t_sub e123 i103 (in_c 1 rfl) rfl; have a22 := in_u i103; have a23 := tx_i2l e114; have a24 := tx_i2l e105; have a25 := in_u i106x10d; have a26 := t_sub e104 i103 (in_c 1 rfl) rfl; have a27 := tx_i2l e95; have a28 := in_u i13; have a29 := t_add e13 h2 (in_c 1 rfl) rfl; have oc := oc_305_109; omega), (by unfold nq; rw [show s.1 128 (x2.toNatClampNeg + 1) = z14 from (by rw [show x2.toNatClampNeg + 1 = z13.toNatClampNeg from (by show x2.toInt.toNat + 1 = z13.toInt.toNat; have a0 := in_u h2; have a1 := in_u i18; have a2 := in_u ((in_c 1 rfl)); have a3 := in_u i91; have a4 := in_u i125x10b; have a5 := in_u i106x10b; have a6 := in_u i185; have a7 := t_add e185 (in_c 320 rfl) i91 rfl; have a8 := in_u ((in_c 320 rfl)); have a9 := tx_i2l e153; have a10 := in_u i158x10b; have a11 := in_u i151; have a12 := t_add e151 h2 (in_c 3 rfl) rfl; have a13 := in_u ((in_c 3 rfl)); have a14 := tx_i2l e139x1; have a15 := in_u i139x8x10b; have a16 := in_u i137; have a17 := t_add e137 h2 (in_c 2 rfl) rfl; have a18 := in_u ((in_c 2 rfl)); have a19 := tx_i2l e124; have a20 := in_u i125x10d; have a21 := t_sub e123 i103 (in_c 1 rfl) rfl; have a22 := in_u i103; have a23 := tx_i2l e114; have a24 := tx_i2l e105; have a25 := in_u i106x10d; have a26 := t_sub e104 i103 (in_c 1 rfl) rfl; have a27 := tx_i2l e95; have a28 := in_u i13; have a29 := t_add e13 h2 (in_c 1 rfl) rfl; have oc := oc_305_109; omega)]; exact e14.symm), show s.1 110 2 = z102 from e102.symm]; have a0 := in_u h2; have a1 := in_u i18; have a2 := in_u ((in_c 1 rfl)); have a3 := in_u i91; have a4 := in_u i125x10b; have a5 := in_u i106x10b; have a6 := in_u i185; have a7 := t_add e185 (in_c 320 rfl) i91 rfl; have a8 := in_u ((in_c 320 rfl)); have a9 := tx_i2l e153; have a10 := in_u i158x10b; have a11 := in_u i151; have a12 := t_add e151 h2 (in_c 3 rfl) rfl; have a13 := in_u ((in_c 3 rfl)); have a14 := tx_i2l e139x1; have a15 := in_u i139x8x10b; have a16 := in_u i137; have a17 := t_add e137 h2 (in_c 2 rfl) rfl; have a18 := in_u ((in_c 2 rfl)); have a19 := tx_i2l e124; have a20 := in_u i125x10d; have a21 := t_sub e123 i103 (in_c 1 rfl) rfl; have a22 := in_u i103; have a23 := tx_i2l e114; have a24 := tx_i2l e105; have a25 := in_u i106x10d; have a26 := t_sub e104 i103 (in_c 1 rfl) rfl; have a27 := tx_i2l e95; have a28 := in_u i13; have a29 := t_add e13 h2 (in_c 1 rfl) rfl; have oc := oc_305_109; omega), (by unfold nq; rw [show s.1 128 (x2.toNatClampNeg + 2) = z138 from (by rw [show x2.toNatClampNeg + 2 = z137.toNatClampNeg from (by show x2.toInt.toNat + 2 = z137.toInt.toNat; have a0 := in_u h2; have a1 := in_u i18; have a2 := in_u ((in_c 1 rfl)); have a3 := in_u i91; have a4 := in_u i125x10b; have a5 := in_u i106x10b; have a6 := in_u i185; have a7 := t_add e185 (in_c 320 rfl) i91 rfl; have a8 := in_u ((in_c 320 rfl)); have a9 := tx_i2l e153; have a10 := in_u i158x10b; have a11 := in_u i151; have a12 := t_add e151 h2 (in_c 3 rfl) rfl; have a13 := in_u ((in_c 3 rfl)); have a14 := tx_i2l e139x1; have a15 := in_u i139x8x10b; have a16 := in_u i137; have a17 := t_add e137 h2 (in_c 2 rfl) rfl; have a18 := in_u ((in_c 2 rfl)); have a19 := tx_i2l e124; have a20 := in_u i125x10d; have a21 := t_sub e123 i103 (in_c 1 rfl) rfl; have a22 := in_u i103; have a23 := tx_i2l e114; have a24 := tx_i2l e105; have a25 := in_u i106x10d; have a26 := t_sub e104 i103 (in_c 1 rfl) rfl; have a27 := tx_i2l e95; have a28 := in_u i13; have a29 := t_add e13 h2 (in_c 1 rfl) rfl; have oc := oc_305_109; omega)]; exact e138.symm)]; have a0 := in_u h2; have a1 := in_u i18; have a2 := in_u ((in_c 1 rfl)); have a3 := in_u i91; have a4 := in_u i125x10b; have a5 := in_u i106x10b; have a6 := in_u i185; have a7 := t_add e185 (in_c 320 rfl) i91 rfl; have a8 := in_u ((in_c 320 rfl)); have a9 := tx_i2l e153; have a10 := in_u i158x10b; have a11 := in_u i151; have a12 := t_add e151 h2 (in_c 3 rfl) rfl; have a13 := in_u ((in_c 3 rfl)); have a14 := tx_i2l e139x1; have a15 := in_u i139x8x10b; have a16 := in_u i137; have a17 := t_add e137 h2 (in_c 2 rfl) rfl; have a18 := in_u ((in_c 2 rfl)); have a19 := tx_i2l e124; have a20 := in_u i125x10d; have a21 := t_sub e123 i103 (in_c 1 rfl) rfl; have a22 := in_u i103; have a23 := tx_i2l e114; have a24 := tx_i2l e105; have a25 := in_u i106x10d; have a26 := t_sub e104 i103 (in_c 1 rfl) rfl; have a27 := tx_i2l e95; have a28 := in_u i13; have a29 := t_add e13 h2 (in_c 1 rfl) rfl; have oc := oc_305_109; omega), (by unfold nq; rw [show s.1 128 (x2.toNatClampNeg + 3) = z152 from (by rw [show x2.toNatClampNeg + 3 = z151.toNatClampNeg from (by show x2.toInt.toNat + 3 = z151.toInt.toNat; have a0 := in_u h2; have a1 := in_u i18; have a2 := in_u ((in_c 1 rfl)); have a3 := in_u i91; have a4 := in_u i125x10b; have a5 := in_u i106x10b; have a6 := in_u i185; have a7 := t_add e185 (in_c 320 rfl) i91 rfl; have a8 := in_u ((in_c 320 rfl)); have a9 := tx_i2l e153; have a10 := in_u i158x10b; have a11 := in_u i151; have a12 := t_add e151 h2 (in_c 3 rfl) rfl; have a13 := in_u ((in_c 3 rfl)); have a14 := tx_i2l e139x1; have a15 := in_u i139x8x10b; have a16 := in_u i137; have a17 := t_add e137 h2 (in_c 2 rfl) rfl; have a18 := in_u ((in_c 2 rfl)); have a19 := tx_i2l e124; have a20 := in_u i125x10d; have a21 := t_sub e123 i103 (in_c 1 rfl) rfl; have a22 := in_u i103; have a23 := tx_i2l e114; have a24 := tx_i2l e105; have a25 := in_u i106x10d; have a26 := t_sub e104 i103 (in_c 1 rfl) rfl; have a27 := tx_i2l e95; have a28 := in_u i13; have a29 := t_add e13 h2 (in_c 1 rfl) rfl; have oc := oc_305_109; omega)]; exact e152.symm)]; have a0 := in_u h2; have a1 := in_u i18; have a2 := in_u ((in_c 1 rfl)); have a3 := in_u i91; have a4 := in_u i125x10b; have a5 := in_u i106x10b; have a6 := in_u i185; have a7 := t_add e185 (in_c 320 rfl) i91 rfl; have a8 := in_u ((in_c 320 rfl)); have a9 := tx_i2l e153; have a10 := in_u i158x10b; have a11 := in_u i151; have a12 := t_add e151 h2 (in_c 3 rfl) rfl; have a13 := in_u ((in_c 3 rfl)); have a14 := tx_i2l e139x1; have a15 := in_u i139x8x10b; have a16 := in_u i137; have a17 := t_add e137 h2 (in_c 2 rfl) rfl; have a18 := in_u ((in_c 2 rfl)); have a19 := tx_i2l e124; have a20 := in_u i125x10d; have a21 := t_sub e123 i103 (in_c 1 rfl) rfl; have a22 := in_u i103; have a23 := tx_i2l e114; have a24 := tx_i2l e105; have a25 := in_u i106x10d; have a26 := t_sub e104 i103 (in_c 1 rfl) rfl; have a27 := tx_i2l e95; have a28 := in_u i13; have a29 := t_add e13 h2 (in_c 1 rfl) rfl; have oc := oc_305_109; omega)⟩, fun h => absurd h (by decide)⟩
                                have n188b : G12 s (sI s 112 z185.toNatClampNeg (vp_nar .boolean (Int32.ofInt 1))) := by exact g12_t (by show 320 ≤ z185.toInt.toNat; have a0 := in_u h2; have a1 := in_u i18; have a2 := in_u ((in_c 1 rfl)); have a3 := in_u i91; have a4 := in_u i125x10b; have a5 := in_u i106x10b; have a6 := in_u i185; have a7 := t_add e185 (in_c 320 rfl) i91 rfl; have a8 := in_u ((in_c 320 rfl)); have a9 := tx_i2l e153; have a10 := in_u i158x10b; have a11 := in_u i151; have a12 := t_add e151 h2 (in_c 3 rfl) rfl; have a13 := in_u ((in_c 3 rfl)); have a14 := tx_i2l e139x1; have a15 := in_u i139x8x10b; have a16 := in_u i137; have a17 := t_add e137 h2 (in_c 2 rfl) rfl; have a18 := in_u ((in_c 2 rfl)); have a19 := tx_i2l e124; have a20 := in_u i125x10d; have a21 := t_sub e123 i103 (in_c 1 rfl) rfl; have a22 := in_u i103; have a23 := tx_i2l e114; have a24 := tx_i2l e105; have a25 := in_u i106x10d; have a26 := t_sub e104 i103 (in_c 1 rfl) rfl; have a27 := tx_i2l e95; have a28 := in_u i13; have a29 := t_add e13 h2 (in_c 1 rfl) rfl; have oc := oc_305_109; omega)
                                exact gg_w (by first | exact Nat.le_of_ble_eq_true rfl | omega) (gg_f (gf_cons rfl (gf_cons rfl (gf_cons rfl (gf_cons rfl (gf_cons rfl (gf_cons rfl (gf_cons rfl gf_nil))))))) (ct188 (sI s 112 z185.toNatClampNeg (vp_nar .boolean (Int32.ofInt 1))) z5 z14 z81 (Int32.ofInt 1) hI187 (fr_sI rfl fr_rf) (in_w 97 97 i18 rfl) (in_w 0 160 i91 rfl) (in_w 0 1 (in_c 1 rfl) rfl) n188 n188a n188b))
  · skip
    have i18 := sw_eq c18
    refine g_aload_n 53 (gd rfl) rfl rfl ?_
    refine g_getA (q2 := 110) 56 (gd rfl) rfl rfl rfl rfl ?_
    refine g_iconst 2 57 (gd rfl) rfl rfl ?_
    refine g_dup2 58 (gd rfl) rfl rfl rfl ?_
    refine g_iaload 59 (gd rfl) rfl (n := 3) rfl (in_ix (in_c 2 rfl) rfl) (fun z58 e58 => ?_)
    have i59 : In z58 0 32 := by rw [e58]; exact q_0
    refine g_iconst 1 60 (gd rfl) rfl rfl ?_
    refine g_iadd 61 (gd rfl) rfl (fun z60 e60 => ?_)
    have i60 := in_add 1 33 e60 i59 (in_c 1 rfl) rfl rfl
    refine g_iastore 62 (gd rfl) rfl (n := 3) rfl (in_ix (in_c 2 rfl) rfl) ?_
    have hI61 : Inv (sI s 110 (Int32.ofInt 2).toNatClampNeg z60) := by exact inv_n2 hI (Nat.le_refl 2)
    refine g_aload_n 63 (gd rfl) rfl rfl ?_
    refine g_getA (q2 := 110) 66 (gd rfl) rfl rfl rfl rfl ?_
    refine g_iconst 2 67 (gd rfl) rfl rfl ?_
    refine g_iaload 68 (gd rfl) rfl (n := 3) rfl (in_ix (in_c 2 rfl) rfl) (fun z67 e67 => ?_)
    have q67 : z60 = z67 := (sI_get).trans e67.symm
    subst q67
    refine g_bipush 32 70 (gd rfl) rfl rfl ?_
    refine g_cmp_gt 73 77 (gd rfl) rfl rfl (fun c70 => ?_) (fun c70 => ?_)
    · skip
      have i70 := r_lt2 33 33 c70 (in_c 32 rfl) i60 rfl
      refine g_iconst 0 78 (gd rfl) rfl rfl ?_
      have n78 : DNE s (sI s 110 (Int32.ofInt 2).toNatClampNeg z60) (x1).toInt (x2).toNatClampNeg ((Int32.ofInt 0)).toInt := by exact dne_n (by have a0 := in_u h2; have a1 := in_u i18; have a2 := in_u i70; have a3 := t_add e60 i59 (in_c 1 rfl) rfl; have a4 := in_u ((in_c 1 rfl)); have a5 := in_u i59; have a6 := in_u i13; have a7 := t_add e13 h2 (in_c 1 rfl) rfl; have oc := oc_305_109; omega) e58 (by have a0 := in_u h2; have a1 := in_u i18; have a2 := in_u i70; have a3 := t_add e60 i59 (in_c 1 rfl) rfl; have a4 := in_u ((in_c 1 rfl)); have a5 := in_u i59; have a6 := in_u i13; have a7 := t_add e13 h2 (in_c 1 rfl) rfl; have oc := oc_305_109; omega) (fun hz => by first | (exact absurd (by decide) hz) | (have h := i70; unfold In at h; omega))
      have n78a : YNQ ((Int32.ofInt 0)).toInt (DON s (x1).toInt (x2).toNatClampNeg) := by first | exact ⟨fun _ => don_110 (by have a0 := in_u h2; have a1 := in_u i18; have a2 := in_u i70; have a3 := t_add e60 i59 (in_c 1 rfl) rfl; have a4 := in_u ((in_c 1 rfl)); have a5 := in_u i59; have a6 := in_u i13; have a7 := t_add e13 h2 (in_c 1 rfl) rfl; have oc := oc_305_109; omega) (by rw [show s.1 110 2 = z58 from e58.symm]; have a0 := in_u h2; have a1 := in_u i18; have a2 := in_u i70; have a3 := t_add e60 i59 (in_c 1 rfl) rfl; have a4 := in_u ((in_c 1 rfl)); have a5 := in_u i59; have a6 := in_u i13; have a7 := t_add e13 h2 (in_c 1 rfl) rfl; have oc := oc_305_109; omega), fun h => absurd h (by decide)⟩ | exact ⟨fun h => absurd rfl h, fun _ h => by have h9 := h.1 (by have a0 := in_u h2; have a1 := in_u i18; have a2 := in_u i70; have a3 := t_add e60 i59 (in_c 1 rfl) rfl; have a4 := in_u ((in_c 1 rfl)); have a5 := in_u i59; have a6 := in_u i13; have a7 := t_add e13 h2 (in_c 1 rfl) rfl; have oc := oc_305_109; omega); rw [show s.1 110 2 = z58 from e58.symm] at h9; have a0 := in_u h2; have a1 := in_u i18; have a2 := in_u i70; have a3 := t_add e60 i59 (in_c 1 rfl) rfl; have a4 := in_u ((in_c 1 rfl)); have a5 := in_u i59; have a6 := in_u i13; have a7 := t_add e13 h2 (in_c 1 rfl) rfl; have oc := oc_305_109; omega⟩
      have n78b : G12 s (sI s 110 (Int32.ofInt 2).toNatClampNeg z60) := by exact g12_n
      exact g_ireturn (gd rfl) rfl (nb01 (in_w 0 1 (in_c 0 rfl) rfl)) (hP _ _ ⟨(sI s 110 (Int32.ofInt 2).toNatClampNeg z60), hI61, (fr_sI rfl fr_rf), (Int32.ofInt 0), rfl, rfl, in_w 0 1 (in_c 0 rfl) rfl, n78, n78a, n78b⟩)
    · skip
      have i70 := r_le1 1 32 c70 i60 (in_c 32 rfl) rfl
      refine g_iconst 1 74 (gd rfl) rfl rfl ?_
      refine g_goto 78 (gd rfl) rfl ?_
      have n78 : DNE s (sI s 110 (Int32.ofInt 2).toNatClampNeg z60) (x1).toInt (x2).toNatClampNeg ((Int32.ofInt 1)).toInt := by exact dne_n (by have a0 := in_u h2; have a1 := in_u i18; have a2 := in_u i70; have a3 := t_add e60 i59 (in_c 1 rfl) rfl; have a4 := in_u ((in_c 1 rfl)); have a5 := in_u i59; have a6 := in_u i13; have a7 := t_add e13 h2 (in_c 1 rfl) rfl; have oc := oc_305_109; omega) e58 (by have a0 := in_u h2; have a1 := in_u i18; have a2 := in_u i70; have a3 := t_add e60 i59 (in_c 1 rfl) rfl; have a4 := in_u ((in_c 1 rfl)); have a5 := in_u i59; have a6 := in_u i13; have a7 := t_add e13 h2 (in_c 1 rfl) rfl; have oc := oc_305_109; omega) (fun hz => by first | (exact absurd (by decide) hz) | (have h := i70; unfold In at h; omega))
      have n78a : YNQ ((Int32.ofInt 1)).toInt (DON s (x1).toInt (x2).toNatClampNeg) := by first | exact ⟨fun _ => don_110 (by have a0 := in_u h2; have a1 := in_u i18; have a2 := in_u i70; have a3 := t_add e60 i59 (in_c 1 rfl) rfl; have a4 := in_u ((in_c 1 rfl)); have a5 := in_u i59; have a6 := in_u i13; have a7 := t_add e13 h2 (in_c 1 rfl) rfl; have oc := oc_305_109; omega) (by rw [show s.1 110 2 = z58 from e58.symm]; have a0 := in_u h2; have a1 := in_u i18; have a2 := in_u i70; have a3 := t_add e60 i59 (in_c 1 rfl) rfl; have a4 := in_u ((in_c 1 rfl)); have a5 := in_u i59; have a6 := in_u i13; have a7 := t_add e13 h2 (in_c 1 rfl) rfl; have oc := oc_305_109; omega), fun h => absurd h (by decide)⟩ | exact ⟨fun h => absurd rfl h, fun _ h => by have h9 := h.1 (by have a0 := in_u h2; have a1 := in_u i18; have a2 := in_u i70; have a3 := t_add e60 i59 (in_c 1 rfl) rfl; have a4 := in_u ((in_c 1 rfl)); have a5 := in_u i59; have a6 := in_u i13; have a7 := t_add e13 h2 (in_c 1 rfl) rfl; have oc := oc_305_109; omega); rw [show s.1 110 2 = z58 from e58.symm] at h9; have a0 := in_u h2; have a1 := in_u i18; have a2 := in_u i70; have a3 := t_add e60 i59 (in_c 1 rfl) rfl; have a4 := in_u ((in_c 1 rfl)); have a5 := in_u i59; have a6 := in_u i13; have a7 := t_add e13 h2 (in_c 1 rfl) rfl; have oc := oc_305_109; omega⟩
      have n78b : G12 s (sI s 110 (Int32.ofInt 2).toNatClampNeg z60) := by exact g12_n
      exact g_ireturn (gd rfl) rfl (nb01 (in_w 0 1 (in_c 1 rfl) rfl)) (hP _ _ ⟨(sI s 110 (Int32.ofInt 2).toNatClampNeg z60), hI61, (fr_sI rfl fr_rf), (Int32.ofInt 1), rfl, rfl, in_w 0 1 (in_c 1 rfl) rfl, n78, n78a, n78b⟩)
  · skip
    have i18 := sw_eq c18
    refine g_iload_n 192 (gd rfl) rfl rfl ?_
    refine g_i2l 193 (gd rfl) rfl (fun z192 e192 => ?_)
    have i192 := l_i e192 (i_rng z5)
    refine g_lconst 0 194 (gd rfl) rfl rfl ?_
    refine g_ldc2_w 159 197 (gd rfl) rfl rfl ?_
    refine g_calls (As := [.long z192, .long (Int64.ofInt 0), .long (Int64.ofInt 159)]) (r := []) 200 (gd rfl) rfl rfl rfl rfl rfl (Nat.le_of_ble_eq_true rfl) (mc := 0) (ms := 0) (Nat.zero_le _) (Nat.zero_le _) (P := fun v u => _) ?_ (fun v u h => h)
    intro po197 xx197 hp197 hx197
    refine g_enter2 (k := 269) (N := 300) (by first | exact dq1 hd rfl | exact dq0 hd rfl | exact dq2 hd rfl | exact dq3 hd rfl | omega) rfl (Nat.le_of_ble_eq_true rfl) ?_
    refine g_lload_n 1 (gd rfl) rfl rfl ?_
    refine g_lload_n 2 (gd rfl) rfl rfl ?_
    refine g_lcmp 3 (gd rfl) rfl (fun z197x2 e197x2 => ?_)
    have i197x2 := lc_in e197x2
    refine g_if_lt 6 17 (gd rfl) rfl rfl (fun c197x3 => ?_) (fun c197x3 => ?_)
    · skip
      have i197x3 := z_lt (-1) (-1) c197x3 i197x2 rfl
      have c197x3a := lc_lt e197x2 c197x3
      have i197x3a := lr_lt1 (-2147483648) (-1) c197x3a i192 (l_c 0 rfl) rfl
      have i197x3b := l_b e192 i197x3a
      refine g_iconst 0 18 (gd rfl) rfl rfl ?_
      refine g_ireturn (gd rfl) rfl (nb01 (in_w 0 1 (in_c 0 rfl) rfl)) (hp197 _ _ ?_)
      show GG _ _ _ _ _ _ _ _ [.int (Int32.ofInt 0)] _ _ _
      refine g_if_eq 203 236 (gd rfl) rfl rfl (fun c200 => ?_) (fun c200 => ?_)
      · skip
        have n236 : s = s := by rfl
        have n236a : ¬ DON s (x1).toInt (x2).toNatClampNeg := by intro h; have h9 := h.2.2.1 (Or.inl (by have a0 := in_u h2; have a1 := in_u i18; have a2 := in_u i197x3b; have a3 := tx_i2l e192; have a4 := in_u i13; have a5 := t_add e13 h2 (in_c 1 rfl) rfl; have a6 := in_u ((in_c 1 rfl)); have oc := oc_305_109; omega)); unfold nq at h9; rw [← e5] at h9; have h8 := h9.1; have a0 := in_u h2; have a1 := in_u i18; have a2 := in_u i197x3b; have a3 := tx_i2l e192; have a4 := in_u i13; have a5 := t_add e13 h2 (in_c 1 rfl) rfl; have a6 := in_u ((in_c 1 rfl)); have oc := oc_305_109; omega
        exact gg_w (by first | exact Nat.le_of_ble_eq_true rfl | omega) (gg_f (gf_cons rfl (gf_cons rfl (gf_cons rfl (gf_cons rfl (gf_cons rfl gf_nil))))) (ct236 s z5 z14 hI fr_rf (in_w 116 116 i18 rfl) n236 n236a))
      · skip
        exact zn_ne c200 (in_c 0 rfl) rfl
    · skip
      have i197x3 := z_ge 0 1 c197x3 i197x2 rfl
      have c197x3a := lc_ge e197x2 c197x3
      have i197x3a := lr_le2 0 2147483647 c197x3a (l_c 0 rfl) i192 rfl
      have i197x3b := l_b e192 i197x3a
      refine g_lload_n 7 (gd rfl) rfl rfl ?_
      refine g_lload 9 (gd rfl) rfl rfl ?_
      refine g_lcmp 10 (gd rfl) rfl (fun z197x9 e197x9 => ?_)
      have i197x9 := lc_in e197x9
      refine g_if_gt 13 17 (gd rfl) rfl rfl (fun c197x10 => ?_) (fun c197x10 => ?_)
      · skip
        have i197x10 := z_gt 1 1 c197x10 i197x9 rfl
        have c197x10a := lc_gt e197x9 c197x10
        have i197x10a := lr_lt2 160 2147483647 c197x10a (l_c 159 rfl) i197x3a rfl
        have i197x10b := l_b e192 i197x10a
        refine g_iconst 0 18 (gd rfl) rfl rfl ?_
        refine g_ireturn (gd rfl) rfl (nb01 (in_w 0 1 (in_c 0 rfl) rfl)) (hp197 _ _ ?_)
        show GG _ _ _ _ _ _ _ _ [.int (Int32.ofInt 0)] _ _ _
        refine g_if_eq 203 236 (gd rfl) rfl rfl (fun c200 => ?_) (fun c200 => ?_)
        · skip
          have n236 : s = s := by rfl
          have n236a : ¬ DON s (x1).toInt (x2).toNatClampNeg := by intro h; have h9 := h.2.2.1 (Or.inl (by have a0 := in_u h2; have a1 := in_u i18; have a2 := in_u i197x10b; have a3 := tx_i2l e192; have a4 := in_u i13; have a5 := t_add e13 h2 (in_c 1 rfl) rfl; have a6 := in_u ((in_c 1 rfl)); have oc := oc_305_109; omega)); unfold nq at h9; rw [← e5] at h9; have h8 := h9.1; have a0 := in_u h2; have a1 := in_u i18; have a2 := in_u i197x10b; have a3 := tx_i2l e192; have a4 := in_u i13; have a5 := t_add e13 h2 (in_c 1 rfl) rfl; have a6 := in_u ((in_c 1 rfl)); have oc := oc_305_109; omega
          exact gg_w (by first | exact Nat.le_of_ble_eq_true rfl | omega) (gg_f (gf_cons rfl (gf_cons rfl (gf_cons rfl (gf_cons rfl (gf_cons rfl gf_nil))))) (ct236 s z5 z14 hI fr_rf (in_w 116 116 i18 rfl) n236 n236a))
        · skip
          exact zn_ne c200 (in_c 0 rfl) rfl
      · skip
        have i197x10 := z_le (-1) 0 c197x10 i197x9 rfl
        have c197x10a := lc_le e197x9 c197x10
        have i197x10a := lr_le1 0 159 c197x10a i197x3a (l_c 159 rfl) rfl
        have i197x10b := l_b e192 i197x10a
        refine g_iconst 1 14 (gd rfl) rfl rfl ?_
        refine g_goto 18 (gd rfl) rfl ?_
        refine g_ireturn (gd rfl) rfl (nb01 (in_w 0 1 (in_c 1 rfl) rfl)) (hp197 _ _ ?_)
        show GG _ _ _ _ _ _ _ _ [.int (Int32.ofInt 1)] _ _ _
        refine g_if_eq 203 236 (gd rfl) rfl rfl (fun c200 => ?_) (fun c200 => ?_)
        · skip
          exact zn_eq c200 (in_c 1 rfl) rfl
        · skip
          refine g_aload_n 204 (gd rfl) rfl rfl ?_
          refine g_getA (q2 := 112) 207 (gd rfl) rfl rfl rfl rfl ?_
          refine g_sipush 320 210 (gd rfl) rfl rfl ?_
          refine g_iload_n 211 (gd rfl) rfl rfl ?_
          refine g_i2l 212 (gd rfl) rfl (fun z211 e211 => ?_)
          have i211 := l_i e211 i197x10b
          refine g_lconst 0 213 (gd rfl) rfl rfl ?_
          refine g_ldc2_w 159 216 (gd rfl) rfl rfl ?_
          refine g_calls (As := [.long z211, .long (Int64.ofInt 0), .long (Int64.ofInt 159)]) (r := [.int (Int32.ofInt 320), .ref (A 112)]) 219 (gd rfl) rfl rfl rfl rfl rfl (Nat.le_of_ble_eq_true rfl) (mc := 0) (ms := 0) (Nat.zero_le _) (Nat.zero_le _) (P := fun v u => _) ?_ (fun v u h => h)
          intro po216 xx216 hp216 hx216
          refine g_enter2 (k := 269) (N := 300) (by first | exact dq1 hd rfl | exact dq0 hd rfl | exact dq2 hd rfl | exact dq3 hd rfl | omega) rfl (Nat.le_of_ble_eq_true rfl) ?_
          refine g_lload_n 1 (gd rfl) rfl rfl ?_
          refine g_lload_n 2 (gd rfl) rfl rfl ?_
          refine g_lcmp 3 (gd rfl) rfl (fun z216x2 e216x2 => ?_)
          have i216x2 := lc_in e216x2
          refine g_if_lt 6 17 (gd rfl) rfl rfl (fun c216x3 => ?_) (fun c216x3 => ?_)
          · skip
            have i216x3 := z_lt (-1) (-1) c216x3 i216x2 rfl
            have c216x3a := lc_lt e216x2 c216x3
            exact ln_lt c216x3a i211 (l_c 0 rfl) rfl
          · skip
            have i216x3 := z_ge 0 1 c216x3 i216x2 rfl
            have c216x3a := lc_ge e216x2 c216x3
            refine g_lload_n 7 (gd rfl) rfl rfl ?_
            refine g_lload 9 (gd rfl) rfl rfl ?_
            refine g_lcmp 10 (gd rfl) rfl (fun z216x9 e216x9 => ?_)
            have i216x9 := lc_in e216x9
            refine g_if_gt 13 17 (gd rfl) rfl rfl (fun c216x10 => ?_) (fun c216x10 => ?_)
            · skip
              have i216x10 := z_gt 1 1 c216x10 i216x9 rfl
              have c216x10a := lc_gt e216x9 c216x10
              exact ln_lt c216x10a (l_c 159 rfl) i211 rfl
            · skip
              have i216x10 := z_le (-1) 0 c216x10 i216x9 rfl
              have c216x10a := lc_le e216x9 c216x10
              refine g_iconst 1 14 (gd rfl) rfl rfl ?_
              refine g_goto 18 (gd rfl) rfl ?_
              refine g_ireturn (gd rfl) rfl (nb01 (in_w 0 1 (in_c 1 rfl) rfl)) (hp216 _ _ ?_)
              show GG _ _ _ _ _ _ _ _ [.int (Int32.ofInt 1), .int (Int32.ofInt 320), .ref (A 112)] _ _ _
              refine g_if_eq 222 226 (gd rfl) rfl rfl (fun c219 => ?_) (fun c219 => ?_)
              · skip
                exact zn_eq c219 (in_c 1 rfl) rfl
              · skip
                refine g_iload_n 223 (gd rfl) rfl rfl ?_
                refine g_goto 227 (gd rfl) rfl ?_
                refine g_iadd 228 (gd rfl) rfl (fun z227 e227 => ?_)
                have i227 := in_add 320 479 e227 (in_c 320 rfl) i197x10b rfl rfl
                refine g_baload 229 (gd rfl) rfl (n := 480) rfl (in_ix i227 rfl) (fun z228 e228 => ?_)
                have i228 := inv_I hI (n := 480) (t := 3) 0 1 rfl (in_ix i227 rfl) rfl e228
                refine g_if_eq 232 236 (gd rfl) rfl rfl (fun c229 => ?_) (fun c229 => ?_)
                · skip
                  have i229 := z_eq 0 0 c229 i228 rfl
                  have n236 : s = s := by rfl
                  have n236a : ¬ DON s (x1).toInt (x2).toNatClampNeg := by intro h; have h9 := h.2.2.1 (Or.inl (by have a0 := in_u h2; have a1 := in_u i18; have a2 := in_u i197x10b; have a3 := in_u i227; have a4 := t_add e227 (in_c 320 rfl) i197x10b rfl; have a5 := in_u ((in_c 320 rfl)); have a6 := tx_i2l e211; have a7 := tx_i2l e192; have a8 := in_u i13; have a9 := t_add e13 h2 (in_c 1 rfl) rfl; have a10 := in_u ((in_c 1 rfl)); have oc := oc_305_109; omega)); unfold nq at h9; rw [← e5] at h9; first | (exfalso; have a0 := in_u h2; have a1 := in_u i18; have a2 := in_u i197x10b; have a3 := in_u i227; have a4 := t_add e227 (in_c 320 rfl) i197x10b rfl; have a5 := in_u ((in_c 320 rfl)); have a6 := tx_i2l e211; have a7 := tx_i2l e192; have a8 := in_u i13; have a9 := t_add e13 h2 (in_c 1 rfl) rfl; have a10 := in_u ((in_c 1 rfl)); have oc := oc_305_109; omega) | (have h8 := h9.2; rw [thg_t e228 (by have a0 := in_u h2; have a1 := in_u i18; have a2 := in_u i197x10b; have a3 := in_u i227; have a4 := t_add e227 (in_c 320 rfl) i197x10b rfl; have a5 := in_u ((in_c 320 rfl)); have a6 := tx_i2l e211; have a7 := tx_i2l e192; have a8 := in_u i13; have a9 := t_add e13 h2 (in_c 1 rfl) rfl; have a10 := in_u ((in_c 1 rfl)); have oc := oc_305_109; omega) (by have a0 := in_u h2; have a1 := in_u i18; have a2 := in_u i197x10b; have a3 := in_u i227; have a4 := t_add e227 (in_c 320 rfl) i197x10b rfl; have a5 := in_u ((in_c 320 rfl)); have a6 := tx_i2l e211; have a7 := tx_i2l e192; have a8 := in_u i13; have a9 := t_add e13 h2 (in_c 1 rfl) rfl; have a10 := in_u ((in_c 1 rfl)); have oc := oc_305_109; omega)] at h8; have h7 := of_decide_eq_true h8; have a0 := in_u h2; have a1 := in_u i18; have a2 := in_u i197x10b; have a3 := in_u i227; have a4 := t_add e227 (in_c 320 rfl) i197x10b rfl; have a5 := in_u ((in_c 320 rfl)); have a6 := tx_i2l e211; have a7 := tx_i2l e192; have a8 := in_u i13; have a9 := t_add e13 h2 (in_c 1 rfl) rfl; have a10 := in_u ((in_c 1 rfl)); have oc := oc_305_109; omega)
                  exact gg_w (by first | exact Nat.le_of_ble_eq_true rfl | omega) (gg_f (gf_cons rfl (gf_cons rfl (gf_cons rfl (gf_cons rfl (gf_cons rfl gf_nil))))) (ct236 s z5 z14 hI fr_rf (in_w 116 116 i18 rfl) n236 n236a))
                · skip
                  have i229 := z_ne 1 1 c229 i228 rfl
                  refine g_iconst 1 233 (gd rfl) rfl rfl ?_
                  refine g_goto 237 (gd rfl) rfl ?_
                  refine g_istore 239 (gd rfl) rfl (Nat.le_of_ble_eq_true rfl) ?_
                  refine g_iload 241 (gd rfl) rfl rfl ?_
                  refine g_if_eq 244 255 (gd rfl) rfl rfl (fun c241 => ?_) (fun c241 => ?_)
                  · skip
                    exact zn_eq c241 (in_c 1 rfl) rfl
                  · skip
                    refine g_aload_n 245 (gd rfl) rfl rfl ?_
                    refine g_getA (q2 := 112) 248 (gd rfl) rfl rfl rfl rfl ?_
                    refine g_sipush 320 251 (gd rfl) rfl rfl ?_
                    refine g_iload_n 252 (gd rfl) rfl rfl ?_
                    refine g_iadd 253 (gd rfl) rfl (fun z252 e252 => ?_)
                    have i252 := in_add 320 479 e252 (in_c 320 rfl) i197x10b rfl rfl
                    refine g_iconst 0 254 (gd rfl) rfl rfl ?_
                    refine g_bastore 255 (gd rfl) rfl (n := 480) rfl (in_ix i252 rfl) ?_
                    have hI254 : Inv (sI s 112 z252.toNatClampNeg (vp_nar .boolean (Int32.ofInt 0))) := by exact inv_t3 hI (by show 320 ≤ (z252).toInt.toNat; have a0 := in_u h2; have a1 := in_u i18; have a2 := in_u ((in_c 1 rfl)); have a3 := in_u i197x10b; have a4 := in_u i252; have a5 := t_add e252 (in_c 320 rfl) i197x10b rfl; have a6 := in_u ((in_c 320 rfl)); have a7 := in_u i227; have a8 := t_add e227 (in_c 320 rfl) i197x10b rfl; have a9 := tx_i2l e211; have a10 := tx_i2l e192; have a11 := in_u i13; have a12 := t_add e13 h2 (in_c 1 rfl) rfl; have oc := oc_305_109; omega) (in_w 0 1 (nar01 (in_w 0 1 (in_c 0 rfl) rfl)) rfl)
                    have n255 : DNE s (sI s 112 z252.toNatClampNeg (vp_nar .boolean (Int32.ofInt 0))) (x1).toInt (x2).toNatClampNeg ((Int32.ofInt 1)).toInt := by exact dne_t (by have a0 := in_u h2; have a1 := in_u i18; have a2 := in_u ((in_c 1 rfl)); have a3 := in_u i197x10b; have a4 := in_u i252; have a5 := t_add e252 (in_c 320 rfl) i197x10b rfl; have a6 := in_u ((in_c 320 rfl)); have a7 := in_u i227; have a8 := t_add e227 (in_c 320 rfl) i197x10b rfl; have a9 := tx_i2l e211; have a10 := tx_i2l e192; have a11 := in_u i13; have a12 := t_add e13 h2 (in_c 1 rfl) rfl; have oc := oc_305_109; omega) (by rw [← e5]; exact i197x10b) (by rw [← e5]; show z252.toInt.toNat = 320 + z5.toInt.toNat; have a0 := in_u h2; have a1 := in_u i18; have a2 := in_u ((in_c 1 rfl)); have a3 := in_u i197x10b; have a4 := in_u i252; have a5 := t_add e252 (in_c 320 rfl) i197x10b rfl; have a6 := in_u ((in_c 320 rfl)); have a7 := in_u i227; have a8 := t_add e227 (in_c 320 rfl) i197x10b rfl; have a9 := tx_i2l e211; have a10 := tx_i2l e192; have a11 := in_u i13; have a12 := t_add e13 h2 (in_c 1 rfl) rfl; have oc := oc_305_109; omega)
                    have n255a : YNQ ((Int32.ofInt 1)).toInt (DON s (x1).toInt (x2).toNatClampNeg) := by exact ⟨fun _ => don_116 (by have a0 := in_u h2; have a1 := in_u i18; have a2 := in_u ((in_c 1 rfl)); have a3 := in_u i197x10b; have a4 := in_u i252; have a5 := t_add e252 (in_c 320 rfl) i197x10b rfl; have a6 := in_u ((in_c 320 rfl)); have a7 := in_u i227; have a8 := t_add e227 (in_c 320 rfl) i197x10b rfl; have a9 := tx_i2l e211; have a10 := tx_i2l e192; have a11 := in_u i13; have a12 := t_add e13 h2 (in_c 1 rfl) rfl; have oc := oc_305_109; omega) ⟨(by unfold nq; rw [← e5]; have a0 := in_u h2; have a1 := in_u i18; have a2 := in_u ((in_c 1 rfl)); have a3 := in_u i197x10b; have a4 := in_u i252; have a5 := t_add e252 (in_c 320 rfl) i197x10b rfl; have a6 := in_u ((in_c 320 rfl)); have a7 := in_u i227; have a8 := t_add e227 (in_c 320 rfl) i197x10b rfl; have a9 := tx_i2l e211; have a10 := tx_i2l e192; have a11 := in_u i13; have a12 := t_add e13 h2 (in_c 1 rfl) rfl; have oc := oc_305_109; omega), (by rw [← e5, thg_t e228 (by have a0 := in_u h2; have a1 := in_u i18; have a2 := in_u ((in_c 1 rfl)); have a3 := in_u i197x10b; have a4 := in_u i252; have a5 := t_add e252 (in_c 320 rfl) i197x10b rfl; have a6 := in_u ((in_c 320 rfl)); have a7 := in_u i227; have a8 := t_add e227 (in_c 320 rfl) i197x10b rfl; have a9 := tx_i2l e211; have a10 := tx_i2l e192; have a11 := in_u i13; have a12 := t_add e13 h2 (in_c 1 rfl) rfl; have oc := oc_305_109; omega) (by have a0 := in_u h2; have a1 := in_u i18; have a2 := in_u ((in_c 1 rfl)); have a3 := in_u i197x10b; have a4 := in_u i252; have a5 := t_add e252 (in_c 320 rfl) i197x10b rfl; have a6 := in_u ((in_c 320 rfl)); have a7 := in_u i227; have a8 := t_add e227 (in_c 320 rfl) i197x10b rfl; have a9 := tx_i2l e211; have a10 := tx_i2l e192; have a11 := in_u i13; have a12 := t_add e13 h2 (in_c 1 rfl) rfl; have oc := oc_305_109; omega)]; exact decide_eq_true (by have a0 := in_u h2; have a1 := in_u i18; have a2 := in_u ((in_c 1 rfl)); have a3 := in_u i197x10b; have a4 := in_u i252; have a5 := t_add e252 (in_c 320 rfl) i197x10b rfl; have a6 := in_u ((in_c 320 rfl)); have a7 := in_u i227; have a8 := t_add e227 (in_c 320 rfl) i197x10b rfl; have a9 := tx_i2l e211; have a10 := tx_i2l e192; have a11 := in_u i13; have a12 := t_add e13 h2 (in_c 1 rfl) rfl; have oc := oc_305_109; omega))⟩, fun h => absurd h (by decide)⟩
                    have n255b : G12 s (sI s 112 z252.toNatClampNeg (vp_nar .boolean (Int32.ofInt 0))) := by exact g12_t (by show 320 ≤ z252.toInt.toNat; have a0 := in_u h2; have a1 := in_u i18; have a2 := in_u ((in_c 1 rfl)); have a3 := in_u i197x10b; have a4 := in_u i252; have a5 := t_add e252 (in_c 320 rfl) i197x10b rfl; have a6 := in_u ((in_c 320 rfl)); have a7 := in_u i227; have a8 := t_add e227 (in_c 320 rfl) i197x10b rfl; have a9 := tx_i2l e211; have a10 := tx_i2l e192; have a11 := in_u i13; have a12 := t_add e13 h2 (in_c 1 rfl) rfl; have oc := oc_305_109; omega)
                    exact gg_w (by first | exact Nat.le_of_ble_eq_true rfl | omega) (gg_f (gf_cons rfl (gf_cons rfl (gf_cons rfl (gf_cons rfl (gf_cons rfl (gf_cons rfl gf_nil)))))) (ct255 (sI s 112 z252.toNatClampNeg (vp_nar .boolean (Int32.ofInt 0))) z5 z14 (Int32.ofInt 1) hI254 (fr_sI rfl fr_rf) (in_w 116 116 i18 rfl) (in_w 0 1 (in_c 1 rfl) rfl) n255 n255a n255b))
  · skip
    refine g_iload_n 259 (gd rfl) rfl rfl ?_
    refine g_i2l 260 (gd rfl) rfl (fun z259 e259 => ?_)
    have i259 := l_i e259 (i_rng z5)
    refine g_lconst 0 261 (gd rfl) rfl rfl ?_
    refine g_ldc2_w 159 264 (gd rfl) rfl rfl ?_
    refine g_calls (As := [.long z259, .long (Int64.ofInt 0), .long (Int64.ofInt 159)]) (r := []) 267 (gd rfl) rfl rfl rfl rfl rfl (Nat.le_of_ble_eq_true rfl) (mc := 0) (ms := 0) (Nat.zero_le _) (Nat.zero_le _) (P := fun v u => _) ?_ (fun v u h => h)
    intro po264 xx264 hp264 hx264
    refine g_enter2 (k := 269) (N := 300) (by first | exact dq1 hd rfl | exact dq0 hd rfl | exact dq2 hd rfl | exact dq3 hd rfl | omega) rfl (Nat.le_of_ble_eq_true rfl) ?_
    refine g_lload_n 1 (gd rfl) rfl rfl ?_
    refine g_lload_n 2 (gd rfl) rfl rfl ?_
    refine g_lcmp 3 (gd rfl) rfl (fun z264x2 e264x2 => ?_)
    have i264x2 := lc_in e264x2
    refine g_if_lt 6 17 (gd rfl) rfl rfl (fun c264x3 => ?_) (fun c264x3 => ?_)
    · skip
      have i264x3 := z_lt (-1) (-1) c264x3 i264x2 rfl
      have c264x3a := lc_lt e264x2 c264x3
      have i264x3a := lr_lt1 (-2147483648) (-1) c264x3a i259 (l_c 0 rfl) rfl
      have i264x3b := l_b e259 i264x3a
      refine g_iconst 0 18 (gd rfl) rfl rfl ?_
      refine g_ireturn (gd rfl) rfl (nb01 (in_w 0 1 (in_c 0 rfl) rfl)) (hp264 _ _ ?_)
      show GG _ _ _ _ _ _ _ _ [.int (Int32.ofInt 0)] _ _ _
      refine g_if_eq 270 311 (gd rfl) rfl rfl (fun c267 => ?_) (fun c267 => ?_)
      · skip
        have n311 : s = s := by rfl
        have n311a : ¬ DON s (x1).toInt (x2).toNatClampNeg := by intro h; have h9 := h.2.2.1 (Or.inr (by rcases q_1 with e | e | e | e; (have a0 := in_u h2; have a1 := in_u h1; have a2 := in_u i264x3b; have a3 := tx_i2l e259; have a4 := in_u i13; have a5 := t_add e13 h2 (in_c 1 rfl) rfl; have a6 := in_u ((in_c 1 rfl)); have oc := oc_305_109; omega); (have a0 := in_u h2; have a1 := in_u h1; have a2 := in_u i264x3b; have a3 := tx_i2l e259; have a4 := in_u i13; have a5 := t_add e13 h2 (in_c 1 rfl) rfl; have a6 := in_u ((in_c 1 rfl)); have oc := oc_305_109; omega); (have a0 := in_u h2; have a1 := in_u h1; have a2 := in_u i264x3b; have a3 := tx_i2l e259; have a4 := in_u i13; have a5 := t_add e13 h2 (in_c 1 rfl) rfl; have a6 := in_u ((in_c 1 rfl)); have oc := oc_305_109; omega); (exact e))); unfold nq at h9; rw [← e5] at h9; have h8 := h9.1; have a0 := in_u h2; have a1 := in_u h1; have a2 := in_u i264x3b; have a3 := tx_i2l e259; have a4 := in_u i13; have a5 := t_add e13 h2 (in_c 1 rfl) rfl; have a6 := in_u ((in_c 1 rfl)); have oc := oc_305_109; omega
        exact gg_w (by first | exact Nat.le_of_ble_eq_true rfl | omega) (gg_f (gf_cons rfl (gf_cons rfl (gf_cons rfl (gf_cons rfl (gf_cons rfl gf_nil))))) (ct311 s z5 z14 hI fr_rf n311 n311a))
      · skip
        exact zn_ne c267 (in_c 0 rfl) rfl
    · skip
      have i264x3 := z_ge 0 1 c264x3 i264x2 rfl
      have c264x3a := lc_ge e264x2 c264x3
      have i264x3a := lr_le2 0 2147483647 c264x3a (l_c 0 rfl) i259 rfl
      have i264x3b := l_b e259 i264x3a
      refine g_lload_n 7 (gd rfl) rfl rfl ?_
      refine g_lload 9 (gd rfl) rfl rfl ?_
      refine g_lcmp 10 (gd rfl) rfl (fun z264x9 e264x9 => ?_)
      have i264x9 := lc_in e264x9
      refine g_if_gt 13 17 (gd rfl) rfl rfl (fun c264x10 => ?_) (fun c264x10 => ?_)
      · skip
        have i264x10 := z_gt 1 1 c264x10 i264x9 rfl
        have c264x10a := lc_gt e264x9 c264x10
        have i264x10a := lr_lt2 160 2147483647 c264x10a (l_c 159 rfl) i264x3a rfl
        have i264x10b := l_b e259 i264x10a
        refine g_iconst 0 18 (gd rfl) rfl rfl ?_
        refine g_ireturn (gd rfl) rfl (nb01 (in_w 0 1 (in_c 0 rfl) rfl)) (hp264 _ _ ?_)
        show GG _ _ _ _ _ _ _ _ [.int (Int32.ofInt 0)] _ _ _
        refine g_if_eq 270 311 (gd rfl) rfl rfl (fun c267 => ?_) (fun c267 => ?_)
        · skip
          have n311 : s = s := by rfl
          have n311a : ¬ DON s (x1).toInt (x2).toNatClampNeg := by intro h; have h9 := h.2.2.1 (Or.inr (by rcases q_1 with e | e | e | e; (have a0 := in_u h2; have a1 := in_u h1; have a2 := in_u i264x10b; have a3 := tx_i2l e259; have a4 := in_u i13; have a5 := t_add e13 h2 (in_c 1 rfl) rfl; have a6 := in_u ((in_c 1 rfl)); have oc := oc_305_109; omega); (have a0 := in_u h2; have a1 := in_u h1; have a2 := in_u i264x10b; have a3 := tx_i2l e259; have a4 := in_u i13; have a5 := t_add e13 h2 (in_c 1 rfl) rfl; have a6 := in_u ((in_c 1 rfl)); have oc := oc_305_109; omega); (have a0 := in_u h2; have a1 := in_u h1; have a2 := in_u i264x10b; have a3 := tx_i2l e259; have a4 := in_u i13; have a5 := t_add e13 h2 (in_c 1 rfl) rfl; have a6 := in_u ((in_c 1 rfl)); have oc := oc_305_109; omega); (exact e))); unfold nq at h9; rw [← e5] at h9; have h8 := h9.1; have a0 := in_u h2; have a1 := in_u h1; have a2 := in_u i264x10b; have a3 := tx_i2l e259; have a4 := in_u i13; have a5 := t_add e13 h2 (in_c 1 rfl) rfl; have a6 := in_u ((in_c 1 rfl)); have oc := oc_305_109; omega
          exact gg_w (by first | exact Nat.le_of_ble_eq_true rfl | omega) (gg_f (gf_cons rfl (gf_cons rfl (gf_cons rfl (gf_cons rfl (gf_cons rfl gf_nil))))) (ct311 s z5 z14 hI fr_rf n311 n311a))
        · skip
          exact zn_ne c267 (in_c 0 rfl) rfl
      · skip
        have i264x10 := z_le (-1) 0 c264x10 i264x9 rfl
        have c264x10a := lc_le e264x9 c264x10
        have i264x10a := lr_le1 0 159 c264x10a i264x3a (l_c 159 rfl) rfl
        have i264x10b := l_b e259 i264x10a
        refine g_iconst 1 14 (gd rfl) rfl rfl ?_
        refine g_goto 18 (gd rfl) rfl ?_
        refine g_ireturn (gd rfl) rfl (nb01 (in_w 0 1 (in_c 1 rfl) rfl)) (hp264 _ _ ?_)
        show GG _ _ _ _ _ _ _ _ [.int (Int32.ofInt 1)] _ _ _
        refine g_if_eq 270 311 (gd rfl) rfl rfl (fun c267 => ?_) (fun c267 => ?_)
        · skip
          exact zn_eq c267 (in_c 1 rfl) rfl
        · skip
          refine g_aload_n 271 (gd rfl) rfl rfl ?_
          refine g_getA (q2 := 112) 274 (gd rfl) rfl rfl rfl rfl ?_
          refine g_sipush 320 277 (gd rfl) rfl rfl ?_
          refine g_iload_n 278 (gd rfl) rfl rfl ?_
          refine g_i2l 279 (gd rfl) rfl (fun z278 e278 => ?_)
          have i278 := l_i e278 i264x10b
          refine g_lconst 0 280 (gd rfl) rfl rfl ?_
          refine g_ldc2_w 159 283 (gd rfl) rfl rfl ?_
          refine g_calls (As := [.long z278, .long (Int64.ofInt 0), .long (Int64.ofInt 159)]) (r := [.int (Int32.ofInt 320), .ref (A 112)]) 286 (gd rfl) rfl rfl rfl rfl rfl (Nat.le_of_ble_eq_true rfl) (mc := 0) (ms := 0) (Nat.zero_le _) (Nat.zero_le _) (P := fun v u => _) ?_ (fun v u h => h)
          intro po283 xx283 hp283 hx283
          refine g_enter2 (k := 269) (N := 300) (by first | exact dq1 hd rfl | exact dq0 hd rfl | exact dq2 hd rfl | exact dq3 hd rfl | omega) rfl (Nat.le_of_ble_eq_true rfl) ?_
          refine g_lload_n 1 (gd rfl) rfl rfl ?_
          refine g_lload_n 2 (gd rfl) rfl rfl ?_
          refine g_lcmp 3 (gd rfl) rfl (fun z283x2 e283x2 => ?_)
          have i283x2 := lc_in e283x2
          refine g_if_lt 6 17 (gd rfl) rfl rfl (fun c283x3 => ?_) (fun c283x3 => ?_)
          · skip
            have i283x3 := z_lt (-1) (-1) c283x3 i283x2 rfl
            have c283x3a := lc_lt e283x2 c283x3
            exact ln_lt c283x3a i278 (l_c 0 rfl) rfl
          · skip
            have i283x3 := z_ge 0 1 c283x3 i283x2 rfl
            have c283x3a := lc_ge e283x2 c283x3
            refine g_lload_n 7 (gd rfl) rfl rfl ?_
            refine g_lload 9 (gd rfl) rfl rfl ?_
            refine g_lcmp 10 (gd rfl) rfl (fun z283x9 e283x9 => ?_)
            have i283x9 := lc_in e283x9
            refine g_if_gt 13 17 (gd rfl) rfl rfl (fun c283x10 => ?_) (fun c283x10 => ?_)
            · skip
              have i283x10 := z_gt 1 1 c283x10 i283x9 rfl
              have c283x10a := lc_gt e283x9 c283x10
              exact ln_lt c283x10a (l_c 159 rfl) i278 rfl
            · skip
              have i283x10 := z_le (-1) 0 c283x10 i283x9 rfl
              have c283x10a := lc_le e283x9 c283x10
              refine g_iconst 1 14 (gd rfl) rfl rfl ?_
              refine g_goto 18 (gd rfl) rfl ?_
              refine g_ireturn (gd rfl) rfl (nb01 (in_w 0 1 (in_c 1 rfl) rfl)) (hp283 _ _ ?_)
              show GG _ _ _ _ _ _ _ _ [.int (Int32.ofInt 1), .int (Int32.ofInt 320), .ref (A 112)] _ _ _
              refine g_if_eq 289 293 (gd rfl) rfl rfl (fun c286 => ?_) (fun c286 => ?_)
              · skip
                exact zn_eq c286 (in_c 1 rfl) rfl
              · skip
                refine g_iload_n 290 (gd rfl) rfl rfl ?_
                refine g_goto 294 (gd rfl) rfl ?_
                refine g_iadd 295 (gd rfl) rfl (fun z294 e294 => ?_)
                have i294 := in_add 320 479 e294 (in_c 320 rfl) i264x10b rfl rfl
                refine g_baload 296 (gd rfl) rfl (n := 480) rfl (in_ix i294 rfl) (fun z295 e295 => ?_)
                have i295 := inv_I hI (n := 480) (t := 3) 0 1 rfl (in_ix i294 rfl) rfl e295
                refine g_if_eq 299 311 (gd rfl) rfl rfl (fun c296 => ?_) (fun c296 => ?_)
                · skip
                  have i296 := z_eq 0 0 c296 i295 rfl
                  have n311 : s = s := by rfl
                  have n311a : ¬ DON s (x1).toInt (x2).toNatClampNeg := by intro h; have h9 := h.2.2.1 (Or.inr (by rcases q_1 with e | e | e | e; (have a0 := in_u h2; have a1 := in_u h1; have a2 := in_u i264x10b; have a3 := in_u i294; have a4 := t_add e294 (in_c 320 rfl) i264x10b rfl; have a5 := in_u ((in_c 320 rfl)); have a6 := tx_i2l e278; have a7 := tx_i2l e259; have a8 := in_u i13; have a9 := t_add e13 h2 (in_c 1 rfl) rfl; have a10 := in_u ((in_c 1 rfl)); have oc := oc_305_109; omega); (have a0 := in_u h2; have a1 := in_u h1; have a2 := in_u i264x10b; have a3 := in_u i294; have a4 := t_add e294 (in_c 320 rfl) i264x10b rfl; have a5 := in_u ((in_c 320 rfl)); have a6 := tx_i2l e278; have a7 := tx_i2l e259; have a8 := in_u i13; have a9 := t_add e13 h2 (in_c 1 rfl) rfl; have a10 := in_u ((in_c 1 rfl)); have oc := oc_305_109; omega); (have a0 := in_u h2; have a1 := in_u h1; have a2 := in_u i264x10b; have a3 := in_u i294; have a4 := t_add e294 (in_c 320 rfl) i264x10b rfl; have a5 := in_u ((in_c 320 rfl)); have a6 := tx_i2l e278; have a7 := tx_i2l e259; have a8 := in_u i13; have a9 := t_add e13 h2 (in_c 1 rfl) rfl; have a10 := in_u ((in_c 1 rfl)); have oc := oc_305_109; omega); (exact e))); unfold nq at h9; rw [← e5] at h9; first | (exfalso; have a0 := in_u h2; have a1 := in_u h1; have a2 := in_u i264x10b; have a3 := in_u i294; have a4 := t_add e294 (in_c 320 rfl) i264x10b rfl; have a5 := in_u ((in_c 320 rfl)); have a6 := tx_i2l e278; have a7 := tx_i2l e259; have a8 := in_u i13; have a9 := t_add e13 h2 (in_c 1 rfl) rfl; have a10 := in_u ((in_c 1 rfl)); have oc := oc_305_109; omega) | (have h8 := h9.2; rw [thg_t e295 (by have a0 := in_u h2; have a1 := in_u h1; have a2 := in_u i264x10b; have a3 := in_u i294; have a4 := t_add e294 (in_c 320 rfl) i264x10b rfl; have a5 := in_u ((in_c 320 rfl)); have a6 := tx_i2l e278; have a7 := tx_i2l e259; have a8 := in_u i13; have a9 := t_add e13 h2 (in_c 1 rfl) rfl; have a10 := in_u ((in_c 1 rfl)); have oc := oc_305_109; omega) (by have a0 := in_u h2; have a1 := in_u h1; have a2 := in_u i264x10b; have a3 := in_u i294; have a4 := t_add e294 (in_c 320 rfl) i264x10b rfl; have a5 := in_u ((in_c 320 rfl)); have a6 := tx_i2l e278; have a7 := tx_i2l e259; have a8 := in_u i13; have a9 := t_add e13 h2 (in_c 1 rfl) rfl; have a10 := in_u ((in_c 1 rfl)); have oc := oc_305_109; omega)] at h8; have h7 := of_decide_eq_true h8; have a0 := in_u h2; have a1 := in_u h1; have a2 := in_u i264x10b; have a3 := in_u i294; have a4 := t_add e294 (in_c 320 rfl) i264x10b rfl; have a5 := in_u ((in_c 320 rfl)); have a6 := tx_i2l e278; have a7 := tx_i2l e259; have a8 := in_u i13; have a9 := t_add e13 h2 (in_c 1 rfl) rfl; have a10 := in_u ((in_c 1 rfl)); have oc := oc_305_109; omega)
                  exact gg_w (by first | exact Nat.le_of_ble_eq_true rfl | omega) (gg_f (gf_cons rfl (gf_cons rfl (gf_cons rfl (gf_cons rfl (gf_cons rfl gf_nil))))) (ct311 s z5 z14 hI fr_rf n311 n311a))
                · skip
                  have i296 := z_ne 1 1 c296 i295 rfl
                  refine g_iload 301 (gd rfl) rfl rfl ?_
                  refine g_calls (As := [.int z14]) (r := []) 304 (gd rfl) rfl rfl rfl rfl rfl (Nat.le_of_ble_eq_true rfl) (mc := 0) (ms := 0) (Nat.zero_le _) (Nat.zero_le _) (P := fun v u => _) ?_ (fun v u h => h)
                  intro po301 xx301 hp301 hx301
                  refine g_enter2 (k := 279) (N := 300) (by first | exact dq1 hd rfl | exact dq0 hd rfl | exact dq2 hd rfl | exact dq3 hd rfl | omega) rfl (Nat.le_of_ble_eq_true rfl) ?_
                  refine g_iload_n 1 (gd rfl) rfl rfl ?_
                  refine g_i2l 2 (gd rfl) rfl (fun z301x1 e301x1 => ?_)
                  have i301x1 := l_i e301x1 (i_rng z14)
                  refine g_ldc2_w (-1000000) 5 (gd rfl) rfl rfl ?_
                  refine g_ldc2_w 1000000 8 (gd rfl) rfl rfl ?_
                  refine g_calls (As := [.long z301x1, .long (Int64.ofInt (-1000000)), .long (Int64.ofInt 1000000)]) (r := []) 11 (gd rfl) rfl rfl rfl rfl rfl (Nat.le_of_ble_eq_true rfl) (mc := 0) (ms := 0) (Nat.zero_le _) (Nat.zero_le _) (P := fun v u => _) ?_ (fun v u h => h)
                  intro po301x8 xx301x8 hp301x8 hx301x8
                  refine g_enter2 (k := 269) (N := 300) (by first | exact dq1 hd rfl | exact dq0 hd rfl | exact dq2 hd rfl | exact dq3 hd rfl | omega) rfl (Nat.le_of_ble_eq_true rfl) ?_
                  refine g_lload_n 1 (gd rfl) rfl rfl ?_
                  refine g_lload_n 2 (gd rfl) rfl rfl ?_
                  refine g_lcmp 3 (gd rfl) rfl (fun z301x8x2 e301x8x2 => ?_)
                  have i301x8x2 := lc_in e301x8x2
                  refine g_if_lt 6 17 (gd rfl) rfl rfl (fun c301x8x3 => ?_) (fun c301x8x3 => ?_)
                  · skip
                    have i301x8x3 := z_lt (-1) (-1) c301x8x3 i301x8x2 rfl
                    have c301x8x3a := lc_lt e301x8x2 c301x8x3
                    have i301x8x3a := lr_lt1 (-2147483648) (-1000001) c301x8x3a i301x1 (l_c (-1000000) rfl) rfl
                    have i301x8x3b := l_b e301x1 i301x8x3a
                    refine g_iconst 0 18 (gd rfl) rfl rfl ?_
                    refine g_ireturn (gd rfl) rfl (nb01 (in_w 0 1 (in_c 0 rfl) rfl)) (hp301x8 _ _ ?_)
                    show GG _ _ _ _ _ _ _ _ [.int (Int32.ofInt 0)] _ _ _
                    refine g_ireturn (gd rfl) rfl (nb01 (in_w 0 1 (in_c 0 rfl) rfl)) (hp301 _ _ ?_)
                    show GG _ _ _ _ _ _ _ _ [.int (Int32.ofInt 0)] _ _ _
                    refine g_if_eq 307 311 (gd rfl) rfl rfl (fun c304 => ?_) (fun c304 => ?_)
                    · skip
                      have n311 : s = s := by rfl
                      have n311a : ¬ DON s (x1).toInt (x2).toNatClampNeg := by first | (intro h; have h9 := h.2.2.2 (by rcases q_1 with e | e | e | e; (have a0 := in_u h2; have a1 := in_u h1; have a2 := in_u i301x8x3b; have a3 := in_u i264x10b; have a4 := tx_i2l e301x1; have a5 := in_u i294; have a6 := t_add e294 (in_c 320 rfl) i264x10b rfl; have a7 := in_u ((in_c 320 rfl)); have a8 := tx_i2l e278; have a9 := tx_i2l e259; have a10 := in_u i13; have a11 := t_add e13 h2 (in_c 1 rfl) rfl; have a12 := in_u ((in_c 1 rfl)); have oc := oc_305_109; omega); (have a0 := in_u h2; have a1 := in_u h1; have a2 := in_u i301x8x3b; have a3 := in_u i264x10b; have a4 := tx_i2l e301x1; have a5 := in_u i294; have a6 := t_add e294 (in_c 320 rfl) i264x10b rfl; have a7 := in_u ((in_c 320 rfl)); have a8 := tx_i2l e278; have a9 := tx_i2l e259; have a10 := in_u i13; have a11 := t_add e13 h2 (in_c 1 rfl) rfl; have a12 := in_u ((in_c 1 rfl)); have oc := oc_305_109; omega); (have a0 := in_u h2; have a1 := in_u h1; have a2 := in_u i301x8x3b; have a3 := in_u i264x10b; have a4 := tx_i2l e301x1; have a5 := in_u i294; have a6 := t_add e294 (in_c 320 rfl) i264x10b rfl; have a7 := in_u ((in_c 320 rfl)); have a8 := tx_i2l e278; have a9 := tx_i2l e259; have a10 := in_u i13; have a11 := t_add e13 h2 (in_c 1 rfl) rfl; have a12 := in_u ((in_c 1 rfl)); have oc := oc_305_109; omega); (exact e)); unfold nq at h9; rw [show s.1 128 (x2.toNatClampNeg + 1) = z14 from (by rw [show x2.toNatClampNeg + 1 = z13.toNatClampNeg from (by show x2.toInt.toNat + 1 = z13.toInt.toNat; have a0 := in_u h2; have a1 := in_u h1; have a2 := in_u i301x8x3b; have a3 := in_u i264x10b; have a4 := tx_i2l e301x1; have a5 := in_u i294; have a6 := t_add e294 (in_c 320 rfl) i264x10b rfl; have a7 := in_u ((in_c 320 rfl)); have a8 := tx_i2l e278; have a9 := tx_i2l e259; have a10 := in_u i13; have a11 := t_add e13 h2 (in_c 1 rfl) rfl; have a12 := in_u ((in_c 1 rfl)); have oc := oc_305_109; omega)]; exact e14.symm)] at h9; have a0 := in_u h2; have a1 := in_u h1; have a2 := in_u i301x8x3b; have a3 := in_u i264x10b; have a4 := tx_i2l e301x1; have a5 := in_u i294; have a6 := t_add e294 (in_c 320 rfl) i264x10b rfl; have a7 := in_u ((in_c 320 rfl)); have a8 := tx_i2l e278; have a9 := tx_i2l e259; have a10 := in_u i13; have a11 := t_add e13 h2 (in_c 1 rfl) rfl; have a12 := in_u ((in_c 1 rfl)); have oc := oc_305_109; omega) | (exfalso; have a0 := in_u h2; have a1 := in_u h1; have a2 := in_u i301x8x3b; have a3 := in_u i264x10b; have a4 := tx_i2l e301x1; have a5 := in_u i294; have a6 := t_add e294 (in_c 320 rfl) i264x10b rfl; have a7 := in_u ((in_c 320 rfl)); have a8 := tx_i2l e278; have a9 := tx_i2l e259; have a10 := in_u i13; have a11 := t_add e13 h2 (in_c 1 rfl) rfl; have a12 := in_u ((in_c 1 rfl)); have oc := oc_305_109; omega)
                      exact gg_w (by first | exact Nat.le_of_ble_eq_true rfl | omega) (gg_f (gf_cons rfl (gf_cons rfl (gf_cons rfl (gf_cons rfl (gf_cons rfl gf_nil))))) (ct311 s z5 z14 hI fr_rf n311 n311a))
                    · skip
                      exact zn_ne c304 (in_c 0 rfl) rfl
                  · skip
                    have i301x8x3 := z_ge 0 1 c301x8x3 i301x8x2 rfl
                    have c301x8x3a := lc_ge e301x8x2 c301x8x3
                    have i301x8x3a := lr_le2 (-1000000) 2147483647 c301x8x3a (l_c (-1000000) rfl) i301x1 rfl
                    have i301x8x3b := l_b e301x1 i301x8x3a
                    refine g_lload_n 7 (gd rfl) rfl rfl ?_
                    refine g_lload 9 (gd rfl) rfl rfl ?_
                    refine g_lcmp 10 (gd rfl) rfl (fun z301x8x9 e301x8x9 => ?_)
                    have i301x8x9 := lc_in e301x8x9
                    refine g_if_gt 13 17 (gd rfl) rfl rfl (fun c301x8x10 => ?_) (fun c301x8x10 => ?_)
                    · skip
                      have i301x8x10 := z_gt 1 1 c301x8x10 i301x8x9 rfl
                      have c301x8x10a := lc_gt e301x8x9 c301x8x10
                      have i301x8x10a := lr_lt2 1000001 2147483647 c301x8x10a (l_c 1000000 rfl) i301x8x3a rfl
                      have i301x8x10b := l_b e301x1 i301x8x10a
                      refine g_iconst 0 18 (gd rfl) rfl rfl ?_
                      refine g_ireturn (gd rfl) rfl (nb01 (in_w 0 1 (in_c 0 rfl) rfl)) (hp301x8 _ _ ?_)
                      show GG _ _ _ _ _ _ _ _ [.int (Int32.ofInt 0)] _ _ _
                      refine g_ireturn (gd rfl) rfl (nb01 (in_w 0 1 (in_c 0 rfl) rfl)) (hp301 _ _ ?_)
                      show GG _ _ _ _ _ _ _ _ [.int (Int32.ofInt 0)] _ _ _
                      refine g_if_eq 307 311 (gd rfl) rfl rfl (fun c304 => ?_) (fun c304 => ?_)
                      · skip
                        have n311 : s = s := by rfl
                        have n311a : ¬ DON s (x1).toInt (x2).toNatClampNeg := by first | (intro h; have h9 := h.2.2.2 (by rcases q_1 with e | e | e | e; (have a0 := in_u h2; have a1 := in_u h1; have a2 := in_u i301x8x10b; have a3 := in_u i264x10b; have a4 := tx_i2l e301x1; have a5 := in_u i294; have a6 := t_add e294 (in_c 320 rfl) i264x10b rfl; have a7 := in_u ((in_c 320 rfl)); have a8 := tx_i2l e278; have a9 := tx_i2l e259; have a10 := in_u i13; have a11 := t_add e13 h2 (in_c 1 rfl) rfl; have a12 := in_u ((in_c 1 rfl)); have oc := oc_305_109; omega); (have a0 := in_u h2; have a1 := in_u h1; have a2 := in_u i301x8x10b; have a3 := in_u i264x10b; have a4 := tx_i2l e301x1; have a5 := in_u i294; have a6 := t_add e294 (in_c 320 rfl) i264x10b rfl; have a7 := in_u ((in_c 320 rfl)); have a8 := tx_i2l e278; have a9 := tx_i2l e259; have a10 := in_u i13; have a11 := t_add e13 h2 (in_c 1 rfl) rfl; have a12 := in_u ((in_c 1 rfl)); have oc := oc_305_109; omega); (have a0 := in_u h2; have a1 := in_u h1; have a2 := in_u i301x8x10b; have a3 := in_u i264x10b; have a4 := tx_i2l e301x1; have a5 := in_u i294; have a6 := t_add e294 (in_c 320 rfl) i264x10b rfl; have a7 := in_u ((in_c 320 rfl)); have a8 := tx_i2l e278; have a9 := tx_i2l e259; have a10 := in_u i13; have a11 := t_add e13 h2 (in_c 1 rfl) rfl; have a12 := in_u ((in_c 1 rfl)); have oc := oc_305_109; omega); (exact e)); unfold nq at h9; rw [show s.1 128 (x2.toNatClampNeg + 1) = z14 from (by rw [show x2.toNatClampNeg + 1 = z13.toNatClampNeg from (by show x2.toInt.toNat + 1 = z13.toInt.toNat; have a0 := in_u h2; have a1 := in_u h1; have a2 := in_u i301x8x10b; have a3 := in_u i264x10b; have a4 := tx_i2l e301x1; have a5 := in_u i294; have a6 := t_add e294 (in_c 320 rfl) i264x10b rfl; have a7 := in_u ((in_c 320 rfl)); have a8 := tx_i2l e278; have a9 := tx_i2l e259; have a10 := in_u i13; have a11 := t_add e13 h2 (in_c 1 rfl) rfl; have a12 := in_u ((in_c 1 rfl)); have oc := oc_305_109; omega)]; exact e14.symm)] at h9; have a0 := in_u h2; have a1 := in_u h1; have a2 := in_u i301x8x10b; have a3 := in_u i264x10b; have a4 := tx_i2l e301x1; have a5 := in_u i294; have a6 := t_add e294 (in_c 320 rfl) i264x10b rfl; have a7 := in_u ((in_c 320 rfl)); have a8 := tx_i2l e278; have a9 := tx_i2l e259; have a10 := in_u i13; have a11 := t_add e13 h2 (in_c 1 rfl) rfl; have a12 := in_u ((in_c 1 rfl)); have oc := oc_305_109; omega) | (exfalso; have a0 := in_u h2; have a1 := in_u h1; have a2 := in_u i301x8x10b; have a3 := in_u i264x10b; have a4 := tx_i2l e301x1; have a5 := in_u i294; have a6 := t_add e294 (in_c 320 rfl) i264x10b rfl; have a7 := in_u ((in_c 320 rfl)); have a8 := tx_i2l e278; have a9 := tx_i2l e259; have a10 := in_u i13; have a11 := t_add e13 h2 (in_c 1 rfl) rfl; have a12 := in_u ((in_c 1 rfl)); have oc := oc_305_109; omega)
                        exact gg_w (by first | exact Nat.le_of_ble_eq_true rfl | omega) (gg_f (gf_cons rfl (gf_cons rfl (gf_cons rfl (gf_cons rfl (gf_cons rfl gf_nil))))) (ct311 s z5 z14 hI fr_rf n311 n311a))
                      · skip
                        exact zn_ne c304 (in_c 0 rfl) rfl
                    · skip
                      have i301x8x10 := z_le (-1) 0 c301x8x10 i301x8x9 rfl
                      have c301x8x10a := lc_le e301x8x9 c301x8x10
                      have i301x8x10a := lr_le1 (-1000000) 1000000 c301x8x10a i301x8x3a (l_c 1000000 rfl) rfl
                      have i301x8x10b := l_b e301x1 i301x8x10a
                      refine g_iconst 1 14 (gd rfl) rfl rfl ?_
                      refine g_goto 18 (gd rfl) rfl ?_
                      refine g_ireturn (gd rfl) rfl (nb01 (in_w 0 1 (in_c 1 rfl) rfl)) (hp301x8 _ _ ?_)
                      show GG _ _ _ _ _ _ _ _ [.int (Int32.ofInt 1)] _ _ _
                      refine g_ireturn (gd rfl) rfl (nb01 (in_w 0 1 (in_c 1 rfl) rfl)) (hp301 _ _ ?_)
                      show GG _ _ _ _ _ _ _ _ [.int (Int32.ofInt 1)] _ _ _
                      refine g_if_eq 307 311 (gd rfl) rfl rfl (fun c304 => ?_) (fun c304 => ?_)
                      · skip
                        exact zn_eq c304 (in_c 1 rfl) rfl
                      · skip
                        refine g_iconst 1 308 (gd rfl) rfl rfl ?_
                        refine g_goto 312 (gd rfl) rfl ?_
                        have n312 : DNE s s (x1).toInt (x2).toNatClampNeg ((Int32.ofInt 1)).toInt := by exact dne_d (by have a0 := in_u h2; have a1 := in_u h1; have a2 := in_u i301x8x10b; have a3 := in_u i264x10b; have a4 := tx_i2l e301x1; have a5 := in_u i294; have a6 := t_add e294 (in_c 320 rfl) i264x10b rfl; have a7 := in_u ((in_c 320 rfl)); have a8 := tx_i2l e278; have a9 := tx_i2l e259; have a10 := in_u i13; have a11 := t_add e13 h2 (in_c 1 rfl) rfl; have a12 := in_u ((in_c 1 rfl)); have oc := oc_305_109; omega) (by have a0 := in_u h2; have a1 := in_u h1; have a2 := in_u i301x8x10b; have a3 := in_u i264x10b; have a4 := tx_i2l e301x1; have a5 := in_u i294; have a6 := t_add e294 (in_c 320 rfl) i264x10b rfl; have a7 := in_u ((in_c 320 rfl)); have a8 := tx_i2l e278; have a9 := tx_i2l e259; have a10 := in_u i13; have a11 := t_add e13 h2 (in_c 1 rfl) rfl; have a12 := in_u ((in_c 1 rfl)); have oc := oc_305_109; omega) (by have a0 := in_u h2; have a1 := in_u h1; have a2 := in_u i301x8x10b; have a3 := in_u i264x10b; have a4 := tx_i2l e301x1; have a5 := in_u i294; have a6 := t_add e294 (in_c 320 rfl) i264x10b rfl; have a7 := in_u ((in_c 320 rfl)); have a8 := tx_i2l e278; have a9 := tx_i2l e259; have a10 := in_u i13; have a11 := t_add e13 h2 (in_c 1 rfl) rfl; have a12 := in_u ((in_c 1 rfl)); have oc := oc_305_109; omega) (by rw [← e5]; exact i264x10b) (by rw [show x2.toNatClampNeg + 1 = z13.toNatClampNeg from (by show x2.toInt.toNat + 1 = z13.toInt.toNat; have a0 := in_u h2; have a1 := in_u h1; have a2 := in_u i301x8x10b; have a3 := in_u i264x10b; have a4 := tx_i2l e301x1; have a5 := in_u i294; have a6 := t_add e294 (in_c 320 rfl) i264x10b rfl; have a7 := in_u ((in_c 320 rfl)); have a8 := tx_i2l e278; have a9 := tx_i2l e259; have a10 := in_u i13; have a11 := t_add e13 h2 (in_c 1 rfl) rfl; have a12 := in_u ((in_c 1 rfl)); have oc := oc_305_109; omega), ← e14]; exact i301x8x10b)
                        have n312a : YNQ ((Int32.ofInt 1)).toInt (DON s (x1).toInt (x2).toNatClampNeg) := by exact ⟨fun _ => don_119 (by rcases q_1 with e | e | e | e; (have a0 := in_u h2; have a1 := in_u h1; have a2 := in_u i301x8x10b; have a3 := in_u i264x10b; have a4 := tx_i2l e301x1; have a5 := in_u i294; have a6 := t_add e294 (in_c 320 rfl) i264x10b rfl; have a7 := in_u ((in_c 320 rfl)); have a8 := tx_i2l e278; have a9 := tx_i2l e259; have a10 := in_u i13; have a11 := t_add e13 h2 (in_c 1 rfl) rfl; have a12 := in_u ((in_c 1 rfl)); have oc := oc_305_109; omega); (have a0 := in_u h2; have a1 := in_u h1; have a2 := in_u i301x8x10b; have a3 := in_u i264x10b; have a4 := tx_i2l e301x1; have a5 := in_u i294; have a6 := t_add e294 (in_c 320 rfl) i264x10b rfl; have a7 := in_u ((in_c 320 rfl)); have a8 := tx_i2l e278; have a9 := tx_i2l e259; have a10 := in_u i13; have a11 := t_add e13 h2 (in_c 1 rfl) rfl; have a12 := in_u ((in_c 1 rfl)); have oc := oc_305_109; omega); (have a0 := in_u h2; have a1 := in_u h1; have a2 := in_u i301x8x10b; have a3 := in_u i264x10b; have a4 := tx_i2l e301x1; have a5 := in_u i294; have a6 := t_add e294 (in_c 320 rfl) i264x10b rfl; have a7 := in_u ((in_c 320 rfl)); have a8 := tx_i2l e278; have a9 := tx_i2l e259; have a10 := in_u i13; have a11 := t_add e13 h2 (in_c 1 rfl) rfl; have a12 := in_u ((in_c 1 rfl)); have oc := oc_305_109; omega); (exact e)) ⟨(by unfold nq; rw [← e5]; have a0 := in_u h2; have a1 := in_u h1; have a2 := in_u i301x8x10b; have a3 := in_u i264x10b; have a4 := tx_i2l e301x1; have a5 := in_u i294; have a6 := t_add e294 (in_c 320 rfl) i264x10b rfl; have a7 := in_u ((in_c 320 rfl)); have a8 := tx_i2l e278; have a9 := tx_i2l e259; have a10 := in_u i13; have a11 := t_add e13 h2 (in_c 1 rfl) rfl; have a12 := in_u ((in_c 1 rfl)); have oc := oc_305_109; omega), (by rw [← e5, thg_t e295 (by have a0 := in_u h2; have a1 := in_u h1; have a2 := in_u i301x8x10b; have a3 := in_u i264x10b; have a4 := tx_i2l e301x1; have a5 := in_u i294; have a6 := t_add e294 (in_c 320 rfl) i264x10b rfl; have a7 := in_u ((in_c 320 rfl)); have a8 := tx_i2l e278; have a9 := tx_i2l e259; have a10 := in_u i13; have a11 := t_add e13 h2 (in_c 1 rfl) rfl; have a12 := in_u ((in_c 1 rfl)); have oc := oc_305_109; omega) (by have a0 := in_u h2; have a1 := in_u h1; have a2 := in_u i301x8x10b; have a3 := in_u i264x10b; have a4 := tx_i2l e301x1; have a5 := in_u i294; have a6 := t_add e294 (in_c 320 rfl) i264x10b rfl; have a7 := in_u ((in_c 320 rfl)); have a8 := tx_i2l e278; have a9 := tx_i2l e259; have a10 := in_u i13; have a11 := t_add e13 h2 (in_c 1 rfl) rfl; have a12 := in_u ((in_c 1 rfl)); have oc := oc_305_109; omega)]; exact decide_eq_true (by have a0 := in_u h2; have a1 := in_u h1; have a2 := in_u i301x8x10b; have a3 := in_u i264x10b; have a4 := tx_i2l e301x1; have a5 := in_u i294; have a6 := t_add e294 (in_c 320 rfl) i264x10b rfl; have a7 := in_u ((in_c 320 rfl)); have a8 := tx_i2l e278; have a9 := tx_i2l e259; have a10 := in_u i13; have a11 := t_add e13 h2 (in_c 1 rfl) rfl; have a12 := in_u ((in_c 1 rfl)); have oc := oc_305_109; omega))⟩ (by unfold nq; rw [show s.1 128 (x2.toNatClampNeg + 1) = z14 from (by rw [show x2.toNatClampNeg + 1 = z13.toNatClampNeg from (by show x2.toInt.toNat + 1 = z13.toInt.toNat; have a0 := in_u h2; have a1 := in_u h1; have a2 := in_u i301x8x10b; have a3 := in_u i264x10b; have a4 := tx_i2l e301x1; have a5 := in_u i294; have a6 := t_add e294 (in_c 320 rfl) i264x10b rfl; have a7 := in_u ((in_c 320 rfl)); have a8 := tx_i2l e278; have a9 := tx_i2l e259; have a10 := in_u i13; have a11 := t_add e13 h2 (in_c 1 rfl) rfl; have a12 := in_u ((in_c 1 rfl)); have oc := oc_305_109; omega)]; exact e14.symm)]; have a0 := in_u h2; have a1 := in_u h1; have a2 := in_u i301x8x10b; have a3 := in_u i264x10b; have a4 := tx_i2l e301x1; have a5 := in_u i294; have a6 := t_add e294 (in_c 320 rfl) i264x10b rfl; have a7 := in_u ((in_c 320 rfl)); have a8 := tx_i2l e278; have a9 := tx_i2l e259; have a10 := in_u i13; have a11 := t_add e13 h2 (in_c 1 rfl) rfl; have a12 := in_u ((in_c 1 rfl)); have oc := oc_305_109; omega), fun h => absurd h (by decide)⟩
                        have n312b : G12 s s := by exact g12_e rfl
                        exact g_ireturn (gd rfl) rfl (nb01 (in_w 0 1 (in_c 1 rfl) rfl)) (hP _ _ ⟨s, hI, fr_rf, (Int32.ofInt 1), rfl, rfl, in_w 0 1 (in_c 1 rfl) rfl, n312, n312a, n312b⟩)
