section
/-! FUNCTIONAL CONTRACTS, by fgen.py -/
theorem oc_285_109 : (Int32.ofInt (-1)).toInt = (-1) ∧ (Int32.ofInt 0).toInt = 0 ∧ (Int32.ofInt 1).toInt = 1 ∧ (Int32.ofInt 2).toInt = 2 ∧ (Int32.ofInt 4).toInt = 4 ∧ (Int32.ofInt 4000).toInt = 4000 ∧ (Int64.ofInt 0).toInt = 0 ∧ (Int64.ofInt 25).toInt = 25 := ⟨rfl, rfl, rfl, rfl, rfl, rfl, rfl, rfl⟩
/-- GraphHouseModel.label -/
theorem f_285 {Z : AmZ} {A : Nat → Nat} {s : GS} {ex : va_W} {d : Nat} {X : AmX} {x1 : Int32} {x2 : Int32} {u_109_9 : Int32} {u_109_0 : Int32} (hd : 3 ≤ d) (hI : Inv s) (e_109_9 : u_109_9 = s.2.2.1 109 9) (e_109_0 : u_109_0 = s.2.2.1 109 0) : GC Z d 285 [.ref (A 109), .int x1, .int x2] (WW Z A s ++ ex) 0 0 (fun v u => ∃ t : GS, Inv t ∧ Fr fm_285 s t ∧ ∃ z : Int32, v = some (.int z) ∧ u = WW Z A t ++ ex ∧ In z 0 25 ∧ (CDR s t (HNR s x1 ∧ In x2 0 25) ((s.2.2.1 109 9).toInt ≤ 3999) ((z) = s.1 111 (x1).toNatClampNeg ∧ gvR t = gqL (gvR s) (x1).toNatClampNeg x2)) ∧ (LGX s t (Int32.ofInt 4) x1 x2 (Int32.ofInt 0) (Int32.ofInt 0) (Int32.ofInt 0) (Int32.ofInt 0)) ∧ (GSE s → GSE t) ∧ (G1S s t)) X := by
  intro post xp hP hX
  refine g_enter2 (k := 285) (N := 900) (by first | exact dq1 hd rfl | exact dq0 hd rfl | exact dq2 hd rfl | exact dq3 hd rfl | omega) rfl (Nat.le_of_ble_eq_true rfl) ?_
  refine g_aload_n 1 (gd rfl) rfl rfl ?_
  refine g_aload_n 2 (gd rfl) rfl rfl ?_
  refine g_iload_n 3 (gd rfl) rfl rfl ?_
  refine g_callv (X := _) (As := [.int x1]) (r := [.ref (A 109)]) (b := A 109) (q := 109) 6 (gd rfl) rfl rfl rfl rfl rfl (ww_o rfl) (Nat.le_of_ble_eq_true rfl) (mc := 0) (ms := 0) (Nat.zero_le _) (Nat.zero_le _) (P := fun v u => _) ?_ (fun e u h => h) (fun v u h => h)
  intro po3 xx3 hp3 hx3
  refine g_enter2 (k := 277) (N := 300) (by first | exact dq1 hd rfl | exact dq0 hd rfl | exact dq2 hd rfl | exact dq3 hd rfl | omega) rfl (Nat.le_of_ble_eq_true rfl) ?_
  refine g_iload_n 1 (gd rfl) rfl rfl ?_
  refine g_if_lt 4 18 (gd rfl) rfl rfl (fun c3x1 => ?_) (fun c3x1 => ?_)
  · skip
    have i3x1 := z_lt (-2147483648) (-1) c3x1 (i_rng x1) rfl
    refine g_iconst 0 19 (gd rfl) rfl rfl ?_
    refine g_ireturn (gd rfl) rfl (nb01 (in_w 0 1 (in_c 0 rfl) rfl)) (hp3 _ _ ?_)
    show GG _ _ _ _ _ _ _ _ [.int (Int32.ofInt 0), .ref (A 109)] _ _ _
    refine g_if_eq 9 25 (gd rfl) rfl rfl (fun c6 => ?_) (fun c6 => ?_)
    · skip
      refine g_iconst 0 26 (gd rfl) rfl rfl ?_
      refine g_aload_n 27 (gd rfl) rfl rfl ?_
      refine g_getI 30 (gd rfl) rfl rfl rfl (fun z27 e27 => ?_)
      have q27 : u_109_9 = z27 := (e_109_9).trans e27.symm
      subst q27
      refine g_sipush 4000 33 (gd rfl) rfl rfl ?_
      refine g_cmp_ge 36 40 (gd rfl) rfl rfl (fun c33 => ?_) (fun c33 => ?_)
      · skip
        have i33 := r_le2 4000 4000 c33 (in_c 4000 rfl) (inv_F hI 0 4000 rfl e_109_9) rfl
        refine g_iconst 0 41 (gd rfl) rfl rfl ?_
        refine g_callv (X := _) (As := [.int (Int32.ofInt 0), .int (Int32.ofInt 0)]) (r := []) (b := A 109) (q := 109) 44 (gd rfl) rfl rfl rfl rfl rfl (ww_o rfl) (Nat.le_of_ble_eq_true rfl) (mc := 0) (ms := 0) (Nat.zero_le _) (Nat.zero_le _) (P := fun v u => _) ?_ (fun e u h => h) (fun v u h => h)
        intro po41 xx41 hp41 hx41
        refine g_enter2 (k := 270) (N := 300) (by first | exact dq1 hd rfl | exact dq0 hd rfl | exact dq2 hd rfl | exact dq3 hd rfl | omega) rfl (Nat.le_of_ble_eq_true rfl) ?_
        refine g_aload_n 1 (gd rfl) rfl rfl ?_
        refine g_iload_n 2 (gd rfl) rfl rfl ?_
        refine g_if_ne 5 9 (gd rfl) rfl rfl (fun c41x2 => ?_) (fun c41x2 => ?_)
        · skip
          exact zn_ne c41x2 (in_c 0 rfl) rfl
        · skip
          refine g_iconst 1 6 (gd rfl) rfl rfl ?_
          refine g_goto 18 (gd rfl) rfl ?_
          refine g_putI 21 (gd rfl) rfl rfl rfl rfl ?_
          have hI41x18 := inv_sF (q := 109) (j := 0) hI rfl (in_w 0 2 (in_c 1 rfl) rfl)
          refine g_aload_n 22 (gd rfl) rfl rfl ?_
          refine g_getI 25 (gd rfl) rfl rfl rfl (fun z41x22 e41x22 => ?_)
          have q41x22 : (Int32.ofInt 1) = z41x22 := (sF_get).trans e41x22.symm
          subst q41x22
          refine g_if_le 28 32 (gd rfl) rfl rfl (fun c41x25 => ?_) (fun c41x25 => ?_)
          · skip
            exact zn_le c41x25 (in_c 1 rfl) rfl
          · skip
            refine g_iconst 1 29 (gd rfl) rfl rfl ?_
            refine g_goto 33 (gd rfl) rfl ?_
            refine g_ireturn (gd rfl) rfl (nb01 (in_w 0 1 (in_c 1 rfl) rfl)) (hp41 _ _ ?_)
            show GG _ _ _ _ _ _ _ _ [.int (Int32.ofInt 1)] _ _ _
            refine g_if_eq 47 49 (gd rfl) rfl rfl (fun c44 => ?_) (fun c44 => ?_)
            · skip
              exact zn_eq c44 (in_c 1 rfl) rfl
            · skip
              refine g_iconst 0 48 (gd rfl) rfl rfl ?_
              have n48 : CDR s (sF s 109 0 (Int32.ofInt 1)) (HNR s x1 ∧ In x2 0 25) ((s.2.2.1 109 9).toInt ≤ 3999) (((Int32.ofInt 0)) = s.1 111 (x1).toNatClampNeg ∧ gvR (sF s 109 0 (Int32.ofInt 1)) = gqL (gvR s) (x1).toNatClampNeg x2) := by first | exact Or.inl ⟨rfl, (by first | (unfold HNR In; rw [show s.1 110 0 = z3x10 from e3x10.symm]; have a0 := oa4 ((inv_F hI 0 2 rfl e_109_0)) i33 i3x1 ((in_c 1 rfl)); have oc := oc_285_109; omega) | (unfold HNR In; have a0 := oa4 ((inv_F hI 0 2 rfl e_109_0)) i33 i3x1 ((in_c 1 rfl)); have oc := oc_285_109; omega)), (gvR_cg (L := ([], [], [(109, 0)], [])) (fr_sF rfl fr_rf) rfl)⟩ | exact Or.inr (Or.inl ⟨rfl, ⟨⟨by have a0 := oa4 ((inv_F hI 0 2 rfl e_109_0)) i33 i3x1 ((in_c 1 rfl)); have oc := oc_285_109; omega, by rw [show s.1 110 0 = z3x10 from e3x10.symm]; have a0 := oa4 ((inv_F hI 0 2 rfl e_109_0)) i33 i3x1 ((in_c 1 rfl)); have oc := oc_285_109; omega⟩, ⟨by have a0 := oa4 ((inv_F hI 0 2 rfl e_109_0)) i33 i3x1 ((in_c 1 rfl)); have oc := oc_285_109; omega, by have a0 := oa4 ((inv_F hI 0 2 rfl e_109_0)) i33 i3x1 ((in_c 1 rfl)); have oc := oc_285_109; omega⟩⟩, (by rw [← e_109_9]; have a0 := oa4 ((inv_F hI 0 2 rfl e_109_0)) i33 i3x1 ((in_c 1 rfl)); have oc := oc_285_109; omega), (gvR_cg (L := ([], [], [(109, 0)], [])) (fr_sF rfl fr_rf) rfl)⟩)
              have n48a : LGX s (sF s 109 0 (Int32.ofInt 1)) (Int32.ofInt 4) x1 x2 (Int32.ofInt 0) (Int32.ofInt 0) (Int32.ofInt 0) (Int32.ofInt 0) := by exact Or.inl ⟨rfl, rfl, rfl, rfl, rfl, rfl, rfl, rfl⟩
              have n48b : GSE s → GSE (sF s 109 0 (Int32.ofInt 1)) := by exact fun h => gse_fr (L := ([], [], [(109, 0)], [])) h (fr_sF rfl fr_rf) rfl
              have n48c : G1S s (sF s 109 0 (Int32.ofInt 1)) := by exact ⟨rfl, fun _ _ => rfl, fun _ _ _ => ⟨rfl, rfl, rfl, rfl, rfl, rfl⟩⟩
              exact g_ireturn (gd rfl) rfl rfl (hP _ _ ⟨(sF s 109 0 (Int32.ofInt 1)), hI41x18, (fr_sF rfl fr_rf), (Int32.ofInt 0), rfl, rfl, in_w 0 25 (in_c 0 rfl) rfl, n48, n48a, n48b, n48c⟩)
      · skip
        have i33 := r_lt1 0 3999 c33 (inv_F hI 0 4000 rfl e_109_9) (in_c 4000 rfl) rfl
        refine g_iconst 1 37 (gd rfl) rfl rfl ?_
        refine g_goto 41 (gd rfl) rfl ?_
        refine g_callv (X := _) (As := [.int (Int32.ofInt 0), .int (Int32.ofInt 1)]) (r := []) (b := A 109) (q := 109) 44 (gd rfl) rfl rfl rfl rfl rfl (ww_o rfl) (Nat.le_of_ble_eq_true rfl) (mc := 0) (ms := 0) (Nat.zero_le _) (Nat.zero_le _) (P := fun v u => _) ?_ (fun e u h => h) (fun v u h => h)
        intro po41 xx41 hp41 hx41
        refine g_enter2 (k := 270) (N := 300) (by first | exact dq1 hd rfl | exact dq0 hd rfl | exact dq2 hd rfl | exact dq3 hd rfl | omega) rfl (Nat.le_of_ble_eq_true rfl) ?_
        refine g_aload_n 1 (gd rfl) rfl rfl ?_
        refine g_iload_n 2 (gd rfl) rfl rfl ?_
        refine g_if_ne 5 9 (gd rfl) rfl rfl (fun c41x2 => ?_) (fun c41x2 => ?_)
        · skip
          exact zn_ne c41x2 (in_c 0 rfl) rfl
        · skip
          refine g_iconst 1 6 (gd rfl) rfl rfl ?_
          refine g_goto 18 (gd rfl) rfl ?_
          refine g_putI 21 (gd rfl) rfl rfl rfl rfl ?_
          have hI41x18 := inv_sF (q := 109) (j := 0) hI rfl (in_w 0 2 (in_c 1 rfl) rfl)
          refine g_aload_n 22 (gd rfl) rfl rfl ?_
          refine g_getI 25 (gd rfl) rfl rfl rfl (fun z41x22 e41x22 => ?_)
          have q41x22 : (Int32.ofInt 1) = z41x22 := (sF_get).trans e41x22.symm
          subst q41x22
          refine g_if_le 28 32 (gd rfl) rfl rfl (fun c41x25 => ?_) (fun c41x25 => ?_)
          · skip
            exact zn_le c41x25 (in_c 1 rfl) rfl
          · skip
            refine g_iconst 1 29 (gd rfl) rfl rfl ?_
            refine g_goto 33 (gd rfl) rfl ?_
            refine g_ireturn (gd rfl) rfl (nb01 (in_w 0 1 (in_c 1 rfl) rfl)) (hp41 _ _ ?_)
            show GG _ _ _ _ _ _ _ _ [.int (Int32.ofInt 1)] _ _ _
            refine g_if_eq 47 49 (gd rfl) rfl rfl (fun c44 => ?_) (fun c44 => ?_)
            · skip
              exact zn_eq c44 (in_c 1 rfl) rfl
            · skip
              refine g_iconst 0 48 (gd rfl) rfl rfl ?_
              have n48 : CDR s (sF s 109 0 (Int32.ofInt 1)) (HNR s x1 ∧ In x2 0 25) ((s.2.2.1 109 9).toInt ≤ 3999) (((Int32.ofInt 0)) = s.1 111 (x1).toNatClampNeg ∧ gvR (sF s 109 0 (Int32.ofInt 1)) = gqL (gvR s) (x1).toNatClampNeg x2) := by first | exact Or.inl ⟨rfl, (by first | (unfold HNR In; rw [show s.1 110 0 = z3x10 from e3x10.symm]; have a0 := oa4 ((inv_F hI 0 2 rfl e_109_0)) i33 i3x1 ((in_c 1 rfl)); have oc := oc_285_109; omega) | (unfold HNR In; have a0 := oa4 ((inv_F hI 0 2 rfl e_109_0)) i33 i3x1 ((in_c 1 rfl)); have oc := oc_285_109; omega)), (gvR_cg (L := ([], [], [(109, 0)], [])) (fr_sF rfl fr_rf) rfl)⟩ | exact Or.inr (Or.inl ⟨rfl, ⟨⟨by have a0 := oa4 ((inv_F hI 0 2 rfl e_109_0)) i33 i3x1 ((in_c 1 rfl)); have oc := oc_285_109; omega, by rw [show s.1 110 0 = z3x10 from e3x10.symm]; have a0 := oa4 ((inv_F hI 0 2 rfl e_109_0)) i33 i3x1 ((in_c 1 rfl)); have oc := oc_285_109; omega⟩, ⟨by have a0 := oa4 ((inv_F hI 0 2 rfl e_109_0)) i33 i3x1 ((in_c 1 rfl)); have oc := oc_285_109; omega, by have a0 := oa4 ((inv_F hI 0 2 rfl e_109_0)) i33 i3x1 ((in_c 1 rfl)); have oc := oc_285_109; omega⟩⟩, (by rw [← e_109_9]; have a0 := oa4 ((inv_F hI 0 2 rfl e_109_0)) i33 i3x1 ((in_c 1 rfl)); have oc := oc_285_109; omega), (gvR_cg (L := ([], [], [(109, 0)], [])) (fr_sF rfl fr_rf) rfl)⟩)
              have n48a : LGX s (sF s 109 0 (Int32.ofInt 1)) (Int32.ofInt 4) x1 x2 (Int32.ofInt 0) (Int32.ofInt 0) (Int32.ofInt 0) (Int32.ofInt 0) := by exact Or.inl ⟨rfl, rfl, rfl, rfl, rfl, rfl, rfl, rfl⟩
              have n48b : GSE s → GSE (sF s 109 0 (Int32.ofInt 1)) := by exact fun h => gse_fr (L := ([], [], [(109, 0)], [])) h (fr_sF rfl fr_rf) rfl
              have n48c : G1S s (sF s 109 0 (Int32.ofInt 1)) := by exact ⟨rfl, fun _ _ => rfl, fun _ _ _ => ⟨rfl, rfl, rfl, rfl, rfl, rfl⟩⟩
              exact g_ireturn (gd rfl) rfl rfl (hP _ _ ⟨(sF s 109 0 (Int32.ofInt 1)), hI41x18, (fr_sF rfl fr_rf), (Int32.ofInt 0), rfl, rfl, in_w 0 25 (in_c 0 rfl) rfl, n48, n48a, n48b, n48c⟩)
    · skip
      exact zn_ne c6 (in_c 0 rfl) rfl
  · skip
    have i3x1 := z_ge 0 2147483647 c3x1 (i_rng x1) rfl
    refine g_iload_n 5 (gd rfl) rfl rfl ?_
    refine g_aload_n 6 (gd rfl) rfl rfl ?_
    refine g_getA (q2 := 110) 9 (gd rfl) rfl rfl rfl rfl ?_
    refine g_iconst 0 10 (gd rfl) rfl rfl ?_
    refine g_iaload 11 (gd rfl) rfl (n := 3) rfl (in_ix (in_c 0 rfl) rfl) (fun z3x10 e3x10 => ?_)
    have i3x10 := nn_01 hI (in_c 0 rfl) rfl e3x10
    refine g_cmp_ge 14 18 (gd rfl) rfl rfl (fun c3x11 => ?_) (fun c3x11 => ?_)
    · skip
      refine g_iconst 0 19 (gd rfl) rfl rfl ?_
      refine g_ireturn (gd rfl) rfl (nb01 (in_w 0 1 (in_c 0 rfl) rfl)) (hp3 _ _ ?_)
      show GG _ _ _ _ _ _ _ _ [.int (Int32.ofInt 0), .ref (A 109)] _ _ _
      refine g_if_eq 9 25 (gd rfl) rfl rfl (fun c6 => ?_) (fun c6 => ?_)
      · skip
        refine g_iconst 0 26 (gd rfl) rfl rfl ?_
        refine g_aload_n 27 (gd rfl) rfl rfl ?_
        refine g_getI 30 (gd rfl) rfl rfl rfl (fun z27 e27 => ?_)
        have q27 : u_109_9 = z27 := (e_109_9).trans e27.symm
        subst q27
        refine g_sipush 4000 33 (gd rfl) rfl rfl ?_
        refine g_cmp_ge 36 40 (gd rfl) rfl rfl (fun c33 => ?_) (fun c33 => ?_)
        · skip
          have i33 := r_le2 4000 4000 c33 (in_c 4000 rfl) (inv_F hI 0 4000 rfl e_109_9) rfl
          refine g_iconst 0 41 (gd rfl) rfl rfl ?_
          refine g_callv (X := _) (As := [.int (Int32.ofInt 0), .int (Int32.ofInt 0)]) (r := []) (b := A 109) (q := 109) 44 (gd rfl) rfl rfl rfl rfl rfl (ww_o rfl) (Nat.le_of_ble_eq_true rfl) (mc := 0) (ms := 0) (Nat.zero_le _) (Nat.zero_le _) (P := fun v u => _) ?_ (fun e u h => h) (fun v u h => h)
          intro po41 xx41 hp41 hx41
          refine g_enter2 (k := 270) (N := 300) (by first | exact dq1 hd rfl | exact dq0 hd rfl | exact dq2 hd rfl | exact dq3 hd rfl | omega) rfl (Nat.le_of_ble_eq_true rfl) ?_
          refine g_aload_n 1 (gd rfl) rfl rfl ?_
          refine g_iload_n 2 (gd rfl) rfl rfl ?_
          refine g_if_ne 5 9 (gd rfl) rfl rfl (fun c41x2 => ?_) (fun c41x2 => ?_)
          · skip
            exact zn_ne c41x2 (in_c 0 rfl) rfl
          · skip
            refine g_iconst 1 6 (gd rfl) rfl rfl ?_
            refine g_goto 18 (gd rfl) rfl ?_
            refine g_putI 21 (gd rfl) rfl rfl rfl rfl ?_
            have hI41x18 := inv_sF (q := 109) (j := 0) hI rfl (in_w 0 2 (in_c 1 rfl) rfl)
            refine g_aload_n 22 (gd rfl) rfl rfl ?_
            refine g_getI 25 (gd rfl) rfl rfl rfl (fun z41x22 e41x22 => ?_)
            have q41x22 : (Int32.ofInt 1) = z41x22 := (sF_get).trans e41x22.symm
            subst q41x22
            refine g_if_le 28 32 (gd rfl) rfl rfl (fun c41x25 => ?_) (fun c41x25 => ?_)
            · skip
              exact zn_le c41x25 (in_c 1 rfl) rfl
            · skip
              refine g_iconst 1 29 (gd rfl) rfl rfl ?_
              refine g_goto 33 (gd rfl) rfl ?_
              refine g_ireturn (gd rfl) rfl (nb01 (in_w 0 1 (in_c 1 rfl) rfl)) (hp41 _ _ ?_)
              show GG _ _ _ _ _ _ _ _ [.int (Int32.ofInt 1)] _ _ _
              refine g_if_eq 47 49 (gd rfl) rfl rfl (fun c44 => ?_) (fun c44 => ?_)
              · skip
                exact zn_eq c44 (in_c 1 rfl) rfl
              · skip
                refine g_iconst 0 48 (gd rfl) rfl rfl ?_
                have n48 : CDR s (sF s 109 0 (Int32.ofInt 1)) (HNR s x1 ∧ In x2 0 25) ((s.2.2.1 109 9).toInt ≤ 3999) (((Int32.ofInt 0)) = s.1 111 (x1).toNatClampNeg ∧ gvR (sF s 109 0 (Int32.ofInt 1)) = gqL (gvR s) (x1).toNatClampNeg x2) := by first | exact Or.inl ⟨rfl, (by first | (unfold HNR In; rw [show s.1 110 0 = z3x10 from e3x10.symm]; have a0 := oa4 ((inv_F hI 0 2 rfl e_109_0)) i33 i3x1 ((in_c 1 rfl)); have oc := oc_285_109; omega) | (unfold HNR In; have a0 := oa4 ((inv_F hI 0 2 rfl e_109_0)) i33 i3x1 ((in_c 1 rfl)); have oc := oc_285_109; omega)), (gvR_cg (L := ([], [], [(109, 0)], [])) (fr_sF rfl fr_rf) rfl)⟩ | exact Or.inr (Or.inl ⟨rfl, ⟨⟨by have a0 := oa4 ((inv_F hI 0 2 rfl e_109_0)) i33 i3x1 ((in_c 1 rfl)); have oc := oc_285_109; omega, by rw [show s.1 110 0 = z3x10 from e3x10.symm]; have a0 := oa4 ((inv_F hI 0 2 rfl e_109_0)) i33 i3x1 ((in_c 1 rfl)); have oc := oc_285_109; omega⟩, ⟨by have a0 := oa4 ((inv_F hI 0 2 rfl e_109_0)) i33 i3x1 ((in_c 1 rfl)); have oc := oc_285_109; omega, by have a0 := oa4 ((inv_F hI 0 2 rfl e_109_0)) i33 i3x1 ((in_c 1 rfl)); have oc := oc_285_109; omega⟩⟩, (by rw [← e_109_9]; have a0 := oa4 ((inv_F hI 0 2 rfl e_109_0)) i33 i3x1 ((in_c 1 rfl)); have oc := oc_285_109; omega), (gvR_cg (L := ([], [], [(109, 0)], [])) (fr_sF rfl fr_rf) rfl)⟩)
                have n48a : LGX s (sF s 109 0 (Int32.ofInt 1)) (Int32.ofInt 4) x1 x2 (Int32.ofInt 0) (Int32.ofInt 0) (Int32.ofInt 0) (Int32.ofInt 0) := by exact Or.inl ⟨rfl, rfl, rfl, rfl, rfl, rfl, rfl, rfl⟩
                have n48b : GSE s → GSE (sF s 109 0 (Int32.ofInt 1)) := by exact fun h => gse_fr (L := ([], [], [(109, 0)], [])) h (fr_sF rfl fr_rf) rfl
                have n48c : G1S s (sF s 109 0 (Int32.ofInt 1)) := by exact ⟨rfl, fun _ _ => rfl, fun _ _ _ => ⟨rfl, rfl, rfl, rfl, rfl, rfl⟩⟩
                exact g_ireturn (gd rfl) rfl rfl (hP _ _ ⟨(sF s 109 0 (Int32.ofInt 1)), hI41x18, (fr_sF rfl fr_rf), (Int32.ofInt 0), rfl, rfl, in_w 0 25 (in_c 0 rfl) rfl, n48, n48a, n48b, n48c⟩)
        · skip
          have i33 := r_lt1 0 3999 c33 (inv_F hI 0 4000 rfl e_109_9) (in_c 4000 rfl) rfl
          refine g_iconst 1 37 (gd rfl) rfl rfl ?_
          refine g_goto 41 (gd rfl) rfl ?_
          refine g_callv (X := _) (As := [.int (Int32.ofInt 0), .int (Int32.ofInt 1)]) (r := []) (b := A 109) (q := 109) 44 (gd rfl) rfl rfl rfl rfl rfl (ww_o rfl) (Nat.le_of_ble_eq_true rfl) (mc := 0) (ms := 0) (Nat.zero_le _) (Nat.zero_le _) (P := fun v u => _) ?_ (fun e u h => h) (fun v u h => h)
          intro po41 xx41 hp41 hx41
          refine g_enter2 (k := 270) (N := 300) (by first | exact dq1 hd rfl | exact dq0 hd rfl | exact dq2 hd rfl | exact dq3 hd rfl | omega) rfl (Nat.le_of_ble_eq_true rfl) ?_
          refine g_aload_n 1 (gd rfl) rfl rfl ?_
          refine g_iload_n 2 (gd rfl) rfl rfl ?_
          refine g_if_ne 5 9 (gd rfl) rfl rfl (fun c41x2 => ?_) (fun c41x2 => ?_)
          · skip
            exact zn_ne c41x2 (in_c 0 rfl) rfl
          · skip
            refine g_iconst 1 6 (gd rfl) rfl rfl ?_
            refine g_goto 18 (gd rfl) rfl ?_
            refine g_putI 21 (gd rfl) rfl rfl rfl rfl ?_
            have hI41x18 := inv_sF (q := 109) (j := 0) hI rfl (in_w 0 2 (in_c 1 rfl) rfl)
            refine g_aload_n 22 (gd rfl) rfl rfl ?_
            refine g_getI 25 (gd rfl) rfl rfl rfl (fun z41x22 e41x22 => ?_)
            have q41x22 : (Int32.ofInt 1) = z41x22 := (sF_get).trans e41x22.symm
            subst q41x22
            refine g_if_le 28 32 (gd rfl) rfl rfl (fun c41x25 => ?_) (fun c41x25 => ?_)
            · skip
              exact zn_le c41x25 (in_c 1 rfl) rfl
            · skip
              refine g_iconst 1 29 (gd rfl) rfl rfl ?_
              refine g_goto 33 (gd rfl) rfl ?_
              refine g_ireturn (gd rfl) rfl (nb01 (in_w 0 1 (in_c 1 rfl) rfl)) (hp41 _ _ ?_)
              show GG _ _ _ _ _ _ _ _ [.int (Int32.ofInt 1)] _ _ _
              refine g_if_eq 47 49 (gd rfl) rfl rfl (fun c44 => ?_) (fun c44 => ?_)
              · skip
                exact zn_eq c44 (in_c 1 rfl) rfl
              · skip
                refine g_iconst 0 48 (gd rfl) rfl rfl ?_
                have n48 : CDR s (sF s 109 0 (Int32.ofInt 1)) (HNR s x1 ∧ In x2 0 25) ((s.2.2.1 109 9).toInt ≤ 3999) (((Int32.ofInt 0)) = s.1 111 (x1).toNatClampNeg ∧ gvR (sF s 109 0 (Int32.ofInt 1)) = gqL (gvR s) (x1).toNatClampNeg x2) := by first | exact Or.inl ⟨rfl, (by first | (unfold HNR In; rw [show s.1 110 0 = z3x10 from e3x10.symm]; have a0 := oa4 ((inv_F hI 0 2 rfl e_109_0)) i33 i3x1 ((in_c 1 rfl)); have oc := oc_285_109; omega) | (unfold HNR In; have a0 := oa4 ((inv_F hI 0 2 rfl e_109_0)) i33 i3x1 ((in_c 1 rfl)); have oc := oc_285_109; omega)), (gvR_cg (L := ([], [], [(109, 0)], [])) (fr_sF rfl fr_rf) rfl)⟩ | exact Or.inr (Or.inl ⟨rfl, ⟨⟨by have a0 := oa4 ((inv_F hI 0 2 rfl e_109_0)) i33 i3x1 ((in_c 1 rfl)); have oc := oc_285_109; omega, by rw [show s.1 110 0 = z3x10 from e3x10.symm]; have a0 := oa4 ((inv_F hI 0 2 rfl e_109_0)) i33 i3x1 ((in_c 1 rfl)); have oc := oc_285_109; omega⟩, ⟨by have a0 := oa4 ((inv_F hI 0 2 rfl e_109_0)) i33 i3x1 ((in_c 1 rfl)); have oc := oc_285_109; omega, by have a0 := oa4 ((inv_F hI 0 2 rfl e_109_0)) i33 i3x1 ((in_c 1 rfl)); have oc := oc_285_109; omega⟩⟩, (by rw [← e_109_9]; have a0 := oa4 ((inv_F hI 0 2 rfl e_109_0)) i33 i3x1 ((in_c 1 rfl)); have oc := oc_285_109; omega), (gvR_cg (L := ([], [], [(109, 0)], [])) (fr_sF rfl fr_rf) rfl)⟩)
                have n48a : LGX s (sF s 109 0 (Int32.ofInt 1)) (Int32.ofInt 4) x1 x2 (Int32.ofInt 0) (Int32.ofInt 0) (Int32.ofInt 0) (Int32.ofInt 0) := by exact Or.inl ⟨rfl, rfl, rfl, rfl, rfl, rfl, rfl, rfl⟩
                have n48b : GSE s → GSE (sF s 109 0 (Int32.ofInt 1)) := by exact fun h => gse_fr (L := ([], [], [(109, 0)], [])) h (fr_sF rfl fr_rf) rfl
                have n48c : G1S s (sF s 109 0 (Int32.ofInt 1)) := by exact ⟨rfl, fun _ _ => rfl, fun _ _ _ => ⟨rfl, rfl, rfl, rfl, rfl, rfl⟩⟩
                exact g_ireturn (gd rfl) rfl rfl (hP _ _ ⟨(sF s 109 0 (Int32.ofInt 1)), hI41x18, (fr_sF rfl fr_rf), (Int32.ofInt 0), rfl, rfl, in_w 0 25 (in_c 0 rfl) rfl, n48, n48a, n48b, n48c⟩)
      · skip
        exact zn_ne c6 (in_c 0 rfl) rfl
    · skip
      have i3x11 := r_lt1 0 31 c3x11 i3x1 i3x10 rfl
      have i3x11a := r_lt2 1 32 c3x11 i3x1 i3x10 rfl
      refine g_iconst 1 15 (gd rfl) rfl rfl ?_
      refine g_goto 19 (gd rfl) rfl ?_
      refine g_ireturn (gd rfl) rfl (nb01 (in_w 0 1 (in_c 1 rfl) rfl)) (hp3 _ _ ?_)
      show GG _ _ _ _ _ _ _ _ [.int (Int32.ofInt 1), .ref (A 109)] _ _ _
      refine g_if_eq 9 25 (gd rfl) rfl rfl (fun c6 => ?_) (fun c6 => ?_)
      · skip
        exact zn_eq c6 (in_c 1 rfl) rfl
      · skip
        refine g_iload_n 10 (gd rfl) rfl rfl ?_
        refine g_i2l 11 (gd rfl) rfl (fun z10 e10 => ?_)
        have i10 := l_i e10 (i_rng x2)
        refine g_lconst 0 12 (gd rfl) rfl rfl ?_
        refine g_ldc2_w 25 15 (gd rfl) rfl rfl ?_
        refine g_calls (As := [.long z10, .long (Int64.ofInt 0), .long (Int64.ofInt 25)]) (r := [.ref (A 109)]) 18 (gd rfl) rfl rfl rfl rfl rfl (Nat.le_of_ble_eq_true rfl) (mc := 0) (ms := 0) (Nat.zero_le _) (Nat.zero_le _) (P := fun v u => _) ?_ (fun v u h => h)
        intro po15 xx15 hp15 hx15
        refine g_enter2 (k := 269) (N := 300) (by first | exact dq1 hd rfl | exact dq0 hd rfl | exact dq2 hd rfl | exact dq3 hd rfl | omega) rfl (Nat.le_of_ble_eq_true rfl) ?_
        refine g_lload_n 1 (gd rfl) rfl rfl ?_
        refine g_lload_n 2 (gd rfl) rfl rfl ?_
        refine g_lcmp 3 (gd rfl) rfl (fun z15x2 e15x2 => ?_)
        have i15x2 := lc_in e15x2
        refine g_if_lt 6 17 (gd rfl) rfl rfl (fun c15x3 => ?_) (fun c15x3 => ?_)
        · skip
          have i15x3 := z_lt (-1) (-1) c15x3 i15x2 rfl
          have c15x3a := lc_lt e15x2 c15x3
          have i15x3a := lr_lt1 (-2147483648) (-1) c15x3a i10 (l_c 0 rfl) rfl
          have i15x3b := l_b e10 i15x3a
          refine g_iconst 0 18 (gd rfl) rfl rfl ?_
          refine g_ireturn (gd rfl) rfl (nb01 (in_w 0 1 (in_c 0 rfl) rfl)) (hp15 _ _ ?_)
          show GG _ _ _ _ _ _ _ _ [.int (Int32.ofInt 0), .ref (A 109)] _ _ _
          refine g_if_eq 21 25 (gd rfl) rfl rfl (fun c18 => ?_) (fun c18 => ?_)
          · skip
            refine g_iconst 0 26 (gd rfl) rfl rfl ?_
            refine g_aload_n 27 (gd rfl) rfl rfl ?_
            refine g_getI 30 (gd rfl) rfl rfl rfl (fun z27 e27 => ?_)
            have q27 : u_109_9 = z27 := (e_109_9).trans e27.symm
            subst q27
            refine g_sipush 4000 33 (gd rfl) rfl rfl ?_
            refine g_cmp_ge 36 40 (gd rfl) rfl rfl (fun c33 => ?_) (fun c33 => ?_)
            · skip
              have i33 := r_le2 4000 4000 c33 (in_c 4000 rfl) (inv_F hI 0 4000 rfl e_109_9) rfl
              refine g_iconst 0 41 (gd rfl) rfl rfl ?_
              refine g_callv (X := _) (As := [.int (Int32.ofInt 0), .int (Int32.ofInt 0)]) (r := []) (b := A 109) (q := 109) 44 (gd rfl) rfl rfl rfl rfl rfl (ww_o rfl) (Nat.le_of_ble_eq_true rfl) (mc := 0) (ms := 0) (Nat.zero_le _) (Nat.zero_le _) (P := fun v u => _) ?_ (fun e u h => h) (fun v u h => h)
              intro po41 xx41 hp41 hx41
              refine g_enter2 (k := 270) (N := 300) (by first | exact dq1 hd rfl | exact dq0 hd rfl | exact dq2 hd rfl | exact dq3 hd rfl | omega) rfl (Nat.le_of_ble_eq_true rfl) ?_
              refine g_aload_n 1 (gd rfl) rfl rfl ?_
              refine g_iload_n 2 (gd rfl) rfl rfl ?_
              refine g_if_ne 5 9 (gd rfl) rfl rfl (fun c41x2 => ?_) (fun c41x2 => ?_)
              · skip
                exact zn_ne c41x2 (in_c 0 rfl) rfl
              · skip
                refine g_iconst 1 6 (gd rfl) rfl rfl ?_
                refine g_goto 18 (gd rfl) rfl ?_
                refine g_putI 21 (gd rfl) rfl rfl rfl rfl ?_
                have hI41x18 := inv_sF (q := 109) (j := 0) hI rfl (in_w 0 2 (in_c 1 rfl) rfl)
                refine g_aload_n 22 (gd rfl) rfl rfl ?_
                refine g_getI 25 (gd rfl) rfl rfl rfl (fun z41x22 e41x22 => ?_)
                have q41x22 : (Int32.ofInt 1) = z41x22 := (sF_get).trans e41x22.symm
                subst q41x22
                refine g_if_le 28 32 (gd rfl) rfl rfl (fun c41x25 => ?_) (fun c41x25 => ?_)
                · skip
                  exact zn_le c41x25 (in_c 1 rfl) rfl
                · skip
                  refine g_iconst 1 29 (gd rfl) rfl rfl ?_
                  refine g_goto 33 (gd rfl) rfl ?_
                  refine g_ireturn (gd rfl) rfl (nb01 (in_w 0 1 (in_c 1 rfl) rfl)) (hp41 _ _ ?_)
                  show GG _ _ _ _ _ _ _ _ [.int (Int32.ofInt 1)] _ _ _
                  refine g_if_eq 47 49 (gd rfl) rfl rfl (fun c44 => ?_) (fun c44 => ?_)
                  · skip
                    exact zn_eq c44 (in_c 1 rfl) rfl
                  · skip
                    refine g_iconst 0 48 (gd rfl) rfl rfl ?_
                    have n48 : CDR s (sF s 109 0 (Int32.ofInt 1)) (HNR s x1 ∧ In x2 0 25) ((s.2.2.1 109 9).toInt ≤ 3999) (((Int32.ofInt 0)) = s.1 111 (x1).toNatClampNeg ∧ gvR (sF s 109 0 (Int32.ofInt 1)) = gqL (gvR s) (x1).toNatClampNeg x2) := by first | exact Or.inl ⟨rfl, (by first | (unfold HNR In; rw [show s.1 110 0 = z3x10 from e3x10.symm]; have a0 := oa5 i3x11 ((inv_F hI 0 2 rfl e_109_0)) i33 i15x3b ((in_c 1 rfl)); have a5 := tx_i2l e10; have oc := oc_285_109; omega) | (unfold HNR In; have a0 := oa5 i3x11 ((inv_F hI 0 2 rfl e_109_0)) i33 i15x3b ((in_c 1 rfl)); have a5 := tx_i2l e10; have oc := oc_285_109; omega)), (gvR_cg (L := ([], [], [(109, 0)], [])) (fr_sF rfl fr_rf) rfl)⟩ | exact Or.inr (Or.inl ⟨rfl, ⟨⟨by have a0 := oa5 i3x11 ((inv_F hI 0 2 rfl e_109_0)) i33 i15x3b ((in_c 1 rfl)); have a5 := tx_i2l e10; have oc := oc_285_109; omega, by rw [show s.1 110 0 = z3x10 from e3x10.symm]; have a0 := oa5 i3x11 ((inv_F hI 0 2 rfl e_109_0)) i33 i15x3b ((in_c 1 rfl)); have a5 := tx_i2l e10; have oc := oc_285_109; omega⟩, ⟨by have a0 := oa5 i3x11 ((inv_F hI 0 2 rfl e_109_0)) i33 i15x3b ((in_c 1 rfl)); have a5 := tx_i2l e10; have oc := oc_285_109; omega, by have a0 := oa5 i3x11 ((inv_F hI 0 2 rfl e_109_0)) i33 i15x3b ((in_c 1 rfl)); have a5 := tx_i2l e10; have oc := oc_285_109; omega⟩⟩, (by rw [← e_109_9]; have a0 := oa5 i3x11 ((inv_F hI 0 2 rfl e_109_0)) i33 i15x3b ((in_c 1 rfl)); have a5 := tx_i2l e10; have oc := oc_285_109; omega), (gvR_cg (L := ([], [], [(109, 0)], [])) (fr_sF rfl fr_rf) rfl)⟩)
                    have n48a : LGX s (sF s 109 0 (Int32.ofInt 1)) (Int32.ofInt 4) x1 x2 (Int32.ofInt 0) (Int32.ofInt 0) (Int32.ofInt 0) (Int32.ofInt 0) := by exact Or.inl ⟨rfl, rfl, rfl, rfl, rfl, rfl, rfl, rfl⟩
                    have n48b : GSE s → GSE (sF s 109 0 (Int32.ofInt 1)) := by exact fun h => gse_fr (L := ([], [], [(109, 0)], [])) h (fr_sF rfl fr_rf) rfl
                    have n48c : G1S s (sF s 109 0 (Int32.ofInt 1)) := by exact ⟨rfl, fun _ _ => rfl, fun _ _ _ => ⟨rfl, rfl, rfl, rfl, rfl, rfl⟩⟩
                    exact g_ireturn (gd rfl) rfl rfl (hP _ _ ⟨(sF s 109 0 (Int32.ofInt 1)), hI41x18, (fr_sF rfl fr_rf), (Int32.ofInt 0), rfl, rfl, in_w 0 25 (in_c 0 rfl) rfl, n48, n48a, n48b, n48c⟩)
            · skip
              have i33 := r_lt1 0 3999 c33 (inv_F hI 0 4000 rfl e_109_9) (in_c 4000 rfl) rfl
              refine g_iconst 1 37 (gd rfl) rfl rfl ?_
              refine g_goto 41 (gd rfl) rfl ?_
              refine g_callv (X := _) (As := [.int (Int32.ofInt 0), .int (Int32.ofInt 1)]) (r := []) (b := A 109) (q := 109) 44 (gd rfl) rfl rfl rfl rfl rfl (ww_o rfl) (Nat.le_of_ble_eq_true rfl) (mc := 0) (ms := 0) (Nat.zero_le _) (Nat.zero_le _) (P := fun v u => _) ?_ (fun e u h => h) (fun v u h => h)
              intro po41 xx41 hp41 hx41
              refine g_enter2 (k := 270) (N := 300) (by first | exact dq1 hd rfl | exact dq0 hd rfl | exact dq2 hd rfl | exact dq3 hd rfl | omega) rfl (Nat.le_of_ble_eq_true rfl) ?_
              refine g_aload_n 1 (gd rfl) rfl rfl ?_
              refine g_iload_n 2 (gd rfl) rfl rfl ?_
              refine g_if_ne 5 9 (gd rfl) rfl rfl (fun c41x2 => ?_) (fun c41x2 => ?_)
              · skip
                exact zn_ne c41x2 (in_c 0 rfl) rfl
              · skip
                refine g_iconst 1 6 (gd rfl) rfl rfl ?_
                refine g_goto 18 (gd rfl) rfl ?_
                refine g_putI 21 (gd rfl) rfl rfl rfl rfl ?_
                have hI41x18 := inv_sF (q := 109) (j := 0) hI rfl (in_w 0 2 (in_c 1 rfl) rfl)
                refine g_aload_n 22 (gd rfl) rfl rfl ?_
                refine g_getI 25 (gd rfl) rfl rfl rfl (fun z41x22 e41x22 => ?_)
                have q41x22 : (Int32.ofInt 1) = z41x22 := (sF_get).trans e41x22.symm
                subst q41x22
                refine g_if_le 28 32 (gd rfl) rfl rfl (fun c41x25 => ?_) (fun c41x25 => ?_)
                · skip
                  exact zn_le c41x25 (in_c 1 rfl) rfl
                · skip
                  refine g_iconst 1 29 (gd rfl) rfl rfl ?_
                  refine g_goto 33 (gd rfl) rfl ?_
                  refine g_ireturn (gd rfl) rfl (nb01 (in_w 0 1 (in_c 1 rfl) rfl)) (hp41 _ _ ?_)
                  show GG _ _ _ _ _ _ _ _ [.int (Int32.ofInt 1)] _ _ _
                  refine g_if_eq 47 49 (gd rfl) rfl rfl (fun c44 => ?_) (fun c44 => ?_)
                  · skip
                    exact zn_eq c44 (in_c 1 rfl) rfl
                  · skip
                    refine g_iconst 0 48 (gd rfl) rfl rfl ?_
                    have n48 : CDR s (sF s 109 0 (Int32.ofInt 1)) (HNR s x1 ∧ In x2 0 25) ((s.2.2.1 109 9).toInt ≤ 3999) (((Int32.ofInt 0)) = s.1 111 (x1).toNatClampNeg ∧ gvR (sF s 109 0 (Int32.ofInt 1)) = gqL (gvR s) (x1).toNatClampNeg x2) := by first | exact Or.inl ⟨rfl, (by first | (unfold HNR In; rw [show s.1 110 0 = z3x10 from e3x10.symm]; have a0 := oa5 i3x11 ((inv_F hI 0 2 rfl e_109_0)) i33 i15x3b ((in_c 1 rfl)); have a5 := tx_i2l e10; have oc := oc_285_109; omega) | (unfold HNR In; have a0 := oa5 i3x11 ((inv_F hI 0 2 rfl e_109_0)) i33 i15x3b ((in_c 1 rfl)); have a5 := tx_i2l e10; have oc := oc_285_109; omega)), (gvR_cg (L := ([], [], [(109, 0)], [])) (fr_sF rfl fr_rf) rfl)⟩ | exact Or.inr (Or.inl ⟨rfl, ⟨⟨by have a0 := oa5 i3x11 ((inv_F hI 0 2 rfl e_109_0)) i33 i15x3b ((in_c 1 rfl)); have a5 := tx_i2l e10; have oc := oc_285_109; omega, by rw [show s.1 110 0 = z3x10 from e3x10.symm]; have a0 := oa5 i3x11 ((inv_F hI 0 2 rfl e_109_0)) i33 i15x3b ((in_c 1 rfl)); have a5 := tx_i2l e10; have oc := oc_285_109; omega⟩, ⟨by have a0 := oa5 i3x11 ((inv_F hI 0 2 rfl e_109_0)) i33 i15x3b ((in_c 1 rfl)); have a5 := tx_i2l e10; have oc := oc_285_109; omega, by have a0 := oa5 i3x11 ((inv_F hI 0 2 rfl e_109_0)) i33 i15x3b ((in_c 1 rfl)); have a5 := tx_i2l e10; have oc := oc_285_109; omega⟩⟩, (by rw [← e_109_9]; have a0 := oa5 i3x11 ((inv_F hI 0 2 rfl e_109_0)) i33 i15x3b ((in_c 1 rfl)); have a5 := tx_i2l e10; have oc := oc_285_109; omega), (gvR_cg (L := ([], [], [(109, 0)], [])) (fr_sF rfl fr_rf) rfl)⟩)
                    have n48a : LGX s (sF s 109 0 (Int32.ofInt 1)) (Int32.ofInt 4) x1 x2 (Int32.ofInt 0) (Int32.ofInt 0) (Int32.ofInt 0) (Int32.ofInt 0) := by exact Or.inl ⟨rfl, rfl, rfl, rfl, rfl, rfl, rfl, rfl⟩
                    have n48b : GSE s → GSE (sF s 109 0 (Int32.ofInt 1)) := by exact fun h => gse_fr (L := ([], [], [(109, 0)], [])) h (fr_sF rfl fr_rf) rfl
                    have n48c : G1S s (sF s 109 0 (Int32.ofInt 1)) := by exact ⟨rfl, fun _ _ => rfl, fun _ _ _ => ⟨rfl, rfl, rfl, rfl, rfl, rfl⟩⟩
                    exact g_ireturn (gd rfl) rfl rfl (hP _ _ ⟨(sF s 109 0 (Int32.ofInt 1)), hI41x18, (fr_sF rfl fr_rf), (Int32.ofInt 0), rfl, rfl, in_w 0 25 (in_c 0 rfl) rfl, n48, n48a, n48b, n48c⟩)
          · skip
            exact zn_ne c18 (in_c 0 rfl) rfl
        · skip
          have i15x3 := z_ge 0 1 c15x3 i15x2 rfl
          have c15x3a := lc_ge e15x2 c15x3
          have i15x3a := lr_le2 0 2147483647 c15x3a (l_c 0 rfl) i10 rfl
          have i15x3b := l_b e10 i15x3a
          refine g_lload_n 7 (gd rfl) rfl rfl ?_
          refine g_lload 9 (gd rfl) rfl rfl ?_
          refine g_lcmp 10 (gd rfl) rfl (fun z15x9 e15x9 => ?_)
          have i15x9 := lc_in e15x9
          refine g_if_gt 13 17 (gd rfl) rfl rfl (fun c15x10 => ?_) (fun c15x10 => ?_)
          · skip
            have i15x10 := z_gt 1 1 c15x10 i15x9 rfl
            have c15x10a := lc_gt e15x9 c15x10
            have i15x10a := lr_lt2 26 2147483647 c15x10a (l_c 25 rfl) i15x3a rfl
            have i15x10b := l_b e10 i15x10a
            refine g_iconst 0 18 (gd rfl) rfl rfl ?_
            refine g_ireturn (gd rfl) rfl (nb01 (in_w 0 1 (in_c 0 rfl) rfl)) (hp15 _ _ ?_)
            show GG _ _ _ _ _ _ _ _ [.int (Int32.ofInt 0), .ref (A 109)] _ _ _
            refine g_if_eq 21 25 (gd rfl) rfl rfl (fun c18 => ?_) (fun c18 => ?_)
            · skip
              refine g_iconst 0 26 (gd rfl) rfl rfl ?_
              refine g_aload_n 27 (gd rfl) rfl rfl ?_
              refine g_getI 30 (gd rfl) rfl rfl rfl (fun z27 e27 => ?_)
              have q27 : u_109_9 = z27 := (e_109_9).trans e27.symm
              subst q27
              refine g_sipush 4000 33 (gd rfl) rfl rfl ?_
              refine g_cmp_ge 36 40 (gd rfl) rfl rfl (fun c33 => ?_) (fun c33 => ?_)
              · skip
                have i33 := r_le2 4000 4000 c33 (in_c 4000 rfl) (inv_F hI 0 4000 rfl e_109_9) rfl
                refine g_iconst 0 41 (gd rfl) rfl rfl ?_
                refine g_callv (X := _) (As := [.int (Int32.ofInt 0), .int (Int32.ofInt 0)]) (r := []) (b := A 109) (q := 109) 44 (gd rfl) rfl rfl rfl rfl rfl (ww_o rfl) (Nat.le_of_ble_eq_true rfl) (mc := 0) (ms := 0) (Nat.zero_le _) (Nat.zero_le _) (P := fun v u => _) ?_ (fun e u h => h) (fun v u h => h)
                intro po41 xx41 hp41 hx41
                refine g_enter2 (k := 270) (N := 300) (by first | exact dq1 hd rfl | exact dq0 hd rfl | exact dq2 hd rfl | exact dq3 hd rfl | omega) rfl (Nat.le_of_ble_eq_true rfl) ?_
                refine g_aload_n 1 (gd rfl) rfl rfl ?_
                refine g_iload_n 2 (gd rfl) rfl rfl ?_
                refine g_if_ne 5 9 (gd rfl) rfl rfl (fun c41x2 => ?_) (fun c41x2 => ?_)
                · skip
                  exact zn_ne c41x2 (in_c 0 rfl) rfl
                · skip
                  refine g_iconst 1 6 (gd rfl) rfl rfl ?_
                  refine g_goto 18 (gd rfl) rfl ?_
                  refine g_putI 21 (gd rfl) rfl rfl rfl rfl ?_
                  have hI41x18 := inv_sF (q := 109) (j := 0) hI rfl (in_w 0 2 (in_c 1 rfl) rfl)
                  refine g_aload_n 22 (gd rfl) rfl rfl ?_
                  refine g_getI 25 (gd rfl) rfl rfl rfl (fun z41x22 e41x22 => ?_)
                  have q41x22 : (Int32.ofInt 1) = z41x22 := (sF_get).trans e41x22.symm
                  subst q41x22
                  refine g_if_le 28 32 (gd rfl) rfl rfl (fun c41x25 => ?_) (fun c41x25 => ?_)
                  · skip
                    exact zn_le c41x25 (in_c 1 rfl) rfl
                  · skip
                    refine g_iconst 1 29 (gd rfl) rfl rfl ?_
                    refine g_goto 33 (gd rfl) rfl ?_
                    refine g_ireturn (gd rfl) rfl (nb01 (in_w 0 1 (in_c 1 rfl) rfl)) (hp41 _ _ ?_)
                    show GG _ _ _ _ _ _ _ _ [.int (Int32.ofInt 1)] _ _ _
                    refine g_if_eq 47 49 (gd rfl) rfl rfl (fun c44 => ?_) (fun c44 => ?_)
                    · skip
                      exact zn_eq c44 (in_c 1 rfl) rfl
                    · skip
                      refine g_iconst 0 48 (gd rfl) rfl rfl ?_
                      have n48 : CDR s (sF s 109 0 (Int32.ofInt 1)) (HNR s x1 ∧ In x2 0 25) ((s.2.2.1 109 9).toInt ≤ 3999) (((Int32.ofInt 0)) = s.1 111 (x1).toNatClampNeg ∧ gvR (sF s 109 0 (Int32.ofInt 1)) = gqL (gvR s) (x1).toNatClampNeg x2) := by first | exact Or.inl ⟨rfl, (by first | (unfold HNR In; rw [show s.1 110 0 = z3x10 from e3x10.symm]; have a0 := oa5 i3x11 ((inv_F hI 0 2 rfl e_109_0)) i33 i15x10b ((in_c 1 rfl)); have a5 := tx_i2l e10; have oc := oc_285_109; omega) | (unfold HNR In; have a0 := oa5 i3x11 ((inv_F hI 0 2 rfl e_109_0)) i33 i15x10b ((in_c 1 rfl)); have a5 := tx_i2l e10; have oc := oc_285_109; omega)), (gvR_cg (L := ([], [], [(109, 0)], [])) (fr_sF rfl fr_rf) rfl)⟩ | exact Or.inr (Or.inl ⟨rfl, ⟨⟨by have a0 := oa5 i3x11 ((inv_F hI 0 2 rfl e_109_0)) i33 i15x10b ((in_c 1 rfl)); have a5 := tx_i2l e10; have oc := oc_285_109; omega, by rw [show s.1 110 0 = z3x10 from e3x10.symm]; have a0 := oa5 i3x11 ((inv_F hI 0 2 rfl e_109_0)) i33 i15x10b ((in_c 1 rfl)); have a5 := tx_i2l e10; have oc := oc_285_109; omega⟩, ⟨by have a0 := oa5 i3x11 ((inv_F hI 0 2 rfl e_109_0)) i33 i15x10b ((in_c 1 rfl)); have a5 := tx_i2l e10; have oc := oc_285_109; omega, by have a0 := oa5 i3x11 ((inv_F hI 0 2 rfl e_109_0)) i33 i15x10b ((in_c 1 rfl)); have a5 := tx_i2l e10; have oc := oc_285_109; omega⟩⟩, (by rw [← e_109_9]; have a0 := oa5 i3x11 ((inv_F hI 0 2 rfl e_109_0)) i33 i15x10b ((in_c 1 rfl)); have a5 := tx_i2l e10; have oc := oc_285_109; omega), (gvR_cg (L := ([], [], [(109, 0)], [])) (fr_sF rfl fr_rf) rfl)⟩)
                      have n48a : LGX s (sF s 109 0 (Int32.ofInt 1)) (Int32.ofInt 4) x1 x2 (Int32.ofInt 0) (Int32.ofInt 0) (Int32.ofInt 0) (Int32.ofInt 0) := by exact Or.inl ⟨rfl, rfl, rfl, rfl, rfl, rfl, rfl, rfl⟩
                      have n48b : GSE s → GSE (sF s 109 0 (Int32.ofInt 1)) := by exact fun h => gse_fr (L := ([], [], [(109, 0)], [])) h (fr_sF rfl fr_rf) rfl
                      have n48c : G1S s (sF s 109 0 (Int32.ofInt 1)) := by exact ⟨rfl, fun _ _ => rfl, fun _ _ _ => ⟨rfl, rfl, rfl, rfl, rfl, rfl⟩⟩
                      exact g_ireturn (gd rfl) rfl rfl (hP _ _ ⟨(sF s 109 0 (Int32.ofInt 1)), hI41x18, (fr_sF rfl fr_rf), (Int32.ofInt 0), rfl, rfl, in_w 0 25 (in_c 0 rfl) rfl, n48, n48a, n48b, n48c⟩)
              · skip
                have i33 := r_lt1 0 3999 c33 (inv_F hI 0 4000 rfl e_109_9) (in_c 4000 rfl) rfl
                refine g_iconst 1 37 (gd rfl) rfl rfl ?_
                refine g_goto 41 (gd rfl) rfl ?_
                refine g_callv (X := _) (As := [.int (Int32.ofInt 0), .int (Int32.ofInt 1)]) (r := []) (b := A 109) (q := 109) 44 (gd rfl) rfl rfl rfl rfl rfl (ww_o rfl) (Nat.le_of_ble_eq_true rfl) (mc := 0) (ms := 0) (Nat.zero_le _) (Nat.zero_le _) (P := fun v u => _) ?_ (fun e u h => h) (fun v u h => h)
                intro po41 xx41 hp41 hx41
                refine g_enter2 (k := 270) (N := 300) (by first | exact dq1 hd rfl | exact dq0 hd rfl | exact dq2 hd rfl | exact dq3 hd rfl | omega) rfl (Nat.le_of_ble_eq_true rfl) ?_
                refine g_aload_n 1 (gd rfl) rfl rfl ?_
                refine g_iload_n 2 (gd rfl) rfl rfl ?_
                refine g_if_ne 5 9 (gd rfl) rfl rfl (fun c41x2 => ?_) (fun c41x2 => ?_)
                · skip
                  exact zn_ne c41x2 (in_c 0 rfl) rfl
                · skip
                  refine g_iconst 1 6 (gd rfl) rfl rfl ?_
                  refine g_goto 18 (gd rfl) rfl ?_
                  refine g_putI 21 (gd rfl) rfl rfl rfl rfl ?_
                  have hI41x18 := inv_sF (q := 109) (j := 0) hI rfl (in_w 0 2 (in_c 1 rfl) rfl)
                  refine g_aload_n 22 (gd rfl) rfl rfl ?_
                  refine g_getI 25 (gd rfl) rfl rfl rfl (fun z41x22 e41x22 => ?_)
                  have q41x22 : (Int32.ofInt 1) = z41x22 := (sF_get).trans e41x22.symm
                  subst q41x22
                  refine g_if_le 28 32 (gd rfl) rfl rfl (fun c41x25 => ?_) (fun c41x25 => ?_)
                  · skip
                    exact zn_le c41x25 (in_c 1 rfl) rfl
                  · skip
                    refine g_iconst 1 29 (gd rfl) rfl rfl ?_
                    refine g_goto 33 (gd rfl) rfl ?_
                    refine g_ireturn (gd rfl) rfl (nb01 (in_w 0 1 (in_c 1 rfl) rfl)) (hp41 _ _ ?_)
                    show GG _ _ _ _ _ _ _ _ [.int (Int32.ofInt 1)] _ _ _
                    refine g_if_eq 47 49 (gd rfl) rfl rfl (fun c44 => ?_) (fun c44 => ?_)
                    · skip
                      exact zn_eq c44 (in_c 1 rfl) rfl
                    · skip
                      refine g_iconst 0 48 (gd rfl) rfl rfl ?_
                      have n48 : CDR s (sF s 109 0 (Int32.ofInt 1)) (HNR s x1 ∧ In x2 0 25) ((s.2.2.1 109 9).toInt ≤ 3999) (((Int32.ofInt 0)) = s.1 111 (x1).toNatClampNeg ∧ gvR (sF s 109 0 (Int32.ofInt 1)) = gqL (gvR s) (x1).toNatClampNeg x2) := by first | exact Or.inl ⟨rfl, (by first | (unfold HNR In; rw [show s.1 110 0 = z3x10 from e3x10.symm]; have a0 := oa5 i3x11 ((inv_F hI 0 2 rfl e_109_0)) i33 i15x10b ((in_c 1 rfl)); have a5 := tx_i2l e10; have oc := oc_285_109; omega) | (unfold HNR In; have a0 := oa5 i3x11 ((inv_F hI 0 2 rfl e_109_0)) i33 i15x10b ((in_c 1 rfl)); have a5 := tx_i2l e10; have oc := oc_285_109; omega)), (gvR_cg (L := ([], [], [(109, 0)], [])) (fr_sF rfl fr_rf) rfl)⟩ | exact Or.inr (Or.inl ⟨rfl, ⟨⟨by have a0 := oa5 i3x11 ((inv_F hI 0 2 rfl e_109_0)) i33 i15x10b ((in_c 1 rfl)); have a5 := tx_i2l e10; have oc := oc_285_109; omega, by rw [show s.1 110 0 = z3x10 from e3x10.symm]; have a0 := oa5 i3x11 ((inv_F hI 0 2 rfl e_109_0)) i33 i15x10b ((in_c 1 rfl)); have a5 := tx_i2l e10; have oc := oc_285_109; omega⟩, ⟨by have a0 := oa5 i3x11 ((inv_F hI 0 2 rfl e_109_0)) i33 i15x10b ((in_c 1 rfl)); have a5 := tx_i2l e10; have oc := oc_285_109; omega, by have a0 := oa5 i3x11 ((inv_F hI 0 2 rfl e_109_0)) i33 i15x10b ((in_c 1 rfl)); have a5 := tx_i2l e10; have oc := oc_285_109; omega⟩⟩, (by rw [← e_109_9]; have a0 := oa5 i3x11 ((inv_F hI 0 2 rfl e_109_0)) i33 i15x10b ((in_c 1 rfl)); have a5 := tx_i2l e10; have oc := oc_285_109; omega), (gvR_cg (L := ([], [], [(109, 0)], [])) (fr_sF rfl fr_rf) rfl)⟩)
                      have n48a : LGX s (sF s 109 0 (Int32.ofInt 1)) (Int32.ofInt 4) x1 x2 (Int32.ofInt 0) (Int32.ofInt 0) (Int32.ofInt 0) (Int32.ofInt 0) := by exact Or.inl ⟨rfl, rfl, rfl, rfl, rfl, rfl, rfl, rfl⟩
                      have n48b : GSE s → GSE (sF s 109 0 (Int32.ofInt 1)) := by exact fun h => gse_fr (L := ([], [], [(109, 0)], [])) h (fr_sF rfl fr_rf) rfl
                      have n48c : G1S s (sF s 109 0 (Int32.ofInt 1)) := by exact ⟨rfl, fun _ _ => rfl, fun _ _ _ => ⟨rfl, rfl, rfl, rfl, rfl, rfl⟩⟩
                      exact g_ireturn (gd rfl) rfl rfl (hP _ _ ⟨(sF s 109 0 (Int32.ofInt 1)), hI41x18, (fr_sF rfl fr_rf), (Int32.ofInt 0), rfl, rfl, in_w 0 25 (in_c 0 rfl) rfl, n48, n48a, n48b, n48c⟩)
            · skip
              exact zn_ne c18 (in_c 0 rfl) rfl
          · skip
            have i15x10 := z_le (-1) 0 c15x10 i15x9 rfl
            have c15x10a := lc_le e15x9 c15x10
            have i15x10a := lr_le1 0 25 c15x10a i15x3a (l_c 25 rfl) rfl
            have i15x10b := l_b e10 i15x10a
            refine g_iconst 1 14 (gd rfl) rfl rfl ?_
            refine g_goto 18 (gd rfl) rfl ?_
            refine g_ireturn (gd rfl) rfl (nb01 (in_w 0 1 (in_c 1 rfl) rfl)) (hp15 _ _ ?_)
            show GG _ _ _ _ _ _ _ _ [.int (Int32.ofInt 1), .ref (A 109)] _ _ _
            refine g_if_eq 21 25 (gd rfl) rfl rfl (fun c18 => ?_) (fun c18 => ?_)
            · skip
              exact zn_eq c18 (in_c 1 rfl) rfl
            · skip
              refine g_iconst 1 22 (gd rfl) rfl rfl ?_
              refine g_goto 26 (gd rfl) rfl ?_
              refine g_aload_n 27 (gd rfl) rfl rfl ?_
              refine g_getI 30 (gd rfl) rfl rfl rfl (fun z27 e27 => ?_)
              have q27 : u_109_9 = z27 := (e_109_9).trans e27.symm
              subst q27
              refine g_sipush 4000 33 (gd rfl) rfl rfl ?_
              refine g_cmp_ge 36 40 (gd rfl) rfl rfl (fun c33 => ?_) (fun c33 => ?_)
              · skip
                have i33 := r_le2 4000 4000 c33 (in_c 4000 rfl) (inv_F hI 0 4000 rfl e_109_9) rfl
                refine g_iconst 0 41 (gd rfl) rfl rfl ?_
                refine g_callv (X := _) (As := [.int (Int32.ofInt 1), .int (Int32.ofInt 0)]) (r := []) (b := A 109) (q := 109) 44 (gd rfl) rfl rfl rfl rfl rfl (ww_o rfl) (Nat.le_of_ble_eq_true rfl) (mc := 0) (ms := 0) (Nat.zero_le _) (Nat.zero_le _) (P := fun v u => _) ?_ (fun e u h => h) (fun v u h => h)
                intro po41 xx41 hp41 hx41
                refine g_enter2 (k := 270) (N := 300) (by first | exact dq1 hd rfl | exact dq0 hd rfl | exact dq2 hd rfl | exact dq3 hd rfl | omega) rfl (Nat.le_of_ble_eq_true rfl) ?_
                refine g_aload_n 1 (gd rfl) rfl rfl ?_
                refine g_iload_n 2 (gd rfl) rfl rfl ?_
                refine g_if_ne 5 9 (gd rfl) rfl rfl (fun c41x2 => ?_) (fun c41x2 => ?_)
                · skip
                  refine g_iload_n 10 (gd rfl) rfl rfl ?_
                  refine g_if_ne 13 17 (gd rfl) rfl rfl (fun c41x10 => ?_) (fun c41x10 => ?_)
                  · skip
                    exact zn_ne c41x10 (in_c 0 rfl) rfl
                  · skip
                    refine g_iconst 2 14 (gd rfl) rfl rfl ?_
                    refine g_goto 18 (gd rfl) rfl ?_
                    refine g_putI 21 (gd rfl) rfl rfl rfl rfl ?_
                    have hI41x18 := inv_sF (q := 109) (j := 0) hI rfl (in_w 0 2 (in_c 2 rfl) rfl)
                    refine g_aload_n 22 (gd rfl) rfl rfl ?_
                    refine g_getI 25 (gd rfl) rfl rfl rfl (fun z41x22 e41x22 => ?_)
                    have q41x22 : (Int32.ofInt 2) = z41x22 := (sF_get).trans e41x22.symm
                    subst q41x22
                    refine g_if_le 28 32 (gd rfl) rfl rfl (fun c41x25 => ?_) (fun c41x25 => ?_)
                    · skip
                      exact zn_le c41x25 (in_c 2 rfl) rfl
                    · skip
                      refine g_iconst 1 29 (gd rfl) rfl rfl ?_
                      refine g_goto 33 (gd rfl) rfl ?_
                      refine g_ireturn (gd rfl) rfl (nb01 (in_w 0 1 (in_c 1 rfl) rfl)) (hp41 _ _ ?_)
                      show GG _ _ _ _ _ _ _ _ [.int (Int32.ofInt 1)] _ _ _
                      refine g_if_eq 47 49 (gd rfl) rfl rfl (fun c44 => ?_) (fun c44 => ?_)
                      · skip
                        exact zn_eq c44 (in_c 1 rfl) rfl
                      · skip
                        refine g_iconst 0 48 (gd rfl) rfl rfl ?_
                        have n48 : CDR s (sF s 109 0 (Int32.ofInt 2)) (HNR s x1 ∧ In x2 0 25) ((s.2.2.1 109 9).toInt ≤ 3999) (((Int32.ofInt 0)) = s.1 111 (x1).toNatClampNeg ∧ gvR (sF s 109 0 (Int32.ofInt 2)) = gqL (gvR s) (x1).toNatClampNeg x2) := by first | exact Or.inl ⟨rfl, (by first | (unfold HNR In; rw [show s.1 110 0 = z3x10 from e3x10.symm]; have a0 := oa5 i15x10b i3x11 ((inv_F hI 0 2 rfl e_109_0)) i33 ((in_c 2 rfl)); have a5 := tx_i2l e10; have oc := oc_285_109; omega) | (unfold HNR In; have a0 := oa5 i15x10b i3x11 ((inv_F hI 0 2 rfl e_109_0)) i33 ((in_c 2 rfl)); have a5 := tx_i2l e10; have oc := oc_285_109; omega)), (gvR_cg (L := ([], [], [(109, 0)], [])) (fr_sF rfl fr_rf) rfl)⟩ | exact Or.inr (Or.inl ⟨rfl, ⟨⟨by have a0 := oa5 i15x10b i3x11 ((inv_F hI 0 2 rfl e_109_0)) i33 ((in_c 2 rfl)); have a5 := tx_i2l e10; have oc := oc_285_109; omega, by rw [show s.1 110 0 = z3x10 from e3x10.symm]; have a0 := oa5 i15x10b i3x11 ((inv_F hI 0 2 rfl e_109_0)) i33 ((in_c 2 rfl)); have a5 := tx_i2l e10; have oc := oc_285_109; omega⟩, ⟨by have a0 := oa5 i15x10b i3x11 ((inv_F hI 0 2 rfl e_109_0)) i33 ((in_c 2 rfl)); have a5 := tx_i2l e10; have oc := oc_285_109; omega, by have a0 := oa5 i15x10b i3x11 ((inv_F hI 0 2 rfl e_109_0)) i33 ((in_c 2 rfl)); have a5 := tx_i2l e10; have oc := oc_285_109; omega⟩⟩, (by rw [← e_109_9]; have a0 := oa5 i15x10b i3x11 ((inv_F hI 0 2 rfl e_109_0)) i33 ((in_c 2 rfl)); have a5 := tx_i2l e10; have oc := oc_285_109; omega), (gvR_cg (L := ([], [], [(109, 0)], [])) (fr_sF rfl fr_rf) rfl)⟩)
                        have n48a : LGX s (sF s 109 0 (Int32.ofInt 2)) (Int32.ofInt 4) x1 x2 (Int32.ofInt 0) (Int32.ofInt 0) (Int32.ofInt 0) (Int32.ofInt 0) := by exact Or.inl ⟨rfl, rfl, rfl, rfl, rfl, rfl, rfl, rfl⟩
                        have n48b : GSE s → GSE (sF s 109 0 (Int32.ofInt 2)) := by exact fun h => gse_fr (L := ([], [], [(109, 0)], [])) h (fr_sF rfl fr_rf) rfl
                        have n48c : G1S s (sF s 109 0 (Int32.ofInt 2)) := by exact ⟨rfl, fun _ _ => rfl, fun _ _ _ => ⟨rfl, rfl, rfl, rfl, rfl, rfl⟩⟩
                        exact g_ireturn (gd rfl) rfl rfl (hP _ _ ⟨(sF s 109 0 (Int32.ofInt 2)), hI41x18, (fr_sF rfl fr_rf), (Int32.ofInt 0), rfl, rfl, in_w 0 25 (in_c 0 rfl) rfl, n48, n48a, n48b, n48c⟩)
                · skip
                  exact zn_eq c41x2 (in_c 1 rfl) rfl
              · skip
                have i33 := r_lt1 0 3999 c33 (inv_F hI 0 4000 rfl e_109_9) (in_c 4000 rfl) rfl
                refine g_iconst 1 37 (gd rfl) rfl rfl ?_
                refine g_goto 41 (gd rfl) rfl ?_
                refine g_callv (X := _) (As := [.int (Int32.ofInt 1), .int (Int32.ofInt 1)]) (r := []) (b := A 109) (q := 109) 44 (gd rfl) rfl rfl rfl rfl rfl (ww_o rfl) (Nat.le_of_ble_eq_true rfl) (mc := 0) (ms := 0) (Nat.zero_le _) (Nat.zero_le _) (P := fun v u => _) ?_ (fun e u h => h) (fun v u h => h)
                intro po41 xx41 hp41 hx41
                refine g_enter2 (k := 270) (N := 300) (by first | exact dq1 hd rfl | exact dq0 hd rfl | exact dq2 hd rfl | exact dq3 hd rfl | omega) rfl (Nat.le_of_ble_eq_true rfl) ?_
                refine g_aload_n 1 (gd rfl) rfl rfl ?_
                refine g_iload_n 2 (gd rfl) rfl rfl ?_
                refine g_if_ne 5 9 (gd rfl) rfl rfl (fun c41x2 => ?_) (fun c41x2 => ?_)
                · skip
                  refine g_iload_n 10 (gd rfl) rfl rfl ?_
                  refine g_if_ne 13 17 (gd rfl) rfl rfl (fun c41x10 => ?_) (fun c41x10 => ?_)
                  · skip
                    refine g_iconst 0 18 (gd rfl) rfl rfl ?_
                    refine g_putI 21 (gd rfl) rfl rfl rfl rfl ?_
                    have hI41x18 := inv_sF (q := 109) (j := 0) hI rfl (in_w 0 2 (in_c 0 rfl) rfl)
                    refine g_aload_n 22 (gd rfl) rfl rfl ?_
                    refine g_getI 25 (gd rfl) rfl rfl rfl (fun z41x22 e41x22 => ?_)
                    have q41x22 : (Int32.ofInt 0) = z41x22 := (sF_get).trans e41x22.symm
                    subst q41x22
                    refine g_if_le 28 32 (gd rfl) rfl rfl (fun c41x25 => ?_) (fun c41x25 => ?_)
                    · skip
                      refine g_iconst 0 33 (gd rfl) rfl rfl ?_
                      refine g_ireturn (gd rfl) rfl (nb01 (in_w 0 1 (in_c 0 rfl) rfl)) (hp41 _ _ ?_)
                      show GG _ _ _ _ _ _ _ _ [.int (Int32.ofInt 0)] _ _ _
                      refine g_if_eq 47 49 (gd rfl) rfl rfl (fun c44 => ?_) (fun c44 => ?_)
                      · skip
                        refine g_aload_n 50 (gd rfl) rfl rfl ?_
                        refine g_getA (q2 := 111) 53 (gd rfl) rfl rfl rfl rfl ?_
                        refine g_iload_n 54 (gd rfl) rfl rfl ?_
                        refine g_iaload 55 (gd rfl) rfl (n := 96) rfl (in_ix i3x11 rfl) (fun z54 e54 => ?_)
                        have i54 := inv_I hI41x18 (n := 96) (t := 0) 0 25 rfl (in_ix i3x11 rfl) rfl e54
                        refine g_istore_n 56 (gd rfl) rfl (Nat.le_of_ble_eq_true rfl) ?_
                        refine g_aload_n 57 (gd rfl) rfl rfl ?_
                        refine g_iconst 4 58 (gd rfl) rfl rfl ?_
                        refine g_iload_n 59 (gd rfl) rfl rfl ?_
                        refine g_iload_n 60 (gd rfl) rfl rfl ?_
                        refine g_iconst 0 61 (gd rfl) rfl rfl ?_
                        refine g_iconst 0 62 (gd rfl) rfl rfl ?_
                        refine g_iconst 0 63 (gd rfl) rfl rfl ?_
                        refine g_iconst 0 64 (gd rfl) rfl rfl ?_
                        have v64 : u_109_9 = (sF s 109 0 (Int32.ofInt 0)).2.2.1 109 9 := sF_ne rfl (e_109_9)
                        have p64 : MK (sF s 109 0 (Int32.ofInt 0)) (Int32.ofInt 4) x1 x2 (Int32.ofInt 0) := by refine ⟨fun h => absurd h (by decide), fun h => absurd h (by decide), fun h => absurd h (by decide), fun h => absurd h (by decide), fun _ => ?_⟩; have e0 : ((sF s 109 0 (Int32.ofInt 0))).1 110 0 = z3x10 := e3x10.symm; rw [e0]; exact ⟨c3x11, by have a0 := oa6 i15x10b i3x11 ((inv_F hI 0 2 rfl e_109_0)) i33 i54 ((in_c 0 rfl)); have a6 := tx_i2l e10; have oc := oc_285_109; omega⟩
                        refine g_callv (X := _) (As := [.int (Int32.ofInt 4), .int x1, .int x2, .int (Int32.ofInt 0), .int (Int32.ofInt 0), .int (Int32.ofInt 0), .int (Int32.ofInt 0)]) (r := []) (b := A 109) (q := 109) 67 (gd rfl) rfl rfl rfl rfl rfl (ww_o rfl) (Nat.le_of_ble_eq_true rfl) (Nat.zero_le _) (Nat.zero_le _) (f_274 (by first | exact dq1 hd rfl | exact dq0 hd rfl | exact dq2 hd rfl | exact dq3 hd rfl | omega) hI41x18 (in_w 0 4 (in_c 4 rfl) rfl) (in_w 0 159 i3x11 rfl) (in_w 0 31 i15x10b rfl) (in_w (-1000000) 1000000 (in_c 0 rfl) rfl) (in_w (-1000000) 1000000 (in_c 0 rfl) rfl) (in_w 0 1000000 (in_c 0 rfl) rfl) (in_w 0 25 (in_c 0 rfl) rfl) v64 (in_w 0 3999 i33 rfl) p64) (fun e u h => h) (fun v u h => ?_)
                        obtain ⟨s64, hI64, hF64, n64, rfl, rfl, p64a, p64b, p64c, p64d, p64e⟩ := h
                        obtain ⟨z64a, e64⟩ : ∃ w, w = s64.2.2.1 109 9 := ⟨_, rfl⟩
                        have i64a := inv_F hI64 0 4000 rfl e64
                        rw [← (show u_109_9 = (sF s 109 0 (Int32.ofInt 0)).2.2.1 109 9 from sF_ne rfl (e_109_9))] at n64
                        rw [← (show z64a = s64.2.2.1 109 9 from e64)] at n64
                        show GG _ _ _ _ _ _ _ _ [] _ _ _
                        refine g_iload_n 68 (gd rfl) rfl rfl ?_
                        have n68 : CDR s s64 (HNR s x1 ∧ In x2 0 25) ((s.2.2.1 109 9).toInt ≤ 3999) ((z54) = s.1 111 (x1).toNatClampNeg ∧ gvR s64 = gqL (gvR s) (x1).toNatClampNeg x2) := by exact Or.inr (Or.inr ⟨(by have hc9 : s64.2.2.1 109 0 = Int32.ofInt 0 := (hF64.2.2.1 109 0 rfl).trans rfl; rw [hc9]; rfl), ⟨⟨by have a0 := oa7 i15x10b i3x11 ((inv_F hI 0 2 rfl e_109_0)) i33 i54 i64a ((in_c 0 rfl)); have a7 := tx_i2l e10; have oc := oc_285_109; omega, by rw [show s.1 110 0 = z3x10 from e3x10.symm]; have a0 := oa7 i15x10b i3x11 ((inv_F hI 0 2 rfl e_109_0)) i33 i54 i64a ((in_c 0 rfl)); have a7 := tx_i2l e10; have oc := oc_285_109; omega⟩, ⟨by have a0 := oa7 i15x10b i3x11 ((inv_F hI 0 2 rfl e_109_0)) i33 i54 i64a ((in_c 0 rfl)); have a7 := tx_i2l e10; have oc := oc_285_109; omega, by have a0 := oa7 i15x10b i3x11 ((inv_F hI 0 2 rfl e_109_0)) i33 i54 i64a ((in_c 0 rfl)); have a7 := tx_i2l e10; have oc := oc_285_109; omega⟩⟩, (by rw [← e_109_9]; have a0 := oa7 i15x10b i3x11 ((inv_F hI 0 2 rfl e_109_0)) i33 i54 i64a ((in_c 0 rfl)); have a7 := tx_i2l e10; have oc := oc_285_109; omega), e54, (by have hm := (p64b).2.2.2.2 rfl; rw [hm, gvR_cg (L := ([], [], [(109, 0)], [])) (fr_sF rfl fr_rf) rfl] <;> rfl)⟩)
                        have n68a : LGX s s64 (Int32.ofInt 4) x1 x2 (Int32.ofInt 0) (Int32.ofInt 0) (Int32.ofInt 0) (Int32.ofInt 0) := by exact Or.inr p64c
                        have n68b : GSE s → GSE s64 := by exact fun _ => p64d
                        have n68c : G1S s s64 := by exact p64e
                        exact g_ireturn (gd rfl) rfl rfl (hP _ _ ⟨s64, hI64, (fr_tr rfl (fr_sF rfl fr_rf) hF64), z54, rfl, rfl, in_w 0 25 i54 rfl, n68, n68a, n68b, n68c⟩)
                      · skip
                        exact zn_ne c44 (in_c 0 rfl) rfl
                    · skip
                      exact zn_gt c41x25 (in_c 0 rfl) rfl
                  · skip
                    exact zn_eq c41x10 (in_c 1 rfl) rfl
                · skip
                  exact zn_eq c41x2 (in_c 1 rfl) rfl

theorem oc_303_109 : (Int32.ofInt (-1)).toInt = (-1) ∧ (Int32.ofInt 0).toInt = 0 ∧ (Int32.ofInt 1).toInt = 1 ∧ (Int32.ofInt 2).toInt = 2 ∧ (Int32.ofInt 160).toInt = 160 ∧ (Int32.ofInt 320).toInt = 320 := ⟨rfl, rfl, rfl, rfl, rfl, rfl⟩
/-- GraphHouseModel.copyGraph -/
theorem f_303 {Z : AmZ} {A : Nat → Nat} {s : GS} {ex : va_W} {d : Nat} {X : AmX}  (hd : 1 ≤ d) (hI : Inv s)  : GC Z d 303 [.ref (A 109)] (WW Z A s ++ ex) 0 0 (fun v u => ∃ t : GS, Inv t ∧ Fr fm_303 s t ∧ v = none ∧ u = WW Z A t ++ ex ∧ (t.1 110 2 = s.1 110 0 ∧ t.1 110 0 = s.1 110 0 ∧ ∀ i : Nat, i < 160 → t.1 112 (320 + i) = s.1 112 i ∧ t.1 112 i = s.1 112 i) ∧ (G12 s t)) X := by
  intro post xp hP hX
  have ct14 : ∀ (k14 : Nat) (sc14 : GS) (y14_1 : Int32), Inv sc14 → Fr fm_303 s sc14 → (In y14_1 0 160) → (sc14.1 110 2 = s.1 110 0 ∧ sc14.1 110 0 = s.1 110 0 ∧ (∀ i : Nat, i < 160 → sc14.1 112 i = s.1 112 i) ∧ ∀ i : Nat, (i : Int) < (y14_1).toInt → sc14.1 112 (320 + i) = s.1 112 i) → (sc14.1 110 1 = s.1 110 1 ∧ ∀ i : Nat, i < 320 → sc14.1 112 i = s.1 112 i) → 160 - (y14_1).toInt < (k14 : Int) → GG Z (d - 1) 303 post (gx xp) (1 + k14 * 900) 14 (fun j => xlook j [(0, .ref (A 109)), (1, .int y14_1)]) [] (WW Z A sc14 ++ ex) 0 0 := by
    intro k14
    induction k14 with
    | zero => intro sc14 y14_1 hIc14 hFc14 j14_1 g14_0 g14_1 mm14; exact m_no mm14 j14_1 rfl
    | succ k14 ih14 =>
      intro sc14 y14_1 hIc14 hFc14 j14_1 g14_0 g14_1 mm14
      refine gg_w (M := 1 + k14 * 900 + 900) gws ?_
      refine g_iload_n 15 (gd rfl) rfl rfl ?_
      refine g_sipush 160 18 (gd rfl) rfl rfl ?_
      refine g_cmp_ge 21 43 (gd rfl) rfl rfl (fun c18 => ?_) (fun c18 => ?_)
      · skip
        have i18 := r_le2 160 160 c18 (in_c 160 rfl) j14_1 rfl
        have n43 : sc14.1 110 2 = s.1 110 0 ∧ sc14.1 110 0 = s.1 110 0 ∧ ∀ i : Nat, i < 160 → sc14.1 112 (320 + i) = s.1 112 i ∧ sc14.1 112 i = s.1 112 i := by exact ⟨g14_0.1, g14_0.2.1, fun i hi => ⟨g14_0.2.2.2 i (by have a0 := in_u i18; have oc := oc_303_109; omega), g14_0.2.2.1 i hi⟩⟩
        have n43a : G12 s sc14 := by exact ⟨g14_1.1, fun i _ h => g14_1.2 i h⟩
        exact g_return (gd rfl) rfl (hP _ _ ⟨sc14, hIc14, hFc14, rfl, rfl, n43, n43a⟩)
      · skip
        have i18 := r_lt1 0 159 c18 j14_1 (in_c 160 rfl) rfl
        refine g_aload_n 22 (gd rfl) rfl rfl ?_
        refine g_getA (q2 := 112) 25 (gd rfl) rfl rfl rfl rfl ?_
        refine g_sipush 320 28 (gd rfl) rfl rfl ?_
        refine g_iload_n 29 (gd rfl) rfl rfl ?_
        refine g_iadd 30 (gd rfl) rfl (fun z29 e29 => ?_)
        have i29 := in_add 320 479 e29 (in_c 320 rfl) i18 rfl rfl
        refine g_aload_n 31 (gd rfl) rfl rfl ?_
        refine g_getA (q2 := 112) 34 (gd rfl) rfl rfl rfl rfl ?_
        refine g_iload_n 35 (gd rfl) rfl rfl ?_
        refine g_baload 36 (gd rfl) rfl (n := 480) rfl (in_ix i18 rfl) (fun z35 e35 => ?_)
        have i35 := inv_I hIc14 (n := 480) (t := 3) 0 1 rfl (in_ix i18 rfl) rfl e35
        refine g_bastore 37 (gd rfl) rfl (n := 480) rfl (in_ix i29 rfl) ?_
        have hI36 : Inv (sI sc14 112 z29.toNatClampNeg (vp_nar .boolean z35)) := by exact inv_t3 hIc14 (by show 320 ≤ (z29).toInt.toNat; have a0 := oa2 i18 i29; have a2 := t_add e29 (in_c 320 rfl) i18 rfl; have a3 := in_u ((in_c 320 rfl)); have oc := oc_303_109; omega) (in_w 0 1 (nar01 (in_w 0 1 i35 rfl)) rfl)
        refine g_iinc 40 (gd rfl) rfl rfl (Nat.le_of_ble_eq_true rfl) (fun z37 e37 => ?_)
        have i37 := in_add 1 160 e37 i18 (in_c 1 rfl) rfl rfl
        refine g_goto 14 (gd rfl) rfl ?_
        have n14 : (sI sc14 112 z29.toNatClampNeg (vp_nar .boolean z35)).1 110 2 = s.1 110 0 ∧ (sI sc14 112 z29.toNatClampNeg (vp_nar .boolean z35)).1 110 0 = s.1 110 0 ∧ (∀ i : Nat, i < 160 → (sI sc14 112 z29.toNatClampNeg (vp_nar .boolean z35)).1 112 i = s.1 112 i) ∧ ∀ i : Nat, (i : Int) < (z37).toInt → (sI sc14 112 z29.toNatClampNeg (vp_nar .boolean z35)).1 112 (320 + i) = s.1 112 i := by (have ez : z29.toNatClampNeg = 320 + y14_1.toNatClampNeg := (by show z29.toInt.toNat = 320 + y14_1.toInt.toNat; have a0 := oa2 i18 i37; have a2 := t_add e37 i18 (in_c 1 rfl) rfl; have a3 := oa2 ((in_c 1 rfl)) i29; have a5 := t_add e29 (in_c 320 rfl) i18 rfl; have a6 := in_u ((in_c 320 rfl)); have oc := oc_303_109; omega); have e1 : y14_1.toNatClampNeg = y14_1.toInt.toNat := rfl; refine ⟨by rw [sI_p rfl]; exact g14_0.1, by rw [sI_p rfl]; exact g14_0.2.1, fun i hi => ?_, fun i hi => ?_⟩ <;> rw [sI_q]; (rw [up_n (by omega)]; exact g14_0.2.2.1 i hi); (by_cases c : i = y14_1.toNatClampNeg; (rw [c, ← ez, up_e, nar_b i35, e35]; exact g14_0.2.2.1 _ (by have a0 := oa2 i18 i37; have a2 := t_add e37 i18 (in_c 1 rfl) rfl; have a3 := oa2 ((in_c 1 rfl)) i29; have a5 := t_add e29 (in_c 320 rfl) i18 rfl; have a6 := in_u ((in_c 320 rfl)); have oc := oc_303_109; omega)); (rw [up_n (by omega)]; exact g14_0.2.2.2 i (by have a0 := oa2 i18 i37; have a2 := t_add e37 i18 (in_c 1 rfl) rfl; have a3 := oa2 ((in_c 1 rfl)) i29; have a5 := t_add e29 (in_c 320 rfl) i18 rfl; have a6 := in_u ((in_c 320 rfl)); have oc := oc_303_109; omega))))
        have n14a : (sI sc14 112 z29.toNatClampNeg (vp_nar .boolean z35)).1 110 1 = s.1 110 1 ∧ ∀ i : Nat, i < 320 → (sI sc14 112 z29.toNatClampNeg (vp_nar .boolean z35)).1 112 i = s.1 112 i := by have ez : z29.toNatClampNeg = 320 + y14_1.toNatClampNeg := (by show z29.toInt.toNat = 320 + y14_1.toInt.toNat; have a0 := oa2 i18 i37; have a2 := t_add e37 i18 (in_c 1 rfl) rfl; have a3 := oa2 ((in_c 1 rfl)) i29; have a5 := t_add e29 (in_c 320 rfl) i18 rfl; have a6 := in_u ((in_c 320 rfl)); have oc := oc_303_109; omega); refine ⟨by rw [sI_p rfl]; exact g14_1.1, fun i hi => ?_⟩; rw [sI_q, up_n (by omega)]; exact g14_1.2 i hi
        exact gg_w (by first | exact Nat.le_add_right _ _ | exact gw2 | exact gw3 | exact gwe rfl | exact gwf rfl | exact gwg rfl | exact gwh rfl | omega) (gg_f (gf_cons rfl (gf_cons rfl gf_nil)) (ih14 (sI sc14 112 z29.toNatClampNeg (vp_nar .boolean z35)) z37 hI36 (fr_sI rfl hFc14) (in_w 0 160 i37 rfl) n14 n14a (m_up mm14 (t_add e37 i18 (in_c 1 rfl) rfl) (in_w 1 1 (in_c 1 rfl) rfl))))
  refine g_enter2 (k := 303) (N := 145801) (by first | exact dq1 hd rfl | exact dq0 hd rfl | exact dq2 hd rfl | exact dq3 hd rfl | omega) rfl (Nat.le_of_ble_eq_true rfl) ?_
  refine g_aload_n 1 (gd rfl) rfl rfl ?_
  refine g_getA (q2 := 110) 4 (gd rfl) rfl rfl rfl rfl ?_
  refine g_iconst 2 5 (gd rfl) rfl rfl ?_
  refine g_aload_n 6 (gd rfl) rfl rfl ?_
  refine g_getA (q2 := 110) 9 (gd rfl) rfl rfl rfl rfl ?_
  refine g_iconst 0 10 (gd rfl) rfl rfl ?_
  refine g_iaload 11 (gd rfl) rfl (n := 3) rfl (in_ix (in_c 0 rfl) rfl) (fun z10 e10 => ?_)
  have i10 := nn_01 hI (in_c 0 rfl) rfl e10
  refine g_iastore 12 (gd rfl) rfl (n := 3) rfl (in_ix (in_c 2 rfl) rfl) ?_
  have hI11 : Inv (sI s 110 (Int32.ofInt 2).toNatClampNeg z10) := by exact inv_n2 hI (Nat.le_refl 2)
  refine g_iconst 0 13 (gd rfl) rfl rfl ?_
  refine g_istore_n 14 (gd rfl) rfl (Nat.le_of_ble_eq_true rfl) ?_
  have n14 : (sI s 110 (Int32.ofInt 2).toNatClampNeg z10).1 110 2 = s.1 110 0 ∧ (sI s 110 (Int32.ofInt 2).toNatClampNeg z10).1 110 0 = s.1 110 0 ∧ (∀ i : Nat, i < 160 → (sI s 110 (Int32.ofInt 2).toNatClampNeg z10).1 112 i = s.1 112 i) ∧ ∀ i : Nat, (i : Int) < ((Int32.ofInt 0)).toInt → (sI s 110 (Int32.ofInt 2).toNatClampNeg z10).1 112 (320 + i) = s.1 112 i := by exact ⟨by rw [sI_q, e10]; exact up_e, by rw [sI_q]; exact up_n (by decide), fun i _ => by rw [sI_p rfl], fun i hi => (by exfalso; have h0 : (Int32.ofInt 0).toInt = 0 := rfl; omega)⟩
  have n14a : (sI s 110 (Int32.ofInt 2).toNatClampNeg z10).1 110 1 = s.1 110 1 ∧ ∀ i : Nat, i < 320 → (sI s 110 (Int32.ofInt 2).toNatClampNeg z10).1 112 i = s.1 112 i := by exact ⟨by rw [sI_q]; exact up_n (by decide), fun i _ => by rw [sI_p rfl]⟩
  exact gg_w (by first | exact Nat.le_of_ble_eq_true rfl | omega) (gg_f (gf_cons rfl (gf_cons rfl gf_nil)) (ct14 161 (sI s 110 (Int32.ofInt 2).toNatClampNeg z10) (Int32.ofInt 0) hI11 (fr_sI rfl fr_rf) (in_w 0 160 (in_c 0 rfl) rfl) n14 n14a (m_in 161 (in_w 0 160 (in_c 0 rfl) rfl) rfl)))

theorem oc_305_109 : (Int32.ofInt (-1)).toInt = (-1) ∧ (Int32.ofInt 0).toInt = 0 ∧ (Int32.ofInt 1).toInt = 1 ∧ (Int32.ofInt 2).toInt = 2 ∧ (Int32.ofInt 3).toInt = 3 ∧ (Int32.ofInt 32).toInt = 32 ∧ (Int32.ofInt 160).toInt = 160 ∧ (Int32.ofInt 320).toInt = 320 ∧ (Int64.ofInt (-1000000)).toInt = (-1000000) ∧ (Int64.ofInt 0).toInt = 0 ∧ (Int64.ofInt 159).toInt = 159 ∧ (Int64.ofInt 1000000).toInt = 1000000 := ⟨rfl, rfl, rfl, rfl, rfl, rfl, rfl, rfl, rfl, rfl, rfl, rfl⟩
/-- GraphHouseModel.isDone -/
theorem f_305 {Z : AmZ} {A : Nat → Nat} {s : GS} {ex : va_W} {d : Nat} {X : AmX} {x1 : Int32} {x2 : Int32} (hd : 4 ≤ d) (hI : Inv s) (h1 : In x1 97 119) (h2 : In x2 0 2495) (q_0 : 0 ≤ (s.1 110 2).toInt ∧ (s.1 110 2).toInt ≤ 32) (q_1 : C4 (x1).toInt) : GC Z d 305 [.ref (A 109), .int x1, .int x2] (WW Z A s ++ ex) 0 0 (fun v u => ∃ t : GS, Inv t ∧ Fr fm_305 s t ∧ ∃ z : Int32, v = some (.int z) ∧ u = WW Z A t ++ ex ∧ In z 0 1 ∧ (DNE s t (x1).toInt (x2).toNatClampNeg (z).toInt) ∧ (YNQ (z).toInt (DON s (x1).toInt (x2).toNatClampNeg)) ∧ (G12 s t)) X := by
  intro post xp hP hX
  have ct311 : ∀ (sc311 : GS) (y311_3 : Int32) (y311_4 : Int32), Inv sc311 → Fr fm_305 s sc311 → (sc311 = s) → (¬ DON s (x1).toInt (x2).toNatClampNeg) → GG Z (d - 1) 305 post (gx xp) (901) 311 (fun j => xlook j [(0, .ref (A 109)), (1, .int x1), (2, .int x2), (3, .int y311_3), (4, .int y311_4)]) [] (WW Z A sc311 ++ ex) 0 0 := by
    intro sc311 y311_3 y311_4 hIc311 hFc311 g311_0 g311_1
    refine g_iconst 0 312 (gd rfl) rfl rfl ?_
    have n312 : DNE s sc311 (x1).toInt (x2).toNatClampNeg ((Int32.ofInt 0)).toInt := by exact dne_no g311_0 (by decide)
    have n312a : YNQ ((Int32.ofInt 0)).toInt (DON s (x1).toInt (x2).toNatClampNeg) := by exact ⟨fun h => absurd rfl h, fun _ => g311_1⟩
    have n312b : G12 s sc311 := by exact g12_e g311_0
    exact g_ireturn (gd rfl) rfl (nb01 (in_w 0 1 (in_c 0 rfl) rfl)) (hP _ _ ⟨sc311, hIc311, hFc311, (Int32.ofInt 0), rfl, rfl, in_w 0 1 (in_c 0 rfl) rfl, n312, n312a, n312b⟩)
  have ct255 : ∀ (sc255 : GS) (y255_3 : Int32) (y255_4 : Int32) (y255_7 : Int32), Inv sc255 → Fr fm_305 s sc255 → (In x1 116 116) → (In y255_7 0 1) → (DNE s sc255 (x1).toInt (x2).toNatClampNeg (y255_7).toInt) → (YNQ (y255_7).toInt (DON s (x1).toInt (x2).toNatClampNeg)) → (G12 s sc255) → GG Z (d - 1) 305 post (gx xp) (1802) 255 (fun j => xlook j [(0, .ref (A 109)), (1, .int x1), (2, .int x2), (3, .int y255_3), (4, .int y255_4), (7, .int y255_7)]) [] (WW Z A sc255 ++ ex) 0 0 := by
    intro sc255 y255_3 y255_4 y255_7 hIc255 hFc255 j255_1 j255_7 g255_0 g255_1 g255_2
    refine g_iload 257 (gd rfl) rfl rfl ?_
    have n257 : DNE s sc255 (x1).toInt (x2).toNatClampNeg (y255_7).toInt := by exact g255_0
    have n257a : YNQ (y255_7).toInt (DON s (x1).toInt (x2).toNatClampNeg) := by exact g255_1
    have n257b : G12 s sc255 := by exact g255_2
    exact g_ireturn (gd rfl) rfl (nb01 (in_w 0 1 j255_7 rfl)) (hP _ _ ⟨sc255, hIc255, hFc255, y255_7, rfl, rfl, in_w 0 1 j255_7 rfl, n257, n257a, n257b⟩)
  have ct236 : ∀ (sc236 : GS) (y236_3 : Int32) (y236_4 : Int32), Inv sc236 → Fr fm_305 s sc236 → (In x1 116 116) → (sc236 = s) → (¬ DON s (x1).toInt (x2).toNatClampNeg) → GG Z (d - 1) 305 post (gx xp) (2703) 236 (fun j => xlook j [(0, .ref (A 109)), (1, .int x1), (2, .int x2), (3, .int y236_3), (4, .int y236_4)]) [] (WW Z A sc236 ++ ex) 0 0 := by
    intro sc236 y236_3 y236_4 hIc236 hFc236 j236_1 g236_0 g236_1
    refine g_iconst 0 237 (gd rfl) rfl rfl ?_
    refine g_istore 239 (gd rfl) rfl (Nat.le_of_ble_eq_true rfl) ?_
    refine g_iload 241 (gd rfl) rfl rfl ?_
    refine g_if_eq 244 255 (gd rfl) rfl rfl (fun c241 => ?_) (fun c241 => ?_)
    · skip
      have n255 : DNE s sc236 (x1).toInt (x2).toNatClampNeg ((Int32.ofInt 0)).toInt := by exact dne_no g236_0 (by decide)
      have n255a : YNQ ((Int32.ofInt 0)).toInt (DON s (x1).toInt (x2).toNatClampNeg) := by exact ⟨fun h => absurd rfl h, fun _ => g236_1⟩
      have n255b : G12 s sc236 := by exact g12_e g236_0
      exact gg_w (by first | exact Nat.le_of_ble_eq_true rfl | omega) (gg_f (gf_cons rfl (gf_cons rfl (gf_cons rfl (gf_cons rfl (gf_cons rfl (gf_cons rfl gf_nil)))))) (ct255 sc236 y236_3 y236_4 (Int32.ofInt 0) hIc236 hFc236 (in_w 116 116 j236_1 rfl) (in_w 0 1 (in_c 0 rfl) rfl) n255 n255a n255b))
    · skip
      exact zn_ne c241 (in_c 0 rfl) rfl
  have ct188 : ∀ (sc188 : GS) (y188_3 : Int32) (y188_4 : Int32) (y188_5 : Int32) (y188_6 : Int32), Inv sc188 → Fr fm_305 s sc188 → (In x1 97 97) → (In y188_5 0 160) → (In y188_6 0 1) → (DNE s sc188 (x1).toInt (x2).toNatClampNeg (y188_6).toInt) → (YNQ (y188_6).toInt (DON s (x1).toInt (x2).toNatClampNeg)) → (G12 s sc188) → GG Z (d - 1) 305 post (gx xp) (3604) 188 (fun j => xlook j [(0, .ref (A 109)), (1, .int x1), (2, .int x2), (3, .int y188_3), (4, .int y188_4), (5, .int y188_5), (6, .int y188_6)]) [] (WW Z A sc188 ++ ex) 0 0 := by
    intro sc188 y188_3 y188_4 y188_5 y188_6 hIc188 hFc188 j188_1 j188_5 j188_6 g188_0 g188_1 g188_2
    refine g_iload 190 (gd rfl) rfl rfl ?_
    have n190 : DNE s sc188 (x1).toInt (x2).toNatClampNeg (y188_6).toInt := by exact g188_0
    have n190a : YNQ (y188_6).toInt (DON s (x1).toInt (x2).toNatClampNeg) := by exact g188_1
    have n190b : G12 s sc188 := by exact g188_2
    exact g_ireturn (gd rfl) rfl (nb01 (in_w 0 1 j188_6 rfl)) (hP _ _ ⟨sc188, hIc188, hFc188, y188_6, rfl, rfl, in_w 0 1 j188_6 rfl, n190, n190a, n190b⟩)
  have ct168 : ∀ (sc168 : GS) (y168_3 : Int32) (y168_4 : Int32) (y168_5 : Int32), Inv sc168 → Fr fm_305 s sc168 → (In x1 97 97) → (In y168_5 0 160) → (sc168 = s) → (¬ DON s (x1).toInt (x2).toNatClampNeg) → GG Z (d - 1) 305 post (gx xp) (4505) 168 (fun j => xlook j [(0, .ref (A 109)), (1, .int x1), (2, .int x2), (3, .int y168_3), (4, .int y168_4), (5, .int y168_5)]) [] (WW Z A sc168 ++ ex) 0 0 := by
    intro sc168 y168_3 y168_4 y168_5 hIc168 hFc168 j168_1 j168_5 g168_0 g168_1
    refine g_iconst 0 169 (gd rfl) rfl rfl ?_
    refine g_istore 171 (gd rfl) rfl (Nat.le_of_ble_eq_true rfl) ?_
    refine g_iload 173 (gd rfl) rfl rfl ?_
    refine g_if_eq 176 188 (gd rfl) rfl rfl (fun c173 => ?_) (fun c173 => ?_)
    · skip
      have n188 : DNE s sc168 (x1).toInt (x2).toNatClampNeg ((Int32.ofInt 0)).toInt := by exact dne_no g168_0 (by decide)
      have n188a : YNQ ((Int32.ofInt 0)).toInt (DON s (x1).toInt (x2).toNatClampNeg) := by first | exact ⟨fun h => absurd rfl h, fun _ => g168_1⟩
      have n188b : G12 s sc168 := by exact g12_e g168_0
      exact gg_w (by first | exact Nat.le_of_ble_eq_true rfl | omega) (gg_f (gf_cons rfl (gf_cons rfl (gf_cons rfl (gf_cons rfl (gf_cons rfl (gf_cons rfl (gf_cons rfl gf_nil))))))) (ct188 sc168 y168_3 y168_4 y168_5 (Int32.ofInt 0) hIc168 hFc168 (in_w 97 97 j168_1 rfl) (in_w 0 160 j168_5 rfl) (in_w 0 1 (in_c 0 rfl) rfl) n188 n188a n188b))
    · skip
      exact zn_ne c173 (in_c 0 rfl) rfl
  refine g_enter2 (k := 305) (N := 5405) (by first | exact dq1 hd rfl | exact dq0 hd rfl | exact dq2 hd rfl | exact dq3 hd rfl | omega) rfl (Nat.le_of_ble_eq_true rfl) ?_
  refine g_aload_n 1 (gd rfl) rfl rfl ?_
  refine g_getA (q2 := 128) 4 (gd rfl) rfl rfl rfl rfl ?_
  refine g_iload_n 5 (gd rfl) rfl rfl ?_
  refine g_iaload 6 (gd rfl) rfl (n := 2500) rfl (in_ix h2 rfl) (fun z5 e5 => ?_)
  refine g_istore_n 7 (gd rfl) rfl (Nat.le_of_ble_eq_true rfl) ?_
  refine g_aload_n 8 (gd rfl) rfl rfl ?_
  refine g_getA (q2 := 128) 11 (gd rfl) rfl rfl rfl rfl ?_
  refine g_iload_n 12 (gd rfl) rfl rfl ?_
  refine g_iconst 1 13 (gd rfl) rfl rfl ?_
  refine g_iadd 14 (gd rfl) rfl (fun z13 e13 => ?_)
  have i13 := in_add 1 2496 e13 h2 (in_c 1 rfl) rfl rfl
  refine g_iaload 15 (gd rfl) rfl (n := 2500) rfl (in_ix i13 rfl) (fun z14 e14 => ?_)
  refine g_istore 17 (gd rfl) rfl (Nat.le_of_ble_eq_true rfl) ?_
  refine g_iload_n 18 (gd rfl) rfl rfl ?_
  refine g_lsw [(97, 79), (110, 52), (116, 191)] 258 (gd rfl) rfl rfl rfl ⟨fun c18 => ?_, fun c18_0 => ⟨fun c18 => ?_, fun c18_1 => ⟨fun c18 => ?_, fun c18_2 => ?_⟩⟩⟩
  · skip
    have i18 := sw_eq c18
    refine g_aload_n 80 (gd rfl) rfl rfl ?_
    refine g_iconst 2 81 (gd rfl) rfl rfl ?_
    refine g_callv (X := _) (As := [.int (Int32.ofInt 2)]) (r := []) (b := A 109) (q := 109) 84 (gd rfl) rfl rfl rfl rfl rfl (ww_o rfl) (Nat.le_of_ble_eq_true rfl) (Nat.zero_le _) (Nat.zero_le _) (k_280 (by first | exact dq1 hd rfl | exact dq0 hd rfl | exact dq2 hd rfl | exact dq3 hd rfl | omega) hI (in_w 0 2 (in_c 2 rfl) rfl)) (fun e u h => h) (fun v u h => ?_)
    obtain ⟨z81, rfl, rfl, i81, p81⟩ := h
    show GG _ _ _ _ _ _ _ _ [.int z81] _ _ _
    refine g_istore 86 (gd rfl) rfl (Nat.le_of_ble_eq_true rfl) ?_
    refine g_iload 88 (gd rfl) rfl rfl ?_
    refine g_sipush 160 91 (gd rfl) rfl rfl ?_
    refine g_cmp_ge 94 168 (gd rfl) rfl rfl (fun c91 => ?_) (fun c91 => ?_)
    · skip
      have i91 := r_le2 160 160 c91 (in_c 160 rfl) i81 rfl
      have n168 : s = s := by rfl
      have n168a : ¬ DON s (x1).toInt (x2).toNatClampNeg := by intro h; have h9 := h.2.1 (by have a0 := oa4 h2 i18 i91 i13; have a4 := t_add e13 h2 (in_c 1 rfl) rfl; have a5 := in_u ((in_c 1 rfl)); have oc := oc_305_109; omega); unfold nq at h9; have p9 : z81.toNatClampNeg = fpl (thg s 320) := p81; have hz81 : z81.toNatClampNeg = z81.toInt.toNat := rfl; rw [← p9] at h9; have a0 := oa4 h2 i18 i91 i13; have a4 := t_add e13 h2 (in_c 1 rfl) rfl; have a5 := in_u ((in_c 1 rfl)); have oc := oc_305_109; omega
      exact gg_w (by first | exact Nat.le_of_ble_eq_true rfl | omega) (gg_f (gf_cons rfl (gf_cons rfl (gf_cons rfl (gf_cons rfl (gf_cons rfl (gf_cons rfl gf_nil)))))) (ct168 s z5 z14 z81 hI fr_rf (in_w 97 97 i18 rfl) (in_w 0 160 i91 rfl) n168 n168a))
    · skip
      have i91 := r_lt1 0 159 c91 i81 (in_c 160 rfl) rfl
      refine g_iload_n 95 (gd rfl) rfl rfl ?_
      refine g_i2l 96 (gd rfl) rfl (fun z95 e95 => ?_)
      have i95 := l_i e95 (i_rng z5)
      refine g_lconst 0 97 (gd rfl) rfl rfl ?_
      refine g_aload_n 98 (gd rfl) rfl rfl ?_
      refine g_getA (q2 := 110) 101 (gd rfl) rfl rfl rfl rfl ?_
      refine g_iconst 2 102 (gd rfl) rfl rfl ?_
      refine g_iaload 103 (gd rfl) rfl (n := 3) rfl (in_ix (in_c 2 rfl) rfl) (fun z102 e102 => ?_)
      have i103 : In z102 0 32 := by rw [e102]; exact q_0
      refine g_iconst 1 104 (gd rfl) rfl rfl ?_
      refine g_isub 105 (gd rfl) rfl (fun z104 e104 => ?_)
      have i104 := in_sub (-1) 31 e104 i103 (in_c 1 rfl) rfl rfl
      refine g_i2l 106 (gd rfl) rfl (fun z105 e105 => ?_)
      have i105 := l_i e105 i104
      refine g_calls (As := [.long z95, .long (Int64.ofInt 0), .long z105]) (r := []) 109 (gd rfl) rfl rfl rfl rfl rfl (Nat.le_of_ble_eq_true rfl) (mc := 0) (ms := 0) (Nat.zero_le _) (Nat.zero_le _) (P := fun v u => _) ?_ (fun v u h => h)
      intro po106 xx106 hp106 hx106
      refine g_enter2 (k := 269) (N := 300) (by first | exact dq1 hd rfl | exact dq0 hd rfl | exact dq2 hd rfl | exact dq3 hd rfl | omega) rfl (Nat.le_of_ble_eq_true rfl) ?_
      refine g_lload_n 1 (gd rfl) rfl rfl ?_
      refine g_lload_n 2 (gd rfl) rfl rfl ?_
      refine g_lcmp 3 (gd rfl) rfl (fun z106x2 e106x2 => ?_)
      have i106x2 := lc_in e106x2
      refine g_if_lt 6 17 (gd rfl) rfl rfl (fun c106x3 => ?_) (fun c106x3 => ?_)
      · skip
        have i106x3 := z_lt (-1) (-1) c106x3 i106x2 rfl
        have c106x3a := lc_lt e106x2 c106x3
        have i106x3a := lr_lt1 (-2147483648) (-1) c106x3a i95 (l_c 0 rfl) rfl
        have i106x3b := l_b e95 i106x3a
        refine g_iconst 0 18 (gd rfl) rfl rfl ?_
        refine g_ireturn (gd rfl) rfl (nb01 (in_w 0 1 (in_c 0 rfl) rfl)) (hp106 _ _ ?_)
        show GG _ _ _ _ _ _ _ _ [.int (Int32.ofInt 0)] _ _ _
        refine g_if_eq 112 168 (gd rfl) rfl rfl (fun c109 => ?_) (fun c109 => ?_)
        · skip
          have n168 : s = s := by rfl
          have n168a : ¬ DON s (x1).toInt (x2).toNatClampNeg := by intro h; have h9 := h.2.1 (by have a0 := oa4 h2 i18 i91 i106x3b; have a4 := tx_i2l e105; have a5 := in_u i104; have a6 := t_sub e104 i103 (in_c 1 rfl) rfl; have a7 := oa2 ((in_c 1 rfl)) i103; have a9 := tx_i2l e95; have a10 := in_u i13; have a11 := t_add e13 h2 (in_c 1 rfl) rfl; have oc := oc_305_109; omega); unfold nq at h9; have p9 : z81.toNatClampNeg = fpl (thg s 320) := p81; have hz81 : z81.toNatClampNeg = z81.toInt.toNat := rfl; rw [← p9, ← e5, show s.1 110 2 = z102 from e102.symm] at h9; have a0 := oa4 h2 i18 i91 i106x3b; have a4 := tx_i2l e105; have a5 := in_u i104; have a6 := t_sub e104 i103 (in_c 1 rfl) rfl; have a7 := oa2 ((in_c 1 rfl)) i103; have a9 := tx_i2l e95; have a10 := in_u i13; have a11 := t_add e13 h2 (in_c 1 rfl) rfl; have oc := oc_305_109; omega
          exact gg_w (by first | exact Nat.le_of_ble_eq_true rfl | omega) (gg_f (gf_cons rfl (gf_cons rfl (gf_cons rfl (gf_cons rfl (gf_cons rfl (gf_cons rfl gf_nil)))))) (ct168 s z5 z14 z81 hI fr_rf (in_w 97 97 i18 rfl) (in_w 0 160 i91 rfl) n168 n168a))
        · skip
          exact zn_ne c109 (in_c 0 rfl) rfl
      · skip
        have i106x3 := z_ge 0 1 c106x3 i106x2 rfl
        have c106x3a := lc_ge e106x2 c106x3
        have i106x3a := lr_le2 0 2147483647 c106x3a (l_c 0 rfl) i95 rfl
        have i106x3b := l_b e95 i106x3a
        refine g_lload_n 7 (gd rfl) rfl rfl ?_
        refine g_lload 9 (gd rfl) rfl rfl ?_
        refine g_lcmp 10 (gd rfl) rfl (fun z106x9 e106x9 => ?_)
        have i106x9 := lc_in e106x9
        refine g_if_gt 13 17 (gd rfl) rfl rfl (fun c106x10 => ?_) (fun c106x10 => ?_)
        · skip
          have i106x10 := z_gt 1 1 c106x10 i106x9 rfl
          have c106x10a := lc_gt e106x9 c106x10
          refine g_iconst 0 18 (gd rfl) rfl rfl ?_
          refine g_ireturn (gd rfl) rfl (nb01 (in_w 0 1 (in_c 0 rfl) rfl)) (hp106 _ _ ?_)
          show GG _ _ _ _ _ _ _ _ [.int (Int32.ofInt 0)] _ _ _
          refine g_if_eq 112 168 (gd rfl) rfl rfl (fun c109 => ?_) (fun c109 => ?_)
          · skip
            have n168 : s = s := by rfl
            have n168a : ¬ DON s (x1).toInt (x2).toNatClampNeg := by intro h; have h9 := h.2.1 (by have a0 := oa4 h2 i18 i91 i106x3b; have a4 := tx_i2l e105; have a5 := in_u i104; have a6 := t_sub e104 i103 (in_c 1 rfl) rfl; have a7 := oa2 ((in_c 1 rfl)) i103; have a9 := tx_i2l e95; have a10 := in_u i13; have a11 := t_add e13 h2 (in_c 1 rfl) rfl; have oc := oc_305_109; omega); unfold nq at h9; have p9 : z81.toNatClampNeg = fpl (thg s 320) := p81; have hz81 : z81.toNatClampNeg = z81.toInt.toNat := rfl; rw [← p9, ← e5, show s.1 110 2 = z102 from e102.symm] at h9; have a0 := oa4 h2 i18 i91 i106x3b; have a4 := tx_i2l e105; have a5 := in_u i104; have a6 := t_sub e104 i103 (in_c 1 rfl) rfl; have a7 := oa2 ((in_c 1 rfl)) i103; have a9 := tx_i2l e95; have a10 := in_u i13; have a11 := t_add e13 h2 (in_c 1 rfl) rfl; have oc := oc_305_109; omega
            exact gg_w (by first | exact Nat.le_of_ble_eq_true rfl | omega) (gg_f (gf_cons rfl (gf_cons rfl (gf_cons rfl (gf_cons rfl (gf_cons rfl (gf_cons rfl gf_nil)))))) (ct168 s z5 z14 z81 hI fr_rf (in_w 97 97 i18 rfl) (in_w 0 160 i91 rfl) n168 n168a))
          · skip
            exact zn_ne c109 (in_c 0 rfl) rfl
        · skip
          have i106x10 := z_le (-1) 0 c106x10 i106x9 rfl
          have c106x10a := lc_le e106x9 c106x10
          have i106x10a := lr_le1 0 31 c106x10a i106x3a i105 rfl
          have i106x10b := l_b e95 i106x10a
          have i106x10c := lr_le2 0 31 c106x10a i106x3a i105 rfl
          have i106x10d := l_b e105 i106x10c
          refine g_iconst 1 14 (gd rfl) rfl rfl ?_
          refine g_goto 18 (gd rfl) rfl ?_
          refine g_ireturn (gd rfl) rfl (nb01 (in_w 0 1 (in_c 1 rfl) rfl)) (hp106 _ _ ?_)
          show GG _ _ _ _ _ _ _ _ [.int (Int32.ofInt 1)] _ _ _
          refine g_if_eq 112 168 (gd rfl) rfl rfl (fun c109 => ?_) (fun c109 => ?_)
          · skip
            exact zn_eq c109 (in_c 1 rfl) rfl
          · skip
            refine g_iload 114 (gd rfl) rfl rfl ?_
            refine g_i2l 115 (gd rfl) rfl (fun z114 e114 => ?_)
            have i114 := l_i e114 (i_rng z14)
            refine g_lconst 0 116 (gd rfl) rfl rfl ?_
            refine g_aload_n 117 (gd rfl) rfl rfl ?_
            refine g_getA (q2 := 110) 120 (gd rfl) rfl rfl rfl rfl ?_
            refine g_iconst 2 121 (gd rfl) rfl rfl ?_
            refine g_iaload 122 (gd rfl) rfl (n := 3) rfl (in_ix (in_c 2 rfl) rfl) (fun z121 e121 => ?_)
            have q121 : z102 = z121 := (e102).trans e121.symm
            subst q121
            refine g_iconst 1 123 (gd rfl) rfl rfl ?_
            refine g_isub 124 (gd rfl) rfl (fun z123 e123 => ?_)
            have i123 := in_sub (-1) 31 e123 i103 (in_c 1 rfl) rfl rfl
            refine g_i2l 125 (gd rfl) rfl (fun z124 e124 => ?_)
            have i124 := l_i e124 i123
            refine g_calls (As := [.long z114, .long (Int64.ofInt 0), .long z124]) (r := []) 128 (gd rfl) rfl rfl rfl rfl rfl (Nat.le_of_ble_eq_true rfl) (mc := 0) (ms := 0) (Nat.zero_le _) (Nat.zero_le _) (P := fun v u => _) ?_ (fun v u h => h)
            intro po125 xx125 hp125 hx125
            refine g_enter2 (k := 269) (N := 300) (by first | exact dq1 hd rfl | exact dq0 hd rfl | exact dq2 hd rfl | exact dq3 hd rfl | omega) rfl (Nat.le_of_ble_eq_true rfl) ?_
            refine g_lload_n 1 (gd rfl) rfl rfl ?_
            refine g_lload_n 2 (gd rfl) rfl rfl ?_
            refine g_lcmp 3 (gd rfl) rfl (fun z125x2 e125x2 => ?_)
            have i125x2 := lc_in e125x2
            refine g_if_lt 6 17 (gd rfl) rfl rfl (fun c125x3 => ?_) (fun c125x3 => ?_)
            · skip
              have i125x3 := z_lt (-1) (-1) c125x3 i125x2 rfl
              have c125x3a := lc_lt e125x2 c125x3
              have i125x3a := lr_lt1 (-2147483648) (-1) c125x3a i114 (l_c 0 rfl) rfl
              have i125x3b := l_b e114 i125x3a
              refine g_iconst 0 18 (gd rfl) rfl rfl ?_
              refine g_ireturn (gd rfl) rfl (nb01 (in_w 0 1 (in_c 0 rfl) rfl)) (hp125 _ _ ?_)
              show GG _ _ _ _ _ _ _ _ [.int (Int32.ofInt 0)] _ _ _
              refine g_if_eq 131 168 (gd rfl) rfl rfl (fun c128 => ?_) (fun c128 => ?_)
              · skip
                have n168 : s = s := by rfl
                have n168a : ¬ DON s (x1).toInt (x2).toNatClampNeg := by intro h; have h9 := h.2.1 (by have a0 := oa5 h2 i18 i91 i125x3b i106x10b; have a5 := tx_i2l e124; have a6 := in_u i123; have a7 := t_sub e123 i103 (in_c 1 rfl) rfl; have a8 := oa2 ((in_c 1 rfl)) i103; have a10 := tx_i2l e114; have a11 := tx_i2l e105; have a12 := in_u i106x10d; have a13 := t_sub e104 i103 (in_c 1 rfl) rfl; have a14 := tx_i2l e95; have a15 := in_u i13; have a16 := t_add e13 h2 (in_c 1 rfl) rfl; have oc := oc_305_109; omega); unfold nq at h9; have p9 : z81.toNatClampNeg = fpl (thg s 320) := p81; have hz81 : z81.toNatClampNeg = z81.toInt.toNat := rfl; rw [← p9, ← e5, show s.1 128 (x2.toNatClampNeg + 1) = z14 from (by rw [show x2.toNatClampNeg + 1 = z13.toNatClampNeg from (by show x2.toInt.toNat + 1 = z13.toInt.toNat; have a0 := oa5 h2 i18 i91 i125x3b i106x10b; have a5 := tx_i2l e124; have a6 := in_u i123; have a7 := t_sub e123 i103 (in_c 1 rfl) rfl; have a8 := oa2 ((in_c 1 rfl)) i103; have a10 := tx_i2l e114; have a11 := tx_i2l e105; have a12 := in_u i106x10d; have a13 := t_sub e104 i103 (in_c 1 rfl) rfl; have a14 := tx_i2l e95; have a15 := in_u i13; have a16 := t_add e13 h2 (in_c 1 rfl) rfl; have oc := oc_305_109; omega)]; exact e14.symm), show s.1 110 2 = z102 from e102.symm] at h9; have a0 := oa5 h2 i18 i91 i125x3b i106x10b; have a5 := tx_i2l e124; have a6 := in_u i123; have a7 := t_sub e123 i103 (in_c 1 rfl) rfl; have a8 := oa2 ((in_c 1 rfl)) i103; have a10 := tx_i2l e114; have a11 := tx_i2l e105; have a12 := in_u i106x10d; have a13 := t_sub e104 i103 (in_c 1 rfl) rfl; have a14 := tx_i2l e95; have a15 := in_u i13; have a16 := t_add e13 h2 (in_c 1 rfl) rfl; have oc := oc_305_109; omega
                exact gg_w (by first | exact Nat.le_of_ble_eq_true rfl | omega) (gg_f (gf_cons rfl (gf_cons rfl (gf_cons rfl (gf_cons rfl (gf_cons rfl (gf_cons rfl gf_nil)))))) (ct168 s z5 z14 z81 hI fr_rf (in_w 97 97 i18 rfl) (in_w 0 160 i91 rfl) n168 n168a))
              · skip
                exact zn_ne c128 (in_c 0 rfl) rfl
            · skip
              have i125x3 := z_ge 0 1 c125x3 i125x2 rfl
              have c125x3a := lc_ge e125x2 c125x3
              have i125x3a := lr_le2 0 2147483647 c125x3a (l_c 0 rfl) i114 rfl
              have i125x3b := l_b e114 i125x3a
              refine g_lload_n 7 (gd rfl) rfl rfl ?_
              refine g_lload 9 (gd rfl) rfl rfl ?_
              refine g_lcmp 10 (gd rfl) rfl (fun z125x9 e125x9 => ?_)
              have i125x9 := lc_in e125x9
              refine g_if_gt 13 17 (gd rfl) rfl rfl (fun c125x10 => ?_) (fun c125x10 => ?_)
              · skip
                have i125x10 := z_gt 1 1 c125x10 i125x9 rfl
                have c125x10a := lc_gt e125x9 c125x10
                refine g_iconst 0 18 (gd rfl) rfl rfl ?_
                refine g_ireturn (gd rfl) rfl (nb01 (in_w 0 1 (in_c 0 rfl) rfl)) (hp125 _ _ ?_)
                show GG _ _ _ _ _ _ _ _ [.int (Int32.ofInt 0)] _ _ _
                refine g_if_eq 131 168 (gd rfl) rfl rfl (fun c128 => ?_) (fun c128 => ?_)
                · skip
                  have n168 : s = s := by rfl
                  have n168a : ¬ DON s (x1).toInt (x2).toNatClampNeg := by intro h; have h9 := h.2.1 (by have a0 := oa5 h2 i18 i91 i125x3b i106x10b; have a5 := tx_i2l e124; have a6 := in_u i123; have a7 := t_sub e123 i103 (in_c 1 rfl) rfl; have a8 := oa2 ((in_c 1 rfl)) i103; have a10 := tx_i2l e114; have a11 := tx_i2l e105; have a12 := in_u i106x10d; have a13 := t_sub e104 i103 (in_c 1 rfl) rfl; have a14 := tx_i2l e95; have a15 := in_u i13; have a16 := t_add e13 h2 (in_c 1 rfl) rfl; have oc := oc_305_109; omega); unfold nq at h9; have p9 : z81.toNatClampNeg = fpl (thg s 320) := p81; have hz81 : z81.toNatClampNeg = z81.toInt.toNat := rfl; rw [← p9, ← e5, show s.1 128 (x2.toNatClampNeg + 1) = z14 from (by rw [show x2.toNatClampNeg + 1 = z13.toNatClampNeg from (by show x2.toInt.toNat + 1 = z13.toInt.toNat; have a0 := oa5 h2 i18 i91 i125x3b i106x10b; have a5 := tx_i2l e124; have a6 := in_u i123; have a7 := t_sub e123 i103 (in_c 1 rfl) rfl; have a8 := oa2 ((in_c 1 rfl)) i103; have a10 := tx_i2l e114; have a11 := tx_i2l e105; have a12 := in_u i106x10d; have a13 := t_sub e104 i103 (in_c 1 rfl) rfl; have a14 := tx_i2l e95; have a15 := in_u i13; have a16 := t_add e13 h2 (in_c 1 rfl) rfl; have oc := oc_305_109; omega)]; exact e14.symm), show s.1 110 2 = z102 from e102.symm] at h9; have a0 := oa5 h2 i18 i91 i125x3b i106x10b; have a5 := tx_i2l e124; have a6 := in_u i123; have a7 := t_sub e123 i103 (in_c 1 rfl) rfl; have a8 := oa2 ((in_c 1 rfl)) i103; have a10 := tx_i2l e114; have a11 := tx_i2l e105; have a12 := in_u i106x10d; have a13 := t_sub e104 i103 (in_c 1 rfl) rfl; have a14 := tx_i2l e95; have a15 := in_u i13; have a16 := t_add e13 h2 (in_c 1 rfl) rfl; have oc := oc_305_109; omega
                  exact gg_w (by first | exact Nat.le_of_ble_eq_true rfl | omega) (gg_f (gf_cons rfl (gf_cons rfl (gf_cons rfl (gf_cons rfl (gf_cons rfl (gf_cons rfl gf_nil)))))) (ct168 s z5 z14 z81 hI fr_rf (in_w 97 97 i18 rfl) (in_w 0 160 i91 rfl) n168 n168a))
                · skip
                  exact zn_ne c128 (in_c 0 rfl) rfl
              · skip
                have i125x10 := z_le (-1) 0 c125x10 i125x9 rfl
                have c125x10a := lc_le e125x9 c125x10
                have i125x10a := lr_le1 0 31 c125x10a i125x3a i124 rfl
                have i125x10b := l_b e114 i125x10a
                have i125x10c := lr_le2 0 31 c125x10a i125x3a i124 rfl
                have i125x10d := l_b e124 i125x10c
                refine g_iconst 1 14 (gd rfl) rfl rfl ?_
                refine g_goto 18 (gd rfl) rfl ?_
                refine g_ireturn (gd rfl) rfl (nb01 (in_w 0 1 (in_c 1 rfl) rfl)) (hp125 _ _ ?_)
                show GG _ _ _ _ _ _ _ _ [.int (Int32.ofInt 1)] _ _ _
                refine g_if_eq 131 168 (gd rfl) rfl rfl (fun c128 => ?_) (fun c128 => ?_)
                · skip
                  exact zn_eq c128 (in_c 1 rfl) rfl
                · skip
                  refine g_aload_n 132 (gd rfl) rfl rfl ?_
                  refine g_getA (q2 := 128) 135 (gd rfl) rfl rfl rfl rfl ?_
                  refine g_iload_n 136 (gd rfl) rfl rfl ?_
                  refine g_iconst 2 137 (gd rfl) rfl rfl ?_
                  refine g_iadd 138 (gd rfl) rfl (fun z137 e137 => ?_)
                  have i137 := in_add 2 2497 e137 h2 (in_c 2 rfl) rfl rfl
                  refine g_iaload 139 (gd rfl) rfl (n := 2500) rfl (in_ix i137 rfl) (fun z138 e138 => ?_)
                  refine g_calls (As := [.int z138]) (r := []) 142 (gd rfl) rfl rfl rfl rfl rfl (Nat.le_of_ble_eq_true rfl) (mc := 0) (ms := 0) (Nat.zero_le _) (Nat.zero_le _) (P := fun v u => _) ?_ (fun v u h => h)
                  intro po139 xx139 hp139 hx139
                  refine g_enter2 (k := 279) (N := 300) (by first | exact dq1 hd rfl | exact dq0 hd rfl | exact dq2 hd rfl | exact dq3 hd rfl | omega) rfl (Nat.le_of_ble_eq_true rfl) ?_
                  refine g_iload_n 1 (gd rfl) rfl rfl ?_
                  refine g_i2l 2 (gd rfl) rfl (fun z139x1 e139x1 => ?_)
                  have i139x1 := l_i e139x1 (i_rng z138)
                  refine g_ldc2_w (-1000000) 5 (gd rfl) rfl rfl ?_
                  refine g_ldc2_w 1000000 8 (gd rfl) rfl rfl ?_
                  refine g_calls (As := [.long z139x1, .long (Int64.ofInt (-1000000)), .long (Int64.ofInt 1000000)]) (r := []) 11 (gd rfl) rfl rfl rfl rfl rfl (Nat.le_of_ble_eq_true rfl) (mc := 0) (ms := 0) (Nat.zero_le _) (Nat.zero_le _) (P := fun v u => _) ?_ (fun v u h => h)
                  intro po139x8 xx139x8 hp139x8 hx139x8
                  refine g_enter2 (k := 269) (N := 300) (by first | exact dq1 hd rfl | exact dq0 hd rfl | exact dq2 hd rfl | exact dq3 hd rfl | omega) rfl (Nat.le_of_ble_eq_true rfl) ?_
                  refine g_lload_n 1 (gd rfl) rfl rfl ?_
                  refine g_lload_n 2 (gd rfl) rfl rfl ?_
                  refine g_lcmp 3 (gd rfl) rfl (fun z139x8x2 e139x8x2 => ?_)
                  have i139x8x2 := lc_in e139x8x2
                  refine g_if_lt 6 17 (gd rfl) rfl rfl (fun c139x8x3 => ?_) (fun c139x8x3 => ?_)
                  · skip
                    have i139x8x3 := z_lt (-1) (-1) c139x8x3 i139x8x2 rfl
                    have c139x8x3a := lc_lt e139x8x2 c139x8x3
                    have i139x8x3a := lr_lt1 (-2147483648) (-1000001) c139x8x3a i139x1 (l_c (-1000000) rfl) rfl
                    have i139x8x3b := l_b e139x1 i139x8x3a
                    refine g_iconst 0 18 (gd rfl) rfl rfl ?_
                    refine g_ireturn (gd rfl) rfl (nb01 (in_w 0 1 (in_c 0 rfl) rfl)) (hp139x8 _ _ ?_)
                    show GG _ _ _ _ _ _ _ _ [.int (Int32.ofInt 0)] _ _ _
                    refine g_ireturn (gd rfl) rfl (nb01 (in_w 0 1 (in_c 0 rfl) rfl)) (hp139 _ _ ?_)
                    show GG _ _ _ _ _ _ _ _ [.int (Int32.ofInt 0)] _ _ _
                    refine g_if_eq 145 168 (gd rfl) rfl rfl (fun c142 => ?_) (fun c142 => ?_)
                    · skip
                      have n168 : s = s := by rfl
                      have n168a : ¬ DON s (x1).toInt (x2).toNatClampNeg := by intro h; have h9 := h.2.1 (by have a0 := oa5 h2 i18 i91 i125x10b i106x10b; have a5 := tx_i2l e139x1; have a6 := oa2 i139x8x3b i137; have a8 := t_add e137 h2 (in_c 2 rfl) rfl; have a9 := in_u ((in_c 2 rfl)); have a10 := tx_i2l e124; have a11 := in_u i125x10d; have a12 := t_sub e123 i103 (in_c 1 rfl) rfl; have a13 := oa2 ((in_c 1 rfl)) i103; have a15 := tx_i2l e114; have a16 := tx_i2l e105; have a17 := in_u i106x10d; have a18 := t_sub e104 i103 (in_c 1 rfl) rfl; have a19 := tx_i2l e95; have a20 := in_u i13; have a21 := t_add e13 h2 (in_c 1 rfl) rfl; have oc := oc_305_109; omega); unfold nq at h9; have p9 : z81.toNatClampNeg = fpl (thg s 320) := p81; have hz81 : z81.toNatClampNeg = z81.toInt.toNat := rfl; rw [← p9, ← e5, show s.1 128 (x2.toNatClampNeg + 1) = z14 from (by rw [show x2.toNatClampNeg + 1 = z13.toNatClampNeg from (by show x2.toInt.toNat + 1 = z13.toInt.toNat; have a0 := oa5 h2 i18 i91 i125x10b i106x10b; have a5 := tx_i2l e139x1; have a6 := oa2 i139x8x3b i137; have a8 := t_add e137 h2 (in_c 2 rfl) rfl; have a9 := in_u ((in_c 2 rfl)); have a10 := tx_i2l e124; have a11 := in_u i125x10d; have a12 := t_sub e123 i103 (in_c 1 rfl) rfl; have a13 := oa2 ((in_c 1 rfl)) i103; have a15 := tx_i2l e114; have a16 := tx_i2l e105; have a17 := in_u i106x10d; have a18 := t_sub e104 i103 (in_c 1 rfl) rfl; have a19 := tx_i2l e95; have a20 := in_u i13; have a21 := t_add e13 h2 (in_c 1 rfl) rfl; have oc := oc_305_109; omega)]; exact e14.symm), show s.1 110 2 = z102 from e102.symm, show s.1 128 (x2.toNatClampNeg + 2) = z138 from (by rw [show x2.toNatClampNeg + 2 = z137.toNatClampNeg from (by show x2.toInt.toNat + 2 = z137.toInt.toNat; have a0 := oa5 h2 i18 i91 i125x10b i106x10b; have a5 := tx_i2l e139x1; have a6 := oa2 i139x8x3b i137; have a8 := t_add e137 h2 (in_c 2 rfl) rfl; have a9 := in_u ((in_c 2 rfl)); have a10 := tx_i2l e124; have a11 := in_u i125x10d; have a12 := t_sub e123 i103 (in_c 1 rfl) rfl; have a13 := oa2 ((in_c 1 rfl)) i103; have a15 := tx_i2l e114; have a16 := tx_i2l e105; have a17 := in_u i106x10d; have a18 := t_sub e104 i103 (in_c 1 rfl) rfl; have a19 := tx_i2l e95; have a20 := in_u i13; have a21 := t_add e13 h2 (in_c 1 rfl) rfl; have oc := oc_305_109; omega)]; exact e138.symm)] at h9; have a0 := oa5 h2 i18 i91 i125x10b i106x10b; have a5 := tx_i2l e139x1; have a6 := oa2 i139x8x3b i137; have a8 := t_add e137 h2 (in_c 2 rfl) rfl; have a9 := in_u ((in_c 2 rfl)); have a10 := tx_i2l e124; have a11 := in_u i125x10d; have a12 := t_sub e123 i103 (in_c 1 rfl) rfl; have a13 := oa2 ((in_c 1 rfl)) i103; have a15 := tx_i2l e114; have a16 := tx_i2l e105; have a17 := in_u i106x10d; have a18 := t_sub e104 i103 (in_c 1 rfl) rfl; have a19 := tx_i2l e95; have a20 := in_u i13; have a21 := t_add e13 h2 (in_c 1 rfl) rfl; have oc := oc_305_109; omega
                      exact gg_w (by first | exact Nat.le_of_ble_eq_true rfl | omega) (gg_f (gf_cons rfl (gf_cons rfl (gf_cons rfl (gf_cons rfl (gf_cons rfl (gf_cons rfl gf_nil)))))) (ct168 s z5 z14 z81 hI fr_rf (in_w 97 97 i18 rfl) (in_w 0 160 i91 rfl) n168 n168a))
                    · skip
                      exact zn_ne c142 (in_c 0 rfl) rfl
                  · skip
                    have i139x8x3 := z_ge 0 1 c139x8x3 i139x8x2 rfl
                    have c139x8x3a := lc_ge e139x8x2 c139x8x3
                    have i139x8x3a := lr_le2 (-1000000) 2147483647 c139x8x3a (l_c (-1000000) rfl) i139x1 rfl
                    have i139x8x3b := l_b e139x1 i139x8x3a
                    refine g_lload_n 7 (gd rfl) rfl rfl ?_
                    refine g_lload 9 (gd rfl) rfl rfl ?_
                    refine g_lcmp 10 (gd rfl) rfl (fun z139x8x9 e139x8x9 => ?_)
                    have i139x8x9 := lc_in e139x8x9
                    refine g_if_gt 13 17 (gd rfl) rfl rfl (fun c139x8x10 => ?_) (fun c139x8x10 => ?_)
                    · skip
                      have i139x8x10 := z_gt 1 1 c139x8x10 i139x8x9 rfl
                      have c139x8x10a := lc_gt e139x8x9 c139x8x10
                      have i139x8x10a := lr_lt2 1000001 2147483647 c139x8x10a (l_c 1000000 rfl) i139x8x3a rfl
                      have i139x8x10b := l_b e139x1 i139x8x10a
                      refine g_iconst 0 18 (gd rfl) rfl rfl ?_
                      refine g_ireturn (gd rfl) rfl (nb01 (in_w 0 1 (in_c 0 rfl) rfl)) (hp139x8 _ _ ?_)
                      show GG _ _ _ _ _ _ _ _ [.int (Int32.ofInt 0)] _ _ _
                      refine g_ireturn (gd rfl) rfl (nb01 (in_w 0 1 (in_c 0 rfl) rfl)) (hp139 _ _ ?_)
                      show GG _ _ _ _ _ _ _ _ [.int (Int32.ofInt 0)] _ _ _
                      refine g_if_eq 145 168 (gd rfl) rfl rfl (fun c142 => ?_) (fun c142 => ?_)
                      · skip
                        have n168 : s = s := by rfl
                        have n168a : ¬ DON s (x1).toInt (x2).toNatClampNeg := by intro h; have h9 := h.2.1 (by have a0 := oa5 h2 i18 i91 i125x10b i106x10b; have a5 := tx_i2l e139x1; have a6 := oa2 i139x8x10b i137; have a8 := t_add e137 h2 (in_c 2 rfl) rfl; have a9 := in_u ((in_c 2 rfl)); have a10 := tx_i2l e124; have a11 := in_u i125x10d; have a12 := t_sub e123 i103 (in_c 1 rfl) rfl; have a13 := oa2 ((in_c 1 rfl)) i103; have a15 := tx_i2l e114; have a16 := tx_i2l e105; have a17 := in_u i106x10d; have a18 := t_sub e104 i103 (in_c 1 rfl) rfl; have a19 := tx_i2l e95; have a20 := in_u i13; have a21 := t_add e13 h2 (in_c 1 rfl) rfl; have oc := oc_305_109; omega); unfold nq at h9; have p9 : z81.toNatClampNeg = fpl (thg s 320) := p81; have hz81 : z81.toNatClampNeg = z81.toInt.toNat := rfl; rw [← p9, ← e5, show s.1 128 (x2.toNatClampNeg + 1) = z14 from (by rw [show x2.toNatClampNeg + 1 = z13.toNatClampNeg from (by show x2.toInt.toNat + 1 = z13.toInt.toNat; have a0 := oa5 h2 i18 i91 i125x10b i106x10b; have a5 := tx_i2l e139x1; have a6 := oa2 i139x8x10b i137; have a8 := t_add e137 h2 (in_c 2 rfl) rfl; have a9 := in_u ((in_c 2 rfl)); have a10 := tx_i2l e124; have a11 := in_u i125x10d; have a12 := t_sub e123 i103 (in_c 1 rfl) rfl; have a13 := oa2 ((in_c 1 rfl)) i103; have a15 := tx_i2l e114; have a16 := tx_i2l e105; have a17 := in_u i106x10d; have a18 := t_sub e104 i103 (in_c 1 rfl) rfl; have a19 := tx_i2l e95; have a20 := in_u i13; have a21 := t_add e13 h2 (in_c 1 rfl) rfl; have oc := oc_305_109; omega)]; exact e14.symm), show s.1 110 2 = z102 from e102.symm, show s.1 128 (x2.toNatClampNeg + 2) = z138 from (by rw [show x2.toNatClampNeg + 2 = z137.toNatClampNeg from (by show x2.toInt.toNat + 2 = z137.toInt.toNat; have a0 := oa5 h2 i18 i91 i125x10b i106x10b; have a5 := tx_i2l e139x1; have a6 := oa2 i139x8x10b i137; have a8 := t_add e137 h2 (in_c 2 rfl) rfl; have a9 := in_u ((in_c 2 rfl)); have a10 := tx_i2l e124; have a11 := in_u i125x10d; have a12 := t_sub e123 i103 (in_c 1 rfl) rfl; have a13 := oa2 ((in_c 1 rfl)) i103; have a15 := tx_i2l e114; have a16 := tx_i2l e105; have a17 := in_u i106x10d; have a18 := t_sub e104 i103 (in_c 1 rfl) rfl; have a19 := tx_i2l e95; have a20 := in_u i13; have a21 := t_add e13 h2 (in_c 1 rfl) rfl; have oc := oc_305_109; omega)]; exact e138.symm)] at h9; have a0 := oa5 h2 i18 i91 i125x10b i106x10b; have a5 := tx_i2l e139x1; have a6 := oa2 i139x8x10b i137; have a8 := t_add e137 h2 (in_c 2 rfl) rfl; have a9 := in_u ((in_c 2 rfl)); have a10 := tx_i2l e124; have a11 := in_u i125x10d; have a12 := t_sub e123 i103 (in_c 1 rfl) rfl; have a13 := oa2 ((in_c 1 rfl)) i103; have a15 := tx_i2l e114; have a16 := tx_i2l e105; have a17 := in_u i106x10d; have a18 := t_sub e104 i103 (in_c 1 rfl) rfl; have a19 := tx_i2l e95; have a20 := in_u i13; have a21 := t_add e13 h2 (in_c 1 rfl) rfl; have oc := oc_305_109; omega
                        exact gg_w (by first | exact Nat.le_of_ble_eq_true rfl | omega) (gg_f (gf_cons rfl (gf_cons rfl (gf_cons rfl (gf_cons rfl (gf_cons rfl (gf_cons rfl gf_nil)))))) (ct168 s z5 z14 z81 hI fr_rf (in_w 97 97 i18 rfl) (in_w 0 160 i91 rfl) n168 n168a))
                      · skip
                        exact zn_ne c142 (in_c 0 rfl) rfl
                    · skip
                      have i139x8x10 := z_le (-1) 0 c139x8x10 i139x8x9 rfl
                      have c139x8x10a := lc_le e139x8x9 c139x8x10
                      have i139x8x10a := lr_le1 (-1000000) 1000000 c139x8x10a i139x8x3a (l_c 1000000 rfl) rfl
                      have i139x8x10b := l_b e139x1 i139x8x10a
                      refine g_iconst 1 14 (gd rfl) rfl rfl ?_
                      refine g_goto 18 (gd rfl) rfl ?_
                      refine g_ireturn (gd rfl) rfl (nb01 (in_w 0 1 (in_c 1 rfl) rfl)) (hp139x8 _ _ ?_)
                      show GG _ _ _ _ _ _ _ _ [.int (Int32.ofInt 1)] _ _ _
                      refine g_ireturn (gd rfl) rfl (nb01 (in_w 0 1 (in_c 1 rfl) rfl)) (hp139 _ _ ?_)
                      show GG _ _ _ _ _ _ _ _ [.int (Int32.ofInt 1)] _ _ _
                      refine g_if_eq 145 168 (gd rfl) rfl rfl (fun c142 => ?_) (fun c142 => ?_)
                      · skip
                        exact zn_eq c142 (in_c 1 rfl) rfl
                      · skip
                        refine g_aload_n 146 (gd rfl) rfl rfl ?_
                        refine g_getA (q2 := 128) 149 (gd rfl) rfl rfl rfl rfl ?_
                        refine g_iload_n 150 (gd rfl) rfl rfl ?_
                        refine g_iconst 3 151 (gd rfl) rfl rfl ?_
                        refine g_iadd 152 (gd rfl) rfl (fun z151 e151 => ?_)
                        have i151 := in_add 3 2498 e151 h2 (in_c 3 rfl) rfl rfl
                        refine g_iaload 153 (gd rfl) rfl (n := 2500) rfl (in_ix i151 rfl) (fun z152 e152 => ?_)
                        refine g_i2l 154 (gd rfl) rfl (fun z153 e153 => ?_)
                        have i153 := l_i e153 (i_rng z152)
                        refine g_lconst 0 155 (gd rfl) rfl rfl ?_
                        refine g_ldc2_w 1000000 158 (gd rfl) rfl rfl ?_
                        refine g_calls (As := [.long z153, .long (Int64.ofInt 0), .long (Int64.ofInt 1000000)]) (r := []) 161 (gd rfl) rfl rfl rfl rfl rfl (Nat.le_of_ble_eq_true rfl) (mc := 0) (ms := 0) (Nat.zero_le _) (Nat.zero_le _) (P := fun v u => _) ?_ (fun v u h => h)
                        intro po158 xx158 hp158 hx158
                        refine g_enter2 (k := 269) (N := 300) (by first | exact dq1 hd rfl | exact dq0 hd rfl | exact dq2 hd rfl | exact dq3 hd rfl | omega) rfl (Nat.le_of_ble_eq_true rfl) ?_
                        refine g_lload_n 1 (gd rfl) rfl rfl ?_
                        refine g_lload_n 2 (gd rfl) rfl rfl ?_
                        refine g_lcmp 3 (gd rfl) rfl (fun z158x2 e158x2 => ?_)
                        have i158x2 := lc_in e158x2
                        refine g_if_lt 6 17 (gd rfl) rfl rfl (fun c158x3 => ?_) (fun c158x3 => ?_)
                        · skip
                          have i158x3 := z_lt (-1) (-1) c158x3 i158x2 rfl
                          have c158x3a := lc_lt e158x2 c158x3
                          have i158x3a := lr_lt1 (-2147483648) (-1) c158x3a i153 (l_c 0 rfl) rfl
                          have i158x3b := l_b e153 i158x3a
                          refine g_iconst 0 18 (gd rfl) rfl rfl ?_
                          refine g_ireturn (gd rfl) rfl (nb01 (in_w 0 1 (in_c 0 rfl) rfl)) (hp158 _ _ ?_)
                          show GG _ _ _ _ _ _ _ _ [.int (Int32.ofInt 0)] _ _ _
                          refine g_if_eq 164 168 (gd rfl) rfl rfl (fun c161 => ?_) (fun c161 => ?_)
                          · skip
                            have n168 : s = s := by rfl
                            have n168a : ¬ DON s (x1).toInt (x2).toNatClampNeg := by intro h; have h9 := h.2.1 (by have a0 := oa5 h2 i18 i91 i125x10b i106x10b; have a5 := tx_i2l e153; have a6 := oa2 i158x3b i151; have a8 := t_add e151 h2 (in_c 3 rfl) rfl; have a9 := in_u ((in_c 3 rfl)); have a10 := tx_i2l e139x1; have a11 := oa2 i139x8x10b i137; have a13 := t_add e137 h2 (in_c 2 rfl) rfl; have a14 := in_u ((in_c 2 rfl)); have a15 := tx_i2l e124; have a16 := in_u i125x10d; have a17 := t_sub e123 i103 (in_c 1 rfl) rfl; have a18 := oa2 ((in_c 1 rfl)) i103; have a20 := tx_i2l e114; have a21 := tx_i2l e105; have a22 := in_u i106x10d; have a23 := t_sub e104 i103 (in_c 1 rfl) rfl; have a24 := tx_i2l e95; have a25 := in_u i13; have a26 := t_add e13 h2 (in_c 1 rfl) rfl; have oc := oc_305_109; omega); unfold nq at h9; have p9 : z81.toNatClampNeg = fpl (thg s 320) := p81; have hz81 : z81.toNatClampNeg = z81.toInt.toNat := rfl; rw [← p9, ← e5, show s.1 128 (x2.toNatClampNeg + 1) = z14 from (by rw [show x2.toNatClampNeg + 1 = z13.toNatClampNeg from (by show x2.toInt.toNat + 1 = z13.toInt.toNat; have a0 := oa5 h2 i18 i91 i125x10b i106x10b; have a5 := tx_i2l e153; have a6 := oa2 i158x3b i151; have a8 := t_add e151 h2 (in_c 3 rfl) rfl; have a9 := in_u ((in_c 3 rfl)); have a10 := tx_i2l e139x1; have a11 := oa2 i139x8x10b i137; have a13 := t_add e137 h2 (in_c 2 rfl) rfl; have a14 := in_u ((in_c 2 rfl)); have a15 := tx_i2l e124; have a16 := in_u i125x10d; have a17 := t_sub e123 i103 (in_c 1 rfl) rfl; have a18 := oa2 ((in_c 1 rfl)) i103; have a20 := tx_i2l e114; have a21 := tx_i2l e105; have a22 := in_u i106x10d; have a23 := t_sub e104 i103 (in_c 1 rfl) rfl; have a24 := tx_i2l e95; have a25 := in_u i13; have a26 := t_add e13 h2 (in_c 1 rfl) rfl; have oc := oc_305_109; omega)]; exact e14.symm), show s.1 110 2 = z102 from e102.symm, show s.1 128 (x2.toNatClampNeg + 2) = z138 from (by rw [show x2.toNatClampNeg + 2 = z137.toNatClampNeg from (by show x2.toInt.toNat + 2 = z137.toInt.toNat; have a0 := oa5 h2 i18 i91 i125x10b i106x10b; have a5 := tx_i2l e153; have a6 := oa2 i158x3b i151; have a8 := t_add e151 h2 (in_c 3 rfl) rfl; have a9 := in_u ((in_c 3 rfl)); have a10 := tx_i2l e139x1; have a11 := oa2 i139x8x10b i137; have a13 := t_add e137 h2 (in_c 2 rfl) rfl; have a14 := in_u ((in_c 2 rfl)); have a15 := tx_i2l e124; have a16 := in_u i125x10d; have a17 := t_sub e123 i103 (in_c 1 rfl) rfl; have a18 := oa2 ((in_c 1 rfl)) i103; have a20 := tx_i2l e114; have a21 := tx_i2l e105; have a22 := in_u i106x10d; have a23 := t_sub e104 i103 (in_c 1 rfl) rfl; have a24 := tx_i2l e95; have a25 := in_u i13; have a26 := t_add e13 h2 (in_c 1 rfl) rfl; have oc := oc_305_109; omega)]; exact e138.symm), show s.1 128 (x2.toNatClampNeg + 3) = z152 from (by rw [show x2.toNatClampNeg + 3 = z151.toNatClampNeg from (by show x2.toInt.toNat + 3 = z151.toInt.toNat; have a0 := oa5 h2 i18 i91 i125x10b i106x10b; have a5 := tx_i2l e153; have a6 := oa2 i158x3b i151; have a8 := t_add e151 h2 (in_c 3 rfl) rfl; have a9 := in_u ((in_c 3 rfl)); have a10 := tx_i2l e139x1; have a11 := oa2 i139x8x10b i137; have a13 := t_add e137 h2 (in_c 2 rfl) rfl; have a14 := in_u ((in_c 2 rfl)); have a15 := tx_i2l e124; have a16 := in_u i125x10d; have a17 := t_sub e123 i103 (in_c 1 rfl) rfl; have a18 := oa2 ((in_c 1 rfl)) i103; have a20 := tx_i2l e114; have a21 := tx_i2l e105; have a22 := in_u i106x10d; have a23 := t_sub e104 i103 (in_c 1 rfl) rfl; have a24 := tx_i2l e95; have a25 := in_u i13; have a26 := t_add e13 h2 (in_c 1 rfl) rfl; have oc := oc_305_109; omega)]; exact e152.symm)] at h9; have a0 := oa5 h2 i18 i91 i125x10b i106x10b; have a5 := tx_i2l e153; have a6 := oa2 i158x3b i151; have a8 := t_add e151 h2 (in_c 3 rfl) rfl; have a9 := in_u ((in_c 3 rfl)); have a10 := tx_i2l e139x1; have a11 := oa2 i139x8x10b i137; have a13 := t_add e137 h2 (in_c 2 rfl) rfl; have a14 := in_u ((in_c 2 rfl)); have a15 := tx_i2l e124; have a16 := in_u i125x10d; have a17 := t_sub e123 i103 (in_c 1 rfl) rfl; have a18 := oa2 ((in_c 1 rfl)) i103; have a20 := tx_i2l e114; have a21 := tx_i2l e105; have a22 := in_u i106x10d; have a23 := t_sub e104 i103 (in_c 1 rfl) rfl; have a24 := tx_i2l e95; have a25 := in_u i13; have a26 := t_add e13 h2 (in_c 1 rfl) rfl; have oc := oc_305_109; omega
                            exact gg_w (by first | exact Nat.le_of_ble_eq_true rfl | omega) (gg_f (gf_cons rfl (gf_cons rfl (gf_cons rfl (gf_cons rfl (gf_cons rfl (gf_cons rfl gf_nil)))))) (ct168 s z5 z14 z81 hI fr_rf (in_w 97 97 i18 rfl) (in_w 0 160 i91 rfl) n168 n168a))
                          · skip
                            exact zn_ne c161 (in_c 0 rfl) rfl
                        · skip
                          have i158x3 := z_ge 0 1 c158x3 i158x2 rfl
                          have c158x3a := lc_ge e158x2 c158x3
                          have i158x3a := lr_le2 0 2147483647 c158x3a (l_c 0 rfl) i153 rfl
                          have i158x3b := l_b e153 i158x3a
                          refine g_lload_n 7 (gd rfl) rfl rfl ?_
                          refine g_lload 9 (gd rfl) rfl rfl ?_
                          refine g_lcmp 10 (gd rfl) rfl (fun z158x9 e158x9 => ?_)
                          have i158x9 := lc_in e158x9
                          refine g_if_gt 13 17 (gd rfl) rfl rfl (fun c158x10 => ?_) (fun c158x10 => ?_)
                          · skip
                            have i158x10 := z_gt 1 1 c158x10 i158x9 rfl
                            have c158x10a := lc_gt e158x9 c158x10
                            have i158x10a := lr_lt2 1000001 2147483647 c158x10a (l_c 1000000 rfl) i158x3a rfl
                            have i158x10b := l_b e153 i158x10a
                            refine g_iconst 0 18 (gd rfl) rfl rfl ?_
                            refine g_ireturn (gd rfl) rfl (nb01 (in_w 0 1 (in_c 0 rfl) rfl)) (hp158 _ _ ?_)
                            show GG _ _ _ _ _ _ _ _ [.int (Int32.ofInt 0)] _ _ _
                            refine g_if_eq 164 168 (gd rfl) rfl rfl (fun c161 => ?_) (fun c161 => ?_)
                            · skip
                              have n168 : s = s := by rfl
                              have n168a : ¬ DON s (x1).toInt (x2).toNatClampNeg := by intro h; have h9 := h.2.1 (by have a0 := oa5 h2 i18 i91 i125x10b i106x10b; have a5 := tx_i2l e153; have a6 := oa2 i158x10b i151; have a8 := t_add e151 h2 (in_c 3 rfl) rfl; have a9 := in_u ((in_c 3 rfl)); have a10 := tx_i2l e139x1; have a11 := oa2 i139x8x10b i137; have a13 := t_add e137 h2 (in_c 2 rfl) rfl; have a14 := in_u ((in_c 2 rfl)); have a15 := tx_i2l e124; have a16 := in_u i125x10d; have a17 := t_sub e123 i103 (in_c 1 rfl) rfl; have a18 := oa2 ((in_c 1 rfl)) i103; have a20 := tx_i2l e114; have a21 := tx_i2l e105; have a22 := in_u i106x10d; have a23 := t_sub e104 i103 (in_c 1 rfl) rfl; have a24 := tx_i2l e95; have a25 := in_u i13; have a26 := t_add e13 h2 (in_c 1 rfl) rfl; have oc := oc_305_109; omega); unfold nq at h9; have p9 : z81.toNatClampNeg = fpl (thg s 320) := p81; have hz81 : z81.toNatClampNeg = z81.toInt.toNat := rfl; rw [← p9, ← e5, show s.1 128 (x2.toNatClampNeg + 1) = z14 from (by rw [show x2.toNatClampNeg + 1 = z13.toNatClampNeg from (by show x2.toInt.toNat + 1 = z13.toInt.toNat; have a0 := oa5 h2 i18 i91 i125x10b i106x10b; have a5 := tx_i2l e153; have a6 := oa2 i158x10b i151; have a8 := t_add e151 h2 (in_c 3 rfl) rfl; have a9 := in_u ((in_c 3 rfl)); have a10 := tx_i2l e139x1; have a11 := oa2 i139x8x10b i137; have a13 := t_add e137 h2 (in_c 2 rfl) rfl; have a14 := in_u ((in_c 2 rfl)); have a15 := tx_i2l e124; have a16 := in_u i125x10d; have a17 := t_sub e123 i103 (in_c 1 rfl) rfl; have a18 := oa2 ((in_c 1 rfl)) i103; have a20 := tx_i2l e114; have a21 := tx_i2l e105; have a22 := in_u i106x10d; have a23 := t_sub e104 i103 (in_c 1 rfl) rfl; have a24 := tx_i2l e95; have a25 := in_u i13; have a26 := t_add e13 h2 (in_c 1 rfl) rfl; have oc := oc_305_109; omega)]; exact e14.symm), show s.1 110 2 = z102 from e102.symm, show s.1 128 (x2.toNatClampNeg + 2) = z138 from (by rw [show x2.toNatClampNeg + 2 = z137.toNatClampNeg from (by show x2.toInt.toNat + 2 = z137.toInt.toNat; have a0 := oa5 h2 i18 i91 i125x10b i106x10b; have a5 := tx_i2l e153; have a6 := oa2 i158x10b i151; have a8 := t_add e151 h2 (in_c 3 rfl) rfl; have a9 := in_u ((in_c 3 rfl)); have a10 := tx_i2l e139x1; have a11 := oa2 i139x8x10b i137; have a13 := t_add e137 h2 (in_c 2 rfl) rfl; have a14 := in_u ((in_c 2 rfl)); have a15 := tx_i2l e124; have a16 := in_u i125x10d; have a17 := t_sub e123 i103 (in_c 1 rfl) rfl; have a18 := oa2 ((in_c 1 rfl)) i103; have a20 := tx_i2l e114; have a21 := tx_i2l e105; have a22 := in_u i106x10d; have a23 := t_sub e104 i103 (in_c 1 rfl) rfl; have a24 := tx_i2l e95; have a25 := in_u i13; have a26 := t_add e13 h2 (in_c 1 rfl) rfl; have oc := oc_305_109; omega)]; exact e138.symm), show s.1 128 (x2.toNatClampNeg + 3) = z152 from (by rw [show x2.toNatClampNeg + 3 = z151.toNatClampNeg from (by show x2.toInt.toNat + 3 = z151.toInt.toNat; have a0 := oa5 h2 i18 i91 i125x10b i106x10b; have a5 := tx_i2l e153; have a6 := oa2 i158x10b i151; have a8 := t_add e151 h2 (in_c 3 rfl) rfl; have a9 := in_u ((in_c 3 rfl)); have a10 := tx_i2l e139x1; have a11 := oa2 i139x8x10b i137; have a13 := t_add e137 h2 (in_c 2 rfl) rfl; have a14 := in_u ((in_c 2 rfl)); have a15 := tx_i2l e124; have a16 := in_u i125x10d; have a17 := t_sub e123 i103 (in_c 1 rfl) rfl; have a18 := oa2 ((in_c 1 rfl)) i103; have a20 := tx_i2l e114; have a21 := tx_i2l e105; have a22 := in_u i106x10d; have a23 := t_sub e104 i103 (in_c 1 rfl) rfl; have a24 := tx_i2l e95; have a25 := in_u i13; have a26 := t_add e13 h2 (in_c 1 rfl) rfl; have oc := oc_305_109; omega)]; exact e152.symm)] at h9; have a0 := oa5 h2 i18 i91 i125x10b i106x10b; have a5 := tx_i2l e153; have a6 := oa2 i158x10b i151; have a8 := t_add e151 h2 (in_c 3 rfl) rfl; have a9 := in_u ((in_c 3 rfl)); have a10 := tx_i2l e139x1; have a11 := oa2 i139x8x10b i137; have a13 := t_add e137 h2 (in_c 2 rfl) rfl; have a14 := in_u ((in_c 2 rfl)); have a15 := tx_i2l e124; have a16 := in_u i125x10d; have a17 := t_sub e123 i103 (in_c 1 rfl) rfl; have a18 := oa2 ((in_c 1 rfl)) i103; have a20 := tx_i2l e114; have a21 := tx_i2l e105; have a22 := in_u i106x10d; have a23 := t_sub e104 i103 (in_c 1 rfl) rfl; have a24 := tx_i2l e95; have a25 := in_u i13; have a26 := t_add e13 h2 (in_c 1 rfl) rfl; have oc := oc_305_109; omega
                              exact gg_w (by first | exact Nat.le_of_ble_eq_true rfl | omega) (gg_f (gf_cons rfl (gf_cons rfl (gf_cons rfl (gf_cons rfl (gf_cons rfl (gf_cons rfl gf_nil)))))) (ct168 s z5 z14 z81 hI fr_rf (in_w 97 97 i18 rfl) (in_w 0 160 i91 rfl) n168 n168a))
                            · skip
                              exact zn_ne c161 (in_c 0 rfl) rfl
                          · skip
                            have i158x10 := z_le (-1) 0 c158x10 i158x9 rfl
                            have c158x10a := lc_le e158x9 c158x10
                            have i158x10a := lr_le1 0 1000000 c158x10a i158x3a (l_c 1000000 rfl) rfl
                            have i158x10b := l_b e153 i158x10a
                            refine g_iconst 1 14 (gd rfl) rfl rfl ?_
                            refine g_goto 18 (gd rfl) rfl ?_
                            refine g_ireturn (gd rfl) rfl (nb01 (in_w 0 1 (in_c 1 rfl) rfl)) (hp158 _ _ ?_)
                            show GG _ _ _ _ _ _ _ _ [.int (Int32.ofInt 1)] _ _ _
                            refine g_if_eq 164 168 (gd rfl) rfl rfl (fun c161 => ?_) (fun c161 => ?_)
                            · skip
                              exact zn_eq c161 (in_c 1 rfl) rfl
                            · skip
                              refine g_iconst 1 165 (gd rfl) rfl rfl ?_
                              refine g_goto 169 (gd rfl) rfl ?_
                              refine g_istore 171 (gd rfl) rfl (Nat.le_of_ble_eq_true rfl) ?_
                              refine g_iload 173 (gd rfl) rfl rfl ?_
                              refine g_if_eq 176 188 (gd rfl) rfl rfl (fun c173 => ?_) (fun c173 => ?_)
                              · skip
                                exact zn_eq c173 (in_c 1 rfl) rfl
                              · skip
                                refine g_aload_n 177 (gd rfl) rfl rfl ?_
                                refine g_getA (q2 := 112) 180 (gd rfl) rfl rfl rfl rfl ?_
                                refine g_sipush 320 183 (gd rfl) rfl rfl ?_
                                refine g_iload 185 (gd rfl) rfl rfl ?_
                                refine g_iadd 186 (gd rfl) rfl (fun z185 e185 => ?_)
                                have i185 := in_add 320 479 e185 (in_c 320 rfl) i91 rfl rfl
                                refine g_iconst 1 187 (gd rfl) rfl rfl ?_
                                refine g_bastore 188 (gd rfl) rfl (n := 480) rfl (in_ix i185 rfl) ?_
                                have hI187 : Inv (sI s 112 z185.toNatClampNeg (vp_nar .boolean (Int32.ofInt 1))) := by exact inv_t3 hI (by show 320 ≤ (z185).toInt.toNat; have a0 := oa7 h2 i18 ((in_c 1 rfl)) i91 i125x10b i106x10b i185; have a7 := t_add e185 (in_c 320 rfl) i91 rfl; have a8 := in_u ((in_c 320 rfl)); have a9 := tx_i2l e153; have a10 := oa2 i158x10b i151; have a12 := t_add e151 h2 (in_c 3 rfl) rfl; have a13 := in_u ((in_c 3 rfl)); have a14 := tx_i2l e139x1; have a15 := oa2 i139x8x10b i137; have a17 := t_add e137 h2 (in_c 2 rfl) rfl; have a18 := in_u ((in_c 2 rfl)); have a19 := tx_i2l e124; have a20 := in_u i125x10d; have a21 := t_sub e123 i103 (in_c 1 rfl) rfl; have a22 := in_u i103; have a23 := tx_i2l e114; have a24 := tx_i2l e105; have a25 := in_u i106x10d; have a26 := t_sub e104 i103 (in_c 1 rfl) rfl; have a27 := tx_i2l e95; have a28 := in_u i13; have a29 := t_add e13 h2 (in_c 1 rfl) rfl; have oc := oc_305_109; omega) (in_w 0 1 (nar01 (in_w 0 1 (in_c 1 rfl) rfl)) rfl)
                                have n188 : DNE s (sI s 112 z185.toNatClampNeg (vp_nar .boolean (Int32.ofInt 1))) (x1).toInt (x2).toNatClampNeg ((Int32.ofInt 1)).toInt := by exact dne_a (p := z81.toNatClampNeg) (by have a0 := oa7 h2 i18 ((in_c 1 rfl)) i91 i125x10b i106x10b i185; have a7 := t_add e185 (in_c 320 rfl) i91 rfl; have a8 := in_u ((in_c 320 rfl)); have a9 := tx_i2l e153; have a10 := oa2 i158x10b i151; have a12 := t_add e151 h2 (in_c 3 rfl) rfl; have a13 := in_u ((in_c 3 rfl)); have a14 := tx_i2l e139x1; have a15 := oa2 i139x8x10b i137; have a17 := t_add e137 h2 (in_c 2 rfl) rfl; have a18 := in_u ((in_c 2 rfl)); have a19 := tx_i2l e124; have a20 := in_u i125x10d; have a21 := t_sub e123 i103 (in_c 1 rfl) rfl; have a22 := in_u i103; have a23 := tx_i2l e114; have a24 := tx_i2l e105; have a25 := in_u i106x10d; have a26 := t_sub e104 i103 (in_c 1 rfl) rfl; have a27 := tx_i2l e95; have a28 := in_u i13; have a29 := t_add e13 h2 (in_c 1 rfl) rfl; have oc := oc_305_109; omega) p81 (by show z81.toInt.toNat < 160; have a0 := oa7 h2 i18 ((in_c 1 rfl)) i91 i125x10b i106x10b i185; have a7 := t_add e185 (in_c 320 rfl) i91 rfl; have a8 := in_u ((in_c 320 rfl)); have a9 := tx_i2l e153; have a10 := oa2 i158x10b i151; have a12 := t_add e151 h2 (in_c 3 rfl) rfl; have a13 := in_u ((in_c 3 rfl)); have a14 := tx_i2l e139x1; have a15 := oa2 i139x8x10b i137; have a17 := t_add e137 h2 (in_c 2 rfl) rfl; have a18 := in_u ((in_c 2 rfl)); have a19 := tx_i2l e124; have a20 := in_u i125x10d; have a21 := t_sub e123 i103 (in_c 1 rfl) rfl; have a22 := in_u i103; have a23 := tx_i2l e114; have a24 := tx_i2l e105; have a25 := in_u i106x10d; have a26 := t_sub e104 i103 (in_c 1 rfl) rfl; have a27 := tx_i2l e95; have a28 := in_u i13; have a29 := t_add e13 h2 (in_c 1 rfl) rfl; have oc := oc_305_109; (first | exact zt_l (by decide) (by omega) | omega)) (by show z185.toInt.toNat = 320 + z81.toInt.toNat; have a0 := oa7 h2 i18 ((in_c 1 rfl)) i91 i125x10b i106x10b i185; have a7 := t_add e185 (in_c 320 rfl) i91 rfl; have a8 := in_u ((in_c 320 rfl)); have a9 := tx_i2l e153; have a10 := oa2 i158x10b i151; have a12 := t_add e151 h2 (in_c 3 rfl) rfl; have a13 := in_u ((in_c 3 rfl)); have a14 := tx_i2l e139x1; have a15 := oa2 i139x8x10b i137; have a17 := t_add e137 h2 (in_c 2 rfl) rfl; have a18 := in_u ((in_c 2 rfl)); have a19 := tx_i2l e124; have a20 := in_u i125x10d; have a21 := t_sub e123 i103 (in_c 1 rfl) rfl; have a22 := in_u i103; have a23 := tx_i2l e114; have a24 := tx_i2l e105; have a25 := in_u i106x10d; have a26 := t_sub e104 i103 (in_c 1 rfl) rfl; have a27 := tx_i2l e95; have a28 := in_u i13; have a29 := t_add e13 h2 (in_c 1 rfl) rfl; have oc := oc_305_109; omega) ⟨by rw [← e5]; have h := i106x3b.1; omega, by rw [← e5]; have ha := c106x10a; have hb := tx_i2l e95; have hc := tx_i2l e105; have he : z102 = s.1 110 2 := e102; rw [← he]; have a0 := oa7 h2 i18 ((in_c 1 rfl)) i91 i125x10b i106x10b i185; have a7 := t_add e185 (in_c 320 rfl) i91 rfl; have a8 := in_u ((in_c 320 rfl)); have a9 := tx_i2l e153; have a10 := oa2 i158x10b i151; have a12 := t_add e151 h2 (in_c 3 rfl) rfl; have a13 := in_u ((in_c 3 rfl)); have a14 := tx_i2l e139x1; have a15 := oa2 i139x8x10b i137; have a17 := t_add e137 h2 (in_c 2 rfl) rfl; have a18 := in_u ((in_c 2 rfl)); have a19 := tx_i2l e124; have a20 := in_u i125x10d; have a21 := t_sub e123 i103 (in_c 1 rfl) rfl; have a22 := in_u i103; have a23 := tx_i2l e114; have a24 := tx_i2l e105; have a25 := in_u i106x10d; have a26 := t_sub e104 i103 (in_c 1 rfl) rfl; have a27 := tx_i2l e95; have a28 := in_u i13; have a29 := t_add e13 h2 (in_c 1 rfl) rfl; have oc := oc_305_109; omega⟩ ⟨by rw [show x2.toNatClampNeg + 1 = z13.toNatClampNeg from (by show x2.toInt.toNat + 1 = z13.toInt.toNat; have a0 := oa7 h2 i18 ((in_c 1 rfl)) i91 i125x10b i106x10b i185; have a7 := t_add e185 (in_c 320 rfl) i91 rfl; have a8 := in_u ((in_c 320 rfl)); have a9 := tx_i2l e153; have a10 := oa2 i158x10b i151; have a12 := t_add e151 h2 (in_c 3 rfl) rfl; have a13 := in_u ((in_c 3 rfl)); have a14 := tx_i2l e139x1; have a15 := oa2 i139x8x10b i137; have a17 := t_add e137 h2 (in_c 2 rfl) rfl; have a18 := in_u ((in_c 2 rfl)); have a19 := tx_i2l e124; have a20 := in_u i125x10d; have a21 := t_sub e123 i103 (in_c 1 rfl) rfl; have a22 := in_u i103; have a23 := tx_i2l e114; have a24 := tx_i2l e105; have a25 := in_u i106x10d; have a26 := t_sub e104 i103 (in_c 1 rfl) rfl; have a27 := tx_i2l e95; have a28 := in_u i13; have a29 := t_add e13 h2 (in_c 1 rfl) rfl; have oc := oc_305_109; omega), ← e14]; have h := i125x3b.1; omega, by rw [show x2.toNatClampNeg + 1 = z13.toNatClampNeg from (by show x2.toInt.toNat + 1 = z13.toInt.toNat; have a0 := oa7 h2 i18 ((in_c 1 rfl)) i91 i125x10b i106x10b i185; have a7 := t_add e185 (in_c 320 rfl) i91 rfl; have a8 := in_u ((in_c 320 rfl)); have a9 := tx_i2l e153; have a10 := oa2 i158x10b i151; have a12 := t_add e151 h2 (in_c 3 rfl) rfl; have a13 := in_u ((in_c 3 rfl)); have a14 := tx_i2l e139x1; have a15 := oa2 i139x8x10b i137; have a17 := t_add e137 h2 (in_c 2 rfl) rfl; have a18 := in_u ((in_c 2 rfl)); have a19 := tx_i2l e124; have a20 := in_u i125x10d; have a21 := t_sub e123 i103 (in_c 1 rfl) rfl; have a22 := in_u i103; have a23 := tx_i2l e114; have a24 := tx_i2l e105; have a25 := in_u i106x10d; have a26 := t_sub e104 i103 (in_c 1 rfl) rfl; have a27 := tx_i2l e95; have a28 := in_u i13; have a29 := t_add e13 h2 (in_c 1 rfl) rfl; have oc := oc_305_109; omega), ← e14]; have ha := c125x10a; have hb := tx_i2l e114; have hc := tx_i2l e124; have he : z102 = s.1 110 2 := e102; rw [← he]; have a0 := oa7 h2 i18 ((in_c 1 rfl)) i91 i125x10b i106x10b i185; have a7 := t_add e185 (in_c 320 rfl) i91 rfl; have a8 := in_u ((in_c 320 rfl)); have a9 := tx_i2l e153; have a10 := oa2 i158x10b i151; have a12 := t_add e151 h2 (in_c 3 rfl) rfl; have a13 := in_u ((in_c 3 rfl)); have a14 := tx_i2l e139x1; have a15 := oa2 i139x8x10b i137; have a17 := t_add e137 h2 (in_c 2 rfl) rfl; have a18 := in_u ((in_c 2 rfl)); have a19 := tx_i2l e124; have a20 := in_u i125x10d; have a21 := t_sub e123 i103 (in_c 1 rfl) rfl; have a22 := in_u i103; have a23 := tx_i2l e114; have a24 := tx_i2l e105; have a25 := in_u i106x10d; have a26 := t_sub e104 i103 (in_c 1 rfl) rfl; have a27 := tx_i2l e95; have a28 := in_u i13; have a29 := t_add e13 h2 (in_c 1 rfl) rfl; have oc := oc_305_109; omega⟩ (by rw [show x2.toNatClampNeg + 2 = z137.toNatClampNeg from (by show x2.toInt.toNat + 2 = z137.toInt.toNat; have a0 := oa7 h2 i18 ((in_c 1 rfl)) i91 i125x10b i106x10b i185; have a7 := t_add e185 (in_c 320 rfl) i91 rfl; have a8 := in_u ((in_c 320 rfl)); have a9 := tx_i2l e153; have a10 := oa2 i158x10b i151; have a12 := t_add e151 h2 (in_c 3 rfl) rfl; have a13 := in_u ((in_c 3 rfl)); have a14 := tx_i2l e139x1; have a15 := oa2 i139x8x10b i137; have a17 := t_add e137 h2 (in_c 2 rfl) rfl; have a18 := in_u ((in_c 2 rfl)); have a19 := tx_i2l e124; have a20 := in_u i125x10d; have a21 := t_sub e123 i103 (in_c 1 rfl) rfl; have a22 := in_u i103; have a23 := tx_i2l e114; have a24 := tx_i2l e105; have a25 := in_u i106x10d; have a26 := t_sub e104 i103 (in_c 1 rfl) rfl; have a27 := tx_i2l e95; have a28 := in_u i13; have a29 := t_add e13 h2 (in_c 1 rfl) rfl; have oc := oc_305_109; omega), ← e138]; exact i139x8x10b) (by rw [show x2.toNatClampNeg + 3 = z151.toNatClampNeg from (by show x2.toInt.toNat + 3 = z151.toInt.toNat; have a0 := oa7 h2 i18 ((in_c 1 rfl)) i91 i125x10b i106x10b i185; have a7 := t_add e185 (in_c 320 rfl) i91 rfl; have a8 := in_u ((in_c 320 rfl)); have a9 := tx_i2l e153; have a10 := oa2 i158x10b i151; have a12 := t_add e151 h2 (in_c 3 rfl) rfl; have a13 := in_u ((in_c 3 rfl)); have a14 := tx_i2l e139x1; have a15 := oa2 i139x8x10b i137; have a17 := t_add e137 h2 (in_c 2 rfl) rfl; have a18 := in_u ((in_c 2 rfl)); have a19 := tx_i2l e124; have a20 := in_u i125x10d; have a21 := t_sub e123 i103 (in_c 1 rfl) rfl; have a22 := in_u i103; have a23 := tx_i2l e114; have a24 := tx_i2l e105; have a25 := in_u i106x10d; have a26 := t_sub e104 i103 (in_c 1 rfl) rfl; have a27 := tx_i2l e95; have a28 := in_u i13; have a29 := t_add e13 h2 (in_c 1 rfl) rfl; have oc := oc_305_109; omega), ← e152]; exact i158x10b)
                                have n188a : YNQ ((Int32.ofInt 1)).toInt (DON s (x1).toInt (x2).toNatClampNeg) := by have p9 : z81.toNatClampNeg = fpl (thg s 320) := p81; have hz81 : z81.toNatClampNeg = z81.toInt.toNat := rfl; exact ⟨fun _ => don_97 (by have a0 := oa7 h2 i18 ((in_c 1 rfl)) i91 i125x10b i106x10b i185; have a7 := t_add e185 (in_c 320 rfl) i91 rfl; have a8 := in_u ((in_c 320 rfl)); have a9 := tx_i2l e153; have a10 := oa2 i158x10b i151; have a12 := t_add e151 h2 (in_c 3 rfl) rfl; have a13 := in_u ((in_c 3 rfl)); have a14 := tx_i2l e139x1; have a15 := oa2 i139x8x10b i137; have a17 := t_add e137 h2 (in_c 2 rfl) rfl; have a18 := in_u ((in_c 2 rfl)); have a19 := tx_i2l e124; have a20 := in_u i125x10d; have a21 := t_sub e123 i103 (in_c 1 rfl) rfl; have a22 := in_u i103; have a23 := tx_i2l e114; have a24 := tx_i2l e105; have a25 := in_u i106x10d; have a26 := t_sub e104 i103 (in_c 1 rfl) rfl; have a27 := tx_i2l e95; have a28 := in_u i13; have a29 := t_add e13 h2 (in_c 1 rfl) rfl; have oc := oc_305_109; omega) ⟨by rw [← p9]; have a0 := oa7 h2 i18 ((in_c 1 rfl)) i91 i125x10b i106x10b i185; have a7 := t_add e185 (in_c 320 rfl) i91 rfl; have a8 := in_u ((in_c 320 rfl)); have a9 := tx_i2l e153; have a10 := oa2 i158x10b i151; have a12 := t_add e151 h2 (in_c 3 rfl) rfl; have a13 := in_u ((in_c 3 rfl)); have a14 := tx_i2l e139x1; have a15 := oa2 i139x8x10b i137; have a17 := t_add e137 h2 (in_c 2 rfl) rfl; have a18 := in_u ((in_c 2 rfl)); have a19 := tx_i2l e124; have a20 := in_u i125x10d; have a21 := t_sub e123 i103 (in_c 1 rfl) rfl; have a22 := in_u i103; have a23 := tx_i2l e114; have a24 := tx_i2l e105; have a25 := in_u i106x10d; have a26 := t_sub e104 i103 (in_c 1 rfl) rfl; have a27 := tx_i2l e95; have a28 := in_u i13; have a29 := t_add e13 h2 (in_c 1 rfl) rfl; have oc := oc_305_109; omega, (by unfold nq; rw [← e5, show s.1 110 2 = z102 from e102.symm]; have a0 := oa7 h2 i18 ((in_c 1 rfl)) i91 i125x10b i106x10b i185; have a7 := t_add e185 (in_c 320 rfl) i91 rfl; have a8 := in_u ((in_c 320 rfl)); have a9 := tx_i2l e153; have a10 := oa2 i158x10b i151; have a12 := t_add e151 h2 (in_c 3 rfl) rfl; have a13 := in_u ((in_c 3 rfl)); have a14 := tx_i2l e139x1; have a15 := oa2 i139x8x10b i137; have a17 := t_add e137 h2 (in_c 2 rfl) rfl; have a18 := in_u ((in_c 2 rfl)); have a19 := tx_i2l e124; have a20 := in_u i125x10d; have a21 := t_sub e123 i103 (in_c 1 rfl) rfl; have a22 := in_u i103; have a23 := tx_i2l e114; have a24 := tx_i2l e105; have a25 := in_u i106x10d; have a26 := t_sub e104 i103 (in_c 1 rfl) rfl; have a27 := tx_i2l e95; have a28 := in_u i13; have a29 := t_add e13 h2 (in_c 1 rfl) rfl; have oc := oc_305_109; omega), (by unfold nq; rw [show s.1 128 (x2.toNatClampNeg + 1) = z14 from (by rw [show x2.toNatClampNeg + 1 = z13.toNatClampNeg from (by show x2.toInt.toNat + 1 = z13.toInt.toNat; have a0 := oa7 h2 i18 ((in_c 1 rfl)) i91 i125x10b i106x10b i185; have a7 := t_add e185 (in_c 320 rfl) i91 rfl; have a8 := in_u ((in_c 320 rfl)); have a9 := tx_i2l e153; have a10 := oa2 i158x10b i151; have a12 := t_add e151 h2 (in_c 3 rfl) rfl; have a13 := in_u ((in_c 3 rfl)); have a14 := tx_i2l e139x1; have a15 := oa2 i139x8x10b i137; have a17 := t_add e137 h2 (in_c 2 rfl) rfl; have a18 := in_u ((in_c 2 rfl)); have a19 := tx_i2l e124; have a20 := in_u i125x10d; have a21 := t_sub e123 i103 (in_c 1 rfl) rfl; have a22 := in_u i103; have a23 := tx_i2l e114; have a24 := tx_i2l e105; have a25 := in_u i106x10d; have a26 := t_sub e104 i103 (in_c 1 rfl) rfl; have a27 := tx_i2l e95; have a28 := in_u i13; have a29 := t_add e13 h2 (in_c 1 rfl) rfl; have oc := oc_305_109; omega)]; exact e14.symm), show s.1 110 2 = z102 from e102.symm]; have a0 := oa7 h2 i18 ((in_c 1 rfl)) i91 i125x10b i106x10b i185; have a7 := t_add e185 (in_c 320 rfl) i91 rfl; have a8 := in_u ((in_c 320 rfl)); have a9 := tx_i2l e153; have a10 := oa2 i158x10b i151; have a12 := t_add e151 h2 (in_c 3 rfl) rfl; have a13 := in_u ((in_c 3 rfl)); have a14 := tx_i2l e139x1; have a15 := oa2 i139x8x10b i137; have a17 := t_add e137 h2 (in_c 2 rfl) rfl; have a18 := in_u ((in_c 2 rfl)); have a19 := tx_i2l e124; have a20 := in_u i125x10d; have a21 := t_sub e123 i103 (in_c 1 rfl) rfl; have a22 := in_u i103; have a23 := tx_i2l e114; have a24 := tx_i2l e105; have a25 := in_u i106x10d; have a26 := t_sub e104 i103 (in_c 1 rfl) rfl; have a27 := tx_i2l e95; have a28 := in_u i13; have a29 := t_add e13 h2 (in_c 1 rfl) rfl; have oc := oc_305_109; omega), (by unfold nq; rw [show s.1 128 (x2.toNatClampNeg + 2) = z138 from (by rw [show x2.toNatClampNeg + 2 = z137.toNatClampNeg from (by show x2.toInt.toNat + 2 = z137.toInt.toNat; have a0 := oa7 h2 i18 ((in_c 1 rfl)) i91 i125x10b i106x10b i185; have a7 := t_add e185 (in_c 320 rfl) i91 rfl; have a8 := in_u ((in_c 320 rfl)); have a9 := tx_i2l e153; have a10 := oa2 i158x10b i151; have a12 := t_add e151 h2 (in_c 3 rfl) rfl; have a13 := in_u ((in_c 3 rfl)); have a14 := tx_i2l e139x1; have a15 := oa2 i139x8x10b i137; have a17 := t_add e137 h2 (in_c 2 rfl) rfl; have a18 := in_u ((in_c 2 rfl)); have a19 := tx_i2l e124; have a20 := in_u i125x10d; have a21 := t_sub e123 i103 (in_c 1 rfl) rfl; have a22 := in_u i103; have a23 := tx_i2l e114; have a24 := tx_i2l e105; have a25 := in_u i106x10d; have a26 := t_sub e104 i103 (in_c 1 rfl) rfl; have a27 := tx_i2l e95; have a28 := in_u i13; have a29 := t_add e13 h2 (in_c 1 rfl) rfl; have oc := oc_305_109; omega)]; exact e138.symm)]; have a0 := oa7 h2 i18 ((in_c 1 rfl)) i91 i125x10b i106x10b i185; have a7 := t_add e185 (in_c 320 rfl) i91 rfl; have a8 := in_u ((in_c 320 rfl)); have a9 := tx_i2l e153; have a10 := oa2 i158x10b i151; have a12 := t_add e151 h2 (in_c 3 rfl) rfl; have a13 := in_u ((in_c 3 rfl)); have a14 := tx_i2l e139x1; have a15 := oa2 i139x8x10b i137; have a17 := t_add e137 h2 (in_c 2 rfl) rfl; have a18 := in_u ((in_c 2 rfl)); have a19 := tx_i2l e124; have a20 := in_u i125x10d; have a21 := t_sub e123 i103 (in_c 1 rfl) rfl; have a22 := in_u i103; have a23 := tx_i2l e114; have a24 := tx_i2l e105; have a25 := in_u i106x10d; have a26 := t_sub e104 i103 (in_c 1 rfl) rfl; have a27 := tx_i2l e95; have a28 := in_u i13; have a29 := t_add e13 h2 (in_c 1 rfl) rfl; have oc := oc_305_109; omega), (by unfold nq; rw [show s.1 128 (x2.toNatClampNeg + 3) = z152 from (by rw [show x2.toNatClampNeg + 3 = z151.toNatClampNeg from (by show x2.toInt.toNat + 3 = z151.toInt.toNat; have a0 := oa7 h2 i18 ((in_c 1 rfl)) i91 i125x10b i106x10b i185; have a7 := t_add e185 (in_c 320 rfl) i91 rfl; have a8 := in_u ((in_c 320 rfl)); have a9 := tx_i2l e153; have a10 := oa2 i158x10b i151; have a12 := t_add e151 h2 (in_c 3 rfl) rfl; have a13 := in_u ((in_c 3 rfl)); have a14 := tx_i2l e139x1; have a15 := oa2 i139x8x10b i137; have a17 := t_add e137 h2 (in_c 2 rfl) rfl; have a18 := in_u ((in_c 2 rfl)); have a19 := tx_i2l e124; have a20 := in_u i125x10d; have a21 := t_sub e123 i103 (in_c 1 rfl) rfl; have a22 := in_u i103; have a23 := tx_i2l e114; have a24 := tx_i2l e105; have a25 := in_u i106x10d; have a26 := t_sub e104 i103 (in_c 1 rfl) rfl; have a27 := tx_i2l e95; have a28 := in_u i13; have a29 := t_add e13 h2 (in_c 1 rfl) rfl; have oc := oc_305_109; omega)]; exact e152.symm)]; have a0 := oa7 h2 i18 ((in_c 1 rfl)) i91 i125x10b i106x10b i185; have a7 := t_add e185 (in_c 320 rfl) i91 rfl; have a8 := in_u ((in_c 320 rfl)); have a9 := tx_i2l e153; have a10 := oa2 i158x10b i151; have a12 := t_add e151 h2 (in_c 3 rfl) rfl; have a13 := in_u ((in_c 3 rfl)); have a14 := tx_i2l e139x1; have a15 := oa2 i139x8x10b i137; have a17 := t_add e137 h2 (in_c 2 rfl) rfl; have a18 := in_u ((in_c 2 rfl)); have a19 := tx_i2l e124; have a20 := in_u i125x10d; have a21 := t_sub e123 i103 (in_c 1 rfl) rfl; have a22 := in_u i103; have a23 := tx_i2l e114; have a24 := tx_i2l e105; have a25 := in_u i106x10d; have a26 := t_sub e104 i103 (in_c 1 rfl) rfl; have a27 := tx_i2l e95; have a28 := in_u i13; have a29 := t_add e13 h2 (in_c 1 rfl) rfl; have oc := oc_305_109; omega)⟩, fun h => absurd h (by decide)⟩
                                have n188b : G12 s (sI s 112 z185.toNatClampNeg (vp_nar .boolean (Int32.ofInt 1))) := by exact g12_t (by show 320 ≤ z185.toInt.toNat; have a0 := oa7 h2 i18 ((in_c 1 rfl)) i91 i125x10b i106x10b i185; have a7 := t_add e185 (in_c 320 rfl) i91 rfl; have a8 := in_u ((in_c 320 rfl)); have a9 := tx_i2l e153; have a10 := oa2 i158x10b i151; have a12 := t_add e151 h2 (in_c 3 rfl) rfl; have a13 := in_u ((in_c 3 rfl)); have a14 := tx_i2l e139x1; have a15 := oa2 i139x8x10b i137; have a17 := t_add e137 h2 (in_c 2 rfl) rfl; have a18 := in_u ((in_c 2 rfl)); have a19 := tx_i2l e124; have a20 := in_u i125x10d; have a21 := t_sub e123 i103 (in_c 1 rfl) rfl; have a22 := in_u i103; have a23 := tx_i2l e114; have a24 := tx_i2l e105; have a25 := in_u i106x10d; have a26 := t_sub e104 i103 (in_c 1 rfl) rfl; have a27 := tx_i2l e95; have a28 := in_u i13; have a29 := t_add e13 h2 (in_c 1 rfl) rfl; have oc := oc_305_109; omega)
                                exact gg_w (by first | exact Nat.le_of_ble_eq_true rfl | omega) (gg_f (gf_cons rfl (gf_cons rfl (gf_cons rfl (gf_cons rfl (gf_cons rfl (gf_cons rfl (gf_cons rfl gf_nil))))))) (ct188 (sI s 112 z185.toNatClampNeg (vp_nar .boolean (Int32.ofInt 1))) z5 z14 z81 (Int32.ofInt 1) hI187 (fr_sI rfl fr_rf) (in_w 97 97 i18 rfl) (in_w 0 160 i91 rfl) (in_w 0 1 (in_c 1 rfl) rfl) n188 n188a n188b))
  · skip
    have i18 := sw_eq c18
    refine g_aload_n 53 (gd rfl) rfl rfl ?_
    refine g_getA (q2 := 110) 56 (gd rfl) rfl rfl rfl rfl ?_
    refine g_iconst 2 57 (gd rfl) rfl rfl ?_
    refine g_dup2 58 (gd rfl) rfl rfl rfl ?_
    refine g_iaload 59 (gd rfl) rfl (n := 3) rfl (in_ix (in_c 2 rfl) rfl) (fun z58 e58 => ?_)
    have i59 : In z58 0 32 := by rw [e58]; exact q_0
    refine g_iconst 1 60 (gd rfl) rfl rfl ?_
    refine g_iadd 61 (gd rfl) rfl (fun z60 e60 => ?_)
    have i60 := in_add 1 33 e60 i59 (in_c 1 rfl) rfl rfl
    refine g_iastore 62 (gd rfl) rfl (n := 3) rfl (in_ix (in_c 2 rfl) rfl) ?_
    have hI61 : Inv (sI s 110 (Int32.ofInt 2).toNatClampNeg z60) := by exact inv_n2 hI (Nat.le_refl 2)
    refine g_aload_n 63 (gd rfl) rfl rfl ?_
    refine g_getA (q2 := 110) 66 (gd rfl) rfl rfl rfl rfl ?_
    refine g_iconst 2 67 (gd rfl) rfl rfl ?_
    refine g_iaload 68 (gd rfl) rfl (n := 3) rfl (in_ix (in_c 2 rfl) rfl) (fun z67 e67 => ?_)
    have q67 : z60 = z67 := (sI_get).trans e67.symm
    subst q67
    refine g_bipush 32 70 (gd rfl) rfl rfl ?_
    refine g_cmp_gt 73 77 (gd rfl) rfl rfl (fun c70 => ?_) (fun c70 => ?_)
    · skip
      have i70 := r_lt2 33 33 c70 (in_c 32 rfl) i60 rfl
      refine g_iconst 0 78 (gd rfl) rfl rfl ?_
      have n78 : DNE s (sI s 110 (Int32.ofInt 2).toNatClampNeg z60) (x1).toInt (x2).toNatClampNeg ((Int32.ofInt 0)).toInt := by exact dne_n (by have a0 := oa3 h2 i18 i70; have a3 := t_add e60 i59 (in_c 1 rfl) rfl; have a4 := oa3 ((in_c 1 rfl)) i59 i13; have a7 := t_add e13 h2 (in_c 1 rfl) rfl; have oc := oc_305_109; omega) e58 (by have a0 := oa3 h2 i18 i70; have a3 := t_add e60 i59 (in_c 1 rfl) rfl; have a4 := oa3 ((in_c 1 rfl)) i59 i13; have a7 := t_add e13 h2 (in_c 1 rfl) rfl; have oc := oc_305_109; omega) (fun hz => by first | (exact absurd (by decide) hz) | (have h := i70; unfold In at h; omega))
      have n78a : YNQ ((Int32.ofInt 0)).toInt (DON s (x1).toInt (x2).toNatClampNeg) := by first | exact ⟨fun _ => don_110 (by have a0 := oa3 h2 i18 i70; have a3 := t_add e60 i59 (in_c 1 rfl) rfl; have a4 := oa3 ((in_c 1 rfl)) i59 i13; have a7 := t_add e13 h2 (in_c 1 rfl) rfl; have oc := oc_305_109; omega) (by rw [show s.1 110 2 = z58 from e58.symm]; have a0 := oa3 h2 i18 i70; have a3 := t_add e60 i59 (in_c 1 rfl) rfl; have a4 := oa3 ((in_c 1 rfl)) i59 i13; have a7 := t_add e13 h2 (in_c 1 rfl) rfl; have oc := oc_305_109; omega), fun h => absurd h (by decide)⟩ | exact ⟨fun h => absurd rfl h, fun _ h => by have h9 := h.1 (by have a0 := oa3 h2 i18 i70; have a3 := t_add e60 i59 (in_c 1 rfl) rfl; have a4 := oa3 ((in_c 1 rfl)) i59 i13; have a7 := t_add e13 h2 (in_c 1 rfl) rfl; have oc := oc_305_109; omega); rw [show s.1 110 2 = z58 from e58.symm] at h9; have a0 := oa3 h2 i18 i70; have a3 := t_add e60 i59 (in_c 1 rfl) rfl; have a4 := oa3 ((in_c 1 rfl)) i59 i13; have a7 := t_add e13 h2 (in_c 1 rfl) rfl; have oc := oc_305_109; omega⟩
      have n78b : G12 s (sI s 110 (Int32.ofInt 2).toNatClampNeg z60) := by exact g12_n
      exact g_ireturn (gd rfl) rfl (nb01 (in_w 0 1 (in_c 0 rfl) rfl)) (hP _ _ ⟨(sI s 110 (Int32.ofInt 2).toNatClampNeg z60), hI61, (fr_sI rfl fr_rf), (Int32.ofInt 0), rfl, rfl, in_w 0 1 (in_c 0 rfl) rfl, n78, n78a, n78b⟩)
    · skip
      have i70 := r_le1 1 32 c70 i60 (in_c 32 rfl) rfl
      refine g_iconst 1 74 (gd rfl) rfl rfl ?_
      refine g_goto 78 (gd rfl) rfl ?_
      have n78 : DNE s (sI s 110 (Int32.ofInt 2).toNatClampNeg z60) (x1).toInt (x2).toNatClampNeg ((Int32.ofInt 1)).toInt := by exact dne_n (by have a0 := oa3 h2 i18 i70; have a3 := t_add e60 i59 (in_c 1 rfl) rfl; have a4 := oa3 ((in_c 1 rfl)) i59 i13; have a7 := t_add e13 h2 (in_c 1 rfl) rfl; have oc := oc_305_109; omega) e58 (by have a0 := oa3 h2 i18 i70; have a3 := t_add e60 i59 (in_c 1 rfl) rfl; have a4 := oa3 ((in_c 1 rfl)) i59 i13; have a7 := t_add e13 h2 (in_c 1 rfl) rfl; have oc := oc_305_109; omega) (fun hz => by first | (exact absurd (by decide) hz) | (have h := i70; unfold In at h; omega))
      have n78a : YNQ ((Int32.ofInt 1)).toInt (DON s (x1).toInt (x2).toNatClampNeg) := by first | exact ⟨fun _ => don_110 (by have a0 := oa3 h2 i18 i70; have a3 := t_add e60 i59 (in_c 1 rfl) rfl; have a4 := oa3 ((in_c 1 rfl)) i59 i13; have a7 := t_add e13 h2 (in_c 1 rfl) rfl; have oc := oc_305_109; omega) (by rw [show s.1 110 2 = z58 from e58.symm]; have a0 := oa3 h2 i18 i70; have a3 := t_add e60 i59 (in_c 1 rfl) rfl; have a4 := oa3 ((in_c 1 rfl)) i59 i13; have a7 := t_add e13 h2 (in_c 1 rfl) rfl; have oc := oc_305_109; omega), fun h => absurd h (by decide)⟩ | exact ⟨fun h => absurd rfl h, fun _ h => by have h9 := h.1 (by have a0 := oa3 h2 i18 i70; have a3 := t_add e60 i59 (in_c 1 rfl) rfl; have a4 := oa3 ((in_c 1 rfl)) i59 i13; have a7 := t_add e13 h2 (in_c 1 rfl) rfl; have oc := oc_305_109; omega); rw [show s.1 110 2 = z58 from e58.symm] at h9; have a0 := oa3 h2 i18 i70; have a3 := t_add e60 i59 (in_c 1 rfl) rfl; have a4 := oa3 ((in_c 1 rfl)) i59 i13; have a7 := t_add e13 h2 (in_c 1 rfl) rfl; have oc := oc_305_109; omega⟩
      have n78b : G12 s (sI s 110 (Int32.ofInt 2).toNatClampNeg z60) := by exact g12_n
      exact g_ireturn (gd rfl) rfl (nb01 (in_w 0 1 (in_c 1 rfl) rfl)) (hP _ _ ⟨(sI s 110 (Int32.ofInt 2).toNatClampNeg z60), hI61, (fr_sI rfl fr_rf), (Int32.ofInt 1), rfl, rfl, in_w 0 1 (in_c 1 rfl) rfl, n78, n78a, n78b⟩)
  · skip
    have i18 := sw_eq c18
    refine g_iload_n 192 (gd rfl) rfl rfl ?_
    refine g_i2l 193 (gd rfl) rfl (fun z192 e192 => ?_)
    have i192 := l_i e192 (i_rng z5)
    refine g_lconst 0 194 (gd rfl) rfl rfl ?_
    refine g_ldc2_w 159 197 (gd rfl) rfl rfl ?_
    refine g_calls (As := [.long z192, .long (Int64.ofInt 0), .long (Int64.ofInt 159)]) (r := []) 200 (gd rfl) rfl rfl rfl rfl rfl (Nat.le_of_ble_eq_true rfl) (mc := 0) (ms := 0) (Nat.zero_le _) (Nat.zero_le _) (P := fun v u => _) ?_ (fun v u h => h)
    intro po197 xx197 hp197 hx197
    refine g_enter2 (k := 269) (N := 300) (by first | exact dq1 hd rfl | exact dq0 hd rfl | exact dq2 hd rfl | exact dq3 hd rfl | omega) rfl (Nat.le_of_ble_eq_true rfl) ?_
    refine g_lload_n 1 (gd rfl) rfl rfl ?_
    refine g_lload_n 2 (gd rfl) rfl rfl ?_
    refine g_lcmp 3 (gd rfl) rfl (fun z197x2 e197x2 => ?_)
    have i197x2 := lc_in e197x2
    refine g_if_lt 6 17 (gd rfl) rfl rfl (fun c197x3 => ?_) (fun c197x3 => ?_)
    · skip
      have i197x3 := z_lt (-1) (-1) c197x3 i197x2 rfl
      have c197x3a := lc_lt e197x2 c197x3
      have i197x3a := lr_lt1 (-2147483648) (-1) c197x3a i192 (l_c 0 rfl) rfl
      have i197x3b := l_b e192 i197x3a
      refine g_iconst 0 18 (gd rfl) rfl rfl ?_
      refine g_ireturn (gd rfl) rfl (nb01 (in_w 0 1 (in_c 0 rfl) rfl)) (hp197 _ _ ?_)
      show GG _ _ _ _ _ _ _ _ [.int (Int32.ofInt 0)] _ _ _
      refine g_if_eq 203 236 (gd rfl) rfl rfl (fun c200 => ?_) (fun c200 => ?_)
      · skip
        have n236 : s = s := by rfl
        have n236a : ¬ DON s (x1).toInt (x2).toNatClampNeg := by intro h; have h9 := h.2.2.1 (Or.inl (by have a0 := oa3 h2 i18 i197x3b; have a3 := tx_i2l e192; have a4 := in_u i13; have a5 := t_add e13 h2 (in_c 1 rfl) rfl; have a6 := in_u ((in_c 1 rfl)); have oc := oc_305_109; omega)); unfold nq at h9; rw [← e5] at h9; have h8 := h9.1; have a0 := oa3 h2 i18 i197x3b; have a3 := tx_i2l e192; have a4 := in_u i13; have a5 := t_add e13 h2 (in_c 1 rfl) rfl; have a6 := in_u ((in_c 1 rfl)); have oc := oc_305_109; omega
        exact gg_w (by first | exact Nat.le_of_ble_eq_true rfl | omega) (gg_f (gf_cons rfl (gf_cons rfl (gf_cons rfl (gf_cons rfl (gf_cons rfl gf_nil))))) (ct236 s z5 z14 hI fr_rf (in_w 116 116 i18 rfl) n236 n236a))
      · skip
        exact zn_ne c200 (in_c 0 rfl) rfl
    · skip
      have i197x3 := z_ge 0 1 c197x3 i197x2 rfl
      have c197x3a := lc_ge e197x2 c197x3
      have i197x3a := lr_le2 0 2147483647 c197x3a (l_c 0 rfl) i192 rfl
      have i197x3b := l_b e192 i197x3a
      refine g_lload_n 7 (gd rfl) rfl rfl ?_
      refine g_lload 9 (gd rfl) rfl rfl ?_
      refine g_lcmp 10 (gd rfl) rfl (fun z197x9 e197x9 => ?_)
      have i197x9 := lc_in e197x9
      refine g_if_gt 13 17 (gd rfl) rfl rfl (fun c197x10 => ?_) (fun c197x10 => ?_)
      · skip
        have i197x10 := z_gt 1 1 c197x10 i197x9 rfl
        have c197x10a := lc_gt e197x9 c197x10
        have i197x10a := lr_lt2 160 2147483647 c197x10a (l_c 159 rfl) i197x3a rfl
        have i197x10b := l_b e192 i197x10a
        refine g_iconst 0 18 (gd rfl) rfl rfl ?_
        refine g_ireturn (gd rfl) rfl (nb01 (in_w 0 1 (in_c 0 rfl) rfl)) (hp197 _ _ ?_)
        show GG _ _ _ _ _ _ _ _ [.int (Int32.ofInt 0)] _ _ _
        refine g_if_eq 203 236 (gd rfl) rfl rfl (fun c200 => ?_) (fun c200 => ?_)
        · skip
          have n236 : s = s := by rfl
          have n236a : ¬ DON s (x1).toInt (x2).toNatClampNeg := by intro h; have h9 := h.2.2.1 (Or.inl (by have a0 := oa3 h2 i18 i197x10b; have a3 := tx_i2l e192; have a4 := in_u i13; have a5 := t_add e13 h2 (in_c 1 rfl) rfl; have a6 := in_u ((in_c 1 rfl)); have oc := oc_305_109; omega)); unfold nq at h9; rw [← e5] at h9; have h8 := h9.1; have a0 := oa3 h2 i18 i197x10b; have a3 := tx_i2l e192; have a4 := in_u i13; have a5 := t_add e13 h2 (in_c 1 rfl) rfl; have a6 := in_u ((in_c 1 rfl)); have oc := oc_305_109; omega
          exact gg_w (by first | exact Nat.le_of_ble_eq_true rfl | omega) (gg_f (gf_cons rfl (gf_cons rfl (gf_cons rfl (gf_cons rfl (gf_cons rfl gf_nil))))) (ct236 s z5 z14 hI fr_rf (in_w 116 116 i18 rfl) n236 n236a))
        · skip
          exact zn_ne c200 (in_c 0 rfl) rfl
      · skip
        have i197x10 := z_le (-1) 0 c197x10 i197x9 rfl
        have c197x10a := lc_le e197x9 c197x10
        have i197x10a := lr_le1 0 159 c197x10a i197x3a (l_c 159 rfl) rfl
        have i197x10b := l_b e192 i197x10a
        refine g_iconst 1 14 (gd rfl) rfl rfl ?_
        refine g_goto 18 (gd rfl) rfl ?_
        refine g_ireturn (gd rfl) rfl (nb01 (in_w 0 1 (in_c 1 rfl) rfl)) (hp197 _ _ ?_)
        show GG _ _ _ _ _ _ _ _ [.int (Int32.ofInt 1)] _ _ _
        refine g_if_eq 203 236 (gd rfl) rfl rfl (fun c200 => ?_) (fun c200 => ?_)
        · skip
          exact zn_eq c200 (in_c 1 rfl) rfl
        · skip
          refine g_aload_n 204 (gd rfl) rfl rfl ?_
          refine g_getA (q2 := 112) 207 (gd rfl) rfl rfl rfl rfl ?_
          refine g_sipush 320 210 (gd rfl) rfl rfl ?_
          refine g_iload_n 211 (gd rfl) rfl rfl ?_
          refine g_i2l 212 (gd rfl) rfl (fun z211 e211 => ?_)
          have i211 := l_i e211 i197x10b
          refine g_lconst 0 213 (gd rfl) rfl rfl ?_
          refine g_ldc2_w 159 216 (gd rfl) rfl rfl ?_
          refine g_calls (As := [.long z211, .long (Int64.ofInt 0), .long (Int64.ofInt 159)]) (r := [.int (Int32.ofInt 320), .ref (A 112)]) 219 (gd rfl) rfl rfl rfl rfl rfl (Nat.le_of_ble_eq_true rfl) (mc := 0) (ms := 0) (Nat.zero_le _) (Nat.zero_le _) (P := fun v u => _) ?_ (fun v u h => h)
          intro po216 xx216 hp216 hx216
          refine g_enter2 (k := 269) (N := 300) (by first | exact dq1 hd rfl | exact dq0 hd rfl | exact dq2 hd rfl | exact dq3 hd rfl | omega) rfl (Nat.le_of_ble_eq_true rfl) ?_
          refine g_lload_n 1 (gd rfl) rfl rfl ?_
          refine g_lload_n 2 (gd rfl) rfl rfl ?_
          refine g_lcmp 3 (gd rfl) rfl (fun z216x2 e216x2 => ?_)
          have i216x2 := lc_in e216x2
          refine g_if_lt 6 17 (gd rfl) rfl rfl (fun c216x3 => ?_) (fun c216x3 => ?_)
          · skip
            have i216x3 := z_lt (-1) (-1) c216x3 i216x2 rfl
            have c216x3a := lc_lt e216x2 c216x3
            exact ln_lt c216x3a i211 (l_c 0 rfl) rfl
          · skip
            have i216x3 := z_ge 0 1 c216x3 i216x2 rfl
            have c216x3a := lc_ge e216x2 c216x3
            refine g_lload_n 7 (gd rfl) rfl rfl ?_
            refine g_lload 9 (gd rfl) rfl rfl ?_
            refine g_lcmp 10 (gd rfl) rfl (fun z216x9 e216x9 => ?_)
            have i216x9 := lc_in e216x9
            refine g_if_gt 13 17 (gd rfl) rfl rfl (fun c216x10 => ?_) (fun c216x10 => ?_)
            · skip
              have i216x10 := z_gt 1 1 c216x10 i216x9 rfl
              have c216x10a := lc_gt e216x9 c216x10
              exact ln_lt c216x10a (l_c 159 rfl) i211 rfl
            · skip
              have i216x10 := z_le (-1) 0 c216x10 i216x9 rfl
              have c216x10a := lc_le e216x9 c216x10
              refine g_iconst 1 14 (gd rfl) rfl rfl ?_
              refine g_goto 18 (gd rfl) rfl ?_
              refine g_ireturn (gd rfl) rfl (nb01 (in_w 0 1 (in_c 1 rfl) rfl)) (hp216 _ _ ?_)
              show GG _ _ _ _ _ _ _ _ [.int (Int32.ofInt 1), .int (Int32.ofInt 320), .ref (A 112)] _ _ _
              refine g_if_eq 222 226 (gd rfl) rfl rfl (fun c219 => ?_) (fun c219 => ?_)
              · skip
                exact zn_eq c219 (in_c 1 rfl) rfl
              · skip
                refine g_iload_n 223 (gd rfl) rfl rfl ?_
                refine g_goto 227 (gd rfl) rfl ?_
                refine g_iadd 228 (gd rfl) rfl (fun z227 e227 => ?_)
                have i227 := in_add 320 479 e227 (in_c 320 rfl) i197x10b rfl rfl
                refine g_baload 229 (gd rfl) rfl (n := 480) rfl (in_ix i227 rfl) (fun z228 e228 => ?_)
                have i228 := inv_I hI (n := 480) (t := 3) 0 1 rfl (in_ix i227 rfl) rfl e228
                refine g_if_eq 232 236 (gd rfl) rfl rfl (fun c229 => ?_) (fun c229 => ?_)
                · skip
                  have i229 := z_eq 0 0 c229 i228 rfl
                  have n236 : s = s := by rfl
                  have n236a : ¬ DON s (x1).toInt (x2).toNatClampNeg := by intro h; have h9 := h.2.2.1 (Or.inl (by have a0 := oa4 h2 i18 i197x10b i227; have a4 := t_add e227 (in_c 320 rfl) i197x10b rfl; have a5 := in_u ((in_c 320 rfl)); have a6 := tx_i2l e211; have a7 := tx_i2l e192; have a8 := in_u i13; have a9 := t_add e13 h2 (in_c 1 rfl) rfl; have a10 := in_u ((in_c 1 rfl)); have oc := oc_305_109; omega)); unfold nq at h9; rw [← e5] at h9; first | (exfalso; have a0 := oa4 h2 i18 i197x10b i227; have a4 := t_add e227 (in_c 320 rfl) i197x10b rfl; have a5 := in_u ((in_c 320 rfl)); have a6 := tx_i2l e211; have a7 := tx_i2l e192; have a8 := in_u i13; have a9 := t_add e13 h2 (in_c 1 rfl) rfl; have a10 := in_u ((in_c 1 rfl)); have oc := oc_305_109; omega) | (have h8 := h9.2; rw [thg_t e228 (by have a0 := oa4 h2 i18 i197x10b i227; have a4 := t_add e227 (in_c 320 rfl) i197x10b rfl; have a5 := in_u ((in_c 320 rfl)); have a6 := tx_i2l e211; have a7 := tx_i2l e192; have a8 := in_u i13; have a9 := t_add e13 h2 (in_c 1 rfl) rfl; have a10 := in_u ((in_c 1 rfl)); have oc := oc_305_109; omega) (by have a0 := oa4 h2 i18 i197x10b i227; have a4 := t_add e227 (in_c 320 rfl) i197x10b rfl; have a5 := in_u ((in_c 320 rfl)); have a6 := tx_i2l e211; have a7 := tx_i2l e192; have a8 := in_u i13; have a9 := t_add e13 h2 (in_c 1 rfl) rfl; have a10 := in_u ((in_c 1 rfl)); have oc := oc_305_109; omega)] at h8; have h7 := of_decide_eq_true h8; have a0 := oa4 h2 i18 i197x10b i227; have a4 := t_add e227 (in_c 320 rfl) i197x10b rfl; have a5 := in_u ((in_c 320 rfl)); have a6 := tx_i2l e211; have a7 := tx_i2l e192; have a8 := in_u i13; have a9 := t_add e13 h2 (in_c 1 rfl) rfl; have a10 := in_u ((in_c 1 rfl)); have oc := oc_305_109; omega)
                  exact gg_w (by first | exact Nat.le_of_ble_eq_true rfl | omega) (gg_f (gf_cons rfl (gf_cons rfl (gf_cons rfl (gf_cons rfl (gf_cons rfl gf_nil))))) (ct236 s z5 z14 hI fr_rf (in_w 116 116 i18 rfl) n236 n236a))
                · skip
                  have i229 := z_ne 1 1 c229 i228 rfl
                  refine g_iconst 1 233 (gd rfl) rfl rfl ?_
                  refine g_goto 237 (gd rfl) rfl ?_
                  refine g_istore 239 (gd rfl) rfl (Nat.le_of_ble_eq_true rfl) ?_
                  refine g_iload 241 (gd rfl) rfl rfl ?_
                  refine g_if_eq 244 255 (gd rfl) rfl rfl (fun c241 => ?_) (fun c241 => ?_)
                  · skip
                    exact zn_eq c241 (in_c 1 rfl) rfl
                  · skip
                    refine g_aload_n 245 (gd rfl) rfl rfl ?_
                    refine g_getA (q2 := 112) 248 (gd rfl) rfl rfl rfl rfl ?_
                    refine g_sipush 320 251 (gd rfl) rfl rfl ?_
                    refine g_iload_n 252 (gd rfl) rfl rfl ?_
                    refine g_iadd 253 (gd rfl) rfl (fun z252 e252 => ?_)
                    have i252 := in_add 320 479 e252 (in_c 320 rfl) i197x10b rfl rfl
                    refine g_iconst 0 254 (gd rfl) rfl rfl ?_
                    refine g_bastore 255 (gd rfl) rfl (n := 480) rfl (in_ix i252 rfl) ?_
                    have hI254 : Inv (sI s 112 z252.toNatClampNeg (vp_nar .boolean (Int32.ofInt 0))) := by exact inv_t3 hI (by show 320 ≤ (z252).toInt.toNat; have a0 := oa5 h2 i18 ((in_c 1 rfl)) i197x10b i252; have a5 := t_add e252 (in_c 320 rfl) i197x10b rfl; have a6 := oa2 ((in_c 320 rfl)) i227; have a8 := t_add e227 (in_c 320 rfl) i197x10b rfl; have a9 := tx_i2l e211; have a10 := tx_i2l e192; have a11 := in_u i13; have a12 := t_add e13 h2 (in_c 1 rfl) rfl; have oc := oc_305_109; omega) (in_w 0 1 (nar01 (in_w 0 1 (in_c 0 rfl) rfl)) rfl)
                    have n255 : DNE s (sI s 112 z252.toNatClampNeg (vp_nar .boolean (Int32.ofInt 0))) (x1).toInt (x2).toNatClampNeg ((Int32.ofInt 1)).toInt := by exact dne_t (by have a0 := oa5 h2 i18 ((in_c 1 rfl)) i197x10b i252; have a5 := t_add e252 (in_c 320 rfl) i197x10b rfl; have a6 := oa2 ((in_c 320 rfl)) i227; have a8 := t_add e227 (in_c 320 rfl) i197x10b rfl; have a9 := tx_i2l e211; have a10 := tx_i2l e192; have a11 := in_u i13; have a12 := t_add e13 h2 (in_c 1 rfl) rfl; have oc := oc_305_109; omega) (by rw [← e5]; exact i197x10b) (by rw [← e5]; show z252.toInt.toNat = 320 + z5.toInt.toNat; have a0 := oa5 h2 i18 ((in_c 1 rfl)) i197x10b i252; have a5 := t_add e252 (in_c 320 rfl) i197x10b rfl; have a6 := oa2 ((in_c 320 rfl)) i227; have a8 := t_add e227 (in_c 320 rfl) i197x10b rfl; have a9 := tx_i2l e211; have a10 := tx_i2l e192; have a11 := in_u i13; have a12 := t_add e13 h2 (in_c 1 rfl) rfl; have oc := oc_305_109; omega)
                    have n255a : YNQ ((Int32.ofInt 1)).toInt (DON s (x1).toInt (x2).toNatClampNeg) := by exact ⟨fun _ => don_116 (by have a0 := oa5 h2 i18 ((in_c 1 rfl)) i197x10b i252; have a5 := t_add e252 (in_c 320 rfl) i197x10b rfl; have a6 := oa2 ((in_c 320 rfl)) i227; have a8 := t_add e227 (in_c 320 rfl) i197x10b rfl; have a9 := tx_i2l e211; have a10 := tx_i2l e192; have a11 := in_u i13; have a12 := t_add e13 h2 (in_c 1 rfl) rfl; have oc := oc_305_109; omega) ⟨(by unfold nq; rw [← e5]; have a0 := oa5 h2 i18 ((in_c 1 rfl)) i197x10b i252; have a5 := t_add e252 (in_c 320 rfl) i197x10b rfl; have a6 := oa2 ((in_c 320 rfl)) i227; have a8 := t_add e227 (in_c 320 rfl) i197x10b rfl; have a9 := tx_i2l e211; have a10 := tx_i2l e192; have a11 := in_u i13; have a12 := t_add e13 h2 (in_c 1 rfl) rfl; have oc := oc_305_109; omega), (by rw [← e5, thg_t e228 (by have a0 := oa5 h2 i18 ((in_c 1 rfl)) i197x10b i252; have a5 := t_add e252 (in_c 320 rfl) i197x10b rfl; have a6 := oa2 ((in_c 320 rfl)) i227; have a8 := t_add e227 (in_c 320 rfl) i197x10b rfl; have a9 := tx_i2l e211; have a10 := tx_i2l e192; have a11 := in_u i13; have a12 := t_add e13 h2 (in_c 1 rfl) rfl; have oc := oc_305_109; omega) (by have a0 := oa5 h2 i18 ((in_c 1 rfl)) i197x10b i252; have a5 := t_add e252 (in_c 320 rfl) i197x10b rfl; have a6 := oa2 ((in_c 320 rfl)) i227; have a8 := t_add e227 (in_c 320 rfl) i197x10b rfl; have a9 := tx_i2l e211; have a10 := tx_i2l e192; have a11 := in_u i13; have a12 := t_add e13 h2 (in_c 1 rfl) rfl; have oc := oc_305_109; omega)]; exact decide_eq_true (by have a0 := oa5 h2 i18 ((in_c 1 rfl)) i197x10b i252; have a5 := t_add e252 (in_c 320 rfl) i197x10b rfl; have a6 := oa2 ((in_c 320 rfl)) i227; have a8 := t_add e227 (in_c 320 rfl) i197x10b rfl; have a9 := tx_i2l e211; have a10 := tx_i2l e192; have a11 := in_u i13; have a12 := t_add e13 h2 (in_c 1 rfl) rfl; have oc := oc_305_109; omega))⟩, fun h => absurd h (by decide)⟩
                    have n255b : G12 s (sI s 112 z252.toNatClampNeg (vp_nar .boolean (Int32.ofInt 0))) := by exact g12_t (by show 320 ≤ z252.toInt.toNat; have a0 := oa5 h2 i18 ((in_c 1 rfl)) i197x10b i252; have a5 := t_add e252 (in_c 320 rfl) i197x10b rfl; have a6 := oa2 ((in_c 320 rfl)) i227; have a8 := t_add e227 (in_c 320 rfl) i197x10b rfl; have a9 := tx_i2l e211; have a10 := tx_i2l e192; have a11 := in_u i13; have a12 := t_add e13 h2 (in_c 1 rfl) rfl; have oc := oc_305_109; omega)
                    exact gg_w (by first | exact Nat.le_of_ble_eq_true rfl | omega) (gg_f (gf_cons rfl (gf_cons rfl (gf_cons rfl (gf_cons rfl (gf_cons rfl (gf_cons rfl gf_nil)))))) (ct255 (sI s 112 z252.toNatClampNeg (vp_nar .boolean (Int32.ofInt 0))) z5 z14 (Int32.ofInt 1) hI254 (fr_sI rfl fr_rf) (in_w 116 116 i18 rfl) (in_w 0 1 (in_c 1 rfl) rfl) n255 n255a n255b))
  · skip
    refine g_iload_n 259 (gd rfl) rfl rfl ?_
    refine g_i2l 260 (gd rfl) rfl (fun z259 e259 => ?_)
    have i259 := l_i e259 (i_rng z5)
    refine g_lconst 0 261 (gd rfl) rfl rfl ?_
    refine g_ldc2_w 159 264 (gd rfl) rfl rfl ?_
    refine g_calls (As := [.long z259, .long (Int64.ofInt 0), .long (Int64.ofInt 159)]) (r := []) 267 (gd rfl) rfl rfl rfl rfl rfl (Nat.le_of_ble_eq_true rfl) (mc := 0) (ms := 0) (Nat.zero_le _) (Nat.zero_le _) (P := fun v u => _) ?_ (fun v u h => h)
    intro po264 xx264 hp264 hx264
    refine g_enter2 (k := 269) (N := 300) (by first | exact dq1 hd rfl | exact dq0 hd rfl | exact dq2 hd rfl | exact dq3 hd rfl | omega) rfl (Nat.le_of_ble_eq_true rfl) ?_
    refine g_lload_n 1 (gd rfl) rfl rfl ?_
    refine g_lload_n 2 (gd rfl) rfl rfl ?_
    refine g_lcmp 3 (gd rfl) rfl (fun z264x2 e264x2 => ?_)
    have i264x2 := lc_in e264x2
    refine g_if_lt 6 17 (gd rfl) rfl rfl (fun c264x3 => ?_) (fun c264x3 => ?_)
    · skip
      have i264x3 := z_lt (-1) (-1) c264x3 i264x2 rfl
      have c264x3a := lc_lt e264x2 c264x3
      have i264x3a := lr_lt1 (-2147483648) (-1) c264x3a i259 (l_c 0 rfl) rfl
      have i264x3b := l_b e259 i264x3a
      refine g_iconst 0 18 (gd rfl) rfl rfl ?_
      refine g_ireturn (gd rfl) rfl (nb01 (in_w 0 1 (in_c 0 rfl) rfl)) (hp264 _ _ ?_)
      show GG _ _ _ _ _ _ _ _ [.int (Int32.ofInt 0)] _ _ _
      refine g_if_eq 270 311 (gd rfl) rfl rfl (fun c267 => ?_) (fun c267 => ?_)
      · skip
        have n311 : s = s := by rfl
        have n311a : ¬ DON s (x1).toInt (x2).toNatClampNeg := by intro h; have h9 := h.2.2.1 (Or.inr (by rcases q_1 with e | e | e | e; (have a0 := oa3 h2 h1 i264x3b; have a3 := tx_i2l e259; have a4 := in_u i13; have a5 := t_add e13 h2 (in_c 1 rfl) rfl; have a6 := in_u ((in_c 1 rfl)); have oc := oc_305_109; omega); (have a0 := oa3 h2 h1 i264x3b; have a3 := tx_i2l e259; have a4 := in_u i13; have a5 := t_add e13 h2 (in_c 1 rfl) rfl; have a6 := in_u ((in_c 1 rfl)); have oc := oc_305_109; omega); (have a0 := oa3 h2 h1 i264x3b; have a3 := tx_i2l e259; have a4 := in_u i13; have a5 := t_add e13 h2 (in_c 1 rfl) rfl; have a6 := in_u ((in_c 1 rfl)); have oc := oc_305_109; omega); (exact e))); unfold nq at h9; rw [← e5] at h9; have h8 := h9.1; have a0 := oa3 h2 h1 i264x3b; have a3 := tx_i2l e259; have a4 := in_u i13; have a5 := t_add e13 h2 (in_c 1 rfl) rfl; have a6 := in_u ((in_c 1 rfl)); have oc := oc_305_109; omega
        exact gg_w (by first | exact Nat.le_of_ble_eq_true rfl | omega) (gg_f (gf_cons rfl (gf_cons rfl (gf_cons rfl (gf_cons rfl (gf_cons rfl gf_nil))))) (ct311 s z5 z14 hI fr_rf n311 n311a))
      · skip
        exact zn_ne c267 (in_c 0 rfl) rfl
    · skip
      have i264x3 := z_ge 0 1 c264x3 i264x2 rfl
      have c264x3a := lc_ge e264x2 c264x3
      have i264x3a := lr_le2 0 2147483647 c264x3a (l_c 0 rfl) i259 rfl
      have i264x3b := l_b e259 i264x3a
      refine g_lload_n 7 (gd rfl) rfl rfl ?_
      refine g_lload 9 (gd rfl) rfl rfl ?_
      refine g_lcmp 10 (gd rfl) rfl (fun z264x9 e264x9 => ?_)
      have i264x9 := lc_in e264x9
      refine g_if_gt 13 17 (gd rfl) rfl rfl (fun c264x10 => ?_) (fun c264x10 => ?_)
      · skip
        have i264x10 := z_gt 1 1 c264x10 i264x9 rfl
        have c264x10a := lc_gt e264x9 c264x10
        have i264x10a := lr_lt2 160 2147483647 c264x10a (l_c 159 rfl) i264x3a rfl
        have i264x10b := l_b e259 i264x10a
        refine g_iconst 0 18 (gd rfl) rfl rfl ?_
        refine g_ireturn (gd rfl) rfl (nb01 (in_w 0 1 (in_c 0 rfl) rfl)) (hp264 _ _ ?_)
        show GG _ _ _ _ _ _ _ _ [.int (Int32.ofInt 0)] _ _ _
        refine g_if_eq 270 311 (gd rfl) rfl rfl (fun c267 => ?_) (fun c267 => ?_)
        · skip
          have n311 : s = s := by rfl
          have n311a : ¬ DON s (x1).toInt (x2).toNatClampNeg := by intro h; have h9 := h.2.2.1 (Or.inr (by rcases q_1 with e | e | e | e; (have a0 := oa3 h2 h1 i264x10b; have a3 := tx_i2l e259; have a4 := in_u i13; have a5 := t_add e13 h2 (in_c 1 rfl) rfl; have a6 := in_u ((in_c 1 rfl)); have oc := oc_305_109; omega); (have a0 := oa3 h2 h1 i264x10b; have a3 := tx_i2l e259; have a4 := in_u i13; have a5 := t_add e13 h2 (in_c 1 rfl) rfl; have a6 := in_u ((in_c 1 rfl)); have oc := oc_305_109; omega); (have a0 := oa3 h2 h1 i264x10b; have a3 := tx_i2l e259; have a4 := in_u i13; have a5 := t_add e13 h2 (in_c 1 rfl) rfl; have a6 := in_u ((in_c 1 rfl)); have oc := oc_305_109; omega); (exact e))); unfold nq at h9; rw [← e5] at h9; have h8 := h9.1; have a0 := oa3 h2 h1 i264x10b; have a3 := tx_i2l e259; have a4 := in_u i13; have a5 := t_add e13 h2 (in_c 1 rfl) rfl; have a6 := in_u ((in_c 1 rfl)); have oc := oc_305_109; omega
          exact gg_w (by first | exact Nat.le_of_ble_eq_true rfl | omega) (gg_f (gf_cons rfl (gf_cons rfl (gf_cons rfl (gf_cons rfl (gf_cons rfl gf_nil))))) (ct311 s z5 z14 hI fr_rf n311 n311a))
        · skip
          exact zn_ne c267 (in_c 0 rfl) rfl
      · skip
        have i264x10 := z_le (-1) 0 c264x10 i264x9 rfl
        have c264x10a := lc_le e264x9 c264x10
        have i264x10a := lr_le1 0 159 c264x10a i264x3a (l_c 159 rfl) rfl
        have i264x10b := l_b e259 i264x10a
        refine g_iconst 1 14 (gd rfl) rfl rfl ?_
        refine g_goto 18 (gd rfl) rfl ?_
        refine g_ireturn (gd rfl) rfl (nb01 (in_w 0 1 (in_c 1 rfl) rfl)) (hp264 _ _ ?_)
        show GG _ _ _ _ _ _ _ _ [.int (Int32.ofInt 1)] _ _ _
        refine g_if_eq 270 311 (gd rfl) rfl rfl (fun c267 => ?_) (fun c267 => ?_)
        · skip
          exact zn_eq c267 (in_c 1 rfl) rfl
        · skip
          refine g_aload_n 271 (gd rfl) rfl rfl ?_
          refine g_getA (q2 := 112) 274 (gd rfl) rfl rfl rfl rfl ?_
          refine g_sipush 320 277 (gd rfl) rfl rfl ?_
          refine g_iload_n 278 (gd rfl) rfl rfl ?_
          refine g_i2l 279 (gd rfl) rfl (fun z278 e278 => ?_)
          have i278 := l_i e278 i264x10b
          refine g_lconst 0 280 (gd rfl) rfl rfl ?_
          refine g_ldc2_w 159 283 (gd rfl) rfl rfl ?_
          refine g_calls (As := [.long z278, .long (Int64.ofInt 0), .long (Int64.ofInt 159)]) (r := [.int (Int32.ofInt 320), .ref (A 112)]) 286 (gd rfl) rfl rfl rfl rfl rfl (Nat.le_of_ble_eq_true rfl) (mc := 0) (ms := 0) (Nat.zero_le _) (Nat.zero_le _) (P := fun v u => _) ?_ (fun v u h => h)
          intro po283 xx283 hp283 hx283
          refine g_enter2 (k := 269) (N := 300) (by first | exact dq1 hd rfl | exact dq0 hd rfl | exact dq2 hd rfl | exact dq3 hd rfl | omega) rfl (Nat.le_of_ble_eq_true rfl) ?_
          refine g_lload_n 1 (gd rfl) rfl rfl ?_
          refine g_lload_n 2 (gd rfl) rfl rfl ?_
          refine g_lcmp 3 (gd rfl) rfl (fun z283x2 e283x2 => ?_)
          have i283x2 := lc_in e283x2
          refine g_if_lt 6 17 (gd rfl) rfl rfl (fun c283x3 => ?_) (fun c283x3 => ?_)
          · skip
            have i283x3 := z_lt (-1) (-1) c283x3 i283x2 rfl
            have c283x3a := lc_lt e283x2 c283x3
            exact ln_lt c283x3a i278 (l_c 0 rfl) rfl
          · skip
            have i283x3 := z_ge 0 1 c283x3 i283x2 rfl
            have c283x3a := lc_ge e283x2 c283x3
            refine g_lload_n 7 (gd rfl) rfl rfl ?_
            refine g_lload 9 (gd rfl) rfl rfl ?_
            refine g_lcmp 10 (gd rfl) rfl (fun z283x9 e283x9 => ?_)
            have i283x9 := lc_in e283x9
            refine g_if_gt 13 17 (gd rfl) rfl rfl (fun c283x10 => ?_) (fun c283x10 => ?_)
            · skip
              have i283x10 := z_gt 1 1 c283x10 i283x9 rfl
              have c283x10a := lc_gt e283x9 c283x10
              exact ln_lt c283x10a (l_c 159 rfl) i278 rfl
            · skip
              have i283x10 := z_le (-1) 0 c283x10 i283x9 rfl
              have c283x10a := lc_le e283x9 c283x10
              refine g_iconst 1 14 (gd rfl) rfl rfl ?_
              refine g_goto 18 (gd rfl) rfl ?_
              refine g_ireturn (gd rfl) rfl (nb01 (in_w 0 1 (in_c 1 rfl) rfl)) (hp283 _ _ ?_)
              show GG _ _ _ _ _ _ _ _ [.int (Int32.ofInt 1), .int (Int32.ofInt 320), .ref (A 112)] _ _ _
              refine g_if_eq 289 293 (gd rfl) rfl rfl (fun c286 => ?_) (fun c286 => ?_)
              · skip
                exact zn_eq c286 (in_c 1 rfl) rfl
              · skip
                refine g_iload_n 290 (gd rfl) rfl rfl ?_
                refine g_goto 294 (gd rfl) rfl ?_
                refine g_iadd 295 (gd rfl) rfl (fun z294 e294 => ?_)
                have i294 := in_add 320 479 e294 (in_c 320 rfl) i264x10b rfl rfl
                refine g_baload 296 (gd rfl) rfl (n := 480) rfl (in_ix i294 rfl) (fun z295 e295 => ?_)
                have i295 := inv_I hI (n := 480) (t := 3) 0 1 rfl (in_ix i294 rfl) rfl e295
                refine g_if_eq 299 311 (gd rfl) rfl rfl (fun c296 => ?_) (fun c296 => ?_)
                · skip
                  have i296 := z_eq 0 0 c296 i295 rfl
                  have n311 : s = s := by rfl
                  have n311a : ¬ DON s (x1).toInt (x2).toNatClampNeg := by intro h; have h9 := h.2.2.1 (Or.inr (by rcases q_1 with e | e | e | e; (have a0 := oa4 h2 h1 i264x10b i294; have a4 := t_add e294 (in_c 320 rfl) i264x10b rfl; have a5 := in_u ((in_c 320 rfl)); have a6 := tx_i2l e278; have a7 := tx_i2l e259; have a8 := in_u i13; have a9 := t_add e13 h2 (in_c 1 rfl) rfl; have a10 := in_u ((in_c 1 rfl)); have oc := oc_305_109; omega); (have a0 := oa4 h2 h1 i264x10b i294; have a4 := t_add e294 (in_c 320 rfl) i264x10b rfl; have a5 := in_u ((in_c 320 rfl)); have a6 := tx_i2l e278; have a7 := tx_i2l e259; have a8 := in_u i13; have a9 := t_add e13 h2 (in_c 1 rfl) rfl; have a10 := in_u ((in_c 1 rfl)); have oc := oc_305_109; omega); (have a0 := oa4 h2 h1 i264x10b i294; have a4 := t_add e294 (in_c 320 rfl) i264x10b rfl; have a5 := in_u ((in_c 320 rfl)); have a6 := tx_i2l e278; have a7 := tx_i2l e259; have a8 := in_u i13; have a9 := t_add e13 h2 (in_c 1 rfl) rfl; have a10 := in_u ((in_c 1 rfl)); have oc := oc_305_109; omega); (exact e))); unfold nq at h9; rw [← e5] at h9; first | (exfalso; have a0 := oa4 h2 h1 i264x10b i294; have a4 := t_add e294 (in_c 320 rfl) i264x10b rfl; have a5 := in_u ((in_c 320 rfl)); have a6 := tx_i2l e278; have a7 := tx_i2l e259; have a8 := in_u i13; have a9 := t_add e13 h2 (in_c 1 rfl) rfl; have a10 := in_u ((in_c 1 rfl)); have oc := oc_305_109; omega) | (have h8 := h9.2; rw [thg_t e295 (by have a0 := oa4 h2 h1 i264x10b i294; have a4 := t_add e294 (in_c 320 rfl) i264x10b rfl; have a5 := in_u ((in_c 320 rfl)); have a6 := tx_i2l e278; have a7 := tx_i2l e259; have a8 := in_u i13; have a9 := t_add e13 h2 (in_c 1 rfl) rfl; have a10 := in_u ((in_c 1 rfl)); have oc := oc_305_109; omega) (by have a0 := oa4 h2 h1 i264x10b i294; have a4 := t_add e294 (in_c 320 rfl) i264x10b rfl; have a5 := in_u ((in_c 320 rfl)); have a6 := tx_i2l e278; have a7 := tx_i2l e259; have a8 := in_u i13; have a9 := t_add e13 h2 (in_c 1 rfl) rfl; have a10 := in_u ((in_c 1 rfl)); have oc := oc_305_109; omega)] at h8; have h7 := of_decide_eq_true h8; have a0 := oa4 h2 h1 i264x10b i294; have a4 := t_add e294 (in_c 320 rfl) i264x10b rfl; have a5 := in_u ((in_c 320 rfl)); have a6 := tx_i2l e278; have a7 := tx_i2l e259; have a8 := in_u i13; have a9 := t_add e13 h2 (in_c 1 rfl) rfl; have a10 := in_u ((in_c 1 rfl)); have oc := oc_305_109; omega)
                  exact gg_w (by first | exact Nat.le_of_ble_eq_true rfl | omega) (gg_f (gf_cons rfl (gf_cons rfl (gf_cons rfl (gf_cons rfl (gf_cons rfl gf_nil))))) (ct311 s z5 z14 hI fr_rf n311 n311a))
                · skip
                  have i296 := z_ne 1 1 c296 i295 rfl
                  refine g_iload 301 (gd rfl) rfl rfl ?_
                  refine g_calls (As := [.int z14]) (r := []) 304 (gd rfl) rfl rfl rfl rfl rfl (Nat.le_of_ble_eq_true rfl) (mc := 0) (ms := 0) (Nat.zero_le _) (Nat.zero_le _) (P := fun v u => _) ?_ (fun v u h => h)
                  intro po301 xx301 hp301 hx301
                  refine g_enter2 (k := 279) (N := 300) (by first | exact dq1 hd rfl | exact dq0 hd rfl | exact dq2 hd rfl | exact dq3 hd rfl | omega) rfl (Nat.le_of_ble_eq_true rfl) ?_
                  refine g_iload_n 1 (gd rfl) rfl rfl ?_
                  refine g_i2l 2 (gd rfl) rfl (fun z301x1 e301x1 => ?_)
                  have i301x1 := l_i e301x1 (i_rng z14)
                  refine g_ldc2_w (-1000000) 5 (gd rfl) rfl rfl ?_
                  refine g_ldc2_w 1000000 8 (gd rfl) rfl rfl ?_
                  refine g_calls (As := [.long z301x1, .long (Int64.ofInt (-1000000)), .long (Int64.ofInt 1000000)]) (r := []) 11 (gd rfl) rfl rfl rfl rfl rfl (Nat.le_of_ble_eq_true rfl) (mc := 0) (ms := 0) (Nat.zero_le _) (Nat.zero_le _) (P := fun v u => _) ?_ (fun v u h => h)
                  intro po301x8 xx301x8 hp301x8 hx301x8
                  refine g_enter2 (k := 269) (N := 300) (by first | exact dq1 hd rfl | exact dq0 hd rfl | exact dq2 hd rfl | exact dq3 hd rfl | omega) rfl (Nat.le_of_ble_eq_true rfl) ?_
                  refine g_lload_n 1 (gd rfl) rfl rfl ?_
                  refine g_lload_n 2 (gd rfl) rfl rfl ?_
                  refine g_lcmp 3 (gd rfl) rfl (fun z301x8x2 e301x8x2 => ?_)
                  have i301x8x2 := lc_in e301x8x2
                  refine g_if_lt 6 17 (gd rfl) rfl rfl (fun c301x8x3 => ?_) (fun c301x8x3 => ?_)
                  · skip
                    have i301x8x3 := z_lt (-1) (-1) c301x8x3 i301x8x2 rfl
                    have c301x8x3a := lc_lt e301x8x2 c301x8x3
                    have i301x8x3a := lr_lt1 (-2147483648) (-1000001) c301x8x3a i301x1 (l_c (-1000000) rfl) rfl
                    have i301x8x3b := l_b e301x1 i301x8x3a
                    refine g_iconst 0 18 (gd rfl) rfl rfl ?_
                    refine g_ireturn (gd rfl) rfl (nb01 (in_w 0 1 (in_c 0 rfl) rfl)) (hp301x8 _ _ ?_)
                    show GG _ _ _ _ _ _ _ _ [.int (Int32.ofInt 0)] _ _ _
                    refine g_ireturn (gd rfl) rfl (nb01 (in_w 0 1 (in_c 0 rfl) rfl)) (hp301 _ _ ?_)
                    show GG _ _ _ _ _ _ _ _ [.int (Int32.ofInt 0)] _ _ _
                    refine g_if_eq 307 311 (gd rfl) rfl rfl (fun c304 => ?_) (fun c304 => ?_)
                    · skip
                      have n311 : s = s := by rfl
                      have n311a : ¬ DON s (x1).toInt (x2).toNatClampNeg := by first | (intro h; have h9 := h.2.2.2 (by rcases q_1 with e | e | e | e; (have a0 := oa4 h2 h1 i301x8x3b i264x10b; have a4 := tx_i2l e301x1; have a5 := in_u i294; have a6 := t_add e294 (in_c 320 rfl) i264x10b rfl; have a7 := in_u ((in_c 320 rfl)); have a8 := tx_i2l e278; have a9 := tx_i2l e259; have a10 := in_u i13; have a11 := t_add e13 h2 (in_c 1 rfl) rfl; have a12 := in_u ((in_c 1 rfl)); have oc := oc_305_109; omega); (have a0 := oa4 h2 h1 i301x8x3b i264x10b; have a4 := tx_i2l e301x1; have a5 := in_u i294; have a6 := t_add e294 (in_c 320 rfl) i264x10b rfl; have a7 := in_u ((in_c 320 rfl)); have a8 := tx_i2l e278; have a9 := tx_i2l e259; have a10 := in_u i13; have a11 := t_add e13 h2 (in_c 1 rfl) rfl; have a12 := in_u ((in_c 1 rfl)); have oc := oc_305_109; omega); (have a0 := oa4 h2 h1 i301x8x3b i264x10b; have a4 := tx_i2l e301x1; have a5 := in_u i294; have a6 := t_add e294 (in_c 320 rfl) i264x10b rfl; have a7 := in_u ((in_c 320 rfl)); have a8 := tx_i2l e278; have a9 := tx_i2l e259; have a10 := in_u i13; have a11 := t_add e13 h2 (in_c 1 rfl) rfl; have a12 := in_u ((in_c 1 rfl)); have oc := oc_305_109; omega); (exact e)); unfold nq at h9; rw [show s.1 128 (x2.toNatClampNeg + 1) = z14 from (by rw [show x2.toNatClampNeg + 1 = z13.toNatClampNeg from (by show x2.toInt.toNat + 1 = z13.toInt.toNat; have a0 := oa4 h2 h1 i301x8x3b i264x10b; have a4 := tx_i2l e301x1; have a5 := in_u i294; have a6 := t_add e294 (in_c 320 rfl) i264x10b rfl; have a7 := in_u ((in_c 320 rfl)); have a8 := tx_i2l e278; have a9 := tx_i2l e259; have a10 := in_u i13; have a11 := t_add e13 h2 (in_c 1 rfl) rfl; have a12 := in_u ((in_c 1 rfl)); have oc := oc_305_109; omega)]; exact e14.symm)] at h9; have a0 := oa4 h2 h1 i301x8x3b i264x10b; have a4 := tx_i2l e301x1; have a5 := in_u i294; have a6 := t_add e294 (in_c 320 rfl) i264x10b rfl; have a7 := in_u ((in_c 320 rfl)); have a8 := tx_i2l e278; have a9 := tx_i2l e259; have a10 := in_u i13; have a11 := t_add e13 h2 (in_c 1 rfl) rfl; have a12 := in_u ((in_c 1 rfl)); have oc := oc_305_109; omega) | (exfalso; have a0 := oa4 h2 h1 i301x8x3b i264x10b; have a4 := tx_i2l e301x1; have a5 := in_u i294; have a6 := t_add e294 (in_c 320 rfl) i264x10b rfl; have a7 := in_u ((in_c 320 rfl)); have a8 := tx_i2l e278; have a9 := tx_i2l e259; have a10 := in_u i13; have a11 := t_add e13 h2 (in_c 1 rfl) rfl; have a12 := in_u ((in_c 1 rfl)); have oc := oc_305_109; omega)
                      exact gg_w (by first | exact Nat.le_of_ble_eq_true rfl | omega) (gg_f (gf_cons rfl (gf_cons rfl (gf_cons rfl (gf_cons rfl (gf_cons rfl gf_nil))))) (ct311 s z5 z14 hI fr_rf n311 n311a))
                    · skip
                      exact zn_ne c304 (in_c 0 rfl) rfl
                  · skip
                    have i301x8x3 := z_ge 0 1 c301x8x3 i301x8x2 rfl
                    have c301x8x3a := lc_ge e301x8x2 c301x8x3
                    have i301x8x3a := lr_le2 (-1000000) 2147483647 c301x8x3a (l_c (-1000000) rfl) i301x1 rfl
                    have i301x8x3b := l_b e301x1 i301x8x3a
                    refine g_lload_n 7 (gd rfl) rfl rfl ?_
                    refine g_lload 9 (gd rfl) rfl rfl ?_
                    refine g_lcmp 10 (gd rfl) rfl (fun z301x8x9 e301x8x9 => ?_)
                    have i301x8x9 := lc_in e301x8x9
                    refine g_if_gt 13 17 (gd rfl) rfl rfl (fun c301x8x10 => ?_) (fun c301x8x10 => ?_)
                    · skip
                      have i301x8x10 := z_gt 1 1 c301x8x10 i301x8x9 rfl
                      have c301x8x10a := lc_gt e301x8x9 c301x8x10
                      have i301x8x10a := lr_lt2 1000001 2147483647 c301x8x10a (l_c 1000000 rfl) i301x8x3a rfl
                      have i301x8x10b := l_b e301x1 i301x8x10a
                      refine g_iconst 0 18 (gd rfl) rfl rfl ?_
                      refine g_ireturn (gd rfl) rfl (nb01 (in_w 0 1 (in_c 0 rfl) rfl)) (hp301x8 _ _ ?_)
                      show GG _ _ _ _ _ _ _ _ [.int (Int32.ofInt 0)] _ _ _
                      refine g_ireturn (gd rfl) rfl (nb01 (in_w 0 1 (in_c 0 rfl) rfl)) (hp301 _ _ ?_)
                      show GG _ _ _ _ _ _ _ _ [.int (Int32.ofInt 0)] _ _ _
                      refine g_if_eq 307 311 (gd rfl) rfl rfl (fun c304 => ?_) (fun c304 => ?_)
                      · skip
                        have n311 : s = s := by rfl
                        have n311a : ¬ DON s (x1).toInt (x2).toNatClampNeg := by first | (intro h; have h9 := h.2.2.2 (by rcases q_1 with e | e | e | e; (have a0 := oa4 h2 h1 i301x8x10b i264x10b; have a4 := tx_i2l e301x1; have a5 := in_u i294; have a6 := t_add e294 (in_c 320 rfl) i264x10b rfl; have a7 := in_u ((in_c 320 rfl)); have a8 := tx_i2l e278; have a9 := tx_i2l e259; have a10 := in_u i13; have a11 := t_add e13 h2 (in_c 1 rfl) rfl; have a12 := in_u ((in_c 1 rfl)); have oc := oc_305_109; omega); (have a0 := oa4 h2 h1 i301x8x10b i264x10b; have a4 := tx_i2l e301x1; have a5 := in_u i294; have a6 := t_add e294 (in_c 320 rfl) i264x10b rfl; have a7 := in_u ((in_c 320 rfl)); have a8 := tx_i2l e278; have a9 := tx_i2l e259; have a10 := in_u i13; have a11 := t_add e13 h2 (in_c 1 rfl) rfl; have a12 := in_u ((in_c 1 rfl)); have oc := oc_305_109; omega); (have a0 := oa4 h2 h1 i301x8x10b i264x10b; have a4 := tx_i2l e301x1; have a5 := in_u i294; have a6 := t_add e294 (in_c 320 rfl) i264x10b rfl; have a7 := in_u ((in_c 320 rfl)); have a8 := tx_i2l e278; have a9 := tx_i2l e259; have a10 := in_u i13; have a11 := t_add e13 h2 (in_c 1 rfl) rfl; have a12 := in_u ((in_c 1 rfl)); have oc := oc_305_109; omega); (exact e)); unfold nq at h9; rw [show s.1 128 (x2.toNatClampNeg + 1) = z14 from (by rw [show x2.toNatClampNeg + 1 = z13.toNatClampNeg from (by show x2.toInt.toNat + 1 = z13.toInt.toNat; have a0 := oa4 h2 h1 i301x8x10b i264x10b; have a4 := tx_i2l e301x1; have a5 := in_u i294; have a6 := t_add e294 (in_c 320 rfl) i264x10b rfl; have a7 := in_u ((in_c 320 rfl)); have a8 := tx_i2l e278; have a9 := tx_i2l e259; have a10 := in_u i13; have a11 := t_add e13 h2 (in_c 1 rfl) rfl; have a12 := in_u ((in_c 1 rfl)); have oc := oc_305_109; omega)]; exact e14.symm)] at h9; have a0 := oa4 h2 h1 i301x8x10b i264x10b; have a4 := tx_i2l e301x1; have a5 := in_u i294; have a6 := t_add e294 (in_c 320 rfl) i264x10b rfl; have a7 := in_u ((in_c 320 rfl)); have a8 := tx_i2l e278; have a9 := tx_i2l e259; have a10 := in_u i13; have a11 := t_add e13 h2 (in_c 1 rfl) rfl; have a12 := in_u ((in_c 1 rfl)); have oc := oc_305_109; omega) | (exfalso; have a0 := oa4 h2 h1 i301x8x10b i264x10b; have a4 := tx_i2l e301x1; have a5 := in_u i294; have a6 := t_add e294 (in_c 320 rfl) i264x10b rfl; have a7 := in_u ((in_c 320 rfl)); have a8 := tx_i2l e278; have a9 := tx_i2l e259; have a10 := in_u i13; have a11 := t_add e13 h2 (in_c 1 rfl) rfl; have a12 := in_u ((in_c 1 rfl)); have oc := oc_305_109; omega)
                        exact gg_w (by first | exact Nat.le_of_ble_eq_true rfl | omega) (gg_f (gf_cons rfl (gf_cons rfl (gf_cons rfl (gf_cons rfl (gf_cons rfl gf_nil))))) (ct311 s z5 z14 hI fr_rf n311 n311a))
                      · skip
                        exact zn_ne c304 (in_c 0 rfl) rfl
                    · skip
                      have i301x8x10 := z_le (-1) 0 c301x8x10 i301x8x9 rfl
                      have c301x8x10a := lc_le e301x8x9 c301x8x10
                      have i301x8x10a := lr_le1 (-1000000) 1000000 c301x8x10a i301x8x3a (l_c 1000000 rfl) rfl
                      have i301x8x10b := l_b e301x1 i301x8x10a
                      refine g_iconst 1 14 (gd rfl) rfl rfl ?_
                      refine g_goto 18 (gd rfl) rfl ?_
                      refine g_ireturn (gd rfl) rfl (nb01 (in_w 0 1 (in_c 1 rfl) rfl)) (hp301x8 _ _ ?_)
                      show GG _ _ _ _ _ _ _ _ [.int (Int32.ofInt 1)] _ _ _
                      refine g_ireturn (gd rfl) rfl (nb01 (in_w 0 1 (in_c 1 rfl) rfl)) (hp301 _ _ ?_)
                      show GG _ _ _ _ _ _ _ _ [.int (Int32.ofInt 1)] _ _ _
                      refine g_if_eq 307 311 (gd rfl) rfl rfl (fun c304 => ?_) (fun c304 => ?_)
                      · skip
                        exact zn_eq c304 (in_c 1 rfl) rfl
                      · skip
                        refine g_iconst 1 308 (gd rfl) rfl rfl ?_
                        refine g_goto 312 (gd rfl) rfl ?_
                        have n312 : DNE s s (x1).toInt (x2).toNatClampNeg ((Int32.ofInt 1)).toInt := by exact dne_d (by have a0 := oa4 h2 h1 i301x8x10b i264x10b; have a4 := tx_i2l e301x1; have a5 := in_u i294; have a6 := t_add e294 (in_c 320 rfl) i264x10b rfl; have a7 := in_u ((in_c 320 rfl)); have a8 := tx_i2l e278; have a9 := tx_i2l e259; have a10 := in_u i13; have a11 := t_add e13 h2 (in_c 1 rfl) rfl; have a12 := in_u ((in_c 1 rfl)); have oc := oc_305_109; omega) (by have a0 := oa4 h2 h1 i301x8x10b i264x10b; have a4 := tx_i2l e301x1; have a5 := in_u i294; have a6 := t_add e294 (in_c 320 rfl) i264x10b rfl; have a7 := in_u ((in_c 320 rfl)); have a8 := tx_i2l e278; have a9 := tx_i2l e259; have a10 := in_u i13; have a11 := t_add e13 h2 (in_c 1 rfl) rfl; have a12 := in_u ((in_c 1 rfl)); have oc := oc_305_109; omega) (by have a0 := oa4 h2 h1 i301x8x10b i264x10b; have a4 := tx_i2l e301x1; have a5 := in_u i294; have a6 := t_add e294 (in_c 320 rfl) i264x10b rfl; have a7 := in_u ((in_c 320 rfl)); have a8 := tx_i2l e278; have a9 := tx_i2l e259; have a10 := in_u i13; have a11 := t_add e13 h2 (in_c 1 rfl) rfl; have a12 := in_u ((in_c 1 rfl)); have oc := oc_305_109; omega) (by rw [← e5]; exact i264x10b) (by rw [show x2.toNatClampNeg + 1 = z13.toNatClampNeg from (by show x2.toInt.toNat + 1 = z13.toInt.toNat; have a0 := oa4 h2 h1 i301x8x10b i264x10b; have a4 := tx_i2l e301x1; have a5 := in_u i294; have a6 := t_add e294 (in_c 320 rfl) i264x10b rfl; have a7 := in_u ((in_c 320 rfl)); have a8 := tx_i2l e278; have a9 := tx_i2l e259; have a10 := in_u i13; have a11 := t_add e13 h2 (in_c 1 rfl) rfl; have a12 := in_u ((in_c 1 rfl)); have oc := oc_305_109; omega), ← e14]; exact i301x8x10b)
                        have n312a : YNQ ((Int32.ofInt 1)).toInt (DON s (x1).toInt (x2).toNatClampNeg) := by exact ⟨fun _ => don_119 (by rcases q_1 with e | e | e | e; (have a0 := oa4 h2 h1 i301x8x10b i264x10b; have a4 := tx_i2l e301x1; have a5 := in_u i294; have a6 := t_add e294 (in_c 320 rfl) i264x10b rfl; have a7 := in_u ((in_c 320 rfl)); have a8 := tx_i2l e278; have a9 := tx_i2l e259; have a10 := in_u i13; have a11 := t_add e13 h2 (in_c 1 rfl) rfl; have a12 := in_u ((in_c 1 rfl)); have oc := oc_305_109; omega); (have a0 := oa4 h2 h1 i301x8x10b i264x10b; have a4 := tx_i2l e301x1; have a5 := in_u i294; have a6 := t_add e294 (in_c 320 rfl) i264x10b rfl; have a7 := in_u ((in_c 320 rfl)); have a8 := tx_i2l e278; have a9 := tx_i2l e259; have a10 := in_u i13; have a11 := t_add e13 h2 (in_c 1 rfl) rfl; have a12 := in_u ((in_c 1 rfl)); have oc := oc_305_109; omega); (have a0 := oa4 h2 h1 i301x8x10b i264x10b; have a4 := tx_i2l e301x1; have a5 := in_u i294; have a6 := t_add e294 (in_c 320 rfl) i264x10b rfl; have a7 := in_u ((in_c 320 rfl)); have a8 := tx_i2l e278; have a9 := tx_i2l e259; have a10 := in_u i13; have a11 := t_add e13 h2 (in_c 1 rfl) rfl; have a12 := in_u ((in_c 1 rfl)); have oc := oc_305_109; omega); (exact e)) ⟨(by unfold nq; rw [← e5]; have a0 := oa4 h2 h1 i301x8x10b i264x10b; have a4 := tx_i2l e301x1; have a5 := in_u i294; have a6 := t_add e294 (in_c 320 rfl) i264x10b rfl; have a7 := in_u ((in_c 320 rfl)); have a8 := tx_i2l e278; have a9 := tx_i2l e259; have a10 := in_u i13; have a11 := t_add e13 h2 (in_c 1 rfl) rfl; have a12 := in_u ((in_c 1 rfl)); have oc := oc_305_109; omega), (by rw [← e5, thg_t e295 (by have a0 := oa4 h2 h1 i301x8x10b i264x10b; have a4 := tx_i2l e301x1; have a5 := in_u i294; have a6 := t_add e294 (in_c 320 rfl) i264x10b rfl; have a7 := in_u ((in_c 320 rfl)); have a8 := tx_i2l e278; have a9 := tx_i2l e259; have a10 := in_u i13; have a11 := t_add e13 h2 (in_c 1 rfl) rfl; have a12 := in_u ((in_c 1 rfl)); have oc := oc_305_109; omega) (by have a0 := oa4 h2 h1 i301x8x10b i264x10b; have a4 := tx_i2l e301x1; have a5 := in_u i294; have a6 := t_add e294 (in_c 320 rfl) i264x10b rfl; have a7 := in_u ((in_c 320 rfl)); have a8 := tx_i2l e278; have a9 := tx_i2l e259; have a10 := in_u i13; have a11 := t_add e13 h2 (in_c 1 rfl) rfl; have a12 := in_u ((in_c 1 rfl)); have oc := oc_305_109; omega)]; exact decide_eq_true (by have a0 := oa4 h2 h1 i301x8x10b i264x10b; have a4 := tx_i2l e301x1; have a5 := in_u i294; have a6 := t_add e294 (in_c 320 rfl) i264x10b rfl; have a7 := in_u ((in_c 320 rfl)); have a8 := tx_i2l e278; have a9 := tx_i2l e259; have a10 := in_u i13; have a11 := t_add e13 h2 (in_c 1 rfl) rfl; have a12 := in_u ((in_c 1 rfl)); have oc := oc_305_109; omega))⟩ (by unfold nq; rw [show s.1 128 (x2.toNatClampNeg + 1) = z14 from (by rw [show x2.toNatClampNeg + 1 = z13.toNatClampNeg from (by show x2.toInt.toNat + 1 = z13.toInt.toNat; have a0 := oa4 h2 h1 i301x8x10b i264x10b; have a4 := tx_i2l e301x1; have a5 := in_u i294; have a6 := t_add e294 (in_c 320 rfl) i264x10b rfl; have a7 := in_u ((in_c 320 rfl)); have a8 := tx_i2l e278; have a9 := tx_i2l e259; have a10 := in_u i13; have a11 := t_add e13 h2 (in_c 1 rfl) rfl; have a12 := in_u ((in_c 1 rfl)); have oc := oc_305_109; omega)]; exact e14.symm)]; have a0 := oa4 h2 h1 i301x8x10b i264x10b; have a4 := tx_i2l e301x1; have a5 := in_u i294; have a6 := t_add e294 (in_c 320 rfl) i264x10b rfl; have a7 := in_u ((in_c 320 rfl)); have a8 := tx_i2l e278; have a9 := tx_i2l e259; have a10 := in_u i13; have a11 := t_add e13 h2 (in_c 1 rfl) rfl; have a12 := in_u ((in_c 1 rfl)); have oc := oc_305_109; omega), fun h => absurd h (by decide)⟩
                        have n312b : G12 s s := by exact g12_e rfl
                        exact g_ireturn (gd rfl) rfl (nb01 (in_w 0 1 (in_c 1 rfl) rfl)) (hP _ _ ⟨s, hI, fr_rf, (Int32.ofInt 1), rfl, rfl, in_w 0 1 (in_c 1 rfl) rfl, n312, n312a, n312b⟩)
end
section
/-! FUNCTIONAL CONTRACTS, by fgen.py -/
theorem oc_304_109 : (Int32.ofInt (-1)).toInt = (-1) ∧ (Int32.ofInt 0).toInt = 0 ∧ (Int32.ofInt 1).toInt = 1 ∧ (Int32.ofInt 2).toInt = 2 ∧ (Int32.ofInt 3).toInt = 3 ∧ (Int32.ofInt 4).toInt = 4 ∧ (Int32.ofInt 5).toInt = 5 ∧ (Int32.ofInt 59).toInt = 59 ∧ (Int32.ofInt 97).toInt = 97 ∧ (Int32.ofInt 110).toInt = 110 ∧ (Int32.ofInt 116).toInt = 116 ∧ (Int32.ofInt 119).toInt = 119 ∧ (Int32.ofInt 4000).toInt = 4000 := ⟨rfl, rfl, rfl, rfl, rfl, rfl, rfl, rfl, rfl, rfl, rfl, rfl, rfl⟩
set_option maxHeartbeats 4000000 in
/-- GraphHouseModel.command -/
theorem f_304 {Z : AmZ} {A : Nat → Nat} {s : GS} {ex : va_W} {d : Nat} {X : AmX} {u_109_27 : Int32} {u_109_22 : Int32} {u_109_32 : Int32} {u_109_28 : Int32} {u_109_30 : Int32} {u_109_29 : Int32} {u_109_23 : Int32} (hd : 5 ≤ d) (hI : Inv s) (e_109_27 : u_109_27 = s.2.2.1 109 27) (e_109_22 : u_109_22 = s.2.2.1 109 22) (e_109_32 : u_109_32 = s.2.2.1 109 32) (e_109_28 : u_109_28 = s.2.2.1 109 28) (e_109_30 : u_109_30 = s.2.2.1 109 30) (e_109_29 : u_109_29 = s.2.2.1 109 29) (e_109_23 : u_109_23 = s.2.2.1 109 23) (p_0 : (u_109_27).toInt ≤ (u_109_22).toInt) (p_1 : 3 * (u_109_32).toInt + 1 ≤ (u_109_27).toInt) (q_0 : LDQ s (s.2.2.1 109 32).toNatClampNeg) (q_1 : (s.2.2.1 109 23).toInt = 0) : GC Z d 304 [.ref (A 109)] (WW Z A s ++ ex) 0 0 (fun v u => ∃ t : GS, Inv t ∧ Fr fm_304 s t ∧ ((t.2.2.1 109 27).toInt ≤ (t.2.2.1 109 22).toInt) ∧ ((s.2.2.1 109 27).toInt ≤ (t.2.2.1 109 27).toInt) ∧ ((t.2.2.1 109 23).toInt = 0 → 3 * (t.2.2.1 109 32).toInt ≤ (t.2.2.1 109 27).toInt) ∧ ((t.2.2.1 109 23).toInt = 0 → (s.2.2.1 109 27).toInt + 1 ≤ (t.2.2.1 109 27).toInt) ∧ ((t.2.2.1 109 23).toInt = 0 → (t.2.2.1 109 9).toInt + (t.2.2.1 109 32).toInt ≤ 4000) ∧ v = none ∧ u = WW Z A t ++ ex ∧ ((t.2.2.1 109 23).toInt = 0 → LDQ t (t.2.2.1 109 32).toNatClampNeg) ∧ (RCM s t) ∧ (G0S s t) ∧ (G12 s t)) X := by
  intro post xp hP hX
  obtain ⟨u_109_9, e_109_9⟩ : ∃ w, w = s.2.2.1 109 9 := ⟨_, rfl⟩
  have ro_109_9 := inv_F hI 0 4000 rfl e_109_9
  have ro_109_22 := inv_F hI 0 1000 rfl e_109_22
  have ct57 : ∀ (k57 : Nat) (sc57 : GS) (y57_1 : Int32) (y57_2 : Int32) (y57_3 : Int32) (y57_4 : Int32) (w57_109_27 : Int32) (w57_109_23 : Int32) (w57_109_32 : Int32), Inv sc57 → Fr fm_304 s sc57 → (In y57_1 0 1000) → (In y57_2 97 119) → (In y57_3 0 5) → (In y57_4 0 1) → (w57_109_27 = sc57.2.2.1 109 27) → (w57_109_23 = sc57.2.2.1 109 23) → (w57_109_32 = sc57.2.2.1 109 32) → ((w57_109_27).toInt ≤ (u_109_22).toInt) → ((u_109_27).toInt ≤ (w57_109_27).toInt) → (3 * (w57_109_32).toInt + 1 + (y57_3).toInt ≤ (w57_109_27).toInt) → ((y57_4).toInt = 0 → (w57_109_23).toInt = 0 → 3 * (w57_109_32).toInt + 3 ≤ (w57_109_27).toInt) → ((y57_4).toInt ≠ 0 → 0 ≤ (y57_3).toInt) → ((u_109_27).toInt + (y57_3).toInt ≤ (w57_109_27).toInt) → ((y57_4).toInt = 0 → (w57_109_23).toInt = 0 → (u_109_27).toInt + 1 ≤ (w57_109_27).toInt) → ((sc57.2.2.1 109 23).toInt = 0 → LDQ sc57 (sc57.2.2.1 109 32).toNatClampNeg) → ((sc57.2.2.1 109 23).toInt = 0 → ((y57_2).toInt = 110 → 1 ≤ (y57_3).toInt → nq (sc57.1 128 (5 * (sc57.2.2.1 109 32).toNatClampNeg)) 0 25) ∧ ((y57_2).toInt = 97 → 5 ≤ (y57_3).toInt → nq (sc57.1 128 (5 * (sc57.2.2.1 109 32).toNatClampNeg + 4)) 0 25)) → ((y57_4).toInt = 0 → (sc57.2.2.1 109 23).toInt = 0 → ((y57_2).toInt = 110 → 1 ≤ (y57_3).toInt) ∧ ((y57_2).toInt = 97 → 5 ≤ (y57_3).toInt)) → (C4 (y57_2).toInt ∧ (y57_2) = s.2.2.1 109 30 ∧ (s.2.2.1 109 28).toInt = 1 ∧ (y57_1) = s.2.2.1 109 29) → (sc57.1 110 = s.1 110 ∧ sc57.1 112 = s.1 112 ∧ sc57.1 127 = s.1 127 ∧ (∀ j, j < 5 * (s.2.2.1 109 32).toNatClampNeg → sc57.1 128 j = s.1 128 j) ∧ sc57.2.2.1 109 32 = s.2.2.1 109 32) → (HQ5 s sc57 ((y57_2).toInt - 97) (y57_3) (y57_4) (w57_109_27).toInt.toNat) → (HQ6 s sc57 ((y57_2).toInt - 97) (y57_4) (w57_109_27).toInt.toNat) → (HQ7 s sc57 ((y57_2).toInt - 97)) → 100 - 10 * (y57_3).toInt + 5 * (y57_4).toInt + 9 - (w57_109_23).toInt < (k57 : Int) → GG Z (d - 1) 304 post (gx xp) (1 + k57 * 900) 57 (fun j => xlook j [(0, .ref (A 109)), (1, .int y57_1), (2, .int y57_2), (3, .int y57_3), (4, .int y57_4)]) [] (WW Z A sc57 ++ ex) 0 0 := by
    intro k57
    induction k57 with
    | zero => intro sc57 y57_1 y57_2 y57_3 y57_4 w57_109_27 w57_109_23 w57_109_32 hIc57 hFc57 j57_1 j57_2 j57_3 j57_4 v57_109_27 v57_109_23 v57_109_32 n57_0 n57_1 n57_2 n57_3 n57_4 n57_5 n57_6 g57_0 g57_1 g57_2 g57_3 g57_4 g57_5 g57_6 g57_7 mm57; exfalso; have a0 := oa5 ro_109_22 ro_109_9 ((inv_F hIc57 0 500 rfl v57_109_32)) ((inv_F hIc57 0 9 rfl v57_109_23)) ((inv_F hIc57 0 1000 rfl v57_109_27)); have a5 := j57_4; unfold In at a5; have a6 := j57_3; unfold In at a6; have a7 := j57_2; unfold In at a7; have a8 := j57_1; unfold In at a8; have oc := oc_304_109; omega
    | succ k57 ih57 =>
      intro sc57 y57_1 y57_2 y57_3 y57_4 w57_109_27 w57_109_23 w57_109_32 hIc57 hFc57 j57_1 j57_2 j57_3 j57_4 v57_109_27 v57_109_23 v57_109_32 n57_0 n57_1 n57_2 n57_3 n57_4 n57_5 n57_6 g57_0 g57_1 g57_2 g57_3 g57_4 g57_5 g57_6 g57_7 mm57
      refine gg_w (M := 1 + k57 * 900 + 900) gws ?_
      refine g_iload 59 (gd rfl) rfl rfl ?_
      refine g_if_eq 62 186 (gd rfl) rfl rfl (fun c59 => ?_) (fun c59 => ?_)
      · skip
        have i59 := z_eq 0 0 c59 j57_4 rfl
        refine g_aload_n 187 (gd rfl) rfl rfl ?_
        refine g_getI 190 (gd rfl) rfl rfl rfl (fun z187 e187 => ?_)
        have q187 : w57_109_23 = z187 := (v57_109_23).trans e187.symm
        subst q187
        refine g_if_ne 193 248 (gd rfl) rfl rfl (fun c190 => ?_) (fun c190 => ?_)
        · skip
          have i190 := z_ne 1 9 c190 (inv_F hIc57 0 9 rfl v57_109_23) rfl
          have n248 : (sc57.2.2.1 109 23).toInt = 0 → LDQ sc57 (sc57.2.2.1 109 32).toNatClampNeg := by (intro hf; exfalso; rw [← v57_109_23] at hf; exact absurd hf c190)
          have n248a : RCM s sc57 := by exact rcm_x g57_3.2.2.1 (c97 g57_3.2.1) g57_7 (by rw [← v57_109_23]; exact c190)
          have n248b : G0S s sc57 := by exact g0_cg g57_4.1 g57_4.2.1
          have n248c : G12 s sc57 := by exact g12_cg g57_4.1 g57_4.2.1
          have n248d : (w57_109_27).toInt ≤ (u_109_22).toInt := by first | exact n57_0 | (have a0 := oa9 ro_109_22 ro_109_9 ((inv_F hIc57 0 500 rfl v57_109_32)) i190 ((inv_F hIc57 0 1000 rfl v57_109_27)) i59 j57_3 j57_2 j57_1; have oc := oc_304_109; omega)
          have n248e : (sc57.2.2.1 109 27).toInt ≤ (sc57.2.2.1 109 22).toInt := by have b0 : w57_109_27 = sc57.2.2.1 109 27 := v57_109_27; have b1 : u_109_22 = sc57.2.2.1 109 22 := fr_F e_109_22 hFc57 rfl; rw [← b0, ← b1]; exact n248d
          have n248f : (u_109_27).toInt ≤ (w57_109_27).toInt := by first | exact n57_1 | (have a0 := oa9 ro_109_22 ro_109_9 ((inv_F hIc57 0 500 rfl v57_109_32)) i190 ((inv_F hIc57 0 1000 rfl v57_109_27)) i59 j57_3 j57_2 j57_1; have oc := oc_304_109; omega)
          have n248g : (s.2.2.1 109 27).toInt ≤ (sc57.2.2.1 109 27).toInt := by have b0 : w57_109_27 = sc57.2.2.1 109 27 := v57_109_27; first | (rw [← b0, ← e_109_27]; exact n248f) | (rw [← b0]; exact n248f)
          have n248h : (w57_109_23).toInt = 0 → 3 * (w57_109_32).toInt ≤ (w57_109_27).toInt := by have a0 := oa9 ro_109_22 ro_109_9 ((inv_F hIc57 0 500 rfl v57_109_32)) i190 ((inv_F hIc57 0 1000 rfl v57_109_27)) i59 j57_3 j57_2 j57_1; have oc := oc_304_109; omega
          have n248i : (sc57.2.2.1 109 23).toInt = 0 → 3 * (sc57.2.2.1 109 32).toInt ≤ (sc57.2.2.1 109 27).toInt := by have b0 : w57_109_23 = sc57.2.2.1 109 23 := v57_109_23; have b1 : w57_109_32 = sc57.2.2.1 109 32 := v57_109_32; have b2 : w57_109_27 = sc57.2.2.1 109 27 := v57_109_27; rw [← b0, ← b1, ← b2]; exact n248h
          have n248j : (w57_109_23).toInt = 0 → (u_109_27).toInt + 1 ≤ (w57_109_27).toInt := by have a0 := oa9 ro_109_22 ro_109_9 ((inv_F hIc57 0 500 rfl v57_109_32)) i190 ((inv_F hIc57 0 1000 rfl v57_109_27)) i59 j57_3 j57_2 j57_1; have oc := oc_304_109; omega
          have n248k : (sc57.2.2.1 109 23).toInt = 0 → (s.2.2.1 109 27).toInt + 1 ≤ (sc57.2.2.1 109 27).toInt := by have b0 : w57_109_23 = sc57.2.2.1 109 23 := v57_109_23; have b1 : w57_109_27 = sc57.2.2.1 109 27 := v57_109_27; first | (rw [← b0, ← b1, ← e_109_27]; exact n248j) | (rw [← b0, ← b1]; exact n248j)
          have n248l : (w57_109_23).toInt = 0 → (u_109_9).toInt + (w57_109_32).toInt ≤ 4000 := by have a0 := oa9 ro_109_22 ro_109_9 ((inv_F hIc57 0 500 rfl v57_109_32)) i190 ((inv_F hIc57 0 1000 rfl v57_109_27)) i59 j57_3 j57_2 j57_1; have oc := oc_304_109; omega
          have n248m : (sc57.2.2.1 109 23).toInt = 0 → (sc57.2.2.1 109 9).toInt + (sc57.2.2.1 109 32).toInt ≤ 4000 := by have b0 : w57_109_23 = sc57.2.2.1 109 23 := v57_109_23; have b1 : u_109_9 = sc57.2.2.1 109 9 := fr_F e_109_9 hFc57 rfl; have b2 : w57_109_32 = sc57.2.2.1 109 32 := v57_109_32; rw [← b0, ← b1, ← b2]; exact n248l
          exact g_return (gd rfl) rfl (hP _ _ ⟨sc57, hIc57, hFc57, n248e, n248g, n248i, n248k, n248m, rfl, rfl, n248, n248a, n248b, n248c⟩)
        · skip
          have i190 := z_eq 0 0 c190 (inv_F hIc57 0 9 rfl v57_109_23) rfl
          refine g_aload_n 194 (gd rfl) rfl rfl ?_
          refine g_getA (q2 := 127) 197 (gd rfl) rfl rfl rfl rfl ?_
          refine g_aload_n 198 (gd rfl) rfl rfl ?_
          refine g_getI 201 (gd rfl) rfl rfl rfl (fun z198 e198 => ?_)
          have q198 : w57_109_32 = z198 := (v57_109_32).trans e198.symm
          subst q198
          refine g_iload_n 202 (gd rfl) rfl rfl ?_
          have i202 : In w57_109_32 0 499 := by have a0 := oa9 ro_109_22 ro_109_9 ((inv_F hIc57 0 500 rfl v57_109_32)) i190 ((inv_F hIc57 0 1000 rfl v57_109_27)) i59 j57_3 j57_2 j57_1; have oc := oc_304_109; exact ⟨by omega, by omega⟩
          refine g_iastore 203 (gd rfl) rfl (n := 500) rfl (in_ix i202 rfl) ?_
          have hI202 := inv_sI (q := 127) (j := w57_109_32.toNatClampNeg) hIc57 rfl (in_w (-2147483648) 2147483647 j57_2 rfl)
          refine g_aload_n 204 (gd rfl) rfl rfl ?_
          refine g_iload_n 205 (gd rfl) rfl rfl ?_
          refine g_iconst 5 206 (gd rfl) rfl rfl ?_
          refine g_aload_n 207 (gd rfl) rfl rfl ?_
          refine g_getI 210 (gd rfl) rfl rfl rfl (fun z207 e207 => ?_)
          have q207 : w57_109_32 = z207 := (sI_F (v57_109_32)).trans e207.symm
          subst q207
          refine g_imul 211 (gd rfl) rfl (fun z210 e210 => ?_)
          have i210 := in_mulc 5 0 2495 (Or.inl e210) i202 rfl rfl
          have p211 : 0 ≤ ((sI sc57 127 w57_109_32.toNatClampNeg y57_2).1 110 2).toInt ∧ ((sI sc57 127 w57_109_32.toNatClampNeg y57_2).1 110 2).toInt ≤ 32 := by exact ldq_n hI202 (show LDQ (sI sc57 127 w57_109_32.toNatClampNeg y57_2) w57_109_32.toNatClampNeg from (by have h := (ldq_cg (t := (sI sc57 127 w57_109_32.toNatClampNeg y57_2)) (g57_0 (by rw [← v57_109_23]; exact c190)) (sI_p rfl) (sI_p rfl) (fun j hj => by rw [sI_q, up_n (by rw [v57_109_32]; omega)]) (fun j _ => by rw [sI_p rfl])); rw [← v57_109_32] at h; exact h))
          have p211a : C4 (y57_2).toInt := by exact g57_3.1
          refine g_callv (X := _) (As := [.int y57_2, .int z210]) (r := []) (b := A 109) (q := 109) 214 (gd rfl) rfl rfl rfl rfl rfl (ww_o rfl) (Nat.le_of_ble_eq_true rfl) (Nat.zero_le _) (Nat.zero_le _) (f_305 (by first | exact dq1 hd rfl | exact dq0 hd rfl | exact dq2 hd rfl | exact dq3 hd rfl | omega) hI202 (in_w 97 119 j57_2 rfl) (in_w 0 2495 i210 rfl) p211 p211a) (fun e u h => h) (fun v u h => ?_)
          obtain ⟨s211, hI211, hF211, z211, rfl, rfl, i211, p211b, p211c, p211d⟩ := h
          show GG _ _ _ _ _ _ _ _ [.int z211] _ _ _
          refine g_if_eq 217 232 (gd rfl) rfl rfl (fun c214 => ?_) (fun c214 => ?_)
          · skip
            have i214 := z_eq 0 0 c214 i211 rfl
            refine g_aload_n 233 (gd rfl) rfl rfl ?_
            refine g_iconst 4 234 (gd rfl) rfl rfl ?_
            refine g_iload_n 235 (gd rfl) rfl rfl ?_
            have v235 : w57_109_23 = s211.2.2.1 109 23 := fr_F (s := (sI sc57 127 w57_109_32.toNatClampNeg y57_2)) (sI_F (v57_109_23)) hF211 rfl
            refine g_callv (X := _) (As := [.int (Int32.ofInt 4), .int y57_1]) (r := []) (b := A 109) (q := 109) 238 (gd rfl) rfl rfl rfl rfl rfl (ww_o rfl) (Nat.le_of_ble_eq_true rfl) (Nat.zero_le _) (Nat.zero_le _) (f_298 (by first | exact dq1 hd rfl | exact dq0 hd rfl | exact dq2 hd rfl | exact dq3 hd rfl | omega) hI211 (in_w 1 5 (in_c 4 rfl) rfl) v235) (fun e u h => h) (fun v u h => ?_)
            obtain ⟨s235, hI235, hF235, n235, rfl, rfl, p235⟩ := h
            obtain ⟨z235a, e235⟩ : ∃ w, w = s235.2.2.1 109 23 := ⟨_, rfl⟩
            have i235a := inv_F hI235 0 9 rfl e235
            rw [← (show z235a = s235.2.2.1 109 23 from e235)] at n235
            show GG _ _ _ _ _ _ _ _ [] _ _ _
            refine g_aload_n 239 (gd rfl) rfl rfl ?_
            refine g_dup 240 (gd rfl) rfl rfl ?_
            refine g_getI 243 (gd rfl) rfl rfl rfl (fun z240 e240 => ?_)
            have q240 : w57_109_32 = z240 := (fr_F (fr_F (s := (sI sc57 127 w57_109_32.toNatClampNeg y57_2)) (sI_F (v57_109_32)) hF211 rfl) hF235 rfl).trans e240.symm
            subst q240
            refine g_iconst 1 244 (gd rfl) rfl rfl ?_
            refine g_iadd 245 (gd rfl) rfl (fun z244 e244 => ?_)
            have i244 := in_add 1 500 e244 i202 (in_c 1 rfl) rfl rfl
            refine g_putI 248 (gd rfl) rfl rfl rfl rfl ?_
            have hI245 := inv_sF (q := 109) (j := 32) hI235 rfl (in_w 0 500 i244 rfl)
            have n248 : ((sF s235 109 32 z244).2.2.1 109 23).toInt = 0 → LDQ (sF s235 109 32 z244) ((sF s235 109 32 z244).2.2.1 109 32).toNatClampNeg := by (intro hf; exfalso; have hg : (s235.2.2.1 109 23).toInt = 0 := hf; rw [← e235] at hg; have hn := n235; omega)
            have n248a : RCM s (sF s235 109 32 z244) := by exact rcm_n g57_3 g57_4 g57_6 (by rw [← v57_109_23]; exact c190) c59 (hFc57.2.2.1 109 9 rfl) v57_109_32 (by show z210.toInt.toNat = 5 * w57_109_32.toInt.toNat; have r1 := i202; have a0 := oa10 ro_109_22 ro_109_9 i202 i190 ((inv_F hIc57 0 1000 rfl v57_109_27)) i59 j57_3 j57_2 j57_1 i244; have a10 := t_add e244 i202 (in_c 1 rfl) rfl; have a11 := oa3 ((in_c 1 rfl)) i235a i210; have a14 := (t_mulc 5 (Or.inl e210) i202 rfl).1; have oc := oc_304_109; omega) (Or.inl (p211c.2 c214)) (p235.1 (by rw [← v235]; exact c190)).1 (p235.1 (by rw [← v235]; exact c190)).2 (by have a0 := oa10 ro_109_22 ro_109_9 i202 i190 ((inv_F hIc57 0 1000 rfl v57_109_27)) i59 j57_3 j57_2 j57_1 i244; have a10 := t_add e244 i202 (in_c 1 rfl) rfl; have a11 := oa3 ((in_c 1 rfl)) i235a i210; have a14 := (t_mulc 5 (Or.inl e210) i202 rfl).1; have oc := oc_304_109; omega)
            have n248b : G0S s (sF s235 109 32 z244) := by exact g0_tr (g0_tr (g0_cg (t := sI sc57 127 _ _) ((sI_p rfl).trans g57_4.1) ((sI_p rfl).trans g57_4.2.1)) p211b.1) (g0_cg (hF235.1 110 rfl) (hF235.1 112 rfl))
            have n248c : G12 s (sF s235 109 32 z244) := by exact g12_tr (g12_tr (g12_cg (t := sI sc57 127 _ _) ((sI_p rfl).trans g57_4.1) ((sI_p rfl).trans g57_4.2.1)) p211d) (g12_cg (hF235.1 110 rfl) (hF235.1 112 rfl))
            have n248d : (w57_109_27).toInt ≤ (u_109_22).toInt := by first | exact n57_0 | (have a0 := oa10 ro_109_22 ro_109_9 i202 i190 ((inv_F hIc57 0 1000 rfl v57_109_27)) i59 j57_3 j57_2 j57_1 i244; have a10 := t_add e244 i202 (in_c 1 rfl) rfl; have a11 := oa3 ((in_c 1 rfl)) i235a i210; have a14 := (t_mulc 5 (Or.inl e210) i202 rfl).1; have oc := oc_304_109; omega)
            have n248e : ((sF s235 109 32 z244).2.2.1 109 27).toInt ≤ ((sF s235 109 32 z244).2.2.1 109 22).toInt := by have b0 : w57_109_27 = (sF s235 109 32 z244).2.2.1 109 27 := sF_ne rfl (fr_F (fr_F (s := (sI sc57 127 w57_109_32.toNatClampNeg y57_2)) (sI_F (v57_109_27)) hF211 rfl) hF235 rfl); have b1 : u_109_22 = (sF s235 109 32 z244).2.2.1 109 22 := sF_ne rfl (fr_F (fr_F (s := (sI sc57 127 w57_109_32.toNatClampNeg y57_2)) (sI_F (fr_F e_109_22 hFc57 rfl)) hF211 rfl) hF235 rfl); rw [← b0, ← b1]; exact n248d
            have n248f : (u_109_27).toInt ≤ (w57_109_27).toInt := by first | exact n57_1 | (have a0 := oa10 ro_109_22 ro_109_9 i202 i190 ((inv_F hIc57 0 1000 rfl v57_109_27)) i59 j57_3 j57_2 j57_1 i244; have a10 := t_add e244 i202 (in_c 1 rfl) rfl; have a11 := oa3 ((in_c 1 rfl)) i235a i210; have a14 := (t_mulc 5 (Or.inl e210) i202 rfl).1; have oc := oc_304_109; omega)
            have n248g : (s.2.2.1 109 27).toInt ≤ ((sF s235 109 32 z244).2.2.1 109 27).toInt := by have b0 : w57_109_27 = (sF s235 109 32 z244).2.2.1 109 27 := sF_ne rfl (fr_F (fr_F (s := (sI sc57 127 w57_109_32.toNatClampNeg y57_2)) (sI_F (v57_109_27)) hF211 rfl) hF235 rfl); first | (rw [← b0, ← e_109_27]; exact n248f) | (rw [← b0]; exact n248f)
            have n248h : (z235a).toInt = 0 → 3 * (z244).toInt ≤ (w57_109_27).toInt := by have a0 := oa10 ro_109_22 ro_109_9 i202 i190 ((inv_F hIc57 0 1000 rfl v57_109_27)) i59 j57_3 j57_2 j57_1 i244; have a10 := t_add e244 i202 (in_c 1 rfl) rfl; have a11 := oa3 ((in_c 1 rfl)) i235a i210; have a14 := (t_mulc 5 (Or.inl e210) i202 rfl).1; have oc := oc_304_109; omega
            have n248i : ((sF s235 109 32 z244).2.2.1 109 23).toInt = 0 → 3 * ((sF s235 109 32 z244).2.2.1 109 32).toInt ≤ ((sF s235 109 32 z244).2.2.1 109 27).toInt := by have b0 : z235a = (sF s235 109 32 z244).2.2.1 109 23 := sF_ne rfl (e235); have b1 : z244 = (sF s235 109 32 z244).2.2.1 109 32 := sF_get; have b2 : w57_109_27 = (sF s235 109 32 z244).2.2.1 109 27 := sF_ne rfl (fr_F (fr_F (s := (sI sc57 127 w57_109_32.toNatClampNeg y57_2)) (sI_F (v57_109_27)) hF211 rfl) hF235 rfl); rw [← b0, ← b1, ← b2]; exact n248h
            have n248j : (z235a).toInt = 0 → (u_109_27).toInt + 1 ≤ (w57_109_27).toInt := by have a0 := oa10 ro_109_22 ro_109_9 i202 i190 ((inv_F hIc57 0 1000 rfl v57_109_27)) i59 j57_3 j57_2 j57_1 i244; have a10 := t_add e244 i202 (in_c 1 rfl) rfl; have a11 := oa3 ((in_c 1 rfl)) i235a i210; have a14 := (t_mulc 5 (Or.inl e210) i202 rfl).1; have oc := oc_304_109; omega
            have n248k : ((sF s235 109 32 z244).2.2.1 109 23).toInt = 0 → (s.2.2.1 109 27).toInt + 1 ≤ ((sF s235 109 32 z244).2.2.1 109 27).toInt := by have b0 : z235a = (sF s235 109 32 z244).2.2.1 109 23 := sF_ne rfl (e235); have b1 : w57_109_27 = (sF s235 109 32 z244).2.2.1 109 27 := sF_ne rfl (fr_F (fr_F (s := (sI sc57 127 w57_109_32.toNatClampNeg y57_2)) (sI_F (v57_109_27)) hF211 rfl) hF235 rfl); first | (rw [← b0, ← b1, ← e_109_27]; exact n248j) | (rw [← b0, ← b1]; exact n248j)
            have n248l : (z235a).toInt = 0 → (u_109_9).toInt + (z244).toInt ≤ 4000 := by have a0 := oa10 ro_109_22 ro_109_9 i202 i190 ((inv_F hIc57 0 1000 rfl v57_109_27)) i59 j57_3 j57_2 j57_1 i244; have a10 := t_add e244 i202 (in_c 1 rfl) rfl; have a11 := oa3 ((in_c 1 rfl)) i235a i210; have a14 := (t_mulc 5 (Or.inl e210) i202 rfl).1; have oc := oc_304_109; omega
            have n248m : ((sF s235 109 32 z244).2.2.1 109 23).toInt = 0 → ((sF s235 109 32 z244).2.2.1 109 9).toInt + ((sF s235 109 32 z244).2.2.1 109 32).toInt ≤ 4000 := by have b0 : z235a = (sF s235 109 32 z244).2.2.1 109 23 := sF_ne rfl (e235); have b1 : u_109_9 = (sF s235 109 32 z244).2.2.1 109 9 := sF_ne rfl (fr_F (fr_F (s := (sI sc57 127 w57_109_32.toNatClampNeg y57_2)) (sI_F (fr_F e_109_9 hFc57 rfl)) hF211 rfl) hF235 rfl); have b2 : z244 = (sF s235 109 32 z244).2.2.1 109 32 := sF_get; rw [← b0, ← b1, ← b2]; exact n248l
            exact g_return (gd rfl) rfl (hP _ _ ⟨(sF s235 109 32 z244), hI245, (fr_sF rfl (fr_tr rfl (fr_tr rfl (fr_sI rfl hFc57) hF211) hF235)), n248e, n248g, n248i, n248k, n248m, rfl, rfl, n248, n248a, n248b, n248c⟩)
          · skip
            have i214 := z_ne 1 1 c214 i211 rfl
            refine g_aload_n 218 (gd rfl) rfl rfl ?_
            refine g_getI 221 (gd rfl) rfl rfl rfl (fun z218 e218 => ?_)
            have q218 : u_109_9 = z218 := (fr_F (s := (sI sc57 127 w57_109_32.toNatClampNeg y57_2)) (sI_F (fr_F e_109_9 hFc57 rfl)) hF211 rfl).trans e218.symm
            subst q218
            refine g_aload_n 222 (gd rfl) rfl rfl ?_
            refine g_getI 225 (gd rfl) rfl rfl rfl (fun z222 e222 => ?_)
            have q222 : w57_109_32 = z222 := (fr_F (s := (sI sc57 127 w57_109_32.toNatClampNeg y57_2)) (sI_F (v57_109_32)) hF211 rfl).trans e222.symm
            subst q222
            refine g_iadd 226 (gd rfl) rfl (fun z225 e225 => ?_)
            have i225 := in_add 0 4499 e225 ro_109_9 i202 rfl rfl
            refine g_sipush 4000 229 (gd rfl) rfl rfl ?_
            refine g_cmp_lt 232 238 (gd rfl) rfl rfl (fun c229 => ?_) (fun c229 => ?_)
            · skip
              have i229 := r_lt1 0 3999 c229 i225 (in_c 4000 rfl) rfl
              refine g_aload_n 239 (gd rfl) rfl rfl ?_
              refine g_dup 240 (gd rfl) rfl rfl ?_
              refine g_getI 243 (gd rfl) rfl rfl rfl (fun z240 e240 => ?_)
              have q240 : w57_109_32 = z240 := (fr_F (s := (sI sc57 127 w57_109_32.toNatClampNeg y57_2)) (sI_F (v57_109_32)) hF211 rfl).trans e240.symm
              subst q240
              refine g_iconst 1 244 (gd rfl) rfl rfl ?_
              refine g_iadd 245 (gd rfl) rfl (fun z244 e244 => ?_)
              have i244 := in_add 1 500 e244 i202 (in_c 1 rfl) rfl rfl
              refine g_putI 248 (gd rfl) rfl rfl rfl rfl ?_
              have hI245 := inv_sF (q := 109) (j := 32) hI211 rfl (in_w 0 500 i244 rfl)
              have n248 : ((sF s211 109 32 z244).2.2.1 109 23).toInt = 0 → LDQ (sF s211 109 32 z244) ((sF s211 109 32 z244).2.2.1 109 32).toNatClampNeg := by (intro hf; have hz : z244.toNatClampNeg = w57_109_32.toNatClampNeg + 1 := (by show z244.toInt.toNat = w57_109_32.toInt.toNat + 1; have r1 := i202; have a0 := in_u ro_109_22; have a1 := in_u ro_109_9; have a2 := in_u i202; have a3 := in_u i190; have a4 := in_u ((inv_F hIc57 0 1000 rfl v57_109_27)); have a5 := in_u i59; have a6 := in_u j57_3; have a7 := in_u j57_2; have a8 := in_u j57_1; have a9 := in_u i244; have a10 := t_add e244 i202 (in_c 1 rfl) rfl; have a11 := in_u ((in_c 1 rfl)); have a12 := in_u i229; have a13 := t_add e225 ro_109_9 i202 rfl; have a14 := in_u i210; have a15 := (t_mulc 5 (Or.inl e210) i202 rfl).1; have oc := oc_304_109; omega); rw [show ((sF s211 109 32 z244).2.2.1 109 32) = z244 from sF_get.symm, hz]; have hlu : LDQ (sI sc57 127 w57_109_32.toNatClampNeg y57_2) w57_109_32.toNatClampNeg := (by have h := (ldq_cg (t := (sI sc57 127 w57_109_32.toNatClampNeg y57_2)) (g57_0 (by rw [← v57_109_23]; exact c190)) (sI_p rfl) (sI_p rfl) (fun j hj => by rw [sI_q, up_n (by rw [v57_109_32]; omega)]) (fun j _ => by rw [sI_p rfl])); rw [← v57_109_32] at h; exact h); exact ldq_s (s := (sI sc57 127 w57_109_32.toNatClampNeg y57_2)) (t := s211) (R := z211.toInt) hlu (by rw [sI_q, up_e]) (by have h := p211b; rw [show z210.toNatClampNeg = 5 * w57_109_32.toNatClampNeg from (by show z210.toInt.toNat = 5 * w57_109_32.toInt.toNat; have r1 := i202; have a0 := in_u ro_109_22; have a1 := in_u ro_109_9; have a2 := in_u i202; have a3 := in_u i190; have a4 := in_u ((inv_F hIc57 0 1000 rfl v57_109_27)); have a5 := in_u i59; have a6 := in_u j57_3; have a7 := in_u j57_2; have a8 := in_u j57_1; have a9 := in_u i244; have a10 := t_add e244 i202 (in_c 1 rfl) rfl; have a11 := in_u ((in_c 1 rfl)); have a12 := in_u i229; have a13 := t_add e225 ro_109_9 i202 rfl; have a14 := in_u i210; have a15 := (t_mulc 5 (Or.inl e210) i202 rfl).1; have oc := oc_304_109; omega)] at h; exact h) c214 (hF211.1 127 rfl) (hF211.1 128 rfl) (fun a1 => by rw [sI_p rfl, v57_109_32]; exact (g57_1 (by rw [← v57_109_23]; exact c190)).1 a1 ((g57_2 c59 (by rw [← v57_109_23]; exact c190)).1 a1)) (fun a1 => by rw [sI_p rfl, v57_109_32]; exact (g57_1 (by rw [← v57_109_23]; exact c190)).2 a1 ((g57_2 c59 (by rw [← v57_109_23]; exact c190)).2 a1)))
              have n248a : RCM s (sF s211 109 32 z244) := by exact rcm_d g57_3 g57_4 g57_6 (by rw [← v57_109_23]; exact c190) c59 (hFc57.2.2.1 109 9 rfl) v57_109_32 (by show z210.toInt.toNat = 5 * w57_109_32.toInt.toNat; have r1 := i202; have a0 := oa10 ro_109_22 ro_109_9 i202 i190 ((inv_F hIc57 0 1000 rfl v57_109_27)) i59 j57_3 j57_2 j57_1 i244; have a10 := t_add e244 i202 (in_c 1 rfl) rfl; have a11 := oa2 ((in_c 1 rfl)) i229; have a13 := t_add e225 ro_109_9 i202 rfl; have a14 := in_u i210; have a15 := (t_mulc 5 (Or.inl e210) i202 rfl).1; have oc := oc_304_109; omega) (p211c.1 c214) (p211b.2 c214) (by have q32 := congrArg Int32.toInt (show w57_109_32 = s.2.2.1 109 32 from v57_109_32.trans g57_4.2.2.2.2); rw [← e_109_9, ← q32]; have a0 := oa10 ro_109_22 ro_109_9 i202 i190 ((inv_F hIc57 0 1000 rfl v57_109_27)) i59 j57_3 j57_2 j57_1 i244; have a10 := t_add e244 i202 (in_c 1 rfl) rfl; have a11 := oa2 ((in_c 1 rfl)) i229; have a13 := t_add e225 ro_109_9 i202 rfl; have a14 := in_u i210; have a15 := (t_mulc 5 (Or.inl e210) i202 rfl).1; have oc := oc_304_109; omega) v57_109_27 (by have a0 := oa10 ro_109_22 ro_109_9 i202 i190 ((inv_F hIc57 0 1000 rfl v57_109_27)) i59 j57_3 j57_2 j57_1 i244; have a10 := t_add e244 i202 (in_c 1 rfl) rfl; have a11 := oa2 ((in_c 1 rfl)) i229; have a13 := t_add e225 ro_109_9 i202 rfl; have a14 := in_u i210; have a15 := (t_mulc 5 (Or.inl e210) i202 rfl).1; have oc := oc_304_109; omega) (hF211.2.2.1 109 9 rfl) (hF211.2.2.1 109 23 rfl) (hF211.2.2.1 109 27 rfl) (hF211.1 127 rfl) (hF211.1 128 rfl)
              have n248b : G0S s (sF s211 109 32 z244) := by exact g0_tr (g0_cg (t := sI sc57 127 _ _) ((sI_p rfl).trans g57_4.1) ((sI_p rfl).trans g57_4.2.1)) p211b.1
              have n248c : G12 s (sF s211 109 32 z244) := by exact g12_tr (g12_cg (t := sI sc57 127 _ _) ((sI_p rfl).trans g57_4.1) ((sI_p rfl).trans g57_4.2.1)) p211d
              have n248d : (w57_109_27).toInt ≤ (u_109_22).toInt := by first | exact n57_0 | (have a0 := oa10 ro_109_22 ro_109_9 i202 i190 ((inv_F hIc57 0 1000 rfl v57_109_27)) i59 j57_3 j57_2 j57_1 i244; have a10 := t_add e244 i202 (in_c 1 rfl) rfl; have a11 := oa2 ((in_c 1 rfl)) i229; have a13 := t_add e225 ro_109_9 i202 rfl; have a14 := in_u i210; have a15 := (t_mulc 5 (Or.inl e210) i202 rfl).1; have oc := oc_304_109; omega)
              have n248e : ((sF s211 109 32 z244).2.2.1 109 27).toInt ≤ ((sF s211 109 32 z244).2.2.1 109 22).toInt := by have b0 : w57_109_27 = (sF s211 109 32 z244).2.2.1 109 27 := sF_ne rfl (fr_F (s := (sI sc57 127 w57_109_32.toNatClampNeg y57_2)) (sI_F (v57_109_27)) hF211 rfl); have b1 : u_109_22 = (sF s211 109 32 z244).2.2.1 109 22 := sF_ne rfl (fr_F (s := (sI sc57 127 w57_109_32.toNatClampNeg y57_2)) (sI_F (fr_F e_109_22 hFc57 rfl)) hF211 rfl); rw [← b0, ← b1]; exact n248d
              have n248f : (u_109_27).toInt ≤ (w57_109_27).toInt := by first | exact n57_1 | (have a0 := oa10 ro_109_22 ro_109_9 i202 i190 ((inv_F hIc57 0 1000 rfl v57_109_27)) i59 j57_3 j57_2 j57_1 i244; have a10 := t_add e244 i202 (in_c 1 rfl) rfl; have a11 := oa2 ((in_c 1 rfl)) i229; have a13 := t_add e225 ro_109_9 i202 rfl; have a14 := in_u i210; have a15 := (t_mulc 5 (Or.inl e210) i202 rfl).1; have oc := oc_304_109; omega)
              have n248g : (s.2.2.1 109 27).toInt ≤ ((sF s211 109 32 z244).2.2.1 109 27).toInt := by have b0 : w57_109_27 = (sF s211 109 32 z244).2.2.1 109 27 := sF_ne rfl (fr_F (s := (sI sc57 127 w57_109_32.toNatClampNeg y57_2)) (sI_F (v57_109_27)) hF211 rfl); first | (rw [← b0, ← e_109_27]; exact n248f) | (rw [← b0]; exact n248f)
              have n248h : (w57_109_23).toInt = 0 → 3 * (z244).toInt ≤ (w57_109_27).toInt := by have a0 := oa10 ro_109_22 ro_109_9 i202 i190 ((inv_F hIc57 0 1000 rfl v57_109_27)) i59 j57_3 j57_2 j57_1 i244; have a10 := t_add e244 i202 (in_c 1 rfl) rfl; have a11 := oa2 ((in_c 1 rfl)) i229; have a13 := t_add e225 ro_109_9 i202 rfl; have a14 := in_u i210; have a15 := (t_mulc 5 (Or.inl e210) i202 rfl).1; have oc := oc_304_109; omega
              have n248i : ((sF s211 109 32 z244).2.2.1 109 23).toInt = 0 → 3 * ((sF s211 109 32 z244).2.2.1 109 32).toInt ≤ ((sF s211 109 32 z244).2.2.1 109 27).toInt := by have b0 : w57_109_23 = (sF s211 109 32 z244).2.2.1 109 23 := sF_ne rfl (fr_F (s := (sI sc57 127 w57_109_32.toNatClampNeg y57_2)) (sI_F (v57_109_23)) hF211 rfl); have b1 : z244 = (sF s211 109 32 z244).2.2.1 109 32 := sF_get; have b2 : w57_109_27 = (sF s211 109 32 z244).2.2.1 109 27 := sF_ne rfl (fr_F (s := (sI sc57 127 w57_109_32.toNatClampNeg y57_2)) (sI_F (v57_109_27)) hF211 rfl); rw [← b0, ← b1, ← b2]; exact n248h
              have n248j : (w57_109_23).toInt = 0 → (u_109_27).toInt + 1 ≤ (w57_109_27).toInt := by have a0 := oa10 ro_109_22 ro_109_9 i202 i190 ((inv_F hIc57 0 1000 rfl v57_109_27)) i59 j57_3 j57_2 j57_1 i244; have a10 := t_add e244 i202 (in_c 1 rfl) rfl; have a11 := oa2 ((in_c 1 rfl)) i229; have a13 := t_add e225 ro_109_9 i202 rfl; have a14 := in_u i210; have a15 := (t_mulc 5 (Or.inl e210) i202 rfl).1; have oc := oc_304_109; omega
              have n248k : ((sF s211 109 32 z244).2.2.1 109 23).toInt = 0 → (s.2.2.1 109 27).toInt + 1 ≤ ((sF s211 109 32 z244).2.2.1 109 27).toInt := by have b0 : w57_109_23 = (sF s211 109 32 z244).2.2.1 109 23 := sF_ne rfl (fr_F (s := (sI sc57 127 w57_109_32.toNatClampNeg y57_2)) (sI_F (v57_109_23)) hF211 rfl); have b1 : w57_109_27 = (sF s211 109 32 z244).2.2.1 109 27 := sF_ne rfl (fr_F (s := (sI sc57 127 w57_109_32.toNatClampNeg y57_2)) (sI_F (v57_109_27)) hF211 rfl); first | (rw [← b0, ← b1, ← e_109_27]; exact n248j) | (rw [← b0, ← b1]; exact n248j)
              have n248l : (w57_109_23).toInt = 0 → (u_109_9).toInt + (z244).toInt ≤ 4000 := by have a0 := oa10 ro_109_22 ro_109_9 i202 i190 ((inv_F hIc57 0 1000 rfl v57_109_27)) i59 j57_3 j57_2 j57_1 i244; have a10 := t_add e244 i202 (in_c 1 rfl) rfl; have a11 := oa2 ((in_c 1 rfl)) i229; have a13 := t_add e225 ro_109_9 i202 rfl; have a14 := in_u i210; have a15 := (t_mulc 5 (Or.inl e210) i202 rfl).1; have oc := oc_304_109; omega
              have n248m : ((sF s211 109 32 z244).2.2.1 109 23).toInt = 0 → ((sF s211 109 32 z244).2.2.1 109 9).toInt + ((sF s211 109 32 z244).2.2.1 109 32).toInt ≤ 4000 := by have b0 : w57_109_23 = (sF s211 109 32 z244).2.2.1 109 23 := sF_ne rfl (fr_F (s := (sI sc57 127 w57_109_32.toNatClampNeg y57_2)) (sI_F (v57_109_23)) hF211 rfl); have b1 : u_109_9 = (sF s211 109 32 z244).2.2.1 109 9 := sF_ne rfl (fr_F (s := (sI sc57 127 w57_109_32.toNatClampNeg y57_2)) (sI_F (fr_F e_109_9 hFc57 rfl)) hF211 rfl); have b2 : z244 = (sF s211 109 32 z244).2.2.1 109 32 := sF_get; rw [← b0, ← b1, ← b2]; exact n248l
              exact g_return (gd rfl) rfl (hP _ _ ⟨(sF s211 109 32 z244), hI245, (fr_sF rfl (fr_tr rfl (fr_sI rfl hFc57) hF211)), n248e, n248g, n248i, n248k, n248m, rfl, rfl, n248, n248a, n248b, n248c⟩)
            · skip
              have i229 := r_le2 4000 4499 c229 (in_c 4000 rfl) i225 rfl
              refine g_aload_n 233 (gd rfl) rfl rfl ?_
              refine g_iconst 4 234 (gd rfl) rfl rfl ?_
              refine g_iload_n 235 (gd rfl) rfl rfl ?_
              have v235 : w57_109_23 = s211.2.2.1 109 23 := fr_F (s := (sI sc57 127 w57_109_32.toNatClampNeg y57_2)) (sI_F (v57_109_23)) hF211 rfl
              refine g_callv (X := _) (As := [.int (Int32.ofInt 4), .int y57_1]) (r := []) (b := A 109) (q := 109) 238 (gd rfl) rfl rfl rfl rfl rfl (ww_o rfl) (Nat.le_of_ble_eq_true rfl) (Nat.zero_le _) (Nat.zero_le _) (f_298 (by first | exact dq1 hd rfl | exact dq0 hd rfl | exact dq2 hd rfl | exact dq3 hd rfl | omega) hI211 (in_w 1 5 (in_c 4 rfl) rfl) v235) (fun e u h => h) (fun v u h => ?_)
              obtain ⟨s235, hI235, hF235, n235, rfl, rfl, p235⟩ := h
              obtain ⟨z235a, e235⟩ : ∃ w, w = s235.2.2.1 109 23 := ⟨_, rfl⟩
              have i235a := inv_F hI235 0 9 rfl e235
              rw [← (show z235a = s235.2.2.1 109 23 from e235)] at n235
              show GG _ _ _ _ _ _ _ _ [] _ _ _
              refine g_aload_n 239 (gd rfl) rfl rfl ?_
              refine g_dup 240 (gd rfl) rfl rfl ?_
              refine g_getI 243 (gd rfl) rfl rfl rfl (fun z240 e240 => ?_)
              have q240 : w57_109_32 = z240 := (fr_F (fr_F (s := (sI sc57 127 w57_109_32.toNatClampNeg y57_2)) (sI_F (v57_109_32)) hF211 rfl) hF235 rfl).trans e240.symm
              subst q240
              refine g_iconst 1 244 (gd rfl) rfl rfl ?_
              refine g_iadd 245 (gd rfl) rfl (fun z244 e244 => ?_)
              have i244 := in_add 1 500 e244 i202 (in_c 1 rfl) rfl rfl
              refine g_putI 248 (gd rfl) rfl rfl rfl rfl ?_
              have hI245 := inv_sF (q := 109) (j := 32) hI235 rfl (in_w 0 500 i244 rfl)
              have n248 : ((sF s235 109 32 z244).2.2.1 109 23).toInt = 0 → LDQ (sF s235 109 32 z244) ((sF s235 109 32 z244).2.2.1 109 32).toNatClampNeg := by (intro hf; exfalso; have hg : (s235.2.2.1 109 23).toInt = 0 := hf; rw [← e235] at hg; have hn := n235; omega)
              have n248a : RCM s (sF s235 109 32 z244) := by exact rcm_n g57_3 g57_4 g57_6 (by rw [← v57_109_23]; exact c190) c59 (hFc57.2.2.1 109 9 rfl) v57_109_32 (by show z210.toInt.toNat = 5 * w57_109_32.toInt.toNat; have r1 := i202; have a0 := oa10 ro_109_22 ro_109_9 i202 i190 ((inv_F hIc57 0 1000 rfl v57_109_27)) i59 j57_3 j57_2 j57_1 i244; have a10 := t_add e244 i202 (in_c 1 rfl) rfl; have a11 := oa3 ((in_c 1 rfl)) i235a i229; have a14 := t_add e225 ro_109_9 i202 rfl; have a15 := in_u i210; have a16 := (t_mulc 5 (Or.inl e210) i202 rfl).1; have oc := oc_304_109; omega) (Or.inr (by have q32 := congrArg Int32.toInt (show w57_109_32 = s.2.2.1 109 32 from v57_109_32.trans g57_4.2.2.2.2); rw [← e_109_9, ← q32]; have a0 := oa10 ro_109_22 ro_109_9 i202 i190 ((inv_F hIc57 0 1000 rfl v57_109_27)) i59 j57_3 j57_2 j57_1 i244; have a10 := t_add e244 i202 (in_c 1 rfl) rfl; have a11 := oa3 ((in_c 1 rfl)) i235a i229; have a14 := t_add e225 ro_109_9 i202 rfl; have a15 := in_u i210; have a16 := (t_mulc 5 (Or.inl e210) i202 rfl).1; have oc := oc_304_109; omega)) (p235.1 (by rw [← v235]; exact c190)).1 (p235.1 (by rw [← v235]; exact c190)).2 (by have a0 := oa10 ro_109_22 ro_109_9 i202 i190 ((inv_F hIc57 0 1000 rfl v57_109_27)) i59 j57_3 j57_2 j57_1 i244; have a10 := t_add e244 i202 (in_c 1 rfl) rfl; have a11 := oa3 ((in_c 1 rfl)) i235a i229; have a14 := t_add e225 ro_109_9 i202 rfl; have a15 := in_u i210; have a16 := (t_mulc 5 (Or.inl e210) i202 rfl).1; have oc := oc_304_109; omega)
              have n248b : G0S s (sF s235 109 32 z244) := by exact g0_tr (g0_tr (g0_cg (t := sI sc57 127 _ _) ((sI_p rfl).trans g57_4.1) ((sI_p rfl).trans g57_4.2.1)) p211b.1) (g0_cg (hF235.1 110 rfl) (hF235.1 112 rfl))
              have n248c : G12 s (sF s235 109 32 z244) := by exact g12_tr (g12_tr (g12_cg (t := sI sc57 127 _ _) ((sI_p rfl).trans g57_4.1) ((sI_p rfl).trans g57_4.2.1)) p211d) (g12_cg (hF235.1 110 rfl) (hF235.1 112 rfl))
              have n248d : (w57_109_27).toInt ≤ (u_109_22).toInt := by first | exact n57_0 | (have a0 := oa10 ro_109_22 ro_109_9 i202 i190 ((inv_F hIc57 0 1000 rfl v57_109_27)) i59 j57_3 j57_2 j57_1 i244; have a10 := t_add e244 i202 (in_c 1 rfl) rfl; have a11 := oa3 ((in_c 1 rfl)) i235a i229; have a14 := t_add e225 ro_109_9 i202 rfl; have a15 := in_u i210; have a16 := (t_mulc 5 (Or.inl e210) i202 rfl).1; have oc := oc_304_109; omega)
              have n248e : ((sF s235 109 32 z244).2.2.1 109 27).toInt ≤ ((sF s235 109 32 z244).2.2.1 109 22).toInt := by have b0 : w57_109_27 = (sF s235 109 32 z244).2.2.1 109 27 := sF_ne rfl (fr_F (fr_F (s := (sI sc57 127 w57_109_32.toNatClampNeg y57_2)) (sI_F (v57_109_27)) hF211 rfl) hF235 rfl); have b1 : u_109_22 = (sF s235 109 32 z244).2.2.1 109 22 := sF_ne rfl (fr_F (fr_F (s := (sI sc57 127 w57_109_32.toNatClampNeg y57_2)) (sI_F (fr_F e_109_22 hFc57 rfl)) hF211 rfl) hF235 rfl); rw [← b0, ← b1]; exact n248d
              have n248f : (u_109_27).toInt ≤ (w57_109_27).toInt := by first | exact n57_1 | (have a0 := oa10 ro_109_22 ro_109_9 i202 i190 ((inv_F hIc57 0 1000 rfl v57_109_27)) i59 j57_3 j57_2 j57_1 i244; have a10 := t_add e244 i202 (in_c 1 rfl) rfl; have a11 := oa3 ((in_c 1 rfl)) i235a i229; have a14 := t_add e225 ro_109_9 i202 rfl; have a15 := in_u i210; have a16 := (t_mulc 5 (Or.inl e210) i202 rfl).1; have oc := oc_304_109; omega)
              have n248g : (s.2.2.1 109 27).toInt ≤ ((sF s235 109 32 z244).2.2.1 109 27).toInt := by have b0 : w57_109_27 = (sF s235 109 32 z244).2.2.1 109 27 := sF_ne rfl (fr_F (fr_F (s := (sI sc57 127 w57_109_32.toNatClampNeg y57_2)) (sI_F (v57_109_27)) hF211 rfl) hF235 rfl); first | (rw [← b0, ← e_109_27]; exact n248f) | (rw [← b0]; exact n248f)
              have n248h : (z235a).toInt = 0 → 3 * (z244).toInt ≤ (w57_109_27).toInt := by have a0 := oa10 ro_109_22 ro_109_9 i202 i190 ((inv_F hIc57 0 1000 rfl v57_109_27)) i59 j57_3 j57_2 j57_1 i244; have a10 := t_add e244 i202 (in_c 1 rfl) rfl; have a11 := oa3 ((in_c 1 rfl)) i235a i229; have a14 := t_add e225 ro_109_9 i202 rfl; have a15 := in_u i210; have a16 := (t_mulc 5 (Or.inl e210) i202 rfl).1; have oc := oc_304_109; omega
              have n248i : ((sF s235 109 32 z244).2.2.1 109 23).toInt = 0 → 3 * ((sF s235 109 32 z244).2.2.1 109 32).toInt ≤ ((sF s235 109 32 z244).2.2.1 109 27).toInt := by have b0 : z235a = (sF s235 109 32 z244).2.2.1 109 23 := sF_ne rfl (e235); have b1 : z244 = (sF s235 109 32 z244).2.2.1 109 32 := sF_get; have b2 : w57_109_27 = (sF s235 109 32 z244).2.2.1 109 27 := sF_ne rfl (fr_F (fr_F (s := (sI sc57 127 w57_109_32.toNatClampNeg y57_2)) (sI_F (v57_109_27)) hF211 rfl) hF235 rfl); rw [← b0, ← b1, ← b2]; exact n248h
              have n248j : (z235a).toInt = 0 → (u_109_27).toInt + 1 ≤ (w57_109_27).toInt := by have a0 := oa10 ro_109_22 ro_109_9 i202 i190 ((inv_F hIc57 0 1000 rfl v57_109_27)) i59 j57_3 j57_2 j57_1 i244; have a10 := t_add e244 i202 (in_c 1 rfl) rfl; have a11 := oa3 ((in_c 1 rfl)) i235a i229; have a14 := t_add e225 ro_109_9 i202 rfl; have a15 := in_u i210; have a16 := (t_mulc 5 (Or.inl e210) i202 rfl).1; have oc := oc_304_109; omega
              have n248k : ((sF s235 109 32 z244).2.2.1 109 23).toInt = 0 → (s.2.2.1 109 27).toInt + 1 ≤ ((sF s235 109 32 z244).2.2.1 109 27).toInt := by have b0 : z235a = (sF s235 109 32 z244).2.2.1 109 23 := sF_ne rfl (e235); have b1 : w57_109_27 = (sF s235 109 32 z244).2.2.1 109 27 := sF_ne rfl (fr_F (fr_F (s := (sI sc57 127 w57_109_32.toNatClampNeg y57_2)) (sI_F (v57_109_27)) hF211 rfl) hF235 rfl); first | (rw [← b0, ← b1, ← e_109_27]; exact n248j) | (rw [← b0, ← b1]; exact n248j)
              have n248l : (z235a).toInt = 0 → (u_109_9).toInt + (z244).toInt ≤ 4000 := by have a0 := oa10 ro_109_22 ro_109_9 i202 i190 ((inv_F hIc57 0 1000 rfl v57_109_27)) i59 j57_3 j57_2 j57_1 i244; have a10 := t_add e244 i202 (in_c 1 rfl) rfl; have a11 := oa3 ((in_c 1 rfl)) i235a i229; have a14 := t_add e225 ro_109_9 i202 rfl; have a15 := in_u i210; have a16 := (t_mulc 5 (Or.inl e210) i202 rfl).1; have oc := oc_304_109; omega
              have n248m : ((sF s235 109 32 z244).2.2.1 109 23).toInt = 0 → ((sF s235 109 32 z244).2.2.1 109 9).toInt + ((sF s235 109 32 z244).2.2.1 109 32).toInt ≤ 4000 := by have b0 : z235a = (sF s235 109 32 z244).2.2.1 109 23 := sF_ne rfl (e235); have b1 : u_109_9 = (sF s235 109 32 z244).2.2.1 109 9 := sF_ne rfl (fr_F (fr_F (s := (sI sc57 127 w57_109_32.toNatClampNeg y57_2)) (sI_F (fr_F e_109_9 hFc57 rfl)) hF211 rfl) hF235 rfl); have b2 : z244 = (sF s235 109 32 z244).2.2.1 109 32 := sF_get; rw [← b0, ← b1, ← b2]; exact n248l
              exact g_return (gd rfl) rfl (hP _ _ ⟨(sF s235 109 32 z244), hI245, (fr_sF rfl (fr_tr rfl (fr_tr rfl (fr_sI rfl hFc57) hF211) hF235)), n248e, n248g, n248i, n248k, n248m, rfl, rfl, n248, n248a, n248b, n248c⟩)
      · skip
        have i59 := z_ne 1 1 c59 j57_4 rfl
        refine g_aload_n 63 (gd rfl) rfl rfl ?_
        refine g_getI 66 (gd rfl) rfl rfl rfl (fun z63 e63 => ?_)
        have q63 : w57_109_23 = z63 := (v57_109_23).trans e63.symm
        subst q63
        refine g_if_ne 69 186 (gd rfl) rfl rfl (fun c66 => ?_) (fun c66 => ?_)
        · skip
          have i66 := z_ne 1 9 c66 (inv_F hIc57 0 9 rfl v57_109_23) rfl
          refine g_aload_n 187 (gd rfl) rfl rfl ?_
          refine g_getI 190 (gd rfl) rfl rfl rfl (fun z187 e187 => ?_)
          have q187 : w57_109_23 = z187 := (v57_109_23).trans e187.symm
          subst q187
          refine g_if_ne 193 248 (gd rfl) rfl rfl (fun c190 => ?_) (fun c190 => ?_)
          · skip
            have n248 : (sc57.2.2.1 109 23).toInt = 0 → LDQ sc57 (sc57.2.2.1 109 32).toNatClampNeg := by (intro hf; exfalso; rw [← v57_109_23] at hf; exact absurd hf c190)
            have n248a : RCM s sc57 := by exact rcm_x g57_3.2.2.1 (c97 g57_3.2.1) g57_7 (by rw [← v57_109_23]; exact c190)
            have n248b : G0S s sc57 := by exact g0_cg g57_4.1 g57_4.2.1
            have n248c : G12 s sc57 := by exact g12_cg g57_4.1 g57_4.2.1
            have n248d : (w57_109_27).toInt ≤ (u_109_22).toInt := by first | exact n57_0 | (have a0 := oa9 ro_109_22 ro_109_9 ((inv_F hIc57 0 500 rfl v57_109_32)) i66 ((inv_F hIc57 0 1000 rfl v57_109_27)) i59 j57_3 j57_2 j57_1; have oc := oc_304_109; omega)
            have n248e : (sc57.2.2.1 109 27).toInt ≤ (sc57.2.2.1 109 22).toInt := by have b0 : w57_109_27 = sc57.2.2.1 109 27 := v57_109_27; have b1 : u_109_22 = sc57.2.2.1 109 22 := fr_F e_109_22 hFc57 rfl; rw [← b0, ← b1]; exact n248d
            have n248f : (u_109_27).toInt ≤ (w57_109_27).toInt := by first | exact n57_1 | (have a0 := oa9 ro_109_22 ro_109_9 ((inv_F hIc57 0 500 rfl v57_109_32)) i66 ((inv_F hIc57 0 1000 rfl v57_109_27)) i59 j57_3 j57_2 j57_1; have oc := oc_304_109; omega)
            have n248g : (s.2.2.1 109 27).toInt ≤ (sc57.2.2.1 109 27).toInt := by have b0 : w57_109_27 = sc57.2.2.1 109 27 := v57_109_27; first | (rw [← b0, ← e_109_27]; exact n248f) | (rw [← b0]; exact n248f)
            have n248h : (w57_109_23).toInt = 0 → 3 * (w57_109_32).toInt ≤ (w57_109_27).toInt := by have a0 := oa9 ro_109_22 ro_109_9 ((inv_F hIc57 0 500 rfl v57_109_32)) i66 ((inv_F hIc57 0 1000 rfl v57_109_27)) i59 j57_3 j57_2 j57_1; have oc := oc_304_109; omega
            have n248i : (sc57.2.2.1 109 23).toInt = 0 → 3 * (sc57.2.2.1 109 32).toInt ≤ (sc57.2.2.1 109 27).toInt := by have b0 : w57_109_23 = sc57.2.2.1 109 23 := v57_109_23; have b1 : w57_109_32 = sc57.2.2.1 109 32 := v57_109_32; have b2 : w57_109_27 = sc57.2.2.1 109 27 := v57_109_27; rw [← b0, ← b1, ← b2]; exact n248h
            have n248j : (w57_109_23).toInt = 0 → (u_109_27).toInt + 1 ≤ (w57_109_27).toInt := by have a0 := oa9 ro_109_22 ro_109_9 ((inv_F hIc57 0 500 rfl v57_109_32)) i66 ((inv_F hIc57 0 1000 rfl v57_109_27)) i59 j57_3 j57_2 j57_1; have oc := oc_304_109; omega
            have n248k : (sc57.2.2.1 109 23).toInt = 0 → (s.2.2.1 109 27).toInt + 1 ≤ (sc57.2.2.1 109 27).toInt := by have b0 : w57_109_23 = sc57.2.2.1 109 23 := v57_109_23; have b1 : w57_109_27 = sc57.2.2.1 109 27 := v57_109_27; first | (rw [← b0, ← b1, ← e_109_27]; exact n248j) | (rw [← b0, ← b1]; exact n248j)
            have n248l : (w57_109_23).toInt = 0 → (u_109_9).toInt + (w57_109_32).toInt ≤ 4000 := by have a0 := oa9 ro_109_22 ro_109_9 ((inv_F hIc57 0 500 rfl v57_109_32)) i66 ((inv_F hIc57 0 1000 rfl v57_109_27)) i59 j57_3 j57_2 j57_1; have oc := oc_304_109; omega
            have n248m : (sc57.2.2.1 109 23).toInt = 0 → (sc57.2.2.1 109 9).toInt + (sc57.2.2.1 109 32).toInt ≤ 4000 := by have b0 : w57_109_23 = sc57.2.2.1 109 23 := v57_109_23; have b1 : u_109_9 = sc57.2.2.1 109 9 := fr_F e_109_9 hFc57 rfl; have b2 : w57_109_32 = sc57.2.2.1 109 32 := v57_109_32; rw [← b0, ← b1, ← b2]; exact n248l
            exact g_return (gd rfl) rfl (hP _ _ ⟨sc57, hIc57, hFc57, n248e, n248g, n248i, n248k, n248m, rfl, rfl, n248, n248a, n248b, n248c⟩)
          · skip
            exact zn_eq c190 i66 rfl
        · skip
          have i66 := z_eq 0 0 c66 (inv_F hIc57 0 9 rfl v57_109_23) rfl
          refine g_aload_n 70 (gd rfl) rfl rfl ?_
          have v70 : u_109_22 = sc57.2.2.1 109 22 := fr_F e_109_22 hFc57 rfl
          have n70 : (w57_109_27).toInt ≤ (u_109_22).toInt := by first | exact n57_0 | (have a0 := oa9 ro_109_22 ro_109_9 ((inv_F hIc57 0 500 rfl v57_109_32)) i66 ((inv_F hIc57 0 1000 rfl v57_109_27)) i59 j57_3 j57_2 j57_1; have oc := oc_304_109; omega)
          refine g_callv (X := _) (As := []) (r := []) (b := A 109) (q := 109) 73 (gd rfl) rfl rfl rfl rfl rfl (ww_o rfl) (Nat.le_of_ble_eq_true rfl) (Nat.zero_le _) (Nat.zero_le _) (f_299 (by first | exact dq1 hd rfl | exact dq0 hd rfl | exact dq2 hd rfl | exact dq3 hd rfl | omega) hIc57 v57_109_27 v70 n70) (fun e u h => h) (fun v u h => ?_)
          obtain ⟨s70, hI70, hF70, n70a, n70b, n70c, n70d, n70e, rfl, rfl, p70⟩ := h
          obtain ⟨z70a, e70⟩ : ∃ w, w = s70.2.2.1 109 27 := ⟨_, rfl⟩
          have i70a := inv_F hI70 0 1000 rfl e70
          obtain ⟨z70b, e70a⟩ : ∃ w, w = s70.2.2.1 109 28 := ⟨_, rfl⟩
          obtain ⟨z70c, e70b⟩ : ∃ w, w = s70.2.2.1 109 30 := ⟨_, rfl⟩
          rw [← (show z70a = s70.2.2.1 109 27 from e70)] at n70a
          rw [← (show u_109_22 = s70.2.2.1 109 22 from fr_F (fr_F e_109_22 hFc57 rfl) hF70 rfl)] at n70a
          rw [← (show w57_109_27 = sc57.2.2.1 109 27 from v57_109_27)] at n70b
          rw [← (show z70a = s70.2.2.1 109 27 from e70)] at n70b
          rw [← (show w57_109_27 = sc57.2.2.1 109 27 from v57_109_27)] at n70c
          rw [← (show z70a = s70.2.2.1 109 27 from e70)] at n70c
          rw [← (show z70b = s70.2.2.1 109 28 from e70a)] at n70c
          rw [← (show z70b = s70.2.2.1 109 28 from e70a)] at n70d
          rw [← (show z70c = s70.2.2.1 109 30 from e70b)] at n70d
          rw [← (show z70b = s70.2.2.1 109 28 from e70a)] at n70e
          rw [← (show z70c = s70.2.2.1 109 30 from e70b)] at n70e
          show GG _ _ _ _ _ _ _ _ [] _ _ _
          refine g_aload_n 74 (gd rfl) rfl rfl ?_
          refine g_iload_n 75 (gd rfl) rfl rfl ?_
          refine g_iload_n 76 (gd rfl) rfl rfl ?_
          refine g_callv (X := _) (As := [.int y57_2, .int y57_3]) (r := []) (b := A 109) (q := 109) 79 (gd rfl) rfl rfl rfl rfl rfl (ww_o rfl) (Nat.le_of_ble_eq_true rfl) (Nat.zero_le _) (Nat.zero_le _) (f_301 (by first | exact dq1 hd rfl | exact dq0 hd rfl | exact dq2 hd rfl | exact dq3 hd rfl | omega) hI70 (in_w 97 119 j57_2 rfl) (in_w 0 5 j57_3 rfl)) (fun e u h => h) (fun v u h => ?_)
          obtain ⟨z76, rfl, rfl, i76, p76, p76a⟩ := h
          show GG _ _ _ _ _ _ _ _ [.int z76] _ _ _
          have hp76 := p76; unfold SHP at hp76
          refine g_istore 81 (gd rfl) rfl (Nat.le_of_ble_eq_true rfl) ?_
          refine g_aload_n 82 (gd rfl) rfl rfl ?_
          refine g_getI 85 (gd rfl) rfl rfl rfl (fun z82 e82 => ?_)
          have i82 := inv_F hI70 0 9 rfl e82
          refine g_if_ne 88 121 (gd rfl) rfl rfl (fun c85 => ?_) (fun c85 => ?_)
          · skip
            have i85 := z_ne 1 9 c85 i82 rfl
            refine g_iload 123 (gd rfl) rfl rfl ?_
            refine g_iconst 3 124 (gd rfl) rfl rfl ?_
            refine g_cmp_eq 127 131 (gd rfl) rfl rfl (fun c124 => ?_) (fun c124 => ?_)
            · skip
              have i124 := r_eq1 3 3 c124 i76 (in_c 3 rfl) rfl
              refine g_iconst 0 132 (gd rfl) rfl rfl ?_
              refine g_istore 134 (gd rfl) rfl (Nat.le_of_ble_eq_true rfl) ?_
              refine g_aload_n 135 (gd rfl) rfl rfl ?_
              refine g_getI 138 (gd rfl) rfl rfl rfl (fun z135 e135 => ?_)
              have q135 : z82 = z135 := (e82).trans e135.symm
              subst q135
              refine g_if_ne 141 183 (gd rfl) rfl rfl (fun c138 => ?_) (fun c138 => ?_)
              · skip
                refine g_goto 57 (gd rfl) rfl ?_
                have v57 : w57_109_32 = s70.2.2.1 109 32 := fr_F (v57_109_32) hF70 rfl
                have n57 : (z70a).toInt ≤ (u_109_22).toInt := by have a0 := oa13 ro_109_22 ro_109_9 ((inv_F hIc57 0 500 rfl v57_109_32)) i66 ((inv_F hIc57 0 1000 rfl v57_109_27)) i59 j57_3 j57_2 j57_1 i124 ((in_c 0 rfl)) i85 i70a; have oc := oc_304_109; omega
                have n57a : (u_109_27).toInt ≤ (z70a).toInt := by have a0 := oa13 ro_109_22 ro_109_9 ((inv_F hIc57 0 500 rfl v57_109_32)) i66 ((inv_F hIc57 0 1000 rfl v57_109_27)) i59 j57_3 j57_2 j57_1 i124 ((in_c 0 rfl)) i85 i70a; have oc := oc_304_109; omega
                have n57b : 3 * (w57_109_32).toInt + 1 + (y57_3).toInt ≤ (z70a).toInt := by have a0 := oa13 ro_109_22 ro_109_9 ((inv_F hIc57 0 500 rfl v57_109_32)) i66 ((inv_F hIc57 0 1000 rfl v57_109_27)) i59 j57_3 j57_2 j57_1 i124 ((in_c 0 rfl)) i85 i70a; have oc := oc_304_109; omega
                have n57c : ((Int32.ofInt 0)).toInt = 0 → (z82).toInt = 0 → 3 * (w57_109_32).toInt + 3 ≤ (z70a).toInt := by first | exact fun _ h => absurd h (Int.ne_of_gt (in_u i85).1) | (have a0 := oa13 ro_109_22 ro_109_9 ((inv_F hIc57 0 500 rfl v57_109_32)) i66 ((inv_F hIc57 0 1000 rfl v57_109_27)) i59 j57_3 j57_2 j57_1 i124 ((in_c 0 rfl)) i85 i70a; have oc := oc_304_109; omega)
                have n57d : ((Int32.ofInt 0)).toInt ≠ 0 → 0 ≤ (y57_3).toInt := by exact fun h => absurd rfl h
                have n57e : (u_109_27).toInt + (y57_3).toInt ≤ (z70a).toInt := by have a0 := oa13 ro_109_22 ro_109_9 ((inv_F hIc57 0 500 rfl v57_109_32)) i66 ((inv_F hIc57 0 1000 rfl v57_109_27)) i59 j57_3 j57_2 j57_1 i124 ((in_c 0 rfl)) i85 i70a; have oc := oc_304_109; omega
                have n57f : ((Int32.ofInt 0)).toInt = 0 → (z82).toInt = 0 → (u_109_27).toInt + 1 ≤ (z70a).toInt := by first | exact fun _ h => absurd h (Int.ne_of_gt (in_u i85).1) | (have a0 := oa13 ro_109_22 ro_109_9 ((inv_F hIc57 0 500 rfl v57_109_32)) i66 ((inv_F hIc57 0 1000 rfl v57_109_27)) i59 j57_3 j57_2 j57_1 i124 ((in_c 0 rfl)) i85 i70a; have oc := oc_304_109; omega)
                have n57g : (s70.2.2.1 109 23).toInt = 0 → LDQ s70 (s70.2.2.1 109 32).toNatClampNeg := by (intro _; rw [show (s70).2.2.1 109 32 = sc57.2.2.1 109 32 from hF70.2.2.1 109 32 rfl]; exact ldq_cg (g57_0 (by rw [← v57_109_23]; exact c66)) (hF70.1 110 rfl) (hF70.1 112 rfl) (fun j _ => by rw [hF70.1 127 rfl]) (fun j _ => by rw [hF70.1 128 rfl]))
                have n57h : (s70.2.2.1 109 23).toInt = 0 → ((y57_2).toInt = 110 → 1 ≤ (y57_3).toInt → nq (s70.1 128 (5 * (s70.2.2.1 109 32).toNatClampNeg)) 0 25) ∧ ((y57_2).toInt = 97 → 5 ≤ (y57_3).toInt → nq (s70.1 128 (5 * (s70.2.2.1 109 32).toNatClampNeg + 4)) 0 25) := by (intro _; have hl := g57_1 (by rw [← v57_109_23]; exact c66); rw [show (s70).2.2.1 109 32 = sc57.2.2.1 109 32 from hF70.2.2.1 109 32 rfl, hF70.1 128 rfl]; exact hl)
                have n57i : ((Int32.ofInt 0)).toInt = 0 → (s70.2.2.1 109 23).toInt = 0 → ((y57_2).toInt = 110 → 1 ≤ (y57_3).toInt) ∧ ((y57_2).toInt = 97 → 5 ≤ (y57_3).toInt) := by first | (exact fun hm => absurd hm (by decide)) | (intro hm _; have hp := p76; unfold SHP at hp; have h3 := c124; have h13 : (Int32.ofInt 3).toInt = 3 := rfl; have h11 : (Int32.ofInt 1).toInt = 1 := rfl; have r3 := j57_3; unfold In at r3; exact ⟨fun a1 => (by have q := hp.1 a1; omega), fun a1 => (by have q := hp.2.1 a1; omega)⟩)
                have n57j : C4 (y57_2).toInt ∧ (y57_2) = s.2.2.1 109 30 ∧ (s.2.2.1 109 28).toInt = 1 ∧ (y57_1) = s.2.2.1 109 29 := by exact g57_3
                have n57k : s70.1 110 = s.1 110 ∧ s70.1 112 = s.1 112 ∧ s70.1 127 = s.1 127 ∧ (∀ j, j < 5 * (s.2.2.1 109 32).toNatClampNeg → s70.1 128 j = s.1 128 j) ∧ s70.2.2.1 109 32 = s.2.2.1 109 32 := by exact ⟨(hF70.1 110 rfl).trans g57_4.1, (hF70.1 112 rfl).trans g57_4.2.1, (hF70.1 127 rfl).trans g57_4.2.2.1, fun j hj => by rw [hF70.1 128 rfl]; exact g57_4.2.2.2.1 j hj, (hF70.2.2.1 109 32 rfl).trans g57_4.2.2.2.2⟩
                have n57l : HQ5 s s70 ((y57_2).toInt - 97) (y57_3) ((Int32.ofInt 0)) (z70a).toInt.toNat := by first | (intro _ h; exact absurd rfl h) | (intro hf; exfalso; rw [← e82] at hf; exact c85 hf)
                have n57m : HQ6 s s70 ((y57_2).toInt - 97) ((Int32.ofInt 0)) (z70a).toInt.toNat := by first | (intro _ h; exact absurd h (by decide)) | (intro hf; exfalso; rw [← e82] at hf; exact c85 hf) | ((try clear hp76); obtain ⟨k, v, ht, hn⟩ := p70; rw [show sc57.1 125 = s.1 125 from hFc57.1 125 rfl, show sc57.2.2.1 109 22 = s.2.2.1 109 22 from hFc57.2.2.1 109 22 rfl, ← v57_109_27] at ht; have hv := (ntk_f hn (by rw [← v57_109_23]; exact c66)).2 (by rw [← e82]; exact c85); have htk := ntv_t hv (tkn_e ht).2.2.2.2.1 (tkn_e ht).2.2.2.2.2; rw [← e70a] at htk; have hkz : k = z76.toInt := htk.symm.trans c94; rw [(show z70a = s70.2.2.1 109 27 from e70)]; exact hq6_e (by rw [← v57_109_23]; exact c66) c59 g57_5 g57_3.1 ht p76a hkz (in_at i100) j57_3.1 (hF70.1 128 rfl))
                have n57n : HQ7 s s70 ((y57_2).toInt - 97) := by first | ((try clear hp76); obtain ⟨k, v, ht, hn⟩ := p70; rw [show sc57.1 125 = s.1 125 from hFc57.1 125 rfl, show sc57.2.2.1 109 22 = s.2.2.1 109 22 from hFc57.2.2.1 109 22 rfl, ← v57_109_27] at ht; exact hq7_t hI70 (by rw [← v57_109_23]; exact c66) c59 g57_5 g57_3.1 j57_3.1 ht hn) | (intro hf; exfalso; exact hf (by rw [← e82]; exact c85))
                have m57 : 100 - 10 * (y57_3).toInt + 5 * ((Int32.ofInt 0)).toInt + 9 - (z82).toInt < ((k57 : Nat) : Int) := by have a0 := oa13 ro_109_22 ro_109_9 ((inv_F hIc57 0 500 rfl v57_109_32)) i66 ((inv_F hIc57 0 1000 rfl v57_109_27)) i59 j57_3 j57_2 j57_1 i124 ((in_c 0 rfl)) i85 i70a; have oc := oc_304_109; omega
                exact gg_w (by first | exact Nat.le_add_right _ _ | exact gw2 | exact gw3 | exact gwe rfl | exact gwf rfl | exact gwg rfl | exact gwh rfl | omega) (gg_f (gf_cons rfl (gf_cons rfl (gf_cons rfl (gf_cons rfl (gf_cons rfl gf_nil))))) (ih57  s70 y57_1 y57_2 y57_3 (Int32.ofInt 0) z70a z82 w57_109_32 hI70 (fr_tr rfl hFc57 hF70) (in_w 0 1000 j57_1 rfl) (in_w 97 119 j57_2 rfl) (in_w 0 5 j57_3 rfl) (in_w 0 1 (in_c 0 rfl) rfl) e70 e82 v57 n57 n57a n57b n57c n57d n57e n57f n57g n57h n57i n57j n57k n57l n57m n57n m57))
              · skip
                exact zn_eq c138 i85 rfl
            · skip
              have i124 := r_ne1 1 2 c124 i76 (in_c 3 rfl) rfl
              refine g_iconst 1 128 (gd rfl) rfl rfl ?_
              refine g_goto 132 (gd rfl) rfl ?_
              refine g_istore 134 (gd rfl) rfl (Nat.le_of_ble_eq_true rfl) ?_
              refine g_aload_n 135 (gd rfl) rfl rfl ?_
              refine g_getI 138 (gd rfl) rfl rfl rfl (fun z135 e135 => ?_)
              have q135 : z82 = z135 := (e82).trans e135.symm
              subst q135
              refine g_if_ne 141 183 (gd rfl) rfl rfl (fun c138 => ?_) (fun c138 => ?_)
              · skip
                refine g_goto 57 (gd rfl) rfl ?_
                have v57 : w57_109_32 = s70.2.2.1 109 32 := fr_F (v57_109_32) hF70 rfl
                have n57 : (z70a).toInt ≤ (u_109_22).toInt := by have a0 := oa13 ro_109_22 ro_109_9 ((inv_F hIc57 0 500 rfl v57_109_32)) i66 ((inv_F hIc57 0 1000 rfl v57_109_27)) i59 j57_3 j57_2 j57_1 i124 ((in_c 1 rfl)) i85 i70a; have oc := oc_304_109; omega
                have n57a : (u_109_27).toInt ≤ (z70a).toInt := by have a0 := oa13 ro_109_22 ro_109_9 ((inv_F hIc57 0 500 rfl v57_109_32)) i66 ((inv_F hIc57 0 1000 rfl v57_109_27)) i59 j57_3 j57_2 j57_1 i124 ((in_c 1 rfl)) i85 i70a; have oc := oc_304_109; omega
                have n57b : 3 * (w57_109_32).toInt + 1 + (y57_3).toInt ≤ (z70a).toInt := by have a0 := oa13 ro_109_22 ro_109_9 ((inv_F hIc57 0 500 rfl v57_109_32)) i66 ((inv_F hIc57 0 1000 rfl v57_109_27)) i59 j57_3 j57_2 j57_1 i124 ((in_c 1 rfl)) i85 i70a; have oc := oc_304_109; omega
                have n57c : ((Int32.ofInt 1)).toInt = 0 → (z82).toInt = 0 → 3 * (w57_109_32).toInt + 3 ≤ (z70a).toInt := by exact fun h => absurd h (by decide)
                have n57d : ((Int32.ofInt 1)).toInt ≠ 0 → 0 ≤ (y57_3).toInt := by have a0 := oa13 ro_109_22 ro_109_9 ((inv_F hIc57 0 500 rfl v57_109_32)) i66 ((inv_F hIc57 0 1000 rfl v57_109_27)) i59 j57_3 j57_2 j57_1 i124 ((in_c 1 rfl)) i85 i70a; have oc := oc_304_109; omega
                have n57e : (u_109_27).toInt + (y57_3).toInt ≤ (z70a).toInt := by have a0 := oa13 ro_109_22 ro_109_9 ((inv_F hIc57 0 500 rfl v57_109_32)) i66 ((inv_F hIc57 0 1000 rfl v57_109_27)) i59 j57_3 j57_2 j57_1 i124 ((in_c 1 rfl)) i85 i70a; have oc := oc_304_109; omega
                have n57f : ((Int32.ofInt 1)).toInt = 0 → (z82).toInt = 0 → (u_109_27).toInt + 1 ≤ (z70a).toInt := by exact fun h => absurd h (by decide)
                have n57g : (s70.2.2.1 109 23).toInt = 0 → LDQ s70 (s70.2.2.1 109 32).toNatClampNeg := by (intro _; rw [show (s70).2.2.1 109 32 = sc57.2.2.1 109 32 from hF70.2.2.1 109 32 rfl]; exact ldq_cg (g57_0 (by rw [← v57_109_23]; exact c66)) (hF70.1 110 rfl) (hF70.1 112 rfl) (fun j _ => by rw [hF70.1 127 rfl]) (fun j _ => by rw [hF70.1 128 rfl]))
                have n57h : (s70.2.2.1 109 23).toInt = 0 → ((y57_2).toInt = 110 → 1 ≤ (y57_3).toInt → nq (s70.1 128 (5 * (s70.2.2.1 109 32).toNatClampNeg)) 0 25) ∧ ((y57_2).toInt = 97 → 5 ≤ (y57_3).toInt → nq (s70.1 128 (5 * (s70.2.2.1 109 32).toNatClampNeg + 4)) 0 25) := by (intro _; have hl := g57_1 (by rw [← v57_109_23]; exact c66); rw [show (s70).2.2.1 109 32 = sc57.2.2.1 109 32 from hF70.2.2.1 109 32 rfl, hF70.1 128 rfl]; exact hl)
                have n57i : ((Int32.ofInt 1)).toInt = 0 → (s70.2.2.1 109 23).toInt = 0 → ((y57_2).toInt = 110 → 1 ≤ (y57_3).toInt) ∧ ((y57_2).toInt = 97 → 5 ≤ (y57_3).toInt) := by exact fun h => absurd h (by decide)
                have n57j : C4 (y57_2).toInt ∧ (y57_2) = s.2.2.1 109 30 ∧ (s.2.2.1 109 28).toInt = 1 ∧ (y57_1) = s.2.2.1 109 29 := by exact g57_3
                have n57k : s70.1 110 = s.1 110 ∧ s70.1 112 = s.1 112 ∧ s70.1 127 = s.1 127 ∧ (∀ j, j < 5 * (s.2.2.1 109 32).toNatClampNeg → s70.1 128 j = s.1 128 j) ∧ s70.2.2.1 109 32 = s.2.2.1 109 32 := by exact ⟨(hF70.1 110 rfl).trans g57_4.1, (hF70.1 112 rfl).trans g57_4.2.1, (hF70.1 127 rfl).trans g57_4.2.2.1, fun j hj => by rw [hF70.1 128 rfl]; exact g57_4.2.2.2.1 j hj, (hF70.2.2.1 109 32 rfl).trans g57_4.2.2.2.2⟩
                have n57l : HQ5 s s70 ((y57_2).toInt - 97) (y57_3) ((Int32.ofInt 1)) (z70a).toInt.toNat := by first | (intro _ h; exact absurd rfl h) | (intro hf; exfalso; rw [← e82] at hf; exact c85 hf)
                have n57m : HQ6 s s70 ((y57_2).toInt - 97) ((Int32.ofInt 1)) (z70a).toInt.toNat := by first | (intro _ h; exact absurd h (by decide)) | (intro hf; exfalso; rw [← e82] at hf; exact c85 hf) | ((try clear hp76); obtain ⟨k, v, ht, hn⟩ := p70; rw [show sc57.1 125 = s.1 125 from hFc57.1 125 rfl, show sc57.2.2.1 109 22 = s.2.2.1 109 22 from hFc57.2.2.1 109 22 rfl, ← v57_109_27] at ht; have hv := (ntk_f hn (by rw [← v57_109_23]; exact c66)).2 (by rw [← e82]; exact c85); have htk := ntv_t hv (tkn_e ht).2.2.2.2.1 (tkn_e ht).2.2.2.2.2; rw [← e70a] at htk; have hkz : k = z76.toInt := htk.symm.trans c94; rw [(show z70a = s70.2.2.1 109 27 from e70)]; exact hq6_e (by rw [← v57_109_23]; exact c66) c59 g57_5 g57_3.1 ht p76a hkz (in_at i100) j57_3.1 (hF70.1 128 rfl))
                have n57n : HQ7 s s70 ((y57_2).toInt - 97) := by first | ((try clear hp76); obtain ⟨k, v, ht, hn⟩ := p70; rw [show sc57.1 125 = s.1 125 from hFc57.1 125 rfl, show sc57.2.2.1 109 22 = s.2.2.1 109 22 from hFc57.2.2.1 109 22 rfl, ← v57_109_27] at ht; exact hq7_t hI70 (by rw [← v57_109_23]; exact c66) c59 g57_5 g57_3.1 j57_3.1 ht hn) | (intro hf; exfalso; exact hf (by rw [← e82]; exact c85))
                have m57 : 100 - 10 * (y57_3).toInt + 5 * ((Int32.ofInt 1)).toInt + 9 - (z82).toInt < ((k57 : Nat) : Int) := by have a0 := oa13 ro_109_22 ro_109_9 ((inv_F hIc57 0 500 rfl v57_109_32)) i66 ((inv_F hIc57 0 1000 rfl v57_109_27)) i59 j57_3 j57_2 j57_1 i124 ((in_c 1 rfl)) i85 i70a; have oc := oc_304_109; omega
                exact gg_w (by first | exact Nat.le_add_right _ _ | exact gw2 | exact gw3 | exact gwe rfl | exact gwf rfl | exact gwg rfl | exact gwh rfl | omega) (gg_f (gf_cons rfl (gf_cons rfl (gf_cons rfl (gf_cons rfl (gf_cons rfl gf_nil))))) (ih57  s70 y57_1 y57_2 y57_3 (Int32.ofInt 1) z70a z82 w57_109_32 hI70 (fr_tr rfl hFc57 hF70) (in_w 0 1000 j57_1 rfl) (in_w 97 119 j57_2 rfl) (in_w 0 5 j57_3 rfl) (in_w 0 1 (in_c 1 rfl) rfl) e70 e82 v57 n57 n57a n57b n57c n57d n57e n57f n57g n57h n57i n57j n57k n57l n57m n57n m57))
              · skip
                exact zn_eq c138 i85 rfl
          · skip
            have i85 := z_eq 0 0 c85 i82 rfl
            refine g_aload_n 89 (gd rfl) rfl rfl ?_
            refine g_getI 92 (gd rfl) rfl rfl rfl (fun z89 e89 => ?_)
            have q89 : z70b = z89 := (e70a).trans e89.symm
            subst q89
            refine g_iload 94 (gd rfl) rfl rfl ?_
            refine g_cmp_ne 97 112 (gd rfl) rfl rfl (fun c94 => ?_) (fun c94 => ?_)
            · skip
              refine g_aload_n 113 (gd rfl) rfl rfl ?_
              refine g_iconst 2 114 (gd rfl) rfl rfl ?_
              refine g_aload_n 115 (gd rfl) rfl rfl ?_
              refine g_getI 118 (gd rfl) rfl rfl rfl (fun z115 e115 => ?_)
              have i115 := inv_F hI70 0 1000 rfl e115
              refine g_callv (X := _) (As := [.int (Int32.ofInt 2), .int z115]) (r := []) (b := A 109) (q := 109) 121 (gd rfl) rfl rfl rfl rfl rfl (ww_o rfl) (Nat.le_of_ble_eq_true rfl) (Nat.zero_le _) (Nat.zero_le _) (f_298 (by first | exact dq1 hd rfl | exact dq0 hd rfl | exact dq2 hd rfl | exact dq3 hd rfl | omega) hI70 (in_w 1 5 (in_c 2 rfl) rfl) e82) (fun e u h => h) (fun v u h => ?_)
              obtain ⟨s118, hI118, hF118, n118, rfl, rfl, p118⟩ := h
              obtain ⟨z118a, e118⟩ : ∃ w, w = s118.2.2.1 109 23 := ⟨_, rfl⟩
              have i118a := inv_F hI118 0 9 rfl e118
              rw [← (show z118a = s118.2.2.1 109 23 from e118)] at n118
              show GG _ _ _ _ _ _ _ _ [] _ _ _
              refine g_iload 123 (gd rfl) rfl rfl ?_
              refine g_iconst 3 124 (gd rfl) rfl rfl ?_
              refine g_cmp_eq 127 131 (gd rfl) rfl rfl (fun c124 => ?_) (fun c124 => ?_)
              · skip
                have i124 := r_eq1 3 3 c124 i76 (in_c 3 rfl) rfl
                refine g_iconst 0 132 (gd rfl) rfl rfl ?_
                refine g_istore 134 (gd rfl) rfl (Nat.le_of_ble_eq_true rfl) ?_
                refine g_aload_n 135 (gd rfl) rfl rfl ?_
                refine g_getI 138 (gd rfl) rfl rfl rfl (fun z135 e135 => ?_)
                have q135 : z118a = z135 := (e118).trans e135.symm
                subst q135
                refine g_if_ne 141 183 (gd rfl) rfl rfl (fun c138 => ?_) (fun c138 => ?_)
                · skip
                  have i138 := z_ne 1 9 c138 i118a rfl
                  refine g_goto 57 (gd rfl) rfl ?_
                  have v57 : z70a = s118.2.2.1 109 27 := fr_F (e70) hF118 rfl
                  have v57a : w57_109_32 = s118.2.2.1 109 32 := fr_F (fr_F (v57_109_32) hF70 rfl) hF118 rfl
                  have n57 : (z70a).toInt ≤ (u_109_22).toInt := by have a0 := oa14 ro_109_22 ro_109_9 ((inv_F hIc57 0 500 rfl v57_109_32)) i66 ((inv_F hIc57 0 1000 rfl v57_109_27)) i59 j57_3 j57_2 j57_1 i124 ((in_c 0 rfl)) i138 i115 i70a; have oc := oc_304_109; omega
                  have n57a : (u_109_27).toInt ≤ (z70a).toInt := by have a0 := oa14 ro_109_22 ro_109_9 ((inv_F hIc57 0 500 rfl v57_109_32)) i66 ((inv_F hIc57 0 1000 rfl v57_109_27)) i59 j57_3 j57_2 j57_1 i124 ((in_c 0 rfl)) i138 i115 i70a; have oc := oc_304_109; omega
                  have n57b : 3 * (w57_109_32).toInt + 1 + (y57_3).toInt ≤ (z70a).toInt := by have a0 := oa14 ro_109_22 ro_109_9 ((inv_F hIc57 0 500 rfl v57_109_32)) i66 ((inv_F hIc57 0 1000 rfl v57_109_27)) i59 j57_3 j57_2 j57_1 i124 ((in_c 0 rfl)) i138 i115 i70a; have oc := oc_304_109; omega
                  have n57c : ((Int32.ofInt 0)).toInt = 0 → (z118a).toInt = 0 → 3 * (w57_109_32).toInt + 3 ≤ (z70a).toInt := by first | exact fun _ h => absurd h (Int.ne_of_gt n118) | (have a0 := oa14 ro_109_22 ro_109_9 ((inv_F hIc57 0 500 rfl v57_109_32)) i66 ((inv_F hIc57 0 1000 rfl v57_109_27)) i59 j57_3 j57_2 j57_1 i124 ((in_c 0 rfl)) i138 i115 i70a; have oc := oc_304_109; omega)
                  have n57d : ((Int32.ofInt 0)).toInt ≠ 0 → 0 ≤ (y57_3).toInt := by exact fun h => absurd rfl h
                  have n57e : (u_109_27).toInt + (y57_3).toInt ≤ (z70a).toInt := by have a0 := oa14 ro_109_22 ro_109_9 ((inv_F hIc57 0 500 rfl v57_109_32)) i66 ((inv_F hIc57 0 1000 rfl v57_109_27)) i59 j57_3 j57_2 j57_1 i124 ((in_c 0 rfl)) i138 i115 i70a; have oc := oc_304_109; omega
                  have n57f : ((Int32.ofInt 0)).toInt = 0 → (z118a).toInt = 0 → (u_109_27).toInt + 1 ≤ (z70a).toInt := by first | exact fun _ h => absurd h (Int.ne_of_gt n118) | (have a0 := oa14 ro_109_22 ro_109_9 ((inv_F hIc57 0 500 rfl v57_109_32)) i66 ((inv_F hIc57 0 1000 rfl v57_109_27)) i59 j57_3 j57_2 j57_1 i124 ((in_c 0 rfl)) i138 i115 i70a; have oc := oc_304_109; omega)
                  have n57g : (s118.2.2.1 109 23).toInt = 0 → LDQ s118 (s118.2.2.1 109 32).toNatClampNeg := by (intro hf; exfalso; have hg : (s118.2.2.1 109 23).toInt = 0 := hf; rw [← e118] at hg; have hn := n118; omega)
                  have n57h : (s118.2.2.1 109 23).toInt = 0 → ((y57_2).toInt = 110 → 1 ≤ (y57_3).toInt → nq (s118.1 128 (5 * (s118.2.2.1 109 32).toNatClampNeg)) 0 25) ∧ ((y57_2).toInt = 97 → 5 ≤ (y57_3).toInt → nq (s118.1 128 (5 * (s118.2.2.1 109 32).toNatClampNeg + 4)) 0 25) := by (intro hf; exfalso; have hg : (s118.2.2.1 109 23).toInt = 0 := hf; rw [← e118] at hg; have hn := n118; omega)
                  have n57i : ((Int32.ofInt 0)).toInt = 0 → (s118.2.2.1 109 23).toInt = 0 → ((y57_2).toInt = 110 → 1 ≤ (y57_3).toInt) ∧ ((y57_2).toInt = 97 → 5 ≤ (y57_3).toInt) := by (intro _ hf; exfalso; have hg : (s118.2.2.1 109 23).toInt = 0 := hf; rw [← e118] at hg; have hn := n118; omega)
                  have n57j : C4 (y57_2).toInt ∧ (y57_2) = s.2.2.1 109 30 ∧ (s.2.2.1 109 28).toInt = 1 ∧ (y57_1) = s.2.2.1 109 29 := by exact g57_3
                  have n57k : s118.1 110 = s.1 110 ∧ s118.1 112 = s.1 112 ∧ s118.1 127 = s.1 127 ∧ (∀ j, j < 5 * (s.2.2.1 109 32).toNatClampNeg → s118.1 128 j = s.1 128 j) ∧ s118.2.2.1 109 32 = s.2.2.1 109 32 := by have h9 := (show _ from ⟨(hF70.1 110 rfl).trans g57_4.1, (hF70.1 112 rfl).trans g57_4.2.1, (hF70.1 127 rfl).trans g57_4.2.2.1, fun j hj => by rw [hF70.1 128 rfl]; exact g57_4.2.2.2.1 j hj, (hF70.2.2.1 109 32 rfl).trans g57_4.2.2.2.2⟩ : s70.1 110 = s.1 110 ∧ s70.1 112 = s.1 112 ∧ s70.1 127 = s.1 127 ∧ (∀ j, j < 5 * (s.2.2.1 109 32).toNatClampNeg → s70.1 128 j = s.1 128 j) ∧ s70.2.2.1 109 32 = s.2.2.1 109 32); exact ⟨(hF118.1 110 rfl).trans h9.1, (hF118.1 112 rfl).trans h9.2.1, (hF118.1 127 rfl).trans h9.2.2.1, fun j hj => by rw [hF118.1 128 rfl]; exact h9.2.2.2.1 j hj, (hF118.2.2.1 109 32 rfl).trans h9.2.2.2.2⟩
                  have n57l : HQ5 s s118 ((y57_2).toInt - 97) (y57_3) ((Int32.ofInt 0)) (z70a).toInt.toNat := by intro hf; exfalso; rw [← e118] at hf; have hn := n118; omega
                  have n57m : HQ6 s s118 ((y57_2).toInt - 97) ((Int32.ofInt 0)) (z70a).toInt.toNat := by intro hf; exfalso; rw [← e118] at hf; have hn := n118; omega
                  have n57n : HQ7 s s118 ((y57_2).toInt - 97) := by intro _; (try clear hp76); obtain ⟨k, v, ht, hn⟩ := p70; rw [show sc57.1 125 = s.1 125 from hFc57.1 125 rfl, show sc57.2.2.1 109 22 = s.2.2.1 109 22 from hFc57.2.2.1 109 22 rfl, ← v57_109_27] at ht; have hf := ntk_f hn (by rw [← v57_109_23]; exact c66); have hk0 := (tkn_e ht).2.2.2.2.1; have hk5 := (tkn_e ht).2.2.2.2.2; have hc9 : cmI (y57_2.toInt - 97) := c4_i g57_3.1; have h5 := g57_5 (by rw [← v57_109_23]; exact c66) c59; have hw := p76a hc9 h5.1; have hv := hf.2 (by rw [← e82]; exact c85); clear hf; have htk := ntv_t hv hk0 hk5; rw [← e70a] at htk; have hb := p118.1 (by rw [← e82]; exact c85); refine ⟨by rw [hb.2]; have a0 := oa14 ro_109_22 ro_109_9 ((inv_F hIc57 0 500 rfl v57_109_32)) i66 ((inv_F hIc57 0 1000 rfl v57_109_27)) i59 j57_3 j57_2 j57_1 i124 ((in_c 0 rfl)) i138 i115 i70a; have oc := oc_304_109; omega, fun a ha => ?_⟩; rw [hb.1, hb.2]; have hk2 : cmF k = 2 := (by unfold cmF; rw [if_neg hv.2.2.2.2.1, if_neg hv.2.2.2.2.2]); rw [show (Int32.ofInt 2).toInt = cmF k from (by rw [hk2]; rfl), e115]; refine cs_bad hc9 ha (by have h7 := h5.1; omega) (h5.2 a ha) ht ?_; rw [← hw, ← htk]; first | (exact c94) | (intro _; have q9 := (hv.2.2.2.1 ((htk.symm.trans c94).trans (in_at i100))).2; rw [← e70b] at q9; exact absurd q9 c109)
                  have m57 : 100 - 10 * (y57_3).toInt + 5 * ((Int32.ofInt 0)).toInt + 9 - (z118a).toInt < ((k57 : Nat) : Int) := by have a0 := oa14 ro_109_22 ro_109_9 ((inv_F hIc57 0 500 rfl v57_109_32)) i66 ((inv_F hIc57 0 1000 rfl v57_109_27)) i59 j57_3 j57_2 j57_1 i124 ((in_c 0 rfl)) i138 i115 i70a; have oc := oc_304_109; omega
                  exact gg_w (by first | exact Nat.le_add_right _ _ | exact gw2 | exact gw3 | exact gwe rfl | exact gwf rfl | exact gwg rfl | exact gwh rfl | omega) (gg_f (gf_cons rfl (gf_cons rfl (gf_cons rfl (gf_cons rfl (gf_cons rfl gf_nil))))) (ih57  s118 y57_1 y57_2 y57_3 (Int32.ofInt 0) z70a z118a w57_109_32 hI118 (fr_tr rfl (fr_tr rfl hFc57 hF70) hF118) (in_w 0 1000 j57_1 rfl) (in_w 97 119 j57_2 rfl) (in_w 0 5 j57_3 rfl) (in_w 0 1 (in_c 0 rfl) rfl) v57 e118 v57a n57 n57a n57b n57c n57d n57e n57f n57g n57h n57i n57j n57k n57l n57m n57n m57))
                · skip
                  have i138 := z_eq 0 0 c138 i118a rfl
                  refine g_iload 143 (gd rfl) rfl rfl ?_
                  refine g_if_eq 146 183 (gd rfl) rfl rfl (fun c143 => ?_) (fun c143 => ?_)
                  · skip
                    refine g_goto 57 (gd rfl) rfl ?_
                    have v57 : z70a = s118.2.2.1 109 27 := fr_F (e70) hF118 rfl
                    have v57a : w57_109_32 = s118.2.2.1 109 32 := fr_F (fr_F (v57_109_32) hF70 rfl) hF118 rfl
                    have n57 : (z70a).toInt ≤ (u_109_22).toInt := by have a0 := oa14 ro_109_22 ro_109_9 ((inv_F hIc57 0 500 rfl v57_109_32)) i66 ((inv_F hIc57 0 1000 rfl v57_109_27)) i59 j57_3 j57_2 j57_1 i124 ((in_c 0 rfl)) i138 i115 i70a; have oc := oc_304_109; omega
                    have n57a : (u_109_27).toInt ≤ (z70a).toInt := by have a0 := oa14 ro_109_22 ro_109_9 ((inv_F hIc57 0 500 rfl v57_109_32)) i66 ((inv_F hIc57 0 1000 rfl v57_109_27)) i59 j57_3 j57_2 j57_1 i124 ((in_c 0 rfl)) i138 i115 i70a; have oc := oc_304_109; omega
                    have n57b : 3 * (w57_109_32).toInt + 1 + (y57_3).toInt ≤ (z70a).toInt := by have a0 := oa14 ro_109_22 ro_109_9 ((inv_F hIc57 0 500 rfl v57_109_32)) i66 ((inv_F hIc57 0 1000 rfl v57_109_27)) i59 j57_3 j57_2 j57_1 i124 ((in_c 0 rfl)) i138 i115 i70a; have oc := oc_304_109; omega
                    have n57c : ((Int32.ofInt 0)).toInt = 0 → (z118a).toInt = 0 → 3 * (w57_109_32).toInt + 3 ≤ (z70a).toInt := by first | exact fun _ h => absurd h (Int.ne_of_gt n118) | (have a0 := oa14 ro_109_22 ro_109_9 ((inv_F hIc57 0 500 rfl v57_109_32)) i66 ((inv_F hIc57 0 1000 rfl v57_109_27)) i59 j57_3 j57_2 j57_1 i124 ((in_c 0 rfl)) i138 i115 i70a; have oc := oc_304_109; omega)
                    have n57d : ((Int32.ofInt 0)).toInt ≠ 0 → 0 ≤ (y57_3).toInt := by exact fun h => absurd rfl h
                    have n57e : (u_109_27).toInt + (y57_3).toInt ≤ (z70a).toInt := by have a0 := oa14 ro_109_22 ro_109_9 ((inv_F hIc57 0 500 rfl v57_109_32)) i66 ((inv_F hIc57 0 1000 rfl v57_109_27)) i59 j57_3 j57_2 j57_1 i124 ((in_c 0 rfl)) i138 i115 i70a; have oc := oc_304_109; omega
                    have n57f : ((Int32.ofInt 0)).toInt = 0 → (z118a).toInt = 0 → (u_109_27).toInt + 1 ≤ (z70a).toInt := by first | exact fun _ h => absurd h (Int.ne_of_gt n118) | (have a0 := oa14 ro_109_22 ro_109_9 ((inv_F hIc57 0 500 rfl v57_109_32)) i66 ((inv_F hIc57 0 1000 rfl v57_109_27)) i59 j57_3 j57_2 j57_1 i124 ((in_c 0 rfl)) i138 i115 i70a; have oc := oc_304_109; omega)
                    have n57g : (s118.2.2.1 109 23).toInt = 0 → LDQ s118 (s118.2.2.1 109 32).toNatClampNeg := by (intro hf; exfalso; have hg : (s118.2.2.1 109 23).toInt = 0 := hf; rw [← e118] at hg; have hn := n118; omega)
                    have n57h : (s118.2.2.1 109 23).toInt = 0 → ((y57_2).toInt = 110 → 1 ≤ (y57_3).toInt → nq (s118.1 128 (5 * (s118.2.2.1 109 32).toNatClampNeg)) 0 25) ∧ ((y57_2).toInt = 97 → 5 ≤ (y57_3).toInt → nq (s118.1 128 (5 * (s118.2.2.1 109 32).toNatClampNeg + 4)) 0 25) := by (intro hf; exfalso; have hg : (s118.2.2.1 109 23).toInt = 0 := hf; rw [← e118] at hg; have hn := n118; omega)
                    have n57i : ((Int32.ofInt 0)).toInt = 0 → (s118.2.2.1 109 23).toInt = 0 → ((y57_2).toInt = 110 → 1 ≤ (y57_3).toInt) ∧ ((y57_2).toInt = 97 → 5 ≤ (y57_3).toInt) := by (intro _ hf; exfalso; have hg : (s118.2.2.1 109 23).toInt = 0 := hf; rw [← e118] at hg; have hn := n118; omega)
                    have n57j : C4 (y57_2).toInt ∧ (y57_2) = s.2.2.1 109 30 ∧ (s.2.2.1 109 28).toInt = 1 ∧ (y57_1) = s.2.2.1 109 29 := by exact g57_3
                    have n57k : s118.1 110 = s.1 110 ∧ s118.1 112 = s.1 112 ∧ s118.1 127 = s.1 127 ∧ (∀ j, j < 5 * (s.2.2.1 109 32).toNatClampNeg → s118.1 128 j = s.1 128 j) ∧ s118.2.2.1 109 32 = s.2.2.1 109 32 := by have h9 := (show _ from ⟨(hF70.1 110 rfl).trans g57_4.1, (hF70.1 112 rfl).trans g57_4.2.1, (hF70.1 127 rfl).trans g57_4.2.2.1, fun j hj => by rw [hF70.1 128 rfl]; exact g57_4.2.2.2.1 j hj, (hF70.2.2.1 109 32 rfl).trans g57_4.2.2.2.2⟩ : s70.1 110 = s.1 110 ∧ s70.1 112 = s.1 112 ∧ s70.1 127 = s.1 127 ∧ (∀ j, j < 5 * (s.2.2.1 109 32).toNatClampNeg → s70.1 128 j = s.1 128 j) ∧ s70.2.2.1 109 32 = s.2.2.1 109 32); exact ⟨(hF118.1 110 rfl).trans h9.1, (hF118.1 112 rfl).trans h9.2.1, (hF118.1 127 rfl).trans h9.2.2.1, fun j hj => by rw [hF118.1 128 rfl]; exact h9.2.2.2.1 j hj, (hF118.2.2.1 109 32 rfl).trans h9.2.2.2.2⟩
                    have n57l : HQ5 s s118 ((y57_2).toInt - 97) (y57_3) ((Int32.ofInt 0)) (z70a).toInt.toNat := by intro hf; exfalso; rw [← e118] at hf; have hn := n118; omega
                    have n57m : HQ6 s s118 ((y57_2).toInt - 97) ((Int32.ofInt 0)) (z70a).toInt.toNat := by intro hf; exfalso; rw [← e118] at hf; have hn := n118; omega
                    have n57n : HQ7 s s118 ((y57_2).toInt - 97) := by intro _; (try clear hp76); obtain ⟨k, v, ht, hn⟩ := p70; rw [show sc57.1 125 = s.1 125 from hFc57.1 125 rfl, show sc57.2.2.1 109 22 = s.2.2.1 109 22 from hFc57.2.2.1 109 22 rfl, ← v57_109_27] at ht; have hf := ntk_f hn (by rw [← v57_109_23]; exact c66); have hk0 := (tkn_e ht).2.2.2.2.1; have hk5 := (tkn_e ht).2.2.2.2.2; have hc9 : cmI (y57_2.toInt - 97) := c4_i g57_3.1; have h5 := g57_5 (by rw [← v57_109_23]; exact c66) c59; have hw := p76a hc9 h5.1; have hv := hf.2 (by rw [← e82]; exact c85); clear hf; have htk := ntv_t hv hk0 hk5; rw [← e70a] at htk; have hb := p118.1 (by rw [← e82]; exact c85); refine ⟨by rw [hb.2]; have a0 := oa14 ro_109_22 ro_109_9 ((inv_F hIc57 0 500 rfl v57_109_32)) i66 ((inv_F hIc57 0 1000 rfl v57_109_27)) i59 j57_3 j57_2 j57_1 i124 ((in_c 0 rfl)) i138 i115 i70a; have oc := oc_304_109; omega, fun a ha => ?_⟩; rw [hb.1, hb.2]; have hk2 : cmF k = 2 := (by unfold cmF; rw [if_neg hv.2.2.2.2.1, if_neg hv.2.2.2.2.2]); rw [show (Int32.ofInt 2).toInt = cmF k from (by rw [hk2]; rfl), e115]; refine cs_bad hc9 ha (by have h7 := h5.1; omega) (h5.2 a ha) ht ?_; rw [← hw, ← htk]; first | (exact c94) | (intro _; have q9 := (hv.2.2.2.1 ((htk.symm.trans c94).trans (in_at i100))).2; rw [← e70b] at q9; exact absurd q9 c109)
                    have m57 : 100 - 10 * (y57_3).toInt + 5 * ((Int32.ofInt 0)).toInt + 9 - (z118a).toInt < ((k57 : Nat) : Int) := by have a0 := oa14 ro_109_22 ro_109_9 ((inv_F hIc57 0 500 rfl v57_109_32)) i66 ((inv_F hIc57 0 1000 rfl v57_109_27)) i59 j57_3 j57_2 j57_1 i124 ((in_c 0 rfl)) i138 i115 i70a; have oc := oc_304_109; omega
                    exact gg_w (by first | exact Nat.le_add_right _ _ | exact gw2 | exact gw3 | exact gwe rfl | exact gwf rfl | exact gwg rfl | exact gwh rfl | omega) (gg_f (gf_cons rfl (gf_cons rfl (gf_cons rfl (gf_cons rfl (gf_cons rfl gf_nil))))) (ih57  s118 y57_1 y57_2 y57_3 (Int32.ofInt 0) z70a z118a w57_109_32 hI118 (fr_tr rfl (fr_tr rfl hFc57 hF70) hF118) (in_w 0 1000 j57_1 rfl) (in_w 97 119 j57_2 rfl) (in_w 0 5 j57_3 rfl) (in_w 0 1 (in_c 0 rfl) rfl) v57 e118 v57a n57 n57a n57b n57c n57d n57e n57f n57g n57h n57i n57j n57k n57l n57m n57n m57))
                  · skip
                    exact zn_ne c143 (in_c 0 rfl) rfl
              · skip
                have i124 := r_ne1 1 2 c124 i76 (in_c 3 rfl) rfl
                refine g_iconst 1 128 (gd rfl) rfl rfl ?_
                refine g_goto 132 (gd rfl) rfl ?_
                refine g_istore 134 (gd rfl) rfl (Nat.le_of_ble_eq_true rfl) ?_
                refine g_aload_n 135 (gd rfl) rfl rfl ?_
                refine g_getI 138 (gd rfl) rfl rfl rfl (fun z135 e135 => ?_)
                have q135 : z118a = z135 := (e118).trans e135.symm
                subst q135
                refine g_if_ne 141 183 (gd rfl) rfl rfl (fun c138 => ?_) (fun c138 => ?_)
                · skip
                  have i138 := z_ne 1 9 c138 i118a rfl
                  refine g_goto 57 (gd rfl) rfl ?_
                  have v57 : z70a = s118.2.2.1 109 27 := fr_F (e70) hF118 rfl
                  have v57a : w57_109_32 = s118.2.2.1 109 32 := fr_F (fr_F (v57_109_32) hF70 rfl) hF118 rfl
                  have n57 : (z70a).toInt ≤ (u_109_22).toInt := by have a0 := oa14 ro_109_22 ro_109_9 ((inv_F hIc57 0 500 rfl v57_109_32)) i66 ((inv_F hIc57 0 1000 rfl v57_109_27)) i59 j57_3 j57_2 j57_1 i124 ((in_c 1 rfl)) i138 i115 i70a; have oc := oc_304_109; omega
                  have n57a : (u_109_27).toInt ≤ (z70a).toInt := by have a0 := oa14 ro_109_22 ro_109_9 ((inv_F hIc57 0 500 rfl v57_109_32)) i66 ((inv_F hIc57 0 1000 rfl v57_109_27)) i59 j57_3 j57_2 j57_1 i124 ((in_c 1 rfl)) i138 i115 i70a; have oc := oc_304_109; omega
                  have n57b : 3 * (w57_109_32).toInt + 1 + (y57_3).toInt ≤ (z70a).toInt := by have a0 := oa14 ro_109_22 ro_109_9 ((inv_F hIc57 0 500 rfl v57_109_32)) i66 ((inv_F hIc57 0 1000 rfl v57_109_27)) i59 j57_3 j57_2 j57_1 i124 ((in_c 1 rfl)) i138 i115 i70a; have oc := oc_304_109; omega
                  have n57c : ((Int32.ofInt 1)).toInt = 0 → (z118a).toInt = 0 → 3 * (w57_109_32).toInt + 3 ≤ (z70a).toInt := by exact fun h => absurd h (by decide)
                  have n57d : ((Int32.ofInt 1)).toInt ≠ 0 → 0 ≤ (y57_3).toInt := by have a0 := oa14 ro_109_22 ro_109_9 ((inv_F hIc57 0 500 rfl v57_109_32)) i66 ((inv_F hIc57 0 1000 rfl v57_109_27)) i59 j57_3 j57_2 j57_1 i124 ((in_c 1 rfl)) i138 i115 i70a; have oc := oc_304_109; omega
                  have n57e : (u_109_27).toInt + (y57_3).toInt ≤ (z70a).toInt := by have a0 := oa14 ro_109_22 ro_109_9 ((inv_F hIc57 0 500 rfl v57_109_32)) i66 ((inv_F hIc57 0 1000 rfl v57_109_27)) i59 j57_3 j57_2 j57_1 i124 ((in_c 1 rfl)) i138 i115 i70a; have oc := oc_304_109; omega
                  have n57f : ((Int32.ofInt 1)).toInt = 0 → (z118a).toInt = 0 → (u_109_27).toInt + 1 ≤ (z70a).toInt := by exact fun h => absurd h (by decide)
                  have n57g : (s118.2.2.1 109 23).toInt = 0 → LDQ s118 (s118.2.2.1 109 32).toNatClampNeg := by (intro hf; exfalso; have hg : (s118.2.2.1 109 23).toInt = 0 := hf; rw [← e118] at hg; have hn := n118; omega)
                  have n57h : (s118.2.2.1 109 23).toInt = 0 → ((y57_2).toInt = 110 → 1 ≤ (y57_3).toInt → nq (s118.1 128 (5 * (s118.2.2.1 109 32).toNatClampNeg)) 0 25) ∧ ((y57_2).toInt = 97 → 5 ≤ (y57_3).toInt → nq (s118.1 128 (5 * (s118.2.2.1 109 32).toNatClampNeg + 4)) 0 25) := by (intro hf; exfalso; have hg : (s118.2.2.1 109 23).toInt = 0 := hf; rw [← e118] at hg; have hn := n118; omega)
                  have n57i : ((Int32.ofInt 1)).toInt = 0 → (s118.2.2.1 109 23).toInt = 0 → ((y57_2).toInt = 110 → 1 ≤ (y57_3).toInt) ∧ ((y57_2).toInt = 97 → 5 ≤ (y57_3).toInt) := by exact fun h => absurd h (by decide)
                  have n57j : C4 (y57_2).toInt ∧ (y57_2) = s.2.2.1 109 30 ∧ (s.2.2.1 109 28).toInt = 1 ∧ (y57_1) = s.2.2.1 109 29 := by exact g57_3
                  have n57k : s118.1 110 = s.1 110 ∧ s118.1 112 = s.1 112 ∧ s118.1 127 = s.1 127 ∧ (∀ j, j < 5 * (s.2.2.1 109 32).toNatClampNeg → s118.1 128 j = s.1 128 j) ∧ s118.2.2.1 109 32 = s.2.2.1 109 32 := by have h9 := (show _ from ⟨(hF70.1 110 rfl).trans g57_4.1, (hF70.1 112 rfl).trans g57_4.2.1, (hF70.1 127 rfl).trans g57_4.2.2.1, fun j hj => by rw [hF70.1 128 rfl]; exact g57_4.2.2.2.1 j hj, (hF70.2.2.1 109 32 rfl).trans g57_4.2.2.2.2⟩ : s70.1 110 = s.1 110 ∧ s70.1 112 = s.1 112 ∧ s70.1 127 = s.1 127 ∧ (∀ j, j < 5 * (s.2.2.1 109 32).toNatClampNeg → s70.1 128 j = s.1 128 j) ∧ s70.2.2.1 109 32 = s.2.2.1 109 32); exact ⟨(hF118.1 110 rfl).trans h9.1, (hF118.1 112 rfl).trans h9.2.1, (hF118.1 127 rfl).trans h9.2.2.1, fun j hj => by rw [hF118.1 128 rfl]; exact h9.2.2.2.1 j hj, (hF118.2.2.1 109 32 rfl).trans h9.2.2.2.2⟩
                  have n57l : HQ5 s s118 ((y57_2).toInt - 97) (y57_3) ((Int32.ofInt 1)) (z70a).toInt.toNat := by intro hf; exfalso; rw [← e118] at hf; have hn := n118; omega
                  have n57m : HQ6 s s118 ((y57_2).toInt - 97) ((Int32.ofInt 1)) (z70a).toInt.toNat := by intro hf; exfalso; rw [← e118] at hf; have hn := n118; omega
                  have n57n : HQ7 s s118 ((y57_2).toInt - 97) := by intro _; (try clear hp76); obtain ⟨k, v, ht, hn⟩ := p70; rw [show sc57.1 125 = s.1 125 from hFc57.1 125 rfl, show sc57.2.2.1 109 22 = s.2.2.1 109 22 from hFc57.2.2.1 109 22 rfl, ← v57_109_27] at ht; have hf := ntk_f hn (by rw [← v57_109_23]; exact c66); have hk0 := (tkn_e ht).2.2.2.2.1; have hk5 := (tkn_e ht).2.2.2.2.2; have hc9 : cmI (y57_2.toInt - 97) := c4_i g57_3.1; have h5 := g57_5 (by rw [← v57_109_23]; exact c66) c59; have hw := p76a hc9 h5.1; have hv := hf.2 (by rw [← e82]; exact c85); clear hf; have htk := ntv_t hv hk0 hk5; rw [← e70a] at htk; have hb := p118.1 (by rw [← e82]; exact c85); refine ⟨by rw [hb.2]; have a0 := oa14 ro_109_22 ro_109_9 ((inv_F hIc57 0 500 rfl v57_109_32)) i66 ((inv_F hIc57 0 1000 rfl v57_109_27)) i59 j57_3 j57_2 j57_1 i124 ((in_c 1 rfl)) i138 i115 i70a; have oc := oc_304_109; omega, fun a ha => ?_⟩; rw [hb.1, hb.2]; have hk2 : cmF k = 2 := (by unfold cmF; rw [if_neg hv.2.2.2.2.1, if_neg hv.2.2.2.2.2]); rw [show (Int32.ofInt 2).toInt = cmF k from (by rw [hk2]; rfl), e115]; refine cs_bad hc9 ha (by have h7 := h5.1; omega) (h5.2 a ha) ht ?_; rw [← hw, ← htk]; first | (exact c94) | (intro _; have q9 := (hv.2.2.2.1 ((htk.symm.trans c94).trans (in_at i100))).2; rw [← e70b] at q9; exact absurd q9 c109)
                  have m57 : 100 - 10 * (y57_3).toInt + 5 * ((Int32.ofInt 1)).toInt + 9 - (z118a).toInt < ((k57 : Nat) : Int) := by have a0 := oa14 ro_109_22 ro_109_9 ((inv_F hIc57 0 500 rfl v57_109_32)) i66 ((inv_F hIc57 0 1000 rfl v57_109_27)) i59 j57_3 j57_2 j57_1 i124 ((in_c 1 rfl)) i138 i115 i70a; have oc := oc_304_109; omega
                  exact gg_w (by first | exact Nat.le_add_right _ _ | exact gw2 | exact gw3 | exact gwe rfl | exact gwf rfl | exact gwg rfl | exact gwh rfl | omega) (gg_f (gf_cons rfl (gf_cons rfl (gf_cons rfl (gf_cons rfl (gf_cons rfl gf_nil))))) (ih57  s118 y57_1 y57_2 y57_3 (Int32.ofInt 1) z70a z118a w57_109_32 hI118 (fr_tr rfl (fr_tr rfl hFc57 hF70) hF118) (in_w 0 1000 j57_1 rfl) (in_w 97 119 j57_2 rfl) (in_w 0 5 j57_3 rfl) (in_w 0 1 (in_c 1 rfl) rfl) v57 e118 v57a n57 n57a n57b n57c n57d n57e n57f n57g n57h n57i n57j n57k n57l n57m n57n m57))
                · skip
                  have i138 := z_eq 0 0 c138 i118a rfl
                  refine g_iload 143 (gd rfl) rfl rfl ?_
                  refine g_if_eq 146 183 (gd rfl) rfl rfl (fun c143 => ?_) (fun c143 => ?_)
                  · skip
                    exact zn_eq c143 (in_c 1 rfl) rfl
                  · skip
                    refine g_aload_n 147 (gd rfl) rfl rfl ?_
                    refine g_getA (q2 := 128) 150 (gd rfl) rfl rfl rfl rfl ?_
                    refine g_iconst 5 151 (gd rfl) rfl rfl ?_
                    refine g_aload_n 152 (gd rfl) rfl rfl ?_
                    refine g_getI 155 (gd rfl) rfl rfl rfl (fun z152 e152 => ?_)
                    have q152 : w57_109_32 = z152 := (fr_F (fr_F (v57_109_32) hF70 rfl) hF118 rfl).trans e152.symm
                    subst q152
                    refine g_imul 156 (gd rfl) rfl (fun z155 e155 => ?_)
                    have i155 := in_mulc 5 0 2500 (Or.inl e155) (inv_F hIc57 0 500 rfl v57_109_32) rfl rfl
                    refine g_iload_n 157 (gd rfl) rfl rfl ?_
                    refine g_iadd 158 (gd rfl) rfl (fun z157 e157 => ?_)
                    have i157 := in_add 0 2505 e157 i155 j57_3 rfl rfl
                    refine g_iload 160 (gd rfl) rfl rfl ?_
                    refine g_iconst 1 161 (gd rfl) rfl rfl ?_
                    refine g_cmp_ne 164 174 (gd rfl) rfl rfl (fun c161 => ?_) (fun c161 => ?_)
                    · skip
                      have i161 := r_ne1 2 2 c161 i124 (in_c 1 rfl) rfl
                      refine g_aload_n 175 (gd rfl) rfl rfl ?_
                      refine g_getL 178 (gd rfl) rfl rfl rfl (fun z175 e175 => ?_)
                      refine g_l2i 179 (gd rfl) rfl (fun z178 e178 => ?_)
                      have i179 : In z157 0 2499 := by have a0 := oa15 ro_109_22 ro_109_9 ((inv_F hIc57 0 500 rfl v57_109_32)) i66 ((inv_F hIc57 0 1000 rfl v57_109_27)) i59 j57_3 j57_2 j57_1 i161 ((in_c 1 rfl)) i138 i115 i70a i157; have a15 := t_add e157 i155 j57_3 rfl; have a16 := in_u i155; have a17 := (t_mulc 5 (Or.inl e155) (inv_F hIc57 0 500 rfl v57_109_32) rfl).1; have oc := oc_304_109; exact ⟨by omega, by omega⟩
                      refine g_iastore 180 (gd rfl) rfl (n := 2500) rfl (in_ix i179 rfl) ?_
                      have hI179 := inv_sI (q := 128) (j := z157.toNatClampNeg) hI118 rfl (in_w (-2147483648) 2147483647 (i_rng z178) rfl)
                      refine g_iinc 183 (gd rfl) rfl rfl (Nat.le_of_ble_eq_true rfl) (fun z180 e180 => ?_)
                      have i180 := in_add 1 6 e180 j57_3 (in_c 1 rfl) rfl rfl
                      refine g_goto 57 (gd rfl) rfl ?_
                      have i57 : In z180 0 5 := by exact ⟨by have a0 := oa12 ro_109_22 ro_109_9 ((inv_F hIc57 0 500 rfl v57_109_32)) i66 ((inv_F hIc57 0 1000 rfl v57_109_27)) i59 j57_3 j57_2 j57_1 i161 ((in_c 1 rfl)) i180; have a12 := t_add e180 j57_3 (in_c 1 rfl) rfl; have a13 := oa4 i138 i115 i70a i179; have a17 := t_add e157 i155 j57_3 rfl; have a18 := in_u i155; have a19 := (t_mulc 5 (Or.inl e155) (inv_F hIc57 0 500 rfl v57_109_32) rfl).1; have oc := oc_304_109; omega, by have a0 := oa12 ro_109_22 ro_109_9 ((inv_F hIc57 0 500 rfl v57_109_32)) i66 ((inv_F hIc57 0 1000 rfl v57_109_27)) i59 j57_3 j57_2 j57_1 i161 ((in_c 1 rfl)) i180; have a12 := t_add e180 j57_3 (in_c 1 rfl) rfl; have a13 := oa4 i138 i115 i70a i179; have a17 := t_add e157 i155 j57_3 rfl; have a18 := in_u i155; have a19 := (t_mulc 5 (Or.inl e155) (inv_F hIc57 0 500 rfl v57_109_32) rfl).1; have oc := oc_304_109; omega⟩
                      have v57 : z70a = (sI s118 128 z157.toNatClampNeg z178).2.2.1 109 27 := sI_F (fr_F (e70) hF118 rfl)
                      have v57a : z118a = (sI s118 128 z157.toNatClampNeg z178).2.2.1 109 23 := sI_F (e118)
                      have v57b : w57_109_32 = (sI s118 128 z157.toNatClampNeg z178).2.2.1 109 32 := sI_F (fr_F (fr_F (v57_109_32) hF70 rfl) hF118 rfl)
                      have n57 : (z70a).toInt ≤ (u_109_22).toInt := by have a0 := oa12 ro_109_22 ro_109_9 ((inv_F hIc57 0 500 rfl v57_109_32)) i66 ((inv_F hIc57 0 1000 rfl v57_109_27)) i59 j57_3 j57_2 j57_1 i161 ((in_c 1 rfl)) i57; have a12 := t_add e180 j57_3 (in_c 1 rfl) rfl; have a13 := oa4 i138 i115 i70a i179; have a17 := t_add e157 i155 j57_3 rfl; have a18 := in_u i155; have a19 := (t_mulc 5 (Or.inl e155) (inv_F hIc57 0 500 rfl v57_109_32) rfl).1; have oc := oc_304_109; omega
                      have n57a : (u_109_27).toInt ≤ (z70a).toInt := by have a0 := oa12 ro_109_22 ro_109_9 ((inv_F hIc57 0 500 rfl v57_109_32)) i66 ((inv_F hIc57 0 1000 rfl v57_109_27)) i59 j57_3 j57_2 j57_1 i161 ((in_c 1 rfl)) i57; have a12 := t_add e180 j57_3 (in_c 1 rfl) rfl; have a13 := oa4 i138 i115 i70a i179; have a17 := t_add e157 i155 j57_3 rfl; have a18 := in_u i155; have a19 := (t_mulc 5 (Or.inl e155) (inv_F hIc57 0 500 rfl v57_109_32) rfl).1; have oc := oc_304_109; omega
                      have n57b : 3 * (w57_109_32).toInt + 1 + (z180).toInt ≤ (z70a).toInt := by have a0 := oa12 ro_109_22 ro_109_9 ((inv_F hIc57 0 500 rfl v57_109_32)) i66 ((inv_F hIc57 0 1000 rfl v57_109_27)) i59 j57_3 j57_2 j57_1 i161 ((in_c 1 rfl)) i57; have a12 := t_add e180 j57_3 (in_c 1 rfl) rfl; have a13 := oa4 i138 i115 i70a i179; have a17 := t_add e157 i155 j57_3 rfl; have a18 := in_u i155; have a19 := (t_mulc 5 (Or.inl e155) (inv_F hIc57 0 500 rfl v57_109_32) rfl).1; have oc := oc_304_109; omega
                      have n57c : ((Int32.ofInt 1)).toInt = 0 → (z118a).toInt = 0 → 3 * (w57_109_32).toInt + 3 ≤ (z70a).toInt := by exact fun h => absurd h (by decide)
                      have n57d : ((Int32.ofInt 1)).toInt ≠ 0 → 0 ≤ (z180).toInt := by have a0 := oa12 ro_109_22 ro_109_9 ((inv_F hIc57 0 500 rfl v57_109_32)) i66 ((inv_F hIc57 0 1000 rfl v57_109_27)) i59 j57_3 j57_2 j57_1 i161 ((in_c 1 rfl)) i57; have a12 := t_add e180 j57_3 (in_c 1 rfl) rfl; have a13 := oa4 i138 i115 i70a i179; have a17 := t_add e157 i155 j57_3 rfl; have a18 := in_u i155; have a19 := (t_mulc 5 (Or.inl e155) (inv_F hIc57 0 500 rfl v57_109_32) rfl).1; have oc := oc_304_109; omega
                      have n57e : (u_109_27).toInt + (z180).toInt ≤ (z70a).toInt := by have a0 := oa12 ro_109_22 ro_109_9 ((inv_F hIc57 0 500 rfl v57_109_32)) i66 ((inv_F hIc57 0 1000 rfl v57_109_27)) i59 j57_3 j57_2 j57_1 i161 ((in_c 1 rfl)) i57; have a12 := t_add e180 j57_3 (in_c 1 rfl) rfl; have a13 := oa4 i138 i115 i70a i179; have a17 := t_add e157 i155 j57_3 rfl; have a18 := in_u i155; have a19 := (t_mulc 5 (Or.inl e155) (inv_F hIc57 0 500 rfl v57_109_32) rfl).1; have oc := oc_304_109; omega
                      have n57f : ((Int32.ofInt 1)).toInt = 0 → (z118a).toInt = 0 → (u_109_27).toInt + 1 ≤ (z70a).toInt := by exact fun h => absurd h (by decide)
                      have n57g : ((sI s118 128 z157.toNatClampNeg z178).2.2.1 109 23).toInt = 0 → LDQ (sI s118 128 z157.toNatClampNeg z178) ((sI s118 128 z157.toNatClampNeg z178).2.2.1 109 32).toNatClampNeg := by (intro hf; exfalso; have hg : (s118.2.2.1 109 23).toInt = 0 := hf; rw [← e118] at hg; have hn := n118; omega)
                      have n57h : ((sI s118 128 z157.toNatClampNeg z178).2.2.1 109 23).toInt = 0 → ((y57_2).toInt = 110 → 1 ≤ (z180).toInt → nq ((sI s118 128 z157.toNatClampNeg z178).1 128 (5 * ((sI s118 128 z157.toNatClampNeg z178).2.2.1 109 32).toNatClampNeg)) 0 25) ∧ ((y57_2).toInt = 97 → 5 ≤ (z180).toInt → nq ((sI s118 128 z157.toNatClampNeg z178).1 128 (5 * ((sI s118 128 z157.toNatClampNeg z178).2.2.1 109 32).toNatClampNeg + 4)) 0 25) := by (intro hf; exfalso; have hg : (s118.2.2.1 109 23).toInt = 0 := hf; rw [← e118] at hg; have hn := n118; omega)
                      have n57i : ((Int32.ofInt 1)).toInt = 0 → ((sI s118 128 z157.toNatClampNeg z178).2.2.1 109 23).toInt = 0 → ((y57_2).toInt = 110 → 1 ≤ (z180).toInt) ∧ ((y57_2).toInt = 97 → 5 ≤ (z180).toInt) := by exact fun h => absurd h (by decide)
                      have n57j : C4 (y57_2).toInt ∧ (y57_2) = s.2.2.1 109 30 ∧ (s.2.2.1 109 28).toInt = 1 ∧ (y57_1) = s.2.2.1 109 29 := by exact g57_3
                      have n57k : (sI s118 128 z157.toNatClampNeg z178).1 110 = s.1 110 ∧ (sI s118 128 z157.toNatClampNeg z178).1 112 = s.1 112 ∧ (sI s118 128 z157.toNatClampNeg z178).1 127 = s.1 127 ∧ (∀ j, j < 5 * (s.2.2.1 109 32).toNatClampNeg → (sI s118 128 z157.toNatClampNeg z178).1 128 j = s.1 128 j) ∧ (sI s118 128 z157.toNatClampNeg z178).2.2.1 109 32 = s.2.2.1 109 32 := by (try clear hp76); exfalso; have hn := n118; have a0 := oa12 ro_109_22 ro_109_9 ((inv_F hIc57 0 500 rfl v57_109_32)) i66 ((inv_F hIc57 0 1000 rfl v57_109_27)) i59 j57_3 j57_2 j57_1 i161 ((in_c 1 rfl)) i57; have a12 := t_add e180 j57_3 (in_c 1 rfl) rfl; have a13 := oa4 i138 i115 i70a i179; have a17 := t_add e157 i155 j57_3 rfl; have a18 := in_u i155; have a19 := (t_mulc 5 (Or.inl e155) (inv_F hIc57 0 500 rfl v57_109_32) rfl).1; have oc := oc_304_109; omega
                      have n57l : HQ5 s (sI s118 128 z157.toNatClampNeg z178) ((y57_2).toInt - 97) (z180) ((Int32.ofInt 1)) (z70a).toInt.toNat := by (try clear hp76); exfalso; have hn := n118; have a0 := oa12 ro_109_22 ro_109_9 ((inv_F hIc57 0 500 rfl v57_109_32)) i66 ((inv_F hIc57 0 1000 rfl v57_109_27)) i59 j57_3 j57_2 j57_1 i161 ((in_c 1 rfl)) i57; have a12 := t_add e180 j57_3 (in_c 1 rfl) rfl; have a13 := oa4 i138 i115 i70a i179; have a17 := t_add e157 i155 j57_3 rfl; have a18 := in_u i155; have a19 := (t_mulc 5 (Or.inl e155) (inv_F hIc57 0 500 rfl v57_109_32) rfl).1; have oc := oc_304_109; omega
                      have n57m : HQ6 s (sI s118 128 z157.toNatClampNeg z178) ((y57_2).toInt - 97) ((Int32.ofInt 1)) (z70a).toInt.toNat := by (try clear hp76); exfalso; have hn := n118; have a0 := oa12 ro_109_22 ro_109_9 ((inv_F hIc57 0 500 rfl v57_109_32)) i66 ((inv_F hIc57 0 1000 rfl v57_109_27)) i59 j57_3 j57_2 j57_1 i161 ((in_c 1 rfl)) i57; have a12 := t_add e180 j57_3 (in_c 1 rfl) rfl; have a13 := oa4 i138 i115 i70a i179; have a17 := t_add e157 i155 j57_3 rfl; have a18 := in_u i155; have a19 := (t_mulc 5 (Or.inl e155) (inv_F hIc57 0 500 rfl v57_109_32) rfl).1; have oc := oc_304_109; omega
                      have n57n : HQ7 s (sI s118 128 z157.toNatClampNeg z178) ((y57_2).toInt - 97) := by (try clear hp76); exfalso; have hn := n118; have a0 := oa12 ro_109_22 ro_109_9 ((inv_F hIc57 0 500 rfl v57_109_32)) i66 ((inv_F hIc57 0 1000 rfl v57_109_27)) i59 j57_3 j57_2 j57_1 i161 ((in_c 1 rfl)) i57; have a12 := t_add e180 j57_3 (in_c 1 rfl) rfl; have a13 := oa4 i138 i115 i70a i179; have a17 := t_add e157 i155 j57_3 rfl; have a18 := in_u i155; have a19 := (t_mulc 5 (Or.inl e155) (inv_F hIc57 0 500 rfl v57_109_32) rfl).1; have oc := oc_304_109; omega
                      have m57 : 100 - 10 * (z180).toInt + 5 * ((Int32.ofInt 1)).toInt + 9 - (z118a).toInt < ((k57 : Nat) : Int) := by have a0 := oa12 ro_109_22 ro_109_9 ((inv_F hIc57 0 500 rfl v57_109_32)) i66 ((inv_F hIc57 0 1000 rfl v57_109_27)) i59 j57_3 j57_2 j57_1 i161 ((in_c 1 rfl)) i57; have a12 := t_add e180 j57_3 (in_c 1 rfl) rfl; have a13 := oa4 i138 i115 i70a i179; have a17 := t_add e157 i155 j57_3 rfl; have a18 := in_u i155; have a19 := (t_mulc 5 (Or.inl e155) (inv_F hIc57 0 500 rfl v57_109_32) rfl).1; have oc := oc_304_109; omega
                      exact gg_w (by first | exact Nat.le_add_right _ _ | exact gw2 | exact gw3 | exact gwe rfl | exact gwf rfl | exact gwg rfl | exact gwh rfl | omega) (gg_f (gf_cons rfl (gf_cons rfl (gf_cons rfl (gf_cons rfl (gf_cons rfl gf_nil))))) (ih57  (sI s118 128 z157.toNatClampNeg z178) y57_1 y57_2 z180 (Int32.ofInt 1) z70a z118a w57_109_32 hI179 (fr_sI rfl (fr_tr rfl (fr_tr rfl hFc57 hF70) hF118)) (in_w 0 1000 j57_1 rfl) (in_w 97 119 j57_2 rfl) i57 (in_w 0 1 (in_c 1 rfl) rfl) v57 v57a v57b n57 n57a n57b n57c n57d n57e n57f n57g n57h n57i n57j n57k n57l n57m n57n m57))
                    · skip
                      have i161 := r_eq1 1 1 c161 i124 (in_c 1 rfl) rfl
                      refine g_aload_n 165 (gd rfl) rfl rfl ?_
                      refine g_getI 168 (gd rfl) rfl rfl rfl (fun z165 e165 => ?_)
                      have q165 : z70c = z165 := (fr_F (e70b) hF118 rfl).trans e165.symm
                      subst q165
                      refine g_bipush 97 170 (gd rfl) rfl rfl ?_
                      refine g_isub 171 (gd rfl) rfl (fun z170 e170 => ?_)
                      refine g_goto 179 (gd rfl) rfl ?_
                      have i179 : In z157 0 2499 := by have a0 := oa15 ro_109_22 ro_109_9 ((inv_F hIc57 0 500 rfl v57_109_32)) i66 ((inv_F hIc57 0 1000 rfl v57_109_27)) i59 j57_3 j57_2 j57_1 i161 ((in_c 1 rfl)) i138 i115 i70a i157; have a15 := t_add e157 i155 j57_3 rfl; have a16 := in_u i155; have a17 := (t_mulc 5 (Or.inl e155) (inv_F hIc57 0 500 rfl v57_109_32) rfl).1; have oc := oc_304_109; exact ⟨by omega, by omega⟩
                      refine g_iastore 180 (gd rfl) rfl (n := 2500) rfl (in_ix i179 rfl) ?_
                      have hI179 := inv_sI (q := 128) (j := z157.toNatClampNeg) hI118 rfl (in_w (-2147483648) 2147483647 (i_rng z170) rfl)
                      refine g_iinc 183 (gd rfl) rfl rfl (Nat.le_of_ble_eq_true rfl) (fun z180 e180 => ?_)
                      have i180 := in_add 1 6 e180 j57_3 (in_c 1 rfl) rfl rfl
                      refine g_goto 57 (gd rfl) rfl ?_
                      have i57 : In z180 0 5 := by exact ⟨by have a0 := oa12 ro_109_22 ro_109_9 ((inv_F hIc57 0 500 rfl v57_109_32)) i66 ((inv_F hIc57 0 1000 rfl v57_109_27)) i59 j57_3 j57_2 j57_1 i161 ((in_c 1 rfl)) i180; have a12 := t_add e180 j57_3 (in_c 1 rfl) rfl; have a13 := oa4 i138 i115 i70a i179; have a17 := t_add e157 i155 j57_3 rfl; have a18 := in_u i155; have a19 := (t_mulc 5 (Or.inl e155) (inv_F hIc57 0 500 rfl v57_109_32) rfl).1; have oc := oc_304_109; omega, by have a0 := oa12 ro_109_22 ro_109_9 ((inv_F hIc57 0 500 rfl v57_109_32)) i66 ((inv_F hIc57 0 1000 rfl v57_109_27)) i59 j57_3 j57_2 j57_1 i161 ((in_c 1 rfl)) i180; have a12 := t_add e180 j57_3 (in_c 1 rfl) rfl; have a13 := oa4 i138 i115 i70a i179; have a17 := t_add e157 i155 j57_3 rfl; have a18 := in_u i155; have a19 := (t_mulc 5 (Or.inl e155) (inv_F hIc57 0 500 rfl v57_109_32) rfl).1; have oc := oc_304_109; omega⟩
                      have v57 : z70a = (sI s118 128 z157.toNatClampNeg z170).2.2.1 109 27 := sI_F (fr_F (e70) hF118 rfl)
                      have v57a : z118a = (sI s118 128 z157.toNatClampNeg z170).2.2.1 109 23 := sI_F (e118)
                      have v57b : w57_109_32 = (sI s118 128 z157.toNatClampNeg z170).2.2.1 109 32 := sI_F (fr_F (fr_F (v57_109_32) hF70 rfl) hF118 rfl)
                      have n57 : (z70a).toInt ≤ (u_109_22).toInt := by have a0 := oa12 ro_109_22 ro_109_9 ((inv_F hIc57 0 500 rfl v57_109_32)) i66 ((inv_F hIc57 0 1000 rfl v57_109_27)) i59 j57_3 j57_2 j57_1 i161 ((in_c 1 rfl)) i57; have a12 := t_add e180 j57_3 (in_c 1 rfl) rfl; have a13 := oa4 i138 i115 i70a i179; have a17 := t_add e157 i155 j57_3 rfl; have a18 := in_u i155; have a19 := (t_mulc 5 (Or.inl e155) (inv_F hIc57 0 500 rfl v57_109_32) rfl).1; have oc := oc_304_109; omega
                      have n57a : (u_109_27).toInt ≤ (z70a).toInt := by have a0 := oa12 ro_109_22 ro_109_9 ((inv_F hIc57 0 500 rfl v57_109_32)) i66 ((inv_F hIc57 0 1000 rfl v57_109_27)) i59 j57_3 j57_2 j57_1 i161 ((in_c 1 rfl)) i57; have a12 := t_add e180 j57_3 (in_c 1 rfl) rfl; have a13 := oa4 i138 i115 i70a i179; have a17 := t_add e157 i155 j57_3 rfl; have a18 := in_u i155; have a19 := (t_mulc 5 (Or.inl e155) (inv_F hIc57 0 500 rfl v57_109_32) rfl).1; have oc := oc_304_109; omega
                      have n57b : 3 * (w57_109_32).toInt + 1 + (z180).toInt ≤ (z70a).toInt := by have a0 := oa12 ro_109_22 ro_109_9 ((inv_F hIc57 0 500 rfl v57_109_32)) i66 ((inv_F hIc57 0 1000 rfl v57_109_27)) i59 j57_3 j57_2 j57_1 i161 ((in_c 1 rfl)) i57; have a12 := t_add e180 j57_3 (in_c 1 rfl) rfl; have a13 := oa4 i138 i115 i70a i179; have a17 := t_add e157 i155 j57_3 rfl; have a18 := in_u i155; have a19 := (t_mulc 5 (Or.inl e155) (inv_F hIc57 0 500 rfl v57_109_32) rfl).1; have oc := oc_304_109; omega
                      have n57c : ((Int32.ofInt 1)).toInt = 0 → (z118a).toInt = 0 → 3 * (w57_109_32).toInt + 3 ≤ (z70a).toInt := by exact fun h => absurd h (by decide)
                      have n57d : ((Int32.ofInt 1)).toInt ≠ 0 → 0 ≤ (z180).toInt := by have a0 := oa12 ro_109_22 ro_109_9 ((inv_F hIc57 0 500 rfl v57_109_32)) i66 ((inv_F hIc57 0 1000 rfl v57_109_27)) i59 j57_3 j57_2 j57_1 i161 ((in_c 1 rfl)) i57; have a12 := t_add e180 j57_3 (in_c 1 rfl) rfl; have a13 := oa4 i138 i115 i70a i179; have a17 := t_add e157 i155 j57_3 rfl; have a18 := in_u i155; have a19 := (t_mulc 5 (Or.inl e155) (inv_F hIc57 0 500 rfl v57_109_32) rfl).1; have oc := oc_304_109; omega
                      have n57e : (u_109_27).toInt + (z180).toInt ≤ (z70a).toInt := by have a0 := oa12 ro_109_22 ro_109_9 ((inv_F hIc57 0 500 rfl v57_109_32)) i66 ((inv_F hIc57 0 1000 rfl v57_109_27)) i59 j57_3 j57_2 j57_1 i161 ((in_c 1 rfl)) i57; have a12 := t_add e180 j57_3 (in_c 1 rfl) rfl; have a13 := oa4 i138 i115 i70a i179; have a17 := t_add e157 i155 j57_3 rfl; have a18 := in_u i155; have a19 := (t_mulc 5 (Or.inl e155) (inv_F hIc57 0 500 rfl v57_109_32) rfl).1; have oc := oc_304_109; omega
                      have n57f : ((Int32.ofInt 1)).toInt = 0 → (z118a).toInt = 0 → (u_109_27).toInt + 1 ≤ (z70a).toInt := by exact fun h => absurd h (by decide)
                      have n57g : ((sI s118 128 z157.toNatClampNeg z170).2.2.1 109 23).toInt = 0 → LDQ (sI s118 128 z157.toNatClampNeg z170) ((sI s118 128 z157.toNatClampNeg z170).2.2.1 109 32).toNatClampNeg := by (intro hf; exfalso; have hg : (s118.2.2.1 109 23).toInt = 0 := hf; rw [← e118] at hg; have hn := n118; omega)
                      have n57h : ((sI s118 128 z157.toNatClampNeg z170).2.2.1 109 23).toInt = 0 → ((y57_2).toInt = 110 → 1 ≤ (z180).toInt → nq ((sI s118 128 z157.toNatClampNeg z170).1 128 (5 * ((sI s118 128 z157.toNatClampNeg z170).2.2.1 109 32).toNatClampNeg)) 0 25) ∧ ((y57_2).toInt = 97 → 5 ≤ (z180).toInt → nq ((sI s118 128 z157.toNatClampNeg z170).1 128 (5 * ((sI s118 128 z157.toNatClampNeg z170).2.2.1 109 32).toNatClampNeg + 4)) 0 25) := by (intro hf; exfalso; have hg : (s118.2.2.1 109 23).toInt = 0 := hf; rw [← e118] at hg; have hn := n118; omega)
                      have n57i : ((Int32.ofInt 1)).toInt = 0 → ((sI s118 128 z157.toNatClampNeg z170).2.2.1 109 23).toInt = 0 → ((y57_2).toInt = 110 → 1 ≤ (z180).toInt) ∧ ((y57_2).toInt = 97 → 5 ≤ (z180).toInt) := by exact fun h => absurd h (by decide)
                      have n57j : C4 (y57_2).toInt ∧ (y57_2) = s.2.2.1 109 30 ∧ (s.2.2.1 109 28).toInt = 1 ∧ (y57_1) = s.2.2.1 109 29 := by exact g57_3
                      have n57k : (sI s118 128 z157.toNatClampNeg z170).1 110 = s.1 110 ∧ (sI s118 128 z157.toNatClampNeg z170).1 112 = s.1 112 ∧ (sI s118 128 z157.toNatClampNeg z170).1 127 = s.1 127 ∧ (∀ j, j < 5 * (s.2.2.1 109 32).toNatClampNeg → (sI s118 128 z157.toNatClampNeg z170).1 128 j = s.1 128 j) ∧ (sI s118 128 z157.toNatClampNeg z170).2.2.1 109 32 = s.2.2.1 109 32 := by (try clear hp76); exfalso; have hn := n118; have a0 := oa12 ro_109_22 ro_109_9 ((inv_F hIc57 0 500 rfl v57_109_32)) i66 ((inv_F hIc57 0 1000 rfl v57_109_27)) i59 j57_3 j57_2 j57_1 i161 ((in_c 1 rfl)) i57; have a12 := t_add e180 j57_3 (in_c 1 rfl) rfl; have a13 := oa4 i138 i115 i70a i179; have a17 := t_add e157 i155 j57_3 rfl; have a18 := in_u i155; have a19 := (t_mulc 5 (Or.inl e155) (inv_F hIc57 0 500 rfl v57_109_32) rfl).1; have oc := oc_304_109; omega
                      have n57l : HQ5 s (sI s118 128 z157.toNatClampNeg z170) ((y57_2).toInt - 97) (z180) ((Int32.ofInt 1)) (z70a).toInt.toNat := by (try clear hp76); exfalso; have hn := n118; have a0 := oa12 ro_109_22 ro_109_9 ((inv_F hIc57 0 500 rfl v57_109_32)) i66 ((inv_F hIc57 0 1000 rfl v57_109_27)) i59 j57_3 j57_2 j57_1 i161 ((in_c 1 rfl)) i57; have a12 := t_add e180 j57_3 (in_c 1 rfl) rfl; have a13 := oa4 i138 i115 i70a i179; have a17 := t_add e157 i155 j57_3 rfl; have a18 := in_u i155; have a19 := (t_mulc 5 (Or.inl e155) (inv_F hIc57 0 500 rfl v57_109_32) rfl).1; have oc := oc_304_109; omega
                      have n57m : HQ6 s (sI s118 128 z157.toNatClampNeg z170) ((y57_2).toInt - 97) ((Int32.ofInt 1)) (z70a).toInt.toNat := by (try clear hp76); exfalso; have hn := n118; have a0 := oa12 ro_109_22 ro_109_9 ((inv_F hIc57 0 500 rfl v57_109_32)) i66 ((inv_F hIc57 0 1000 rfl v57_109_27)) i59 j57_3 j57_2 j57_1 i161 ((in_c 1 rfl)) i57; have a12 := t_add e180 j57_3 (in_c 1 rfl) rfl; have a13 := oa4 i138 i115 i70a i179; have a17 := t_add e157 i155 j57_3 rfl; have a18 := in_u i155; have a19 := (t_mulc 5 (Or.inl e155) (inv_F hIc57 0 500 rfl v57_109_32) rfl).1; have oc := oc_304_109; omega
                      have n57n : HQ7 s (sI s118 128 z157.toNatClampNeg z170) ((y57_2).toInt - 97) := by (try clear hp76); exfalso; have hn := n118; have a0 := oa12 ro_109_22 ro_109_9 ((inv_F hIc57 0 500 rfl v57_109_32)) i66 ((inv_F hIc57 0 1000 rfl v57_109_27)) i59 j57_3 j57_2 j57_1 i161 ((in_c 1 rfl)) i57; have a12 := t_add e180 j57_3 (in_c 1 rfl) rfl; have a13 := oa4 i138 i115 i70a i179; have a17 := t_add e157 i155 j57_3 rfl; have a18 := in_u i155; have a19 := (t_mulc 5 (Or.inl e155) (inv_F hIc57 0 500 rfl v57_109_32) rfl).1; have oc := oc_304_109; omega
                      have m57 : 100 - 10 * (z180).toInt + 5 * ((Int32.ofInt 1)).toInt + 9 - (z118a).toInt < ((k57 : Nat) : Int) := by have a0 := oa12 ro_109_22 ro_109_9 ((inv_F hIc57 0 500 rfl v57_109_32)) i66 ((inv_F hIc57 0 1000 rfl v57_109_27)) i59 j57_3 j57_2 j57_1 i161 ((in_c 1 rfl)) i57; have a12 := t_add e180 j57_3 (in_c 1 rfl) rfl; have a13 := oa4 i138 i115 i70a i179; have a17 := t_add e157 i155 j57_3 rfl; have a18 := in_u i155; have a19 := (t_mulc 5 (Or.inl e155) (inv_F hIc57 0 500 rfl v57_109_32) rfl).1; have oc := oc_304_109; omega
                      exact gg_w (by first | exact Nat.le_add_right _ _ | exact gw2 | exact gw3 | exact gwe rfl | exact gwf rfl | exact gwg rfl | exact gwh rfl | omega) (gg_f (gf_cons rfl (gf_cons rfl (gf_cons rfl (gf_cons rfl (gf_cons rfl gf_nil))))) (ih57  (sI s118 128 z157.toNatClampNeg z170) y57_1 y57_2 z180 (Int32.ofInt 1) z70a z118a w57_109_32 hI179 (fr_sI rfl (fr_tr rfl (fr_tr rfl hFc57 hF70) hF118)) (in_w 0 1000 j57_1 rfl) (in_w 97 119 j57_2 rfl) i57 (in_w 0 1 (in_c 1 rfl) rfl) v57 v57a v57b n57 n57a n57b n57c n57d n57e n57f n57g n57h n57i n57j n57k n57l n57m n57n m57))
            · skip
              have i94 := r_eq1 1 3 c94 (i_rng z70b) i76 rfl
              refine g_iload 99 (gd rfl) rfl rfl ?_
              refine g_iconst 3 100 (gd rfl) rfl rfl ?_
              refine g_cmp_ne 103 121 (gd rfl) rfl rfl (fun c100 => ?_) (fun c100 => ?_)
              · skip
                have i100 := r_ne1 1 2 c100 i76 (in_c 3 rfl) rfl
                refine g_iload 123 (gd rfl) rfl rfl ?_
                refine g_iconst 3 124 (gd rfl) rfl rfl ?_
                refine g_cmp_eq 127 131 (gd rfl) rfl rfl (fun c124 => ?_) (fun c124 => ?_)
                · skip
                  exact absurd c124 c100
                · skip
                  refine g_iconst 1 128 (gd rfl) rfl rfl ?_
                  refine g_goto 132 (gd rfl) rfl ?_
                  refine g_istore 134 (gd rfl) rfl (Nat.le_of_ble_eq_true rfl) ?_
                  refine g_aload_n 135 (gd rfl) rfl rfl ?_
                  refine g_getI 138 (gd rfl) rfl rfl rfl (fun z135 e135 => ?_)
                  have q135 : z82 = z135 := (e82).trans e135.symm
                  subst q135
                  refine g_if_ne 141 183 (gd rfl) rfl rfl (fun c138 => ?_) (fun c138 => ?_)
                  · skip
                    exact zn_ne c138 i85 rfl
                  · skip
                    refine g_iload 143 (gd rfl) rfl rfl ?_
                    refine g_if_eq 146 183 (gd rfl) rfl rfl (fun c143 => ?_) (fun c143 => ?_)
                    · skip
                      exact zn_eq c143 (in_c 1 rfl) rfl
                    · skip
                      refine g_aload_n 147 (gd rfl) rfl rfl ?_
                      refine g_getA (q2 := 128) 150 (gd rfl) rfl rfl rfl rfl ?_
                      refine g_iconst 5 151 (gd rfl) rfl rfl ?_
                      refine g_aload_n 152 (gd rfl) rfl rfl ?_
                      refine g_getI 155 (gd rfl) rfl rfl rfl (fun z152 e152 => ?_)
                      have q152 : w57_109_32 = z152 := (fr_F (v57_109_32) hF70 rfl).trans e152.symm
                      subst q152
                      refine g_imul 156 (gd rfl) rfl (fun z155 e155 => ?_)
                      have i155 := in_mulc 5 0 2500 (Or.inl e155) (inv_F hIc57 0 500 rfl v57_109_32) rfl rfl
                      refine g_iload_n 157 (gd rfl) rfl rfl ?_
                      refine g_iadd 158 (gd rfl) rfl (fun z157 e157 => ?_)
                      have i157 := in_add 0 2505 e157 i155 j57_3 rfl rfl
                      refine g_iload 160 (gd rfl) rfl rfl ?_
                      refine g_iconst 1 161 (gd rfl) rfl rfl ?_
                      refine g_cmp_ne 164 174 (gd rfl) rfl rfl (fun c161 => ?_) (fun c161 => ?_)
                      · skip
                        have i161 := r_ne1 2 2 c161 i100 (in_c 1 rfl) rfl
                        refine g_aload_n 175 (gd rfl) rfl rfl ?_
                        refine g_getL 178 (gd rfl) rfl rfl rfl (fun z175 e175 => ?_)
                        refine g_l2i 179 (gd rfl) rfl (fun z178 e178 => ?_)
                        have i179 : In z157 0 2499 := by have a0 := oa15 ro_109_22 ro_109_9 ((inv_F hIc57 0 500 rfl v57_109_32)) i66 ((inv_F hIc57 0 1000 rfl v57_109_27)) i59 j57_3 j57_2 j57_1 i161 ((in_c 1 rfl)) i85 i94 i70a i157; have a15 := t_add e157 i155 j57_3 rfl; have a16 := in_u i155; have a17 := (t_mulc 5 (Or.inl e155) (inv_F hIc57 0 500 rfl v57_109_32) rfl).1; have oc := oc_304_109; exact ⟨by omega, by omega⟩
                        refine g_iastore 180 (gd rfl) rfl (n := 2500) rfl (in_ix i179 rfl) ?_
                        have hI179 := inv_sI (q := 128) (j := z157.toNatClampNeg) hI70 rfl (in_w (-2147483648) 2147483647 (i_rng z178) rfl)
                        refine g_iinc 183 (gd rfl) rfl rfl (Nat.le_of_ble_eq_true rfl) (fun z180 e180 => ?_)
                        have i180 := in_add 1 6 e180 j57_3 (in_c 1 rfl) rfl rfl
                        refine g_goto 57 (gd rfl) rfl ?_
                        have i57 : In z180 0 5 := by exact ⟨by have a0 := oa12 ro_109_22 ro_109_9 ((inv_F hIc57 0 500 rfl v57_109_32)) i66 ((inv_F hIc57 0 1000 rfl v57_109_27)) i59 j57_3 j57_2 j57_1 i161 ((in_c 1 rfl)) i180; have a12 := t_add e180 j57_3 (in_c 1 rfl) rfl; have a13 := oa4 i85 i94 i70a i179; have a17 := t_add e157 i155 j57_3 rfl; have a18 := in_u i155; have a19 := (t_mulc 5 (Or.inl e155) (inv_F hIc57 0 500 rfl v57_109_32) rfl).1; have oc := oc_304_109; omega, by have a0 := oa12 ro_109_22 ro_109_9 ((inv_F hIc57 0 500 rfl v57_109_32)) i66 ((inv_F hIc57 0 1000 rfl v57_109_27)) i59 j57_3 j57_2 j57_1 i161 ((in_c 1 rfl)) i180; have a12 := t_add e180 j57_3 (in_c 1 rfl) rfl; have a13 := oa4 i85 i94 i70a i179; have a17 := t_add e157 i155 j57_3 rfl; have a18 := in_u i155; have a19 := (t_mulc 5 (Or.inl e155) (inv_F hIc57 0 500 rfl v57_109_32) rfl).1; have oc := oc_304_109; omega⟩
                        have v57 : z70a = (sI s70 128 z157.toNatClampNeg z178).2.2.1 109 27 := sI_F (e70)
                        have v57a : z82 = (sI s70 128 z157.toNatClampNeg z178).2.2.1 109 23 := sI_F (e82)
                        have v57b : w57_109_32 = (sI s70 128 z157.toNatClampNeg z178).2.2.1 109 32 := sI_F (fr_F (v57_109_32) hF70 rfl)
                        have n57 : (z70a).toInt ≤ (u_109_22).toInt := by have a0 := oa12 ro_109_22 ro_109_9 ((inv_F hIc57 0 500 rfl v57_109_32)) i66 ((inv_F hIc57 0 1000 rfl v57_109_27)) i59 j57_3 j57_2 j57_1 i161 ((in_c 1 rfl)) i57; have a12 := t_add e180 j57_3 (in_c 1 rfl) rfl; have a13 := oa4 i85 i94 i70a i179; have a17 := t_add e157 i155 j57_3 rfl; have a18 := in_u i155; have a19 := (t_mulc 5 (Or.inl e155) (inv_F hIc57 0 500 rfl v57_109_32) rfl).1; have oc := oc_304_109; omega
                        have n57a : (u_109_27).toInt ≤ (z70a).toInt := by have a0 := oa12 ro_109_22 ro_109_9 ((inv_F hIc57 0 500 rfl v57_109_32)) i66 ((inv_F hIc57 0 1000 rfl v57_109_27)) i59 j57_3 j57_2 j57_1 i161 ((in_c 1 rfl)) i57; have a12 := t_add e180 j57_3 (in_c 1 rfl) rfl; have a13 := oa4 i85 i94 i70a i179; have a17 := t_add e157 i155 j57_3 rfl; have a18 := in_u i155; have a19 := (t_mulc 5 (Or.inl e155) (inv_F hIc57 0 500 rfl v57_109_32) rfl).1; have oc := oc_304_109; omega
                        have n57b : 3 * (w57_109_32).toInt + 1 + (z180).toInt ≤ (z70a).toInt := by have a0 := oa12 ro_109_22 ro_109_9 ((inv_F hIc57 0 500 rfl v57_109_32)) i66 ((inv_F hIc57 0 1000 rfl v57_109_27)) i59 j57_3 j57_2 j57_1 i161 ((in_c 1 rfl)) i57; have a12 := t_add e180 j57_3 (in_c 1 rfl) rfl; have a13 := oa4 i85 i94 i70a i179; have a17 := t_add e157 i155 j57_3 rfl; have a18 := in_u i155; have a19 := (t_mulc 5 (Or.inl e155) (inv_F hIc57 0 500 rfl v57_109_32) rfl).1; have oc := oc_304_109; omega
                        have n57c : ((Int32.ofInt 1)).toInt = 0 → (z82).toInt = 0 → 3 * (w57_109_32).toInt + 3 ≤ (z70a).toInt := by exact fun h => absurd h (by decide)
                        have n57d : ((Int32.ofInt 1)).toInt ≠ 0 → 0 ≤ (z180).toInt := by have a0 := oa12 ro_109_22 ro_109_9 ((inv_F hIc57 0 500 rfl v57_109_32)) i66 ((inv_F hIc57 0 1000 rfl v57_109_27)) i59 j57_3 j57_2 j57_1 i161 ((in_c 1 rfl)) i57; have a12 := t_add e180 j57_3 (in_c 1 rfl) rfl; have a13 := oa4 i85 i94 i70a i179; have a17 := t_add e157 i155 j57_3 rfl; have a18 := in_u i155; have a19 := (t_mulc 5 (Or.inl e155) (inv_F hIc57 0 500 rfl v57_109_32) rfl).1; have oc := oc_304_109; omega
                        have n57e : (u_109_27).toInt + (z180).toInt ≤ (z70a).toInt := by have a0 := oa12 ro_109_22 ro_109_9 ((inv_F hIc57 0 500 rfl v57_109_32)) i66 ((inv_F hIc57 0 1000 rfl v57_109_27)) i59 j57_3 j57_2 j57_1 i161 ((in_c 1 rfl)) i57; have a12 := t_add e180 j57_3 (in_c 1 rfl) rfl; have a13 := oa4 i85 i94 i70a i179; have a17 := t_add e157 i155 j57_3 rfl; have a18 := in_u i155; have a19 := (t_mulc 5 (Or.inl e155) (inv_F hIc57 0 500 rfl v57_109_32) rfl).1; have oc := oc_304_109; omega
                        have n57f : ((Int32.ofInt 1)).toInt = 0 → (z82).toInt = 0 → (u_109_27).toInt + 1 ≤ (z70a).toInt := by exact fun h => absurd h (by decide)
                        have n57g : ((sI s70 128 z157.toNatClampNeg z178).2.2.1 109 23).toInt = 0 → LDQ (sI s70 128 z157.toNatClampNeg z178) ((sI s70 128 z157.toNatClampNeg z178).2.2.1 109 32).toNatClampNeg := by (intro _; have hcm : w57_109_32.toNatClampNeg = (sc57.2.2.1 109 32).toNatClampNeg := (by rw [v57_109_32]); have r152 := inv_F hIc57 0 500 rfl v57_109_32; unfold In at r152; have r3 := j57_3; unfold In at r3; have e5 : z155.toInt = 5 * w57_109_32.toInt := (by have a0 := oa12 ro_109_22 ro_109_9 ((inv_F hIc57 0 500 rfl v57_109_32)) i66 ((inv_F hIc57 0 1000 rfl v57_109_27)) i59 j57_3 j57_2 j57_1 i161 ((in_c 1 rfl)) i57; have a12 := t_add e180 j57_3 (in_c 1 rfl) rfl; have a13 := oa4 i85 i94 i70a i179; have a17 := t_add e157 i155 j57_3 rfl; have a18 := in_u i155; have a19 := (t_mulc 5 (Or.inl e155) (inv_F hIc57 0 500 rfl v57_109_32) rfl).1; have oc := oc_304_109; omega); have hix : z157.toNatClampNeg = 5 * (sc57.2.2.1 109 32).toNatClampNeg + y57_3.toNatClampNeg := (by rw [← hcm]; show z157.toInt.toNat = 5 * w57_109_32.toInt.toNat + y57_3.toInt.toNat; have a0 := oa12 ro_109_22 ro_109_9 ((inv_F hIc57 0 500 rfl v57_109_32)) i66 ((inv_F hIc57 0 1000 rfl v57_109_27)) i59 j57_3 j57_2 j57_1 i161 ((in_c 1 rfl)) i57; have a12 := t_add e180 j57_3 (in_c 1 rfl) rfl; have a13 := oa4 i85 i94 i70a i179; have a17 := t_add e157 i155 j57_3 rfl; have a18 := in_u i155; have a19 := (t_mulc 5 (Or.inl e155) (inv_F hIc57 0 500 rfl v57_109_32) rfl).1; have oc := oc_304_109; omega); have ey3 : y57_3.toNatClampNeg = y57_3.toInt.toNat := rfl; rw [show ((sI s70 128 z157.toNatClampNeg z178)).2.2.1 109 32 = sc57.2.2.1 109 32 from hF70.2.2.1 109 32 rfl]; exact ldq_cg (g57_0 (by rw [← v57_109_23]; exact c66)) ((sI_p rfl).trans (hF70.1 110 rfl)) ((sI_p rfl).trans (hF70.1 112 rfl)) (fun j _ => by rw [sI_p rfl, hF70.1 127 rfl]) (fun j hj => by rw [sI_q, up_n (by omega), hF70.1 128 rfl]))
                        have n57h : ((sI s70 128 z157.toNatClampNeg z178).2.2.1 109 23).toInt = 0 → ((y57_2).toInt = 110 → 1 ≤ (z180).toInt → nq ((sI s70 128 z157.toNatClampNeg z178).1 128 (5 * ((sI s70 128 z157.toNatClampNeg z178).2.2.1 109 32).toNatClampNeg)) 0 25) ∧ ((y57_2).toInt = 97 → 5 ≤ (z180).toInt → nq ((sI s70 128 z157.toNatClampNeg z178).1 128 (5 * ((sI s70 128 z157.toNatClampNeg z178).2.2.1 109 32).toNatClampNeg + 4)) 0 25) := by (intro _; have hp := p76; unfold SHP at hp; have h3 := c124; have h161 := c161; have hk0 : z180.toInt = y57_3.toInt + 1 := (by have a0 := in_u ro_109_22; have a1 := in_u ro_109_9; have a2 := in_u ((inv_F hIc57 0 500 rfl v57_109_32)); have a3 := in_u i66; have a4 := in_u ((inv_F hIc57 0 1000 rfl v57_109_27)); have a5 := in_u i59; have a6 := in_u j57_3; have a7 := in_u j57_2; have a8 := in_u j57_1; have a9 := in_u i161; have a10 := in_u ((in_c 1 rfl)); have a11 := in_u i57; have a12 := t_add e180 j57_3 (in_c 1 rfl) rfl; have a13 := in_u i85; have a14 := in_u i94; have a15 := in_u i70a; have a16 := in_u i179; have a17 := t_add e157 i155 j57_3 rfl; have a18 := in_u i155; have a19 := (t_mulc 5 (Or.inl e155) (inv_F hIc57 0 500 rfl v57_109_32) rfl).1; have oc := oc_304_109; omega); have h13 : (Int32.ofInt 3).toInt = 3 := rfl; have h11 : (Int32.ofInt 1).toInt = 1 := rfl; exact ⟨fun a1 b1 => (by exfalso; have q := hp.1 a1; have r3 := j57_3; unfold In at r3; omega), fun a1 b1 => (by exfalso; have q := hp.2.1 a1; have r3 := j57_3; unfold In at r3; omega)⟩)
                        have n57i : ((Int32.ofInt 1)).toInt = 0 → ((sI s70 128 z157.toNatClampNeg z178).2.2.1 109 23).toInt = 0 → ((y57_2).toInt = 110 → 1 ≤ (z180).toInt) ∧ ((y57_2).toInt = 97 → 5 ≤ (z180).toInt) := by exact fun h => absurd h (by decide)
                        have n57j : C4 (y57_2).toInt ∧ (y57_2) = s.2.2.1 109 30 ∧ (s.2.2.1 109 28).toInt = 1 ∧ (y57_1) = s.2.2.1 109 29 := by exact g57_3
                        have n57k : (sI s70 128 z157.toNatClampNeg z178).1 110 = s.1 110 ∧ (sI s70 128 z157.toNatClampNeg z178).1 112 = s.1 112 ∧ (sI s70 128 z157.toNatClampNeg z178).1 127 = s.1 127 ∧ (∀ j, j < 5 * (s.2.2.1 109 32).toNatClampNeg → (sI s70 128 z157.toNatClampNeg z178).1 128 j = s.1 128 j) ∧ (sI s70 128 z157.toNatClampNeg z178).2.2.1 109 32 = s.2.2.1 109 32 := by (try clear hp76); have hcm_ : w57_109_32.toNatClampNeg = (sc57.2.2.1 109 32).toNatClampNeg := (by rw [v57_109_32]); have r152 := inv_F hIc57 0 500 rfl v57_109_32; unfold In at r152; have r3 := j57_3; unfold In at r3; have e5 : z155.toInt = 5 * w57_109_32.toInt := (by have a0 := oa12 ro_109_22 ro_109_9 ((inv_F hIc57 0 500 rfl v57_109_32)) i66 ((inv_F hIc57 0 1000 rfl v57_109_27)) i59 j57_3 j57_2 j57_1 i161 ((in_c 1 rfl)) i57; have a12 := t_add e180 j57_3 (in_c 1 rfl) rfl; have a13 := oa4 i85 i94 i70a i179; have a17 := t_add e157 i155 j57_3 rfl; have a18 := in_u i155; have a19 := (t_mulc 5 (Or.inl e155) (inv_F hIc57 0 500 rfl v57_109_32) rfl).1; have oc := oc_304_109; omega); have hix : z157.toNatClampNeg = 5 * (sc57.2.2.1 109 32).toNatClampNeg + y57_3.toNatClampNeg := (by rw [← hcm_]; show z157.toInt.toNat = 5 * w57_109_32.toInt.toNat + y57_3.toInt.toNat; have a0 := oa12 ro_109_22 ro_109_9 ((inv_F hIc57 0 500 rfl v57_109_32)) i66 ((inv_F hIc57 0 1000 rfl v57_109_27)) i59 j57_3 j57_2 j57_1 i161 ((in_c 1 rfl)) i57; have a12 := t_add e180 j57_3 (in_c 1 rfl) rfl; have a13 := oa4 i85 i94 i70a i179; have a17 := t_add e157 i155 j57_3 rfl; have a18 := in_u i155; have a19 := (t_mulc 5 (Or.inl e155) (inv_F hIc57 0 500 rfl v57_109_32) rfl).1; have oc := oc_304_109; omega); have ey3 : y57_3.toNatClampNeg = y57_3.toInt.toNat := rfl; have hcm : (sc57.2.2.1 109 32).toNatClampNeg = (s.2.2.1 109 32).toNatClampNeg := (by rw [g57_4.2.2.2.2]); exact ⟨(sI_p rfl).trans ((hF70.1 110 rfl).trans g57_4.1), (sI_p rfl).trans ((hF70.1 112 rfl).trans g57_4.2.1), (sI_p rfl).trans ((hF70.1 127 rfl).trans g57_4.2.2.1), fun j hj => by rw [sI_q, ug_ne (by rw [hix, hcm]; omega), hF70.1 128 rfl]; exact g57_4.2.2.2.1 j hj, (hF70.2.2.1 109 32 rfl).trans g57_4.2.2.2.2⟩
                        have n57l : HQ5 s (sI s70 128 z157.toNatClampNeg z178) ((y57_2).toInt - 97) (z180) ((Int32.ofInt 1)) (z70a).toInt.toNat := by (try clear hp76); obtain ⟨k, v, ht, hn⟩ := p70; rw [show sc57.1 125 = s.1 125 from hFc57.1 125 rfl, show sc57.2.2.1 109 22 = s.2.2.1 109 22 from hFc57.2.2.1 109 22 rfl, ← v57_109_27] at ht; have hv := (ntk_f hn (by rw [← v57_109_23]; exact c66)).2 (by rw [← e82]; exact c85); have htk := ntv_t hv (tkn_e ht).2.2.2.2.1 (tkn_e ht).2.2.2.2.2; rw [← e70a] at htk; have hkz : k = z76.toInt := htk.symm.trans c94; have hcm_ : w57_109_32.toNatClampNeg = (sc57.2.2.1 109 32).toNatClampNeg := (by rw [v57_109_32]); have r152 := inv_F hIc57 0 500 rfl v57_109_32; unfold In at r152; have r3 := j57_3; unfold In at r3; have e5 : z155.toInt = 5 * w57_109_32.toInt := (by have a0 := oa12 ro_109_22 ro_109_9 ((inv_F hIc57 0 500 rfl v57_109_32)) i66 ((inv_F hIc57 0 1000 rfl v57_109_27)) i59 j57_3 j57_2 j57_1 i161 ((in_c 1 rfl)) i57; have a12 := t_add e180 j57_3 (in_c 1 rfl) rfl; have a13 := oa4 i85 i94 i70a i179; have a17 := t_add e157 i155 j57_3 rfl; have a18 := in_u i155; have a19 := (t_mulc 5 (Or.inl e155) (inv_F hIc57 0 500 rfl v57_109_32) rfl).1; have oc := oc_304_109; omega); have hix : z157.toNatClampNeg = 5 * (sc57.2.2.1 109 32).toNatClampNeg + y57_3.toNatClampNeg := (by rw [← hcm_]; show z157.toInt.toNat = 5 * w57_109_32.toInt.toNat + y57_3.toInt.toNat; have a0 := oa12 ro_109_22 ro_109_9 ((inv_F hIc57 0 500 rfl v57_109_32)) i66 ((inv_F hIc57 0 1000 rfl v57_109_27)) i59 j57_3 j57_2 j57_1 i161 ((in_c 1 rfl)) i57; have a12 := t_add e180 j57_3 (in_c 1 rfl) rfl; have a13 := oa4 i85 i94 i70a i179; have a17 := t_add e157 i155 j57_3 rfl; have a18 := in_u i155; have a19 := (t_mulc 5 (Or.inl e155) (inv_F hIc57 0 500 rfl v57_109_32) rfl).1; have oc := oc_304_109; omega); have ey3 : y57_3.toNatClampNeg = y57_3.toInt.toNat := rfl; rw [(show z70a = (sI s70 128 z157.toNatClampNeg z178).2.2.1 109 27 from sI_F (e70))]; exact hq5_s (by rw [← v57_109_23]; exact c66) c59 g57_5 g57_3.1 g57_4.2.2.2.2 ht p76a hkz (in_ne3 i161 rfl) j57_3.1 (by have a0 := oa12 ro_109_22 ro_109_9 ((inv_F hIc57 0 500 rfl v57_109_32)) i66 ((inv_F hIc57 0 1000 rfl v57_109_27)) i59 j57_3 j57_2 j57_1 i161 ((in_c 1 rfl)) i57; have a12 := t_add e180 j57_3 (in_c 1 rfl) rfl; have a13 := oa4 i85 i94 i70a i179; have a17 := t_add e157 i155 j57_3 rfl; have a18 := in_u i155; have a19 := (t_mulc 5 (Or.inl e155) (inv_F hIc57 0 500 rfl v57_109_32) rfl).1; have oc := oc_304_109; omega) hix (by have hk2 : k = 2 := hkz.trans (in_at i161); have q9 := (hv.2.2.1 hk2).2; rw [l2i_v e178 (by rw [e175, q9]; exact tkn_v2 ht hk2), e175, q9]) (hF70.1 128 rfl)
                        have n57m : HQ6 s (sI s70 128 z157.toNatClampNeg z178) ((y57_2).toInt - 97) ((Int32.ofInt 1)) (z70a).toInt.toNat := by intro _ h; exact absurd h (by decide)
                        have n57n : HQ7 s (sI s70 128 z157.toNatClampNeg z178) ((y57_2).toInt - 97) := by intro hf; exfalso; exact hf (by show (s70.2.2.1 109 23).toInt = 0; rw [← e82]; exact c85)
                        have m57 : 100 - 10 * (z180).toInt + 5 * ((Int32.ofInt 1)).toInt + 9 - (z82).toInt < ((k57 : Nat) : Int) := by have a0 := oa12 ro_109_22 ro_109_9 ((inv_F hIc57 0 500 rfl v57_109_32)) i66 ((inv_F hIc57 0 1000 rfl v57_109_27)) i59 j57_3 j57_2 j57_1 i161 ((in_c 1 rfl)) i57; have a12 := t_add e180 j57_3 (in_c 1 rfl) rfl; have a13 := oa4 i85 i94 i70a i179; have a17 := t_add e157 i155 j57_3 rfl; have a18 := in_u i155; have a19 := (t_mulc 5 (Or.inl e155) (inv_F hIc57 0 500 rfl v57_109_32) rfl).1; have oc := oc_304_109; omega
                        exact gg_w (by first | exact Nat.le_add_right _ _ | exact gw2 | exact gw3 | exact gwe rfl | exact gwf rfl | exact gwg rfl | exact gwh rfl | omega) (gg_f (gf_cons rfl (gf_cons rfl (gf_cons rfl (gf_cons rfl (gf_cons rfl gf_nil))))) (ih57  (sI s70 128 z157.toNatClampNeg z178) y57_1 y57_2 z180 (Int32.ofInt 1) z70a z82 w57_109_32 hI179 (fr_sI rfl (fr_tr rfl hFc57 hF70)) (in_w 0 1000 j57_1 rfl) (in_w 97 119 j57_2 rfl) i57 (in_w 0 1 (in_c 1 rfl) rfl) v57 v57a v57b n57 n57a n57b n57c n57d n57e n57f n57g n57h n57i n57j n57k n57l n57m n57n m57))
                      · skip
                        have i161 := r_eq1 1 1 c161 i100 (in_c 1 rfl) rfl
                        refine g_aload_n 165 (gd rfl) rfl rfl ?_
                        refine g_getI 168 (gd rfl) rfl rfl rfl (fun z165 e165 => ?_)
                        have q165 : z70c = z165 := (e70b).trans e165.symm
                        subst q165
                        refine g_bipush 97 170 (gd rfl) rfl rfl ?_
                        refine g_isub 171 (gd rfl) rfl (fun z170 e170 => ?_)
                        refine g_goto 179 (gd rfl) rfl ?_
                        have i179 : In z157 0 2499 := by have a0 := oa15 ro_109_22 ro_109_9 ((inv_F hIc57 0 500 rfl v57_109_32)) i66 ((inv_F hIc57 0 1000 rfl v57_109_27)) i59 j57_3 j57_2 j57_1 i161 ((in_c 1 rfl)) i85 i94 i70a i157; have a15 := t_add e157 i155 j57_3 rfl; have a16 := in_u i155; have a17 := (t_mulc 5 (Or.inl e155) (inv_F hIc57 0 500 rfl v57_109_32) rfl).1; have oc := oc_304_109; exact ⟨by omega, by omega⟩
                        refine g_iastore 180 (gd rfl) rfl (n := 2500) rfl (in_ix i179 rfl) ?_
                        have hI179 := inv_sI (q := 128) (j := z157.toNatClampNeg) hI70 rfl (in_w (-2147483648) 2147483647 (i_rng z170) rfl)
                        refine g_iinc 183 (gd rfl) rfl rfl (Nat.le_of_ble_eq_true rfl) (fun z180 e180 => ?_)
                        have i180 := in_add 1 6 e180 j57_3 (in_c 1 rfl) rfl rfl
                        refine g_goto 57 (gd rfl) rfl ?_
                        have i57 : In z180 0 5 := by exact ⟨by have a0 := oa12 ro_109_22 ro_109_9 ((inv_F hIc57 0 500 rfl v57_109_32)) i66 ((inv_F hIc57 0 1000 rfl v57_109_27)) i59 j57_3 j57_2 j57_1 i161 ((in_c 1 rfl)) i180; have a12 := t_add e180 j57_3 (in_c 1 rfl) rfl; have a13 := oa4 i85 i94 i70a i179; have a17 := t_add e157 i155 j57_3 rfl; have a18 := in_u i155; have a19 := (t_mulc 5 (Or.inl e155) (inv_F hIc57 0 500 rfl v57_109_32) rfl).1; have oc := oc_304_109; omega, by have a0 := oa12 ro_109_22 ro_109_9 ((inv_F hIc57 0 500 rfl v57_109_32)) i66 ((inv_F hIc57 0 1000 rfl v57_109_27)) i59 j57_3 j57_2 j57_1 i161 ((in_c 1 rfl)) i180; have a12 := t_add e180 j57_3 (in_c 1 rfl) rfl; have a13 := oa4 i85 i94 i70a i179; have a17 := t_add e157 i155 j57_3 rfl; have a18 := in_u i155; have a19 := (t_mulc 5 (Or.inl e155) (inv_F hIc57 0 500 rfl v57_109_32) rfl).1; have oc := oc_304_109; omega⟩
                        have v57 : z70a = (sI s70 128 z157.toNatClampNeg z170).2.2.1 109 27 := sI_F (e70)
                        have v57a : z82 = (sI s70 128 z157.toNatClampNeg z170).2.2.1 109 23 := sI_F (e82)
                        have v57b : w57_109_32 = (sI s70 128 z157.toNatClampNeg z170).2.2.1 109 32 := sI_F (fr_F (v57_109_32) hF70 rfl)
                        have n57 : (z70a).toInt ≤ (u_109_22).toInt := by have a0 := oa12 ro_109_22 ro_109_9 ((inv_F hIc57 0 500 rfl v57_109_32)) i66 ((inv_F hIc57 0 1000 rfl v57_109_27)) i59 j57_3 j57_2 j57_1 i161 ((in_c 1 rfl)) i57; have a12 := t_add e180 j57_3 (in_c 1 rfl) rfl; have a13 := oa4 i85 i94 i70a i179; have a17 := t_add e157 i155 j57_3 rfl; have a18 := in_u i155; have a19 := (t_mulc 5 (Or.inl e155) (inv_F hIc57 0 500 rfl v57_109_32) rfl).1; have oc := oc_304_109; omega
                        have n57a : (u_109_27).toInt ≤ (z70a).toInt := by have a0 := oa12 ro_109_22 ro_109_9 ((inv_F hIc57 0 500 rfl v57_109_32)) i66 ((inv_F hIc57 0 1000 rfl v57_109_27)) i59 j57_3 j57_2 j57_1 i161 ((in_c 1 rfl)) i57; have a12 := t_add e180 j57_3 (in_c 1 rfl) rfl; have a13 := oa4 i85 i94 i70a i179; have a17 := t_add e157 i155 j57_3 rfl; have a18 := in_u i155; have a19 := (t_mulc 5 (Or.inl e155) (inv_F hIc57 0 500 rfl v57_109_32) rfl).1; have oc := oc_304_109; omega
                        have n57b : 3 * (w57_109_32).toInt + 1 + (z180).toInt ≤ (z70a).toInt := by have a0 := oa12 ro_109_22 ro_109_9 ((inv_F hIc57 0 500 rfl v57_109_32)) i66 ((inv_F hIc57 0 1000 rfl v57_109_27)) i59 j57_3 j57_2 j57_1 i161 ((in_c 1 rfl)) i57; have a12 := t_add e180 j57_3 (in_c 1 rfl) rfl; have a13 := oa4 i85 i94 i70a i179; have a17 := t_add e157 i155 j57_3 rfl; have a18 := in_u i155; have a19 := (t_mulc 5 (Or.inl e155) (inv_F hIc57 0 500 rfl v57_109_32) rfl).1; have oc := oc_304_109; omega
                        have n57c : ((Int32.ofInt 1)).toInt = 0 → (z82).toInt = 0 → 3 * (w57_109_32).toInt + 3 ≤ (z70a).toInt := by exact fun h => absurd h (by decide)
                        have n57d : ((Int32.ofInt 1)).toInt ≠ 0 → 0 ≤ (z180).toInt := by have a0 := oa12 ro_109_22 ro_109_9 ((inv_F hIc57 0 500 rfl v57_109_32)) i66 ((inv_F hIc57 0 1000 rfl v57_109_27)) i59 j57_3 j57_2 j57_1 i161 ((in_c 1 rfl)) i57; have a12 := t_add e180 j57_3 (in_c 1 rfl) rfl; have a13 := oa4 i85 i94 i70a i179; have a17 := t_add e157 i155 j57_3 rfl; have a18 := in_u i155; have a19 := (t_mulc 5 (Or.inl e155) (inv_F hIc57 0 500 rfl v57_109_32) rfl).1; have oc := oc_304_109; omega
                        have n57e : (u_109_27).toInt + (z180).toInt ≤ (z70a).toInt := by have a0 := oa12 ro_109_22 ro_109_9 ((inv_F hIc57 0 500 rfl v57_109_32)) i66 ((inv_F hIc57 0 1000 rfl v57_109_27)) i59 j57_3 j57_2 j57_1 i161 ((in_c 1 rfl)) i57; have a12 := t_add e180 j57_3 (in_c 1 rfl) rfl; have a13 := oa4 i85 i94 i70a i179; have a17 := t_add e157 i155 j57_3 rfl; have a18 := in_u i155; have a19 := (t_mulc 5 (Or.inl e155) (inv_F hIc57 0 500 rfl v57_109_32) rfl).1; have oc := oc_304_109; omega
                        have n57f : ((Int32.ofInt 1)).toInt = 0 → (z82).toInt = 0 → (u_109_27).toInt + 1 ≤ (z70a).toInt := by exact fun h => absurd h (by decide)
                        have n57g : ((sI s70 128 z157.toNatClampNeg z170).2.2.1 109 23).toInt = 0 → LDQ (sI s70 128 z157.toNatClampNeg z170) ((sI s70 128 z157.toNatClampNeg z170).2.2.1 109 32).toNatClampNeg := by (intro _; have hcm : w57_109_32.toNatClampNeg = (sc57.2.2.1 109 32).toNatClampNeg := (by rw [v57_109_32]); have r152 := inv_F hIc57 0 500 rfl v57_109_32; unfold In at r152; have r3 := j57_3; unfold In at r3; have e5 : z155.toInt = 5 * w57_109_32.toInt := (by have a0 := oa12 ro_109_22 ro_109_9 ((inv_F hIc57 0 500 rfl v57_109_32)) i66 ((inv_F hIc57 0 1000 rfl v57_109_27)) i59 j57_3 j57_2 j57_1 i161 ((in_c 1 rfl)) i57; have a12 := t_add e180 j57_3 (in_c 1 rfl) rfl; have a13 := oa4 i85 i94 i70a i179; have a17 := t_add e157 i155 j57_3 rfl; have a18 := in_u i155; have a19 := (t_mulc 5 (Or.inl e155) (inv_F hIc57 0 500 rfl v57_109_32) rfl).1; have oc := oc_304_109; omega); have hix : z157.toNatClampNeg = 5 * (sc57.2.2.1 109 32).toNatClampNeg + y57_3.toNatClampNeg := (by rw [← hcm]; show z157.toInt.toNat = 5 * w57_109_32.toInt.toNat + y57_3.toInt.toNat; have a0 := oa12 ro_109_22 ro_109_9 ((inv_F hIc57 0 500 rfl v57_109_32)) i66 ((inv_F hIc57 0 1000 rfl v57_109_27)) i59 j57_3 j57_2 j57_1 i161 ((in_c 1 rfl)) i57; have a12 := t_add e180 j57_3 (in_c 1 rfl) rfl; have a13 := oa4 i85 i94 i70a i179; have a17 := t_add e157 i155 j57_3 rfl; have a18 := in_u i155; have a19 := (t_mulc 5 (Or.inl e155) (inv_F hIc57 0 500 rfl v57_109_32) rfl).1; have oc := oc_304_109; omega); have ey3 : y57_3.toNatClampNeg = y57_3.toInt.toNat := rfl; rw [show ((sI s70 128 z157.toNatClampNeg z170)).2.2.1 109 32 = sc57.2.2.1 109 32 from hF70.2.2.1 109 32 rfl]; exact ldq_cg (g57_0 (by rw [← v57_109_23]; exact c66)) ((sI_p rfl).trans (hF70.1 110 rfl)) ((sI_p rfl).trans (hF70.1 112 rfl)) (fun j _ => by rw [sI_p rfl, hF70.1 127 rfl]) (fun j hj => by rw [sI_q, up_n (by omega), hF70.1 128 rfl]))
                        have n57h : ((sI s70 128 z157.toNatClampNeg z170).2.2.1 109 23).toInt = 0 → ((y57_2).toInt = 110 → 1 ≤ (z180).toInt → nq ((sI s70 128 z157.toNatClampNeg z170).1 128 (5 * ((sI s70 128 z157.toNatClampNeg z170).2.2.1 109 32).toNatClampNeg)) 0 25) ∧ ((y57_2).toInt = 97 → 5 ≤ (z180).toInt → nq ((sI s70 128 z157.toNatClampNeg z170).1 128 (5 * ((sI s70 128 z157.toNatClampNeg z170).2.2.1 109 32).toNatClampNeg + 4)) 0 25) := by (intro _; have hcm : w57_109_32.toNatClampNeg = (sc57.2.2.1 109 32).toNatClampNeg := (by rw [v57_109_32]); have r152 := inv_F hIc57 0 500 rfl v57_109_32; unfold In at r152; have r3 := j57_3; unfold In at r3; have e5 : z155.toInt = 5 * w57_109_32.toInt := (by have a0 := in_u ro_109_22; have a1 := in_u ro_109_9; have a2 := in_u ((inv_F hIc57 0 500 rfl v57_109_32)); have a3 := in_u i66; have a4 := in_u ((inv_F hIc57 0 1000 rfl v57_109_27)); have a5 := in_u i59; have a6 := in_u j57_3; have a7 := in_u j57_2; have a8 := in_u j57_1; have a9 := in_u i161; have a10 := in_u ((in_c 1 rfl)); have a11 := in_u i57; have a12 := t_add e180 j57_3 (in_c 1 rfl) rfl; have a13 := in_u i85; have a14 := in_u i94; have a15 := in_u i70a; have a16 := in_u i179; have a17 := t_add e157 i155 j57_3 rfl; have a18 := in_u i155; have a19 := (t_mulc 5 (Or.inl e155) (inv_F hIc57 0 500 rfl v57_109_32) rfl).1; have oc := oc_304_109; omega); have hix : z157.toNatClampNeg = 5 * (sc57.2.2.1 109 32).toNatClampNeg + y57_3.toNatClampNeg := (by rw [← hcm]; show z157.toInt.toNat = 5 * w57_109_32.toInt.toNat + y57_3.toInt.toNat; have a0 := in_u ro_109_22; have a1 := in_u ro_109_9; have a2 := in_u ((inv_F hIc57 0 500 rfl v57_109_32)); have a3 := in_u i66; have a4 := in_u ((inv_F hIc57 0 1000 rfl v57_109_27)); have a5 := in_u i59; have a6 := in_u j57_3; have a7 := in_u j57_2; have a8 := in_u j57_1; have a9 := in_u i161; have a10 := in_u ((in_c 1 rfl)); have a11 := in_u i57; have a12 := t_add e180 j57_3 (in_c 1 rfl) rfl; have a13 := in_u i85; have a14 := in_u i94; have a15 := in_u i70a; have a16 := in_u i179; have a17 := t_add e157 i155 j57_3 rfl; have a18 := in_u i155; have a19 := (t_mulc 5 (Or.inl e155) (inv_F hIc57 0 500 rfl v57_109_32) rfl).1; have oc := oc_304_109; omega); have ey3 : y57_3.toNatClampNeg = y57_3.toInt.toNat := rfl; have hp := p76; unfold SHP at hp; have h3 := c124; have h161 := c161; have hk0 : z180.toInt = y57_3.toInt + 1 := (by have a0 := in_u ro_109_22; have a1 := in_u ro_109_9; have a2 := in_u ((inv_F hIc57 0 500 rfl v57_109_32)); have a3 := in_u i66; have a4 := in_u ((inv_F hIc57 0 1000 rfl v57_109_27)); have a5 := in_u i59; have a6 := in_u j57_3; have a7 := in_u j57_2; have a8 := in_u j57_1; have a9 := in_u i161; have a10 := in_u ((in_c 1 rfl)); have a11 := in_u i57; have a12 := t_add e180 j57_3 (in_c 1 rfl) rfl; have a13 := in_u i85; have a14 := in_u i94; have a15 := in_u i70a; have a16 := in_u i179; have a17 := t_add e157 i155 j57_3 rfl; have a18 := in_u i155; have a19 := (t_mulc 5 (Or.inl e155) (inv_F hIc57 0 500 rfl v57_109_32) rfl).1; have oc := oc_304_109; omega); have h13 : (Int32.ofInt 3).toInt = 3 := rfl; have h11 : (Int32.ofInt 1).toInt = 1 := rfl; rw [show ((sI s70 128 z157.toNatClampNeg z170)).2.2.1 109 32 = sc57.2.2.1 109 32 from hF70.2.2.1 109 32 rfl, sI_q]; have hsg : 97 ≤ z70c.toInt ∧ z70c.toInt ≤ 122 := (by have q1 := n70d; have q2 := n70e; have hc := c94; omega); have hv : z170.toInt = z70c.toInt - 97 := t_s97 e170 hsg.1 hsg.2; exact ⟨fun a1 b1 => (by have q := hp.1 a1; rw [show 5 * (sc57.2.2.1 109 32).toNatClampNeg = z157.toNatClampNeg from (by omega), up_e]; exact ⟨by omega, by omega⟩), fun a1 b1 => (by have q := hp.2.1 a1; rw [show 5 * (sc57.2.2.1 109 32).toNatClampNeg + 4 = z157.toNatClampNeg from (by omega), up_e]; exact ⟨by omega, by omega⟩)⟩)
                        have n57i : ((Int32.ofInt 1)).toInt = 0 → ((sI s70 128 z157.toNatClampNeg z170).2.2.1 109 23).toInt = 0 → ((y57_2).toInt = 110 → 1 ≤ (z180).toInt) ∧ ((y57_2).toInt = 97 → 5 ≤ (z180).toInt) := by exact fun h => absurd h (by decide)
                        have n57j : C4 (y57_2).toInt ∧ (y57_2) = s.2.2.1 109 30 ∧ (s.2.2.1 109 28).toInt = 1 ∧ (y57_1) = s.2.2.1 109 29 := by exact g57_3
                        have n57k : (sI s70 128 z157.toNatClampNeg z170).1 110 = s.1 110 ∧ (sI s70 128 z157.toNatClampNeg z170).1 112 = s.1 112 ∧ (sI s70 128 z157.toNatClampNeg z170).1 127 = s.1 127 ∧ (∀ j, j < 5 * (s.2.2.1 109 32).toNatClampNeg → (sI s70 128 z157.toNatClampNeg z170).1 128 j = s.1 128 j) ∧ (sI s70 128 z157.toNatClampNeg z170).2.2.1 109 32 = s.2.2.1 109 32 := by (try clear hp76); have hcm_ : w57_109_32.toNatClampNeg = (sc57.2.2.1 109 32).toNatClampNeg := (by rw [v57_109_32]); have r152 := inv_F hIc57 0 500 rfl v57_109_32; unfold In at r152; have r3 := j57_3; unfold In at r3; have e5 : z155.toInt = 5 * w57_109_32.toInt := (by have a0 := oa12 ro_109_22 ro_109_9 ((inv_F hIc57 0 500 rfl v57_109_32)) i66 ((inv_F hIc57 0 1000 rfl v57_109_27)) i59 j57_3 j57_2 j57_1 i161 ((in_c 1 rfl)) i57; have a12 := t_add e180 j57_3 (in_c 1 rfl) rfl; have a13 := oa4 i85 i94 i70a i179; have a17 := t_add e157 i155 j57_3 rfl; have a18 := in_u i155; have a19 := (t_mulc 5 (Or.inl e155) (inv_F hIc57 0 500 rfl v57_109_32) rfl).1; have oc := oc_304_109; omega); have hix : z157.toNatClampNeg = 5 * (sc57.2.2.1 109 32).toNatClampNeg + y57_3.toNatClampNeg := (by rw [← hcm_]; show z157.toInt.toNat = 5 * w57_109_32.toInt.toNat + y57_3.toInt.toNat; have a0 := oa12 ro_109_22 ro_109_9 ((inv_F hIc57 0 500 rfl v57_109_32)) i66 ((inv_F hIc57 0 1000 rfl v57_109_27)) i59 j57_3 j57_2 j57_1 i161 ((in_c 1 rfl)) i57; have a12 := t_add e180 j57_3 (in_c 1 rfl) rfl; have a13 := oa4 i85 i94 i70a i179; have a17 := t_add e157 i155 j57_3 rfl; have a18 := in_u i155; have a19 := (t_mulc 5 (Or.inl e155) (inv_F hIc57 0 500 rfl v57_109_32) rfl).1; have oc := oc_304_109; omega); have ey3 : y57_3.toNatClampNeg = y57_3.toInt.toNat := rfl; have hcm : (sc57.2.2.1 109 32).toNatClampNeg = (s.2.2.1 109 32).toNatClampNeg := (by rw [g57_4.2.2.2.2]); exact ⟨(sI_p rfl).trans ((hF70.1 110 rfl).trans g57_4.1), (sI_p rfl).trans ((hF70.1 112 rfl).trans g57_4.2.1), (sI_p rfl).trans ((hF70.1 127 rfl).trans g57_4.2.2.1), fun j hj => by rw [sI_q, ug_ne (by rw [hix, hcm]; omega), hF70.1 128 rfl]; exact g57_4.2.2.2.1 j hj, (hF70.2.2.1 109 32 rfl).trans g57_4.2.2.2.2⟩
                        have n57l : HQ5 s (sI s70 128 z157.toNatClampNeg z170) ((y57_2).toInt - 97) (z180) ((Int32.ofInt 1)) (z70a).toInt.toNat := by (try clear hp76); obtain ⟨k, v, ht, hn⟩ := p70; rw [show sc57.1 125 = s.1 125 from hFc57.1 125 rfl, show sc57.2.2.1 109 22 = s.2.2.1 109 22 from hFc57.2.2.1 109 22 rfl, ← v57_109_27] at ht; have hv := (ntk_f hn (by rw [← v57_109_23]; exact c66)).2 (by rw [← e82]; exact c85); have htk := ntv_t hv (tkn_e ht).2.2.2.2.1 (tkn_e ht).2.2.2.2.2; rw [← e70a] at htk; have hkz : k = z76.toInt := htk.symm.trans c94; have hcm_ : w57_109_32.toNatClampNeg = (sc57.2.2.1 109 32).toNatClampNeg := (by rw [v57_109_32]); have r152 := inv_F hIc57 0 500 rfl v57_109_32; unfold In at r152; have r3 := j57_3; unfold In at r3; have e5 : z155.toInt = 5 * w57_109_32.toInt := (by have a0 := oa12 ro_109_22 ro_109_9 ((inv_F hIc57 0 500 rfl v57_109_32)) i66 ((inv_F hIc57 0 1000 rfl v57_109_27)) i59 j57_3 j57_2 j57_1 i161 ((in_c 1 rfl)) i57; have a12 := t_add e180 j57_3 (in_c 1 rfl) rfl; have a13 := oa4 i85 i94 i70a i179; have a17 := t_add e157 i155 j57_3 rfl; have a18 := in_u i155; have a19 := (t_mulc 5 (Or.inl e155) (inv_F hIc57 0 500 rfl v57_109_32) rfl).1; have oc := oc_304_109; omega); have hix : z157.toNatClampNeg = 5 * (sc57.2.2.1 109 32).toNatClampNeg + y57_3.toNatClampNeg := (by rw [← hcm_]; show z157.toInt.toNat = 5 * w57_109_32.toInt.toNat + y57_3.toInt.toNat; have a0 := oa12 ro_109_22 ro_109_9 ((inv_F hIc57 0 500 rfl v57_109_32)) i66 ((inv_F hIc57 0 1000 rfl v57_109_27)) i59 j57_3 j57_2 j57_1 i161 ((in_c 1 rfl)) i57; have a12 := t_add e180 j57_3 (in_c 1 rfl) rfl; have a13 := oa4 i85 i94 i70a i179; have a17 := t_add e157 i155 j57_3 rfl; have a18 := in_u i155; have a19 := (t_mulc 5 (Or.inl e155) (inv_F hIc57 0 500 rfl v57_109_32) rfl).1; have oc := oc_304_109; omega); have ey3 : y57_3.toNatClampNeg = y57_3.toInt.toNat := rfl; rw [(show z70a = (sI s70 128 z157.toNatClampNeg z170).2.2.1 109 27 from sI_F (e70))]; exact hq5_s (by rw [← v57_109_23]; exact c66) c59 g57_5 g57_3.1 g57_4.2.2.2.2 ht p76a hkz (in_ne3 i161 rfl) j57_3.1 (by have a0 := oa12 ro_109_22 ro_109_9 ((inv_F hIc57 0 500 rfl v57_109_32)) i66 ((inv_F hIc57 0 1000 rfl v57_109_27)) i59 j57_3 j57_2 j57_1 i161 ((in_c 1 rfl)) i57; have a12 := t_add e180 j57_3 (in_c 1 rfl) rfl; have a13 := oa4 i85 i94 i70a i179; have a17 := t_add e157 i155 j57_3 rfl; have a18 := in_u i155; have a19 := (t_mulc 5 (Or.inl e155) (inv_F hIc57 0 500 rfl v57_109_32) rfl).1; have oc := oc_304_109; omega) hix (sg_v e170 (by have q9 := (hv.2.1 (hkz.trans (in_at i161))).2; rw [← e70b] at q9; exact q9) (tkn_l1 ht (hkz.trans (in_at i161)))) (hF70.1 128 rfl)
                        have n57m : HQ6 s (sI s70 128 z157.toNatClampNeg z170) ((y57_2).toInt - 97) ((Int32.ofInt 1)) (z70a).toInt.toNat := by intro _ h; exact absurd h (by decide)
                        have n57n : HQ7 s (sI s70 128 z157.toNatClampNeg z170) ((y57_2).toInt - 97) := by intro hf; exfalso; exact hf (by show (s70.2.2.1 109 23).toInt = 0; rw [← e82]; exact c85)
                        have m57 : 100 - 10 * (z180).toInt + 5 * ((Int32.ofInt 1)).toInt + 9 - (z82).toInt < ((k57 : Nat) : Int) := by have a0 := oa12 ro_109_22 ro_109_9 ((inv_F hIc57 0 500 rfl v57_109_32)) i66 ((inv_F hIc57 0 1000 rfl v57_109_27)) i59 j57_3 j57_2 j57_1 i161 ((in_c 1 rfl)) i57; have a12 := t_add e180 j57_3 (in_c 1 rfl) rfl; have a13 := oa4 i85 i94 i70a i179; have a17 := t_add e157 i155 j57_3 rfl; have a18 := in_u i155; have a19 := (t_mulc 5 (Or.inl e155) (inv_F hIc57 0 500 rfl v57_109_32) rfl).1; have oc := oc_304_109; omega
                        exact gg_w (by first | exact Nat.le_add_right _ _ | exact gw2 | exact gw3 | exact gwe rfl | exact gwf rfl | exact gwg rfl | exact gwh rfl | omega) (gg_f (gf_cons rfl (gf_cons rfl (gf_cons rfl (gf_cons rfl (gf_cons rfl gf_nil))))) (ih57  (sI s70 128 z157.toNatClampNeg z170) y57_1 y57_2 z180 (Int32.ofInt 1) z70a z82 w57_109_32 hI179 (fr_sI rfl (fr_tr rfl hFc57 hF70)) (in_w 0 1000 j57_1 rfl) (in_w 97 119 j57_2 rfl) i57 (in_w 0 1 (in_c 1 rfl) rfl) v57 v57a v57b n57 n57a n57b n57c n57d n57e n57f n57g n57h n57i n57j n57k n57l n57m n57n m57))
              · skip
                have i100 := r_eq1 3 3 c100 i76 (in_c 3 rfl) rfl
                refine g_aload_n 104 (gd rfl) rfl rfl ?_
                refine g_getI 107 (gd rfl) rfl rfl rfl (fun z104 e104 => ?_)
                have q104 : z70c = z104 := (e70b).trans e104.symm
                subst q104
                refine g_bipush 59 109 (gd rfl) rfl rfl ?_
                refine g_cmp_eq 112 121 (gd rfl) rfl rfl (fun c109 => ?_) (fun c109 => ?_)
                · skip
                  have i109 := r_eq1 59 59 c109 (i_rng z70c) (in_c 59 rfl) rfl
                  refine g_iload 123 (gd rfl) rfl rfl ?_
                  refine g_iconst 3 124 (gd rfl) rfl rfl ?_
                  refine g_cmp_eq 127 131 (gd rfl) rfl rfl (fun c124 => ?_) (fun c124 => ?_)
                  · skip
                    refine g_iconst 0 132 (gd rfl) rfl rfl ?_
                    refine g_istore 134 (gd rfl) rfl (Nat.le_of_ble_eq_true rfl) ?_
                    refine g_aload_n 135 (gd rfl) rfl rfl ?_
                    refine g_getI 138 (gd rfl) rfl rfl rfl (fun z135 e135 => ?_)
                    have q135 : z82 = z135 := (e82).trans e135.symm
                    subst q135
                    refine g_if_ne 141 183 (gd rfl) rfl rfl (fun c138 => ?_) (fun c138 => ?_)
                    · skip
                      exact zn_ne c138 i85 rfl
                    · skip
                      refine g_iload 143 (gd rfl) rfl rfl ?_
                      refine g_if_eq 146 183 (gd rfl) rfl rfl (fun c143 => ?_) (fun c143 => ?_)
                      · skip
                        refine g_goto 57 (gd rfl) rfl ?_
                        have v57 : w57_109_32 = s70.2.2.1 109 32 := fr_F (v57_109_32) hF70 rfl
                        have n57 : (z70a).toInt ≤ (u_109_22).toInt := by have a0 := oa15 ro_109_22 ro_109_9 ((inv_F hIc57 0 500 rfl v57_109_32)) i66 ((inv_F hIc57 0 1000 rfl v57_109_27)) i59 j57_3 j57_2 j57_1 i100 ((in_c 0 rfl)) i85 i109 i94 i70a; have oc := oc_304_109; omega
                        have n57a : (u_109_27).toInt ≤ (z70a).toInt := by have a0 := oa15 ro_109_22 ro_109_9 ((inv_F hIc57 0 500 rfl v57_109_32)) i66 ((inv_F hIc57 0 1000 rfl v57_109_27)) i59 j57_3 j57_2 j57_1 i100 ((in_c 0 rfl)) i85 i109 i94 i70a; have oc := oc_304_109; omega
                        have n57b : 3 * (w57_109_32).toInt + 1 + (y57_3).toInt ≤ (z70a).toInt := by have a0 := oa15 ro_109_22 ro_109_9 ((inv_F hIc57 0 500 rfl v57_109_32)) i66 ((inv_F hIc57 0 1000 rfl v57_109_27)) i59 j57_3 j57_2 j57_1 i100 ((in_c 0 rfl)) i85 i109 i94 i70a; have oc := oc_304_109; omega
                        have n57c : ((Int32.ofInt 0)).toInt = 0 → (z82).toInt = 0 → 3 * (w57_109_32).toInt + 3 ≤ (z70a).toInt := by first | exact fun _ h => absurd h (Int.ne_of_gt (in_u i85).1) | (have a0 := oa15 ro_109_22 ro_109_9 ((inv_F hIc57 0 500 rfl v57_109_32)) i66 ((inv_F hIc57 0 1000 rfl v57_109_27)) i59 j57_3 j57_2 j57_1 i100 ((in_c 0 rfl)) i85 i109 i94 i70a; have oc := oc_304_109; omega)
                        have n57d : ((Int32.ofInt 0)).toInt ≠ 0 → 0 ≤ (y57_3).toInt := by exact fun h => absurd rfl h
                        have n57e : (u_109_27).toInt + (y57_3).toInt ≤ (z70a).toInt := by have a0 := oa15 ro_109_22 ro_109_9 ((inv_F hIc57 0 500 rfl v57_109_32)) i66 ((inv_F hIc57 0 1000 rfl v57_109_27)) i59 j57_3 j57_2 j57_1 i100 ((in_c 0 rfl)) i85 i109 i94 i70a; have oc := oc_304_109; omega
                        have n57f : ((Int32.ofInt 0)).toInt = 0 → (z82).toInt = 0 → (u_109_27).toInt + 1 ≤ (z70a).toInt := by first | exact fun _ h => absurd h (Int.ne_of_gt (in_u i85).1) | (have a0 := oa15 ro_109_22 ro_109_9 ((inv_F hIc57 0 500 rfl v57_109_32)) i66 ((inv_F hIc57 0 1000 rfl v57_109_27)) i59 j57_3 j57_2 j57_1 i100 ((in_c 0 rfl)) i85 i109 i94 i70a; have oc := oc_304_109; omega)
                        have n57g : (s70.2.2.1 109 23).toInt = 0 → LDQ s70 (s70.2.2.1 109 32).toNatClampNeg := by (intro _; rw [show (s70).2.2.1 109 32 = sc57.2.2.1 109 32 from hF70.2.2.1 109 32 rfl]; exact ldq_cg (g57_0 (by rw [← v57_109_23]; exact c66)) (hF70.1 110 rfl) (hF70.1 112 rfl) (fun j _ => by rw [hF70.1 127 rfl]) (fun j _ => by rw [hF70.1 128 rfl]))
                        have n57h : (s70.2.2.1 109 23).toInt = 0 → ((y57_2).toInt = 110 → 1 ≤ (y57_3).toInt → nq (s70.1 128 (5 * (s70.2.2.1 109 32).toNatClampNeg)) 0 25) ∧ ((y57_2).toInt = 97 → 5 ≤ (y57_3).toInt → nq (s70.1 128 (5 * (s70.2.2.1 109 32).toNatClampNeg + 4)) 0 25) := by (intro _; have hl := g57_1 (by rw [← v57_109_23]; exact c66); rw [show (s70).2.2.1 109 32 = sc57.2.2.1 109 32 from hF70.2.2.1 109 32 rfl, hF70.1 128 rfl]; exact hl)
                        have n57i : ((Int32.ofInt 0)).toInt = 0 → (s70.2.2.1 109 23).toInt = 0 → ((y57_2).toInt = 110 → 1 ≤ (y57_3).toInt) ∧ ((y57_2).toInt = 97 → 5 ≤ (y57_3).toInt) := by first | (exact fun hm => absurd hm (by decide)) | (intro hm _; have hp := p76; unfold SHP at hp; have h3 := c124; have h13 : (Int32.ofInt 3).toInt = 3 := rfl; have h11 : (Int32.ofInt 1).toInt = 1 := rfl; have r3 := j57_3; unfold In at r3; exact ⟨fun a1 => (by have q := hp.1 a1; omega), fun a1 => (by have q := hp.2.1 a1; omega)⟩)
                        have n57j : C4 (y57_2).toInt ∧ (y57_2) = s.2.2.1 109 30 ∧ (s.2.2.1 109 28).toInt = 1 ∧ (y57_1) = s.2.2.1 109 29 := by exact g57_3
                        have n57k : s70.1 110 = s.1 110 ∧ s70.1 112 = s.1 112 ∧ s70.1 127 = s.1 127 ∧ (∀ j, j < 5 * (s.2.2.1 109 32).toNatClampNeg → s70.1 128 j = s.1 128 j) ∧ s70.2.2.1 109 32 = s.2.2.1 109 32 := by exact ⟨(hF70.1 110 rfl).trans g57_4.1, (hF70.1 112 rfl).trans g57_4.2.1, (hF70.1 127 rfl).trans g57_4.2.2.1, fun j hj => by rw [hF70.1 128 rfl]; exact g57_4.2.2.2.1 j hj, (hF70.2.2.1 109 32 rfl).trans g57_4.2.2.2.2⟩
                        have n57l : HQ5 s s70 ((y57_2).toInt - 97) (y57_3) ((Int32.ofInt 0)) (z70a).toInt.toNat := by first | (intro _ h; exact absurd rfl h) | (intro hf; exfalso; rw [← e82] at hf; exact c85 hf)
                        have n57m : HQ6 s s70 ((y57_2).toInt - 97) ((Int32.ofInt 0)) (z70a).toInt.toNat := by first | (intro _ h; exact absurd h (by decide)) | (intro hf; exfalso; rw [← e82] at hf; exact c85 hf) | ((try clear hp76); obtain ⟨k, v, ht, hn⟩ := p70; rw [show sc57.1 125 = s.1 125 from hFc57.1 125 rfl, show sc57.2.2.1 109 22 = s.2.2.1 109 22 from hFc57.2.2.1 109 22 rfl, ← v57_109_27] at ht; have hv := (ntk_f hn (by rw [← v57_109_23]; exact c66)).2 (by rw [← e82]; exact c85); have htk := ntv_t hv (tkn_e ht).2.2.2.2.1 (tkn_e ht).2.2.2.2.2; rw [← e70a] at htk; have hkz : k = z76.toInt := htk.symm.trans c94; rw [(show z70a = s70.2.2.1 109 27 from e70)]; exact hq6_e (by rw [← v57_109_23]; exact c66) c59 g57_5 g57_3.1 ht p76a hkz (in_at i100) j57_3.1 (hF70.1 128 rfl))
                        have n57n : HQ7 s s70 ((y57_2).toInt - 97) := by first | ((try clear hp76); obtain ⟨k, v, ht, hn⟩ := p70; rw [show sc57.1 125 = s.1 125 from hFc57.1 125 rfl, show sc57.2.2.1 109 22 = s.2.2.1 109 22 from hFc57.2.2.1 109 22 rfl, ← v57_109_27] at ht; exact hq7_t hI70 (by rw [← v57_109_23]; exact c66) c59 g57_5 g57_3.1 j57_3.1 ht hn) | (intro hf; exfalso; exact hf (by rw [← e82]; exact c85))
                        have m57 : 100 - 10 * (y57_3).toInt + 5 * ((Int32.ofInt 0)).toInt + 9 - (z82).toInt < ((k57 : Nat) : Int) := by have a0 := oa15 ro_109_22 ro_109_9 ((inv_F hIc57 0 500 rfl v57_109_32)) i66 ((inv_F hIc57 0 1000 rfl v57_109_27)) i59 j57_3 j57_2 j57_1 i100 ((in_c 0 rfl)) i85 i109 i94 i70a; have oc := oc_304_109; omega
                        exact gg_w (by first | exact Nat.le_add_right _ _ | exact gw2 | exact gw3 | exact gwe rfl | exact gwf rfl | exact gwg rfl | exact gwh rfl | omega) (gg_f (gf_cons rfl (gf_cons rfl (gf_cons rfl (gf_cons rfl (gf_cons rfl gf_nil))))) (ih57  s70 y57_1 y57_2 y57_3 (Int32.ofInt 0) z70a z82 w57_109_32 hI70 (fr_tr rfl hFc57 hF70) (in_w 0 1000 j57_1 rfl) (in_w 97 119 j57_2 rfl) (in_w 0 5 j57_3 rfl) (in_w 0 1 (in_c 0 rfl) rfl) e70 e82 v57 n57 n57a n57b n57c n57d n57e n57f n57g n57h n57i n57j n57k n57l n57m n57n m57))
                      · skip
                        exact zn_ne c143 (in_c 0 rfl) rfl
                  · skip
                    exact n_ne c124 i100 (in_c 3 rfl) rfl
                · skip
                  refine g_aload_n 113 (gd rfl) rfl rfl ?_
                  refine g_iconst 2 114 (gd rfl) rfl rfl ?_
                  refine g_aload_n 115 (gd rfl) rfl rfl ?_
                  refine g_getI 118 (gd rfl) rfl rfl rfl (fun z115 e115 => ?_)
                  have i115 := inv_F hI70 0 1000 rfl e115
                  refine g_callv (X := _) (As := [.int (Int32.ofInt 2), .int z115]) (r := []) (b := A 109) (q := 109) 121 (gd rfl) rfl rfl rfl rfl rfl (ww_o rfl) (Nat.le_of_ble_eq_true rfl) (Nat.zero_le _) (Nat.zero_le _) (f_298 (by first | exact dq1 hd rfl | exact dq0 hd rfl | exact dq2 hd rfl | exact dq3 hd rfl | omega) hI70 (in_w 1 5 (in_c 2 rfl) rfl) e82) (fun e u h => h) (fun v u h => ?_)
                  obtain ⟨s118, hI118, hF118, n118, rfl, rfl, p118⟩ := h
                  obtain ⟨z118a, e118⟩ : ∃ w, w = s118.2.2.1 109 23 := ⟨_, rfl⟩
                  have i118a := inv_F hI118 0 9 rfl e118
                  rw [← (show z118a = s118.2.2.1 109 23 from e118)] at n118
                  show GG _ _ _ _ _ _ _ _ [] _ _ _
                  refine g_iload 123 (gd rfl) rfl rfl ?_
                  refine g_iconst 3 124 (gd rfl) rfl rfl ?_
                  refine g_cmp_eq 127 131 (gd rfl) rfl rfl (fun c124 => ?_) (fun c124 => ?_)
                  · skip
                    refine g_iconst 0 132 (gd rfl) rfl rfl ?_
                    refine g_istore 134 (gd rfl) rfl (Nat.le_of_ble_eq_true rfl) ?_
                    refine g_aload_n 135 (gd rfl) rfl rfl ?_
                    refine g_getI 138 (gd rfl) rfl rfl rfl (fun z135 e135 => ?_)
                    have q135 : z118a = z135 := (e118).trans e135.symm
                    subst q135
                    refine g_if_ne 141 183 (gd rfl) rfl rfl (fun c138 => ?_) (fun c138 => ?_)
                    · skip
                      have i138 := z_ne 1 9 c138 i118a rfl
                      refine g_goto 57 (gd rfl) rfl ?_
                      have v57 : z70a = s118.2.2.1 109 27 := fr_F (e70) hF118 rfl
                      have v57a : w57_109_32 = s118.2.2.1 109 32 := fr_F (fr_F (v57_109_32) hF70 rfl) hF118 rfl
                      have n57 : (z70a).toInt ≤ (u_109_22).toInt := by have a0 := oa15 ro_109_22 ro_109_9 ((inv_F hIc57 0 500 rfl v57_109_32)) i66 ((inv_F hIc57 0 1000 rfl v57_109_27)) i59 j57_3 j57_2 j57_1 i100 ((in_c 0 rfl)) i138 i115 i94 i70a; have oc := oc_304_109; omega
                      have n57a : (u_109_27).toInt ≤ (z70a).toInt := by have a0 := oa15 ro_109_22 ro_109_9 ((inv_F hIc57 0 500 rfl v57_109_32)) i66 ((inv_F hIc57 0 1000 rfl v57_109_27)) i59 j57_3 j57_2 j57_1 i100 ((in_c 0 rfl)) i138 i115 i94 i70a; have oc := oc_304_109; omega
                      have n57b : 3 * (w57_109_32).toInt + 1 + (y57_3).toInt ≤ (z70a).toInt := by have a0 := oa15 ro_109_22 ro_109_9 ((inv_F hIc57 0 500 rfl v57_109_32)) i66 ((inv_F hIc57 0 1000 rfl v57_109_27)) i59 j57_3 j57_2 j57_1 i100 ((in_c 0 rfl)) i138 i115 i94 i70a; have oc := oc_304_109; omega
                      have n57c : ((Int32.ofInt 0)).toInt = 0 → (z118a).toInt = 0 → 3 * (w57_109_32).toInt + 3 ≤ (z70a).toInt := by first | exact fun _ h => absurd h (Int.ne_of_gt n118) | (have a0 := oa15 ro_109_22 ro_109_9 ((inv_F hIc57 0 500 rfl v57_109_32)) i66 ((inv_F hIc57 0 1000 rfl v57_109_27)) i59 j57_3 j57_2 j57_1 i100 ((in_c 0 rfl)) i138 i115 i94 i70a; have oc := oc_304_109; omega)
                      have n57d : ((Int32.ofInt 0)).toInt ≠ 0 → 0 ≤ (y57_3).toInt := by exact fun h => absurd rfl h
                      have n57e : (u_109_27).toInt + (y57_3).toInt ≤ (z70a).toInt := by have a0 := oa15 ro_109_22 ro_109_9 ((inv_F hIc57 0 500 rfl v57_109_32)) i66 ((inv_F hIc57 0 1000 rfl v57_109_27)) i59 j57_3 j57_2 j57_1 i100 ((in_c 0 rfl)) i138 i115 i94 i70a; have oc := oc_304_109; omega
                      have n57f : ((Int32.ofInt 0)).toInt = 0 → (z118a).toInt = 0 → (u_109_27).toInt + 1 ≤ (z70a).toInt := by first | exact fun _ h => absurd h (Int.ne_of_gt n118) | (have a0 := oa15 ro_109_22 ro_109_9 ((inv_F hIc57 0 500 rfl v57_109_32)) i66 ((inv_F hIc57 0 1000 rfl v57_109_27)) i59 j57_3 j57_2 j57_1 i100 ((in_c 0 rfl)) i138 i115 i94 i70a; have oc := oc_304_109; omega)
                      have n57g : (s118.2.2.1 109 23).toInt = 0 → LDQ s118 (s118.2.2.1 109 32).toNatClampNeg := by (intro hf; exfalso; have hg : (s118.2.2.1 109 23).toInt = 0 := hf; rw [← e118] at hg; have hn := n118; omega)
                      have n57h : (s118.2.2.1 109 23).toInt = 0 → ((y57_2).toInt = 110 → 1 ≤ (y57_3).toInt → nq (s118.1 128 (5 * (s118.2.2.1 109 32).toNatClampNeg)) 0 25) ∧ ((y57_2).toInt = 97 → 5 ≤ (y57_3).toInt → nq (s118.1 128 (5 * (s118.2.2.1 109 32).toNatClampNeg + 4)) 0 25) := by (intro hf; exfalso; have hg : (s118.2.2.1 109 23).toInt = 0 := hf; rw [← e118] at hg; have hn := n118; omega)
                      have n57i : ((Int32.ofInt 0)).toInt = 0 → (s118.2.2.1 109 23).toInt = 0 → ((y57_2).toInt = 110 → 1 ≤ (y57_3).toInt) ∧ ((y57_2).toInt = 97 → 5 ≤ (y57_3).toInt) := by (intro _ hf; exfalso; have hg : (s118.2.2.1 109 23).toInt = 0 := hf; rw [← e118] at hg; have hn := n118; omega)
                      have n57j : C4 (y57_2).toInt ∧ (y57_2) = s.2.2.1 109 30 ∧ (s.2.2.1 109 28).toInt = 1 ∧ (y57_1) = s.2.2.1 109 29 := by exact g57_3
                      have n57k : s118.1 110 = s.1 110 ∧ s118.1 112 = s.1 112 ∧ s118.1 127 = s.1 127 ∧ (∀ j, j < 5 * (s.2.2.1 109 32).toNatClampNeg → s118.1 128 j = s.1 128 j) ∧ s118.2.2.1 109 32 = s.2.2.1 109 32 := by have h9 := (show _ from ⟨(hF70.1 110 rfl).trans g57_4.1, (hF70.1 112 rfl).trans g57_4.2.1, (hF70.1 127 rfl).trans g57_4.2.2.1, fun j hj => by rw [hF70.1 128 rfl]; exact g57_4.2.2.2.1 j hj, (hF70.2.2.1 109 32 rfl).trans g57_4.2.2.2.2⟩ : s70.1 110 = s.1 110 ∧ s70.1 112 = s.1 112 ∧ s70.1 127 = s.1 127 ∧ (∀ j, j < 5 * (s.2.2.1 109 32).toNatClampNeg → s70.1 128 j = s.1 128 j) ∧ s70.2.2.1 109 32 = s.2.2.1 109 32); exact ⟨(hF118.1 110 rfl).trans h9.1, (hF118.1 112 rfl).trans h9.2.1, (hF118.1 127 rfl).trans h9.2.2.1, fun j hj => by rw [hF118.1 128 rfl]; exact h9.2.2.2.1 j hj, (hF118.2.2.1 109 32 rfl).trans h9.2.2.2.2⟩
                      have n57l : HQ5 s s118 ((y57_2).toInt - 97) (y57_3) ((Int32.ofInt 0)) (z70a).toInt.toNat := by intro hf; exfalso; rw [← e118] at hf; have hn := n118; omega
                      have n57m : HQ6 s s118 ((y57_2).toInt - 97) ((Int32.ofInt 0)) (z70a).toInt.toNat := by intro hf; exfalso; rw [← e118] at hf; have hn := n118; omega
                      have n57n : HQ7 s s118 ((y57_2).toInt - 97) := by intro _; (try clear hp76); obtain ⟨k, v, ht, hn⟩ := p70; rw [show sc57.1 125 = s.1 125 from hFc57.1 125 rfl, show sc57.2.2.1 109 22 = s.2.2.1 109 22 from hFc57.2.2.1 109 22 rfl, ← v57_109_27] at ht; have hf := ntk_f hn (by rw [← v57_109_23]; exact c66); have hk0 := (tkn_e ht).2.2.2.2.1; have hk5 := (tkn_e ht).2.2.2.2.2; have hc9 : cmI (y57_2.toInt - 97) := c4_i g57_3.1; have h5 := g57_5 (by rw [← v57_109_23]; exact c66) c59; have hw := p76a hc9 h5.1; have hv := hf.2 (by rw [← e82]; exact c85); clear hf; have htk := ntv_t hv hk0 hk5; rw [← e70a] at htk; have hb := p118.1 (by rw [← e82]; exact c85); refine ⟨by rw [hb.2]; have a0 := oa15 ro_109_22 ro_109_9 ((inv_F hIc57 0 500 rfl v57_109_32)) i66 ((inv_F hIc57 0 1000 rfl v57_109_27)) i59 j57_3 j57_2 j57_1 i100 ((in_c 0 rfl)) i138 i115 i94 i70a; have oc := oc_304_109; omega, fun a ha => ?_⟩; rw [hb.1, hb.2]; have hk2 : cmF k = 2 := (by unfold cmF; rw [if_neg hv.2.2.2.2.1, if_neg hv.2.2.2.2.2]); rw [show (Int32.ofInt 2).toInt = cmF k from (by rw [hk2]; rfl), e115]; refine cs_bad hc9 ha (by have h7 := h5.1; omega) (h5.2 a ha) ht ?_; rw [← hw, ← htk]; first | (exact c94) | (intro _; have q9 := (hv.2.2.2.1 ((htk.symm.trans c94).trans (in_at i100))).2; rw [← e70b] at q9; exact absurd q9 c109)
                      have m57 : 100 - 10 * (y57_3).toInt + 5 * ((Int32.ofInt 0)).toInt + 9 - (z118a).toInt < ((k57 : Nat) : Int) := by have a0 := oa15 ro_109_22 ro_109_9 ((inv_F hIc57 0 500 rfl v57_109_32)) i66 ((inv_F hIc57 0 1000 rfl v57_109_27)) i59 j57_3 j57_2 j57_1 i100 ((in_c 0 rfl)) i138 i115 i94 i70a; have oc := oc_304_109; omega
                      exact gg_w (by first | exact Nat.le_add_right _ _ | exact gw2 | exact gw3 | exact gwe rfl | exact gwf rfl | exact gwg rfl | exact gwh rfl | omega) (gg_f (gf_cons rfl (gf_cons rfl (gf_cons rfl (gf_cons rfl (gf_cons rfl gf_nil))))) (ih57  s118 y57_1 y57_2 y57_3 (Int32.ofInt 0) z70a z118a w57_109_32 hI118 (fr_tr rfl (fr_tr rfl hFc57 hF70) hF118) (in_w 0 1000 j57_1 rfl) (in_w 97 119 j57_2 rfl) (in_w 0 5 j57_3 rfl) (in_w 0 1 (in_c 0 rfl) rfl) v57 e118 v57a n57 n57a n57b n57c n57d n57e n57f n57g n57h n57i n57j n57k n57l n57m n57n m57))
                    · skip
                      have i138 := z_eq 0 0 c138 i118a rfl
                      refine g_iload 143 (gd rfl) rfl rfl ?_
                      refine g_if_eq 146 183 (gd rfl) rfl rfl (fun c143 => ?_) (fun c143 => ?_)
                      · skip
                        refine g_goto 57 (gd rfl) rfl ?_
                        have v57 : z70a = s118.2.2.1 109 27 := fr_F (e70) hF118 rfl
                        have v57a : w57_109_32 = s118.2.2.1 109 32 := fr_F (fr_F (v57_109_32) hF70 rfl) hF118 rfl
                        have n57 : (z70a).toInt ≤ (u_109_22).toInt := by have a0 := oa15 ro_109_22 ro_109_9 ((inv_F hIc57 0 500 rfl v57_109_32)) i66 ((inv_F hIc57 0 1000 rfl v57_109_27)) i59 j57_3 j57_2 j57_1 i100 ((in_c 0 rfl)) i138 i115 i94 i70a; have oc := oc_304_109; omega
                        have n57a : (u_109_27).toInt ≤ (z70a).toInt := by have a0 := oa15 ro_109_22 ro_109_9 ((inv_F hIc57 0 500 rfl v57_109_32)) i66 ((inv_F hIc57 0 1000 rfl v57_109_27)) i59 j57_3 j57_2 j57_1 i100 ((in_c 0 rfl)) i138 i115 i94 i70a; have oc := oc_304_109; omega
                        have n57b : 3 * (w57_109_32).toInt + 1 + (y57_3).toInt ≤ (z70a).toInt := by have a0 := oa15 ro_109_22 ro_109_9 ((inv_F hIc57 0 500 rfl v57_109_32)) i66 ((inv_F hIc57 0 1000 rfl v57_109_27)) i59 j57_3 j57_2 j57_1 i100 ((in_c 0 rfl)) i138 i115 i94 i70a; have oc := oc_304_109; omega
                        have n57c : ((Int32.ofInt 0)).toInt = 0 → (z118a).toInt = 0 → 3 * (w57_109_32).toInt + 3 ≤ (z70a).toInt := by first | exact fun _ h => absurd h (Int.ne_of_gt n118) | (have a0 := oa15 ro_109_22 ro_109_9 ((inv_F hIc57 0 500 rfl v57_109_32)) i66 ((inv_F hIc57 0 1000 rfl v57_109_27)) i59 j57_3 j57_2 j57_1 i100 ((in_c 0 rfl)) i138 i115 i94 i70a; have oc := oc_304_109; omega)
                        have n57d : ((Int32.ofInt 0)).toInt ≠ 0 → 0 ≤ (y57_3).toInt := by exact fun h => absurd rfl h
                        have n57e : (u_109_27).toInt + (y57_3).toInt ≤ (z70a).toInt := by have a0 := oa15 ro_109_22 ro_109_9 ((inv_F hIc57 0 500 rfl v57_109_32)) i66 ((inv_F hIc57 0 1000 rfl v57_109_27)) i59 j57_3 j57_2 j57_1 i100 ((in_c 0 rfl)) i138 i115 i94 i70a; have oc := oc_304_109; omega
                        have n57f : ((Int32.ofInt 0)).toInt = 0 → (z118a).toInt = 0 → (u_109_27).toInt + 1 ≤ (z70a).toInt := by first | exact fun _ h => absurd h (Int.ne_of_gt n118) | (have a0 := oa15 ro_109_22 ro_109_9 ((inv_F hIc57 0 500 rfl v57_109_32)) i66 ((inv_F hIc57 0 1000 rfl v57_109_27)) i59 j57_3 j57_2 j57_1 i100 ((in_c 0 rfl)) i138 i115 i94 i70a; have oc := oc_304_109; omega)
                        have n57g : (s118.2.2.1 109 23).toInt = 0 → LDQ s118 (s118.2.2.1 109 32).toNatClampNeg := by (intro hf; exfalso; have hg : (s118.2.2.1 109 23).toInt = 0 := hf; rw [← e118] at hg; have hn := n118; omega)
                        have n57h : (s118.2.2.1 109 23).toInt = 0 → ((y57_2).toInt = 110 → 1 ≤ (y57_3).toInt → nq (s118.1 128 (5 * (s118.2.2.1 109 32).toNatClampNeg)) 0 25) ∧ ((y57_2).toInt = 97 → 5 ≤ (y57_3).toInt → nq (s118.1 128 (5 * (s118.2.2.1 109 32).toNatClampNeg + 4)) 0 25) := by (intro hf; exfalso; have hg : (s118.2.2.1 109 23).toInt = 0 := hf; rw [← e118] at hg; have hn := n118; omega)
                        have n57i : ((Int32.ofInt 0)).toInt = 0 → (s118.2.2.1 109 23).toInt = 0 → ((y57_2).toInt = 110 → 1 ≤ (y57_3).toInt) ∧ ((y57_2).toInt = 97 → 5 ≤ (y57_3).toInt) := by (intro _ hf; exfalso; have hg : (s118.2.2.1 109 23).toInt = 0 := hf; rw [← e118] at hg; have hn := n118; omega)
                        have n57j : C4 (y57_2).toInt ∧ (y57_2) = s.2.2.1 109 30 ∧ (s.2.2.1 109 28).toInt = 1 ∧ (y57_1) = s.2.2.1 109 29 := by exact g57_3
                        have n57k : s118.1 110 = s.1 110 ∧ s118.1 112 = s.1 112 ∧ s118.1 127 = s.1 127 ∧ (∀ j, j < 5 * (s.2.2.1 109 32).toNatClampNeg → s118.1 128 j = s.1 128 j) ∧ s118.2.2.1 109 32 = s.2.2.1 109 32 := by have h9 := (show _ from ⟨(hF70.1 110 rfl).trans g57_4.1, (hF70.1 112 rfl).trans g57_4.2.1, (hF70.1 127 rfl).trans g57_4.2.2.1, fun j hj => by rw [hF70.1 128 rfl]; exact g57_4.2.2.2.1 j hj, (hF70.2.2.1 109 32 rfl).trans g57_4.2.2.2.2⟩ : s70.1 110 = s.1 110 ∧ s70.1 112 = s.1 112 ∧ s70.1 127 = s.1 127 ∧ (∀ j, j < 5 * (s.2.2.1 109 32).toNatClampNeg → s70.1 128 j = s.1 128 j) ∧ s70.2.2.1 109 32 = s.2.2.1 109 32); exact ⟨(hF118.1 110 rfl).trans h9.1, (hF118.1 112 rfl).trans h9.2.1, (hF118.1 127 rfl).trans h9.2.2.1, fun j hj => by rw [hF118.1 128 rfl]; exact h9.2.2.2.1 j hj, (hF118.2.2.1 109 32 rfl).trans h9.2.2.2.2⟩
                        have n57l : HQ5 s s118 ((y57_2).toInt - 97) (y57_3) ((Int32.ofInt 0)) (z70a).toInt.toNat := by intro hf; exfalso; rw [← e118] at hf; have hn := n118; omega
                        have n57m : HQ6 s s118 ((y57_2).toInt - 97) ((Int32.ofInt 0)) (z70a).toInt.toNat := by intro hf; exfalso; rw [← e118] at hf; have hn := n118; omega
                        have n57n : HQ7 s s118 ((y57_2).toInt - 97) := by intro _; (try clear hp76); obtain ⟨k, v, ht, hn⟩ := p70; rw [show sc57.1 125 = s.1 125 from hFc57.1 125 rfl, show sc57.2.2.1 109 22 = s.2.2.1 109 22 from hFc57.2.2.1 109 22 rfl, ← v57_109_27] at ht; have hf := ntk_f hn (by rw [← v57_109_23]; exact c66); have hk0 := (tkn_e ht).2.2.2.2.1; have hk5 := (tkn_e ht).2.2.2.2.2; have hc9 : cmI (y57_2.toInt - 97) := c4_i g57_3.1; have h5 := g57_5 (by rw [← v57_109_23]; exact c66) c59; have hw := p76a hc9 h5.1; have hv := hf.2 (by rw [← e82]; exact c85); clear hf; have htk := ntv_t hv hk0 hk5; rw [← e70a] at htk; have hb := p118.1 (by rw [← e82]; exact c85); refine ⟨by rw [hb.2]; have a0 := oa15 ro_109_22 ro_109_9 ((inv_F hIc57 0 500 rfl v57_109_32)) i66 ((inv_F hIc57 0 1000 rfl v57_109_27)) i59 j57_3 j57_2 j57_1 i100 ((in_c 0 rfl)) i138 i115 i94 i70a; have oc := oc_304_109; omega, fun a ha => ?_⟩; rw [hb.1, hb.2]; have hk2 : cmF k = 2 := (by unfold cmF; rw [if_neg hv.2.2.2.2.1, if_neg hv.2.2.2.2.2]); rw [show (Int32.ofInt 2).toInt = cmF k from (by rw [hk2]; rfl), e115]; refine cs_bad hc9 ha (by have h7 := h5.1; omega) (h5.2 a ha) ht ?_; rw [← hw, ← htk]; first | (exact c94) | (intro _; have q9 := (hv.2.2.2.1 ((htk.symm.trans c94).trans (in_at i100))).2; rw [← e70b] at q9; exact absurd q9 c109)
                        have m57 : 100 - 10 * (y57_3).toInt + 5 * ((Int32.ofInt 0)).toInt + 9 - (z118a).toInt < ((k57 : Nat) : Int) := by have a0 := oa15 ro_109_22 ro_109_9 ((inv_F hIc57 0 500 rfl v57_109_32)) i66 ((inv_F hIc57 0 1000 rfl v57_109_27)) i59 j57_3 j57_2 j57_1 i100 ((in_c 0 rfl)) i138 i115 i94 i70a; have oc := oc_304_109; omega
                        exact gg_w (by first | exact Nat.le_add_right _ _ | exact gw2 | exact gw3 | exact gwe rfl | exact gwf rfl | exact gwg rfl | exact gwh rfl | omega) (gg_f (gf_cons rfl (gf_cons rfl (gf_cons rfl (gf_cons rfl (gf_cons rfl gf_nil))))) (ih57  s118 y57_1 y57_2 y57_3 (Int32.ofInt 0) z70a z118a w57_109_32 hI118 (fr_tr rfl (fr_tr rfl hFc57 hF70) hF118) (in_w 0 1000 j57_1 rfl) (in_w 97 119 j57_2 rfl) (in_w 0 5 j57_3 rfl) (in_w 0 1 (in_c 0 rfl) rfl) v57 e118 v57a n57 n57a n57b n57c n57d n57e n57f n57g n57h n57i n57j n57k n57l n57m n57n m57))
                      · skip
                        exact zn_ne c143 (in_c 0 rfl) rfl
                  · skip
                    exact n_ne c124 i100 (in_c 3 rfl) rfl
  refine g_enter2 (k := 304) (N := 117901) (by first | exact dq1 hd rfl | exact dq0 hd rfl | exact dq2 hd rfl | exact dq3 hd rfl | omega) rfl (Nat.le_of_ble_eq_true rfl) ?_
  refine g_aload_n 1 (gd rfl) rfl rfl ?_
  refine g_getI 4 (gd rfl) rfl rfl rfl (fun z1 e1 => ?_)
  have q1 : u_109_29 = z1 := (e_109_29).trans e1.symm
  subst q1
  refine g_istore_n 5 (gd rfl) rfl (Nat.le_of_ble_eq_true rfl) ?_
  refine g_aload_n 6 (gd rfl) rfl rfl ?_
  refine g_getI 9 (gd rfl) rfl rfl rfl (fun z6 e6 => ?_)
  have q6 : u_109_30 = z6 := (e_109_30).trans e6.symm
  subst q6
  refine g_istore_n 10 (gd rfl) rfl (Nat.le_of_ble_eq_true rfl) ?_
  refine g_aload_n 11 (gd rfl) rfl rfl ?_
  refine g_getI 14 (gd rfl) rfl rfl rfl (fun z11 e11 => ?_)
  have q11 : u_109_28 = z11 := (e_109_28).trans e11.symm
  subst q11
  refine g_iconst 1 15 (gd rfl) rfl rfl ?_
  refine g_cmp_ne 18 42 (gd rfl) rfl rfl (fun c15 => ?_) (fun c15 => ?_)
  · skip
    refine g_aload_n 43 (gd rfl) rfl rfl ?_
    refine g_iconst 2 44 (gd rfl) rfl rfl ?_
    refine g_aload_n 45 (gd rfl) rfl rfl ?_
    refine g_getI 48 (gd rfl) rfl rfl rfl (fun z45 e45 => ?_)
    have q45 : u_109_29 = z45 := (e_109_29).trans e45.symm
    subst q45
    refine g_callv (X := _) (As := [.int (Int32.ofInt 2), .int u_109_29]) (r := []) (b := A 109) (q := 109) 51 (gd rfl) rfl rfl rfl rfl rfl (ww_o rfl) (Nat.le_of_ble_eq_true rfl) (Nat.zero_le _) (Nat.zero_le _) (f_298 (by first | exact dq1 hd rfl | exact dq0 hd rfl | exact dq2 hd rfl | exact dq3 hd rfl | omega) hI (in_w 1 5 (in_c 2 rfl) rfl) e_109_23) (fun e u h => h) (fun v u h => ?_)
    obtain ⟨s48, hI48, hF48, n48, rfl, rfl, p48⟩ := h
    obtain ⟨z48a, e48⟩ : ∃ w, w = s48.2.2.1 109 23 := ⟨_, rfl⟩
    have i48a := inv_F hI48 0 9 rfl e48
    rw [← (show z48a = s48.2.2.1 109 23 from e48)] at n48
    show GG _ _ _ _ _ _ _ _ [] _ _ _
    have n51 : (s48.2.2.1 109 23).toInt = 0 → LDQ s48 (s48.2.2.1 109 32).toNatClampNeg := by (intro hf; exfalso; have hg : (s48.2.2.1 109 23).toInt = 0 := hf; rw [← e48] at hg; have hn := n48; omega)
    have n51a : RCM s s48 := by exact rcm_48 (by first | exact p48 | (rw [← e_109_29]; exact p48)) q_1 (by rw [← e_109_29]; have a0 := oa7 ro_109_9 ((inv_F hI 0 9 rfl e_109_23)) ((inv_F hI 0 1000 rfl e_109_29)) ((inv_F hI 0 500 rfl e_109_32)) ((inv_F hI 0 1000 rfl e_109_22)) ((inv_F hI 0 1000 rfl e_109_27)) i48a; have oc := oc_304_109; omega) (by rw [← e_109_28, ← e_109_30]; unfold C4; have a0 := oa7 ro_109_9 ((inv_F hI 0 9 rfl e_109_23)) ((inv_F hI 0 1000 rfl e_109_29)) ((inv_F hI 0 500 rfl e_109_32)) ((inv_F hI 0 1000 rfl e_109_22)) ((inv_F hI 0 1000 rfl e_109_27)) i48a; have oc := oc_304_109; omega)
    have n51b : G0S s s48 := by exact g0_cg (hF48.1 110 rfl) (hF48.1 112 rfl)
    have n51c : G12 s s48 := by exact g12_cg (hF48.1 110 rfl) (hF48.1 112 rfl)
    have n51d : (u_109_27).toInt ≤ (u_109_22).toInt := by have a0 := oa7 ro_109_9 ((inv_F hI 0 9 rfl e_109_23)) ((inv_F hI 0 1000 rfl e_109_29)) ((inv_F hI 0 500 rfl e_109_32)) ((inv_F hI 0 1000 rfl e_109_22)) ((inv_F hI 0 1000 rfl e_109_27)) i48a; have oc := oc_304_109; omega
    have n51e : (s48.2.2.1 109 27).toInt ≤ (s48.2.2.1 109 22).toInt := by have b0 : u_109_27 = s48.2.2.1 109 27 := fr_F (e_109_27) hF48 rfl; have b1 : u_109_22 = s48.2.2.1 109 22 := fr_F (e_109_22) hF48 rfl; rw [← b0, ← b1]; exact n51d
    have n51f : (u_109_27).toInt ≤ (u_109_27).toInt := by exact Int.le_refl _
    have n51g : (s.2.2.1 109 27).toInt ≤ (s48.2.2.1 109 27).toInt := by have b0 : u_109_27 = s48.2.2.1 109 27 := fr_F (e_109_27) hF48 rfl; first | (rw [← b0, ← e_109_27]; exact n51f) | (rw [← b0]; exact n51f)
    have n51h : (z48a).toInt = 0 → 3 * (u_109_32).toInt ≤ (u_109_27).toInt := by have a0 := oa7 ro_109_9 ((inv_F hI 0 9 rfl e_109_23)) ((inv_F hI 0 1000 rfl e_109_29)) ((inv_F hI 0 500 rfl e_109_32)) ((inv_F hI 0 1000 rfl e_109_22)) ((inv_F hI 0 1000 rfl e_109_27)) i48a; have oc := oc_304_109; omega
    have n51i : (s48.2.2.1 109 23).toInt = 0 → 3 * (s48.2.2.1 109 32).toInt ≤ (s48.2.2.1 109 27).toInt := by have b0 : z48a = s48.2.2.1 109 23 := e48; have b1 : u_109_32 = s48.2.2.1 109 32 := fr_F (e_109_32) hF48 rfl; have b2 : u_109_27 = s48.2.2.1 109 27 := fr_F (e_109_27) hF48 rfl; rw [← b0, ← b1, ← b2]; exact n51h
    have n51j : (z48a).toInt = 0 → (u_109_27).toInt + 1 ≤ (u_109_27).toInt := by have a0 := oa7 ro_109_9 ((inv_F hI 0 9 rfl e_109_23)) ((inv_F hI 0 1000 rfl e_109_29)) ((inv_F hI 0 500 rfl e_109_32)) ((inv_F hI 0 1000 rfl e_109_22)) ((inv_F hI 0 1000 rfl e_109_27)) i48a; have oc := oc_304_109; omega
    have n51k : (s48.2.2.1 109 23).toInt = 0 → (s.2.2.1 109 27).toInt + 1 ≤ (s48.2.2.1 109 27).toInt := by have b0 : z48a = s48.2.2.1 109 23 := e48; have b1 : u_109_27 = s48.2.2.1 109 27 := fr_F (e_109_27) hF48 rfl; first | (rw [← b0, ← b1, ← e_109_27]; exact n51j) | (rw [← b0, ← b1]; exact n51j)
    have n51l : (z48a).toInt = 0 → (u_109_9).toInt + (u_109_32).toInt ≤ 4000 := by have a0 := oa7 ro_109_9 ((inv_F hI 0 9 rfl e_109_23)) ((inv_F hI 0 1000 rfl e_109_29)) ((inv_F hI 0 500 rfl e_109_32)) ((inv_F hI 0 1000 rfl e_109_22)) ((inv_F hI 0 1000 rfl e_109_27)) i48a; have oc := oc_304_109; omega
    have n51m : (s48.2.2.1 109 23).toInt = 0 → (s48.2.2.1 109 9).toInt + (s48.2.2.1 109 32).toInt ≤ 4000 := by have b0 : z48a = s48.2.2.1 109 23 := e48; have b1 : u_109_9 = s48.2.2.1 109 9 := fr_F (e_109_9) hF48 rfl; have b2 : u_109_32 = s48.2.2.1 109 32 := fr_F (e_109_32) hF48 rfl; rw [← b0, ← b1, ← b2]; exact n51l
    exact g_return (gd rfl) rfl (hP _ _ ⟨s48, hI48, (fr_tr rfl fr_rf hF48), n51e, n51g, n51i, n51k, n51m, rfl, rfl, n51, n51a, n51b, n51c⟩)
  · skip
    have i15 := r_eq1 1 1 c15 (inv_F hI (-2147483648) 2147483647 rfl e_109_28) (in_c 1 rfl) rfl
    refine g_iload_n 19 (gd rfl) rfl rfl ?_
    refine g_bipush 110 21 (gd rfl) rfl rfl ?_
    refine g_cmp_eq 24 52 (gd rfl) rfl rfl (fun c21 => ?_) (fun c21 => ?_)
    · skip
      have i21 := r_eq1 110 110 c21 (inv_F hI (-2147483648) 2147483647 rfl e_109_30) (in_c 110 rfl) rfl
      refine g_iconst 0 53 (gd rfl) rfl rfl ?_
      refine g_istore_n 54 (gd rfl) rfl (Nat.le_of_ble_eq_true rfl) ?_
      refine g_iconst 1 55 (gd rfl) rfl rfl ?_
      refine g_istore 57 (gd rfl) rfl (Nat.le_of_ble_eq_true rfl) ?_
      have n57 : (u_109_27).toInt ≤ (u_109_22).toInt := by have a0 := oa10 ro_109_9 ((inv_F hI 0 9 rfl e_109_23)) ((inv_F hI 0 1000 rfl e_109_29)) i21 i15 ((inv_F hI 0 500 rfl e_109_32)) ((inv_F hI 0 1000 rfl e_109_22)) ((inv_F hI 0 1000 rfl e_109_27)) ((in_c 1 rfl)) ((in_c 0 rfl)); have oc := oc_304_109; omega
      have n57a : (u_109_27).toInt ≤ (u_109_27).toInt := by exact Int.le_refl _
      have n57b : 3 * (u_109_32).toInt + 1 + ((Int32.ofInt 0)).toInt ≤ (u_109_27).toInt := by have a0 := oa10 ro_109_9 ((inv_F hI 0 9 rfl e_109_23)) ((inv_F hI 0 1000 rfl e_109_29)) i21 i15 ((inv_F hI 0 500 rfl e_109_32)) ((inv_F hI 0 1000 rfl e_109_22)) ((inv_F hI 0 1000 rfl e_109_27)) ((in_c 1 rfl)) ((in_c 0 rfl)); have oc := oc_304_109; omega
      have n57c : ((Int32.ofInt 1)).toInt = 0 → (u_109_23).toInt = 0 → 3 * (u_109_32).toInt + 3 ≤ (u_109_27).toInt := by exact fun h => absurd h (by decide)
      have n57d : ((Int32.ofInt 1)).toInt ≠ 0 → 0 ≤ ((Int32.ofInt 0)).toInt := by have a0 := oa10 ro_109_9 ((inv_F hI 0 9 rfl e_109_23)) ((inv_F hI 0 1000 rfl e_109_29)) i21 i15 ((inv_F hI 0 500 rfl e_109_32)) ((inv_F hI 0 1000 rfl e_109_22)) ((inv_F hI 0 1000 rfl e_109_27)) ((in_c 1 rfl)) ((in_c 0 rfl)); have oc := oc_304_109; omega
      have n57e : (u_109_27).toInt + ((Int32.ofInt 0)).toInt ≤ (u_109_27).toInt := by have a0 := oa10 ro_109_9 ((inv_F hI 0 9 rfl e_109_23)) ((inv_F hI 0 1000 rfl e_109_29)) i21 i15 ((inv_F hI 0 500 rfl e_109_32)) ((inv_F hI 0 1000 rfl e_109_22)) ((inv_F hI 0 1000 rfl e_109_27)) ((in_c 1 rfl)) ((in_c 0 rfl)); have oc := oc_304_109; omega
      have n57f : ((Int32.ofInt 1)).toInt = 0 → (u_109_23).toInt = 0 → (u_109_27).toInt + 1 ≤ (u_109_27).toInt := by exact fun h => absurd h (by decide)
      have n57g : (s.2.2.1 109 23).toInt = 0 → LDQ s (s.2.2.1 109 32).toNatClampNeg := by exact fun _ => q_0
      have n57h : (s.2.2.1 109 23).toInt = 0 → ((u_109_30).toInt = 110 → 1 ≤ ((Int32.ofInt 0)).toInt → nq (s.1 128 (5 * (s.2.2.1 109 32).toNatClampNeg)) 0 25) ∧ ((u_109_30).toInt = 97 → 5 ≤ ((Int32.ofInt 0)).toInt → nq (s.1 128 (5 * (s.2.2.1 109 32).toNatClampNeg + 4)) 0 25) := by exact fun _ => ⟨fun _ b1 => (by exfalso; have h0 : (Int32.ofInt 0).toInt = 0 := rfl; omega), fun _ b1 => (by exfalso; have h0 : (Int32.ofInt 0).toInt = 0 := rfl; omega)⟩
      have n57i : ((Int32.ofInt 1)).toInt = 0 → (s.2.2.1 109 23).toInt = 0 → ((u_109_30).toInt = 110 → 1 ≤ ((Int32.ofInt 0)).toInt) ∧ ((u_109_30).toInt = 97 → 5 ≤ ((Int32.ofInt 0)).toInt) := by exact fun h => absurd h (by decide)
      have n57j : C4 (u_109_30).toInt ∧ (u_109_30) = s.2.2.1 109 30 ∧ (s.2.2.1 109 28).toInt = 1 ∧ (u_109_29) = s.2.2.1 109 29 := by exact ⟨(by unfold C4; have a0 := oa10 ro_109_9 ((inv_F hI 0 9 rfl e_109_23)) ((inv_F hI 0 1000 rfl e_109_29)) i21 i15 ((inv_F hI 0 500 rfl e_109_32)) ((inv_F hI 0 1000 rfl e_109_22)) ((inv_F hI 0 1000 rfl e_109_27)) ((in_c 1 rfl)) ((in_c 0 rfl)); have oc := oc_304_109; omega), e_109_30, by rw [← e_109_28]; have a0 := oa10 ro_109_9 ((inv_F hI 0 9 rfl e_109_23)) ((inv_F hI 0 1000 rfl e_109_29)) i21 i15 ((inv_F hI 0 500 rfl e_109_32)) ((inv_F hI 0 1000 rfl e_109_22)) ((inv_F hI 0 1000 rfl e_109_27)) ((in_c 1 rfl)) ((in_c 0 rfl)); have oc := oc_304_109; omega, e_109_29⟩
      have n57k : s.1 110 = s.1 110 ∧ s.1 112 = s.1 112 ∧ s.1 127 = s.1 127 ∧ (∀ j, j < 5 * (s.2.2.1 109 32).toNatClampNeg → s.1 128 j = s.1 128 j) ∧ s.2.2.1 109 32 = s.2.2.1 109 32 := by exact ⟨rfl, rfl, rfl, fun _ _ => rfl, rfl⟩
      have n57l : HQ5 s s ((u_109_30).toInt - 97) ((Int32.ofInt 0)) ((Int32.ofInt 1)) (u_109_27).toInt.toNat := by intro _ _; exact ⟨Int.natCast_nonneg _, fun a ha => by rw [e_109_27]; exact cst_0 ha⟩
      have n57m : HQ6 s s ((u_109_30).toInt - 97) ((Int32.ofInt 1)) (u_109_27).toInt.toNat := by intro _ h; exact absurd h (by decide)
      have n57n : HQ7 s s ((u_109_30).toInt - 97) := by intro h; exact absurd q_1 h
      have m57 : 100 - 10 * ((Int32.ofInt 0)).toInt + 5 * ((Int32.ofInt 1)).toInt + 9 - (u_109_23).toInt < ((130 : Nat) : Int) := by have a0 := oa10 ro_109_9 ((inv_F hI 0 9 rfl e_109_23)) ((inv_F hI 0 1000 rfl e_109_29)) i21 i15 ((inv_F hI 0 500 rfl e_109_32)) ((inv_F hI 0 1000 rfl e_109_22)) ((inv_F hI 0 1000 rfl e_109_27)) ((in_c 1 rfl)) ((in_c 0 rfl)); have oc := oc_304_109; omega
      exact gg_w (by first | exact Nat.le_of_ble_eq_true rfl | omega) (gg_f (gf_cons rfl (gf_cons rfl (gf_cons rfl (gf_cons rfl (gf_cons rfl gf_nil))))) (ct57 130 s u_109_29 u_109_30 (Int32.ofInt 0) (Int32.ofInt 1) u_109_27 u_109_23 u_109_32 hI fr_rf (in_w 0 1000 (inv_F hI 0 1000 rfl e_109_29) rfl) (in_w 97 119 i21 rfl) (in_w 0 5 (in_c 0 rfl) rfl) (in_w 0 1 (in_c 1 rfl) rfl) e_109_27 e_109_23 e_109_32 n57 n57a n57b n57c n57d n57e n57f n57g n57h n57i n57j n57k n57l n57m n57n m57))
    · skip
      refine g_iload_n 25 (gd rfl) rfl rfl ?_
      refine g_bipush 97 27 (gd rfl) rfl rfl ?_
      refine g_cmp_eq 30 52 (gd rfl) rfl rfl (fun c27 => ?_) (fun c27 => ?_)
      · skip
        have i27 := r_eq1 97 97 c27 (inv_F hI (-2147483648) 2147483647 rfl e_109_30) (in_c 97 rfl) rfl
        refine g_iconst 0 53 (gd rfl) rfl rfl ?_
        refine g_istore_n 54 (gd rfl) rfl (Nat.le_of_ble_eq_true rfl) ?_
        refine g_iconst 1 55 (gd rfl) rfl rfl ?_
        refine g_istore 57 (gd rfl) rfl (Nat.le_of_ble_eq_true rfl) ?_
        have n57 : (u_109_27).toInt ≤ (u_109_22).toInt := by have a0 := oa10 ro_109_9 ((inv_F hI 0 9 rfl e_109_23)) ((inv_F hI 0 1000 rfl e_109_29)) i27 i15 ((inv_F hI 0 500 rfl e_109_32)) ((inv_F hI 0 1000 rfl e_109_22)) ((inv_F hI 0 1000 rfl e_109_27)) ((in_c 1 rfl)) ((in_c 0 rfl)); have oc := oc_304_109; omega
        have n57a : (u_109_27).toInt ≤ (u_109_27).toInt := by exact Int.le_refl _
        have n57b : 3 * (u_109_32).toInt + 1 + ((Int32.ofInt 0)).toInt ≤ (u_109_27).toInt := by have a0 := oa10 ro_109_9 ((inv_F hI 0 9 rfl e_109_23)) ((inv_F hI 0 1000 rfl e_109_29)) i27 i15 ((inv_F hI 0 500 rfl e_109_32)) ((inv_F hI 0 1000 rfl e_109_22)) ((inv_F hI 0 1000 rfl e_109_27)) ((in_c 1 rfl)) ((in_c 0 rfl)); have oc := oc_304_109; omega
        have n57c : ((Int32.ofInt 1)).toInt = 0 → (u_109_23).toInt = 0 → 3 * (u_109_32).toInt + 3 ≤ (u_109_27).toInt := by exact fun h => absurd h (by decide)
        have n57d : ((Int32.ofInt 1)).toInt ≠ 0 → 0 ≤ ((Int32.ofInt 0)).toInt := by have a0 := oa10 ro_109_9 ((inv_F hI 0 9 rfl e_109_23)) ((inv_F hI 0 1000 rfl e_109_29)) i27 i15 ((inv_F hI 0 500 rfl e_109_32)) ((inv_F hI 0 1000 rfl e_109_22)) ((inv_F hI 0 1000 rfl e_109_27)) ((in_c 1 rfl)) ((in_c 0 rfl)); have oc := oc_304_109; omega
        have n57e : (u_109_27).toInt + ((Int32.ofInt 0)).toInt ≤ (u_109_27).toInt := by have a0 := oa10 ro_109_9 ((inv_F hI 0 9 rfl e_109_23)) ((inv_F hI 0 1000 rfl e_109_29)) i27 i15 ((inv_F hI 0 500 rfl e_109_32)) ((inv_F hI 0 1000 rfl e_109_22)) ((inv_F hI 0 1000 rfl e_109_27)) ((in_c 1 rfl)) ((in_c 0 rfl)); have oc := oc_304_109; omega
        have n57f : ((Int32.ofInt 1)).toInt = 0 → (u_109_23).toInt = 0 → (u_109_27).toInt + 1 ≤ (u_109_27).toInt := by exact fun h => absurd h (by decide)
        have n57g : (s.2.2.1 109 23).toInt = 0 → LDQ s (s.2.2.1 109 32).toNatClampNeg := by exact fun _ => q_0
        have n57h : (s.2.2.1 109 23).toInt = 0 → ((u_109_30).toInt = 110 → 1 ≤ ((Int32.ofInt 0)).toInt → nq (s.1 128 (5 * (s.2.2.1 109 32).toNatClampNeg)) 0 25) ∧ ((u_109_30).toInt = 97 → 5 ≤ ((Int32.ofInt 0)).toInt → nq (s.1 128 (5 * (s.2.2.1 109 32).toNatClampNeg + 4)) 0 25) := by exact fun _ => ⟨fun _ b1 => (by exfalso; have h0 : (Int32.ofInt 0).toInt = 0 := rfl; omega), fun _ b1 => (by exfalso; have h0 : (Int32.ofInt 0).toInt = 0 := rfl; omega)⟩
        have n57i : ((Int32.ofInt 1)).toInt = 0 → (s.2.2.1 109 23).toInt = 0 → ((u_109_30).toInt = 110 → 1 ≤ ((Int32.ofInt 0)).toInt) ∧ ((u_109_30).toInt = 97 → 5 ≤ ((Int32.ofInt 0)).toInt) := by exact fun h => absurd h (by decide)
        have n57j : C4 (u_109_30).toInt ∧ (u_109_30) = s.2.2.1 109 30 ∧ (s.2.2.1 109 28).toInt = 1 ∧ (u_109_29) = s.2.2.1 109 29 := by exact ⟨(by unfold C4; have a0 := oa10 ro_109_9 ((inv_F hI 0 9 rfl e_109_23)) ((inv_F hI 0 1000 rfl e_109_29)) i27 i15 ((inv_F hI 0 500 rfl e_109_32)) ((inv_F hI 0 1000 rfl e_109_22)) ((inv_F hI 0 1000 rfl e_109_27)) ((in_c 1 rfl)) ((in_c 0 rfl)); have oc := oc_304_109; omega), e_109_30, by rw [← e_109_28]; have a0 := oa10 ro_109_9 ((inv_F hI 0 9 rfl e_109_23)) ((inv_F hI 0 1000 rfl e_109_29)) i27 i15 ((inv_F hI 0 500 rfl e_109_32)) ((inv_F hI 0 1000 rfl e_109_22)) ((inv_F hI 0 1000 rfl e_109_27)) ((in_c 1 rfl)) ((in_c 0 rfl)); have oc := oc_304_109; omega, e_109_29⟩
        have n57k : s.1 110 = s.1 110 ∧ s.1 112 = s.1 112 ∧ s.1 127 = s.1 127 ∧ (∀ j, j < 5 * (s.2.2.1 109 32).toNatClampNeg → s.1 128 j = s.1 128 j) ∧ s.2.2.1 109 32 = s.2.2.1 109 32 := by exact ⟨rfl, rfl, rfl, fun _ _ => rfl, rfl⟩
        have n57l : HQ5 s s ((u_109_30).toInt - 97) ((Int32.ofInt 0)) ((Int32.ofInt 1)) (u_109_27).toInt.toNat := by intro _ _; exact ⟨Int.natCast_nonneg _, fun a ha => by rw [e_109_27]; exact cst_0 ha⟩
        have n57m : HQ6 s s ((u_109_30).toInt - 97) ((Int32.ofInt 1)) (u_109_27).toInt.toNat := by intro _ h; exact absurd h (by decide)
        have n57n : HQ7 s s ((u_109_30).toInt - 97) := by intro h; exact absurd q_1 h
        have m57 : 100 - 10 * ((Int32.ofInt 0)).toInt + 5 * ((Int32.ofInt 1)).toInt + 9 - (u_109_23).toInt < ((130 : Nat) : Int) := by have a0 := oa10 ro_109_9 ((inv_F hI 0 9 rfl e_109_23)) ((inv_F hI 0 1000 rfl e_109_29)) i27 i15 ((inv_F hI 0 500 rfl e_109_32)) ((inv_F hI 0 1000 rfl e_109_22)) ((inv_F hI 0 1000 rfl e_109_27)) ((in_c 1 rfl)) ((in_c 0 rfl)); have oc := oc_304_109; omega
        exact gg_w (by first | exact Nat.le_of_ble_eq_true rfl | omega) (gg_f (gf_cons rfl (gf_cons rfl (gf_cons rfl (gf_cons rfl (gf_cons rfl gf_nil))))) (ct57 130 s u_109_29 u_109_30 (Int32.ofInt 0) (Int32.ofInt 1) u_109_27 u_109_23 u_109_32 hI fr_rf (in_w 0 1000 (inv_F hI 0 1000 rfl e_109_29) rfl) (in_w 97 119 i27 rfl) (in_w 0 5 (in_c 0 rfl) rfl) (in_w 0 1 (in_c 1 rfl) rfl) e_109_27 e_109_23 e_109_32 n57 n57a n57b n57c n57d n57e n57f n57g n57h n57i n57j n57k n57l n57m n57n m57))
      · skip
        refine g_iload_n 31 (gd rfl) rfl rfl ?_
        refine g_bipush 116 33 (gd rfl) rfl rfl ?_
        refine g_cmp_eq 36 52 (gd rfl) rfl rfl (fun c33 => ?_) (fun c33 => ?_)
        · skip
          have i33 := r_eq1 116 116 c33 (inv_F hI (-2147483648) 2147483647 rfl e_109_30) (in_c 116 rfl) rfl
          refine g_iconst 0 53 (gd rfl) rfl rfl ?_
          refine g_istore_n 54 (gd rfl) rfl (Nat.le_of_ble_eq_true rfl) ?_
          refine g_iconst 1 55 (gd rfl) rfl rfl ?_
          refine g_istore 57 (gd rfl) rfl (Nat.le_of_ble_eq_true rfl) ?_
          have n57 : (u_109_27).toInt ≤ (u_109_22).toInt := by have a0 := oa10 ro_109_9 ((inv_F hI 0 9 rfl e_109_23)) ((inv_F hI 0 1000 rfl e_109_29)) i33 i15 ((inv_F hI 0 500 rfl e_109_32)) ((inv_F hI 0 1000 rfl e_109_22)) ((inv_F hI 0 1000 rfl e_109_27)) ((in_c 1 rfl)) ((in_c 0 rfl)); have oc := oc_304_109; omega
          have n57a : (u_109_27).toInt ≤ (u_109_27).toInt := by exact Int.le_refl _
          have n57b : 3 * (u_109_32).toInt + 1 + ((Int32.ofInt 0)).toInt ≤ (u_109_27).toInt := by have a0 := oa10 ro_109_9 ((inv_F hI 0 9 rfl e_109_23)) ((inv_F hI 0 1000 rfl e_109_29)) i33 i15 ((inv_F hI 0 500 rfl e_109_32)) ((inv_F hI 0 1000 rfl e_109_22)) ((inv_F hI 0 1000 rfl e_109_27)) ((in_c 1 rfl)) ((in_c 0 rfl)); have oc := oc_304_109; omega
          have n57c : ((Int32.ofInt 1)).toInt = 0 → (u_109_23).toInt = 0 → 3 * (u_109_32).toInt + 3 ≤ (u_109_27).toInt := by exact fun h => absurd h (by decide)
          have n57d : ((Int32.ofInt 1)).toInt ≠ 0 → 0 ≤ ((Int32.ofInt 0)).toInt := by have a0 := oa10 ro_109_9 ((inv_F hI 0 9 rfl e_109_23)) ((inv_F hI 0 1000 rfl e_109_29)) i33 i15 ((inv_F hI 0 500 rfl e_109_32)) ((inv_F hI 0 1000 rfl e_109_22)) ((inv_F hI 0 1000 rfl e_109_27)) ((in_c 1 rfl)) ((in_c 0 rfl)); have oc := oc_304_109; omega
          have n57e : (u_109_27).toInt + ((Int32.ofInt 0)).toInt ≤ (u_109_27).toInt := by have a0 := oa10 ro_109_9 ((inv_F hI 0 9 rfl e_109_23)) ((inv_F hI 0 1000 rfl e_109_29)) i33 i15 ((inv_F hI 0 500 rfl e_109_32)) ((inv_F hI 0 1000 rfl e_109_22)) ((inv_F hI 0 1000 rfl e_109_27)) ((in_c 1 rfl)) ((in_c 0 rfl)); have oc := oc_304_109; omega
          have n57f : ((Int32.ofInt 1)).toInt = 0 → (u_109_23).toInt = 0 → (u_109_27).toInt + 1 ≤ (u_109_27).toInt := by exact fun h => absurd h (by decide)
          have n57g : (s.2.2.1 109 23).toInt = 0 → LDQ s (s.2.2.1 109 32).toNatClampNeg := by exact fun _ => q_0
          have n57h : (s.2.2.1 109 23).toInt = 0 → ((u_109_30).toInt = 110 → 1 ≤ ((Int32.ofInt 0)).toInt → nq (s.1 128 (5 * (s.2.2.1 109 32).toNatClampNeg)) 0 25) ∧ ((u_109_30).toInt = 97 → 5 ≤ ((Int32.ofInt 0)).toInt → nq (s.1 128 (5 * (s.2.2.1 109 32).toNatClampNeg + 4)) 0 25) := by exact fun _ => ⟨fun _ b1 => (by exfalso; have h0 : (Int32.ofInt 0).toInt = 0 := rfl; omega), fun _ b1 => (by exfalso; have h0 : (Int32.ofInt 0).toInt = 0 := rfl; omega)⟩
          have n57i : ((Int32.ofInt 1)).toInt = 0 → (s.2.2.1 109 23).toInt = 0 → ((u_109_30).toInt = 110 → 1 ≤ ((Int32.ofInt 0)).toInt) ∧ ((u_109_30).toInt = 97 → 5 ≤ ((Int32.ofInt 0)).toInt) := by exact fun h => absurd h (by decide)
          have n57j : C4 (u_109_30).toInt ∧ (u_109_30) = s.2.2.1 109 30 ∧ (s.2.2.1 109 28).toInt = 1 ∧ (u_109_29) = s.2.2.1 109 29 := by exact ⟨(by unfold C4; have a0 := oa10 ro_109_9 ((inv_F hI 0 9 rfl e_109_23)) ((inv_F hI 0 1000 rfl e_109_29)) i33 i15 ((inv_F hI 0 500 rfl e_109_32)) ((inv_F hI 0 1000 rfl e_109_22)) ((inv_F hI 0 1000 rfl e_109_27)) ((in_c 1 rfl)) ((in_c 0 rfl)); have oc := oc_304_109; omega), e_109_30, by rw [← e_109_28]; have a0 := oa10 ro_109_9 ((inv_F hI 0 9 rfl e_109_23)) ((inv_F hI 0 1000 rfl e_109_29)) i33 i15 ((inv_F hI 0 500 rfl e_109_32)) ((inv_F hI 0 1000 rfl e_109_22)) ((inv_F hI 0 1000 rfl e_109_27)) ((in_c 1 rfl)) ((in_c 0 rfl)); have oc := oc_304_109; omega, e_109_29⟩
          have n57k : s.1 110 = s.1 110 ∧ s.1 112 = s.1 112 ∧ s.1 127 = s.1 127 ∧ (∀ j, j < 5 * (s.2.2.1 109 32).toNatClampNeg → s.1 128 j = s.1 128 j) ∧ s.2.2.1 109 32 = s.2.2.1 109 32 := by exact ⟨rfl, rfl, rfl, fun _ _ => rfl, rfl⟩
          have n57l : HQ5 s s ((u_109_30).toInt - 97) ((Int32.ofInt 0)) ((Int32.ofInt 1)) (u_109_27).toInt.toNat := by intro _ _; exact ⟨Int.natCast_nonneg _, fun a ha => by rw [e_109_27]; exact cst_0 ha⟩
          have n57m : HQ6 s s ((u_109_30).toInt - 97) ((Int32.ofInt 1)) (u_109_27).toInt.toNat := by intro _ h; exact absurd h (by decide)
          have n57n : HQ7 s s ((u_109_30).toInt - 97) := by intro h; exact absurd q_1 h
          have m57 : 100 - 10 * ((Int32.ofInt 0)).toInt + 5 * ((Int32.ofInt 1)).toInt + 9 - (u_109_23).toInt < ((130 : Nat) : Int) := by have a0 := oa10 ro_109_9 ((inv_F hI 0 9 rfl e_109_23)) ((inv_F hI 0 1000 rfl e_109_29)) i33 i15 ((inv_F hI 0 500 rfl e_109_32)) ((inv_F hI 0 1000 rfl e_109_22)) ((inv_F hI 0 1000 rfl e_109_27)) ((in_c 1 rfl)) ((in_c 0 rfl)); have oc := oc_304_109; omega
          exact gg_w (by first | exact Nat.le_of_ble_eq_true rfl | omega) (gg_f (gf_cons rfl (gf_cons rfl (gf_cons rfl (gf_cons rfl (gf_cons rfl gf_nil))))) (ct57 130 s u_109_29 u_109_30 (Int32.ofInt 0) (Int32.ofInt 1) u_109_27 u_109_23 u_109_32 hI fr_rf (in_w 0 1000 (inv_F hI 0 1000 rfl e_109_29) rfl) (in_w 97 119 i33 rfl) (in_w 0 5 (in_c 0 rfl) rfl) (in_w 0 1 (in_c 1 rfl) rfl) e_109_27 e_109_23 e_109_32 n57 n57a n57b n57c n57d n57e n57f n57g n57h n57i n57j n57k n57l n57m n57n m57))
        · skip
          refine g_iload_n 37 (gd rfl) rfl rfl ?_
          refine g_bipush 119 39 (gd rfl) rfl rfl ?_
          refine g_cmp_eq 42 52 (gd rfl) rfl rfl (fun c39 => ?_) (fun c39 => ?_)
          · skip
            have i39 := r_eq1 119 119 c39 (inv_F hI (-2147483648) 2147483647 rfl e_109_30) (in_c 119 rfl) rfl
            refine g_iconst 0 53 (gd rfl) rfl rfl ?_
            refine g_istore_n 54 (gd rfl) rfl (Nat.le_of_ble_eq_true rfl) ?_
            refine g_iconst 1 55 (gd rfl) rfl rfl ?_
            refine g_istore 57 (gd rfl) rfl (Nat.le_of_ble_eq_true rfl) ?_
            have n57 : (u_109_27).toInt ≤ (u_109_22).toInt := by have a0 := oa10 ro_109_9 ((inv_F hI 0 9 rfl e_109_23)) ((inv_F hI 0 1000 rfl e_109_29)) i39 i15 ((inv_F hI 0 500 rfl e_109_32)) ((inv_F hI 0 1000 rfl e_109_22)) ((inv_F hI 0 1000 rfl e_109_27)) ((in_c 1 rfl)) ((in_c 0 rfl)); have oc := oc_304_109; omega
            have n57a : (u_109_27).toInt ≤ (u_109_27).toInt := by exact Int.le_refl _
            have n57b : 3 * (u_109_32).toInt + 1 + ((Int32.ofInt 0)).toInt ≤ (u_109_27).toInt := by have a0 := oa10 ro_109_9 ((inv_F hI 0 9 rfl e_109_23)) ((inv_F hI 0 1000 rfl e_109_29)) i39 i15 ((inv_F hI 0 500 rfl e_109_32)) ((inv_F hI 0 1000 rfl e_109_22)) ((inv_F hI 0 1000 rfl e_109_27)) ((in_c 1 rfl)) ((in_c 0 rfl)); have oc := oc_304_109; omega
            have n57c : ((Int32.ofInt 1)).toInt = 0 → (u_109_23).toInt = 0 → 3 * (u_109_32).toInt + 3 ≤ (u_109_27).toInt := by exact fun h => absurd h (by decide)
            have n57d : ((Int32.ofInt 1)).toInt ≠ 0 → 0 ≤ ((Int32.ofInt 0)).toInt := by have a0 := oa10 ro_109_9 ((inv_F hI 0 9 rfl e_109_23)) ((inv_F hI 0 1000 rfl e_109_29)) i39 i15 ((inv_F hI 0 500 rfl e_109_32)) ((inv_F hI 0 1000 rfl e_109_22)) ((inv_F hI 0 1000 rfl e_109_27)) ((in_c 1 rfl)) ((in_c 0 rfl)); have oc := oc_304_109; omega
            have n57e : (u_109_27).toInt + ((Int32.ofInt 0)).toInt ≤ (u_109_27).toInt := by have a0 := oa10 ro_109_9 ((inv_F hI 0 9 rfl e_109_23)) ((inv_F hI 0 1000 rfl e_109_29)) i39 i15 ((inv_F hI 0 500 rfl e_109_32)) ((inv_F hI 0 1000 rfl e_109_22)) ((inv_F hI 0 1000 rfl e_109_27)) ((in_c 1 rfl)) ((in_c 0 rfl)); have oc := oc_304_109; omega
            have n57f : ((Int32.ofInt 1)).toInt = 0 → (u_109_23).toInt = 0 → (u_109_27).toInt + 1 ≤ (u_109_27).toInt := by exact fun h => absurd h (by decide)
            have n57g : (s.2.2.1 109 23).toInt = 0 → LDQ s (s.2.2.1 109 32).toNatClampNeg := by exact fun _ => q_0
            have n57h : (s.2.2.1 109 23).toInt = 0 → ((u_109_30).toInt = 110 → 1 ≤ ((Int32.ofInt 0)).toInt → nq (s.1 128 (5 * (s.2.2.1 109 32).toNatClampNeg)) 0 25) ∧ ((u_109_30).toInt = 97 → 5 ≤ ((Int32.ofInt 0)).toInt → nq (s.1 128 (5 * (s.2.2.1 109 32).toNatClampNeg + 4)) 0 25) := by exact fun _ => ⟨fun _ b1 => (by exfalso; have h0 : (Int32.ofInt 0).toInt = 0 := rfl; omega), fun _ b1 => (by exfalso; have h0 : (Int32.ofInt 0).toInt = 0 := rfl; omega)⟩
            have n57i : ((Int32.ofInt 1)).toInt = 0 → (s.2.2.1 109 23).toInt = 0 → ((u_109_30).toInt = 110 → 1 ≤ ((Int32.ofInt 0)).toInt) ∧ ((u_109_30).toInt = 97 → 5 ≤ ((Int32.ofInt 0)).toInt) := by exact fun h => absurd h (by decide)
            have n57j : C4 (u_109_30).toInt ∧ (u_109_30) = s.2.2.1 109 30 ∧ (s.2.2.1 109 28).toInt = 1 ∧ (u_109_29) = s.2.2.1 109 29 := by exact ⟨(by unfold C4; have a0 := oa10 ro_109_9 ((inv_F hI 0 9 rfl e_109_23)) ((inv_F hI 0 1000 rfl e_109_29)) i39 i15 ((inv_F hI 0 500 rfl e_109_32)) ((inv_F hI 0 1000 rfl e_109_22)) ((inv_F hI 0 1000 rfl e_109_27)) ((in_c 1 rfl)) ((in_c 0 rfl)); have oc := oc_304_109; omega), e_109_30, by rw [← e_109_28]; have a0 := oa10 ro_109_9 ((inv_F hI 0 9 rfl e_109_23)) ((inv_F hI 0 1000 rfl e_109_29)) i39 i15 ((inv_F hI 0 500 rfl e_109_32)) ((inv_F hI 0 1000 rfl e_109_22)) ((inv_F hI 0 1000 rfl e_109_27)) ((in_c 1 rfl)) ((in_c 0 rfl)); have oc := oc_304_109; omega, e_109_29⟩
            have n57k : s.1 110 = s.1 110 ∧ s.1 112 = s.1 112 ∧ s.1 127 = s.1 127 ∧ (∀ j, j < 5 * (s.2.2.1 109 32).toNatClampNeg → s.1 128 j = s.1 128 j) ∧ s.2.2.1 109 32 = s.2.2.1 109 32 := by exact ⟨rfl, rfl, rfl, fun _ _ => rfl, rfl⟩
            have n57l : HQ5 s s ((u_109_30).toInt - 97) ((Int32.ofInt 0)) ((Int32.ofInt 1)) (u_109_27).toInt.toNat := by intro _ _; exact ⟨Int.natCast_nonneg _, fun a ha => by rw [e_109_27]; exact cst_0 ha⟩
            have n57m : HQ6 s s ((u_109_30).toInt - 97) ((Int32.ofInt 1)) (u_109_27).toInt.toNat := by intro _ h; exact absurd h (by decide)
            have n57n : HQ7 s s ((u_109_30).toInt - 97) := by intro h; exact absurd q_1 h
            have m57 : 100 - 10 * ((Int32.ofInt 0)).toInt + 5 * ((Int32.ofInt 1)).toInt + 9 - (u_109_23).toInt < ((130 : Nat) : Int) := by have a0 := oa10 ro_109_9 ((inv_F hI 0 9 rfl e_109_23)) ((inv_F hI 0 1000 rfl e_109_29)) i39 i15 ((inv_F hI 0 500 rfl e_109_32)) ((inv_F hI 0 1000 rfl e_109_22)) ((inv_F hI 0 1000 rfl e_109_27)) ((in_c 1 rfl)) ((in_c 0 rfl)); have oc := oc_304_109; omega
            exact gg_w (by first | exact Nat.le_of_ble_eq_true rfl | omega) (gg_f (gf_cons rfl (gf_cons rfl (gf_cons rfl (gf_cons rfl (gf_cons rfl gf_nil))))) (ct57 130 s u_109_29 u_109_30 (Int32.ofInt 0) (Int32.ofInt 1) u_109_27 u_109_23 u_109_32 hI fr_rf (in_w 0 1000 (inv_F hI 0 1000 rfl e_109_29) rfl) (in_w 97 119 i39 rfl) (in_w 0 5 (in_c 0 rfl) rfl) (in_w 0 1 (in_c 1 rfl) rfl) e_109_27 e_109_23 e_109_32 n57 n57a n57b n57c n57d n57e n57f n57g n57h n57i n57j n57k n57l n57m n57n m57))
          · skip
            refine g_aload_n 43 (gd rfl) rfl rfl ?_
            refine g_iconst 2 44 (gd rfl) rfl rfl ?_
            refine g_aload_n 45 (gd rfl) rfl rfl ?_
            refine g_getI 48 (gd rfl) rfl rfl rfl (fun z45 e45 => ?_)
            have q45 : u_109_29 = z45 := (e_109_29).trans e45.symm
            subst q45
            refine g_callv (X := _) (As := [.int (Int32.ofInt 2), .int u_109_29]) (r := []) (b := A 109) (q := 109) 51 (gd rfl) rfl rfl rfl rfl rfl (ww_o rfl) (Nat.le_of_ble_eq_true rfl) (Nat.zero_le _) (Nat.zero_le _) (f_298 (by first | exact dq1 hd rfl | exact dq0 hd rfl | exact dq2 hd rfl | exact dq3 hd rfl | omega) hI (in_w 1 5 (in_c 2 rfl) rfl) e_109_23) (fun e u h => h) (fun v u h => ?_)
            obtain ⟨s48, hI48, hF48, n48, rfl, rfl, p48⟩ := h
            obtain ⟨z48a, e48⟩ : ∃ w, w = s48.2.2.1 109 23 := ⟨_, rfl⟩
            have i48a := inv_F hI48 0 9 rfl e48
            rw [← (show z48a = s48.2.2.1 109 23 from e48)] at n48
            show GG _ _ _ _ _ _ _ _ [] _ _ _
            have n51 : (s48.2.2.1 109 23).toInt = 0 → LDQ s48 (s48.2.2.1 109 32).toNatClampNeg := by (intro hf; exfalso; have hg : (s48.2.2.1 109 23).toInt = 0 := hf; rw [← e48] at hg; have hn := n48; omega)
            have n51a : RCM s s48 := by exact rcm_48 (by first | exact p48 | (rw [← e_109_29]; exact p48)) q_1 (by rw [← e_109_29]; have a0 := oa8 ro_109_9 ((inv_F hI 0 9 rfl e_109_23)) ((inv_F hI 0 1000 rfl e_109_29)) i15 ((inv_F hI 0 500 rfl e_109_32)) ((inv_F hI 0 1000 rfl e_109_22)) ((inv_F hI 0 1000 rfl e_109_27)) i48a; have oc := oc_304_109; omega) (by rw [← e_109_28, ← e_109_30]; unfold C4; have a0 := oa8 ro_109_9 ((inv_F hI 0 9 rfl e_109_23)) ((inv_F hI 0 1000 rfl e_109_29)) i15 ((inv_F hI 0 500 rfl e_109_32)) ((inv_F hI 0 1000 rfl e_109_22)) ((inv_F hI 0 1000 rfl e_109_27)) i48a; have oc := oc_304_109; omega)
            have n51b : G0S s s48 := by exact g0_cg (hF48.1 110 rfl) (hF48.1 112 rfl)
            have n51c : G12 s s48 := by exact g12_cg (hF48.1 110 rfl) (hF48.1 112 rfl)
            have n51d : (u_109_27).toInt ≤ (u_109_22).toInt := by have a0 := oa8 ro_109_9 ((inv_F hI 0 9 rfl e_109_23)) ((inv_F hI 0 1000 rfl e_109_29)) i15 ((inv_F hI 0 500 rfl e_109_32)) ((inv_F hI 0 1000 rfl e_109_22)) ((inv_F hI 0 1000 rfl e_109_27)) i48a; have oc := oc_304_109; omega
            have n51e : (s48.2.2.1 109 27).toInt ≤ (s48.2.2.1 109 22).toInt := by have b0 : u_109_27 = s48.2.2.1 109 27 := fr_F (e_109_27) hF48 rfl; have b1 : u_109_22 = s48.2.2.1 109 22 := fr_F (e_109_22) hF48 rfl; rw [← b0, ← b1]; exact n51d
            have n51f : (u_109_27).toInt ≤ (u_109_27).toInt := by exact Int.le_refl _
            have n51g : (s.2.2.1 109 27).toInt ≤ (s48.2.2.1 109 27).toInt := by have b0 : u_109_27 = s48.2.2.1 109 27 := fr_F (e_109_27) hF48 rfl; first | (rw [← b0, ← e_109_27]; exact n51f) | (rw [← b0]; exact n51f)
            have n51h : (z48a).toInt = 0 → 3 * (u_109_32).toInt ≤ (u_109_27).toInt := by have a0 := oa8 ro_109_9 ((inv_F hI 0 9 rfl e_109_23)) ((inv_F hI 0 1000 rfl e_109_29)) i15 ((inv_F hI 0 500 rfl e_109_32)) ((inv_F hI 0 1000 rfl e_109_22)) ((inv_F hI 0 1000 rfl e_109_27)) i48a; have oc := oc_304_109; omega
            have n51i : (s48.2.2.1 109 23).toInt = 0 → 3 * (s48.2.2.1 109 32).toInt ≤ (s48.2.2.1 109 27).toInt := by have b0 : z48a = s48.2.2.1 109 23 := e48; have b1 : u_109_32 = s48.2.2.1 109 32 := fr_F (e_109_32) hF48 rfl; have b2 : u_109_27 = s48.2.2.1 109 27 := fr_F (e_109_27) hF48 rfl; rw [← b0, ← b1, ← b2]; exact n51h
            have n51j : (z48a).toInt = 0 → (u_109_27).toInt + 1 ≤ (u_109_27).toInt := by have a0 := oa8 ro_109_9 ((inv_F hI 0 9 rfl e_109_23)) ((inv_F hI 0 1000 rfl e_109_29)) i15 ((inv_F hI 0 500 rfl e_109_32)) ((inv_F hI 0 1000 rfl e_109_22)) ((inv_F hI 0 1000 rfl e_109_27)) i48a; have oc := oc_304_109; omega
            have n51k : (s48.2.2.1 109 23).toInt = 0 → (s.2.2.1 109 27).toInt + 1 ≤ (s48.2.2.1 109 27).toInt := by have b0 : z48a = s48.2.2.1 109 23 := e48; have b1 : u_109_27 = s48.2.2.1 109 27 := fr_F (e_109_27) hF48 rfl; first | (rw [← b0, ← b1, ← e_109_27]; exact n51j) | (rw [← b0, ← b1]; exact n51j)
            have n51l : (z48a).toInt = 0 → (u_109_9).toInt + (u_109_32).toInt ≤ 4000 := by have a0 := oa8 ro_109_9 ((inv_F hI 0 9 rfl e_109_23)) ((inv_F hI 0 1000 rfl e_109_29)) i15 ((inv_F hI 0 500 rfl e_109_32)) ((inv_F hI 0 1000 rfl e_109_22)) ((inv_F hI 0 1000 rfl e_109_27)) i48a; have oc := oc_304_109; omega
            have n51m : (s48.2.2.1 109 23).toInt = 0 → (s48.2.2.1 109 9).toInt + (s48.2.2.1 109 32).toInt ≤ 4000 := by have b0 : z48a = s48.2.2.1 109 23 := e48; have b1 : u_109_9 = s48.2.2.1 109 9 := fr_F (e_109_9) hF48 rfl; have b2 : u_109_32 = s48.2.2.1 109 32 := fr_F (e_109_32) hF48 rfl; rw [← b0, ← b1, ← b2]; exact n51l
            exact g_return (gd rfl) rfl (hP _ _ ⟨s48, hI48, (fr_tr rfl fr_rf hF48), n51e, n51g, n51i, n51k, n51m, rfl, rfl, n51, n51a, n51b, n51c⟩)
end
